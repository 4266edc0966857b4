/-! ===== other vowels: all that the class does goes with them ===== -/
theorem sg_inj {a b : Nat} (h : sg a = sg b) : a = b := by
  unfold sg at h
  repeat' split at h
  all_goals omega
theorem sg_iff {c k : Nat} (hk : sg k = k) : sg c = k ↔ c = k := ⟨fun h => sg_inj (h.trans hk.symm), fun h => by rw [h, hk]⟩
theorem sg_sml (c : Nat) : sml (sg c) = sml c := by
  have e : (97 ≤ sg c ∧ sg c ≤ 122) ↔ (97 ≤ c ∧ c ≤ 122) := by
    unfold sg
    repeat' split
    all_goals omega
  unfold sml
  exact decide_eq_decide.mpr e
theorem sg_vow (c : Nat) : vow (sg c) = vow c := by
  unfold sg
  repeat' split
  all_goals first | rfl | (subst_vars; rfl)
abbrev mWs : List Nat → List Nat := List.map sg
theorem mW_inj : ∀ {w v : List Nat}, mWs w = mWs v → w = v
  | [], [], _ => rfl
  | [], _ :: _, h => nomatch h
  | _ :: _, [], h => nomatch h
  | a :: w, b :: v, h => by
    have h' : sg a :: mWs w = sg b :: mWs v := h
    rw [List.cons.injEq] at h'
    rw [sg_inj h'.1, mW_inj h'.2]
theorem mW_iff {w v : List Nat} : mWs w = mWs v ↔ w = v := ⟨mW_inj, congrArg _⟩
theorem mW_get {w : List Nat} {j : Nat} : (mWs w).getD j 0 = sg (w.getD j 0) := by
  rw [List.getD_eq_getElem?_getD, List.getElem?_map, List.getD_eq_getElem?_getD]
  cases w[j]? <;> rfl
theorem mL_get {ws : List (List Nat)} {i : Nat} : (ws.map mWs).getD i [] = mWs (ws.getD i []) := by
  rw [List.getD_eq_getElem?_getD, List.getElem?_map, List.getD_eq_getElem?_getD]
  cases ws[i]? <;> rfl
theorem eW_m {e w : List Nat} : eW (mWs e) (mWs w) = eW e w := by
  unfold eW
  simp only [List.length_map, mW_get]
  exact decide_eq_decide.mpr (and_congr Iff.rfl (forall_congr' fun j => imp_congr Iff.rfl ⟨sg_inj, congrArg sg⟩))
theorem mC_m {c : Int32} {e w : List Nat} : mC c (mWs e) (mWs w) = mC c e w := by
  unfold mC
  simp only [List.length_map, mW_get, sg_vow]
abbrev mDl (v : Dl_) : Dl_ := (v.1.map mWs, v.2.1.map mWs, v.2.2)
theorem fitD_m {v : Dl_} {d : Nat} {w : List Nat} : fitD (mDl v) d (mWs w) = fitD v d w := by
  unfold fitD
  simp only [mL_get, eW_m, mC_m]
theorem chG_m {v : Dl_} {w : List Nat} {k : Nat} : chG (mDl v) (mWs w) k = chG v w k := by
  induction k with
  | zero => rfl
  | succ k ih => simp only [chG, ih, fitD_m, mL_get, List.length_map]
theorem chD_m {v : Dl_} {w : List Nat} : chD (mDl v) (mWs w) = chD v w := by
  unfold chD
  rw [chG_m, List.length_map]
theorem prD_m {v : Dl_} {d : Nat} {w : List Nat} : prD (mDl v) d (mWs w) = mWs (prD v d w) := by
  unfold prD
  simp only [mL_get, List.length_map, List.map_append, List.map_take]
theorem rvD_m {v : Dl_} {d : Nat} {w : List Nat} : rvD (mDl v) d (mWs w) = mWs (rvD v d w) := by
  unfold rvD
  simp only [mL_get, List.length_map, List.map_append, List.map_take]
abbrev mYh (y : List Nat × Nat × Nat) : List Nat × Nat × Nat := (mWs y.1, y.2.1, y.2.2)
abbrev mHn (v : Hn_) : Hn_ := v.map mYh
theorem hx_m {v : Hn_} {i : Nat} : hx (mHn v) i = mYh (hx v i) := by
  unfold hx
  rw [List.getD_eq_getElem?_getD, List.getElem?_map, List.getD_eq_getElem?_getD]
  cases v[i]? <;> rfl
abbrev mS (x : Sn_) : Sn_ := (x.1.map mWs, x.2.1.map mWs, x.2.2.1.map mWs, mDl x.2.2.2.1, mHn x.2.2.2.2.1, x.2.2.2.2.2.1, x.2.2.2.2.2.2)
theorem fst_congr {P P' : Nat → Bool} {n n' : Nat} (hn : n = n') (h : ∀ i, P i = P' i) : fst P n = fst P' n' := by
  rw [hn, show P = P' from funext h]
theorem mf_get {ws : List (List Nat)} {w : List Nat} : fst (fun i => decide ((ws.map mWs).getD i [] = mWs w)) (ws.map mWs).length = fst (fun i => decide (ws.getD i [] = w)) ws.length :=
  fst_congr (List.length_map ..) (fun i => by rw [mL_get]; exact decide_eq_decide.mpr mW_iff)
theorem plS_m {x : Sn_} {w : List Nat} : plS (mS x) (mWs w) = mWs (plS x w) := by
  unfold plS
  rw [show fst (fun i => decide ((mS x).2.1.getD i [] = mWs w)) (mS x).2.1.length = fst (fun i => decide (x.2.1.getD i [] = w)) x.2.1.length from mf_get]
  cases fst (fun i => decide (x.2.1.getD i [] = w)) x.2.1.length with
  | some i => exact mL_get
  | none =>
    show prD (mDl x.2.2.2.1) (chD (mDl x.2.2.2.1) (mWs w)) (mWs w) = _
    rw [chD_m, prD_m]
theorem plN_m {x : Sn_} {n : Nat} : plN (mS x) n = mWs (plN x n) := by
  unfold plN
  rw [show (mS x).1.getD n [] = mWs (x.1.getD n []) from mL_get, plS_m]
theorem hpF_m {x : Sn_} {n : Nat} : hpF (mS x) n = hpF x n := by
  unfold hpF
  refine fst_congr (List.length_map ..) (fun i => ?_)
  rw [show hx (mS x).2.2.2.2.1 i = mYh (hx x.2.2.2.2.1 i) from hx_m, plN_m]
  exact decide_eq_decide.mpr (and_congr Iff.rfl mW_iff)
theorem hset_m {v : Hn_} {i c : Nat} : hset (mHn v) i c = mHn (hset v i c) := by
  show (mHn v).set i ((hx (mHn v) i).1, (hx (mHn v) i).2.1, c) = (v.set i ((hx v i).1, (hx v i).2.1, c)).map mYh
  rw [hx_m, List.map_set]
theorem stkS_m {x : Sn_} {n m : Nat} : stkS (mS x) n m = (stkS x n m).map mS := by
  unfold stkS
  rw [hpF_m]
  cases e : hpF x n with
  | some i =>
    show some _ = some _
    rw [show hx (mS x).2.2.2.2.1 i = mYh (hx x.2.2.2.2.1 i) from hx_m]
    congr 1
    show (_, _, _, _, hset (mHn x.2.2.2.2.1) i _, _) = mS _
    rw [hset_m]
  | none =>
    dsimp only
    rw [show (mHn x.2.2.2.2.1).length = x.2.2.2.2.1.length from List.length_map ..]
    split
    · rw [plN_m]
      simp only [Option.map_some, mS, mDl, mHn, mYh, List.map_append, List.map_cons, List.map_nil]
    · rfl
theorem cW_m {n : Nat} {v : Hn_} : cW n (mHn v) = cW n v := by
  induction v with
  | nil => rfl
  | cons x t ih =>
    show (if x.2.1 = n then x.2.2 else 0) + cW n (mHn t) = _
    rw [ih]
    rfl
theorem sumH_m {v : Hn_} : sumH (mHn v) = sumH v := by
  unfold sumH
  rw [List.map_map]
  rfl
theorem tkO_m {n : Nat} {v : Hn_} : ∀ m, tkO n m (mHn v) = mHn (tkO n m v) := by
  induction v with
  | nil => intro m; rfl
  | cons x t ih =>
    intro m
    show (if x.2.1 = n then _ :: tkO n _ (mHn t) else _ :: tkO n m (mHn t)) = mHn (if x.2.1 = n then _ else _)
    rw [ih, ih]
    split <;> rfl
theorem nz_m {v : Hn_} : (mHn v).filter nzH = mHn (v.filter nzH) := by
  unfold mHn
  rw [List.filter_map]
  rfl
theorem stl_m {x : Sn_} {y : List Nat × Nat × Nat} : stl (mS x) (mYh y) = stl x y := by
  unfold stl
  rw [plN_m]
  exact congrArg _ (decide_eq_decide.mpr mW_iff)
theorem stZ_m {x : Sn_} {y : List Nat × Nat × Nat} : stZ (mS x) (mYh y) = mYh (stZ x y) := by
  unfold stZ
  rw [stl_m]
  split <;> rfl
theorem stF_m {x : Sn_} {v : Hn_} : (mHn v).filter (stl (mS x)) = mHn (v.filter (stl x)) := by
  unfold mHn
  rw [List.filter_map, show stl (mS x) ∘ mYh = stl x from funext (fun y => stl_m)]
theorem mzS_m {x : Sn_} : mzS (mS x) = mS (mzS x) := by
  unfold mzS
  have e1 : (mS x).2.2.2.2.1.map (stZ (mS x)) = mHn (x.2.2.2.2.1.map (stZ x)) := by
    show (x.2.2.2.2.1.map mYh).map (stZ (mS x)) = (x.2.2.2.2.1.map (stZ x)).map mYh
    rw [List.map_map, List.map_map]
    exact congrArg (fun f => x.2.2.2.2.1.map f) (funext (fun y => stZ_m))
  rw [e1, nz_m, show (mS x).2.2.2.2.1.filter (stl (mS x)) = mHn (x.2.2.2.2.1.filter (stl x)) from stF_m, sumH_m]
theorem meS_m {x : Sn_} {n m : Nat} : meS (mS x) n m = (meS x n m).map mS := by
  unfold meS
  rw [show cW n (mS x).2.2.2.2.1 = cW n x.2.2.2.2.1 from cW_m, show tkO n m (mS x).2.2.2.2.1 = mHn (tkO n m x.2.2.2.2.1) from tkO_m m, nz_m]
  split <;> rfl
theorem ddS_m {x : Sn_} {d : Nat} : ddS (mS x) d = (ddS x d).map mS := by
  unfold ddS
  split
  · rfl
  · simp only [Option.map_some, mS, mDl, mHn, mYh, er_map]
theorem diR1_m {x : Sn_} : diR1 (mS x) = (diR1 x).map mS := by
  unfold diR1
  rw [show (mS x).2.1.length = x.2.1.length from List.length_map ..]
  split
  · rfl
  · simp only [Option.map_some, mS, mDl, mHn, mYh, er_map]
theorem acS_m {x : Sn_} {kd cd : Int32} {w1 w2 : List Nat} : acS (mS x) kd cd (mWs w1) (mWs w2) = (acS x kd cd w1 w2).map mS := by
  unfold acS
  by_cases k2 : kd = nI 2
  · rw [if_pos k2, if_pos k2, show (mS x).2.2.2.1.1.length = x.2.2.2.1.1.length from List.length_map ..]
    split
    · simp only [Option.map_some, mS, mDl, mHn, mYh, List.map_append, List.map_cons, List.map_nil]
    · rfl
  · rw [if_neg k2, if_neg k2]
    by_cases k0 : kd = 0
    · rw [if_pos k0, if_pos k0, show fst (fun i => decide ((mS x).1.getD i [] = mWs w1)) (mS x).1.length = fst (fun i => decide (x.1.getD i [] = w1)) x.1.length from mf_get, show (mS x).1.length = x.1.length from List.length_map ..]
      split
      · rfl
      · split
        · simp only [Option.map_some, mS, mDl, mHn, mYh, List.map_append, List.map_cons, List.map_nil]
        · rfl
    · rw [if_neg k0, if_neg k0, show fst (fun i => decide ((mS x).2.1.getD i [] = mWs w1)) (mS x).2.1.length = fst (fun i => decide (x.2.1.getD i [] = w1)) x.2.1.length from mf_get]
      cases fst (fun i => decide (x.2.1.getD i [] = w1)) x.2.1.length with
      | none =>
        dsimp only
        rw [show (x.2.1.map mWs).length = x.2.1.length from List.length_map ..]
        split
        · simp only [Option.map_some, mS, mDl, mHn, mYh, List.map_append, List.map_cons, List.map_nil]
        · rfl
      | some i => simp only [Option.map_some, mS, mDl, mHn, mYh, List.map_set]
abbrev oM (x : Or_) : Or_ := (x.1, x.2.1, x.2.2.1, mWs x.2.2.2.1, mWs x.2.2.2.2)
theorem oStep_m {x : Or_} {c : Nat} : oStep (oM x) (sg c) = oM (oStep x c) := by
  unfold oStep
  rw [sg_sml]
  simp only [sg_iff (show sg 42 = 42 from rfl), sg_iff (show sg 33 = 33 from rfl), sg_iff (show sg 63 = 63 from rfl), sg_iff (show sg 62 = 62 from rfl), sg_iff (show sg 61 = 61 from rfl)]
  repeat' split
  all_goals simp only [oM, List.map_append, List.map_cons, List.map_nil]
theorem oRun_m {tx : List Nat} : ∀ {x : Or_}, oRun (oM x) (mWs tx) = oM (oRun x tx) := by
  induction tx with
  | nil => exact fun {x} => rfl
  | cons c r ih =>
    intro x
    show oRun (oStep (oM x) (sg c)) (mWs r) = oM (oRun (oStep x c) r)
    rw [oStep_m, ih]
theorem oR0_m {tx : List Nat} : oRun o0 (mWs tx) = oM (oRun o0 tx) := oRun_m (x := o0)
theorem acO_m {x : Sn_} {tx : List Nat} : acO (mS x) (mWs tx) = (acO x tx).map mS := by
  unfold acO
  rw [oR0_m, acS_m]
theorem gStep_m {g : Nat × Nat} {c : Nat} : gStep g (sg c) = gStep g c := by
  unfold gStep gPart
  rw [sg_sml]
  simp only [sg_iff (show sg 59 = 59 from rfl), sg_iff (show sg 42 = 42 from rfl), sg_iff (show sg 33 = 33 from rfl), sg_iff (show sg 63 = 63 from rfl), sg_iff (show sg 62 = 62 from rfl), sg_iff (show sg 61 = 61 from rfl)]
theorem gRun_m {tx : List Nat} : ∀ {g : Nat × Nat}, gRun g (mWs tx) = gRun g tx := by
  induction tx with
  | nil => exact fun {g} => rfl
  | cons c r ih =>
    intro g
    show (match gStep g (sg c) with | some g' => gRun g' (mWs r) | none => none) = (match gStep g c with | some g' => gRun g' r | none => none)
    rw [gStep_m]
    cases gStep g c with
    | none => rfl
    | some g' => exact ih
theorem okT_m {tx : List Nat} (h : okT tx) : okT (mWs tx) := by
  obtain ⟨h1, h2, h3, h4, h5, h6⟩ := h
  unfold okT
  rw [oR0_m]
  refine ⟨?_, by rw [List.length_map]; exact h2, fun c hc => ?_, fun k => ?_, by simpa using h5, by simpa using h6⟩
  · unfold vT vFrom
    rw [gRun_m]
    exact h1
  · obtain ⟨d, hd, rfl⟩ := List.mem_map.mp hc
    rw [Ne, sg_iff (show sg 59 = 59 from rfl)]
    exact h3 d hd
  · have := h4 k
    simpa using this
theorem recN_m {rc : List Sn_} {x : Sn_} : recN (rc.map mS) (mS x) = (recN rc x).map mS := by
  unfold recN
  rw [List.length_map]
  split <;> simp only [List.map_append, List.map_cons, List.map_nil, List.map_drop]
abbrev mM (Z : Sn_ × Option Sn_ × List Sn_) : Sn_ × Option Sn_ × List Sn_ := (mS Z.1, Z.2.1.map mS, Z.2.2.map mS)
theorem wdT_m {tx : List Nat} : wdT (mWs tx) = wdT tx := by
  unfold wdT
  rw [List.length_map, List.all_map, show sml ∘ sg = sml from funext sg_sml]
theorem rsF_m {x : Sn_} {t : List Nat} : rsF (mS x) (mWs t) = rsF x t := by
  unfold rsF
  refine fst_congr (List.length_map ..) (fun i => ?_)
  rw [plN_m]
  exact decide_eq_decide.mpr mW_iff
theorem oriI_m {x : Sn_} {t : List Nat} {p : Nat} : oriI (mS x) (mWs t) p = (oriI x t p).map mWs := by
  unfold oriI
  rw [List.map_map]
  have e1 : (fun i => decide ((mS x).2.2.1.getD i [] = mWs t)) = (fun i => decide (x.2.2.1.getD i [] = t)) := funext (fun i => by
    rw [show (mS x).2.2.1.getD i [] = mWs (x.2.2.1.getD i []) from mL_get]
    exact decide_eq_decide.mpr mW_iff)
  rw [e1]
  exact congrArg (fun f => List.map f _) (funext (fun i => mL_get))
theorem oriOk_m {x : Sn_} {t : List Nat} {acc : List (List Nat)} {d : Nat} : oriOk (mS x) (mWs t) (acc.map mWs) d = oriOk x t acc d := by
  unfold oriOk
  rw [show (mS x).2.2.2.1.2.1.getD d [] = mWs (x.2.2.2.1.2.1.getD d []) from mL_get, eW_m, show rvD (mS x).2.2.2.1 d (mWs t) = mWs (rvD x.2.2.2.1 d t) from rvD_m, plS_m, mf_get, List.length_map]
  rw [show decide (mWs (plS x (rvD x.2.2.2.1 d t)) = mWs t) = decide (plS x (rvD x.2.2.2.1 d t) = t) from decide_eq_decide.mpr mW_iff]
theorem oriS_m {x : Sn_} {t : List Nat} {acc : List (List Nat)} {d : Nat} : oriS (mS x) (mWs t) (acc.map mWs) d = (oriS x t acc d).map mWs := by
  unfold oriS
  rw [oriOk_m, show rvD (mS x).2.2.2.1 d (mWs t) = mWs (rvD x.2.2.2.1 d t) from rvD_m]
  split
  · rw [List.map_append]; rfl
  · rfl
theorem oriFold_m {x : Sn_} {t : List Nat} {l : List Nat} : ∀ {acc : List (List Nat)}, l.foldl (oriS (mS x) (mWs t)) (acc.map mWs) = (l.foldl (oriS x t) acc).map mWs := by
  induction l with
  | nil => exact fun {acc} => rfl
  | cons d r ih =>
    intro acc
    show r.foldl _ (oriS (mS x) (mWs t) (acc.map mWs) d) = _
    rw [oriS_m, ih]
    rfl
theorem oriF_m {x : Sn_} {t : List Nat} : oriF (mS x) (mWs t) = (oriF x t).map mWs := by
  unfold oriF oriD
  rw [show (mS x).2.2.2.1.1.length = x.2.2.2.1.1.length from List.length_map .., show (mS x).2.1.length = x.2.1.length from List.length_map .., oriI_m, oriFold_m]
theorem minS_m {x : Sn_} {a : Option Nat} {w : List Nat} : minS (mS x) a (mWs w) = minS x a w := by
  unfold minS
  rw [show fst (fun i => decide ((mS x).1.getD i [] = mWs w)) (mS x).1.length = fst (fun i => decide (x.1.getD i [] = w)) x.1.length from mf_get]
theorem rrF_m {x : Sn_} {t : List Nat} : rrF (mS x) (mWs t) = rrF x t := by
  unfold rrF
  rw [oriF_m, List.foldl_map]
  exact congrArg (fun f => List.foldl f none _) (funext (fun a => funext (fun w => minS_m)))
theorem irF_m {x : Sn_} {n : Nat} : irF (mS x) n = irF x n := by
  unfold irF
  rw [show (mS x).1.getD n [] = mWs (x.1.getD n []) from mL_get]
  exact mf_get
theorem dfN_m {x : Sn_} {n : Nat} : dfN (mS x) n = dfN x n := by
  unfold dfN
  rw [irF_m, show (mS x).1.getD n [] = mWs (x.1.getD n []) from mL_get, show chD (mS x).2.2.2.1 (mWs (x.1.getD n [])) = chD x.2.2.2.1 (x.1.getD n []) from chD_m]
theorem fits_m {x : Sn_} {d : Nat} : (mS x).1.countP (fun w => fitD (mS x).2.2.2.1 d w) = x.1.countP (fun w => fitD x.2.2.2.1 d w) := by
  show (x.1.map mWs).countP _ = _
  rw [List.countP_map]
  exact congrArg (fun f => List.countP f _) (funext (fun w => fitD_m))
theorem plA_m {x : Sn_} : plA (mS x) = (plA x).map mWs := by
  unfold plA
  rw [List.map_map, show (mS x).1.length = x.1.length from List.length_map ..]
  exact congrArg (fun f => List.map f _) (funext (fun n => plN_m))
theorem ambF_m {ws : List (List Nat)} : ambF (ws.map mWs) = ambF ws := by
  unfold ambF
  rw [List.countP_map]
  refine congrArg (fun f => List.countP f _) (funext (fun w => ?_))
  show decide (1 < (ws.map mWs).countP (fun v => decide (v = mWs w))) = _
  rw [List.countP_map, show (fun v => decide (v = mWs w)) ∘ mWs = (fun v => decide (v = w)) from funext (fun v => decide_eq_decide.mpr mW_iff)]
/-! the law's calls of the second mint -/
theorem eq_strike {X Y : Mt_} {n m : Nat} (r : Y.2 = mM X.2) : (aStrike Y n m).1 = (aStrike X n m).1 ∧ (aStrike Y n m).2.2 = mM (aStrike X n m).2.2 := by
  unfold aStrike
  rw [r, show (mM X.2).1.1.length = X.2.1.1.length from List.length_map .., show stkS (mM X.2).1 n m = (stkS X.2.1 n m).map mS from stkS_m]
  split
  · cases stkS X.2.1 n m with
    | none => exact ⟨rfl, r⟩
    | some x =>
      refine ⟨cW_m, ?_⟩
      show (mS x, X.2.2.1.map mS, recN (X.2.2.2.map mS) (mS X.2.1)) = mM (x, X.2.2.1, recN X.2.2.2 X.2.1)
      rw [recN_m]
  · exact ⟨rfl, r⟩
theorem eq_melt {X Y : Mt_} {n m : Nat} (r : Y.2 = mM X.2) : (aMelt Y n m).1 = (aMelt X n m).1 ∧ (aMelt Y n m).2.2 = mM (aMelt X n m).2.2 := by
  unfold aMelt
  rw [r, show (mM X.2).1.1.length = X.2.1.1.length from List.length_map .., show meS (mM X.2).1 n m = (meS X.2.1 n m).map mS from meS_m]
  split
  · cases meS X.2.1 n m with
    | none => exact ⟨rfl, r⟩
    | some x =>
      refine ⟨cW_m, ?_⟩
      show (mS x, X.2.2.1.map mS, recN (X.2.2.2.map mS) (mS X.2.1)) = mM (x, X.2.2.1, recN X.2.2.2 X.2.1)
      rw [recN_m]
  · exact ⟨rfl, r⟩
theorem eq_dropDie {X Y : Mt_} {d : Nat} (r : Y.2 = mM X.2) : (aDropDie Y d).1 = (aDropDie X d).1 ∧ (aDropDie Y d).2.2 = mM (aDropDie X d).2.2 := by
  unfold aDropDie
  rw [r, show (mM X.2).1.2.2.2.1.1.length = X.2.1.2.2.2.1.1.length from List.length_map .., show ddS (mM X.2).1 d = (ddS X.2.1 d).map mS from ddS_m]
  split
  · cases ddS X.2.1 d with
    | none => exact ⟨rfl, r⟩
    | some x =>
      refine ⟨List.length_map .., ?_⟩
      show (mS x, X.2.2.1.map mS, recN (X.2.2.2.map mS) (mS X.2.1)) = mM (x, X.2.2.1, recN X.2.2.2 X.2.1)
      rw [recN_m]
  · exact ⟨rfl, r⟩
theorem eq_dropIrr {X Y : Mt_} (r : Y.2 = mM X.2) : (aDropIrr Y).1 = (aDropIrr X).1 ∧ (aDropIrr Y).2.2 = mM (aDropIrr X).2.2 := by
  unfold aDropIrr
  rw [r, show diR1 (mM X.2).1 = (diR1 X.2.1).map mS from diR1_m]
  cases diR1 X.2.1 with
  | none => exact ⟨rfl, r⟩
  | some x =>
    refine ⟨List.length_map .., ?_⟩
    show (mS x, X.2.2.1.map mS, recN (X.2.2.2.map mS) (mS X.2.1)) = mM (x, X.2.2.1, recN X.2.2.2 X.2.1)
    rw [recN_m]
theorem eq_carry {X Y : Mt_} (r : Y.2 = mM X.2) (t : Y.1 = mWs X.1) : (aCarry Y).1 = (aCarry X).1 ∧ (aCarry Y).2.2 = mM (aCarry X).2.2 := by
  unfold aCarry
  rw [r, t, show acO (mM X.2).1 (mWs X.1) = (acO X.2.1 X.1).map mS from acO_m]
  cases acO X.2.1 X.1 with
  | none => exact ⟨rfl, r⟩
  | some x =>
    refine ⟨rfl, ?_⟩
    show (mS x, X.2.2.1.map mS, recN (X.2.2.2.map mS) (mS X.2.1)) = mM (x, X.2.2.1, recN X.2.2.2 X.2.1)
    rw [recN_m]
theorem eq_undo {X Y : Mt_} (r : Y.2 = mM X.2) : (aUndo Y).1 = (aUndo X).1 ∧ (aUndo Y).2.2 = mM (aUndo X).2.2 := by
  unfold aUndo
  rw [r, show (mM X.2).2.2.getLast? = X.2.2.2.getLast?.map mS from List.getLast?_map ..]
  cases X.2.2.2.getLast? with
  | none => exact ⟨rfl, r⟩
  | some z =>
    refine ⟨?_, ?_⟩
    · show (X.2.2.2.map mS).dropLast.length = X.2.2.2.dropLast.length
      rw [List.length_dropLast, List.length_dropLast, List.length_map]
    · show (mS z, X.2.2.1.map mS, (X.2.2.2.map mS).dropLast) = mM (z, X.2.2.1, X.2.2.2.dropLast)
      rw [← List.map_dropLast]
theorem eq_restore {X Y : Mt_} (r : Y.2 = mM X.2) : (aRestore Y).1 = (aRestore X).1 ∧ (aRestore Y).2.2 = mM (aRestore X).2.2 := by
  unfold aRestore
  rw [r, show (mM X.2).2.1 = X.2.2.1.map mS from rfl]
  cases e : X.2.2.1 with
  | none => exact ⟨rfl, r⟩
  | some z =>
    refine ⟨List.length_map .., ?_⟩
    show (mS z, (some z).map mS, recN (X.2.2.2.map mS) (mS X.2.1)) = mM (z, some z, recN X.2.2.2 X.2.1)
    rw [recN_m]
theorem eq_recall {X Y : Mt_} (r : Y.2 = mM X.2) (t : Y.1 = mWs X.1) : vRecall Y = vRecall X := by
  unfold vRecall
  rw [r, t, wdT_m, show rsF (mM X.2).1 (mWs X.1) = rsF X.2.1 X.1 from rsF_m]
theorem eq_rev {X Y : Mt_} (r : Y.2 = mM X.2) (t : Y.1 = mWs X.1) : vRev Y = vRev X := by
  unfold vRev
  rw [r, t, wdT_m, show rrF (mM X.2).1 (mWs X.1) = rrF X.2.1 X.1 from rrF_m]
theorem eq_pos {X Y : Mt_} (r : Y.2 = mM X.2) (t : Y.1 = mWs X.1) : vPos Y = vPos X := by
  unfold vPos
  rw [r, t, wdT_m, show oriF (mM X.2).1 (mWs X.1) = (oriF X.2.1 X.1).map mWs from oriF_m, List.length_map]
