/-! ===== nouns found again ===== -/
def rsF (x : Sn_) (t : List Nat) : Option Nat := fst (fun n => decide (plN x n = t)) x.1.length
def oriI (x : Sn_) (t : List Nat) (p : Nat) : List (List Nat) := ((List.range p).filter (fun i => decide (x.2.2.1.getD i [] = t))).map (fun i => x.2.1.getD i [])
def oriOk (x : Sn_) (t : List Nat) (acc : List (List Nat)) (d : Nat) : Bool := eW (x.2.2.2.1.2.1.getD d []) t && decide (1 ≤ (rvD x.2.2.2.1 d t).length ∧ (rvD x.2.2.2.1 d t).length ≤ 12) && decide (plS x (rvD x.2.2.2.1 d t) = t) && !(fst (fun i => decide (acc.getD i [] = rvD x.2.2.2.1 d t)) acc.length).isSome
def oriS (x : Sn_) (t : List Nat) (acc : List (List Nat)) (d : Nat) : List (List Nat) := if oriOk x t acc d = true then acc ++ [rvD x.2.2.2.1 d t] else acc
def oriD (x : Sn_) (t : List Nat) (p : Nat) : List (List Nat) := (List.range p).foldl (oriS x t) (oriI x t x.2.1.length)
def oriF (x : Sn_) (t : List Nat) : List (List Nat) := oriD x t x.2.2.2.1.1.length
def minS (x : Sn_) (a : Option Nat) (w : List Nat) : Option Nat := match fst (fun i => decide (x.1.getD i [] = w)) x.1.length with
  | none => a
  | some n => match a with
    | none => some n
    | some m => if n < m then some n else some m
def rrF (x : Sn_) (t : List Nat) : Option Nat := (oriF x t).foldl (minS x) none
theorem oriI_next {x : Sn_} {t : List Nat} {p : Nat} : oriI x t (p + 1) = oriI x t p ++ if decide (x.2.2.1.getD p [] = t) = true then [x.2.1.getD p []] else [] := by
  unfold oriI
  rw [List.range_succ, List.filter_append, List.map_append]
  congr 1
  by_cases q : x.2.2.1.getD p [] = t
  · rw [List.filter_cons_of_pos (by rw [decide_eq_true q]), if_pos (decide_eq_true q)]; rfl
  · rw [List.filter_cons_of_neg (by rw [decide_eq_false q]; decide), if_neg (by rw [decide_eq_false q]; decide)]; rfl
theorem oriI_len {x : Sn_} {t : List Nat} {p : Nat} : (oriI x t p).length ≤ p := by
  unfold oriI
  rw [List.length_map]
  exact Nat.le_trans (List.length_filter_le _ _) (by rw [List.length_range]; exact Nat.le_refl _)
theorem oriD_next {x : Sn_} {t : List Nat} {p : Nat} : oriD x t (p + 1) = oriS x t (oriD x t p) p := by
  unfold oriD
  rw [List.range_succ, List.foldl_append]
  rfl
theorem oriD_len {x : Sn_} {t : List Nat} {p : Nat} : (oriD x t p).length ≤ x.2.1.length + p := by
  induction p with
  | zero => exact oriI_len
  | succ p ih =>
    rw [oriD_next]
    unfold oriS
    split
    · rw [List.length_append]; show _ + 1 ≤ _; omega
    · omega
theorem minS_lt {x : Sn_} {a : Option Nat} {w : List Nat} (h : ∀ i, a = some i → i < x.1.length) : ∀ i, minS x a w = some i → i < x.1.length := by
  intro i hi
  unfold minS at hi
  cases e : fst (fun i => decide (x.1.getD i [] = w)) x.1.length with
  | none => rw [e] at hi; exact h i hi
  | some n =>
    rw [e] at hi
    have hn := fst_lt e
    cases a with
    | none => cases hi; exact hn
    | some m =>
      have hm := h m rfl
      dsimp only at hi
      split at hi <;> (cases hi; assumption)
theorem fold_snoc {α β : Type} {f : α → β → α} {v : List β} {p : Nat} {a : α} {d : β} (h : p < v.length) : (v.take (p + 1)).foldl f a = f ((v.take p).foldl f a) (v.getD p d) := by
  rw [List.take_succ, List.foldl_append, List.getD_eq_getElem?_getD, List.getElem?_eq_getElem h]
  rfl
theorem gc_r {lv : List (Nat × Value)} {i x : Nat} (h : gl lv i = some (.ref x)) : gc lv (i + 1) = true := by simp only [gc, h]
theorem minS_n {x : Sn_} {a : Option Nat} {w : List Nat} (q : fst (fun i => decide (x.1.getD i [] = w)) x.1.length = none) : minS x a w = a := by unfold minS; rw [q]
theorem minS_0 {x : Sn_} {n : Nat} {w : List Nat} (q : fst (fun i => decide (x.1.getD i [] = w)) x.1.length = some n) : minS x none w = some n := by unfold minS; rw [q]
theorem minS_1 {x : Sn_} {n m : Nat} {w : List Nat} (q : fst (fun i => decide (x.1.getD i [] = w)) x.1.length = some n) : minS x (some m) w = if n < m then some n else some m := by unfold minS; rw [q]
set_option maxHeartbeats 4000000 in
set_option maxRecDepth 100000 in
theorem C_9_loadWanted {L : Nat → Nat → Nat} {X : Mt_} {h : Hp_} {Q : Ot_ → Hp_ → Prop} (H : mtN h L X) (hw : wdT X.1 = true) (k : ∀ h', gExt h h' (aL L) [] → mtN h' L X → wdR h' (L 0 11) (L 0 12) X.1 → Q (.inl none) h') : gG 3 130 0 0 M_9_loadWantedPlural 0 (lv_args 0 [.ref (L 0 0)]) [] h Q := by
  obtain ⟨sp, ok, m0, T, N, v, W1, W2, W3, D, E, l1, ⟨sn, Z, ze⟩, ⟨tr, Y⟩, ⟨b, I⟩, ⟨ox, O⟩, ⟨ya, Wa⟩, ⟨yp, Wp⟩, ⟨yo, Wo⟩, ⟨ps, Ps⟩, os, Os⟩ := H.un
  have tl : X.1.length ≤ 12 := by
    unfold wdT at hw
    rw [Bool.and_eq_true, decide_eq_true_eq] at hw
    exact hw.2.2
  refine g_aloadn M_9_loadWantedPlural d_9_loadWantedPlural_0 (by first | rfl | assumption) ?_
  refine g_get M_9_loadWantedPlural d_9_loadWantedPlural_1 fl_9_10 (by assumption) (by rfl) ?_
  refine gc_V M_9_loadWantedPlural 0 0 [] _ d_9_loadWantedPlural_4 cv_9_278 T.2.1 (by rfl) (by rfl) (Nat.le_of_ble_eq_true (by rfl)) (Nat.le_of_ble_eq_true (by rfl)) (by decide) (by decide) (by decide) (by decide) (C_5_isWord T ?_)
  show gG _ _ _ _ _ _ _ _ _ _
  rw [hw]
  refine g_if_ne M_9_loadWantedPlural (tgt := 21) d_9_loadWantedPlural_7 (by decide) (fun _ => ?_) (fun c9 => absurd c9 (by decide))
  refine g_aloadn M_9_loadWantedPlural d_9_loadWantedPlural_21 (by first | rfl | assumption) ?_
  refine g_get M_9_loadWantedPlural d_9_loadWantedPlural_22 fl_9_10 (by assumption) (by rfl) ?_
  refine g_aloadn M_9_loadWantedPlural d_9_loadWantedPlural_25 (by first | rfl | assumption) ?_
  refine g_get M_9_loadWantedPlural d_9_loadWantedPlural_26 fl_9_46 (by assumption) (by rfl) ?_
  refine gc_V M_9_loadWantedPlural 0 0 [_] _ d_9_loadWantedPlural_29 cv_9_283 T.2.1 (by rfl) (by rfl) (Nat.le_of_ble_eq_true (by rfl)) (Nat.le_of_ble_eq_true (by rfl)) (by decide) (by decide) (by decide) (by decide) (C_5_load T (by omega) Wa (neL sp (ok0 (by decide)) (ok0 (by decide)) (by decide)) (fun y hy => by
      simp only [List.mem_cons, List.not_mem_nil, or_false] at hy
      rcases hy with rfl | rfl | rfl <;> exact nin2 sp (ok0 (by decide)) (by decide) (by decide) (by decide)) (fun h1 e1 V1 => ?_))
  have H1 := H.w11 e1 V1
  have a1 := e1.aLw (L := L) (fun y hy => aL2 (ok0 (by decide)) (ok0 (by decide)) hy)
  show gG _ _ _ _ _ _ _ _ _ _
  exact g_vret M_9_loadWantedPlural d_9_loadWantedPlural_32 rfl (k h1 a1 H1 V1)
set_option maxHeartbeats 4000000 in
set_option maxRecDepth 100000 in
theorem C_9_loadWantedX {L : Nat → Nat → Nat} {X : Mt_} {h : Hp_} {Q : Ot_ → Hp_ → Prop} (H : mtN h L X) (hw : wdT X.1 = false) (k : Q (.inr ISE_) h) : gG 6 200 1 6 M_9_loadWantedPlural 0 (lv_args 0 [.ref (L 0 0)]) [] h Q := by
  obtain ⟨sp, ok, m0, T, N, v, W1, W2, W3, D, E, l1, ⟨sn, Z, ze⟩, ⟨tr, Y⟩, ⟨b, I⟩, ⟨ox, O⟩, ⟨ya, Wa⟩, ⟨yp, Wp⟩, ⟨yo, Wo⟩, ⟨ps, Ps⟩, os, Os⟩ := H.un
  refine g_aloadn M_9_loadWantedPlural d_9_loadWantedPlural_0 (by first | rfl | assumption) ?_
  refine g_get M_9_loadWantedPlural d_9_loadWantedPlural_1 fl_9_10 (by assumption) (by rfl) ?_
  refine gc_V M_9_loadWantedPlural 1 6 [] _ d_9_loadWantedPlural_4 cv_9_278 T.2.1 (by rfl) (by rfl) (Nat.le_of_ble_eq_true (by rfl)) (Nat.le_of_ble_eq_true (by rfl)) (by decide) (by decide) (by decide) (by decide) (C_5_isWord T ?_)
  show gG _ _ _ _ _ _ _ _ _ _
  rw [hw]
  refine g_if_ne M_9_loadWantedPlural (tgt := 21) d_9_loadWantedPlural_7 (by decide) (fun c9 => False.elim (c9 rfl)) (fun _ => ?_)
  exact g_throwW M_9_loadWantedPlural th_9_loadWantedPlural_10 rfl d_9_loadWantedPlural_10 d_9_loadWantedPlural_13 d_9_loadWantedPlural_14 d_9_loadWantedPlural_17 d_9_loadWantedPlural_20 (Nat.le_of_ble_eq_true (by rfl)) (Nat.le_of_ble_eq_true (by rfl)) (Nat.le_of_ble_eq_true (by rfl)) (Nat.le_of_ble_eq_true (by rfl)) (k)
set_option maxHeartbeats 4000000 in
set_option maxRecDepth 100000 in
theorem C_9_recallX {L : Nat → Nat → Nat} {X : Mt_} {h : Hp_} {Q : Ot_ → Hp_ → Prop} (H : mtN h L X) (hw : wdT X.1 = false) (k : Q (.inr ISE_) h) : gG 7 300 1 6 M_9_recallByStriking 0 (lv_args 0 [.ref (L 0 0)]) [] h Q := by
  obtain ⟨sp, ok, m0, T, N, v, W1, W2, W3, D, E, l1, ⟨sn, Z, ze⟩, ⟨tr, Y⟩, ⟨b, I⟩, ⟨ox, O⟩, ⟨ya, Wa⟩, ⟨yp, Wp⟩, ⟨yo, Wo⟩, ⟨ps, Ps⟩, os, Os⟩ := H.un
  refine g_aloadn M_9_recallByStriking d_9_recallByStriking_0 (by first | rfl | assumption) ?_
  refine gc_V M_9_recallByStriking 0 0 [] _ d_9_recallByStriking_1 cv_9_248 m0 (by rfl) (by rfl) (Nat.le_of_ble_eq_true (by rfl)) (Nat.le_of_ble_eq_true (by rfl)) (by decide) (by decide) (by decide) (by decide) (C_9_loadWantedX H hw ?_)
  exact gx_out M_9_recallByStriking rfl k
set_option maxHeartbeats 4000000 in
set_option maxRecDepth 100000 in
theorem C_9_reversedX {L : Nat → Nat → Nat} {X : Mt_} {h : Hp_} {Q : Ot_ → Hp_ → Prop} (H : mtN h L X) (hw : wdT X.1 = false) (k : Q (.inr ISE_) h) : gG 7 300 1 6 M_9_recallByReversing 0 (lv_args 0 [.ref (L 0 0)]) [] h Q := by
  obtain ⟨sp, ok, m0, T, N, v, W1, W2, W3, D, E, l1, ⟨sn, Z, ze⟩, ⟨tr, Y⟩, ⟨b, I⟩, ⟨ox, O⟩, ⟨ya, Wa⟩, ⟨yp, Wp⟩, ⟨yo, Wo⟩, ⟨ps, Ps⟩, os, Os⟩ := H.un
  refine g_aloadn M_9_recallByReversing d_9_recallByReversing_0 (by first | rfl | assumption) ?_
  refine gc_V M_9_recallByReversing 0 0 [] _ d_9_recallByReversing_1 cv_9_248 m0 (by rfl) (by rfl) (Nat.le_of_ble_eq_true (by rfl)) (Nat.le_of_ble_eq_true (by rfl)) (by decide) (by decide) (by decide) (by decide) (C_9_loadWantedX H hw ?_)
  exact gx_out M_9_recallByReversing rfl k
set_option maxHeartbeats 4000000 in
set_option maxRecDepth 100000 in
theorem C_9_possibleX {L : Nat → Nat → Nat} {X : Mt_} {h : Hp_} {Q : Ot_ → Hp_ → Prop} (H : mtN h L X) (hw : wdT X.1 = false) (k : Q (.inr ISE_) h) : gG 7 300 1 6 M_9_possibleNouns 0 (lv_args 0 [.ref (L 0 0)]) [] h Q := by
  obtain ⟨sp, ok, m0, T, N, v, W1, W2, W3, D, E, l1, ⟨sn, Z, ze⟩, ⟨tr, Y⟩, ⟨b, I⟩, ⟨ox, O⟩, ⟨ya, Wa⟩, ⟨yp, Wp⟩, ⟨yo, Wo⟩, ⟨ps, Ps⟩, os, Os⟩ := H.un
  refine g_aloadn M_9_possibleNouns d_9_possibleNouns_0 (by first | rfl | assumption) ?_
  refine gc_V M_9_possibleNouns 0 0 [] _ d_9_possibleNouns_1 cv_9_248 m0 (by rfl) (by rfl) (Nat.le_of_ble_eq_true (by rfl)) (Nat.le_of_ble_eq_true (by rfl)) (by decide) (by decide) (by decide) (by decide) (C_9_loadWantedX H hw ?_)
  exact gx_out M_9_possibleNouns rfl k
set_option maxHeartbeats 4000000 in
set_option maxRecDepth 100000 in
theorem C_9_recall {L : Nat → Nat → Nat} {X : Mt_} {h : Hp_} {Q : Ot_ → Hp_ → Prop} (H : mtN h L X) (hw : wdT X.1 = true) (k : ∀ h', gExt h h' (aL L) [] → mtN h' L X → Q (.inl (some (.int (oI (rsF X.2.1 X.1))))) h') : gG 7 300 0 0 M_9_recallByStriking 0 (lv_args 0 [.ref (L 0 0)]) [] h Q := by
  obtain ⟨sp, ok, m0, T, N, v, W1, W2, W3, D, E, l1, ⟨sn, Z, ze⟩, ⟨tr, Y⟩, ⟨b, I⟩, ⟨ox, O⟩, ⟨ya, Wa⟩, ⟨yp, Wp⟩, ⟨yo, Wo⟩, ⟨ps, Ps⟩, os, Os⟩ := H.un
  have nl := W1.1
  refine g_aloadn M_9_recallByStriking d_9_recallByStriking_0 (by first | rfl | assumption) ?_
  refine gc_V M_9_recallByStriking 0 0 [] _ d_9_recallByStriking_1 cv_9_248 m0 (by rfl) (by rfl) (Nat.le_of_ble_eq_true (by rfl)) (Nat.le_of_ble_eq_true (by rfl)) (by decide) (by decide) (by decide) (by decide) (C_9_loadWanted H hw (fun h0 a0 H0 U0 => ?_))
  show gG _ _ _ _ _ _ _ _ _ _
  refine g_iconst M_9_recallByStriking (v := nI 0) d_9_recallByStriking_4 (by decide) ?_
  refine g_istoren M_9_recallByStriking d_9_recallByStriking_5 (by decide) (by first | rfl | (simp only [gc]; simp [*])) ?_
  have loop : ∀ n p h1, p + n = X.2.1.1.length → (∀ j, j < p → decide (plN X.2.1 j = X.1) = false) → gExt h h1 (aL L) [] → mtN h1 L X → wdR h1 (L 0 11) (L 0 12) X.1 → ∀ lv : List (Nat × Value), gl lv 0 = some (.ref (L 0 0)) → gl lv 1 = some (.int (nI p)) → gG 7 300 0 0 M_9_recallByStriking 6 lv [] h1 Q := by
    intro n
    induction n with
    | zero =>
      intro p h1 hp hj a1 H1 U1 lv H0l H1l
      obtain ⟨sp1, ok1, m01, T1, N1, v1, W11, W21, W31, D1, E1, l11, ⟨sn1, Z1, ze1⟩, ⟨tr1, Y1⟩, ⟨b1, I1⟩, ⟨ox1, O1⟩, ⟨ya1, Wa1⟩, ⟨yp1, Wp1⟩, ⟨yo1, Wo1⟩, ⟨ps1, Ps1⟩, os1, Os1⟩ := H1.un
      refine g_iloadn M_9_recallByStriking d_9_recallByStriking_6 (by first | rfl | assumption) ?_
      refine g_aloadn M_9_recallByStriking d_9_recallByStriking_7 (by first | rfl | assumption) ?_
      refine g_get M_9_recallByStriking d_9_recallByStriking_8 fl_9_19 (by assumption) (by rfl) ?_
      refine g_get M_9_recallByStriking d_9_recallByStriking_11 fl_9_212 (by assumption) (by rfl) ?_
      refine gc_V M_9_recallByStriking 0 0 [] _ d_9_recallByStriking_14 cv_9_165 W11.2.2.1 (by rfl) (by rfl) (Nat.le_of_ble_eq_true (by rfl)) (Nat.le_of_ble_eq_true (by rfl)) (by decide) (by decide) (by decide) (by decide) (C_8_count W11.2.2.1 ?_)
      show gG _ _ _ _ _ _ _ _ _ _
      refine g_icmp_ge M_9_recallByStriking (tgt := 54) d_9_recallByStriking_17 (by decide) (fun _ => ?_) (fun c9 => absurd (nI_le (by omega) (by omega)) c9)
      have kk := k h1 a1 H1
      unfold rsF at kk
      rw [fst_none (fun j h9 => hj j (by omega))] at kk
      refine g_iconst M_9_recallByStriking (v := -1) d_9_recallByStriking_54 (by decide) ?_
      exact g_iret M_9_recallByStriking d_9_recallByStriking_55 rfl rfl (kk)
    | succ n ih =>
      intro p h1 hp hj a1 H1 U1 lv H0l H1l
      obtain ⟨sp1, ok1, m01, T1, N1, v1, W11, W21, W31, D1, E1, l11, ⟨sn1, Z1, ze1⟩, ⟨tr1, Y1⟩, ⟨b1, I1⟩, ⟨ox1, O1⟩, ⟨ya1, Wa1⟩, ⟨yp1, Wp1⟩, ⟨yo1, Wo1⟩, ⟨ps1, Ps1⟩, os1, Os1⟩ := H1.un
      refine g_iloadn M_9_recallByStriking d_9_recallByStriking_6 (by first | rfl | assumption) ?_
      refine g_aloadn M_9_recallByStriking d_9_recallByStriking_7 (by first | rfl | assumption) ?_
      refine g_get M_9_recallByStriking d_9_recallByStriking_8 fl_9_19 (by assumption) (by rfl) ?_
      refine g_get M_9_recallByStriking d_9_recallByStriking_11 fl_9_212 (by assumption) (by rfl) ?_
      refine gc_V M_9_recallByStriking 0 0 [] _ d_9_recallByStriking_14 cv_9_165 W11.2.2.1 (by rfl) (by rfl) (Nat.le_of_ble_eq_true (by rfl)) (Nat.le_of_ble_eq_true (by rfl)) (by decide) (by decide) (by decide) (by decide) (C_8_count W11.2.2.1 ?_)
      show gG _ _ _ _ _ _ _ _ _ _
      refine g_icmp_ge M_9_recallByStriking (tgt := 54) d_9_recallByStriking_17 (by decide) (fun c9 => absurd c9 (nI_ge (by omega) (by omega))) (fun _ => ?_)
      refine g_aloadn M_9_recallByStriking d_9_recallByStriking_20 (by first | rfl | assumption) ?_
      refine g_get M_9_recallByStriking d_9_recallByStriking_21 fl_9_19 (by assumption) (by rfl) ?_
      refine g_iloadn M_9_recallByStriking d_9_recallByStriking_24 (by first | rfl | assumption) ?_
      refine g_aloadn M_9_recallByStriking d_9_recallByStriking_25 (by first | rfl | assumption) ?_
      refine g_get M_9_recallByStriking d_9_recallByStriking_26 fl_9_50 (by assumption) (by rfl) ?_
      refine gc_V M_9_recallByStriking 0 0 [_, _] _ d_9_recallByStriking_29 cv_9_78 v1 (by rfl) (by rfl) (Nat.le_of_ble_eq_true (by rfl)) (Nat.le_of_ble_eq_true (by rfl)) (by decide) (by decide) (by decide) (by decide) (C_6_loadPlural N1 (by omega) Wp1 (neL sp (ok0 (by decide)) (ok0 (by decide)) (by decide)) (offW sp (by decide) (by decide) (by decide) (by decide)) (fun h2 e2 V2 => ?_))
      have H2 := H1.w13 e2 V2
      have a2 := e2.aLw (L := L) (fun y hy => aL2 (ok0 (by decide)) (ok0 (by decide)) hy)
      have U2 := U1.keep e2 (nin2 sp (ok0 (by decide)) (by decide) (by decide) (by decide)) (nin2 sp (ok0 (by decide)) (by decide) (by decide) (by decide))
      have m2 := H2.un.2.2.1
      show gG _ _ _ _ _ _ _ _ _ _
      refine g_aloadn M_9_recallByStriking d_9_recallByStriking_32 (by first | rfl | assumption) ?_
      refine g_get M_9_recallByStriking d_9_recallByStriking_33 fl_9_50 (by assumption) (by rfl) ?_
      refine g_aloadn M_9_recallByStriking d_9_recallByStriking_36 (by first | rfl | assumption) ?_
      refine g_get M_9_recallByStriking d_9_recallByStriking_37 fl_9_46 (by assumption) (by rfl) ?_
      refine gc_V M_9_recallByStriking 0 0 [_] _ d_9_recallByStriking_40 cv_9_251 V2.2.1 (by rfl) (by rfl) (Nat.le_of_ble_eq_true (by rfl)) (Nat.le_of_ble_eq_true (by rfl)) (by decide) (by decide) (by decide) (by decide) (C_7_isSame V2 U2 ?_)
      show gG _ _ _ _ _ _ _ _ _ _
      have ed : decide (plS X.2.1 (X.2.1.1.getD p []) = X.1) = decide (plN X.2.1 p = X.1) := rfl
      rw [ed]
      cases e : decide (plN X.2.1 p = X.1) with
      | false =>
        refine g_if_eq M_9_recallByStriking (tgt := 48) d_9_recallByStriking_43 (by decide) (fun _ => ?_) (fun c9 => absurd rfl c9)
        refine g_iinc M_9_recallByStriking (v := nI (p + 1)) d_9_recallByStriking_48 H1l (by decide) (by first | rfl | (simp only [gc]; simp [*])) (nI_add p 1) ?_
        refine g_goto M_9_recallByStriking (tgt := 6) d_9_recallByStriking_51 (by decide) ?_
        refine ih (p + 1) h2 (by omega) (fun j h9 => ?_) (a1.t a2) H2 U2 _ H0l rfl
        rcases Nat.lt_succ_iff_lt_or_eq.mp h9 with q | q
        · exact hj j q
        · rw [q]; exact e
      | true =>
        refine g_if_eq M_9_recallByStriking (tgt := 48) d_9_recallByStriking_43 (by decide) (fun c9 => absurd c9 (by decide)) (fun _ => ?_)
        have kk := k h2 (a1.t a2) H2
        unfold rsF at kk
        rw [fst_some (i := p) (by omega) e hj] at kk
        refine g_iloadn M_9_recallByStriking d_9_recallByStriking_46 (by first | rfl | assumption) ?_
        exact g_iret M_9_recallByStriking d_9_recallByStriking_47 rfl rfl (kk)
  exact loop X.2.1.1.length 0 h0 (by omega) (fun j h9 => absurd h9 (Nat.not_lt_zero j)) a0 H0 U0 _ rfl rfl
theorem offW2 {L : Nat → Nat → Nat} (s : sepL L) : ∀ x, x < 8 → (fun k => L 1 (10 + k)) x ≠ L 0 15 ∧ (fun k => L 1 (10 + k)) x ≠ L 0 16 := fun x hx => offW s (by decide) (by decide) (by decide) (by decide) (10 + x) (by omega)
set_option maxHeartbeats 4000000 in
set_option maxRecDepth 100000 in
theorem C_9_collect {L : Nat → Nat → Nat} {X : Mt_} {h : Hp_} {Q : Ot_ → Hp_ → Prop} (H : mtN h L X) (hw : wdT X.1 = true) (U : wdR h (L 0 11) (L 0 12) X.1) (k : ∀ h', gExt h h' (aL L) [] → mtN h' L X → wdR h' (L 0 11) (L 0 12) X.1 → wsR h' (L 0 20) (L 0 21) (L 0 22) 22 12 (oriF X.2.1 X.1) → Q (.inl none) h') : gG 6 260 0 0 M_9_collectOrigins 0 (lv_args 0 [.ref (L 0 0)]) [] h Q := by
  obtain ⟨sp, ok, m0, T, N, v, W1, W2, W3, D, E, l1, ⟨sn, Z, ze⟩, ⟨tr, Y⟩, ⟨b, I⟩, ⟨ox, O⟩, ⟨ya, Wa⟩, ⟨yp, Wp⟩, ⟨yo, Wo⟩, ⟨ps, Ps⟩, os, Os⟩ := H.un
  have nl := W1.1
  have il0 := W2.1
  have dl0 := D.2.1.1
  have tl : X.1.length ≤ 12 := by
    unfold wdT at hw
    rw [Bool.and_eq_true, decide_eq_true_eq] at hw
    exact hw.2.2
  have loop2 : ∀ n p h1, p + n = X.2.1.2.2.2.1.1.length → gExt h h1 (aL L) [] → mtN h1 L X → wdR h1 (L 0 11) (L 0 12) X.1 → wsR h1 (L 0 20) (L 0 21) (L 0 22) 22 12 (oriD X.2.1 X.1 p) → ∀ lv : List (Nat × Value), gl lv 0 = some (.ref (L 0 0)) → gl lv 1 = some (.int (nI p)) → gG 6 260 0 0 M_9_collectOrigins 76 lv [] h1 Q := by
    intro n
    induction n with
    | zero =>
      intro p h1 hp a1 H1 U1 P1 lv H0l H1l
      obtain ⟨sp1, ok1, m01, T1, N1, v1, W11, W21, W31, D1, E1, l11, ⟨sn1, Z1, ze1⟩, ⟨tr1, Y1⟩, ⟨b1, I1⟩, ⟨ox1, O1⟩, ⟨ya1, Wa1⟩, ⟨yp1, Wp1⟩, ⟨yo1, Wo1⟩, ⟨ps1, Ps1⟩, os1, Os1⟩ := H1.un
      refine g_iloadn M_9_collectOrigins d_9_collectOrigins_76 (by first | rfl | assumption) ?_
      refine g_aloadn M_9_collectOrigins d_9_collectOrigins_77 (by first | rfl | assumption) ?_
      refine g_get M_9_collectOrigins d_9_collectOrigins_78 fl_9_19 (by assumption) (by rfl) ?_
      refine g_get M_9_collectOrigins d_9_collectOrigins_81 fl_9_152 (by assumption) (by rfl) ?_
      refine gc_V M_9_collectOrigins 0 0 [] _ d_9_collectOrigins_84 cv_9_161 D1.1 (by rfl) (by rfl) (Nat.le_of_ble_eq_true (by rfl)) (Nat.le_of_ble_eq_true (by rfl)) (by decide) (by decide) (by decide) (by decide) (C_0_count D1 ?_)
      show gG _ _ _ _ _ _ _ _ _ _
      refine g_icmp_ge M_9_collectOrigins (tgt := 188) d_9_collectOrigins_87 (by decide) (fun _ => ?_) (fun c9 => absurd (nI_le (by omega) (by omega)) c9)
      have e9 : p = X.2.1.2.2.2.1.1.length := by omega
      subst e9
      exact g_vret M_9_collectOrigins d_9_collectOrigins_188 rfl (k h1 a1 H1 U1 P1)
    | succ n ih =>
      intro p h1 hp a1 H1 U1 P1 lv H0l H1l
      obtain ⟨sp1, ok1, m01, T1, N1, v1, W11, W21, W31, D1, E1, l11, ⟨sn1, Z1, ze1⟩, ⟨tr1, Y1⟩, ⟨b1, I1⟩, ⟨ox1, O1⟩, ⟨ya1, Wa1⟩, ⟨yp1, Wp1⟩, ⟨yo1, Wo1⟩, ⟨ps1, Ps1⟩, os1, Os1⟩ := H1.un
      refine g_iloadn M_9_collectOrigins d_9_collectOrigins_76 (by first | rfl | assumption) ?_
      refine g_aloadn M_9_collectOrigins d_9_collectOrigins_77 (by first | rfl | assumption) ?_
      refine g_get M_9_collectOrigins d_9_collectOrigins_78 fl_9_19 (by assumption) (by rfl) ?_
      refine g_get M_9_collectOrigins d_9_collectOrigins_81 fl_9_152 (by assumption) (by rfl) ?_
      refine gc_V M_9_collectOrigins 0 0 [] _ d_9_collectOrigins_84 cv_9_161 D1.1 (by rfl) (by rfl) (Nat.le_of_ble_eq_true (by rfl)) (Nat.le_of_ble_eq_true (by rfl)) (by decide) (by decide) (by decide) (by decide) (C_0_count D1 ?_)
      show gG _ _ _ _ _ _ _ _ _ _
      refine g_icmp_ge M_9_collectOrigins (tgt := 188) d_9_collectOrigins_87 (by decide) (fun c9 => absurd c9 (nI_ge (by omega) (by omega))) (fun _ => ?_)
      refine g_aloadn M_9_collectOrigins d_9_collectOrigins_90 (by first | rfl | assumption) ?_
      refine g_get M_9_collectOrigins d_9_collectOrigins_91 fl_9_53 (by assumption) (by rfl) ?_
      refine g_aloadn M_9_collectOrigins d_9_collectOrigins_94 (by first | rfl | assumption) ?_
      refine g_get M_9_collectOrigins d_9_collectOrigins_95 fl_9_46 (by assumption) (by rfl) ?_
      refine gc_V M_9_collectOrigins 0 0 [_] _ d_9_collectOrigins_98 cv_9_296 Wo1.2.1 (by rfl) (by rfl) (Nat.le_of_ble_eq_true (by rfl)) (Nat.le_of_ble_eq_true (by rfl)) (by decide) (by decide) (by decide) (by decide) (C_7_copyFrom Wo1 U1 (neL sp (ok0 (by decide)) (ok0 (by decide)) (by decide)) (neL sp (ok0 (by decide)) (ok0 (by decide)) (by decide)) (fun h2 e2 V2 => ?_))
      have H2 := H1.w15 e2 V2
      have a2 := e2.aLw (L := L) (fun y hy => aL2 (ok0 (by decide)) (ok0 (by decide)) hy)
      have U2 := U1.keep e2 (nin2 sp (ok0 (by decide)) (by decide) (by decide) (by decide)) (nin2 sp (ok0 (by decide)) (by decide) (by decide) (by decide))
      have P2 := P1.keep e2 (nin2 sp (ok0 (by decide)) (by decide) (by decide) (by decide)) (nin2 sp (ok0 (by decide)) (by decide) (by decide) (by decide)) (nin2 sp (ok0 (by decide)) (by decide) (by decide) (by decide))
      have ol := oriD_len (x := X.2.1) (t := X.1) (p := p)
      have nx := oriD_next (x := X.2.1) (t := X.1) (p := p)
      obtain ⟨sp2, ok2, m02, T2, N2, v2, W12, W22, W32, D2, E2, l12, ⟨sn2, Z2, ze2⟩, ⟨tr2, Y2⟩, ⟨b2, I2⟩, ⟨ox2, O2⟩, ⟨ya2, Wa2⟩, ⟨yp2, Wp2⟩, ⟨yo2, Wo2⟩, ⟨ps2, Ps2⟩, os2, Os2⟩ := H2.un
      have skip : oriOk X.2.1 X.1 (oriD X.2.1 X.1 p) p = false → ∀ h9 lv', gExt h h9 (aL L) [] → mtN h9 L X → wdR h9 (L 0 11) (L 0 12) X.1 → wsR h9 (L 0 20) (L 0 21) (L 0 22) 22 12 (oriD X.2.1 X.1 p) → gl lv' 0 = some (.ref (L 0 0)) → gl lv' 1 = some (.int (nI p)) → gG 6 260 0 0 M_9_collectOrigins 182 lv' [] h9 Q := by
        intro f h9 lv' a9 H9 U9 P9 G0 G1
        have nx2 : oriD X.2.1 X.1 (p + 1) = oriD X.2.1 X.1 p := by rw [nx]; unfold oriS; rw [if_neg (by rw [f]; decide)]
        refine g_iinc M_9_collectOrigins (v := nI (p + 1)) d_9_collectOrigins_182 G1 (by decide) (by first | rfl | (simp only [gc]; simp [*])) (nI_add p 1) ?_
        refine g_goto M_9_collectOrigins (tgt := 76) d_9_collectOrigins_185 (by decide) ?_
        exact ih (p + 1) h9 (by omega) a9 H9 U9 (by rw [nx2]; exact P9) _ G0 rfl
      show gG _ _ _ _ _ _ _ _ _ _
      refine g_aloadn M_9_collectOrigins d_9_collectOrigins_101 (by first | rfl | assumption) ?_
      refine g_get M_9_collectOrigins d_9_collectOrigins_102 fl_9_19 (by assumption) (by rfl) ?_
      refine g_get M_9_collectOrigins d_9_collectOrigins_105 fl_9_152 (by assumption) (by rfl) ?_
      refine g_iloadn M_9_collectOrigins d_9_collectOrigins_108 (by first | rfl | assumption) ?_
      refine g_aloadn M_9_collectOrigins d_9_collectOrigins_109 (by first | rfl | assumption) ?_
      refine g_get M_9_collectOrigins d_9_collectOrigins_110 fl_9_53 (by assumption) (by rfl) ?_
      refine gc_V M_9_collectOrigins 0 0 [_, _] _ d_9_collectOrigins_113 cv_9_298 D2.1 (by rfl) (by rfl) (Nat.le_of_ble_eq_true (by rfl)) (Nat.le_of_ble_eq_true (by rfl)) (by decide) (by decide) (by decide) (by decide) (C_0_reverse D2 (by omega) V2 tl (neL sp (ok0 (by decide)) (ok0 (by decide)) (by decide)) (offW2 sp) (fun f => ?_) (fun f h3 e3 V3 => ?_))
      · show gG _ _ _ _ _ _ _ _ _ _
        refine g_if_eq M_9_collectOrigins (tgt := 182) d_9_collectOrigins_116 (by decide) (fun _ => ?_) (fun c9 => absurd rfl c9)
        exact skip (by unfold oriOk; rw [f]; rfl) h2 _ (a1.t a2) H2 U2 P2 H0l H1l
      · have H3 := H2.w15 e3 V3
        have a3 := e3.aLw (L := L) (fun y hy => aL2 (ok0 (by decide)) (ok0 (by decide)) hy)
        have U3 := U2.keep e3 (nin2 sp (ok0 (by decide)) (by decide) (by decide) (by decide)) (nin2 sp (ok0 (by decide)) (by decide) (by decide) (by decide))
        have P3 := P2.keep e3 (nin2 sp (ok0 (by decide)) (by decide) (by decide) (by decide)) (nin2 sp (ok0 (by decide)) (by decide) (by decide) (by decide)) (nin2 sp (ok0 (by decide)) (by decide) (by decide) (by decide))
        obtain ⟨sp3, ok3, m03, T3, N3, v3, W13, W23, W33, D3, E3, l13, ⟨sn3, Z3, ze3⟩, ⟨tr3, Y3⟩, ⟨b3, I3⟩, ⟨ox3, O3⟩, ⟨ya3, Wa3⟩, ⟨yp3, Wp3⟩, ⟨yo3, Wo3⟩, ⟨ps3, Ps3⟩, os3, Os3⟩ := H3.un
        by_cases g : 1 ≤ (rvD X.2.1.2.2.2.1 p X.1).length ∧ (rvD X.2.1.2.2.2.1 p X.1).length ≤ 12
        rotate_left
        · rw [decide_eq_false g]
          show gG _ _ _ _ _ _ _ _ _ _
          refine g_if_eq M_9_collectOrigins (tgt := 182) d_9_collectOrigins_116 (by decide) (fun _ => ?_) (fun c9 => absurd rfl c9)
          exact skip (by unfold oriOk; rw [f, decide_eq_false g]; rfl) h3 _ ((a1.t a2).t a3) H3 U3 P3 H0l H1l
        rw [decide_eq_true g]
        show gG _ _ _ _ _ _ _ _ _ _
        refine g_if_eq M_9_collectOrigins (tgt := 182) d_9_collectOrigins_116 (by decide) (fun c9 => absurd c9 (by decide)) (fun _ => ?_)
        refine g_aloadn M_9_collectOrigins d_9_collectOrigins_119 (by first | rfl | assumption) ?_
        refine g_get M_9_collectOrigins d_9_collectOrigins_120 fl_9_50 (by assumption) (by rfl) ?_
        refine g_aloadn M_9_collectOrigins d_9_collectOrigins_123 (by first | rfl | assumption) ?_
        refine g_get M_9_collectOrigins d_9_collectOrigins_124 fl_9_53 (by assumption) (by rfl) ?_
        refine gc_V M_9_collectOrigins 0 0 [_] _ d_9_collectOrigins_127 cv_9_296 Wp3.2.1 (by rfl) (by rfl) (Nat.le_of_ble_eq_true (by rfl)) (Nat.le_of_ble_eq_true (by rfl)) (by decide) (by decide) (by decide) (by decide) (C_7_copyFrom Wp3 V3 (neL sp (ok0 (by decide)) (ok0 (by decide)) (by decide)) (neL sp (ok0 (by decide)) (ok0 (by decide)) (by decide)) (fun h4 e4 V4 => ?_))
        have H4 := H3.w13 e4 V4
        have a4 := e4.aLw (L := L) (fun y hy => aL2 (ok0 (by decide)) (ok0 (by decide)) hy)
        have U4 := U3.keep e4 (nin2 sp (ok0 (by decide)) (by decide) (by decide) (by decide)) (nin2 sp (ok0 (by decide)) (by decide) (by decide) (by decide))
        have P4 := P3.keep e4 (nin2 sp (ok0 (by decide)) (by decide) (by decide) (by decide)) (nin2 sp (ok0 (by decide)) (by decide) (by decide) (by decide)) (nin2 sp (ok0 (by decide)) (by decide) (by decide) (by decide))
        have Q4w := V3.keep e4 (nin2 sp (ok0 (by decide)) (by decide) (by decide) (by decide)) (nin2 sp (ok0 (by decide)) (by decide) (by decide) (by decide))
        obtain ⟨sp4, ok4, m04, T4, N4, v4, W14, W24, W34, D4, E4, l14, ⟨sn4, Z4, ze4⟩, ⟨tr4, Y4⟩, ⟨b4, I4⟩, ⟨ox4, O4⟩, ⟨ya4, Wa4⟩, ⟨yp4, Wp4⟩, ⟨yo4, Wo4⟩, ⟨ps4, Ps4⟩, os4, Os4⟩ := H4.un
        show gG _ _ _ _ _ _ _ _ _ _
        refine g_aloadn M_9_collectOrigins d_9_collectOrigins_130 (by first | rfl | assumption) ?_
        refine g_get M_9_collectOrigins d_9_collectOrigins_131 fl_9_19 (by assumption) (by rfl) ?_
        refine g_aloadn M_9_collectOrigins d_9_collectOrigins_134 (by first | rfl | assumption) ?_
        refine g_get M_9_collectOrigins d_9_collectOrigins_135 fl_9_50 (by assumption) (by rfl) ?_
        refine gc_V M_9_collectOrigins 0 0 [_] _ d_9_collectOrigins_138 cv_9_301 v4 (by rfl) (by rfl) (Nat.le_of_ble_eq_true (by rfl)) (Nat.le_of_ble_eq_true (by rfl)) (by decide) (by decide) (by decide) (by decide) (C_6_makePlural N4 V4 g.2 (neL sp (ok0 (by decide)) (ok0 (by decide)) (by decide)) (offW sp (by decide) (by decide) (by decide) (by decide)) (fun h5 e5 V5 => ?_))
        have H5 := H4.w13 e5 V5
        have a5 := e5.aLw (L := L) (fun y hy => aL2 (ok0 (by decide)) (ok0 (by decide)) hy)
        have U5 := U4.keep e5 (nin2 sp (ok0 (by decide)) (by decide) (by decide) (by decide)) (nin2 sp (ok0 (by decide)) (by decide) (by decide) (by decide))
        have P5 := P4.keep e5 (nin2 sp (ok0 (by decide)) (by decide) (by decide) (by decide)) (nin2 sp (ok0 (by decide)) (by decide) (by decide) (by decide)) (nin2 sp (ok0 (by decide)) (by decide) (by decide) (by decide))
        have Q5w := Q4w.keep e5 (nin2 sp (ok0 (by decide)) (by decide) (by decide) (by decide)) (nin2 sp (ok0 (by decide)) (by decide) (by decide) (by decide))
        have m5 := H5.un.2.2.1
        have a15 := (((a1.t a2).t a3).t a4).t a5
        show gG _ _ _ _ _ _ _ _ _ _
        refine g_aloadn M_9_collectOrigins d_9_collectOrigins_141 (by first | rfl | assumption) ?_
        refine g_get M_9_collectOrigins d_9_collectOrigins_142 fl_9_50 (by assumption) (by rfl) ?_
        refine g_aloadn M_9_collectOrigins d_9_collectOrigins_145 (by first | rfl | assumption) ?_
        refine g_get M_9_collectOrigins d_9_collectOrigins_146 fl_9_46 (by assumption) (by rfl) ?_
        refine gc_V M_9_collectOrigins 0 0 [_] _ d_9_collectOrigins_149 cv_9_251 V5.2.1 (by rfl) (by rfl) (Nat.le_of_ble_eq_true (by rfl)) (Nat.le_of_ble_eq_true (by rfl)) (by decide) (by decide) (by decide) (by decide) (C_7_isSame V5 U5 ?_)
        show gG _ _ _ _ _ _ _ _ _ _
        by_cases e : plS X.2.1 (rvD X.2.1.2.2.2.1 p X.1) = X.1
        rotate_left
        · rw [decide_eq_false e]
          refine g_if_eq M_9_collectOrigins (tgt := 182) d_9_collectOrigins_152 (by decide) (fun _ => ?_) (fun c9 => absurd rfl c9)
          exact skip (by unfold oriOk; rw [f, decide_eq_true g, decide_eq_false e]; rfl) h5 _ a15 H5 U5 P5 H0l H1l
        rw [decide_eq_true e]
        refine g_if_eq M_9_collectOrigins (tgt := 182) d_9_collectOrigins_152 (by decide) (fun c9 => absurd c9 (by decide)) (fun _ => ?_)
        refine g_aloadn M_9_collectOrigins d_9_collectOrigins_155 (by first | rfl | assumption) ?_
        refine g_get M_9_collectOrigins d_9_collectOrigins_156 fl_9_65 (by assumption) (by rfl) ?_
        refine g_aloadn M_9_collectOrigins d_9_collectOrigins_159 (by first | rfl | assumption) ?_
        refine g_get M_9_collectOrigins d_9_collectOrigins_160 fl_9_53 (by assumption) (by rfl) ?_
        refine gc_V M_9_collectOrigins 0 0 [_] _ d_9_collectOrigins_163 cv_9_234 P5.2.2.1 (by rfl) (by rfl) (Nat.le_of_ble_eq_true (by rfl)) (Nat.le_of_ble_eq_true (by rfl)) (by decide) (by decide) (by decide) (by decide) (C_8_find (by decide) (by decide) P5 Q5w ?_)
        show gG _ _ _ _ _ _ _ _ _ _
        refine g_iconst M_9_collectOrigins (v := -1) d_9_collectOrigins_166 (by decide) ?_
        cases q : fst (fun i => decide ((oriD X.2.1 X.1 p).getD i [] = (rvD X.2.1.2.2.2.1 p X.1))) (oriD X.2.1 X.1 p).length with
        | some i =>
          refine g_icmp_ne M_9_collectOrigins (tgt := 182) d_9_collectOrigins_167 (by decide) (fun _ => ?_) (fun c9 => absurd c9 (oI_ne (n := 30) (fun j hj => by cases hj; have := fst_lt q; omega) (by decide) rfl))
          exact skip (by unfold oriOk; rw [f, decide_eq_true g, decide_eq_true e, q]; rfl) h5 _ a15 H5 U5 P5 H0l H1l
        | none =>
          refine g_icmp_ne M_9_collectOrigins (tgt := 182) d_9_collectOrigins_167 (by decide) (fun c9 => False.elim (c9 rfl)) (fun _ => ?_)
          have nx3 : oriD X.2.1 X.1 (p + 1) = oriD X.2.1 X.1 p ++ [(rvD X.2.1.2.2.2.1 p X.1)] := by rw [nx]; unfold oriS; rw [if_pos (by unfold oriOk; rw [f, decide_eq_true g, decide_eq_true e, q]; rfl)]
          refine g_aloadn M_9_collectOrigins d_9_collectOrigins_170 (by first | rfl | assumption) ?_
          refine g_get M_9_collectOrigins d_9_collectOrigins_171 fl_9_65 (by assumption) (by rfl) ?_
          refine g_aloadn M_9_collectOrigins d_9_collectOrigins_174 (by first | rfl | assumption) ?_
          refine g_get M_9_collectOrigins d_9_collectOrigins_175 fl_9_53 (by assumption) (by rfl) ?_
          refine gc_V M_9_collectOrigins 0 0 [_] _ d_9_collectOrigins_178 cv_9_241 P5.2.2.1 (by rfl) (by rfl) (Nat.le_of_ble_eq_true (by rfl)) (Nat.le_of_ble_eq_true (by rfl)) (by decide) (by decide) (by decide) (by decide) (C_8_add (by decide) (by decide) P5 Q5w g.2 (neL sp (ok0 (by decide)) (ok0 (by decide)) (by decide)) (neL sp (ok0 (by decide)) (ok0 (by decide)) (by decide)) (neL sp (ok0 (by decide)) (ok0 (by decide)) (by decide)) ⟨(neL sp (ok0 (by decide)) (ok0 (by decide)) (by decide)), (neL sp (ok0 (by decide)) (ok0 (by decide)) (by decide)), (neL sp (ok0 (by decide)) (ok0 (by decide)) (by decide))⟩ ⟨(neL sp (ok0 (by decide)) (ok0 (by decide)) (by decide)), (neL sp (ok0 (by decide)) (ok0 (by decide)) (by decide)), (neL sp (ok0 (by decide)) (ok0 (by decide)) (by decide))⟩ (fun q9 => absurd q9 (by omega)) (fun q9 h6 e6 P6 => ?_))
          have H6 := H5.ws20 e6 P6
          have a6 := e6.aLw (L := L) (fun y hy => aL3 (ok0 (by decide)) (ok0 (by decide)) (ok0 (by decide)) hy)
          have U6 := U5.keep e6 (nin3 sp (ok0 (by decide)) (by decide) (by decide) (by decide) (by decide)) (nin3 sp (ok0 (by decide)) (by decide) (by decide) (by decide) (by decide))
          show gG _ _ _ _ _ _ _ _ _ _
          refine g_pop M_9_collectOrigins d_9_collectOrigins_181 (by rfl) ?_
          refine g_iinc M_9_collectOrigins (v := nI (p + 1)) d_9_collectOrigins_182 H1l (by decide) (by first | rfl | (simp only [gc]; simp [*])) (nI_add p 1) ?_
          refine g_goto M_9_collectOrigins (tgt := 76) d_9_collectOrigins_185 (by decide) ?_
          exact ih (p + 1) h6 (by omega) (a15.t a6) H6 U6 (by rw [nx3]; exact P6) _ H0l rfl
  have k2 := fun h1 a1 H1 U1 P1 => loop2 X.2.1.2.2.2.1.1.length 0 h1 (by omega) a1 H1 U1 P1
  refine g_aloadn M_9_collectOrigins d_9_collectOrigins_0 (by first | rfl | assumption) ?_
  refine g_get M_9_collectOrigins d_9_collectOrigins_1 fl_9_65 (by assumption) (by rfl) ?_
  refine gc_V M_9_collectOrigins 0 0 [] _ d_9_collectOrigins_4 cv_9_240 Os.2.2.1 (by rfl) (by rfl) (Nat.le_of_ble_eq_true (by rfl)) (Nat.le_of_ble_eq_true (by rfl)) (by decide) (by decide) (by decide) (by decide) (C_8_clear (neL sp (ok0 (by decide)) (ok0 (by decide)) (by decide)) (neL sp (ok0 (by decide)) (ok0 (by decide)) (by decide)) Os (fun h0 e0 P0 => ?_))
  have e0w : gExt h h0 [L 0 20, L 0 21, L 0 22] [] := e0.weak (by simp)
  have H0 := H.ws20 e0w P0
  have U0 := U.keep e0w (nin3 sp (ok0 (by decide)) (by decide) (by decide) (by decide) (by decide)) (nin3 sp (ok0 (by decide)) (by decide) (by decide) (by decide) (by decide))
  have a0 := e0w.aLw (L := L) (fun y hy => aL3 (ok0 (by decide)) (ok0 (by decide)) (ok0 (by decide)) hy)
  show gG _ _ _ _ _ _ _ _ _ _
  refine g_iconst M_9_collectOrigins (v := nI 0) d_9_collectOrigins_7 (by decide) ?_
  refine g_istoren M_9_collectOrigins d_9_collectOrigins_8 (by decide) (by first | rfl | (simp only [gc]; simp [*])) ?_
  have loop : ∀ n p h1, p + n = X.2.1.2.1.length → gExt h h1 (aL L) [] → mtN h1 L X → wdR h1 (L 0 11) (L 0 12) X.1 → wsR h1 (L 0 20) (L 0 21) (L 0 22) 22 12 (oriI X.2.1 X.1 p) → ∀ lv : List (Nat × Value), gl lv 0 = some (.ref (L 0 0)) → gl lv 1 = some (.int (nI p)) → gG 6 260 0 0 M_9_collectOrigins 9 lv [] h1 Q := by
    intro n
    induction n with
    | zero =>
      intro p h1 hp a1 H1 U1 P1 lv H0l H1l
      obtain ⟨sp1, ok1, m01, T1, N1, v1, W11, W21, W31, D1, E1, l11, ⟨sn1, Z1, ze1⟩, ⟨tr1, Y1⟩, ⟨b1, I1⟩, ⟨ox1, O1⟩, ⟨ya1, Wa1⟩, ⟨yp1, Wp1⟩, ⟨yo1, Wo1⟩, ⟨ps1, Ps1⟩, os1, Os1⟩ := H1.un
      refine g_iloadn M_9_collectOrigins d_9_collectOrigins_9 (by first | rfl | assumption) ?_
      refine g_aloadn M_9_collectOrigins d_9_collectOrigins_10 (by first | rfl | assumption) ?_
      refine g_get M_9_collectOrigins d_9_collectOrigins_11 fl_9_19 (by assumption) (by rfl) ?_
      refine g_get M_9_collectOrigins d_9_collectOrigins_14 fl_9_162 (by assumption) (by rfl) ?_
      refine gc_V M_9_collectOrigins 0 0 [] _ d_9_collectOrigins_17 cv_9_165 W21.2.2.1 (by rfl) (by rfl) (Nat.le_of_ble_eq_true (by rfl)) (Nat.le_of_ble_eq_true (by rfl)) (by decide) (by decide) (by decide) (by decide) (C_8_count W21.2.2.1 ?_)
      show gG _ _ _ _ _ _ _ _ _ _
      refine g_icmp_ge M_9_collectOrigins (tgt := 74) d_9_collectOrigins_20 (by decide) (fun _ => ?_) (fun c9 => absurd (nI_le (by omega) (by omega)) c9)
      refine g_iconst M_9_collectOrigins (v := nI 0) d_9_collectOrigins_74 (by decide) ?_
      refine g_istoren M_9_collectOrigins d_9_collectOrigins_75 (by decide) (by first | rfl | (simp only [gc]; simp [*])) ?_
      have e9 : p = X.2.1.2.1.length := by omega
      subst e9
      exact k2 h1 a1 H1 U1 P1 _ H0l rfl
    | succ n ih =>
      intro p h1 hp a1 H1 U1 P1 lv H0l H1l
      obtain ⟨sp1, ok1, m01, T1, N1, v1, W11, W21, W31, D1, E1, l11, ⟨sn1, Z1, ze1⟩, ⟨tr1, Y1⟩, ⟨b1, I1⟩, ⟨ox1, O1⟩, ⟨ya1, Wa1⟩, ⟨yp1, Wp1⟩, ⟨yo1, Wo1⟩, ⟨ps1, Ps1⟩, os1, Os1⟩ := H1.un
      refine g_iloadn M_9_collectOrigins d_9_collectOrigins_9 (by first | rfl | assumption) ?_
      refine g_aloadn M_9_collectOrigins d_9_collectOrigins_10 (by first | rfl | assumption) ?_
      refine g_get M_9_collectOrigins d_9_collectOrigins_11 fl_9_19 (by assumption) (by rfl) ?_
      refine g_get M_9_collectOrigins d_9_collectOrigins_14 fl_9_162 (by assumption) (by rfl) ?_
      refine gc_V M_9_collectOrigins 0 0 [] _ d_9_collectOrigins_17 cv_9_165 W21.2.2.1 (by rfl) (by rfl) (Nat.le_of_ble_eq_true (by rfl)) (Nat.le_of_ble_eq_true (by rfl)) (by decide) (by decide) (by decide) (by decide) (C_8_count W21.2.2.1 ?_)
      show gG _ _ _ _ _ _ _ _ _ _
      refine g_icmp_ge M_9_collectOrigins (tgt := 74) d_9_collectOrigins_20 (by decide) (fun c9 => absurd c9 (nI_ge (by omega) (by omega))) (fun _ => ?_)
      refine g_aloadn M_9_collectOrigins d_9_collectOrigins_23 (by first | rfl | assumption) ?_
      refine g_get M_9_collectOrigins d_9_collectOrigins_24 fl_9_19 (by assumption) (by rfl) ?_
      refine g_get M_9_collectOrigins d_9_collectOrigins_27 fl_9_169 (by assumption) (by rfl) ?_
      refine g_iloadn M_9_collectOrigins d_9_collectOrigins_30 (by first | rfl | assumption) ?_
      refine g_aloadn M_9_collectOrigins d_9_collectOrigins_31 (by first | rfl | assumption) ?_
      refine g_get M_9_collectOrigins d_9_collectOrigins_32 fl_9_46 (by assumption) (by rfl) ?_
      refine gc_V M_9_collectOrigins 0 0 [_, _] _ d_9_collectOrigins_35 cv_9_294 W31.2.2.1 (by rfl) (by rfl) (Nat.le_of_ble_eq_true (by rfl)) (Nat.le_of_ble_eq_true (by rfl)) (by decide) (by decide) (by decide) (by decide) (C_8_isSame (by decide) (by decide) W31 (by omega) U1 ?_)
      show gG _ _ _ _ _ _ _ _ _ _
      have nx := oriI_next (x := X.2.1) (t := X.1) (p := p)
      cases e : decide (X.2.1.2.2.1.getD p [] = X.1) with
      | false =>
        rw [e, if_neg (by decide), List.append_nil] at nx
        refine g_if_eq M_9_collectOrigins (tgt := 68) d_9_collectOrigins_38 (by decide) (fun _ => ?_) (fun c9 => absurd rfl c9)
        refine g_iinc M_9_collectOrigins (v := nI (p + 1)) d_9_collectOrigins_68 H1l (by decide) (by first | rfl | (simp only [gc]; simp [*])) (nI_add p 1) ?_
        refine g_goto M_9_collectOrigins (tgt := 9) d_9_collectOrigins_71 (by decide) ?_
        exact ih (p + 1) h1 (by omega) a1 H1 U1 (by rw [nx]; exact P1) _ H0l rfl
      | true =>
        rw [e, if_pos rfl] at nx
        refine g_if_eq M_9_collectOrigins (tgt := 68) d_9_collectOrigins_38 (by decide) (fun c9 => absurd c9 (by decide)) (fun _ => ?_)
        refine g_aloadn M_9_collectOrigins d_9_collectOrigins_41 (by first | rfl | assumption) ?_
        refine g_get M_9_collectOrigins d_9_collectOrigins_42 fl_9_19 (by assumption) (by rfl) ?_
        refine g_get M_9_collectOrigins d_9_collectOrigins_45 fl_9_162 (by assumption) (by rfl) ?_
        refine g_iloadn M_9_collectOrigins d_9_collectOrigins_48 (by first | rfl | assumption) ?_
        refine g_aloadn M_9_collectOrigins d_9_collectOrigins_49 (by first | rfl | assumption) ?_
        refine g_get M_9_collectOrigins d_9_collectOrigins_50 fl_9_53 (by assumption) (by rfl) ?_
        refine gc_V M_9_collectOrigins 0 0 [_, _] _ d_9_collectOrigins_53 cv_9_231 W21.2.2.1 (by rfl) (by rfl) (Nat.le_of_ble_eq_true (by rfl)) (Nat.le_of_ble_eq_true (by rfl)) (by decide) (by decide) (by decide) (by decide) (C_8_load (by decide) (by decide) W21 (by omega) Wo1 (neL sp (ok0 (by decide)) (ok0 (by decide)) (by decide)) (fun y hy q => by simp only [List.mem_cons, List.not_mem_nil, or_false] at hy q; rcases hy with rfl | rfl | rfl <;> rcases q with q | q <;> exact neL sp (okB (by decide) (by decide) (by decide)) (ok0 (by decide)) (by decide) q) (fun h2 e2 V2 => ?_))
        have H2 := H1.w15 e2 V2
        have a2 := e2.aLw (L := L) (fun y hy => aL2 (ok0 (by decide)) (ok0 (by decide)) hy)
        have U2 := U1.keep e2 (nin2 sp (ok0 (by decide)) (by decide) (by decide) (by decide)) (nin2 sp (ok0 (by decide)) (by decide) (by decide) (by decide))
        have P2 := P1.keep e2 (nin2 sp (ok0 (by decide)) (by decide) (by decide) (by decide)) (nin2 sp (ok0 (by decide)) (by decide) (by decide) (by decide)) (nin2 sp (ok0 (by decide)) (by decide) (by decide) (by decide))
        have m2 := H2.un.2.2.1
        have il := oriI_len (x := X.2.1) (t := X.1) (p := p)
        show gG _ _ _ _ _ _ _ _ _ _
        refine g_aloadn M_9_collectOrigins d_9_collectOrigins_56 (by first | rfl | assumption) ?_
        refine g_get M_9_collectOrigins d_9_collectOrigins_57 fl_9_65 (by assumption) (by rfl) ?_
        refine g_aloadn M_9_collectOrigins d_9_collectOrigins_60 (by first | rfl | assumption) ?_
        refine g_get M_9_collectOrigins d_9_collectOrigins_61 fl_9_53 (by assumption) (by rfl) ?_
        refine gc_V M_9_collectOrigins 0 0 [_] _ d_9_collectOrigins_64 cv_9_241 P2.2.2.1 (by rfl) (by rfl) (Nat.le_of_ble_eq_true (by rfl)) (Nat.le_of_ble_eq_true (by rfl)) (by decide) (by decide) (by decide) (by decide) (C_8_add (by decide) (by decide) P2 V2 (wd_get W21.2.1).1 (neL sp (ok0 (by decide)) (ok0 (by decide)) (by decide)) (neL sp (ok0 (by decide)) (ok0 (by decide)) (by decide)) (neL sp (ok0 (by decide)) (ok0 (by decide)) (by decide)) ⟨(neL sp (ok0 (by decide)) (ok0 (by decide)) (by decide)), (neL sp (ok0 (by decide)) (ok0 (by decide)) (by decide)), (neL sp (ok0 (by decide)) (ok0 (by decide)) (by decide))⟩ ⟨(neL sp (ok0 (by decide)) (ok0 (by decide)) (by decide)), (neL sp (ok0 (by decide)) (ok0 (by decide)) (by decide)), (neL sp (ok0 (by decide)) (ok0 (by decide)) (by decide))⟩ (fun q => absurd q (by omega)) (fun q h3 e3 P3 => ?_))
        have H3 := H2.ws20 e3 P3
        have a3 := e3.aLw (L := L) (fun y hy => aL3 (ok0 (by decide)) (ok0 (by decide)) (ok0 (by decide)) hy)
        have U3 := U2.keep e3 (nin3 sp (ok0 (by decide)) (by decide) (by decide) (by decide) (by decide)) (nin3 sp (ok0 (by decide)) (by decide) (by decide) (by decide) (by decide))
        show gG _ _ _ _ _ _ _ _ _ _
        refine g_pop M_9_collectOrigins d_9_collectOrigins_67 (by rfl) ?_
        refine g_iinc M_9_collectOrigins (v := nI (p + 1)) d_9_collectOrigins_68 H1l (by decide) (by first | rfl | (simp only [gc]; simp [*])) (nI_add p 1) ?_
        refine g_goto M_9_collectOrigins (tgt := 9) d_9_collectOrigins_71 (by decide) ?_
        exact ih (p + 1) h3 (by omega) ((a1.t a2).t a3) H3 U3 (by rw [nx]; exact P3) _ H0l rfl
  exact loop X.2.1.2.1.length 0 h0 (by omega) a0 H0 U0 P0 _ rfl rfl
set_option maxHeartbeats 4000000 in
set_option maxRecDepth 100000 in
theorem C_9_possible {L : Nat → Nat → Nat} {X : Mt_} {h : Hp_} {Q : Ot_ → Hp_ → Prop} (H : mtN h L X) (hw : wdT X.1 = true) (k : ∀ h', gExt h h' (aL L) [] → mtN h' L X → (oriF X.2.1 X.1).length ≤ 22 → Q (.inl (some (.int (nI (oriF X.2.1 X.1).length)))) h') : gG 7 300 0 0 M_9_possibleNouns 0 (lv_args 0 [.ref (L 0 0)]) [] h Q := by
  obtain ⟨sp, ok, m0, T, N, v, W1, W2, W3, D, E, l1, ⟨sn, Z, ze⟩, ⟨tr, Y⟩, ⟨b, I⟩, ⟨ox, O⟩, ⟨ya, Wa⟩, ⟨yp, Wp⟩, ⟨yo, Wo⟩, ⟨ps, Ps⟩, os, Os⟩ := H.un
  refine g_aloadn M_9_possibleNouns d_9_possibleNouns_0 (by first | rfl | assumption) ?_
  refine gc_V M_9_possibleNouns 0 0 [] _ d_9_possibleNouns_1 cv_9_248 m0 (by rfl) (by rfl) (Nat.le_of_ble_eq_true (by rfl)) (Nat.le_of_ble_eq_true (by rfl)) (by decide) (by decide) (by decide) (by decide) (C_9_loadWanted H hw (fun h1 a1 H1 U1 => ?_))
  have m1 := H1.un.2.2.1
  show gG _ _ _ _ _ _ _ _ _ _
  refine g_aloadn M_9_possibleNouns d_9_possibleNouns_4 (by first | rfl | assumption) ?_
  refine gc_V M_9_possibleNouns 0 0 [] _ d_9_possibleNouns_5 cv_9_254 m1 (by rfl) (by rfl) (Nat.le_of_ble_eq_true (by rfl)) (Nat.le_of_ble_eq_true (by rfl)) (by decide) (by decide) (by decide) (by decide) (C_9_collect H1 hw U1 (fun h2 a2 H2 U2 P2 => ?_))
  have m2 := H2.un.2.2.1
  show gG _ _ _ _ _ _ _ _ _ _
  refine g_aloadn M_9_possibleNouns d_9_possibleNouns_8 (by first | rfl | assumption) ?_
  refine g_get M_9_possibleNouns d_9_possibleNouns_9 fl_9_65 (by assumption) (by rfl) ?_
  refine gc_V M_9_possibleNouns 0 0 [] _ d_9_possibleNouns_12 cv_9_165 P2.2.2.1 (by rfl) (by rfl) (Nat.le_of_ble_eq_true (by rfl)) (Nat.le_of_ble_eq_true (by rfl)) (by decide) (by decide) (by decide) (by decide) (C_8_count P2.2.2.1 ?_)
  show gG _ _ _ _ _ _ _ _ _ _
  exact g_iret M_9_possibleNouns d_9_possibleNouns_15 rfl rfl (k h2 (a1.t a2) H2 P2.1)
set_option maxHeartbeats 4000000 in
set_option maxRecDepth 100000 in
theorem C_9_reversed {L : Nat → Nat → Nat} {X : Mt_} {h : Hp_} {Q : Ot_ → Hp_ → Prop} (H : mtN h L X) (hw : wdT X.1 = true) (k : ∀ h', gExt h h' (aL L) [] → mtN h' L X → Q (.inl (some (.int (oI (rrF X.2.1 X.1))))) h') : gG 7 300 0 0 M_9_recallByReversing 0 (lv_args 0 [.ref (L 0 0)]) [] h Q := by
  obtain ⟨sp, ok, m0, T, N, v, W1, W2, W3, D, E, l1, ⟨sn, Z, ze⟩, ⟨tr, Y⟩, ⟨b, I⟩, ⟨ox, O⟩, ⟨ya, Wa⟩, ⟨yp, Wp⟩, ⟨yo, Wo⟩, ⟨ps, Ps⟩, os, Os⟩ := H.un
  have nl := W1.1
  have mlt : ∀ p i, (((oriF X.2.1 X.1).take p).foldl (minS X.2.1) none) = some i → i < X.2.1.1.length := by
    intro p
    generalize ((oriF X.2.1 X.1).take p) = l
    have gen : ∀ (l : List (List Nat)) (a : Option Nat), (∀ i, a = some i → i < X.2.1.1.length) → ∀ i, l.foldl (minS X.2.1) a = some i → i < X.2.1.1.length := by
      intro l
      induction l with
      | nil => exact fun a ha i hi => ha i hi
      | cons w l ih => exact fun a ha => ih _ (minS_lt ha)
    exact gen l none (fun i hi => nomatch hi)
  refine g_aloadn M_9_recallByReversing d_9_recallByReversing_0 (by first | rfl | assumption) ?_
  refine gc_V M_9_recallByReversing 0 0 [] _ d_9_recallByReversing_1 cv_9_248 m0 (by rfl) (by rfl) (Nat.le_of_ble_eq_true (by rfl)) (Nat.le_of_ble_eq_true (by rfl)) (by decide) (by decide) (by decide) (by decide) (C_9_loadWanted H hw (fun h1 a1 H1 U1 => ?_))
  have m1 := H1.un.2.2.1
  show gG _ _ _ _ _ _ _ _ _ _
  refine g_aloadn M_9_recallByReversing d_9_recallByReversing_4 (by first | rfl | assumption) ?_
  refine gc_V M_9_recallByReversing 0 0 [] _ d_9_recallByReversing_5 cv_9_254 m1 (by rfl) (by rfl) (Nat.le_of_ble_eq_true (by rfl)) (Nat.le_of_ble_eq_true (by rfl)) (by decide) (by decide) (by decide) (by decide) (C_9_collect H1 hw U1 (fun h0 a0 H0 U0 P0 => ?_))
  have a09 := a1.t a0
  show gG _ _ _ _ _ _ _ _ _ _
  refine g_iconst M_9_recallByReversing (v := -1) d_9_recallByReversing_8 (by decide) ?_
  refine g_istoren M_9_recallByReversing d_9_recallByReversing_9 (by decide) (by first | rfl | (simp only [gc]; simp [*])) ?_
  refine g_iconst M_9_recallByReversing (v := nI 0) d_9_recallByReversing_10 (by decide) ?_
  refine g_istoren M_9_recallByReversing d_9_recallByReversing_11 (by decide) (by first | rfl | (simp only [gc]; simp [*])) ?_
  have ol := P0.1
  have loop : ∀ n p h1, p + n = (oriF X.2.1 X.1).length → gExt h h1 (aL L) [] → mtN h1 L X → wsR h1 (L 0 20) (L 0 21) (L 0 22) 22 12 (oriF X.2.1 X.1) → ∀ lv : List (Nat × Value), gl lv 0 = some (.ref (L 0 0)) → gl lv 1 = some (.int (oI (((oriF X.2.1 X.1).take p).foldl (minS X.2.1) none))) → gl lv 2 = some (.int (nI p)) → gG 7 300 0 0 M_9_recallByReversing 12 lv [] h1 Q := by
    intro n
    induction n with
    | zero =>
      intro p h1 hp a1 H1 P1 lv H0l H1l H2l
      obtain ⟨sp1, ok1, m01, T1, N1, v1, W11, W21, W31, D1, E1, l11, ⟨sn1, Z1, ze1⟩, ⟨tr1, Y1⟩, ⟨b1, I1⟩, ⟨ox1, O1⟩, ⟨ya1, Wa1⟩, ⟨yp1, Wp1⟩, ⟨yo1, Wo1⟩, ⟨ps1, Ps1⟩, os1, Os1⟩ := H1.un
      rw [List.take_of_length_le (by omega)] at H1l
      refine g_iloadn M_9_recallByReversing d_9_recallByReversing_12 (by first | rfl | assumption) ?_
      refine g_aloadn M_9_recallByReversing d_9_recallByReversing_13 (by first | rfl | assumption) ?_
      refine g_get M_9_recallByReversing d_9_recallByReversing_14 fl_9_65 (by assumption) (by rfl) ?_
      refine gc_V M_9_recallByReversing 0 0 [] _ d_9_recallByReversing_17 cv_9_165 P1.2.2.1 (by rfl) (by rfl) (Nat.le_of_ble_eq_true (by rfl)) (Nat.le_of_ble_eq_true (by rfl)) (by decide) (by decide) (by decide) (by decide) (C_8_count P1.2.2.1 ?_)
      show gG _ _ _ _ _ _ _ _ _ _
      refine g_icmp_ge M_9_recallByReversing (tgt := 73) d_9_recallByReversing_20 (by decide) (fun _ => ?_) (fun c9 => absurd (nI_le (by omega) (by omega)) c9)
      refine g_iloadn M_9_recallByReversing d_9_recallByReversing_73 (by first | rfl | assumption) ?_
      exact g_iret M_9_recallByReversing d_9_recallByReversing_74 rfl rfl (k h1 a1 H1)
    | succ n ih =>
      intro p h1 hp a1 H1 P1 lv H0l H1l H2l
      obtain ⟨sp1, ok1, m01, T1, N1, v1, W11, W21, W31, D1, E1, l11, ⟨sn1, Z1, ze1⟩, ⟨tr1, Y1⟩, ⟨b1, I1⟩, ⟨ox1, O1⟩, ⟨ya1, Wa1⟩, ⟨yp1, Wp1⟩, ⟨yo1, Wo1⟩, ⟨ps1, Ps1⟩, os1, Os1⟩ := H1.un
      refine g_iloadn M_9_recallByReversing d_9_recallByReversing_12 (by first | rfl | assumption) ?_
      refine g_aloadn M_9_recallByReversing d_9_recallByReversing_13 (by first | rfl | assumption) ?_
      refine g_get M_9_recallByReversing d_9_recallByReversing_14 fl_9_65 (by assumption) (by rfl) ?_
      refine gc_V M_9_recallByReversing 0 0 [] _ d_9_recallByReversing_17 cv_9_165 P1.2.2.1 (by rfl) (by rfl) (Nat.le_of_ble_eq_true (by rfl)) (Nat.le_of_ble_eq_true (by rfl)) (by decide) (by decide) (by decide) (by decide) (C_8_count P1.2.2.1 ?_)
      show gG _ _ _ _ _ _ _ _ _ _
      refine g_icmp_ge M_9_recallByReversing (tgt := 73) d_9_recallByReversing_20 (by decide) (fun c9 => absurd c9 (nI_ge (by omega) (by omega))) (fun _ => ?_)
      refine g_aloadn M_9_recallByReversing d_9_recallByReversing_23 (by first | rfl | assumption) ?_
      refine g_get M_9_recallByReversing d_9_recallByReversing_24 fl_9_65 (by assumption) (by rfl) ?_
      refine g_iloadn M_9_recallByReversing d_9_recallByReversing_27 (by first | rfl | assumption) ?_
      refine g_aloadn M_9_recallByReversing d_9_recallByReversing_28 (by first | rfl | assumption) ?_
      refine g_get M_9_recallByReversing d_9_recallByReversing_29 fl_9_53 (by assumption) (by rfl) ?_
      refine gc_V M_9_recallByReversing 0 0 [_, _] _ d_9_recallByReversing_32 cv_9_231 P1.2.2.1 (by rfl) (by rfl) (Nat.le_of_ble_eq_true (by rfl)) (Nat.le_of_ble_eq_true (by rfl)) (by decide) (by decide) (by decide) (by decide) (C_8_load (by decide) (by decide) P1 (by omega) Wo1 (neL sp (ok0 (by decide)) (ok0 (by decide)) (by decide)) (fun y hy q => by simp only [List.mem_cons, List.not_mem_nil, or_false] at hy q; rcases hy with rfl | rfl | rfl <;> rcases q with q | q <;> exact neL sp (ok0 (by decide)) (ok0 (by decide)) (by decide) q) (fun h2 e2 V2 => ?_))
      have H2 := H1.w15 e2 V2
      have a2 := e2.aLw (L := L) (fun y hy => aL2 (ok0 (by decide)) (ok0 (by decide)) hy)
      have P2 := P1.keep e2 (nin2 sp (ok0 (by decide)) (by decide) (by decide) (by decide)) (nin2 sp (ok0 (by decide)) (by decide) (by decide) (by decide)) (nin2 sp (ok0 (by decide)) (by decide) (by decide) (by decide))
      obtain ⟨sp2, ok2, m02, T2, N2, v2, W12, W22, W32, D2, E2, l12, ⟨sn2, Z2, ze2⟩, ⟨tr2, Y2⟩, ⟨b2, I2⟩, ⟨ox2, O2⟩, ⟨ya2, Wa2⟩, ⟨yp2, Wp2⟩, ⟨yo2, Wo2⟩, ⟨ps2, Ps2⟩, os2, Os2⟩ := H2.un
      have st := fold_snoc (f := minS X.2.1) (a := none) (d := []) (show p < (oriF X.2.1 X.1).length by omega)
      have lt1 : ∀ i, (((oriF X.2.1 X.1).take p).foldl (minS X.2.1) none) = some i → i < X.2.1.1.length := mlt p
      generalize em : (((oriF X.2.1 X.1).take p).foldl (minS X.2.1) none) = mi at st lt1 H1l
      show gG _ _ _ _ _ _ _ _ _ _
      refine g_aloadn M_9_recallByReversing d_9_recallByReversing_35 (by first | rfl | assumption) ?_
      refine g_get M_9_recallByReversing d_9_recallByReversing_36 fl_9_19 (by assumption) (by rfl) ?_
      refine g_get M_9_recallByReversing d_9_recallByReversing_39 fl_9_212 (by assumption) (by rfl) ?_
      refine g_aloadn M_9_recallByReversing d_9_recallByReversing_42 (by first | rfl | assumption) ?_
      refine g_get M_9_recallByReversing d_9_recallByReversing_43 fl_9_53 (by assumption) (by rfl) ?_
      refine gc_V M_9_recallByReversing 0 0 [_] _ d_9_recallByReversing_46 cv_9_234 W12.2.2.1 (by rfl) (by rfl) (Nat.le_of_ble_eq_true (by rfl)) (Nat.le_of_ble_eq_true (by rfl)) (by decide) (by decide) (by decide) (by decide) (C_8_find (by decide) (by decide) W12 V2 ?_)
      show gG _ _ _ _ _ _ _ _ _ _
      refine g_istoren M_9_recallByReversing d_9_recallByReversing_49 (by decide) (by first | rfl | (simp only [gc]; simp [*])) ?_
      refine g_iloadn M_9_recallByReversing d_9_recallByReversing_50 (by first | rfl | assumption) ?_
      refine g_iconst M_9_recallByReversing (v := -1) d_9_recallByReversing_51 (by decide) ?_
      cases q : fst (fun i => decide (X.2.1.1.getD i [] = (oriF X.2.1 X.1).getD p [])) X.2.1.1.length with
      | none =>
        rw [minS_n q] at st
        refine g_icmp_eq M_9_recallByReversing (tgt := 67) d_9_recallByReversing_52 (by decide) (fun _ => ?_) (fun c9 => absurd rfl c9)
        refine g_iinc M_9_recallByReversing (v := nI (p + 1)) d_9_recallByReversing_67 H2l (by decide) (gc_i H1l) (nI_add p 1) ?_
        refine g_goto M_9_recallByReversing (tgt := 12) d_9_recallByReversing_70 (by decide) ?_
        exact ih (p + 1) h2 (by omega) (a1.t a2) H2 P2 _ H0l (by rw [st]; exact H1l) rfl
      | some n9 =>
        have hn := fst_lt q
        refine g_icmp_eq M_9_recallByReversing (tgt := 67) d_9_recallByReversing_52 (by decide) (fun c9 => absurd c9 (oI_ne (n := 20) (fun j hj => by cases hj; omega) (by decide) rfl)) (fun _ => ?_)
        refine g_iloadn M_9_recallByReversing d_9_recallByReversing_55 (by first | rfl | assumption) ?_
        refine g_iconst M_9_recallByReversing (v := -1) d_9_recallByReversing_56 (by decide) ?_
        cases mi with
        | none =>
          rw [minS_0 q] at st
          refine g_icmp_eq M_9_recallByReversing (tgt := 65) d_9_recallByReversing_57 (by decide) (fun _ => ?_) (fun c9 => absurd rfl c9)
          refine g_iloadn M_9_recallByReversing d_9_recallByReversing_65 (by first | rfl | assumption) ?_
          refine g_istoren M_9_recallByReversing d_9_recallByReversing_66 (by decide) (gc_r H0l) ?_
          refine g_iinc M_9_recallByReversing (v := nI (p + 1)) d_9_recallByReversing_67 H2l (by decide) (gc_i (x := nI n9) rfl) (nI_add p 1) ?_
          refine g_goto M_9_recallByReversing (tgt := 12) d_9_recallByReversing_70 (by decide) ?_
          exact ih (p + 1) h2 (by omega) (a1.t a2) H2 P2 _ H0l (by rw [st]; rfl) rfl
        | some m9 =>
          have hm := lt1 _ rfl
          refine g_icmp_eq M_9_recallByReversing (tgt := 65) d_9_recallByReversing_57 (by decide) (fun c9 => absurd c9 (oI_ne (n := 20) (fun j hj => by cases hj; omega) (by decide) rfl)) (fun _ => ?_)
          refine g_iloadn M_9_recallByReversing d_9_recallByReversing_60 (by first | rfl | assumption) ?_
          refine g_iloadn M_9_recallByReversing d_9_recallByReversing_61 (by first | rfl | assumption) ?_
          rw [minS_1 q] at st
          by_cases g : n9 < m9
          rotate_left
          · rw [if_neg g] at st
            refine g_icmp_ge M_9_recallByReversing (tgt := 67) d_9_recallByReversing_62 (by decide) (fun _ => ?_) (fun c9 => absurd (show nI m9 ≤ nI n9 from nI_le (by omega) (by omega)) c9)
            refine g_iinc M_9_recallByReversing (v := nI (p + 1)) d_9_recallByReversing_67 H2l (by decide) (gc_i H1l) (nI_add p 1) ?_
            refine g_goto M_9_recallByReversing (tgt := 12) d_9_recallByReversing_70 (by decide) ?_
            exact ih (p + 1) h2 (by omega) (a1.t a2) H2 P2 _ H0l (by rw [st]; exact H1l) rfl
          rw [if_pos g] at st
          refine g_icmp_ge M_9_recallByReversing (tgt := 67) d_9_recallByReversing_62 (by decide) (fun c9 => absurd (show nI m9 ≤ nI n9 from c9) (nI_ge g (by omega))) (fun _ => ?_)
          refine g_iloadn M_9_recallByReversing d_9_recallByReversing_65 (by first | rfl | assumption) ?_
          refine g_istoren M_9_recallByReversing d_9_recallByReversing_66 (by decide) (gc_r H0l) ?_
          refine g_iinc M_9_recallByReversing (v := nI (p + 1)) d_9_recallByReversing_67 H2l (by decide) (gc_i (x := nI n9) rfl) (nI_add p 1) ?_
          refine g_goto M_9_recallByReversing (tgt := 12) d_9_recallByReversing_70 (by decide) ?_
          exact ih (p + 1) h2 (by omega) (a1.t a2) H2 P2 _ H0l (by rw [st]; rfl) rfl
  exact loop (oriF X.2.1 X.1).length 0 h0 (by omega) a09 H0 P0 _ rfl rfl rfl
