/-! ===== nouns found by striking and by reversing are the same ===== -/
theorem fst_at {P : Nat → Bool} {n i : Nat} (h : fst P n = some i) : i < n ∧ P i = true ∧ ∀ j, j < i → P j = false := by
  unfold fst at h
  rw [List.find?_range_eq_some] at h
  exact ⟨List.mem_range.mp h.2.1, h.1, fun j hj => by have := h.2.2 j hj; simpa using this⟩
theorem fst_no {P : Nat → Bool} {n : Nat} (h : fst P n = none) : ∀ j, j < n → P j = false := by
  unfold fst at h
  rw [List.find?_range_eq_none] at h
  exact fun j hj => by have := h j hj; simpa using this
theorem fst_yes {P : Nat → Bool} {n k : Nat} (hk : k < n) (h : P k = true) : ∃ i, fst P n = some i ∧ i ≤ k := by
  cases e : fst P n with
  | none => exact absurd (fst_no e k hk) (by rw [h]; decide)
  | some i =>
    refine ⟨i, rfl, ?_⟩
    rcases Nat.lt_or_ge k i with q | q
    · exact absurd ((fst_at e).2.2 k q) (by rw [h]; decide)
    · exact q
theorem getL_mem {ws : List (List Nat)} {i : Nat} (h : i < ws.length) : ws.getD i [] ∈ ws := by
  rw [List.getD_eq_getElem?_getD, List.getElem?_eq_getElem h]
  exact List.getElem_mem _
theorem nodup_at {ws : List (List Nat)} {i j : Nat} (hn : ws.Nodup) (hi : i < ws.length) (hj : j < ws.length) (e : ws.getD i [] = ws.getD j []) : i = j := by
  rw [List.getD_eq_getElem?_getD, List.getD_eq_getElem?_getD, List.getElem?_eq_getElem hi, List.getElem?_eq_getElem hj] at e
  exact (List.getElem_inj hn).mp e
/-- what lies among the words that reversing finds has this plural -/
theorem ori_pl {t : Nat} {x : Sn_} {u : List Nat} (h : invS t x) : ∀ w ∈ oriF x u, plS x w = u := by
  obtain ⟨-, ⟨u1, u2, u3⟩, -⟩ := h
  have base : ∀ w ∈ oriI x u x.2.1.length, plS x w = u := by
    intro w hw
    unfold oriI at hw
    obtain ⟨i, hi, rfl⟩ := List.mem_map.mp hw
    obtain ⟨hi1, hi2⟩ := List.mem_filter.mp hi
    replace hi1 := List.mem_range.mp hi1
    replace hi2 := of_decide_eq_true hi2
    obtain ⟨j, e, -⟩ := fst_yes (P := fun k => decide (x.2.1.getD k [] = x.2.1.getD i [])) hi1 (decide_eq_true rfl)
    obtain ⟨j1, j2, -⟩ := fst_at e
    have : j = i := nodup_at u1 j1 hi1 (of_decide_eq_true j2)
    subst this
    unfold plS
    rw [e]
    exact hi2
  have step : ∀ (l : List Nat) (acc : List (List Nat)), (∀ w ∈ acc, plS x w = u) → ∀ w ∈ l.foldl (oriS x u) acc, plS x w = u := by
    intro l
    induction l with
    | nil => exact fun acc ha => ha
    | cons d r ih =>
      intro acc ha
      refine ih _ (fun w hw => ?_)
      unfold oriS at hw
      split at hw
      · rename_i q
        rcases List.mem_append.mp hw with z | z
        · exact ha w z
        · rw [List.mem_singleton.mp z]
          unfold oriOk at q
          simp only [Bool.and_eq_true] at q
          exact of_decide_eq_true q.1.2
      · exact ha w hw
  exact step _ _ base
theorem ori_mono {x : Sn_} {u w : List Nat} : ∀ (l : List Nat) (acc : List (List Nat)), w ∈ acc → w ∈ l.foldl (oriS x u) acc := by
  intro l
  induction l with
  | nil => exact fun acc h => h
  | cons d r ih =>
    intro acc h
    refine ih _ ?_
    unfold oriS
    split
    · exact List.mem_append.mpr (Or.inl h)
    · exact h
theorem chG_end {v : Dl_} {w : List Nat} (h0 : v.1.getD 0 [] = []) : ∀ k, eW (v.1.getD (chG v w k) []) w = true := by
  intro k
  induction k with
  | zero =>
    show eW (v.1.getD 0 []) w = true
    rw [h0]
    exact eW_iff.mpr ⟨w, (List.append_nil w).symm⟩
  | succ k ih =>
    unfold chG
    split
    · rename_i q
      have := q.2
      unfold fitD at this
      rw [Bool.and_eq_true] at this
      exact this.1
    · exact ih
/-- a word with this plural is found by reversing -/
theorem ori_in {t : Nat} {x : Sn_} {u w : List Nat} (h : invS t x) (hw : 1 ≤ w.length ∧ w.length ≤ 12) (e : plS x w = u) : w ∈ oriF x u := by
  obtain ⟨-, ⟨u1, u2, u3⟩, ⟨d1, d2, d3, d4, d5, d6⟩, -⟩ := h
  unfold plS at e
  cases f : fst (fun i => decide (x.2.1.getD i [] = w)) x.2.1.length with
  | some i =>
    rw [f] at e
    obtain ⟨j1, j2, -⟩ := fst_at f
    refine ori_mono _ _ ?_
    unfold oriI
    refine List.mem_map.mpr ⟨i, List.mem_filter.mpr ⟨List.mem_range.mpr j1, decide_eq_true e⟩, of_decide_eq_true j2⟩
  | none =>
    rw [f] at e
    dsimp only at e
    have hd := chD_lt (w := w) d1
    generalize hdd : chD x.2.2.2.1 w = d at e hd
    have he : eW (x.2.2.2.1.1.getD d []) w = true := by
      rw [← hdd]
      exact chG_end d4 _
    obtain ⟨p, hp⟩ := eW_iff.mp he
    have eu : u = p ++ x.2.2.2.1.2.1.getD d [] := by
      rw [← e]
      unfold prD
      have : w.take (w.length - (x.2.2.2.1.1.getD d []).length) = p := by
        rw [hp]
        rw [show (p ++ x.2.2.2.1.1.getD d []).length - (x.2.2.2.1.1.getD d []).length = p.length by rw [List.length_append]; omega]
        exact List.take_left ..
      rw [this]
    have er : rvD x.2.2.2.1 d u = w := by
      unfold rvD
      have : u.take (u.length - (x.2.2.2.1.2.1.getD d []).length) = p := by
        rw [eu, show (p ++ x.2.2.2.1.2.1.getD d []).length - (x.2.2.2.1.2.1.getD d []).length = p.length by rw [List.length_append]; omega]
        exact List.take_left ..
      rw [this]
      exact hp.symm
    have ea : eW (x.2.2.2.1.2.1.getD d []) u = true := eW_iff.mpr ⟨p, eu⟩
    have epl : plS x w = u := by
      unfold plS
      rw [f]
      dsimp only
      rw [hdd]
      exact e
    have inD : w ∈ oriD x u (d + 1) := by
      rw [oriD_next]
      unfold oriS
      by_cases g : (fst (fun i => decide ((oriD x u d).getD i [] = w)) (oriD x u d).length).isSome = true
      · have mem : w ∈ oriD x u d := by
          obtain ⟨i, hi⟩ := Option.isSome_iff_exists.mp g
          obtain ⟨i1, i2, -⟩ := fst_at hi
          rw [← of_decide_eq_true i2]
          exact getL_mem i1
        split
        · exact List.mem_append.mpr (Or.inl mem)
        · exact mem
      · have ok : oriOk x u (oriD x u d) d = true := by
          unfold oriOk
          rw [er, ea, decide_eq_true hw, decide_eq_true epl]
          simpa using g
        rw [if_pos ok, er]
        exact List.mem_append.mpr (Or.inr (List.mem_singleton.mpr rfl))
    unfold oriF
    have split : ∀ k, d + 1 ≤ k → w ∈ oriD x u k := by
      intro k hk
      induction k with
      | zero => omega
      | succ k ih =>
        by_cases q : d + 1 = k + 1
        · rw [← q]; exact inD
        · rw [oriD_next]
          have := ih (by omega)
          unfold oriS
          split
          · exact List.mem_append.mpr (Or.inl this)
          · exact this
    exact split _ hd
def ixN (x : Sn_) (w : List Nat) : Option Nat := fst (fun i => decide (x.1.getD i [] = w)) x.1.length
theorem minS_ix {x : Sn_} {a : Option Nat} {w : List Nat} : minS x a w = match ixN x w with
  | none => a
  | some n => match a with
    | none => some n
    | some m => if n < m then some n else some m := rfl
theorem fold_min {x : Sn_} : ∀ (l : List (List Nat)) (a : Option Nat), (∀ m, l.foldl (minS x) a = some m → a = some m ∨ ∃ w ∈ l, ixN x w = some m) ∧ ∀ m', (a = some m' ∨ ∃ w ∈ l, ixN x w = some m') → ∃ m, l.foldl (minS x) a = some m ∧ m ≤ m' := by
  intro l
  induction l with
  | nil =>
    intro a
    refine ⟨fun m h => Or.inl h, fun m' h => ?_⟩
    rcases h with h | ⟨w, hw, -⟩
    · exact ⟨m', h, Nat.le_refl _⟩
    · cases hw
  | cons w r ih =>
    intro a
    obtain ⟨i1, i2⟩ := ih (minS x a w)
    have one : ∀ m, minS x a w = some m → a = some m ∨ ixN x w = some m := by
      intro m h
      rw [minS_ix] at h
      cases e : ixN x w with
      | none => rw [e] at h; exact Or.inl h
      | some n =>
        rw [e] at h
        cases a with
        | none => exact Or.inr h
        | some q =>
          dsimp only at h
          split at h
          · exact Or.inr h
          · exact Or.inl h
    have two : ∀ m', (a = some m' ∨ ixN x w = some m') → ∃ m, minS x a w = some m ∧ m ≤ m' := by
      intro m' h
      rw [minS_ix]
      cases e : ixN x w with
      | none =>
        rcases h with h | h
        · exact ⟨m', h, Nat.le_refl _⟩
        · rw [e] at h; cases h
      | some n =>
        cases a with
        | none =>
          rcases h with h | h
          · cases h
          · rw [e] at h; cases h; exact ⟨_, rfl, Nat.le_refl _⟩
        | some q =>
          dsimp only
          by_cases g : n < q
          · rw [if_pos g]
            refine ⟨n, rfl, ?_⟩
            rcases h with h | h
            · cases h; omega
            · rw [e] at h; cases h; exact Nat.le_refl _
          · rw [if_neg g]
            refine ⟨q, rfl, ?_⟩
            rcases h with h | h
            · cases h; exact Nat.le_refl _
            · rw [e] at h; cases h; omega
    refine ⟨fun m h => ?_, fun m' h => ?_⟩
    · rcases i1 m h with q | ⟨v, hv, q⟩
      · rcases one m q with q | q
        · exact Or.inl q
        · exact Or.inr ⟨w, List.mem_cons_self, q⟩
      · exact Or.inr ⟨v, List.mem_cons_of_mem _ hv, q⟩
    · rcases h with h | ⟨v, hv, h⟩
      · obtain ⟨m1, q1, q2⟩ := two m' (Or.inl h)
        obtain ⟨m2, q3, q4⟩ := i2 m1 (Or.inl q1)
        exact ⟨m2, q3, by omega⟩
      · rcases List.mem_cons.mp hv with rfl | hv
        · obtain ⟨m1, q1, q2⟩ := two m' (Or.inr h)
          obtain ⟨m2, q3, q4⟩ := i2 m1 (Or.inl q1)
          exact ⟨m2, q3, by omega⟩
        · exact i2 m' (Or.inr ⟨v, hv, h⟩)
theorem found_same {t : Nat} {x : Sn_} {u : List Nat} (h : invS t x) : rrF x u = rsF x u := by
  obtain ⟨f1, f2⟩ := fold_min (x := x) (oriF x u) none
  have at_ : ∀ m, rrF x u = some m → m < x.1.length ∧ plN x m = u := by
    intro m hm
    rcases f1 m hm with q | ⟨w, hw, q⟩
    · cases q
    · obtain ⟨a1, a2, -⟩ := fst_at q
      refine ⟨a1, ?_⟩
      unfold plN
      rw [of_decide_eq_true a2]
      exact ori_pl h w hw
  cases e : rsF x u with
  | none =>
    cases g : rrF x u with
    | none => rfl
    | some m =>
      obtain ⟨a1, a2⟩ := at_ m g
      exact absurd (fst_no e m a1) (by rw [decide_eq_true a2]; decide)
  | some n =>
    obtain ⟨n1, n2, n3⟩ := fst_at e
    have n2' : plS x (x.1.getD n []) = u := of_decide_eq_true n2
    have mem := ori_in h (h.1 _ (getL_mem n1)) n2'
    obtain ⟨i, e1, e2⟩ := fst_yes (P := fun i => decide (x.1.getD i [] = x.1.getD n [])) n1 (decide_eq_true rfl)
    obtain ⟨m, g1, g2⟩ := f2 i (Or.inr ⟨_, mem, e1⟩)
    have g1' : rrF x u = some m := g1
    rw [g1']
    obtain ⟨a1, a2⟩ := at_ m g1
    rcases Nat.lt_or_ge m n with q | q
    · exact absurd (n3 m q) (by rw [decide_eq_true a2]; decide)
    · congr 1
      omega
/-- a noun's plural is found, by a noun not behind it, and more than no word has it -/
theorem found_k {t k : Nat} {x : Sn_} (h : invS t x) (hk : k < x.1.length) : (∃ i, rsF x (plN x k) = some i ∧ i ≤ k) ∧ 1 ≤ (oriF x (plN x k)).length :=
  ⟨fst_yes (P := fun n => decide (plN x n = plN x k)) hk (decide_eq_true rfl), List.length_pos_of_mem (ori_in h (h.1 _ (getL_mem hk)) rfl)⟩
theorem vRev_eq {t : Nat} {X : Mt_} (h : invS t X.2.1) : vRev X = vRecall X := by
  unfold vRev vRecall
  rw [found_same h]
/-! the rest of what isWell asks -/
theorem pl_pos {t n : Nat} {x : Sn_} (h : invS t x) : 1 ≤ (plN x n).length := by
  obtain ⟨-, ⟨u1, u2, u3⟩, ⟨d1, d2, d3, d4, d5, d6⟩, -⟩ := h
  have pos : ∀ w : List Nat, w ≠ [] → 1 ≤ w.length := fun w hw => by
    cases w with
    | nil => exact absurd rfl hw
    | cons a r => simp
  unfold plN plS
  cases f : fst (fun i => decide (x.2.1.getD i [] = x.1.getD n [])) x.2.1.length with
  | some i =>
    obtain ⟨j1, -, -⟩ := fst_at f
    exact pos _ (u3 _ (getL_mem (by omega)))
  | none =>
    dsimp only
    unfold prD
    rw [List.length_append]
    have := pos _ (d6 _ (getL_mem (ws := x.2.2.2.1.2.1) (i := chD x.2.2.2.1 (x.1.getD n [])) (by have := chD_lt (w := x.1.getD n []) d1; omega)))
    omega
theorem fit0 {t : Nat} {x : Sn_} (h : invS t x) : x.1.countP (fun w => fitD x.2.2.2.1 0 w) = x.1.length := by
  obtain ⟨-, -, ⟨d1, d2, d3, d4, d5, d6⟩, -⟩ := h
  rw [List.countP_eq_length]
  intro w hw
  unfold fitD mC
  rw [d4, d5, eW_iff.mpr ⟨w, (List.append_nil w).symm⟩]
  rfl
theorem amb_ne {ws : List (List Nat)} : ambF ws ≠ 1 := by
  intro h
  unfold ambF at h
  have ex : ∃ w ∈ ws, 1 < ws.countP (fun v => decide (v = w)) := by
    have : 0 < ws.countP (fun w => decide (1 < ws.countP (fun v => decide (v = w)))) := by omega
    obtain ⟨w, hw, q⟩ := List.countP_pos_iff.mp this
    exact ⟨w, hw, of_decide_eq_true q⟩
  obtain ⟨w, hw, q⟩ := ex
  have : ws.countP (fun v => decide (v = w)) ≤ ws.countP (fun w => decide (1 < ws.countP (fun v => decide (v = w)))) := by
    refine List.countP_mono_left (fun v hv e => ?_)
    rw [of_decide_eq_true e]
    exact decide_eq_true q
  omega
/-- the coins of the first N nouns -/
def sumN (v : Hn_) : Nat → Nat
  | 0 => 0
  | N + 1 => sumN v N + cW N v
theorem sumN_cons {y : List Nat × Nat × Nat} {v : Hn_} : ∀ N, sumN (y :: v) N = (if y.2.1 < N then y.2.2 else 0) + sumN v N := by
  intro N
  induction N with
  | zero => rfl
  | succ N ih =>
    show sumN (y :: v) N + cW N (y :: v) = _ + (sumN v N + cW N v)
    rw [ih, cW_cons]
    by_cases a : y.2.1 < N
    · rw [if_pos a, if_neg (by omega), if_pos (by omega)]; omega
    · by_cases b : y.2.1 = N
      · rw [if_neg a, if_pos b, if_pos (by omega)]; omega
      · rw [if_neg a, if_neg b, if_neg (by omega)]; omega
theorem sumN_all {N : Nat} {v : Hn_} (h : okHe N v) : sumN v N = sumH v := by
  induction v with
  | nil =>
    have : ∀ N, sumN [] N = 0 := fun N => by
      induction N with
      | zero => rfl
      | succ N ih => show sumN [] N + 0 = 0; rw [ih]
    exact this N
  | cons y t ih =>
    rw [sumN_cons, sumH_cons, if_pos (h y List.mem_cons_self).1, ih (fun z hz => h z (List.mem_cons_of_mem _ hz))]
/-- the regular nouns among the first N -/
def regN (x : Sn_) : Nat → Nat
  | 0 => 0
  | N + 1 => regN x N + if (irF x N).isSome = true then 0 else 1
theorem regN_all {x : Sn_} (h : x.2.1.length = 0) : ∀ N, regN x N = N := by
  intro N
  induction N with
  | zero => rfl
  | succ N ih =>
    show regN x N + _ = N + 1
    rw [ih]
    unfold irF
    rw [h]
    rfl
theorem regN_le {x : Sn_} : ∀ N, regN x N ≤ N := by
  intro N
  induction N with
  | zero => exact Nat.le_refl _
  | succ N ih =>
    show regN x N + (if _ then 0 else 1) ≤ N + 1
    split <;> omega
