/-! ===== what stays true of a mint ===== -/
def okDi (v : Dl_) : Prop := 0 < v.1.length ∧ v.2.1.length = v.1.length ∧ v.2.2.length = v.1.length ∧ v.1.getD 0 [] = [] ∧ v.2.2.getD 0 0 = 0 ∧ ∀ w ∈ v.2.1, w ≠ []
def okHe (n : Nat) (v : Hn_) : Prop := ∀ y ∈ v, y.2.1 < n ∧ 1 ≤ y.2.2
def okNo (ws : List (List Nat)) : Prop := ∀ w ∈ ws, 1 ≤ w.length ∧ w.length ≤ 12
def okIr (ws ps : List (List Nat)) : Prop := ws.Nodup ∧ ps.length = ws.length ∧ ∀ w ∈ ps, w ≠ []
def okCo (t : Nat) (v : Hn_) (a b : Nat) : Prop := sumH v + b = a ∧ a ≤ 99 * t
def invS (t : Nat) (x : Sn_) : Prop := okNo x.1 ∧ okIr x.2.1 x.2.2.1 ∧ okDi x.2.2.2.1 ∧ okHe x.1.length x.2.2.2.2.1 ∧ okCo t x.2.2.2.2.1 x.2.2.2.2.2.1 x.2.2.2.2.2.2
def invM (t : Nat) (Z : Sn_ × Option Sn_ × List Sn_) : Prop := invS t Z.1 ∧ (∀ z, Z.2.1 = some z → invS t z) ∧ ∀ z ∈ Z.2.2, invS t z
theorem invS.up {t t' : Nat} {x : Sn_} (h : invS t x) (l : t ≤ t') : invS t' x := ⟨h.1, h.2.1, h.2.2.1, h.2.2.2.1, h.2.2.2.2.1, Nat.le_trans h.2.2.2.2.2 (Nat.mul_le_mul_left _ l)⟩
theorem invM.up {t t' : Nat} {Z : Sn_ × Option Sn_ × List Sn_} (h : invM t Z) (l : t ≤ t') : invM t' Z := ⟨h.1.up l, fun z hz => (h.2.1 z hz).up l, fun z hz => (h.2.2 z hz).up l⟩
theorem recN_inv {t : Nat} {rc : List Sn_} {x : Sn_} (h : ∀ z ∈ rc, invS t z) (hx : invS t x) : ∀ z ∈ recN rc x, invS t z := by
  intro z hz
  unfold recN at hz
  rcases List.mem_append.mp hz with q | q
  · split at q
    · exact h z (List.mem_of_mem_drop q)
    · exact h z q
  · rw [List.mem_singleton.mp q]; exact hx
/-- an action: the new state's own, the recorded ones -/
theorem invM.act {t : Nat} {Z : Sn_ × Option Sn_ × List Sn_} {x : Sn_} (h : invM t Z) (hx : invS (t + 1) x) : invM (t + 1) (x, Z.2.1, recN Z.2.2 Z.1) :=
  ⟨hx, fun z hz => (h.2.1 z hz).up (Nat.le_succ t), fun z hz => (recN_inv h.2.2 h.1 z hz).up (Nat.le_succ t)⟩
/-! sums -/
theorem sumH_app {a b : Hn_} : sumH (a ++ b) = sumH a + sumH b := by
  unfold sumH
  rw [List.map_append, List.sum_append]
theorem sumH_cons {y : List Nat × Nat × Nat} {b : Hn_} : sumH (y :: b) = y.2.2 + sumH b := rfl
theorem hn_at {v : Hn_} {i : Nat} (h : i < v.length) : v = v.take i ++ hx v i :: v.drop (i + 1) := by
  rw [← hn_drop h, List.take_append_drop]
theorem hset_at {v : Hn_} {i c : Nat} (h : i < v.length) : hset v i c = v.take i ++ ((hx v i).1, (hx v i).2.1, c) :: v.drop (i + 1) := by
  show v.set i ((hx v i).1, (hx v i).2.1, c) = _
  generalize hx v i = y
  have e := hn_at h
  have l : (v.take i).length = i := by rw [List.length_take]; omega
  have e2 := set_mid (a := v.take i) (b := v.drop (i + 1)) (x := hx v i) (y := (y.1, y.2.1, c)) l
  rw [← e] at e2
  exact e2
theorem sumH_set {v : Hn_} {i m : Nat} (h : i < v.length) : sumH (hset v i ((hx v i).2.2 + m)) = sumH v + m := by
  rw [hset_at h]
  have e := congrArg sumH (hn_at h)
  rw [sumH_app, sumH_cons] at e ⊢
  dsimp only at e ⊢
  omega
theorem cW_cons {n : Nat} {y : List Nat × Nat × Nat} {b : Hn_} : cW n (y :: b) = (if y.2.1 = n then y.2.2 else 0) + cW n b := rfl
theorem cW_set {v : Hn_} {n i m : Nat} (h : i < v.length) (o : (hx v i).2.1 = n) : cW n (hset v i ((hx v i).2.2 + m)) = cW n v + m := by
  rw [hset_at h]
  have e := congrArg (cW n) (hn_at h)
  rw [cW_app, cW_cons] at e ⊢
  dsimp only at e ⊢
  rw [if_pos o] at e ⊢
  omega
theorem sumF_set {v : Hn_} {f : List Nat × Nat × Nat → Bool} {i c : Nat} (h : i < v.length) (o : f (hx v i) = false) (o' : f ((hx v i).1, (hx v i).2.1, c) = false) : sumH ((hset v i c).filter f) = sumH (v.filter f) := by
  rw [hset_at h]
  have e := congrArg (fun z => sumH (z.filter f)) (hn_at h)
  rw [List.filter_append, List.filter_cons_of_neg (by rw [o]; decide)] at e
  rw [List.filter_append, List.filter_cons_of_neg (by rw [o']; decide)]
  exact e.symm
theorem hset_mem {v : Hn_} {i c : Nat} (h : i < v.length) : ∀ y ∈ hset v i c, y ∈ v ∨ y = ((hx v i).1, (hx v i).2.1, c) := fun y hy => List.mem_or_eq_of_mem_set hy
theorem cW_le {n : Nat} {v : Hn_} : cW n v ≤ sumH v := by
  induction v with
  | nil => exact Nat.le_refl _
  | cons y t ih =>
    rw [cW_cons, sumH_cons]
    split <;> omega
theorem sumF_le {v : Hn_} {f : List Nat × Nat × Nat → Bool} : sumH (v.filter f) ≤ sumH v := by
  induction v with
  | nil => exact Nat.le_refl _
  | cons y t ih =>
    by_cases q : f y = true
    · rw [List.filter_cons_of_pos q, sumH_cons, sumH_cons]; omega
    · rw [List.filter_cons_of_neg q, sumH_cons]; omega
theorem sumH_len {n : Nat} {v : Hn_} (h : okHe n v) : v.length ≤ sumH v := by
  induction v with
  | nil => exact Nat.le_refl _
  | cons y t ih =>
    have h1 := (h y List.mem_cons_self).2
    have h2 := ih (fun z hz => h z (List.mem_cons_of_mem _ hz))
    rw [sumH_cons, List.length_cons]
    omega
theorem sum_nz {v : Hn_} : sumH (v.filter nzH) = sumH v := by
  induction v with
  | nil => rfl
  | cons y t ih =>
    by_cases q : nzH y = true
    · rw [List.filter_cons_of_pos q, sumH_cons, sumH_cons, ih]
    · rw [List.filter_cons_of_neg q, sumH_cons, ih]
      unfold nzH at q
      simp at q
      omega
theorem cW_nz {n : Nat} {v : Hn_} : cW n (v.filter nzH) = cW n v := by
  induction v with
  | nil => rfl
  | cons y t ih =>
    by_cases q : nzH y = true
    · rw [List.filter_cons_of_pos q, cW_cons, cW_cons, ih]
    · rw [List.filter_cons_of_neg q, cW_cons, ih]
      unfold nzH at q
      simp at q
      rw [q]
      simp
theorem tk_sum {n : Nat} {v : Hn_} : ∀ m, m ≤ cW n v → sumH (tkO n m v) + m = sumH v ∧ cW n (tkO n m v) + m = cW n v := by
  induction v with
  | nil =>
    intro m h
    have h0 : m = 0 := Nat.le_zero.mp h
    subst h0
    exact ⟨rfl, rfl⟩
  | cons y t ih =>
    intro m h
    rw [cW_cons] at h
    by_cases q : y.2.1 = n
    · rw [if_pos q] at h
      have e : tkO n m (y :: t) = (y.1, y.2.1, y.2.2 - min m y.2.2) :: tkO n (m - min m y.2.2) t := if_pos q
      obtain ⟨i1, i2⟩ := ih (m - min m y.2.2) (by omega)
      rw [e, sumH_cons, sumH_cons, cW_cons, cW_cons, if_pos q]
      dsimp only
      rw [if_pos q]
      constructor <;> omega
    · rw [if_neg q] at h
      have e : tkO n m (y :: t) = y :: tkO n m t := if_neg q
      obtain ⟨i1, i2⟩ := ih m (by omega)
      rw [e, sumH_cons, sumH_cons, cW_cons, cW_cons, if_neg q]
      constructor <;> omega
theorem tk_own {n : Nat} {v : Hn_} {N : Nat} (h : ∀ y ∈ v, y.2.1 < N) : ∀ m, ∀ y ∈ tkO n m v, y.2.1 < N := by
  induction v with
  | nil => intro m y hy; cases hy
  | cons z t ih =>
    intro m y hy
    have hz := h z List.mem_cons_self
    have ih' := ih (fun u hu => h u (List.mem_cons_of_mem _ hu))
    by_cases q : z.2.1 = n
    · rw [show tkO n m (z :: t) = (z.1, z.2.1, z.2.2 - min m z.2.2) :: tkO n (m - min m z.2.2) t from if_pos q] at hy
      rcases List.mem_cons.mp hy with rfl | hy
      · exact hz
      · exact ih' _ y hy
    · rw [show tkO n m (z :: t) = z :: tkO n m t from if_neg q] at hy
      rcases List.mem_cons.mp hy with rfl | hy
      · exact hz
      · exact ih' _ y hy
theorem nz_ok {N : Nat} {v : Hn_} (h : ∀ y ∈ v, y.2.1 < N) : okHe N (v.filter nzH) := fun y hy => by
  obtain ⟨h1, h2⟩ := List.mem_filter.mp hy
  unfold nzH at h2
  have h3 := of_decide_eq_true h2
  exact ⟨h y h1, by omega⟩
theorem stz_sum {x : Sn_} {v : Hn_} : sumH (v.map (stZ x)) + sumH (v.filter (stl x)) = sumH v := by
  induction v with
  | nil => rfl
  | cons y t ih =>
    by_cases q : stl x y = true
    · rw [List.map_cons, List.filter_cons_of_pos q, sumH_cons, sumH_cons, sumH_cons, show stZ x y = (y.1, y.2.1, 0) from if_pos q]
      dsimp only
      omega
    · rw [List.map_cons, List.filter_cons_of_neg q, sumH_cons, sumH_cons, show stZ x y = y from if_neg q]
      omega
theorem stz_own {x : Sn_} {y : List Nat × Nat × Nat} : (stZ x y).1 = y.1 ∧ (stZ x y).2.1 = y.2.1 := by
  unfold stZ
  split <;> exact ⟨rfl, rfl⟩
theorem stz_none {x : Sn_} {v : Hn_} : ((v.map (stZ x)).filter nzH).filter (stl x) = [] := by
  rw [List.filter_eq_nil_iff]
  intro y hy hs
  obtain ⟨h1, h2⟩ := List.mem_filter.mp hy
  obtain ⟨z, hz, rfl⟩ := List.mem_map.mp h1
  have e : stl x (stZ x z) = stl x z := by
    unfold stl
    rw [(stz_own (x := x) (y := z)).1, (stz_own (x := x) (y := z)).2]
  rw [e] at hs
  rw [show stZ x z = (z.1, z.2.1, 0) from if_pos hs] at h2
  exact absurd h2 (by unfold nzH; simp)
/-! the actions -/
theorem hpF_at {x : Sn_} {n i : Nat} (h : hpF x n = some i) : i < x.2.2.2.2.1.length ∧ (hx x.2.2.2.2.1 i).2.1 = n ∧ (hx x.2.2.2.2.1 i).1 = plN x n := by
  unfold hpF fst at h
  rw [List.find?_range_eq_some] at h
  have h1 := of_decide_eq_true h.1
  exact ⟨List.mem_range.mp h.2.1, h1.1, h1.2⟩
theorem stk_ok {t n m : Nat} {x x' : Sn_} (h : invS t x) (hn : n < x.1.length) (h1 : 1 ≤ m) (h2 : m ≤ 99) (e : stkS x n m = some x') :
    invS (t + 1) x' ∧ cW n x'.2.2.2.2.1 = cW n x.2.2.2.2.1 + m ∧ sumH x'.2.2.2.2.1 = sumH x.2.2.2.2.1 + m ∧ sumH (x'.2.2.2.2.1.filter (stl x')) = sumH (x.2.2.2.2.1.filter (stl x)) := by
  obtain ⟨i1, i2, i3, i4, i5, i6⟩ := h
  unfold stkS at e
  cases f : hpF x n with
  | some i =>
    rw [f] at e
    cases e
    obtain ⟨a1, a2, a3⟩ := hpF_at f
    have s1 := sumH_set (m := m) a1
    refine ⟨⟨i1, i2, i3, fun y hy => ?_, by show sumH (hset x.2.2.2.2.1 i ((hx x.2.2.2.2.1 i).2.2 + m)) + x.2.2.2.2.2.2 = x.2.2.2.2.2.1 + m; omega, by show x.2.2.2.2.2.1 + m ≤ 99 * (t + 1); omega⟩, cW_set a1 a2, s1, ?_⟩
    · rcases hset_mem a1 y hy with q | q
      · exact i4 y q
      · rw [q]
        have := (i4 _ (hx_mem a1)).1
        exact ⟨this, by show 1 ≤ _ + m; omega⟩
    · have ns : ∀ c, stl x ((hx x.2.2.2.2.1 i).1, (hx x.2.2.2.2.1 i).2.1, c) = false := fun c => by
        unfold stl
        dsimp only
        rw [a2, a3, decide_eq_true rfl]
        rfl
      exact sumF_set (f := stl x) a1 (ns _) (ns _)
  | none =>
    rw [f] at e
    dsimp only at e
    split at e
    · cases e
      have s1 : sumH (x.2.2.2.2.1 ++ [(plN x n, n, m)]) = sumH x.2.2.2.2.1 + m := by rw [sumH_app]; rfl
      refine ⟨⟨i1, i2, i3, fun y hy => ?_, by show sumH (x.2.2.2.2.1 ++ [(plN x n, n, m)]) + x.2.2.2.2.2.2 = x.2.2.2.2.2.1 + m; omega, by show x.2.2.2.2.2.1 + m ≤ 99 * (t + 1); omega⟩, ?_, s1, ?_⟩
      · rcases List.mem_append.mp hy with q | q
        · exact i4 y q
        · rw [List.mem_singleton.mp q]
          exact ⟨hn, h1⟩
      · show cW n (_ ++ _) = _
        rw [cW_app, cW_cons, if_pos rfl]
        rfl
      · have ns : stl x (plN x n, n, m) = false := by
          unfold stl
          dsimp only
          rw [decide_eq_true rfl]
          rfl
        show sumH ((x.2.2.2.2.1 ++ [(plN x n, n, m)]).filter (stl x)) = _
        rw [List.filter_append, List.filter_cons_of_neg (by rw [ns]; decide), List.filter_nil, List.append_nil]
    · cases e
theorem stk_none {n m : Nat} {x : Sn_} (e : stkS x n m = none) : 30 ≤ x.2.2.2.2.1.length := by
  unfold stkS at e
  cases f : hpF x n with
  | some i => rw [f] at e; cases e
  | none =>
    rw [f] at e
    dsimp only at e
    split at e
    · cases e
    · omega
theorem mel_ok {t n m : Nat} {x x' : Sn_} (h : invS t x) (e : meS x n m = some x') :
    invS (t + 1) x' ∧ cW n x'.2.2.2.2.1 + m = cW n x.2.2.2.2.1 ∧ sumH x'.2.2.2.2.1 + m = sumH x.2.2.2.2.1 ∧ m ≤ cW n x.2.2.2.2.1 := by
  obtain ⟨i1, i2, i3, i4, i5, i6⟩ := h
  unfold meS at e
  split at e
  · cases e
  · cases e
    rename_i q
    obtain ⟨s1, s2⟩ := tk_sum (n := n) (v := x.2.2.2.2.1) m (by omega)
    refine ⟨⟨i1, i2, i3, nz_ok (tk_own (fun y hy => (i4 y hy).1) m), ?_, by show x.2.2.2.2.2.1 ≤ 99 * (t + 1); omega⟩, ?_, ?_, by omega⟩
    · show sumH ((tkO n m x.2.2.2.2.1).filter nzH) + (x.2.2.2.2.2.2 + m) = x.2.2.2.2.2.1
      rw [sum_nz]
      omega
    · show cW n ((tkO n m x.2.2.2.2.1).filter nzH) + m = _
      rw [cW_nz]
      exact s2
    · show sumH ((tkO n m x.2.2.2.2.1).filter nzH) + m = _
      rw [sum_nz]
      exact s1
theorem mel_none {n m : Nat} {x : Sn_} (e : meS x n m = none) : cW n x.2.2.2.2.1 < m := by
  unfold meS at e
  split at e
  · assumption
  · cases e
theorem mz_ok {t : Nat} {x : Sn_} (h : invS t x) : invS (t + 1) (mzS x) ∧ sumH ((mzS x).2.2.2.2.1.filter (stl (mzS x))) = 0 ∧ sumH (mzS x).2.2.2.2.1 + sumH (x.2.2.2.2.1.filter (stl x)) = sumH x.2.2.2.2.1 := by
  obtain ⟨i1, i2, i3, i4, i5, i6⟩ := h
  have s := stz_sum (x := x) (v := x.2.2.2.2.1)
  have s2 : sumH (mzS x).2.2.2.2.1 = sumH (x.2.2.2.2.1.map (stZ x)) := sum_nz
  refine ⟨⟨i1, i2, i3, nz_ok (fun y hy => ?_), ?_, by show x.2.2.2.2.2.1 ≤ 99 * (t + 1); omega⟩, ?_, by omega⟩
  · obtain ⟨z, hz, rfl⟩ := List.mem_map.mp hy
    rw [(stz_own (x := x) (y := z)).2]
    exact (i4 z hz).1
  · show sumH (mzS x).2.2.2.2.1 + (x.2.2.2.2.2.2 + sumH (x.2.2.2.2.1.filter (stl x))) = x.2.2.2.2.2.1
    omega
  · show sumH (((x.2.2.2.2.1.map (stZ x)).filter nzH).filter (stl x)) = 0
    rw [stz_none]
    rfl
theorem getD0_er {α : Type} {l : List α} {d : Nat} {z : α} (h : d ≠ 0) : (l.eraseIdx d).getD 0 z = l.getD 0 z := by
  cases l with
  | nil => rfl
  | cons a t =>
    cases d with
    | zero => exact absurd rfl h
    | succ d => rfl
theorem dd_ok {t d : Nat} {x x' : Sn_} (h : invS t x) (hd : d < x.2.2.2.1.1.length) (e : ddS x d = some x') : invS (t + 1) x' := by
  obtain ⟨i1, i2, ⟨d1, d2, d3, d4, d5, d6⟩, i4, i5, i6⟩ := h
  unfold ddS at e
  split at e
  · cases e
  · cases e
    rename_i q
    refine ⟨i1, i2, ⟨?_, ?_, ?_, ?_, ?_, fun w hw => d6 w (List.mem_of_mem_eraseIdx hw)⟩, i4, i5, by show x.2.2.2.2.2.1 ≤ 99 * (t + 1); omega⟩
    · show 0 < (x.2.2.2.1.1.eraseIdx d).length
      rw [List.length_eraseIdx_of_lt hd]; omega
    · show (x.2.2.2.1.2.1.eraseIdx d).length = (x.2.2.2.1.1.eraseIdx d).length
      rw [List.length_eraseIdx_of_lt hd, List.length_eraseIdx_of_lt (by omega), d2]
    · show (x.2.2.2.1.2.2.eraseIdx d).length = (x.2.2.2.1.1.eraseIdx d).length
      rw [List.length_eraseIdx_of_lt hd, List.length_eraseIdx_of_lt (by omega), d3]
    · exact (getD0_er q).trans d4
    · exact (getD0_er q).trans d5
theorem di_ok {t : Nat} {x x' : Sn_} (h : invS t x) (e : diR1 x = some x') : invS (t + 1) x' := by
  obtain ⟨i1, ⟨u1, u2, u3⟩, i3, i4, i5, i6⟩ := h
  unfold diR1 at e
  split at e
  · cases e
  · cases e
    rename_i q
    refine ⟨i1, ⟨u1.sublist (List.eraseIdx_sublist _ _), ?_, fun w hw => u3 w (List.mem_of_mem_eraseIdx hw)⟩, i3, i4, i5, by show x.2.2.2.2.2.1 ≤ 99 * (t + 1); omega⟩
    show (x.2.2.1.eraseIdx (x.2.1.length - 1)).length = (x.2.1.eraseIdx (x.2.1.length - 1)).length
    rw [List.length_eraseIdx_of_lt (by omega), List.length_eraseIdx_of_lt (by omega), u2]
theorem fst_none_ne {ws : List (List Nat)} {w : List Nat} (h : ¬ (fst (fun i => decide (ws.getD i [] = w)) ws.length).isSome = true) : w ∉ ws := by
  intro hw
  obtain ⟨i, hi, e⟩ := List.mem_iff_getElem.mp hw
  apply h
  unfold fst
  rw [List.find?_isSome]
  refine ⟨i, List.mem_range.mpr hi, ?_⟩
  rw [List.getD_eq_getElem?_getD, List.getElem?_eq_getElem hi]
  exact decide_eq_true e
theorem getD0_app {α : Type} {l r : List α} {z : α} (h : 0 < l.length) : (l ++ r).getD 0 z = l.getD 0 z := by
  cases l with
  | nil => exact absurd h (by simp)
  | cons a t => rfl
/-- a die comes -/
theorem ac_die {t : Nat} {x x' : Sn_} {cd : Int32} {w1 w2 : List Nat} (h : invS t x) (hw : w2 ≠ []) (e : acS x (nI 2) cd w1 w2 = some x') : invS (t + 1) x' ∧ x'.2.2.2.1.1.length = x.2.2.2.1.1.length + 1 ∧ x.2.2.2.1.1.length < 12 := by
  obtain ⟨i1, i2, ⟨d1, d2, d3, d4, d5, d6⟩, i4, i5, i6⟩ := h
  unfold acS at e
  rw [if_pos rfl] at e
  split at e
  · cases e
    rename_i q
    refine ⟨⟨i1, i2, ⟨?_, ?_, ?_, ?_, ?_, fun w hw9 => ?_⟩, i4, i5, by show x.2.2.2.2.2.1 ≤ 99 * (t + 1); omega⟩, by show (_ ++ [w1]).length = _; rw [List.length_append]; rfl, q⟩
    · show 0 < (_ ++ [w1]).length
      rw [List.length_append]; omega
    · show (_ ++ [w2]).length = (_ ++ [w1]).length
      rw [List.length_append, List.length_append, d2]; rfl
    · show (_ ++ [cd]).length = (_ ++ [w1]).length
      rw [List.length_append, List.length_append, d3]; rfl
    · exact (getD0_app d1).trans d4
    · exact (getD0_app (by omega)).trans d5
    · rcases List.mem_append.mp hw9 with q | q
      · exact d6 w q
      · rw [List.mem_singleton.mp q]; exact hw
  · cases e
theorem ac_dieN {x : Sn_} {cd : Int32} {w1 w2 : List Nat} (e : acS x (nI 2) cd w1 w2 = none) : ¬ x.2.2.2.1.1.length < 12 := by
  unfold acS at e
  rw [if_pos rfl] at e
  split at e
  · cases e
  · assumption
/-- a noun comes -/
theorem ac_noun {t : Nat} {x x' : Sn_} {cd : Int32} {w1 w2 : List Nat} (h : invS t x) (hw : 1 ≤ w1.length ∧ w1.length ≤ 12) (e : acS x 0 cd w1 w2 = some x') : invS (t + 1) x' ∧ x'.1.length = x.1.length + 1 ∧ x'.2.2.2.2.1 = x.2.2.2.2.1 := by
  obtain ⟨i1, i2, i3, i4, i5, i6⟩ := h
  unfold acS at e
  rw [if_neg (by decide), if_pos rfl] at e
  split at e
  · cases e
  · split at e
    · cases e
      have l : (x.1 ++ [w1]).length = x.1.length + 1 := by rw [List.length_append]; rfl
      refine ⟨⟨fun w hw9 => ?_, i2, i3, fun y hy => ⟨by show y.2.1 < (x.1 ++ [w1]).length; have := (i4 y hy).1; omega, (i4 y hy).2⟩, i5, by show x.2.2.2.2.2.1 ≤ 99 * (t + 1); omega⟩, l, rfl⟩
      rcases List.mem_append.mp hw9 with q | q
      · exact i1 w q
      · rw [List.mem_singleton.mp q]; exact hw
    · cases e
/-- an irregular word -/
theorem ac_irr {t : Nat} {x x' : Sn_} {cd : Int32} {w1 w2 : List Nat} (h : invS t x) (hw : w2 ≠ []) (e : acS x (nI 1) cd w1 w2 = some x') : invS (t + 1) x' ∧ x'.1 = x.1 := by
  obtain ⟨i1, ⟨u1, u2, u3⟩, i3, i4, i5, i6⟩ := h
  unfold acS at e
  rw [if_neg (by decide), if_neg (by decide)] at e
  cases f : fst (fun i => decide (x.2.1.getD i [] = w1)) x.2.1.length with
  | none =>
    rw [f] at e
    dsimp only at e
    split at e
    · cases e
      have nm := fst_none_ne (ws := x.2.1) (w := w1) (by rw [f]; decide)
      refine ⟨⟨i1, ⟨?_, ?_, fun w hw9 => ?_⟩, i3, i4, i5, by show x.2.2.2.2.2.1 ≤ 99 * (t + 1); omega⟩, rfl⟩
      · rw [List.nodup_append]
        exact ⟨u1, by simp, fun a ha b hb q => nm (by rw [← List.mem_singleton.mp hb, ← q]; exact ha)⟩
      · rw [List.length_append, List.length_append, u2]; rfl
      · rcases List.mem_append.mp hw9 with q | q
        · exact u3 w q
        · rw [List.mem_singleton.mp q]; exact hw
    · cases e
  | some i =>
    rw [f] at e
    cases e
    refine ⟨⟨i1, ⟨u1, ?_, fun w hw9 => ?_⟩, i3, i4, i5, by show x.2.2.2.2.2.1 ≤ 99 * (t + 1); omega⟩, rfl⟩
    · rw [List.length_set]; exact u2
    · rcases List.mem_or_eq_of_mem_set hw9 with q | q
      · exact u3 w q
      · rw [q]; exact hw
