/-! ===== what the cells mean: words, lists of words, lists of numbers ===== -/
def gCh (x : Int32) : Prop := ∃ k : Nat, k < 65536 ∧ x = nI k
theorem gCh_n {x : Int32} (h : gCh x) : narrow .char (.int x) = .int x := by
  obtain ⟨k, h1, rfl⟩ := h
  exact (pk_charN h1).1
theorem gCh_f {x : Int32} (h : gCh x) : fits .char (.int x) = true := by
  obtain ⟨k, h1, rfl⟩ := h
  exact (pk_charN h1).2
theorem gCh_0 : gCh 0 := ⟨0, by decide, rfl⟩
theorem gCh_of {k : Nat} (h : k < 65536) : gCh (nI k) := ⟨k, h, rfl⟩
def okW (n : Nat) (w : List Nat) : Prop := w.length ≤ n ∧ ∀ x ∈ w, x < 65536
theorem okW.get {n : Nat} {w : List Nat} (h : okW n w) (j : Nat) : w.getD j 0 < 65536 := by
  by_cases hj : j < w.length
  · rw [List.getD_eq_getElem?_getD, List.getElem?_eq_getElem hj]
    exact h.2 _ (List.getElem_mem hj)
  · rw [List.getD_eq_getElem?_getD, List.getElem?_eq_none (by omega)]
    decide
/-- a Word that holds w -/
def wdR (h : Hp_) (a la : Nat) (w : List Nat) : Prop := okW 16 w ∧ h a = some (.inr (7, [.ref la, .int (nI w.length)])) ∧ ∃ f, h la = some (.inl (false, .char, (16, .inl f))) ∧ (∀ j, j < 16 → gCh (f j)) ∧ ∀ j, j < w.length → f j = nI (w.getD j 0)
/-- Words that hold ws -/
def wsR (h : Hp_) (a la na rows width : Nat) (ws : List (List Nat)) : Prop := ws.length ≤ rows ∧ (∀ w ∈ ws, okW width w) ∧ h a = some (.inr (8, [.int (nI width), .ref la, .ref na, .int (nI ws.length)])) ∧
  ∃ f g, h la = some (.inl (false, .char, (rows * width, .inl f))) ∧ h na = some (.inl (false, .int, (rows, .inl g))) ∧ (∀ j, j < rows * width → gCh (f j)) ∧ ∀ i, i < ws.length → g i = nI (ws.getD i []).length ∧ ∀ j, j < (ws.getD i []).length → f (i * width + j) = nI ((ws.getD i []).getD j 0)
/-- an array of n ints that begins with xs -/
def nmR (h : Hp_) (a n : Nat) (xs : List Int32) : Prop := xs.length ≤ n ∧ ∃ g, h a = some (.inl (false, .int, (n, .inl g))) ∧ ∀ i, i < xs.length → g i = xs.getD i 0
theorem wdR.keep {h h' : Hp_} {S A : List Nat} {a la : Nat} {w : List Nat} (H : wdR h a la w) (e : gExt h h' S A) (h1 : a ∉ S) (h2 : la ∉ S) : wdR h' a la w := by
  obtain ⟨k1, k2, f, k3, k4⟩ := H
  exact ⟨k1, e.keep k2 h1, f, e.keep k3 h2, k4⟩
theorem wsR.keep {h h' : Hp_} {S A : List Nat} {a la na rows width : Nat} {ws : List (List Nat)} (H : wsR h a la na rows width ws) (e : gExt h h' S A) (h1 : a ∉ S) (h2 : la ∉ S) (h3 : na ∉ S) : wsR h' a la na rows width ws := by
  obtain ⟨k1, k2, k3, f, g, k4, k5, k6⟩ := H
  exact ⟨k1, k2, e.keep k3 h1, f, g, e.keep k4 h2, e.keep k5 h3, k6⟩
theorem nmR.keep {h h' : Hp_} {S A : List Nat} {a n : Nat} {xs : List Int32} (H : nmR h a n xs) (e : gExt h h' S A) (h1 : a ∉ S) : nmR h' a n xs := by
  obtain ⟨k1, g, k2, k3⟩ := H
  exact ⟨k1, g, e.keep k2 h1, k3⟩
theorem wsA.toR {h : Hp_} {a la na rows width : Nat} (H : wsA h a la na rows width w30) : wsR h a la na rows width [] := by
  obtain ⟨h1, ⟨f, h2, h3⟩, g, h4, h5⟩ := H
  refine ⟨Nat.zero_le _, fun w hw => (nomatch hw), h1, f, g, h2, h4, fun j hj => ?_, fun i hi => absurd hi (Nat.not_lt_zero i)⟩
  rw [h3 j hj]
  exact gCh_0
theorem wdA.toR {h : Hp_} {a la : Nat} (H : wdA h a la (fun _ => 0) 0) : wdR h a la [] := by
  obtain ⟨h1, f, h2, h3⟩ := H
  refine ⟨⟨Nat.zero_le _, fun x hx => (nomatch hx)⟩, h1, f, h2, fun j hj => ?_, fun i hi => absurd hi (Nat.not_lt_zero i)⟩
  rw [h3 j hj]
  exact gCh_0
theorem arA.toR {h : Hp_} {a n : Nat} (H : arA h a .int n (fun _ => 0)) : nmR h a n [] := by
  obtain ⟨f, h2, h3⟩ := H
  exact ⟨Nat.zero_le _, f, h2, fun i hi => absurd hi (Nat.not_lt_zero i)⟩
/-- the dies: endings, what they add, conditions -/
abbrev Dl_ : Type := List (List Nat) × List (List Nat) × List Int32
def diR (h : Hp_) (r : Nat → Nat) (v : Dl_) : Prop := h (r 0) = some (.inr (0, [.ref (r 1), .ref (r 4), .ref (r 7)])) ∧ wsR h (r 1) (r 2) (r 3) 12 4 v.1 ∧ wsR h (r 4) (r 5) (r 6) 12 4 v.2.1 ∧ nmR h (r 7) 12 v.2.2 ∧ v.2.1.length = v.1.length ∧ v.2.2.length = v.1.length
/-- the heaps: marks, owners, coins -/
abbrev Hl_ : Type := List (List Nat) × List Int32 × List Int32
def heR (h : Hp_) (r : Nat → Nat) (v : Hl_) : Prop := h (r 0) = some (.inr (2, [.ref (r 1), .ref (r 4), .ref (r 5)])) ∧ wsR h (r 1) (r 2) (r 3) 30 16 v.1 ∧ nmR h (r 4) 30 v.2.1 ∧ nmR h (r 5) 30 v.2.2 ∧ v.2.1.length = v.1.length ∧ v.2.2.length = v.1.length
/-- a state: nouns, irregular words, their plurals, dies, heaps, struck, melted -/
abbrev Sl_ : Type := List (List Nat) × List (List Nat) × List (List Nat) × Dl_ × Hl_ × Int32 × Int32
def stR (h : Hp_) (r : Nat → Nat) (v : Sl_) : Prop :=
  h (r 0) = some (.inr (6, [.ref (r 1), .ref (r 4), .ref (r 7), .ref (r 10), .ref (r 18), .int v.2.2.2.2.2.1, .int v.2.2.2.2.2.2])) ∧ wsR h (r 1) (r 2) (r 3) 20 12 v.1 ∧ wsR h (r 4) (r 5) (r 6) 10 12 v.2.1 ∧ wsR h (r 7) (r 8) (r 9) 10 12 v.2.2.1 ∧
  diR h (fun k => r (10 + k)) v.2.2.2.1 ∧ heR h (fun k => r (18 + k)) v.2.2.2.2.1 ∧ v.2.2.1.length = v.2.1.length
theorem diR.keep {h h' : Hp_} {S A : List Nat} {r : Nat → Nat} {v : Dl_} (H : diR h r v) (x : gExt h h' S A) (hs : ∀ k, k < 8 → r k ∉ S) : diR h' r v := by
  obtain ⟨h1, h2, h3, h4, h5⟩ := H
  exact ⟨x.keep h1 (hs _ (by decide)), h2.keep x (hs _ (by decide)) (hs _ (by decide)) (hs _ (by decide)), h3.keep x (hs _ (by decide)) (hs _ (by decide)) (hs _ (by decide)), h4.keep x (hs _ (by decide)), h5⟩
theorem heR.keep {h h' : Hp_} {S A : List Nat} {r : Nat → Nat} {v : Hl_} (H : heR h r v) (x : gExt h h' S A) (hs : ∀ k, k < 6 → r k ∉ S) : heR h' r v := by
  obtain ⟨h1, h2, h3, h4, h5⟩ := H
  exact ⟨x.keep h1 (hs _ (by decide)), h2.keep x (hs _ (by decide)) (hs _ (by decide)) (hs _ (by decide)), h3.keep x (hs _ (by decide)), h4.keep x (hs _ (by decide)), h5⟩
theorem stR.keep {h h' : Hp_} {S A : List Nat} {r : Nat → Nat} {v : Sl_} (H : stR h r v) (x : gExt h h' S A) (hs : ∀ k, k < 24 → r k ∉ S) : stR h' r v := by
  obtain ⟨h1, h2, h3, h4, h5, h6, h7⟩ := H
  exact ⟨x.keep h1 (hs _ (by decide)), h2.keep x (hs _ (by decide)) (hs _ (by decide)) (hs _ (by decide)), h3.keep x (hs _ (by decide)) (hs _ (by decide)) (hs _ (by decide)), h4.keep x (hs _ (by decide)) (hs _ (by decide)) (hs _ (by decide)), h5.keep x (fun k hk => hs _ (by omega)), h6.keep x (fun k hk => hs _ (by omega)), h7⟩
theorem stA.toR {h : Hp_} {r : Nat → Nat} (H : stA h r st0) : stR h r ([], [], [], ([], [], []), ([], [], []), 0, 0) := by
  obtain ⟨h1, h2, h3, h4, ⟨d1, d2, d3, d4⟩, e1, e2, e3, e4⟩ := H
  exact ⟨h1, h2.toR, h3.toR, h4.toR, ⟨d1, d2.toR, d3.toR, d4.toR, rfl, rfl⟩, ⟨e1, e2.toR, e3.toR, e4.toR, rfl, rfl⟩, rfl⟩
