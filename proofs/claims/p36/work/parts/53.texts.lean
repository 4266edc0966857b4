/-! ===== the texts of the law; what its actions keep ===== -/
theorem gRun_app {a b : List Nat} : ∀ {g : Nat × Nat}, gRun g (a ++ b) = (gRun g a).bind (fun g' => gRun g' b) := by
  induction a with
  | nil => exact fun {g} => rfl
  | cons c r ih =>
    intro g
    show (match gStep g c with | some g' => gRun g' (r ++ b) | none => none) = (match gStep g c with | some g' => gRun g' r | none => none).bind _
    cases gStep g c with
    | none => rfl
    | some g' => exact ih
theorem gRun_w {p : Nat} {w : List Nat} (hp : gLet p = p) : ∀ {l : Nat}, w.all sml = true → l + w.length ≤ (if p = 1 ∨ p = 2 then 12 else 4) → gRun (p, l) w = some (p, l + w.length) := by
  induction w with
  | nil => exact fun {l} _ _ => rfl
  | cons c r ih =>
    intro l h hl
    rw [List.all_cons, Bool.and_eq_true] at h
    rw [List.length_cons] at hl ⊢
    have e : gStep (p, l) c = some (p, l + 1) := by
      unfold gStep
      rw [if_pos h.1]
      show (if l + 1 ≤ (if gLet p = 1 ∨ gLet p = 2 then 12 else 4) then some (gLet p, l + 1) else none) = _
      rw [hp, if_pos (by omega)]
    show (match gStep (p, l) c with | some g' => gRun g' r | none => none) = _
    rw [e]
    show gRun (p, l + 1) r = _
    rw [ih h.2 (by omega)]
    congr 2
    omega
theorem oRun_app {a b : List Nat} {x : Or_} : oRun x (a ++ b) = oRun (oRun x a) b := List.foldl_append ..
theorem oRun_w0 {w : List Nat} : ∀ {x : Or_}, x.2.2.1 = 0 → w.all sml = true → oRun x w = (x.1, x.2.1, x.2.2.1, x.2.2.2.1 ++ w, x.2.2.2.2) := by
  induction w with
  | nil => intro x _ _; rw [List.append_nil]; rfl
  | cons c r ih =>
    intro x h0 h
    rw [List.all_cons, Bool.and_eq_true] at h
    have e : oStep x c = (x.1, x.2.1, x.2.2.1, x.2.2.2.1 ++ [c], x.2.2.2.2) := by unfold oStep; rw [if_pos h.1, if_pos h0]
    show oRun (oStep x c) r = _
    rw [e, ih (x := (x.1, x.2.1, x.2.2.1, x.2.2.2.1 ++ [c], x.2.2.2.2)) h0 h.2]
    dsimp only
    rw [List.append_assoc]
    rfl
theorem oRun_w1 {w : List Nat} : ∀ {x : Or_}, x.2.2.1 = nI 1 → w.all sml = true → oRun x w = (x.1, x.2.1, x.2.2.1, x.2.2.2.1, x.2.2.2.2 ++ w) := by
  induction w with
  | nil => intro x _ _; rw [List.append_nil]; rfl
  | cons c r ih =>
    intro x h0 h
    rw [List.all_cons, Bool.and_eq_true] at h
    have e : oStep x c = (x.1, x.2.1, x.2.2.1, x.2.2.2.1, x.2.2.2.2 ++ [c]) := by unfold oStep; rw [if_pos h.1, if_neg (by rw [h0]; decide)]
    show oRun (oStep x c) r = _
    rw [e, ih (x := (x.1, x.2.1, x.2.2.1, x.2.2.2.1, x.2.2.2.2 ++ [c])) h0 h.2]
    dsimp only
    rw [List.append_assoc]
    rfl
theorem sml_no {w : List Nat} (h : w.all sml = true) : ∀ c ∈ w, c ≠ 59 := by
  intro c hc e
  rw [List.all_eq_true] at h
  have := h c hc
  rw [e] at this
  exact absurd this (by decide)
theorem gS_first {g : Nat × Nat} {c : Nat} {r : List Nat} (h : sml c = true) (hg : g = (0, 0) ∨ g = (3, 0)) : gRun g (c :: r) = gRun (gLet g.1, 1) r := by
  show (match gStep g c with | some g' => gRun g' r | none => none) = _
  have e : gStep g c = some (gLet g.1, 1) := by
    unfold gStep
    rw [if_pos h]
    rcases hg with rfl | rfl <;> rfl
  rw [e]
/-- a noun's text -/
theorem tx_noun {w : List Nat} (h : w.all sml = true) (h1 : 1 ≤ w.length) (h2 : w.length ≤ 12) : okT w ∧ oRun o0 w = (nI 0, nI 0, nI 0, w, []) := by
  have eo : oRun o0 w = (nI 0, nI 0, nI 0, w, []) := oRun_w0 (x := o0) rfl h
  refine ⟨⟨?_, by omega, sml_no h, ?_, ?_, ?_⟩, eo⟩
  · cases w with
    | nil => exact absurd h1 (by decide)
    | cons c r =>
      rw [List.all_cons, Bool.and_eq_true] at h
      rw [List.length_cons] at h2
      unfold vT vFrom
      rw [gS_first h.1 (Or.inl rfl), show gLet (0, 0).1 = 1 from rfl, gRun_w rfl h.2 (by rw [if_pos (Or.inl rfl)]; omega)]
      rfl
  · rw [eo]; exact fun k => absurd (show nI 0 = nI 2 from k) (by decide)
  · rw [eo]; exact h2
  · rw [eo]; exact Nat.zero_le _
/-- an irregular word's text -/
theorem tx_irr {w v : List Nat} (h : w.all sml = true) (h1 : 1 ≤ w.length) (h2 : w.length ≤ 4) (g : v.all sml = true) (g1 : 1 ≤ v.length) (g2 : v.length ≤ 5) : okT (w ++ [61] ++ v) ∧ oRun o0 (w ++ [61] ++ v) = (nI 1, nI 0, nI 1, w, v) := by
  have eo : oRun o0 (w ++ [61] ++ v) = (nI 1, nI 0, nI 1, w, v) := by
    rw [oRun_app, oRun_app, show oRun o0 w = (nI 0, nI 0, nI 0, w, []) from oRun_w0 (x := o0) rfl h]
    show oRun (oStep (nI 0, nI 0, nI 0, w, []) 61) v = _
    rw [show oStep (nI 0, nI 0, nI 0, w, []) 61 = (nI 1, nI 0, nI 1, w, []) from rfl, oRun_w1 rfl g]
    rfl
  refine ⟨⟨?_, by rw [List.length_append, List.length_append]; show w.length + 1 + v.length ≤ 15; omega, ?_, ?_, ?_, ?_⟩, eo⟩
  · cases w with
    | nil => exact absurd h1 (by decide)
    | cons c r =>
      rw [List.all_cons, Bool.and_eq_true] at h
      rw [List.length_cons] at h2
      unfold vT vFrom
      rw [List.append_assoc, List.cons_append, gS_first h.1 (Or.inl rfl), show gLet (0, 0).1 = 1 from rfl, gRun_app, gRun_w rfl h.2 (by rw [if_pos (Or.inl rfl)]; omega)]
      show (match gRun (1, 1 + r.length) (61 :: v) with | some g' => gEnd g'.1 g'.2 | none => false) = true
      rw [show gRun (1, 1 + r.length) (61 :: v) = gRun (2, 0) v from rfl, gRun_w rfl g (by rw [if_pos (Or.inr rfl)]; omega)]
      show gEnd 2 (0 + v.length) = true
      unfold gEnd
      rw [decide_eq_true (by omega)]
      rfl
  · intro c hc
    rcases List.mem_append.mp hc with q | q
    · rcases List.mem_append.mp q with q | q
      · exact sml_no h c q
      · rw [List.mem_singleton.mp q]; decide
    · exact sml_no g c q
  · rw [eo]; exact fun k => absurd (show nI 1 = nI 2 from k) (by decide)
  · rw [eo]; show w.length ≤ 12; omega
  · rw [eo]; show v.length ≤ 12; omega
/-- a die's text: what comes behind the star -/
theorem tx_die {c e v : List Nat} {cd : Int32} (hc : (c = [] ∧ cd = nI 0) ∨ (c = [33] ∧ cd = nI 1) ∨ (c = [63] ∧ cd = nI 2)) (h : e.all sml = true) (h2 : e.length ≤ 2) (g : v.all sml = true) (g1 : 1 ≤ v.length) (g2 : v.length ≤ 3) : okT ([42] ++ c ++ e ++ [62] ++ v) ∧ oRun o0 ([42] ++ c ++ e ++ [62] ++ v) = (nI 2, cd, nI 1, e, v) := by
  have eo : oRun o0 ([42] ++ c ++ e ++ [62] ++ v) = (nI 2, cd, nI 1, e, v) := by
    rw [oRun_app, oRun_app, oRun_app, oRun_app]
    have e1 : oRun (oRun o0 [42]) c = (nI 2, cd, nI 0, [], []) := by
      rcases hc with ⟨rfl, rfl⟩ | ⟨rfl, rfl⟩ | ⟨rfl, rfl⟩ <;> rfl
    rw [e1, oRun_w0 rfl h]
    show oRun (oStep (nI 2, cd, nI 0, [] ++ e, []) 62) v = _
    rw [show oStep (nI 2, cd, nI 0, [] ++ e, []) 62 = (nI 2, cd, nI 1, e, []) from rfl, oRun_w1 rfl g]
    rfl
  have cl : c.length ≤ 1 ∧ ∀ d ∈ c, d ≠ 59 := by
    rcases hc with ⟨rfl, -⟩ | ⟨rfl, -⟩ | ⟨rfl, -⟩ <;> decide
  have last : ∀ l, gRun (4, l) ([62] ++ v) = some (5, v.length) := by
    intro l
    show gRun (5, 0) v = _
    rw [gRun_w rfl g (by rw [if_neg (by decide)]; omega), Nat.zero_add]
  have key : gRun (0, 0) ([42] ++ c ++ e ++ [62] ++ v) = some (5, v.length) := by
    rw [List.append_assoc, List.append_assoc, List.append_assoc, List.singleton_append]
    show gRun (3, 0) (c ++ (e ++ ([62] ++ v))) = _
    have four : ∀ l, l + e.length ≤ 4 → gRun (4, l) (e ++ ([62] ++ v)) = some (5, v.length) := by
      intro l hl
      rw [gRun_app, gRun_w rfl h (by rw [if_neg (by decide)]; exact hl)]
      exact last (l + e.length)
    rcases hc with ⟨rfl, -⟩ | ⟨rfl, -⟩ | ⟨rfl, -⟩
    · rw [List.nil_append]
      cases e with
      | nil =>
        show gRun (5, 0) v = _
        rw [gRun_w rfl g (by rw [if_neg (by decide)]; omega), Nat.zero_add]
      | cons d r =>
        rw [List.all_cons, Bool.and_eq_true] at h
        rw [List.length_cons] at h2
        rw [List.cons_append, gS_first h.1 (Or.inr rfl), show gLet (3, 0).1 = 4 from rfl, gRun_app, gRun_w rfl h.2 (by rw [if_neg (by decide)]; omega)]
        exact last (1 + r.length)
    · exact four 0 (by omega)
    · exact four 0 (by omega)
  refine ⟨⟨?_, ?_, ?_, ?_, ?_, ?_⟩, eo⟩
  · unfold vT vFrom
    rw [key]
    show gEnd 5 v.length = true
    unfold gEnd
    rw [decide_eq_true (by omega)]
    rfl
  · simp only [List.length_append, List.length_cons, List.length_nil]
    omega
  · intro d hd
    rcases List.mem_append.mp hd with q | q
    · rcases List.mem_append.mp q with q | q
      · rcases List.mem_append.mp q with q | q
        · rcases List.mem_append.mp q with q | q
          · rw [List.mem_singleton.mp q]; decide
          · exact cl.2 d q
        · exact sml_no h d q
      · rw [List.mem_singleton.mp q]; decide
    · exact sml_no g d q
  · rw [eo]; exact fun _ => ⟨by show e.length ≤ 4; omega, by show v.length ≤ 4; omega⟩
  · rw [eo]; show e.length ≤ 12; omega
  · rw [eo]; show v.length ≤ 12; omega
/-! the actions on a mint -/
theorem L_strike {t n m : Nat} {X : Mt_} (h : invM t X.2) (h1 : 1 ≤ m) (h2 : m ≤ 99) : (¬ n < X.2.1.1.length ∧ aStrike X n m = (90001, X)) ∨ (n < X.2.1.1.length ∧ 30 ≤ X.2.1.2.2.2.2.1.length ∧ aStrike X n m = (90003, X)) ∨
    (n < X.2.1.1.length ∧ ∃ x, aStrike X n m = (cW n X.2.1.2.2.2.2.1 + m, (X.1, x, X.2.2.1, recN X.2.2.2 X.2.1)) ∧ invM (t + 1) (x, X.2.2.1, recN X.2.2.2 X.2.1) ∧ cW n X.2.1.2.2.2.2.1 + m ≤ 99 * (t + 1) ∧ x.2.2.2.2.2.2 ≤ x.2.2.2.2.2.1 ∧ x.2.2.2.2.2.1 - x.2.2.2.2.2.2 = sumH X.2.1.2.2.2.2.1 + m ∧ sumH (x.2.2.2.2.1.filter (stl x)) = sumH (X.2.1.2.2.2.2.1.filter (stl X.2.1))) := by
  by_cases q : n < X.2.1.1.length
  · cases e : stkS X.2.1 n m with
    | none => exact Or.inr (Or.inl ⟨q, stk_none e, by unfold aStrike; rw [if_pos q, e]⟩)
    | some x =>
      obtain ⟨a1, a2, a3, a4⟩ := stk_ok h.1 q h1 h2 e
      have c := a1.2.2.2.2
      have l := cW_le (n := n) (v := x.2.2.2.2.1)
      unfold okCo at c
      exact Or.inr (Or.inr ⟨q, x, by unfold aStrike; rw [if_pos q, e]; dsimp only; rw [a2], h.act a1, by omega, by omega, by omega, a4⟩)
  · exact Or.inl ⟨q, by unfold aStrike; exact if_neg q⟩
theorem L_melt {t n m : Nat} {X : Mt_} (h : invM t X.2) : (¬ n < X.2.1.1.length ∧ aMelt X n m = (90001, X)) ∨ (n < X.2.1.1.length ∧ cW n X.2.1.2.2.2.2.1 < m ∧ aMelt X n m = (90003, X)) ∨
    (n < X.2.1.1.length ∧ ∃ x, aMelt X n m = (cW n X.2.1.2.2.2.2.1 - m, (X.1, x, X.2.2.1, recN X.2.2.2 X.2.1)) ∧ invM (t + 1) (x, X.2.2.1, recN X.2.2.2 X.2.1) ∧ m ≤ cW n X.2.1.2.2.2.2.1 ∧ m ≤ sumH X.2.1.2.2.2.2.1 ∧ x.2.2.2.2.2.2 ≤ x.2.2.2.2.2.1 ∧ x.2.2.2.2.2.1 - x.2.2.2.2.2.2 = sumH X.2.1.2.2.2.2.1 - m) := by
  by_cases q : n < X.2.1.1.length
  · cases e : meS X.2.1 n m with
    | none => exact Or.inr (Or.inl ⟨q, mel_none e, by unfold aMelt; rw [if_pos q, e]⟩)
    | some x =>
      obtain ⟨a1, a2, a3, a4⟩ := mel_ok h.1 e
      have c := a1.2.2.2.2
      unfold okCo at c
      exact Or.inr (Or.inr ⟨q, x, by unfold aMelt; rw [if_pos q, e]; dsimp only; rw [show cW n x.2.2.2.2.1 = cW n X.2.1.2.2.2.2.1 - m by omega], h.act a1, a4, by omega, by omega, by omega⟩)
  · exact Or.inl ⟨q, by unfold aMelt; exact if_neg q⟩
theorem L_dropDie {t d : Nat} {X : Mt_} (h : invM t X.2) : invM (t + 1) (aDropDie X d).2.2 := by
  unfold aDropDie
  split
  · rename_i q
    cases e : ddS X.2.1 d with
    | none => exact h.up (Nat.le_succ t)
    | some x => exact h.act (dd_ok h.1 q e)
  · exact h.up (Nat.le_succ t)
theorem L_dropIrr {t : Nat} {X : Mt_} (h : invM t X.2) : invM (t + 1) (aDropIrr X).2.2 := by
  unfold aDropIrr
  cases e : diR1 X.2.1 with
  | none => exact h.up (Nat.le_succ t)
  | some x => exact h.act (di_ok h.1 e)
theorem L_undo {t : Nat} {X : Mt_} (h : invM t X.2) : invM (t + 1) (aUndo X).2.2 := by
  unfold aUndo
  cases e : X.2.2.2.getLast? with
  | none => exact h.up (Nat.le_succ t)
  | some z => exact ⟨(h.2.2 z (List.mem_of_getLast? e)).up (Nat.le_succ t), fun y hy => (h.2.1 y hy).up (Nat.le_succ t), fun y hy => (h.2.2 y ((List.dropLast_sublist _).subset hy)).up (Nat.le_succ t)⟩
theorem L_restore {t : Nat} {X : Mt_} (h : invM t X.2) : invM (t + 1) (aRestore X).2.2 := by
  unfold aRestore
  cases e : X.2.2.1 with
  | none => exact h.up (Nat.le_succ t)
  | some z =>
    have := h.act ((h.2.1 z e).up (Nat.le_succ t))
    rw [e] at this
    exact this
theorem L_snap {t : Nat} {X : Mt_} (h : invM t X.2) : invM (t + 1) (X.2.1, some X.2.1, X.2.2.2) := ⟨h.1.up (Nat.le_succ t), fun z hz => by cases hz; exact h.1.up (Nat.le_succ t), fun z hz => (h.2.2 z hz).up (Nat.le_succ t)⟩
theorem L_mz {t : Nat} {X : Mt_} (h : invM t X.2) : invM (t + 1) (mzS X.2.1, X.2.2.1, recN X.2.2.2 X.2.1) := h.act (mz_ok h.1).1
/-- carrying out an order: refused, or done -/
theorem L_die {t : Nat} {X : Mt_} {cd : Int32} {e v : List Nat} (h : invM t X.2) (o : oRun o0 X.1 = (nI 2, cd, nI 1, e, v)) (hv : 1 ≤ v.length) : (¬ X.2.1.2.2.2.1.1.length < 12 ∧ aCarry X = (90001, X)) ∨ (X.2.1.2.2.2.1.1.length < 12 ∧ ∃ x, aCarry X = (1, (X.1, x, X.2.2.1, recN X.2.2.2 X.2.1)) ∧ invM (t + 1) (x, X.2.2.1, recN X.2.2.2 X.2.1) ∧ x.2.2.2.1.1.length = X.2.1.2.2.2.1.1.length + 1) := by
  have ea : acO X.2.1 X.1 = acS X.2.1 (nI 2) cd e v := by unfold acO; rw [o]
  cases f : acS X.2.1 (nI 2) cd e v with
  | none => exact Or.inl ⟨ac_dieN f, by unfold aCarry; rw [ea, f]⟩
  | some x =>
    obtain ⟨a1, a2, a3⟩ := ac_die h.1 (fun q => by rw [q] at hv; exact absurd hv (by decide)) f
    exact Or.inr ⟨a3, x, by unfold aCarry; rw [ea, f], h.act a1, a2⟩
theorem L_irr {t : Nat} {X : Mt_} {w v : List Nat} (h : invM t X.2) (o : oRun o0 X.1 = (nI 1, nI 0, nI 1, w, v)) (hv : 1 ≤ v.length) : invM (t + 1) (aCarry X).2.2 ∧ (aCarry X).2.2.1.1 = X.2.1.1 := by
  have ea : acO X.2.1 X.1 = acS X.2.1 (nI 1) (nI 0) w v := by unfold acO; rw [o]
  unfold aCarry
  rw [ea]
  cases f : acS X.2.1 (nI 1) (nI 0) w v with
  | none => exact ⟨h.up (Nat.le_succ t), rfl⟩
  | some x =>
    obtain ⟨a1, a2⟩ := ac_irr h.1 (fun q => by rw [q] at hv; exact absurd hv (by decide)) f
    exact ⟨h.act a1, a2⟩
theorem cW_none {n N : Nat} {v : Hn_} (h : okHe N v) (hn : N ≤ n) : cW n v = 0 := by
  induction v with
  | nil => rfl
  | cons y t ih =>
    rw [cW_cons, ih (fun z hz => h z (List.mem_cons_of_mem _ hz)), if_neg (by have := (h y List.mem_cons_self).1; omega)]
theorem L_noun {t : Nat} {X : Mt_} {w : List Nat} (h : invM t X.2) (o : oRun o0 X.1 = (nI 0, nI 0, nI 0, w, [])) (hw : 1 ≤ w.length ∧ w.length ≤ 12) : aCarry X = (90001, X) ∨ ∃ x, aCarry X = (1, (X.1, x, X.2.2.1, recN X.2.2.2 X.2.1)) ∧ invM (t + 1) (x, X.2.2.1, recN X.2.2.2 X.2.1) ∧ x.1.length = X.2.1.1.length + 1 ∧ cW X.2.1.1.length x.2.2.2.2.1 = 0 := by
  have ea : acO X.2.1 X.1 = acS X.2.1 0 (nI 0) w [] := by unfold acO; rw [o]; rfl
  cases f : acS X.2.1 0 (nI 0) w [] with
  | none => exact Or.inl (by unfold aCarry; rw [ea, f])
  | some x =>
    obtain ⟨a1, a2, a3⟩ := ac_noun h.1 hw f
    exact Or.inr ⟨x, by unfold aCarry; rw [ea, f], h.act a1, a2, by rw [a3]; exact cW_none h.1.2.2.2.1 (Nat.le_refl _)⟩
