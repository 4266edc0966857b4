/-! ===== signs and grammar ===== -/
def sml (c : Nat) : Bool := decide (97 ≤ c ∧ c ≤ 122)
/-- the parts of a text: 0 an order begins, 1 a word, 2 a plural, 3 a die begins, 4 its ending, 5 what it adds -/
def gEnd (p l : Nat) : Bool := p == 1 || ((p == 2 || p == 5) && decide (0 < l))
def gLet (p : Nat) : Nat := if p = 0 then 1 else if p = 3 then 4 else p
def gPart (p l c : Nat) : Option Nat :=
  if c = 59 then (if gEnd p l = true then some 0 else none)
  else if c = 61 then (if p = 1 then some 2 else none)
  else if c = 42 then (if p = 0 then some 3 else none)
  else if c = 33 ∨ c = 63 then (if p = 3 then some 4 else none)
  else if c = 62 then (if p = 3 ∨ p = 4 then some 5 else none)
  else none
/-- a sign is taken: none where no valid text can have it -/
def gStep (g : Nat × Nat) (c : Nat) : Option (Nat × Nat) :=
  if sml c = true then (if g.2 + 1 ≤ (if gLet g.1 = 1 ∨ gLet g.1 = 2 then 12 else 4) then some (gLet g.1, g.2 + 1) else none)
  else match gPart g.1 g.2 c with
    | some p => some (p, 0)
    | none => none
def gmR (h : Hp_) (a : Nat) (g : Nat × Nat) : Prop := h a = some (.inr (1, [.int (nI g.1), .int (nI g.2)])) ∧ g.1 < 6 ∧ g.2 < 100

set_option maxHeartbeats 4000000 in
set_option maxRecDepth 100000 in
theorem C_9_isSmallLetter {c : Nat} {h : Hp_} {Q : Ot_ → Hp_ → Prop} (hc : c < 65536) (k : Q (.inl (some (.int (bI (sml c))))) h) : gG 1 60 0 0 M_9_isSmallLetter 0 (lv_args 0 [.int (nI c)]) [] h Q := by
  have no : ¬ (97 ≤ c ∧ c ≤ 122) → gG 1 60 0 0 M_9_isSmallLetter 16 (lv_args 0 [.int (nI c)]) [] h Q := by
    intro n
    rw [show sml c = false from decide_eq_false n] at k
    refine g_iconst M_9_isSmallLetter (v := nI 0) d_9_isSmallLetter_16 (by decide) ?_
    exact g_iret M_9_isSmallLetter d_9_isSmallLetter_17 rfl (by decide) k
  refine g_iloadn M_9_isSmallLetter d_9_isSmallLetter_0 (by first | rfl | assumption) ?_
  refine g_bipush M_9_isSmallLetter (v := nI 97) d_9_isSmallLetter_1 (by decide) ?_
  refine g_icmp_lt M_9_isSmallLetter (tgt := 16) d_9_isSmallLetter_3 (by decide) (fun d => no (fun z => ?_)) (fun d => ?_)
  · rw [nI_ltI (by omega) (by decide)] at d
    omega
  rw [nI_ltI (by omega) (by decide)] at d
  refine g_iloadn M_9_isSmallLetter d_9_isSmallLetter_6 (by first | rfl | assumption) ?_
  refine g_bipush M_9_isSmallLetter (v := nI 122) d_9_isSmallLetter_7 (by decide) ?_
  refine g_icmp_gt M_9_isSmallLetter (tgt := 16) d_9_isSmallLetter_9 (by decide) (fun e => no (fun z => ?_)) (fun e => ?_)
  · rw [nI_ltI (by decide) (by omega)] at e
    omega
  rw [nI_ltI (by decide) (by omega)] at e
  rw [show sml c = true from decide_eq_true ⟨by omega, by omega⟩] at k
  refine g_iconst M_9_isSmallLetter (v := nI 1) d_9_isSmallLetter_12 (by decide) ?_
  refine g_goto M_9_isSmallLetter (tgt := 17) d_9_isSmallLetter_13 (by decide) ?_
  exact g_iret M_9_isSmallLetter d_9_isSmallLetter_17 rfl (by decide) k
set_option maxHeartbeats 4000000 in
set_option maxRecDepth 100000 in
theorem C_5_sign {t s g j : Nat} {tx : List Nat} {h : Hp_} {Q : Ot_ → Hp_ → Prop} (R : txR h t s g tx) (hj : j < tx.length) (k : Q (.inl (some (.int (nI (tx.getD j 0))))) h) : gG 1 60 0 0 M_5_sign 0 (lv_args 0 [.ref t, .int (nI j)]) [] h Q := by
  obtain ⟨⟨h16, hx9⟩, v, ⟨f, g1, hcc, hf⟩, p, l, hg⟩ := id R
  refine g_iloadn M_5_sign d_5_sign_0 (by first | rfl | assumption) ?_
  refine g_if_lt M_5_sign (tgt := 30) d_5_sign_1 (by decide) (fun c => absurd c (nI_pos (by omega))) (fun _ => ?_)
  refine g_iloadn M_5_sign d_5_sign_4 (by first | rfl | assumption) ?_
  refine g_aloadn M_5_sign d_5_sign_5 (by first | rfl | assumption) ?_
  refine g_get M_5_sign d_5_sign_6 fl_5_22 (by assumption) (by rfl) ?_
  refine g_icmp_ge M_5_sign (tgt := 30) d_5_sign_9 (by decide) (fun c => absurd c (nI_ge hj (by omega))) (fun _ => ?_)
  refine g_iloadn M_5_sign d_5_sign_12 (by first | rfl | assumption) ?_
  refine g_aloadn M_5_sign d_5_sign_13 (by first | rfl | assumption) ?_
  refine g_get M_5_sign d_5_sign_14 fl_5_9 (by assumption) (by rfl) ?_
  refine g_alen M_5_sign d_5_sign_17 (by assumption) ?_
  refine g_icmp_ge M_5_sign (tgt := 30) d_5_sign_18 (by decide) (fun c => absurd c (nI_ge (by omega) (by decide))) (fun _ => ?_)
  refine g_aloadn M_5_sign d_5_sign_21 (by first | rfl | assumption) ?_
  refine g_get M_5_sign d_5_sign_22 fl_5_9 (by assumption) (by rfl) ?_
  refine g_iloadn M_5_sign d_5_sign_25 (by first | rfl | assumption) ?_
  refine g_caload M_5_sign d_5_sign_26 g1 (vp_in_nI (by omega) (by decide)) ?_
  rw [nI_cl (by omega), hf j hj]
  refine g_goto M_5_sign (tgt := 31) d_5_sign_27 (by decide) ?_
  exact g_iret M_5_sign d_5_sign_31 rfl (gCh_n (gCh_of (R.1.get j))) k
set_option maxHeartbeats 4000000 in
set_option maxRecDepth 100000 in
theorem C_1_mayEnd {a : Nat} {g : Nat × Nat} {h : Hp_} {Q : Ot_ → Hp_ → Prop} (G : gmR h a g) (k : Q (.inl (some (.int (bI (gEnd g.1 g.2))))) h) : gG 1 60 0 0 M_1_mayEnd 0 (lv_args 0 [.ref a]) [] h Q := by
  obtain ⟨g0, gp, gl9⟩ := id G
  have eqv : ∀ n, n < 6 → nI g.1 = nI n → g.1 = n := fun n hn e => (nI_eq (by omega) (by omega)).mp e
  have yes : gEnd g.1 g.2 = true → gG 1 60 0 0 M_1_mayEnd 31 (lv_args 0 [.ref a]) [] h Q := by
    intro e
    rw [e] at k
    refine g_iconst M_1_mayEnd (v := nI 1) d_1_mayEnd_31 (by decide) ?_
    refine g_goto M_1_mayEnd (tgt := 36) d_1_mayEnd_32 (by decide) ?_
    exact g_iret M_1_mayEnd d_1_mayEnd_36 rfl (by decide) k
  have no : gEnd g.1 g.2 = false → gG 1 60 0 0 M_1_mayEnd 35 (lv_args 0 [.ref a]) [] h Q := by
    intro e
    rw [e] at k
    refine g_iconst M_1_mayEnd (v := nI 0) d_1_mayEnd_35 (by decide) ?_
    exact g_iret M_1_mayEnd d_1_mayEnd_36 rfl (by decide) k
  have tail : g.1 ≠ 1 → (g.1 = 2 ∨ g.1 = 5) → gG 1 60 0 0 M_1_mayEnd 24 (lv_args 0 [.ref a]) [] h Q := by
    intro n1 e
    have e2 : gEnd g.1 g.2 = decide (0 < g.2) := by
      unfold gEnd
      rcases e with e | e <;> rw [e] <;> simp
    refine g_aloadn M_1_mayEnd d_1_mayEnd_24 (by first | rfl | assumption) ?_
    refine g_get M_1_mayEnd d_1_mayEnd_25 fl_1_15 (by assumption) (by rfl) ?_
    refine g_if_le M_1_mayEnd (tgt := 35) d_1_mayEnd_28 (by decide) (fun c => no (by rw [e2]; exact decide_eq_false (fun z => absurd c (nI_nle z (by omega))))) (fun c => yes (by rw [e2]; exact decide_eq_true (Nat.pos_of_ne_zero (fun z => c (by rw [z]; decide)))))
  refine g_aloadn M_1_mayEnd d_1_mayEnd_0 (by first | rfl | assumption) ?_
  refine g_get M_1_mayEnd d_1_mayEnd_1 fl_1_11 (by assumption) (by rfl) ?_
  refine g_iconst M_1_mayEnd (v := nI 1) d_1_mayEnd_4 (by decide) ?_
  refine g_icmp_eq M_1_mayEnd (tgt := 31) d_1_mayEnd_5 (by decide) (fun e => yes (by rw [gEnd, eqv 1 (by decide) e]; rfl)) (fun n1 => ?_)
  refine g_aloadn M_1_mayEnd d_1_mayEnd_8 (by first | rfl | assumption) ?_
  refine g_get M_1_mayEnd d_1_mayEnd_9 fl_1_11 (by assumption) (by rfl) ?_
  refine g_iconst M_1_mayEnd (v := nI 2) d_1_mayEnd_12 (by decide) ?_
  refine g_icmp_eq M_1_mayEnd (tgt := 24) d_1_mayEnd_13 (by decide) (fun e => tail (fun z => n1 (by rw [z])) (Or.inl (eqv 2 (by decide) e))) (fun n2 => ?_)
  refine g_aloadn M_1_mayEnd d_1_mayEnd_16 (by first | rfl | assumption) ?_
  refine g_get M_1_mayEnd d_1_mayEnd_17 fl_1_11 (by assumption) (by rfl) ?_
  refine g_iconst M_1_mayEnd (v := nI 5) d_1_mayEnd_20 (by decide) ?_
  refine g_icmp_ne M_1_mayEnd (tgt := 35) d_1_mayEnd_21 (by decide) (fun n5 => no ?_) (fun e => tail (fun z => n1 (by rw [z])) (Or.inr (eqv 5 (by decide) e)))
  have e1 : g.1 ≠ 1 := fun z => n1 (by rw [z])
  have e2 : g.1 ≠ 2 := fun z => n2 (by rw [z])
  have e5 : g.1 ≠ 5 := fun z => n5 (by rw [z])
  simp [gEnd, e1, e2, e5]
