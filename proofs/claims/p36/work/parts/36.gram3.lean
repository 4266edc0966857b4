/-! ===== grammar: a letter, a sign ===== -/
def gLim (p : Nat) : Nat := if p = 1 ∨ p = 2 then 12 else 4
set_option maxHeartbeats 4000000 in
set_option maxRecDepth 100000 in
theorem C_1_letTail {a p l : Nat} {h : Hp_} {Q : Ot_ → Hp_ → Prop} (hp : p < 6) (hl : l < 99) (g0 : h a = some (.inr (1, [.int (nI p), .int (nI l)]))) (k : ∀ h', gExt h h' [a] [] → gmR h' a (p, l + 1) → Q (.inl (some (.int (bI (decide (l + 1 ≤ gLim p)))))) h') : gG 1 60 0 0 M_1_takeLetter 28 (lv_args 0 [.ref a]) [] h Q := by
  have eqp : ∀ n, n < 6 → nI p = nI n → p = n := fun n hn e => (nI_eq (by omega) (by omega)).mp e
  refine g_aloadn M_1_takeLetter d_1_takeLetter_28 (by first | rfl | assumption) ?_
  refine g_dup M_1_takeLetter d_1_takeLetter_29 (by rfl) ?_
  refine g_get M_1_takeLetter d_1_takeLetter_30 fl_1_15 (by assumption) (by rfl) ?_
  refine g_iconst M_1_takeLetter (v := nI 1) d_1_takeLetter_33 (by decide) ?_
  refine g_iadd M_1_takeLetter d_1_takeLetter_34 ?_
  rw [nI_add]
  refine e_put M_1_takeLetter d_1_takeLetter_35 pt_1_15 g0 (by rfl) (by rfl) (fun h1 v1 e1 => ?_)
  have k1 := k h1 e1 ⟨v1, hp, by show l + 1 < 100; omega⟩
  have cmp : ∀ n, n ≤ 12 → gLim p = n → gG 1 60 0 0 M_1_takeLetter 64 (lv_args 0 [.ref a]) [.int (nI n), .int (nI (l + 1))] h1 Q := by
    intro n hn e
    rw [e] at k1
    by_cases q : l + 1 ≤ n
    · rw [decide_eq_true q] at k1
      refine g_icmp_gt M_1_takeLetter (tgt := 71) d_1_takeLetter_64 (by decide) (fun c => absurd c (nI_nlt q (by omega))) (fun _ => ?_)
      refine g_iconst M_1_takeLetter (v := nI 1) d_1_takeLetter_67 (by decide) ?_
      refine g_goto M_1_takeLetter (tgt := 72) d_1_takeLetter_68 (by decide) ?_
      exact g_iret M_1_takeLetter d_1_takeLetter_72 rfl (by decide) k1
    · rw [decide_eq_false q] at k1
      refine g_icmp_gt M_1_takeLetter (tgt := 71) d_1_takeLetter_64 (by decide) (fun _ => ?_) (fun c => absurd (nI_lt (by omega) (by omega)) c)
      refine g_iconst M_1_takeLetter (v := nI 0) d_1_takeLetter_71 (by decide) ?_
      exact g_iret M_1_takeLetter d_1_takeLetter_72 rfl (by decide) k1
  have big : (p = 1 ∨ p = 2) → gG 1 60 0 0 M_1_takeLetter 58 (lv_args 0 [.ref a]) [.int (nI (l + 1))] h1 Q := by
    intro pp
    refine g_bipush M_1_takeLetter (v := nI 12) d_1_takeLetter_58 (by decide) ?_
    refine g_goto M_1_takeLetter (tgt := 64) d_1_takeLetter_60 (by decide) ?_
    exact cmp 12 (by decide) (if_pos pp)
  refine g_aloadn M_1_takeLetter d_1_takeLetter_38 (by first | rfl | assumption) ?_
  refine g_get M_1_takeLetter d_1_takeLetter_39 fl_1_15 (by assumption) (by rfl) ?_
  refine g_aloadn M_1_takeLetter d_1_takeLetter_42 (by first | rfl | assumption) ?_
  refine g_get M_1_takeLetter d_1_takeLetter_43 fl_1_11 (by assumption) (by rfl) ?_
  refine g_iconst M_1_takeLetter (v := nI 1) d_1_takeLetter_46 (by decide) ?_
  refine g_icmp_eq M_1_takeLetter (tgt := 58) d_1_takeLetter_47 (by decide) (fun z => big (Or.inl (eqp 1 (by decide) z))) (fun n1 => ?_)
  refine g_aloadn M_1_takeLetter d_1_takeLetter_50 (by first | rfl | assumption) ?_
  refine g_get M_1_takeLetter d_1_takeLetter_51 fl_1_11 (by assumption) (by rfl) ?_
  refine g_iconst M_1_takeLetter (v := nI 2) d_1_takeLetter_54 (by decide) ?_
  refine g_icmp_ne M_1_takeLetter (tgt := 63) d_1_takeLetter_55 (by decide) (fun n2 => ?_) (fun z => big (Or.inr (eqp 2 (by decide) z)))
  refine g_iconst M_1_takeLetter (v := nI 4) d_1_takeLetter_63 (by decide) ?_
  exact cmp 4 (by decide) (if_neg (fun z => by rcases z with z | z; exact n1 (by rw [z]); exact n2 (by rw [z])))
set_option maxHeartbeats 4000000 in
set_option maxRecDepth 100000 in
theorem C_1_takeLetter {a : Nat} {g : Nat × Nat} {h : Hp_} {Q : Ot_ → Hp_ → Prop} (G : gmR h a g) (hl : g.2 < 99) (k : ∀ h', gExt h h' [a] [] → gmR h' a (gLet g.1, g.2 + 1) → Q (.inl (some (.int (bI (decide (g.2 + 1 ≤ gLim (gLet g.1))))))) h') : gG 1 60 0 0 M_1_takeLetter 0 (lv_args 0 [.ref a]) [] h Q := by
  obtain ⟨g0, gp, gl9⟩ := id G
  have eqp : ∀ n, n < 6 → nI g.1 = nI n → g.1 = n := fun n hn e => (nI_eq (by omega) (by omega)).mp e
  refine g_aloadn M_1_takeLetter d_1_takeLetter_0 (by first | rfl | assumption) ?_
  refine g_get M_1_takeLetter d_1_takeLetter_1 fl_1_11 (by assumption) (by rfl) ?_
  by_cases p0 : g.1 = 0
  · have eL : gLet g.1 = 1 := by unfold gLet; rw [if_pos p0]
    rw [eL] at k
    refine g_if_ne M_1_takeLetter (tgt := 15) d_1_takeLetter_4 (by decide) (fun z => absurd (by rw [p0]; rfl) z) (fun _ => ?_)
    refine g_aloadn M_1_takeLetter d_1_takeLetter_7 (by first | rfl | assumption) ?_
    refine g_iconst M_1_takeLetter (v := nI 1) d_1_takeLetter_8 (by decide) ?_
    refine e_put M_1_takeLetter d_1_takeLetter_9 pt_1_11 g0 (by rfl) (by rfl) (fun h1 v1 e1 => ?_)
    refine g_goto M_1_takeLetter (tgt := 28) d_1_takeLetter_12 (by decide) ?_
    exact C_1_letTail (p := 1) (by decide) hl v1 (fun h' e G' => k h' (by simpa using e1.trans e (fun y hy => Or.inl hy)) G')
  refine g_if_ne M_1_takeLetter (tgt := 15) d_1_takeLetter_4 (by decide) (fun _ => ?_) (fun z => absurd (eqp 0 (by decide) z) p0)
  refine g_aloadn M_1_takeLetter d_1_takeLetter_15 (by first | rfl | assumption) ?_
  refine g_get M_1_takeLetter d_1_takeLetter_16 fl_1_11 (by assumption) (by rfl) ?_
  refine g_iconst M_1_takeLetter (v := nI 3) d_1_takeLetter_19 (by decide) ?_
  by_cases p3 : g.1 = 3
  · have eL : gLet g.1 = 4 := by unfold gLet; rw [if_neg p0, if_pos p3]
    rw [eL] at k
    refine g_icmp_ne M_1_takeLetter (tgt := 28) d_1_takeLetter_20 (by decide) (fun z => absurd (by rw [p3]) z) (fun _ => ?_)
    refine g_aloadn M_1_takeLetter d_1_takeLetter_23 (by first | rfl | assumption) ?_
    refine g_iconst M_1_takeLetter (v := nI 4) d_1_takeLetter_24 (by decide) ?_
    refine e_put M_1_takeLetter d_1_takeLetter_25 pt_1_11 g0 (by rfl) (by rfl) (fun h1 v1 e1 => ?_)
    exact C_1_letTail (p := 4) (by decide) hl v1 (fun h' e G' => k h' (by simpa using e1.trans e (fun y hy => Or.inl hy)) G')
  · have eL : gLet g.1 = g.1 := by unfold gLet; rw [if_neg p0, if_neg p3]
    rw [eL] at k
    refine g_icmp_ne M_1_takeLetter (tgt := 28) d_1_takeLetter_20 (by decide) (fun _ => ?_) (fun z => absurd (eqp 3 (by decide) z) p3)
    exact C_1_letTail gp hl g0 k
set_option maxHeartbeats 4000000 in
set_option maxRecDepth 100000 in
theorem C_1_take {a c : Nat} {g : Nat × Nat} {h : Hp_} {Q : Ot_ → Hp_ → Prop} (G : gmR h a g) (hl : g.2 < 99) (hc : c < 65536) (kf : gStep g c = none → ∀ h' g', gExt h h' [a] [] → gmR h' a g' → Q (.inl (some (.int 0))) h') (kt : ∀ g', gStep g c = some g' → ∀ h', gExt h h' [a] [] → gmR h' a g' → Q (.inl (some (.int 1))) h') : gG 3 120 0 0 M_1_take 0 (lv_args 0 [.ref a, .int (nI c)]) [] h Q := by
  obtain ⟨g0, gp, gl9⟩ := id G
  refine g_iloadn M_1_take d_1_take_0 (by first | rfl | assumption) ?_
  refine gc_N M_1_take 0 0 [.int (nI c)] [] d_1_take_1 cn_1_18 (by rfl) (by rfl) (Nat.le_of_ble_eq_true (by rfl)) (Nat.le_of_ble_eq_true (by rfl)) (by decide) (by decide) (by decide) (by decide) (C_9_isSmallLetter hc ?_)
  show gG _ _ _ _ _ _ _ _ _ _
  cases e : sml c with
  | true =>
    refine g_if_eq M_1_take (tgt := 12) d_1_take_4 (by decide) (fun z => absurd z (by decide)) (fun _ => ?_)
    refine g_aloadn M_1_take d_1_take_7 (by first | rfl | assumption) ?_
    refine gc_V M_1_take 0 0 [] [] d_1_take_8 cv_1_22 g0 (by rfl) (by rfl) (Nat.le_of_ble_eq_true (by rfl)) (Nat.le_of_ble_eq_true (by rfl)) (by decide) (by decide) (by decide) (by decide) (C_1_takeLetter G hl (fun h1 e1 G1 => ?_))
    show gG _ _ _ _ _ _ _ _ _ _
    by_cases q : g.2 + 1 ≤ gLim (gLet g.1)
    · rw [decide_eq_true q]
      exact g_iret M_1_take d_1_take_11 rfl (by decide) (kt _ (by unfold gStep; rw [if_pos e]; exact if_pos q) h1 e1 G1)
    · rw [decide_eq_false q]
      exact g_iret M_1_take d_1_take_11 rfl (by decide) (kf (by unfold gStep; rw [if_pos e]; exact if_neg q) h1 _ e1 G1)
  | false =>
    refine g_if_eq M_1_take (tgt := 12) d_1_take_4 (by decide) (fun _ => ?_) (fun z => absurd rfl z)
    refine g_aloadn M_1_take d_1_take_12 (by first | rfl | assumption) ?_
    refine g_iloadn M_1_take d_1_take_13 (by first | rfl | assumption) ?_
    refine gc_V M_1_take 0 0 [.int (nI c)] [] d_1_take_14 cv_1_26 g0 (by rfl) (by rfl) (Nat.le_of_ble_eq_true (by rfl)) (Nat.le_of_ble_eq_true (by rfl)) (by decide) (by decide) (by decide) (by decide) (C_1_partAfter G hc ?_)
    show gG _ _ _ _ _ _ _ _ _ _
    refine g_istoren M_1_take d_1_take_17 (by decide) (by first | rfl | (simp only [gc]; simp [*])) ?_
    refine g_iloadn M_1_take d_1_take_18 (by first | rfl | assumption) ?_
    refine g_iconst M_1_take (v := -1) d_1_take_19 (by decide) ?_
    cases e2 : gPart g.1 g.2 c with
    | none =>
      refine g_icmp_ne M_1_take (tgt := 25) d_1_take_20 (by decide) (fun z => absurd rfl z) (fun _ => ?_)
      refine g_iconst M_1_take (v := nI 0) d_1_take_23 (by decide) ?_
      exact g_iret M_1_take d_1_take_24 rfl (by decide) (kf (by unfold gStep; rw [if_neg (by rw [e]; decide), e2]) h g (gExt.refl.weak (by simp)) G)
    | some p =>
      have p6 : p < 6 := by
        unfold gPart at e2
        repeat' split at e2
        all_goals first | (cases e2; decide) | cases e2
      refine g_icmp_ne M_1_take (tgt := 25) d_1_take_20 (by decide) (fun _ => ?_) (fun z => absurd z (oI_ne (n := 6) (fun j hj => by cases hj; exact p6) (by decide) rfl))
      refine g_aloadn M_1_take d_1_take_25 (by first | rfl | assumption) ?_
      refine g_iloadn M_1_take d_1_take_26 (by first | rfl | assumption) ?_
      refine e_put M_1_take d_1_take_27 pt_1_11 g0 (by rfl) (by rfl) (fun h1 v1 e1 => ?_)
      refine g_aloadn M_1_take d_1_take_30 (by first | rfl | assumption) ?_
      refine g_iconst M_1_take (v := nI 0) d_1_take_31 (by decide) ?_
      refine e_put M_1_take d_1_take_32 pt_1_15 v1 (by rfl) (by rfl) (fun h2 v2 e2x => ?_)
      refine g_iconst M_1_take (v := nI 1) d_1_take_35 (by decide) ?_
      exact g_iret M_1_take d_1_take_36 rfl (by decide) (kt (p, 0) (by unfold gStep; rw [if_neg (by rw [e]; decide), e2]) h2 (by simpa using e1.trans e2x (fun y hy => Or.inl hy)) ⟨v2, p6, by show 0 < 100; omega⟩)
