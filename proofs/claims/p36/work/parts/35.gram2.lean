/-! ===== grammar: a sign is taken ===== -/
set_option maxHeartbeats 4000000 in
set_option maxRecDepth 100000 in
theorem C_1_partAfter {a c : Nat} {g : Nat × Nat} {h : Hp_} {Q : Ot_ → Hp_ → Prop} (G : gmR h a g) (hc : c < 65536) (k : Q (.inl (some (.int (oI (gPart g.1 g.2 c))))) h) : gG 2 90 0 0 M_1_partAfter 0 (lv_args 0 [.ref a, .int (nI c)]) [] h Q := by
  obtain ⟨g0, gp, gl9⟩ := id G
  have eqc : ∀ n, n < 65536 → nI c = nI n → c = n := fun n hn e => (nI_eq (by omega) (by omega)).mp e
  have eqp : ∀ n, n < 6 → nI g.1 = nI n → g.1 = n := fun n hn e => (nI_eq (by omega) (by omega)).mp e
  unfold gPart at k
  refine g_iloadn M_1_partAfter d_1_partAfter_0 (by first | rfl | assumption) ?_
  refine g_bipush M_1_partAfter (v := nI 59) d_1_partAfter_1 (by decide) ?_
  by_cases c59 : c = 59
  · refine g_icmp_ne M_1_partAfter (tgt := 19) d_1_partAfter_3 (by decide) (fun z => absurd (by rw [c59]) z) (fun _ => ?_)
    rw [if_pos c59] at k
    refine g_aloadn M_1_partAfter d_1_partAfter_6 (by first | rfl | assumption) ?_
    refine gc_V M_1_partAfter 0 0 [] [] d_1_partAfter_7 cv_1_30 g0 (by rfl) (by rfl) (Nat.le_of_ble_eq_true (by rfl)) (Nat.le_of_ble_eq_true (by rfl)) (by decide) (by decide) (by decide) (by decide) (C_1_mayEnd G ?_)
    show gG _ _ _ _ _ _ _ _ _ _
    cases e : gEnd g.1 g.2 with
    | true =>
      rw [e, if_pos rfl] at k
      refine g_if_eq M_1_partAfter (tgt := 17) d_1_partAfter_10 (by decide) (fun z => absurd z (by decide)) (fun _ => ?_)
      refine g_iconst M_1_partAfter (v := nI 0) d_1_partAfter_13 (by decide) ?_
      refine g_goto M_1_partAfter (tgt := 18) d_1_partAfter_14 (by decide) ?_
      exact g_iret M_1_partAfter d_1_partAfter_18 rfl rfl k
    | false =>
      rw [e, if_neg (by decide)] at k
      refine g_if_eq M_1_partAfter (tgt := 17) d_1_partAfter_10 (by decide) (fun _ => ?_) (fun z => absurd rfl z)
      refine g_iconst M_1_partAfter (v := -1) d_1_partAfter_17 (by decide) ?_
      exact g_iret M_1_partAfter d_1_partAfter_18 rfl rfl k
  rw [if_neg c59] at k
  refine g_icmp_ne M_1_partAfter (tgt := 19) d_1_partAfter_3 (by decide) (fun _ => ?_) (fun z => absurd (eqc 59 (by decide) z) c59)
  refine g_iloadn M_1_partAfter d_1_partAfter_19 (by first | rfl | assumption) ?_
  refine g_bipush M_1_partAfter (v := nI 61) d_1_partAfter_20 (by decide) ?_
  by_cases c61 : c = 61
  · refine g_icmp_ne M_1_partAfter (tgt := 39) d_1_partAfter_22 (by decide) (fun z => absurd (by rw [c61]) z) (fun _ => ?_)
    rw [if_pos c61] at k
    refine g_aloadn M_1_partAfter d_1_partAfter_25 (by first | rfl | assumption) ?_
    refine g_get M_1_partAfter d_1_partAfter_26 fl_1_11 (by assumption) (by rfl) ?_
    refine g_iconst M_1_partAfter (v := nI 1) d_1_partAfter_29 (by decide) ?_
    by_cases p1 : g.1 = 1
    · refine g_icmp_ne M_1_partAfter (tgt := 37) d_1_partAfter_30 (by decide) (fun z => absurd (by rw [p1]) z) (fun _ => ?_)
      rw [if_pos p1] at k
      refine g_iconst M_1_partAfter (v := nI 2) d_1_partAfter_33 (by decide) ?_
      refine g_goto M_1_partAfter (tgt := 38) d_1_partAfter_34 (by decide) ?_
      exact g_iret M_1_partAfter d_1_partAfter_38 rfl rfl k
    · refine g_icmp_ne M_1_partAfter (tgt := 37) d_1_partAfter_30 (by decide) (fun _ => ?_) (fun z => absurd (eqp 1 (by decide) z) p1)
      rw [if_neg p1] at k
      refine g_iconst M_1_partAfter (v := -1) d_1_partAfter_37 (by decide) ?_
      exact g_iret M_1_partAfter d_1_partAfter_38 rfl rfl k
  rw [if_neg c61] at k
  refine g_icmp_ne M_1_partAfter (tgt := 39) d_1_partAfter_22 (by decide) (fun _ => ?_) (fun z => absurd (eqc 61 (by decide) z) c61)
  refine g_iloadn M_1_partAfter d_1_partAfter_39 (by first | rfl | assumption) ?_
  refine g_bipush M_1_partAfter (v := nI 42) d_1_partAfter_40 (by decide) ?_
  by_cases c42 : c = 42
  · refine g_icmp_ne M_1_partAfter (tgt := 58) d_1_partAfter_42 (by decide) (fun z => absurd (by rw [c42]) z) (fun _ => ?_)
    rw [if_pos c42] at k
    refine g_aloadn M_1_partAfter d_1_partAfter_45 (by first | rfl | assumption) ?_
    refine g_get M_1_partAfter d_1_partAfter_46 fl_1_11 (by assumption) (by rfl) ?_
    by_cases p1 : g.1 = 0
    · refine g_if_ne M_1_partAfter (tgt := 56) d_1_partAfter_49 (by decide) (fun z => absurd (by rw [p1]; rfl) z) (fun _ => ?_)
      rw [if_pos p1] at k
      refine g_iconst M_1_partAfter (v := nI 3) d_1_partAfter_52 (by decide) ?_
      refine g_goto M_1_partAfter (tgt := 57) d_1_partAfter_53 (by decide) ?_
      exact g_iret M_1_partAfter d_1_partAfter_57 rfl rfl k
    · refine g_if_ne M_1_partAfter (tgt := 56) d_1_partAfter_49 (by decide) (fun _ => ?_) (fun z => absurd (eqp 0 (by decide) z) p1)
      rw [if_neg p1] at k
      refine g_iconst M_1_partAfter (v := -1) d_1_partAfter_56 (by decide) ?_
      exact g_iret M_1_partAfter d_1_partAfter_57 rfl rfl k
  rw [if_neg c42] at k
  refine g_icmp_ne M_1_partAfter (tgt := 58) d_1_partAfter_42 (by decide) (fun _ => ?_) (fun z => absurd (eqc 42 (by decide) z) c42)
  have bang : (c = 33 ∨ c = 63) → gG 2 90 0 0 M_1_partAfter 70 (lv_args 0 [.ref a, .int (nI c)]) [] h Q := by
    intro cc
    rw [if_pos cc] at k
    refine g_aloadn M_1_partAfter d_1_partAfter_70 (by first | rfl | assumption) ?_
    refine g_get M_1_partAfter d_1_partAfter_71 fl_1_11 (by assumption) (by rfl) ?_
    refine g_iconst M_1_partAfter (v := nI 3) d_1_partAfter_74 (by decide) ?_
    by_cases p1 : g.1 = 3
    · refine g_icmp_ne M_1_partAfter (tgt := 82) d_1_partAfter_75 (by decide) (fun z => absurd (by rw [p1]) z) (fun _ => ?_)
      rw [if_pos p1] at k
      refine g_iconst M_1_partAfter (v := nI 4) d_1_partAfter_78 (by decide) ?_
      refine g_goto M_1_partAfter (tgt := 83) d_1_partAfter_79 (by decide) ?_
      exact g_iret M_1_partAfter d_1_partAfter_83 rfl rfl k
    · refine g_icmp_ne M_1_partAfter (tgt := 82) d_1_partAfter_75 (by decide) (fun _ => ?_) (fun z => absurd (eqp 3 (by decide) z) p1)
      rw [if_neg p1] at k
      refine g_iconst M_1_partAfter (v := -1) d_1_partAfter_82 (by decide) ?_
      exact g_iret M_1_partAfter d_1_partAfter_83 rfl rfl k
  refine g_iloadn M_1_partAfter d_1_partAfter_58 (by first | rfl | assumption) ?_
  refine g_bipush M_1_partAfter (v := nI 33) d_1_partAfter_59 (by decide) ?_
  refine g_icmp_eq M_1_partAfter (tgt := 70) d_1_partAfter_61 (by decide) (fun z => bang (Or.inl (eqc 33 (by decide) z))) (fun n33 => ?_)
  refine g_iloadn M_1_partAfter d_1_partAfter_64 (by first | rfl | assumption) ?_
  refine g_bipush M_1_partAfter (v := nI 63) d_1_partAfter_65 (by decide) ?_
  refine g_icmp_ne M_1_partAfter (tgt := 84) d_1_partAfter_67 (by decide) (fun n63 => ?_) (fun z => bang (Or.inr (eqc 63 (by decide) z)))
  rw [if_neg (show ¬ (c = 33 ∨ c = 63) from fun z => by rcases z with z | z; exact n33 (by rw [z]); exact n63 (by rw [z]))] at k
  refine g_iloadn M_1_partAfter d_1_partAfter_84 (by first | rfl | assumption) ?_
  refine g_bipush M_1_partAfter (v := nI 62) d_1_partAfter_85 (by decide) ?_
  by_cases c62 : c = 62
  · refine g_icmp_ne M_1_partAfter (tgt := 112) d_1_partAfter_87 (by decide) (fun z => absurd (by rw [c62]) z) (fun _ => ?_)
    rw [if_pos c62] at k
    have yes : (g.1 = 3 ∨ g.1 = 4) → gG 2 90 0 0 M_1_partAfter 106 (lv_args 0 [.ref a, .int (nI c)]) [] h Q := by
      intro pp
      rw [if_pos pp] at k
      refine g_iconst M_1_partAfter (v := nI 5) d_1_partAfter_106 (by decide) ?_
      refine g_goto M_1_partAfter (tgt := 111) d_1_partAfter_107 (by decide) ?_
      exact g_iret M_1_partAfter d_1_partAfter_111 rfl rfl k
    refine g_aloadn M_1_partAfter d_1_partAfter_90 (by first | rfl | assumption) ?_
    refine g_get M_1_partAfter d_1_partAfter_91 fl_1_11 (by assumption) (by rfl) ?_
    refine g_iconst M_1_partAfter (v := nI 3) d_1_partAfter_94 (by decide) ?_
    refine g_icmp_eq M_1_partAfter (tgt := 106) d_1_partAfter_95 (by decide) (fun z => yes (Or.inl (eqp 3 (by decide) z))) (fun n3 => ?_)
    refine g_aloadn M_1_partAfter d_1_partAfter_98 (by first | rfl | assumption) ?_
    refine g_get M_1_partAfter d_1_partAfter_99 fl_1_11 (by assumption) (by rfl) ?_
    refine g_iconst M_1_partAfter (v := nI 4) d_1_partAfter_102 (by decide) ?_
    refine g_icmp_ne M_1_partAfter (tgt := 110) d_1_partAfter_103 (by decide) (fun n4 => ?_) (fun z => yes (Or.inr (eqp 4 (by decide) z)))
    rw [if_neg (show ¬ (g.1 = 3 ∨ g.1 = 4) from fun z => by rcases z with z | z; exact n3 (by rw [z]); exact n4 (by rw [z]))] at k
    refine g_iconst M_1_partAfter (v := -1) d_1_partAfter_110 (by decide) ?_
    exact g_iret M_1_partAfter d_1_partAfter_111 rfl rfl k
  rw [if_neg c62] at k
  refine g_icmp_ne M_1_partAfter (tgt := 112) d_1_partAfter_87 (by decide) (fun _ => ?_) (fun z => absurd (eqc 62 (by decide) z) c62)
  refine g_iconst M_1_partAfter (v := -1) d_1_partAfter_112 (by decide) ?_
  exact g_iret M_1_partAfter d_1_partAfter_113 rfl rfl k
