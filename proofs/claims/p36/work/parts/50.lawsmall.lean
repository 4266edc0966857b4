/-! ===== the law's small methods ===== -/
/-- the other vowel -/
def sg (c : Nat) : Nat := if c = 97 then 101 else if c = 101 then 105 else if c = 105 then 111 else if c = 111 then 117 else if c = 117 then 97 else c
theorem sg_lt {c : Nat} (h : c < 65536) : sg c < 65536 := by
  unfold sg
  repeat' split
  all_goals omega
def upF (x : Int32) (n : Nat) : Nat := x.toBitVec.toNat % 2 ^ 31 % n
theorem upF_lt {x : Int32} {n : Nat} (h : 0 < n) : upF x n < n := Nat.mod_lt _ h
def pkF (k : Nat) : Nat := [97, 98, 101, 115, 121, 111, 116, 117, 105].getD k 0
theorem pkF_sml : ∀ k, k < 9 → sml (pkF k) = true := by decide
theorem sml_lt {c : Nat} (h : sml c = true) : c < 65536 := by
  unfold sml at h
  have := of_decide_eq_true h
  omega
set_option maxHeartbeats 4000000 in
set_option maxRecDepth 100000 in
theorem W_up {x : Int32} {n : Nat} {h : Hp_} {Q : Ot_ → Hp_ → Prop} (h0 : 0 < n) (h1 : n < 2 ^ 31) (k : Q (.inl (some (.int (nI (upF x n))))) h) : gG 1 60 0 0 M_L_up 0 (lv_args 0 [.int x, .int (nI n)]) [] h Q := by
  refine g_iloadn M_L_up d_L_up_0 (by first | rfl | assumption) ?_
  refine g_ldc M_L_up d_L_up_1 ki_L_8 ?_
  refine g_iand M_L_up d_L_up_3 ?_
  rw [pk_and x 31 (by decide)]
  refine g_iloadn M_L_up d_L_up_4 (by first | rfl | assumption) ?_
  refine g_irem M_L_up d_L_up_5 (nI_ne0 h0 h1) ?_
  rw [pk_rem (Nat.mod_lt _ (by decide)) h0 h1]
  exact g_iret M_L_up d_L_up_6 rfl rfl (k)
set_option maxHeartbeats 4000000 in
set_option maxRecDepth 100000 in
theorem W_cell {a9 n i : Nat} {f : Nat → Int32} {h : Hp_} {Q : Ot_ → Hp_ → Prop} (hs : h a9 = some (.inl (true, .int, (n, .inl f)))) (hn : n < 2 ^ 31) (hi : i < 2 ^ 31) (k : ∀ x : Int32, Q (.inl (some (.int x))) h) : gG 1 60 0 0 M_L_cell 0 (lv_args 0 [.ref a9, .int (nI i)]) [] h Q := by
  refine g_iloadn M_L_cell d_L_cell_0 (by first | rfl | assumption) ?_
  refine g_aloadn M_L_cell d_L_cell_1 (by first | rfl | assumption) ?_
  refine g_alen M_L_cell d_L_cell_2 (by assumption) ?_
  refine g_icmp_ge M_L_cell (tgt := 12) d_L_cell_3 (by decide) (fun c => ?_) (fun c => ?_)
  · refine g_ldc M_L_cell d_L_cell_12 ki_L_7 ?_
    refine g_iloadn M_L_cell d_L_cell_14 (by first | rfl | assumption) ?_
    refine g_sipush M_L_cell (v := nI 1889) d_L_cell_15 (by decide) ?_
    refine g_iadd M_L_cell d_L_cell_18 ?_
    refine g_imul M_L_cell d_L_cell_19 ?_
    exact g_iret M_L_cell d_L_cell_20 rfl rfl (k _)
  · refine g_aloadn M_L_cell d_L_cell_6 (by first | rfl | assumption) ?_
    refine g_iloadn M_L_cell d_L_cell_7 (by first | rfl | assumption) ?_
    obtain ⟨j, hj⟩ : ∃ j : Nat, i = j := ⟨i, rfl⟩
    refine g_iaload M_L_cell d_L_cell_8 hs (vp_in_nI (by rcases Nat.lt_or_ge i n with q | q; exact q; exact absurd (nI_le q hi) c) hn) ?_
    refine g_goto M_L_cell (tgt := 20) d_L_cell_9 (by decide) ?_
    exact g_iret M_L_cell d_L_cell_20 rfl rfl (k _)
set_option maxHeartbeats 4000000 in
set_option maxRecDepth 100000 in
theorem W_other {c : Nat} {h : Hp_} {Q : Ot_ → Hp_ → Prop} (hc : c < 65536) (k : Q (.inl (some (.int (nI (sg c))))) h) : gG 1 60 0 0 M_L_other 0 (lv_args 0 [.int (nI c)]) [] h Q := by
  by_cases z97 : c = 97
  · refine g_iloadn M_L_other d_L_other_0 (by first | rfl | assumption) ?_
    refine g_bipush M_L_other (v := nI 97) d_L_other_1 (by decide) ?_
    refine g_icmp_ne M_L_other (tgt := 11) d_L_other_3 (by decide) (fun c9 => False.elim (c9 (by rw [z97]))) (fun _ => ?_)
    refine g_bipush M_L_other (v := nI 101) d_L_other_6 (by decide) ?_
    refine g_goto M_L_other (tgt := 56) d_L_other_8 (by decide) ?_
    exact g_iret M_L_other d_L_other_56 rfl rfl (by rw [show sg c = 101 by unfold sg; rw [if_pos z97]] at k; exact k)
  refine g_iloadn M_L_other d_L_other_0 (by first | rfl | assumption) ?_
  refine g_bipush M_L_other (v := nI 97) d_L_other_1 (by decide) ?_
  refine g_icmp_ne M_L_other (tgt := 11) d_L_other_3 (by decide) (fun _ => ?_) (fun c9 => absurd ((nI_eq (by omega) (by decide)).mp c9) z97)
  by_cases z101 : c = 101
  · refine g_iloadn M_L_other d_L_other_11 (by first | rfl | assumption) ?_
    refine g_bipush M_L_other (v := nI 101) d_L_other_12 (by decide) ?_
    refine g_icmp_ne M_L_other (tgt := 22) d_L_other_14 (by decide) (fun c9 => False.elim (c9 (by rw [z101]))) (fun _ => ?_)
    refine g_bipush M_L_other (v := nI 105) d_L_other_17 (by decide) ?_
    refine g_goto M_L_other (tgt := 56) d_L_other_19 (by decide) ?_
    exact g_iret M_L_other d_L_other_56 rfl rfl (by rw [show sg c = 105 by unfold sg; rw [if_neg z97, if_pos z101]] at k; exact k)
  refine g_iloadn M_L_other d_L_other_11 (by first | rfl | assumption) ?_
  refine g_bipush M_L_other (v := nI 101) d_L_other_12 (by decide) ?_
  refine g_icmp_ne M_L_other (tgt := 22) d_L_other_14 (by decide) (fun _ => ?_) (fun c9 => absurd ((nI_eq (by omega) (by decide)).mp c9) z101)
  by_cases z105 : c = 105
  · refine g_iloadn M_L_other d_L_other_22 (by first | rfl | assumption) ?_
    refine g_bipush M_L_other (v := nI 105) d_L_other_23 (by decide) ?_
    refine g_icmp_ne M_L_other (tgt := 33) d_L_other_25 (by decide) (fun c9 => False.elim (c9 (by rw [z105]))) (fun _ => ?_)
    refine g_bipush M_L_other (v := nI 111) d_L_other_28 (by decide) ?_
    refine g_goto M_L_other (tgt := 56) d_L_other_30 (by decide) ?_
    exact g_iret M_L_other d_L_other_56 rfl rfl (by rw [show sg c = 111 by unfold sg; rw [if_neg z97, if_neg z101, if_pos z105]] at k; exact k)
  refine g_iloadn M_L_other d_L_other_22 (by first | rfl | assumption) ?_
  refine g_bipush M_L_other (v := nI 105) d_L_other_23 (by decide) ?_
  refine g_icmp_ne M_L_other (tgt := 33) d_L_other_25 (by decide) (fun _ => ?_) (fun c9 => absurd ((nI_eq (by omega) (by decide)).mp c9) z105)
  by_cases z111 : c = 111
  · refine g_iloadn M_L_other d_L_other_33 (by first | rfl | assumption) ?_
    refine g_bipush M_L_other (v := nI 111) d_L_other_34 (by decide) ?_
    refine g_icmp_ne M_L_other (tgt := 44) d_L_other_36 (by decide) (fun c9 => False.elim (c9 (by rw [z111]))) (fun _ => ?_)
    refine g_bipush M_L_other (v := nI 117) d_L_other_39 (by decide) ?_
    refine g_goto M_L_other (tgt := 56) d_L_other_41 (by decide) ?_
    exact g_iret M_L_other d_L_other_56 rfl rfl (by rw [show sg c = 117 by unfold sg; rw [if_neg z97, if_neg z101, if_neg z105, if_pos z111]] at k; exact k)
  refine g_iloadn M_L_other d_L_other_33 (by first | rfl | assumption) ?_
  refine g_bipush M_L_other (v := nI 111) d_L_other_34 (by decide) ?_
  refine g_icmp_ne M_L_other (tgt := 44) d_L_other_36 (by decide) (fun _ => ?_) (fun c9 => absurd ((nI_eq (by omega) (by decide)).mp c9) z111)
  by_cases z117 : c = 117
  · refine g_iloadn M_L_other d_L_other_44 (by first | rfl | assumption) ?_
    refine g_bipush M_L_other (v := nI 117) d_L_other_45 (by decide) ?_
    refine g_icmp_ne M_L_other (tgt := 55) d_L_other_47 (by decide) (fun c9 => False.elim (c9 (by rw [z117]))) (fun _ => ?_)
    refine g_bipush M_L_other (v := nI 97) d_L_other_50 (by decide) ?_
    refine g_goto M_L_other (tgt := 56) d_L_other_52 (by decide) ?_
    exact g_iret M_L_other d_L_other_56 rfl rfl (by rw [show sg c = 97 by unfold sg; rw [if_neg z97, if_neg z101, if_neg z105, if_neg z111, if_pos z117]] at k; exact k)
  refine g_iloadn M_L_other d_L_other_44 (by first | rfl | assumption) ?_
  refine g_bipush M_L_other (v := nI 117) d_L_other_45 (by decide) ?_
  refine g_icmp_ne M_L_other (tgt := 55) d_L_other_47 (by decide) (fun _ => ?_) (fun c9 => absurd ((nI_eq (by omega) (by decide)).mp c9) z117)
  refine g_iloadn M_L_other d_L_other_55 (by first | rfl | assumption) ?_
  exact g_iret M_L_other d_L_other_56 rfl rfl (by rw [show sg c = c by unfold sg; rw [if_neg z97, if_neg z101, if_neg z105, if_neg z111, if_neg z117]] at k; exact k)
set_option maxHeartbeats 4000000 in
set_option maxRecDepth 100000 in
theorem W_both {L L9 : Nat → Nat → Nat} {a9 : Nat} {v9 : Ent_} {X Y : Mt_} {h : Hp_} {Q : Ot_ → Hp_ → Prop} {c : Nat} (T : tw h L L9 a9 v9 X Y) (hl : X.1.length < 60) (he : Y.1.length = X.1.length) (hc : c < 65536) (k : ∀ h', tw h' L L9 a9 v9 (X.1 ++ [c], X.2) (Y.1 ++ [sg c], Y.2) → Q (.inl (some (.int (nI 1)))) h') : gG 9 370 0 0 M_L_both 0 (lv_args 0 [.ref (L 0 0), .ref (L9 0 0), .int (nI c)]) [] h Q := by
  refine g_aloadn M_L_both d_L_both_0 (by first | rfl | assumption) ?_
  refine g_iloadn M_L_both d_L_both_1 (by first | rfl | assumption) ?_
  refine gc_SH M_L_both 0 0 [_, _] _ d_L_both_2 cs_L_87 (by decide) (by rfl) (by rfl) (Nat.le_of_ble_eq_true (by rfl)) (Nat.le_of_ble_eq_true (by rfl)) (by decide) (by decide) (by decide) (by decide) (W_type T hl hc (fun h1 T1 => ?_))
  show gG _ _ _ _ _ _ _ _ _ _
  refine g_aloadn M_L_both d_L_both_5 (by first | rfl | assumption) ?_
  refine g_iloadn M_L_both d_L_both_6 (by first | rfl | assumption) ?_
  refine gc_S M_L_both 0 0 [_] _ d_L_both_7 cs_L_92 (by rfl) (by rfl) (by rfl) (Nat.le_of_ble_eq_true (by rfl)) (Nat.le_of_ble_eq_true (by rfl)) (by decide) (by decide) (by decide) (by decide) (W_other hc ?_)
  show gG _ _ _ _ _ _ _ _ _ _
  refine gc_SH M_L_both 0 0 [_, _] _ d_L_both_10 cs_L_87 (by decide) (by rfl) (by rfl) (Nat.le_of_ble_eq_true (by rfl)) (Nat.le_of_ble_eq_true (by rfl)) (by decide) (by decide) (by decide) (by decide) (W_type T1.sw (by omega) (sg_lt hc) (fun h2 T2 => ?_))
  show gG _ _ _ _ _ _ _ _ _ _
  refine g_icmp_ne M_L_both (tgt := 20) d_L_both_13 (by decide) (fun c9 => False.elim (c9 (by rw [he]))) (fun _ => ?_)
  refine g_iconst M_L_both (v := nI 1) d_L_both_16 (by decide) ?_
  refine g_goto M_L_both (tgt := 21) d_L_both_17 (by decide) ?_
  exact g_iret M_L_both d_L_both_21 rfl (by decide) (k h2 T2.sw)
set_option maxHeartbeats 4000000 in
set_option maxRecDepth 100000 in
theorem W_empty {L L9 : Nat → Nat → Nat} {a9 : Nat} {v9 : Ent_} {X Y : Mt_} {h : Hp_} {Q : Ot_ → Hp_ → Prop} (T : tw h L L9 a9 v9 X Y) (k : ∀ h', tw h' L L9 a9 v9 ([], X.2) ([], Y.2) → Q (.inl (some (.int (nI 1)))) h') : gG 4 160 0 0 M_L_empty 0 (lv_args 0 [.ref (L 0 0), .ref (L9 0 0)]) [] h Q := by
  refine g_aloadn M_L_empty d_L_empty_0 (by first | rfl | assumption) ?_
  refine gc_V M_L_empty 0 0 [] _ d_L_empty_1 cv_L_105 T.m0 (by rfl) (by rfl) (Nat.le_of_ble_eq_true (by rfl)) (Nat.le_of_ble_eq_true (by rfl)) (by decide) (by decide) (by decide) (by decide) (C_9_clearText T.1 (fun h1 a1 H1 => ?_))
  have T1 := T.o a1 H1
  show gG _ _ _ _ _ _ _ _ _ _
  refine g_if_lt M_L_empty (tgt := 18) d_L_empty_4 (by decide) (fun c9 => absurd c9 (nI_pos (by have := T.1.un.2.2.2.1.1.1; omega))) (fun _ => ?_)
  refine g_aloadn M_L_empty d_L_empty_7 (by first | rfl | assumption) ?_
  refine gc_V M_L_empty 0 0 [] _ d_L_empty_8 cv_L_105 T1.sw.m0 (by rfl) (by rfl) (Nat.le_of_ble_eq_true (by rfl)) (Nat.le_of_ble_eq_true (by rfl)) (by decide) (by decide) (by decide) (by decide) (C_9_clearText T1.sw.1 (fun h2 a2 H2 => ?_))
  have T2 := T1.sw.o a2 H2
  show gG _ _ _ _ _ _ _ _ _ _
  refine g_if_lt M_L_empty (tgt := 18) d_L_empty_11 (by decide) (fun c9 => absurd c9 (nI_pos (by have := T.2.1.un.2.2.2.1.1.1; omega))) (fun _ => ?_)
  refine g_iconst M_L_empty (v := nI 1) d_L_empty_14 (by decide) ?_
  refine g_goto M_L_empty (tgt := 19) d_L_empty_15 (by decide) ?_
  exact g_iret M_L_empty d_L_empty_19 rfl (by decide) (k h2 T2.sw)
set_option maxHeartbeats 4000000 in
set_option maxRecDepth 100000 in
theorem W_pick {x : Int32} {h : Hp_} {Q : Ot_ → Hp_ → Prop} (k : ∀ c, sml c = true → Q (.inl (some (.int (nI c)))) h) : gG 2 90 0 0 M_L_pick 0 (lv_args 0 [.int x]) [] h Q := by
  refine g_iloadn M_L_pick d_L_pick_0 (by first | rfl | assumption) ?_
  refine g_bipush M_L_pick (v := nI 9) d_L_pick_1 (by decide) ?_
  refine gc_S M_L_pick 0 0 [_, _] _ d_L_pick_3 cs_L_95 (by rfl) (by rfl) (by rfl) (Nat.le_of_ble_eq_true (by rfl)) (Nat.le_of_ble_eq_true (by rfl)) (by decide) (by decide) (by decide) (by decide) (W_up (by decide) (by decide) ?_)
  show gG _ _ _ _ _ _ _ _ _ _
  refine g_istoren M_L_pick d_L_pick_6 (by decide) (by first | rfl | (simp only [gc]; simp [*])) ?_
  refine g_iloadn M_L_pick d_L_pick_7 (by first | rfl | assumption) ?_
  have hu : upF x 9 < 9 := upF_lt (by decide)
  generalize upF x 9 = u at hu ⊢
  have kk : ∀ c, pkF u = c → Q (.inl (some (.int (nI c)))) h := fun c e => k c (by rw [← e]; exact pkF_sml u hu)
  by_cases z0 : u = 0
  · refine g_if_ne M_L_pick (tgt := 16) d_L_pick_8 (by decide) (fun c9 => False.elim (c9 (by rw [z0]; rfl))) (fun _ => ?_)
    refine g_bipush M_L_pick (v := nI 97) d_L_pick_11 (by decide) ?_
    refine g_goto M_L_pick (tgt := 90) d_L_pick_13 (by decide) ?_
    exact g_iret M_L_pick d_L_pick_90 rfl rfl (kk _ (by rw [z0]; rfl))
  refine g_if_ne M_L_pick (tgt := 16) d_L_pick_8 (by decide) (fun _ => ?_) (fun c9 => absurd c9 (nI_ne0 (by omega) (by omega)))
  by_cases z1 : u = 1
  · refine g_iloadn M_L_pick d_L_pick_16 (by first | rfl | assumption) ?_
    refine g_iconst M_L_pick (v := nI 1) d_L_pick_17 (by decide) ?_
    refine g_icmp_ne M_L_pick (tgt := 26) d_L_pick_18 (by decide) (fun c9 => False.elim (c9 (by rw [z1]))) (fun _ => ?_)
    refine g_bipush M_L_pick (v := nI 98) d_L_pick_21 (by decide) ?_
    refine g_goto M_L_pick (tgt := 90) d_L_pick_23 (by decide) ?_
    exact g_iret M_L_pick d_L_pick_90 rfl rfl (kk _ (by rw [z1]; rfl))
  refine g_iloadn M_L_pick d_L_pick_16 (by first | rfl | assumption) ?_
  refine g_iconst M_L_pick (v := nI 1) d_L_pick_17 (by decide) ?_
  refine g_icmp_ne M_L_pick (tgt := 26) d_L_pick_18 (by decide) (fun _ => ?_) (fun c9 => absurd ((nI_eq (by omega) (by decide)).mp c9) z1)
  by_cases z2 : u = 2
  · refine g_iloadn M_L_pick d_L_pick_26 (by first | rfl | assumption) ?_
    refine g_iconst M_L_pick (v := nI 2) d_L_pick_27 (by decide) ?_
    refine g_icmp_ne M_L_pick (tgt := 36) d_L_pick_28 (by decide) (fun c9 => False.elim (c9 (by rw [z2]))) (fun _ => ?_)
    refine g_bipush M_L_pick (v := nI 101) d_L_pick_31 (by decide) ?_
    refine g_goto M_L_pick (tgt := 90) d_L_pick_33 (by decide) ?_
    exact g_iret M_L_pick d_L_pick_90 rfl rfl (kk _ (by rw [z2]; rfl))
  refine g_iloadn M_L_pick d_L_pick_26 (by first | rfl | assumption) ?_
  refine g_iconst M_L_pick (v := nI 2) d_L_pick_27 (by decide) ?_
  refine g_icmp_ne M_L_pick (tgt := 36) d_L_pick_28 (by decide) (fun _ => ?_) (fun c9 => absurd ((nI_eq (by omega) (by decide)).mp c9) z2)
  by_cases z3 : u = 3
  · refine g_iloadn M_L_pick d_L_pick_36 (by first | rfl | assumption) ?_
    refine g_iconst M_L_pick (v := nI 3) d_L_pick_37 (by decide) ?_
    refine g_icmp_ne M_L_pick (tgt := 46) d_L_pick_38 (by decide) (fun c9 => False.elim (c9 (by rw [z3]))) (fun _ => ?_)
    refine g_bipush M_L_pick (v := nI 115) d_L_pick_41 (by decide) ?_
    refine g_goto M_L_pick (tgt := 90) d_L_pick_43 (by decide) ?_
    exact g_iret M_L_pick d_L_pick_90 rfl rfl (kk _ (by rw [z3]; rfl))
  refine g_iloadn M_L_pick d_L_pick_36 (by first | rfl | assumption) ?_
  refine g_iconst M_L_pick (v := nI 3) d_L_pick_37 (by decide) ?_
  refine g_icmp_ne M_L_pick (tgt := 46) d_L_pick_38 (by decide) (fun _ => ?_) (fun c9 => absurd ((nI_eq (by omega) (by decide)).mp c9) z3)
  by_cases z4 : u = 4
  · refine g_iloadn M_L_pick d_L_pick_46 (by first | rfl | assumption) ?_
    refine g_iconst M_L_pick (v := nI 4) d_L_pick_47 (by decide) ?_
    refine g_icmp_ne M_L_pick (tgt := 56) d_L_pick_48 (by decide) (fun c9 => False.elim (c9 (by rw [z4]))) (fun _ => ?_)
    refine g_bipush M_L_pick (v := nI 121) d_L_pick_51 (by decide) ?_
    refine g_goto M_L_pick (tgt := 90) d_L_pick_53 (by decide) ?_
    exact g_iret M_L_pick d_L_pick_90 rfl rfl (kk _ (by rw [z4]; rfl))
  refine g_iloadn M_L_pick d_L_pick_46 (by first | rfl | assumption) ?_
  refine g_iconst M_L_pick (v := nI 4) d_L_pick_47 (by decide) ?_
  refine g_icmp_ne M_L_pick (tgt := 56) d_L_pick_48 (by decide) (fun _ => ?_) (fun c9 => absurd ((nI_eq (by omega) (by decide)).mp c9) z4)
  by_cases z5 : u = 5
  · refine g_iloadn M_L_pick d_L_pick_56 (by first | rfl | assumption) ?_
    refine g_iconst M_L_pick (v := nI 5) d_L_pick_57 (by decide) ?_
    refine g_icmp_ne M_L_pick (tgt := 66) d_L_pick_58 (by decide) (fun c9 => False.elim (c9 (by rw [z5]))) (fun _ => ?_)
    refine g_bipush M_L_pick (v := nI 111) d_L_pick_61 (by decide) ?_
    refine g_goto M_L_pick (tgt := 90) d_L_pick_63 (by decide) ?_
    exact g_iret M_L_pick d_L_pick_90 rfl rfl (kk _ (by rw [z5]; rfl))
  refine g_iloadn M_L_pick d_L_pick_56 (by first | rfl | assumption) ?_
  refine g_iconst M_L_pick (v := nI 5) d_L_pick_57 (by decide) ?_
  refine g_icmp_ne M_L_pick (tgt := 66) d_L_pick_58 (by decide) (fun _ => ?_) (fun c9 => absurd ((nI_eq (by omega) (by decide)).mp c9) z5)
  by_cases z6 : u = 6
  · refine g_iloadn M_L_pick d_L_pick_66 (by first | rfl | assumption) ?_
    refine g_bipush M_L_pick (v := nI 6) d_L_pick_67 (by decide) ?_
    refine g_icmp_ne M_L_pick (tgt := 77) d_L_pick_69 (by decide) (fun c9 => False.elim (c9 (by rw [z6]))) (fun _ => ?_)
    refine g_bipush M_L_pick (v := nI 116) d_L_pick_72 (by decide) ?_
    refine g_goto M_L_pick (tgt := 90) d_L_pick_74 (by decide) ?_
    exact g_iret M_L_pick d_L_pick_90 rfl rfl (kk _ (by rw [z6]; rfl))
  refine g_iloadn M_L_pick d_L_pick_66 (by first | rfl | assumption) ?_
  refine g_bipush M_L_pick (v := nI 6) d_L_pick_67 (by decide) ?_
  refine g_icmp_ne M_L_pick (tgt := 77) d_L_pick_69 (by decide) (fun _ => ?_) (fun c9 => absurd ((nI_eq (by omega) (by decide)).mp c9) z6)
  by_cases z7 : u = 7
  · refine g_iloadn M_L_pick d_L_pick_77 (by first | rfl | assumption) ?_
    refine g_bipush M_L_pick (v := nI 7) d_L_pick_78 (by decide) ?_
    refine g_icmp_ne M_L_pick (tgt := 88) d_L_pick_80 (by decide) (fun c9 => False.elim (c9 (by rw [z7]))) (fun _ => ?_)
    refine g_bipush M_L_pick (v := nI 117) d_L_pick_83 (by decide) ?_
    refine g_goto M_L_pick (tgt := 90) d_L_pick_85 (by decide) ?_
    exact g_iret M_L_pick d_L_pick_90 rfl rfl (kk _ (by rw [z7]; rfl))
  refine g_iloadn M_L_pick d_L_pick_77 (by first | rfl | assumption) ?_
  refine g_bipush M_L_pick (v := nI 7) d_L_pick_78 (by decide) ?_
  refine g_icmp_ne M_L_pick (tgt := 88) d_L_pick_80 (by decide) (fun _ => ?_) (fun c9 => absurd ((nI_eq (by omega) (by decide)).mp c9) z7)
  refine g_bipush M_L_pick (v := nI 105) d_L_pick_88 (by decide) ?_
  exact g_iret M_L_pick d_L_pick_90 rfl rfl (kk _ (by rw [show u = 8 by omega]; rfl))
set_option maxHeartbeats 4000000 in
set_option maxRecDepth 100000 in
theorem W_word {L L9 : Nat → Nat → Nat} {a9 : Nat} {v9 : Ent_} {X Y : Mt_} {h : Hp_} {Q : Ot_ → Hp_ → Prop} {x : Int32} {n : Nat} (T : tw h L L9 a9 v9 X Y) (hl : X.1.length + n < 60) (he : Y.1.length = X.1.length) (k : ∀ ws h', ws.length = n → ws.all sml = true → tw h' L L9 a9 v9 (X.1 ++ ws, X.2) (Y.1 ++ ws.map sg, Y.2) → Q (.inl (some (.int (nI 1)))) h') : gG 10 400 0 0 M_L_word 0 (lv_args 0 [.ref (L 0 0), .ref (L9 0 0), .int x, .int (nI n)]) [] h Q := by
  refine g_iconst M_L_word (v := nI 1) d_L_word_0 (by decide) ?_
  refine g_istore M_L_word d_L_word_1 (by decide) (by first | rfl | (simp only [gc]; simp [*])) ?_
  refine g_iconst M_L_word (v := nI 0) d_L_word_3 (by decide) ?_
  refine g_istore M_L_word d_L_word_4 (by decide) (by first | rfl | (simp only [gc]; simp [*])) ?_
  have loop : ∀ m p ws h1, p + m = n → ws.length = p → ws.all sml = true → tw h1 L L9 a9 v9 (X.1 ++ ws, X.2) (Y.1 ++ ws.map sg, Y.2) → ∀ lv : List (Nat × Value), gl lv 0 = some (.ref (L 0 0)) → gl lv 1 = some (.ref (L9 0 0)) → gl lv 2 = some (.int x) → gl lv 3 = some (.int (nI n)) → gl lv 4 = some (.int (nI 1)) → gl lv 5 = some (.int (nI p)) → gG 10 400 0 0 M_L_word 6 lv [] h1 Q := by
    intro m
    induction m with
    | zero =>
      intro p ws h1 hp hq hw T1 lv H0 H1 H2 H3 H4 H5
      refine g_iload M_L_word d_L_word_6 (by first | rfl | assumption) ?_
      refine g_iloadn M_L_word d_L_word_8 (by first | rfl | assumption) ?_
      refine g_icmp_ge M_L_word (tgt := 54) d_L_word_9 (by decide) (fun _ => ?_) (fun c9 => absurd (nI_le (by omega) (by omega)) c9)
      refine g_iload M_L_word d_L_word_54 (by first | rfl | assumption) ?_
      exact g_iret M_L_word d_L_word_56 rfl (by decide) (k ws h1 (by omega) hw T1)
    | succ m ih =>
      intro p ws h1 hp hq hw T1 lv H0 H1 H2 H3 H4 H5
      refine g_iload M_L_word d_L_word_6 (by first | rfl | assumption) ?_
      refine g_iloadn M_L_word d_L_word_8 (by first | rfl | assumption) ?_
      refine g_icmp_ge M_L_word (tgt := 54) d_L_word_9 (by decide) (fun c9 => absurd c9 (nI_ge (by omega) (by omega))) (fun _ => ?_)
      refine g_iload M_L_word d_L_word_12 (by first | rfl | assumption) ?_
      refine g_if_eq M_L_word (tgt := 45) d_L_word_14 (by decide) (fun c9 => absurd c9 (by decide)) (fun _ => ?_)
      refine g_aloadn M_L_word d_L_word_17 (by first | rfl | assumption) ?_
      refine g_aloadn M_L_word d_L_word_18 (by first | rfl | assumption) ?_
      refine g_iloadn M_L_word d_L_word_19 (by first | rfl | assumption) ?_
      refine g_iload M_L_word d_L_word_20 (by first | rfl | assumption) ?_
      refine g_iconst M_L_word (v := nI 1) d_L_word_22 (by decide) ?_
      refine g_iadd M_L_word d_L_word_23 ?_
      refine g_ishr M_L_word d_L_word_24 ?_
      refine g_iloadn M_L_word d_L_word_25 (by first | rfl | assumption) ?_
      refine g_iconst M_L_word (v := nI 2) d_L_word_26 (by decide) ?_
      refine g_iload M_L_word d_L_word_27 (by first | rfl | assumption) ?_
      refine g_imul M_L_word d_L_word_29 ?_
      refine g_ishr M_L_word d_L_word_30 ?_
      refine g_ixor M_L_word d_L_word_31 ?_
      refine gc_S M_L_word 0 0 [_] _ d_L_word_32 cs_L_98 (by rfl) (by rfl) (by rfl) (Nat.le_of_ble_eq_true (by rfl)) (Nat.le_of_ble_eq_true (by rfl)) (by decide) (by decide) (by decide) (by decide) (W_pick (fun c sc => ?_))
      show gG _ _ _ _ _ _ _ _ _ _
      refine gc_S M_L_word 0 0 [_, _, _] _ d_L_word_35 cs_L_101 (by rfl) (by rfl) (by rfl) (Nat.le_of_ble_eq_true (by rfl)) (Nat.le_of_ble_eq_true (by rfl)) (by decide) (by decide) (by decide) (by decide) (W_both T1 (by show (X.1 ++ ws).length < 60; rw [List.length_append]; omega) (by show (Y.1 ++ ws.map sg).length = (X.1 ++ ws).length; rw [List.length_append, List.length_append, List.length_map]; omega) (sml_lt sc) (fun h2 T2 => ?_))
      show gG _ _ _ _ _ _ _ _ _ _
      refine g_if_eq M_L_word (tgt := 45) d_L_word_38 (by decide) (fun c9 => absurd c9 (by decide)) (fun _ => ?_)
      refine g_iconst M_L_word (v := nI 1) d_L_word_41 (by decide) ?_
      refine g_goto M_L_word (tgt := 46) d_L_word_42 (by decide) ?_
      refine g_istore M_L_word d_L_word_46 (by decide) (gc_i H3) ?_
      refine g_iinc M_L_word (v := nI (p + 1)) d_L_word_48 H5 (by decide) (gc_i (x := nI 1) rfl) (nI_add p 1) ?_
      refine g_goto M_L_word (tgt := 6) d_L_word_51 (by decide) ?_
      refine ih (p + 1) (ws ++ [c]) h2 (by omega) (by rw [List.length_append]; show ws.length + 1 = p + 1; omega) (by rw [List.all_append, hw]; simp [sc]) (by
        have T2' := T2
        dsimp only at T2'
        rw [List.append_assoc, List.append_assoc] at T2'
        rw [List.map_append]
        exact T2') _ H0 H1 H2 H3 rfl rfl
  refine loop n 0 [] h (by omega) rfl rfl ?_ _ rfl rfl rfl rfl rfl rfl
  rw [List.append_nil, List.map_nil, List.append_nil]
  exact T
