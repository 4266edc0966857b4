/-! ===== dies: fits, choose, press, reverse, remove ===== -/
def vow (x : Nat) : Bool := x == 97 || x == 101 || x == 105 || x == 111 || x == 117
def mC (c : Int32) (e w : List Nat) : Bool := decide (c = 0) || (decide (e.length + 1 ≤ w.length) && (vow (w.getD (w.length - (e.length + 1)) 0) == decide (c = nI 2)))
def fitD (v : Dl_) (d : Nat) (w : List Nat) : Bool := eW (v.1.getD d []) w && mC (v.2.2.getD d 0) (v.1.getD d []) w
def chG (v : Dl_) (w : List Nat) : Nat → Nat
  | 0 => 0
  | k + 1 => if (v.1.getD (chG v w k) []).length ≤ (v.1.getD (k + 1) []).length ∧ fitD v (k + 1) w = true then k + 1 else chG v w k
def chD (v : Dl_) (w : List Nat) : Nat := chG v w (v.1.length - 1)
def prD (v : Dl_) (d : Nat) (w : List Nat) : List Nat := w.take (w.length - (v.1.getD d []).length) ++ v.2.1.getD d []
def rvD (v : Dl_) (d : Nat) (w : List Nat) : List Nat := w.take (w.length - (v.2.1.getD d []).length) ++ v.1.getD d []
theorem chG_lt {v : Dl_} {w : List Nat} {k : Nat} : chG v w k ≤ k := by
  induction k with
  | zero => exact Nat.le_refl _
  | succ k ih =>
    unfold chG
    split
    · exact Nat.le_refl _
    · omega
theorem nI_sub1 {a b : Nat} : nI a - nI b - nI 1 = nI a - nI (b + 1) := by
  rw [← nI_add]
  generalize nI a = x
  generalize nI b = y
  generalize nI 1 = z
  rw [Int32.sub_eq_add_neg, Int32.sub_eq_add_neg, Int32.sub_eq_add_neg, Int32.neg_add, Int32.add_assoc, Int32.sub_eq_add_neg]

set_option maxHeartbeats 4000000 in
set_option maxRecDepth 100000 in
theorem C_0_isVowel {c : Nat} {h : Hp_} {Q : Ot_ → Hp_ → Prop} (hc : c < 65536) (k : Q (.inl (some (.int (bI (vow c))))) h) : gG 1 60 0 0 M_0_isVowel 0 (lv_args 0 [.int (nI c)]) [] h Q := by
  have q : ∀ n, n < 65536 → nI c = nI n → c = n := fun n hn e => (nI_eq (by omega) (by omega)).mp e
  have yes : vow c = true → gG 1 60 0 0 M_0_isVowel 30 (lv_args 0 [.int (nI c)]) [] h Q := by
    intro e
    rw [e] at k
    refine g_iconst M_0_isVowel (v := nI 1) d_0_isVowel_30 (by decide) ?_
    refine g_goto M_0_isVowel (tgt := 35) d_0_isVowel_31 (by decide) ?_
    exact g_iret M_0_isVowel d_0_isVowel_35 rfl (by decide) k
  refine g_iloadn M_0_isVowel d_0_isVowel_0 (by first | rfl | assumption) ?_
  refine g_bipush M_0_isVowel (v := nI 97) d_0_isVowel_1 (by decide) ?_
  refine g_icmp_eq M_0_isVowel (tgt := 30) d_0_isVowel_3 (by decide) (fun e => yes (by rw [q 97 (by decide) e]; rfl)) (fun n1 => ?_)
  refine g_iloadn M_0_isVowel d_0_isVowel_6 (by first | rfl | assumption) ?_
  refine g_bipush M_0_isVowel (v := nI 101) d_0_isVowel_7 (by decide) ?_
  refine g_icmp_eq M_0_isVowel (tgt := 30) d_0_isVowel_9 (by decide) (fun e => yes (by rw [q 101 (by decide) e]; rfl)) (fun n2 => ?_)
  refine g_iloadn M_0_isVowel d_0_isVowel_12 (by first | rfl | assumption) ?_
  refine g_bipush M_0_isVowel (v := nI 105) d_0_isVowel_13 (by decide) ?_
  refine g_icmp_eq M_0_isVowel (tgt := 30) d_0_isVowel_15 (by decide) (fun e => yes (by rw [q 105 (by decide) e]; rfl)) (fun n3 => ?_)
  refine g_iloadn M_0_isVowel d_0_isVowel_18 (by first | rfl | assumption) ?_
  refine g_bipush M_0_isVowel (v := nI 111) d_0_isVowel_19 (by decide) ?_
  refine g_icmp_eq M_0_isVowel (tgt := 30) d_0_isVowel_21 (by decide) (fun e => yes (by rw [q 111 (by decide) e]; rfl)) (fun n4 => ?_)
  refine g_iloadn M_0_isVowel d_0_isVowel_24 (by first | rfl | assumption) ?_
  refine g_bipush M_0_isVowel (v := nI 117) d_0_isVowel_25 (by decide) ?_
  refine g_icmp_ne M_0_isVowel (tgt := 34) d_0_isVowel_27 (by decide) (fun n5 => ?_) (fun e => yes (by rw [q 117 (by decide) e]; rfl))
  have no : vow c = false := by
    have e1 : c ≠ 97 := fun e => n1 (by rw [e])
    have e2 : c ≠ 101 := fun e => n2 (by rw [e])
    have e3 : c ≠ 105 := fun e => n3 (by rw [e])
    have e4 : c ≠ 111 := fun e => n4 (by rw [e])
    have e5 : c ≠ 117 := fun e => n5 (by rw [e])
    simp [vow, e1, e2, e3, e4, e5]
  rw [no] at k
  refine g_iconst M_0_isVowel (v := nI 0) d_0_isVowel_34 (by decide) ?_
  exact g_iret M_0_isVowel d_0_isVowel_35 rfl (by decide) k
set_option maxHeartbeats 4000000 in
set_option maxRecDepth 100000 in
theorem C_0_meets {r : Nat → Nat} {v : Dl_} {d aw lw : Nat} {w : List Nat} {h : Hp_} {Q : Ot_ → Hp_ → Prop} (D : diR h r v) (hd : d < v.1.length) (W : wdR h aw lw w) (k : Q (.inl (some (.int (bI (mC (v.2.2.getD d 0) (v.1.getD d []) w))))) h) : gG 2 110 0 0 M_0_meetsCondition 0 (lv_args 0 [.ref (r 0), .int (nI d), .ref aw]) [] h Q := by
  obtain ⟨v0, E, A9, ⟨cl, g, g1, g2⟩, l1, l2⟩ := id D
  have el := E.1
  have w0 := W.2.1
  have wl := W.1.1
  have bl := (wd_get (i := d) E.2.1).1
  refine g_iloadn M_0_meetsCondition d_0_meetsCondition_0 (by first | rfl | assumption) ?_
  refine g_if_lt M_0_meetsCondition (tgt := 22) d_0_meetsCondition_1 (by decide) (fun c => absurd c (nI_pos (by omega))) (fun _ => ?_)
  refine g_iloadn M_0_meetsCondition d_0_meetsCondition_4 (by first | rfl | assumption) ?_
  refine g_aloadn M_0_meetsCondition d_0_meetsCondition_5 (by first | rfl | assumption) ?_
  refine g_get M_0_meetsCondition d_0_meetsCondition_6 fl_0_23 (by assumption) (by rfl) ?_
  refine g_alen M_0_meetsCondition d_0_meetsCondition_9 (by assumption) ?_
  refine g_icmp_ge M_0_meetsCondition (tgt := 22) d_0_meetsCondition_10 (by decide) (fun c => absurd c (nI_ge (by omega) (by omega))) (fun _ => ?_)
  refine g_aloadn M_0_meetsCondition d_0_meetsCondition_13 (by first | rfl | assumption) ?_
  refine g_get M_0_meetsCondition d_0_meetsCondition_14 fl_0_23 (by assumption) (by rfl) ?_
  refine g_iloadn M_0_meetsCondition d_0_meetsCondition_17 (by first | rfl | assumption) ?_
  refine g_iaload M_0_meetsCondition d_0_meetsCondition_18 g1 (vp_in_nI (by omega) (by decide)) ?_
  rw [nI_cl (by omega), g2 d (by omega)]
  refine g_goto M_0_meetsCondition (tgt := 23) d_0_meetsCondition_19 (by decide) ?_
  refine g_istoren M_0_meetsCondition d_0_meetsCondition_23 (by decide) (by first | rfl | (simp only [gc]; simp [*])) ?_
  refine g_aloadn M_0_meetsCondition d_0_meetsCondition_24 (by first | rfl | assumption) ?_
  refine gc_V M_0_meetsCondition 0 0 [] [] d_0_meetsCondition_25 cv_0_51 w0 (by rfl) (by rfl) (Nat.le_of_ble_eq_true (by rfl)) (Nat.le_of_ble_eq_true (by rfl)) (by decide) (by decide) (by decide) (by decide) (C_7_length w0 ?_)
  show gG _ _ _ _ _ _ _ _ _ _
  refine g_aloadn M_0_meetsCondition d_0_meetsCondition_28 (by first | rfl | assumption) ?_
  refine g_get M_0_meetsCondition d_0_meetsCondition_29 fl_0_14 (by assumption) (by rfl) ?_
  refine g_iloadn M_0_meetsCondition d_0_meetsCondition_32 (by first | rfl | assumption) ?_
  refine gc_V M_0_meetsCondition 0 0 [.int (nI d)] [_] d_0_meetsCondition_33 cv_0_56 E.2.2.1 (by rfl) (by rfl) (Nat.le_of_ble_eq_true (by rfl)) (Nat.le_of_ble_eq_true (by rfl)) (by decide) (by decide) (by decide) (by decide) (C_8_lengthOf (by decide) E (by omega) ?_)
  show gG _ _ _ _ _ _ _ _ _ _
  refine g_isub M_0_meetsCondition d_0_meetsCondition_36 ?_
  refine g_iconst M_0_meetsCondition (v := nI 1) d_0_meetsCondition_37 (by decide) ?_
  refine g_isub M_0_meetsCondition d_0_meetsCondition_38 ?_
  rw [nI_sub1]
  refine g_istore M_0_meetsCondition d_0_meetsCondition_39 (by decide) (by first | rfl | (simp only [gc]; simp [*])) ?_
  refine g_iloadn M_0_meetsCondition d_0_meetsCondition_41 (by first | rfl | assumption) ?_
  by_cases c0 : v.2.2.getD d 0 = 0
  · refine g_if_ne M_0_meetsCondition (tgt := 47) d_0_meetsCondition_42 (by decide) (fun c => absurd c0 c) (fun _ => ?_)
    have ef : mC (v.2.2.getD d 0) (v.1.getD d []) w = true := by unfold mC; rw [decide_eq_true c0]; rfl
    rw [ef] at k
    refine g_iconst M_0_meetsCondition (v := nI 1) d_0_meetsCondition_45 (by decide) ?_
    exact g_iret M_0_meetsCondition d_0_meetsCondition_46 rfl (by decide) k
  refine g_if_ne M_0_meetsCondition (tgt := 47) d_0_meetsCondition_42 (by decide) (fun _ => ?_) (fun c => absurd c c0)
  by_cases ql : (v.1.getD d []).length + 1 ≤ w.length
  rotate_left
  · have ef : mC (v.2.2.getD d 0) (v.1.getD d []) w = false := by unfold mC; rw [decide_eq_false c0, decide_eq_false ql]; rfl
    rw [ef] at k
    refine g_iload M_0_meetsCondition d_0_meetsCondition_47 (by first | rfl | assumption) ?_
    refine g_if_lt M_0_meetsCondition (tgt := 78) d_0_meetsCondition_49 (by decide) (fun _ => ?_) (fun c => absurd (nI_subneg (by omega) (by omega)) c)
    refine g_iconst M_0_meetsCondition (v := nI 0) d_0_meetsCondition_78 (by decide) ?_
    exact g_iret M_0_meetsCondition d_0_meetsCondition_79 rfl (by decide) k
  have ef : mC (v.2.2.getD d 0) (v.1.getD d []) w = (vow (w.getD (w.length - ((v.1.getD d []).length + 1)) 0) == decide (v.2.2.getD d 0 = nI 2)) := by unfold mC; rw [decide_eq_false c0, decide_eq_true ql]; rfl
  rw [ef] at k
  rw [nI_sub ql]
  refine g_iload M_0_meetsCondition d_0_meetsCondition_47 (by first | rfl | assumption) ?_
  refine g_if_lt M_0_meetsCondition (tgt := 78) d_0_meetsCondition_49 (by decide) (fun c => absurd c (nI_pos (by omega))) (fun _ => ?_)
  refine g_aloadn M_0_meetsCondition d_0_meetsCondition_52 (by first | rfl | assumption) ?_
  refine g_iload M_0_meetsCondition d_0_meetsCondition_53 (by first | rfl | assumption) ?_
  refine gc_V M_0_meetsCondition 0 0 [_] [] d_0_meetsCondition_55 cv_0_60 w0 (by rfl) (by rfl) (Nat.le_of_ble_eq_true (by rfl)) (Nat.le_of_ble_eq_true (by rfl)) (by decide) (by decide) (by decide) (by decide) (C_7_letter W (by omega) ?_)
  show gG _ _ _ _ _ _ _ _ _ _
  refine gc_S M_0_meetsCondition 0 0 [_] [] d_0_meetsCondition_58 cs_0_64 (by rfl) (by rfl) (by rfl) (Nat.le_of_ble_eq_true (by rfl)) (Nat.le_of_ble_eq_true (by rfl)) (by decide) (by decide) (by decide) (by decide) (C_0_isVowel (W.1.get _) ?_)
  show gG _ _ _ _ _ _ _ _ _ _
  refine g_iloadn M_0_meetsCondition d_0_meetsCondition_61 (by first | rfl | assumption) ?_
  refine g_iconst M_0_meetsCondition (v := nI 2) d_0_meetsCondition_62 (by decide) ?_
  generalize vow (w.getD (w.length - ((v.1.getD d []).length + 1)) 0) = b at k ⊢
  by_cases c2 : v.2.2.getD d 0 = nI 2
  · rw [decide_eq_true c2] at k
    refine g_icmp_ne M_0_meetsCondition (tgt := 70) d_0_meetsCondition_63 (by decide) (fun c => absurd c2 c) (fun _ => ?_)
    refine g_iconst M_0_meetsCondition (v := nI 1) d_0_meetsCondition_66 (by decide) ?_
    refine g_goto M_0_meetsCondition (tgt := 71) d_0_meetsCondition_67 (by decide) ?_
    cases b
    · refine g_icmp_ne M_0_meetsCondition (tgt := 78) d_0_meetsCondition_71 (by decide) (fun _ => ?_) (fun c => absurd c (by decide))
      refine g_iconst M_0_meetsCondition (v := nI 0) d_0_meetsCondition_78 (by decide) ?_
      exact g_iret M_0_meetsCondition d_0_meetsCondition_79 rfl (by decide) k
    · refine g_icmp_ne M_0_meetsCondition (tgt := 78) d_0_meetsCondition_71 (by decide) (fun c => absurd rfl c) (fun _ => ?_)
      refine g_iconst M_0_meetsCondition (v := nI 1) d_0_meetsCondition_74 (by decide) ?_
      refine g_goto M_0_meetsCondition (tgt := 79) d_0_meetsCondition_75 (by decide) ?_
      exact g_iret M_0_meetsCondition d_0_meetsCondition_79 rfl (by decide) k
  · rw [decide_eq_false c2] at k
    refine g_icmp_ne M_0_meetsCondition (tgt := 70) d_0_meetsCondition_63 (by decide) (fun _ => ?_) (fun c => absurd c c2)
    refine g_iconst M_0_meetsCondition (v := nI 0) d_0_meetsCondition_70 (by decide) ?_
    cases b
    · refine g_icmp_ne M_0_meetsCondition (tgt := 78) d_0_meetsCondition_71 (by decide) (fun c => absurd rfl c) (fun _ => ?_)
      refine g_iconst M_0_meetsCondition (v := nI 1) d_0_meetsCondition_74 (by decide) ?_
      refine g_goto M_0_meetsCondition (tgt := 79) d_0_meetsCondition_75 (by decide) ?_
      exact g_iret M_0_meetsCondition d_0_meetsCondition_79 rfl (by decide) k
    · refine g_icmp_ne M_0_meetsCondition (tgt := 78) d_0_meetsCondition_71 (by decide) (fun _ => ?_) (fun c => absurd c (by decide))
      refine g_iconst M_0_meetsCondition (v := nI 0) d_0_meetsCondition_78 (by decide) ?_
      exact g_iret M_0_meetsCondition d_0_meetsCondition_79 rfl (by decide) k
set_option maxHeartbeats 4000000 in
set_option maxRecDepth 100000 in
theorem C_0_fits {r : Nat → Nat} {v : Dl_} {d aw lw : Nat} {w : List Nat} {h : Hp_} {Q : Ot_ → Hp_ → Prop} (D : diR h r v) (hd : d < v.1.length) (W : wdR h aw lw w) (k : Q (.inl (some (.int (bI (fitD v d w))))) h) : gG 3 150 0 0 M_0_fits 0 (lv_args 0 [.ref (r 0), .int (nI d), .ref aw]) [] h Q := by
  obtain ⟨v0, E, A9, -, l1, l2⟩ := id D
  have el := E.1
  refine g_aloadn M_0_fits d_0_fits_0 (by first | rfl | assumption) ?_
  refine g_get M_0_fits d_0_fits_1 fl_0_14 (by assumption) (by rfl) ?_
  refine g_iloadn M_0_fits d_0_fits_4 (by first | rfl | assumption) ?_
  refine g_aloadn M_0_fits d_0_fits_5 (by first | rfl | assumption) ?_
  refine gc_V M_0_fits 0 0 [.int (nI d), .ref aw] [] d_0_fits_6 cv_0_44 E.2.2.1 (by rfl) (by rfl) (Nat.le_of_ble_eq_true (by rfl)) (Nat.le_of_ble_eq_true (by rfl)) (by decide) (by decide) (by decide) (by decide) (C_8_isEndOf (by decide) (by decide) E (by omega) W ?_)
  show gG _ _ _ _ _ _ _ _ _ _
  cases e : eW (v.1.getD d []) w with
  | false =>
    rw [show fitD v d w = false by unfold fitD; rw [e]; rfl] at k
    refine g_if_eq M_0_fits (tgt := 25) d_0_fits_9 (by decide) (fun _ => ?_) (fun c9 => absurd rfl c9)
    refine g_iconst M_0_fits (v := nI 0) d_0_fits_25 (by decide) ?_
    exact g_iret M_0_fits d_0_fits_26 rfl (by decide) k
  | true =>
    refine g_if_eq M_0_fits (tgt := 25) d_0_fits_9 (by decide) (fun c9 => absurd c9 (by decide)) (fun _ => ?_)
    refine g_aloadn M_0_fits d_0_fits_12 (by first | rfl | assumption) ?_
    refine g_iloadn M_0_fits d_0_fits_13 (by first | rfl | assumption) ?_
    refine g_aloadn M_0_fits d_0_fits_14 (by first | rfl | assumption) ?_
    refine gc_V M_0_fits 0 0 [.int (nI d), .ref aw] [] d_0_fits_15 cv_0_48 v0 (by rfl) (by rfl) (Nat.le_of_ble_eq_true (by rfl)) (Nat.le_of_ble_eq_true (by rfl)) (by decide) (by decide) (by decide) (by decide) (C_0_meets D hd W ?_)
    show gG _ _ _ _ _ _ _ _ _ _
    cases e2 : mC (v.2.2.getD d 0) (v.1.getD d []) w with
    | false =>
      rw [show fitD v d w = false by unfold fitD; rw [e, e2]; rfl] at k
      refine g_if_eq M_0_fits (tgt := 25) d_0_fits_18 (by decide) (fun _ => ?_) (fun c9 => absurd rfl c9)
      refine g_iconst M_0_fits (v := nI 0) d_0_fits_25 (by decide) ?_
      exact g_iret M_0_fits d_0_fits_26 rfl (by decide) k
    | true =>
      rw [show fitD v d w = true by unfold fitD; rw [e, e2]; rfl] at k
      refine g_if_eq M_0_fits (tgt := 25) d_0_fits_18 (by decide) (fun c9 => absurd c9 (by decide)) (fun _ => ?_)
      refine g_iconst M_0_fits (v := nI 1) d_0_fits_21 (by decide) ?_
      refine g_goto M_0_fits (tgt := 26) d_0_fits_22 (by decide) ?_
      exact g_iret M_0_fits d_0_fits_26 rfl (by decide) k
set_option maxHeartbeats 4000000 in
set_option maxRecDepth 100000 in
theorem C_0_choose {r : Nat → Nat} {v : Dl_} {aw lw : Nat} {w : List Nat} {h : Hp_} {Q : Ot_ → Hp_ → Prop} (D : diR h r v) (hd : 0 < v.1.length) (W : wdR h aw lw w) (k : Q (.inl (some (.int (nI (chD v w))))) h) : gG 4 180 0 0 M_0_choose 0 (lv_args 0 [.ref (r 0), .ref aw]) [] h Q := by
  obtain ⟨v0, E, A9, -, l1, l2⟩ := id D
  have el := E.1
  refine g_iconst M_0_choose (v := nI 0) d_0_choose_0 (by decide) ?_
  refine g_istoren M_0_choose d_0_choose_1 (by decide) (by first | rfl | (simp only [gc]; simp [*])) ?_
  refine g_iconst M_0_choose (v := nI 1) d_0_choose_2 (by decide) ?_
  refine g_istoren M_0_choose d_0_choose_3 (by decide) (by first | rfl | (simp only [gc]; simp [*])) ?_
  have loop : ∀ n p, p + n = v.1.length - 1 → ∀ lv : List (Nat × Value), gl lv 0 = some (.ref (r 0)) → gl lv 1 = some (.ref aw) → gl lv 2 = some (.int (nI (chG v w p))) → gl lv 3 = some (.int (nI (p + 1))) → gG 4 180 0 0 M_0_choose 4 lv [] h Q := by
    intro n
    induction n with
    | zero =>
      intro p hp lv H0 H1 H2 H3
      have e : chD v w = chG v w p := by unfold chD; rw [← hp]; rfl
      rw [e] at k
      refine g_iloadn M_0_choose d_0_choose_4 (by first | rfl | assumption) ?_
      refine g_aloadn M_0_choose d_0_choose_5 (by first | rfl | assumption) ?_
      refine gc_V M_0_choose 0 0 [] [.int (nI (p + 1))] d_0_choose_6 cv_0_31 v0 (by rfl) (by rfl) (Nat.le_of_ble_eq_true (by rfl)) (Nat.le_of_ble_eq_true (by rfl)) (by decide) (by decide) (by decide) (by decide) (C_0_count D ?_)
      show gG _ _ _ _ _ _ _ _ _ _
      refine g_icmp_ge M_0_choose (tgt := 48) d_0_choose_9 (by decide) (fun _ => ?_) (fun c => absurd (nI_le (by omega) (by omega)) c)
      refine g_iloadn M_0_choose d_0_choose_48 (by first | rfl | assumption) ?_
      exact g_iret M_0_choose d_0_choose_49 rfl rfl k
    | succ n ih =>
      intro p hp lv H0 H1 H2 H3
      have cb := chG_lt (v := v) (w := w) (k := p)
      have b1 := (wd_get (i := p + 1) E.2.1).1
      have b2 := (wd_get (i := chG v w p) E.2.1).1
      refine g_iloadn M_0_choose d_0_choose_4 (by first | rfl | assumption) ?_
      refine g_aloadn M_0_choose d_0_choose_5 (by first | rfl | assumption) ?_
      refine gc_V M_0_choose 0 0 [] [.int (nI (p + 1))] d_0_choose_6 cv_0_31 v0 (by rfl) (by rfl) (Nat.le_of_ble_eq_true (by rfl)) (Nat.le_of_ble_eq_true (by rfl)) (by decide) (by decide) (by decide) (by decide) (C_0_count D ?_)
      show gG _ _ _ _ _ _ _ _ _ _
      refine g_icmp_ge M_0_choose (tgt := 48) d_0_choose_9 (by decide) (fun c => absurd c (nI_ge (by omega) (by omega))) (fun _ => ?_)
      refine g_aloadn M_0_choose d_0_choose_12 (by first | rfl | assumption) ?_
      refine g_get M_0_choose d_0_choose_13 fl_0_14 (by assumption) (by rfl) ?_
      refine g_iloadn M_0_choose d_0_choose_16 (by first | rfl | assumption) ?_
      refine gc_V M_0_choose 0 0 [.int (nI (p + 1))] [] d_0_choose_17 cv_0_56 E.2.2.1 (by rfl) (by rfl) (Nat.le_of_ble_eq_true (by rfl)) (Nat.le_of_ble_eq_true (by rfl)) (by decide) (by decide) (by decide) (by decide) (C_8_lengthOf (by decide) E (by omega) ?_)
      show gG _ _ _ _ _ _ _ _ _ _
      refine g_aloadn M_0_choose d_0_choose_20 (by first | rfl | assumption) ?_
      refine g_get M_0_choose d_0_choose_21 fl_0_14 (by assumption) (by rfl) ?_
      refine g_iloadn M_0_choose d_0_choose_24 (by first | rfl | assumption) ?_
      refine gc_V M_0_choose 0 0 [.int (nI (chG v w p))] [_] d_0_choose_25 cv_0_56 E.2.2.1 (by rfl) (by rfl) (Nat.le_of_ble_eq_true (by rfl)) (Nat.le_of_ble_eq_true (by rfl)) (by decide) (by decide) (by decide) (by decide) (C_8_lengthOf (by decide) E (by omega) ?_)
      show gG _ _ _ _ _ _ _ _ _ _
      have keepit : chG v w (p + 1) = chG v w p → ∀ lv : List (Nat × Value), gl lv 0 = some (.ref (r 0)) → gl lv 1 = some (.ref aw) → gl lv 2 = some (.int (nI (chG v w p))) → gl lv 3 = some (.int (nI (p + 1))) → gG 4 180 0 0 M_0_choose 42 lv [] h Q := by
        intro e lv H0 H1 H2 H3
        refine g_iinc M_0_choose (v := nI (p + 1 + 1)) d_0_choose_42 H3 (by decide) (by first | rfl | (simp only [gc]; simp [*])) (nI_add (p + 1) 1) ?_
        refine g_goto M_0_choose (tgt := 4) d_0_choose_45 (by decide) ?_
        exact ih (p + 1) (by omega) _ H0 H1 (by rw [e]; exact H2) rfl
      refine g_icmp_lt M_0_choose (tgt := 42) d_0_choose_28 (by decide) (fun c => ?_) (fun c => ?_)
      · rw [nI_ltI (by omega) (by omega)] at c
        exact keepit (by rw [chG, if_neg (by omega)]) lv H0 H1 H2 H3
      · rw [nI_ltI (by omega) (by omega)] at c
        refine g_aloadn M_0_choose d_0_choose_31 (by first | rfl | assumption) ?_
        refine g_iloadn M_0_choose d_0_choose_32 (by first | rfl | assumption) ?_
        refine g_aloadn M_0_choose d_0_choose_33 (by first | rfl | assumption) ?_
        refine gc_V M_0_choose 0 0 [.int (nI (p + 1)), .ref aw] [] d_0_choose_34 cv_0_68 v0 (by rfl) (by rfl) (Nat.le_of_ble_eq_true (by rfl)) (Nat.le_of_ble_eq_true (by rfl)) (by decide) (by decide) (by decide) (by decide) (C_0_fits D (by omega) W ?_)
        show gG _ _ _ _ _ _ _ _ _ _
        cases e : fitD v (p + 1) w with
        | false =>
          refine g_if_eq M_0_choose (tgt := 42) d_0_choose_37 (by decide) (fun _ => ?_) (fun c9 => absurd rfl c9)
          exact keepit (by rw [chG, if_neg (by rw [e]; simp)]) lv H0 H1 H2 H3
        | true =>
          refine g_if_eq M_0_choose (tgt := 42) d_0_choose_37 (by decide) (fun c9 => absurd c9 (by decide)) (fun _ => ?_)
          refine g_iloadn M_0_choose d_0_choose_40 (by first | rfl | assumption) ?_
          refine g_istoren M_0_choose d_0_choose_41 (by decide) (by first | rfl | (simp only [gc]; simp [*])) ?_
          refine g_iinc M_0_choose (v := nI (p + 1 + 1)) d_0_choose_42 H3 (by decide) (by first | rfl | (simp only [gc]; simp [*])) (nI_add (p + 1) 1) ?_
          refine g_goto M_0_choose (tgt := 4) d_0_choose_45 (by decide) ?_
          exact ih (p + 1) (by omega) _ H0 H1 (by rw [chG, if_pos ⟨by omega, e⟩]; rfl) rfl
  exact loop (v.1.length - 1) 0 (by omega) _ rfl rfl rfl rfl
set_option maxHeartbeats 4000000 in
set_option maxRecDepth 100000 in
theorem C_0_press {r : Nat → Nat} {v : Dl_} {d aw lw : Nat} {w : List Nat} {h : Hp_} {Q : Ot_ → Hp_ → Prop} (D : diR h r v) (hd : d < v.1.length) (W : wdR h aw lw w) (hw : w.length ≤ 12) (n0 : aw ≠ lw) (o : ∀ x, x < 8 → r x ≠ aw ∧ r x ≠ lw) (k : ∀ h', gExt h h' [aw, lw] [] → wdR h' aw lw (prD v d w) → Q (.inl none) h') : gG 3 130 0 0 M_0_press 0 (lv_args 0 [.ref (r 0), .int (nI d), .ref aw]) [] h Q := by
  obtain ⟨v0, E, A9, -, l1, l2⟩ := id D
  have el := E.1
  have bl := (wd_get (i := d) E.2.1).1
  have al := (wd_get (i := d) A9.2.1).1
  refine g_aloadn M_0_press d_0_press_0 (by first | rfl | assumption) ?_
  refine g_aloadn M_0_press d_0_press_1 (by first | rfl | assumption) ?_
  refine g_get M_0_press d_0_press_2 fl_0_14 (by assumption) (by rfl) ?_
  refine g_iloadn M_0_press d_0_press_5 (by first | rfl | assumption) ?_
  refine gc_V M_0_press 0 0 [.int (nI d)] [.ref aw] d_0_press_6 cv_0_56 E.2.2.1 (by rfl) (by rfl) (Nat.le_of_ble_eq_true (by rfl)) (Nat.le_of_ble_eq_true (by rfl)) (by decide) (by decide) (by decide) (by decide) (C_8_lengthOf (by decide) E (by omega) ?_)
  show gG _ _ _ _ _ _ _ _ _ _
  refine gc_V M_0_press 0 0 [_] [] d_0_press_9 cv_0_71 W.2.1 (by rfl) (by rfl) (Nat.le_of_ble_eq_true (by rfl)) (Nat.le_of_ble_eq_true (by rfl)) (by decide) (by decide) (by decide) (by decide) (C_7_shorten (by omega) n0.symm W (fun h1 e1 W1 => ?_))
  have v01 := e1.keep v0 (by simpa using (o 0 (by decide)).1)
  have A1 := A9.keep e1 (by simpa using (o 4 (by decide)).1) (by simpa using (o 5 (by decide)).1) (by simpa using (o 6 (by decide)).1)
  show gG _ _ _ _ _ _ _ _ _ _
  refine g_aloadn M_0_press d_0_press_12 (by first | rfl | assumption) ?_
  refine g_get M_0_press d_0_press_13 fl_0_20 (by assumption) (by rfl) ?_
  refine g_iloadn M_0_press d_0_press_16 (by first | rfl | assumption) ?_
  refine g_aloadn M_0_press d_0_press_17 (by first | rfl | assumption) ?_
  refine gc_V M_0_press 0 0 [.int (nI d), .ref aw] [] d_0_press_18 cv_0_74 A1.2.2.1 (by rfl) (by rfl) (Nat.le_of_ble_eq_true (by rfl)) (Nat.le_of_ble_eq_true (by rfl)) (by decide) (by decide) (by decide) (by decide) (C_8_appendTo (by decide) (by decide) A1 (by omega) W1 (by rw [List.length_take]; omega) n0 (fun x hx q => by simp only [List.mem_cons, List.not_mem_nil, or_false] at hx q; rcases hx with rfl | rfl | rfl <;> rcases q with q | q <;> first | exact (o _ (by decide)).1 q | exact (o _ (by decide)).2 q) (fun h2 e2 W2 => ?_))
  show gG _ _ _ _ _ _ _ _ _ _
  have t := (e1.weak (S' := [aw, lw]) (by simp)).trans e2 (fun x hx => Or.inl hx)
  exact g_vret M_0_press d_0_press_21 rfl (k h2 (by simpa using t) W2)
set_option maxHeartbeats 4000000 in
set_option maxRecDepth 100000 in
theorem C_0_reverse {r : Nat → Nat} {v : Dl_} {d aw lw : Nat} {w : List Nat} {h : Hp_} {Q : Ot_ → Hp_ → Prop} (D : diR h r v) (hd : d < v.1.length) (W : wdR h aw lw w) (hw : w.length ≤ 12) (n0 : aw ≠ lw) (o : ∀ x, x < 8 → r x ≠ aw ∧ r x ≠ lw) (kf : eW (v.2.1.getD d []) w = false → Q (.inl (some (.int 0))) h) (kt : eW (v.2.1.getD d []) w = true → ∀ h', gExt h h' [aw, lw] [] → wdR h' aw lw (rvD v d w) → Q (.inl (some (.int (bI (decide (1 ≤ (rvD v d w).length ∧ (rvD v d w).length ≤ 12)))))) h') : gG 3 130 0 0 M_0_reverse 0 (lv_args 0 [.ref (r 0), .int (nI d), .ref aw]) [] h Q := by
  obtain ⟨v0, E, A9, -, l1, l2⟩ := id D
  have el := E.1
  have bl := (wd_get (i := d) E.2.1).1
  have al := (wd_get (i := d) A9.2.1).1
  refine g_aloadn M_0_reverse d_0_reverse_0 (by first | rfl | assumption) ?_
  refine g_get M_0_reverse d_0_reverse_1 fl_0_20 (by assumption) (by rfl) ?_
  refine g_iloadn M_0_reverse d_0_reverse_4 (by first | rfl | assumption) ?_
  refine g_aloadn M_0_reverse d_0_reverse_5 (by first | rfl | assumption) ?_
  refine gc_V M_0_reverse 0 0 [.int (nI d), .ref aw] [] d_0_reverse_6 cv_0_44 A9.2.2.1 (by rfl) (by rfl) (Nat.le_of_ble_eq_true (by rfl)) (Nat.le_of_ble_eq_true (by rfl)) (by decide) (by decide) (by decide) (by decide) (C_8_isEndOf (by decide) (by decide) A9 (by omega) W ?_)
  show gG _ _ _ _ _ _ _ _ _ _
  cases e : eW (v.2.1.getD d []) w with
  | false =>
    refine g_if_ne M_0_reverse (tgt := 14) d_0_reverse_9 (by decide) (fun c9 => absurd rfl c9) (fun _ => ?_)
    refine g_iconst M_0_reverse (v := nI 0) d_0_reverse_12 (by decide) ?_
    exact g_iret M_0_reverse d_0_reverse_13 rfl (by decide) (kf e)
  | true =>
    refine g_if_ne M_0_reverse (tgt := 14) d_0_reverse_9 (by decide) (fun _ => ?_) (fun c9 => absurd c9 (by decide))
    refine g_aloadn M_0_reverse d_0_reverse_14 (by first | rfl | assumption) ?_
    refine g_aloadn M_0_reverse d_0_reverse_15 (by first | rfl | assumption) ?_
    refine g_get M_0_reverse d_0_reverse_16 fl_0_20 (by assumption) (by rfl) ?_
    refine g_iloadn M_0_reverse d_0_reverse_19 (by first | rfl | assumption) ?_
    refine gc_V M_0_reverse 0 0 [.int (nI d)] [.ref aw] d_0_reverse_20 cv_0_56 A9.2.2.1 (by rfl) (by rfl) (Nat.le_of_ble_eq_true (by rfl)) (Nat.le_of_ble_eq_true (by rfl)) (by decide) (by decide) (by decide) (by decide) (C_8_lengthOf (by decide) A9 (by omega) ?_)
    show gG _ _ _ _ _ _ _ _ _ _
    refine gc_V M_0_reverse 0 0 [_] [] d_0_reverse_23 cv_0_71 W.2.1 (by rfl) (by rfl) (Nat.le_of_ble_eq_true (by rfl)) (Nat.le_of_ble_eq_true (by rfl)) (by decide) (by decide) (by decide) (by decide) (C_7_shorten (by omega) n0.symm W (fun h1 e1 W1 => ?_))
    have v01 := e1.keep v0 (by simpa using (o 0 (by decide)).1)
    have E1 := E.keep e1 (by simpa using (o 1 (by decide)).1) (by simpa using (o 2 (by decide)).1) (by simpa using (o 3 (by decide)).1)
    show gG _ _ _ _ _ _ _ _ _ _
    refine g_aloadn M_0_reverse d_0_reverse_26 (by first | rfl | assumption) ?_
    refine g_get M_0_reverse d_0_reverse_27 fl_0_14 (by assumption) (by rfl) ?_
    refine g_iloadn M_0_reverse d_0_reverse_30 (by first | rfl | assumption) ?_
    refine g_aloadn M_0_reverse d_0_reverse_31 (by first | rfl | assumption) ?_
    refine gc_V M_0_reverse 0 0 [.int (nI d), .ref aw] [] d_0_reverse_32 cv_0_74 E1.2.2.1 (by rfl) (by rfl) (Nat.le_of_ble_eq_true (by rfl)) (Nat.le_of_ble_eq_true (by rfl)) (by decide) (by decide) (by decide) (by decide) (C_8_appendTo (by decide) (by decide) E1 (by omega) W1 (by rw [List.length_take]; omega) n0 (fun x hx q => by simp only [List.mem_cons, List.not_mem_nil, or_false] at hx q; rcases hx with rfl | rfl | rfl <;> rcases q with q | q <;> first | exact (o _ (by decide)).1 q | exact (o _ (by decide)).2 q) (fun h2 e2 W2 => ?_))
    show gG _ _ _ _ _ _ _ _ _ _
    have t := (e1.weak (S' := [aw, lw]) (by simp)).trans e2 (fun x hx => Or.inl hx)
    have t2 : gExt h h2 [aw, lw] [] := by simpa using t
    have W3 : wdR h2 aw lw (rvD v d w) := W2
    have w3 := W3.2.1
    have b3 := W3.1.1
    have k2 := kt e h2 t2 W3
    refine g_aloadn M_0_reverse d_0_reverse_35 (by first | rfl | assumption) ?_
    refine gc_V M_0_reverse 0 0 [] [] d_0_reverse_36 cv_0_51 w3 (by rfl) (by rfl) (Nat.le_of_ble_eq_true (by rfl)) (Nat.le_of_ble_eq_true (by rfl)) (by decide) (by decide) (by decide) (by decide) (C_7_length w3 ?_)
    show gG _ _ _ _ _ _ _ _ _ _
    refine g_iconst M_0_reverse (v := nI 1) d_0_reverse_39 (by decide) ?_
    by_cases q1 : 1 ≤ (rvD v d w).length
    rotate_left
    · rw [decide_eq_false (fun z => q1 z.1)] at k2
      refine g_icmp_lt M_0_reverse (tgt := 56) d_0_reverse_40 (by decide) (fun _ => ?_) (fun c => absurd (nI_lt (by omega) (by decide)) c)
      refine g_iconst M_0_reverse (v := nI 0) d_0_reverse_56 (by decide) ?_
      exact g_iret M_0_reverse d_0_reverse_57 rfl (by decide) k2
    refine g_icmp_lt M_0_reverse (tgt := 56) d_0_reverse_40 (by decide) (fun c => absurd c (nI_nlt q1 (by omega))) (fun _ => ?_)
    refine g_aloadn M_0_reverse d_0_reverse_43 (by first | rfl | assumption) ?_
    refine gc_V M_0_reverse 0 0 [] [] d_0_reverse_44 cv_0_51 w3 (by rfl) (by rfl) (Nat.le_of_ble_eq_true (by rfl)) (Nat.le_of_ble_eq_true (by rfl)) (by decide) (by decide) (by decide) (by decide) (C_7_length w3 ?_)
    show gG _ _ _ _ _ _ _ _ _ _
    refine g_bipush M_0_reverse (v := nI 12) d_0_reverse_47 (by decide) ?_
    by_cases q2 : (rvD v d w).length ≤ 12
    rotate_left
    · rw [decide_eq_false (fun z => q2 z.2)] at k2
      refine g_icmp_gt M_0_reverse (tgt := 56) d_0_reverse_49 (by decide) (fun _ => ?_) (fun c => absurd (nI_lt (by omega) (by omega)) c)
      refine g_iconst M_0_reverse (v := nI 0) d_0_reverse_56 (by decide) ?_
      exact g_iret M_0_reverse d_0_reverse_57 rfl (by decide) k2
    rw [decide_eq_true ⟨q1, q2⟩] at k2
    refine g_icmp_gt M_0_reverse (tgt := 56) d_0_reverse_49 (by decide) (fun c => absurd c (nI_nlt q2 (by decide))) (fun _ => ?_)
    refine g_iconst M_0_reverse (v := nI 1) d_0_reverse_52 (by decide) ?_
    refine g_goto M_0_reverse (tgt := 57) d_0_reverse_53 (by decide) ?_
    exact g_iret M_0_reverse d_0_reverse_57 rfl (by decide) k2
set_option maxHeartbeats 4000000 in
set_option maxRecDepth 100000 in
theorem C_0_remove {r : Nat → Nat} {v : Dl_} {d : Nat} {h : Hp_} {Q : Ot_ → Hp_ → Prop} (s : sepR r 8) (D : diR h r v) (hd : d < v.1.length) (k : ∀ h', gExt h h' ((List.range 8).map r) [] → diR h' r (v.1.eraseIdx d, v.2.1.eraseIdx d, v.2.2.eraseIdx d) → Q (.inl none) h') : gG 3 130 0 0 M_0_remove 0 (lv_args 0 [.ref (r 0), .int (nI d)]) [] h Q := by
  obtain ⟨v0, E, A9, ⟨cl, g, g1, g2⟩, l1, l2⟩ := id D
  have el := E.1
  have mr : ∀ k, k < 8 → r k ∈ (List.range 8).map r := fun k hk => List.mem_map.mpr ⟨k, List.mem_range.mpr hk, rfl⟩
  refine g_aloadn M_0_remove d_0_remove_0 (by first | rfl | assumption) ?_
  refine g_get M_0_remove d_0_remove_1 fl_0_14 (by assumption) (by rfl) ?_
  refine g_iloadn M_0_remove d_0_remove_4 (by first | rfl | assumption) ?_
  refine gc_V M_0_remove 0 0 [.int (nI d)] [] d_0_remove_5 cv_0_36 E.2.2.1 (by rfl) (by rfl) (Nat.le_of_ble_eq_true (by rfl)) (Nat.le_of_ble_eq_true (by rfl)) (by decide) (by decide) (by decide) (by decide) (C_8_remove (by decide) (by decide) hd (s.ne 1 2 (by decide) (by decide) (by decide)) (s.ne 1 3 (by decide) (by decide) (by decide)) (s.ne 2 3 (by decide) (by decide) (by decide)) E (fun h1 e1 E1 => ?_))
  have v01 := e1.keep v0 (fun q => by simp only [List.mem_cons, List.not_mem_nil, or_false] at q; rcases q with q | q | q <;> exact absurd q (s.ne _ _ (by decide) (by decide) (by decide)))
  have A1 := A9.keep e1 (fun q => by simp only [List.mem_cons, List.not_mem_nil, or_false] at q; rcases q with q | q | q <;> exact absurd q (s.ne _ _ (by decide) (by decide) (by decide))) (fun q => by simp only [List.mem_cons, List.not_mem_nil, or_false] at q; rcases q with q | q | q <;> exact absurd q (s.ne _ _ (by decide) (by decide) (by decide))) (fun q => by simp only [List.mem_cons, List.not_mem_nil, or_false] at q; rcases q with q | q | q <;> exact absurd q (s.ne _ _ (by decide) (by decide) (by decide)))
  have g11 := e1.keep g1 (fun q => by simp only [List.mem_cons, List.not_mem_nil, or_false] at q; rcases q with q | q | q <;> exact absurd q (s.ne _ _ (by decide) (by decide) (by decide)))
  show gG _ _ _ _ _ _ _ _ _ _
  refine g_aloadn M_0_remove d_0_remove_8 (by first | rfl | assumption) ?_
  refine g_get M_0_remove d_0_remove_9 fl_0_20 (by assumption) (by rfl) ?_
  refine g_iloadn M_0_remove d_0_remove_12 (by first | rfl | assumption) ?_
  refine gc_V M_0_remove 0 0 [.int (nI d)] [] d_0_remove_13 cv_0_36 A1.2.2.1 (by rfl) (by rfl) (Nat.le_of_ble_eq_true (by rfl)) (Nat.le_of_ble_eq_true (by rfl)) (by decide) (by decide) (by decide) (by decide) (C_8_remove (by decide) (by decide) (by omega) (s.ne 4 5 (by decide) (by decide) (by decide)) (s.ne 4 6 (by decide) (by decide) (by decide)) (s.ne 5 6 (by decide) (by decide) (by decide)) A1 (fun h2 e2 A2 => ?_))
  have v02 := e2.keep v01 (fun q => by simp only [List.mem_cons, List.not_mem_nil, or_false] at q; rcases q with q | q | q <;> exact absurd q (s.ne _ _ (by decide) (by decide) (by decide)))
  have E2 := E1.keep e2 (fun q => by simp only [List.mem_cons, List.not_mem_nil, or_false] at q; rcases q with q | q | q <;> exact absurd q (s.ne _ _ (by decide) (by decide) (by decide))) (fun q => by simp only [List.mem_cons, List.not_mem_nil, or_false] at q; rcases q with q | q | q <;> exact absurd q (s.ne _ _ (by decide) (by decide) (by decide))) (fun q => by simp only [List.mem_cons, List.not_mem_nil, or_false] at q; rcases q with q | q | q <;> exact absurd q (s.ne _ _ (by decide) (by decide) (by decide)))
  have g12 := e2.keep g11 (fun q => by simp only [List.mem_cons, List.not_mem_nil, or_false] at q; rcases q with q | q | q <;> exact absurd q (s.ne _ _ (by decide) (by decide) (by decide)))
  show gG _ _ _ _ _ _ _ _ _ _
  refine g_aloadn M_0_remove d_0_remove_16 (by first | rfl | assumption) ?_
  refine g_get M_0_remove d_0_remove_17 fl_0_23 (by assumption) (by rfl) ?_
  refine g_iloadn M_0_remove d_0_remove_20 (by first | rfl | assumption) ?_
  refine gc_N M_0_remove 0 0 [.ref (r 7), .int (nI d)] [] d_0_remove_21 cn_0_40 (by rfl) (by rfl) (Nat.le_of_ble_eq_true (by rfl)) (Nat.le_of_ble_eq_true (by rfl)) (by decide) (by decide) (by decide) (by decide) (C_9_closeGap (by decide) (by omega) g12 (fun h3 g' e3 v3 G => ?_))
  show gG _ _ _ _ _ _ _ _ _ _
  have f1 := e1.weak (S' := (List.range 8).map r) (fun x hx => by simp only [List.mem_cons, List.not_mem_nil, or_false] at hx; rcases hx with rfl | rfl | rfl <;> exact mr _ (by decide))
  have t := (f1.trans e2 (fun x hx => Or.inl (by simp only [List.mem_cons, List.not_mem_nil, or_false] at hx; rcases hx with rfl | rfl | rfl <;> exact mr _ (by decide)))).trans e3 (fun x hx => Or.inl (by rw [List.mem_singleton.mp hx]; exact mr 7 (by decide)))
  have N3 := nm_erase cl (by omega) g2 G v3
  refine g_vret M_0_remove d_0_remove_24 rfl (k h3 (by simpa using t) ⟨e3.keep v02 (fun q => by simp only [List.mem_cons, List.not_mem_nil, or_false] at q; rcases q with q <;> exact absurd q (s.ne _ _ (by decide) (by decide) (by decide))), E2.keep e3 (fun q => by simp only [List.mem_cons, List.not_mem_nil, or_false] at q; rcases q with q <;> exact absurd q (s.ne _ _ (by decide) (by decide) (by decide))) (fun q => by simp only [List.mem_cons, List.not_mem_nil, or_false] at q; rcases q with q <;> exact absurd q (s.ne _ _ (by decide) (by decide) (by decide))) (fun q => by simp only [List.mem_cons, List.not_mem_nil, or_false] at q; rcases q with q <;> exact absurd q (s.ne _ _ (by decide) (by decide) (by decide))), A2.keep e3 (fun q => by simp only [List.mem_cons, List.not_mem_nil, or_false] at q; rcases q with q <;> exact absurd q (s.ne _ _ (by decide) (by decide) (by decide))) (fun q => by simp only [List.mem_cons, List.not_mem_nil, or_false] at q; rcases q with q <;> exact absurd q (s.ne _ _ (by decide) (by decide) (by decide))) (fun q => by simp only [List.mem_cons, List.not_mem_nil, or_false] at q; rcases q with q <;> exact absurd q (s.ne _ _ (by decide) (by decide) (by decide))), N3, ?_, ?_⟩)
  · rw [List.length_eraseIdx, List.length_eraseIdx, if_pos (by omega), if_pos hd, l1]
  · rw [List.length_eraseIdx, List.length_eraseIdx, if_pos (by omega), if_pos hd, l2]
