/-! ===== Words: comparing, finding ===== -/
/-- a word ends with e -/
def eW (e w : List Nat) : Bool := decide (e.length ≤ w.length ∧ ∀ j, j < e.length → e.getD j 0 = w.getD (w.length - e.length + j) 0)
theorem eW_iff {e w : List Nat} : eW e w = true ↔ ∃ v, w = v ++ e := by
  unfold eW
  rw [decide_eq_true_iff]
  constructor
  · rintro ⟨h1, h2⟩
    refine ⟨w.take (w.length - e.length), ?_⟩
    have hd : w.drop (w.length - e.length) = e := by
      apply getD_ext
      · rw [List.length_drop]; omega
      · intro j hj
        rw [List.length_drop] at hj
        rw [h2 j (by omega), List.getD_eq_getElem?_getD, List.getD_eq_getElem?_getD, List.getElem?_drop]
    exact (List.take_append_drop (w.length - e.length) w).symm.trans (by rw [hd])
  · rintro ⟨v, rfl⟩
    refine ⟨by rw [List.length_append]; omega, fun j hj => ?_⟩
    rw [List.length_append, List.getD_eq_getElem?_getD, List.getD_eq_getElem?_getD, List.getElem?_append_right (by omega)]
    congr 2
    omega

set_option maxHeartbeats 4000000 in
set_option maxRecDepth 100000 in
theorem C_8_isEndOf {a la na rows width : Nat} {ws : List (List Nat)} {i aw lw : Nat} {w : List Nat} {h : Hp_} {Q : Ot_ → Hp_ → Prop} (hr : rows ≤ 30) (hw : width ≤ 16) (R : wsR h a la na rows width ws) (hi : i < 2 ^ 31) (D : wdR h aw lw w) (k : Q (.inl (some (.int (bI (eW (ws.getD i []) w))))) h) : gG 2 100 0 0 M_8_isEndOf 0 (lv_args 0 [.ref a, .int (nI i), .ref aw]) [] h Q := by
  have r0 := R.2.2.1
  have d0 := D.2.1
  have bw := (wd_get (i := i) R.2.1)
  have bl := bw.1
  have dl := D.1.1
  refine g_aloadn M_8_isEndOf d_8_isEndOf_0 (by first | rfl | assumption) ?_
  refine g_iloadn M_8_isEndOf d_8_isEndOf_1 (by first | rfl | assumption) ?_
  refine gc_V M_8_isEndOf 0 0 [.int (nI i)] [] d_8_isEndOf_2 cv_8_63 r0 (by rfl) (by rfl) (Nat.le_of_ble_eq_true (by rfl)) (Nat.le_of_ble_eq_true (by rfl)) (by decide) (by decide) (by decide) (by decide) (C_8_lengthOf hr R hi ?_)
  show gG _ _ _ _ _ _ _ _ _ _
  refine g_istoren M_8_isEndOf d_8_isEndOf_5 (by decide) (by first | rfl | (simp only [gc]; simp [*])) ?_
  refine g_aloadn M_8_isEndOf d_8_isEndOf_6 (by first | rfl | assumption) ?_
  refine gc_V M_8_isEndOf 0 0 [] [] d_8_isEndOf_7 cv_8_40 d0 (by rfl) (by rfl) (Nat.le_of_ble_eq_true (by rfl)) (Nat.le_of_ble_eq_true (by rfl)) (by decide) (by decide) (by decide) (by decide) (C_7_length d0 ?_)
  show gG _ _ _ _ _ _ _ _ _ _
  refine g_iloadn M_8_isEndOf d_8_isEndOf_10 (by first | rfl | assumption) ?_
  refine g_isub M_8_isEndOf d_8_isEndOf_11 ?_
  by_cases ql : (ws.getD i []).length ≤ w.length
  rotate_left
  · have c0 := nI_subneg (show w.length < (ws.getD i []).length by omega) (by omega)
    have ef : eW (ws.getD i []) w = false := decide_eq_false (fun z => ql z.1)
    rw [ef] at k
    refine g_istore M_8_isEndOf d_8_isEndOf_12 (by decide) (by first | rfl | (simp only [gc]; simp [*])) ?_
    refine g_iload M_8_isEndOf d_8_isEndOf_14 (by first | rfl | assumption) ?_
    refine g_if_ge M_8_isEndOf (tgt := 21) d_8_isEndOf_16 (by decide) (fun c => absurd c0 (Int32.not_lt.mpr c)) (fun _ => ?_)
    refine g_iconst M_8_isEndOf (v := nI 0) d_8_isEndOf_19 (by decide) ?_
    exact g_iret M_8_isEndOf d_8_isEndOf_20 rfl (by decide) k
  rw [nI_sub ql]
  refine g_istore M_8_isEndOf d_8_isEndOf_12 (by decide) (by first | rfl | (simp only [gc]; simp [*])) ?_
  refine g_iload M_8_isEndOf d_8_isEndOf_14 (by first | rfl | assumption) ?_
  refine g_if_ge M_8_isEndOf (tgt := 21) d_8_isEndOf_16 (by decide) (fun _ => ?_) (fun c => absurd (Int32.not_lt.mp (nI_pos (by omega))) c)
  refine g_iconst M_8_isEndOf (v := nI 0) d_8_isEndOf_21 (by decide) ?_
  refine g_istore M_8_isEndOf d_8_isEndOf_22 (by decide) (by first | rfl | (simp only [gc]; simp [*])) ?_
  have loop : ∀ n p, p + n = (ws.getD i []).length → (∀ j, j < p → (ws.getD i []).getD j 0 = w.getD (w.length - (ws.getD i []).length + j) 0) → ∀ lv : List (Nat × Value), gl lv 0 = some (.ref a) → gl lv 1 = some (.int (nI i)) → gl lv 2 = some (.ref aw) → gl lv 3 = some (.int (nI (ws.getD i []).length)) → gl lv 4 = some (.int (nI (w.length - (ws.getD i []).length))) → gl lv 5 = some (.int (nI p)) → gG 2 100 0 0 M_8_isEndOf 24 lv [] h Q := by
    intro n
    induction n with
    | zero =>
      intro p hp hj lv H0 H1 H2 H3 H4 H5
      have et : eW (ws.getD i []) w = true := decide_eq_true ⟨ql, fun j h9 => hj j (by omega)⟩
      rw [et] at k
      refine g_iload M_8_isEndOf d_8_isEndOf_24 (by first | rfl | assumption) ?_
      refine g_iloadn M_8_isEndOf d_8_isEndOf_26 (by first | rfl | assumption) ?_
      refine g_icmp_ge M_8_isEndOf (tgt := 57) d_8_isEndOf_27 (by decide) (fun _ => ?_) (fun c => absurd (nI_le (by omega) (by omega)) c)
      refine g_iconst M_8_isEndOf (v := nI 1) d_8_isEndOf_57 (by decide) ?_
      exact g_iret M_8_isEndOf d_8_isEndOf_58 rfl (by decide) k
    | succ n ih =>
      intro p hp hj lv H0 H1 H2 H3 H4 H5
      have il : i < ws.length := row_lt (p := p) (by omega)
      refine g_iload M_8_isEndOf d_8_isEndOf_24 (by first | rfl | assumption) ?_
      refine g_iloadn M_8_isEndOf d_8_isEndOf_26 (by first | rfl | assumption) ?_
      refine g_icmp_ge M_8_isEndOf (tgt := 57) d_8_isEndOf_27 (by decide) (fun c => absurd c (nI_ge (by omega) (by omega))) (fun _ => ?_)
      refine g_aloadn M_8_isEndOf d_8_isEndOf_30 (by first | rfl | assumption) ?_
      refine g_iloadn M_8_isEndOf d_8_isEndOf_31 (by first | rfl | assumption) ?_
      refine g_iload M_8_isEndOf d_8_isEndOf_32 (by first | rfl | assumption) ?_
      refine gc_V M_8_isEndOf 0 0 [.int (nI i), .int (nI p)] [] d_8_isEndOf_34 cv_8_67 r0 (by rfl) (by rfl) (Nat.le_of_ble_eq_true (by rfl)) (Nat.le_of_ble_eq_true (by rfl)) (by decide) (by decide) (by decide) (by decide) (C_8_letterOf hr hw R il (by omega) ?_)
      show gG _ _ _ _ _ _ _ _ _ _
      refine g_aloadn M_8_isEndOf d_8_isEndOf_37 (by first | rfl | assumption) ?_
      refine g_iload M_8_isEndOf d_8_isEndOf_38 (by first | rfl | assumption) ?_
      refine g_iload M_8_isEndOf d_8_isEndOf_40 (by first | rfl | assumption) ?_
      refine g_iadd M_8_isEndOf d_8_isEndOf_42 ?_
      rw [nI_add]
      refine gc_V M_8_isEndOf 0 0 [_] [_] d_8_isEndOf_43 cv_8_49 d0 (by rfl) (by rfl) (Nat.le_of_ble_eq_true (by rfl)) (Nat.le_of_ble_eq_true (by rfl)) (by decide) (by decide) (by decide) (by decide) (C_7_letter D (by omega) ?_)
      show gG _ _ _ _ _ _ _ _ _ _
      refine g_icmp_eq M_8_isEndOf (tgt := 51) d_8_isEndOf_46 (by decide) (fun c => ?_) (fun c => ?_)
      · have ce := (nI_eq (Nat.lt_trans (bw.get p) (by decide)) (Nat.lt_trans (D.1.get _) (by decide))).mp c
        refine g_iinc M_8_isEndOf (v := nI (p + 1)) d_8_isEndOf_51 H5 (by decide) (by first | rfl | (simp only [gc]; simp [*])) (nI_add p 1) ?_
        refine g_goto M_8_isEndOf (tgt := 24) d_8_isEndOf_54 (by decide) ?_
        refine ih (p + 1) (by omega) (fun j h9 => ?_) _ H0 H1 H2 H3 H4 rfl
        rcases Nat.lt_succ_iff_lt_or_eq.mp h9 with q | q
        · exact hj j q
        · rw [q]; exact ce
      · have ef : eW (ws.getD i []) w = false := decide_eq_false (fun z => c (by rw [z.2 p (by omega)]))
        rw [ef] at k
        refine g_iconst M_8_isEndOf (v := nI 0) d_8_isEndOf_49 (by decide) ?_
        exact g_iret M_8_isEndOf d_8_isEndOf_50 rfl (by decide) k
  exact loop (ws.getD i []).length 0 (by omega) (fun j h9 => absurd h9 (Nat.not_lt_zero j)) _ rfl rfl rfl rfl rfl rfl
set_option maxHeartbeats 4000000 in
set_option maxRecDepth 100000 in
theorem C_8_isSame {a la na rows width : Nat} {ws : List (List Nat)} {i aw lw : Nat} {w : List Nat} {h : Hp_} {Q : Ot_ → Hp_ → Prop} (hr : rows ≤ 30) (hw : width ≤ 16) (R : wsR h a la na rows width ws) (hi : i < 2 ^ 31) (D : wdR h aw lw w) (k : Q (.inl (some (.int (bI (decide (ws.getD i [] = w)))))) h) : gG 3 130 0 0 M_8_isSame 0 (lv_args 0 [.ref a, .int (nI i), .ref aw]) [] h Q := by
  have r0 := R.2.2.1
  have d0 := D.2.1
  have bl := (wd_get (i := i) R.2.1).1
  have dl := D.1.1
  refine g_aloadn M_8_isSame d_8_isSame_0 (by first | rfl | assumption) ?_
  refine g_iloadn M_8_isSame d_8_isSame_1 (by first | rfl | assumption) ?_
  refine gc_V M_8_isSame 0 0 [.int (nI i)] [] d_8_isSame_2 cv_8_63 r0 (by rfl) (by rfl) (Nat.le_of_ble_eq_true (by rfl)) (Nat.le_of_ble_eq_true (by rfl)) (by decide) (by decide) (by decide) (by decide) (C_8_lengthOf hr R hi ?_)
  show gG _ _ _ _ _ _ _ _ _ _
  refine g_aloadn M_8_isSame d_8_isSame_5 (by first | rfl | assumption) ?_
  refine gc_V M_8_isSame 0 0 [] [_] d_8_isSame_6 cv_8_40 d0 (by rfl) (by rfl) (Nat.le_of_ble_eq_true (by rfl)) (Nat.le_of_ble_eq_true (by rfl)) (by decide) (by decide) (by decide) (by decide) (C_7_length d0 ?_)
  show gG _ _ _ _ _ _ _ _ _ _
  refine g_icmp_ne M_8_isSame (tgt := 25) d_8_isSame_9 (by decide) (fun c => ?_) (fun c => ?_)
  · rw [decide_eq_false (fun z => c (by rw [z]))] at k
    refine g_iconst M_8_isSame (v := nI 0) d_8_isSame_25 (by decide) ?_
    exact g_iret M_8_isSame d_8_isSame_26 rfl (by decide) k
  have cl := (nI_eq (by omega) (by omega)).mp c
  refine g_aloadn M_8_isSame d_8_isSame_12 (by first | rfl | assumption) ?_
  refine g_iloadn M_8_isSame d_8_isSame_13 (by first | rfl | assumption) ?_
  refine g_aloadn M_8_isSame d_8_isSame_14 (by first | rfl | assumption) ?_
  refine gc_V M_8_isSame 0 0 [.int (nI i), .ref aw] [] d_8_isSame_15 cv_8_75 r0 (by rfl) (by rfl) (Nat.le_of_ble_eq_true (by rfl)) (Nat.le_of_ble_eq_true (by rfl)) (by decide) (by decide) (by decide) (by decide) (C_8_isEndOf hr hw R hi D ?_)
  show gG _ _ _ _ _ _ _ _ _ _
  cases e : eW (ws.getD i []) w with
  | false =>
    have ne : ws.getD i [] ≠ w := fun z => by
      rw [z] at e
      have e9 : eW w w = true := eW_iff.mpr ⟨[], rfl⟩
      rw [e9] at e
      cases e
    rw [decide_eq_false ne] at k
    refine g_if_eq M_8_isSame (tgt := 25) d_8_isSame_18 (by decide) (fun _ => ?_) (fun c9 => absurd rfl c9)
    refine g_iconst M_8_isSame (v := nI 0) d_8_isSame_25 (by decide) ?_
    exact g_iret M_8_isSame d_8_isSame_26 rfl (by decide) k
  | true =>
    obtain ⟨v, hv⟩ := eW_iff.mp e
    have v0 : v = [] := by
      have := congrArg List.length hv
      rw [List.length_append] at this
      exact List.eq_nil_of_length_eq_zero (by omega)
    rw [v0] at hv
    rw [decide_eq_true (show ws.getD i [] = w by rw [hv]; rfl)] at k
    refine g_if_eq M_8_isSame (tgt := 25) d_8_isSame_18 (by decide) (fun c9 => absurd c9 (by decide)) (fun _ => ?_)
    refine g_iconst M_8_isSame (v := nI 1) d_8_isSame_21 (by decide) ?_
    refine g_goto M_8_isSame (tgt := 26) d_8_isSame_22 (by decide) ?_
    exact g_iret M_8_isSame d_8_isSame_26 rfl (by decide) k
set_option maxHeartbeats 4000000 in
set_option maxRecDepth 100000 in
theorem C_8_find {a la na rows width : Nat} {ws : List (List Nat)} {aw lw : Nat} {w : List Nat} {h : Hp_} {Q : Ot_ → Hp_ → Prop} (hr : rows ≤ 30) (hw : width ≤ 16) (R : wsR h a la na rows width ws) (D : wdR h aw lw w) (k : Q (.inl (some (.int (oI (fst (fun i => decide (ws.getD i [] = w)) ws.length))))) h) : gG 4 160 0 0 M_8_find 0 (lv_args 0 [.ref a, .ref aw]) [] h Q := by
  have r0 := R.2.2.1
  have rl := R.1
  refine g_iconst M_8_find (v := nI 0) d_8_find_0 (by decide) ?_
  refine g_istoren M_8_find d_8_find_1 (by decide) (by first | rfl | (simp only [gc]; simp [*])) ?_
  have loop : ∀ n p, p + n = ws.length → (∀ j, j < p → decide (ws.getD j [] = w) = false) → ∀ lv : List (Nat × Value), gl lv 0 = some (.ref a) → gl lv 1 = some (.ref aw) → gl lv 2 = some (.int (nI p)) → gG 4 160 0 0 M_8_find 2 lv [] h Q := by
    intro n
    induction n with
    | zero =>
      intro p hp hj lv H0 H1 H2
      rw [fst_none (fun j h9 => hj j (by omega))] at k
      refine g_iloadn M_8_find d_8_find_2 (by first | rfl | assumption) ?_
      refine g_aloadn M_8_find d_8_find_3 (by first | rfl | assumption) ?_
      refine g_get M_8_find d_8_find_4 fl_8_29 (by assumption) (by rfl) ?_
      refine g_icmp_ge M_8_find (tgt := 27) d_8_find_7 (by decide) (fun _ => ?_) (fun c => absurd (nI_le (by omega) (by omega)) c)
      refine g_iconst M_8_find (v := -1) d_8_find_27 (by decide) ?_
      exact g_iret M_8_find d_8_find_28 rfl rfl k
    | succ n ih =>
      intro p hp hj lv H0 H1 H2
      refine g_iloadn M_8_find d_8_find_2 (by first | rfl | assumption) ?_
      refine g_aloadn M_8_find d_8_find_3 (by first | rfl | assumption) ?_
      refine g_get M_8_find d_8_find_4 fl_8_29 (by assumption) (by rfl) ?_
      refine g_icmp_ge M_8_find (tgt := 27) d_8_find_7 (by decide) (fun c => absurd c (nI_ge (by omega) (by omega))) (fun _ => ?_)
      refine g_aloadn M_8_find d_8_find_10 (by first | rfl | assumption) ?_
      refine g_iloadn M_8_find d_8_find_11 (by first | rfl | assumption) ?_
      refine g_aloadn M_8_find d_8_find_12 (by first | rfl | assumption) ?_
      refine gc_V M_8_find 0 0 [.int (nI p), .ref aw] [] d_8_find_13 cv_8_79 r0 (by rfl) (by rfl) (Nat.le_of_ble_eq_true (by rfl)) (Nat.le_of_ble_eq_true (by rfl)) (by decide) (by decide) (by decide) (by decide) (C_8_isSame hr hw R (by omega) D ?_)
      show gG _ _ _ _ _ _ _ _ _ _
      cases e : decide (ws.getD p [] = w) with
      | false =>
        refine g_if_eq M_8_find (tgt := 21) d_8_find_16 (by decide) (fun _ => ?_) (fun c9 => absurd rfl c9)
        refine g_iinc M_8_find (v := nI (p + 1)) d_8_find_21 H2 (by decide) (by first | rfl | (simp only [gc]; simp [*])) (nI_add p 1) ?_
        refine g_goto M_8_find (tgt := 2) d_8_find_24 (by decide) ?_
        refine ih (p + 1) (by omega) (fun j h9 => ?_) _ H0 H1 rfl
        rcases Nat.lt_succ_iff_lt_or_eq.mp h9 with q | q
        · exact hj j q
        · rw [q]; exact e
      | true =>
        rw [fst_some (i := p) (by omega) e hj] at k
        refine g_if_eq M_8_find (tgt := 21) d_8_find_16 (by decide) (fun c9 => absurd c9 (by decide)) (fun _ => ?_)
        refine g_iloadn M_8_find d_8_find_19 (by first | rfl | assumption) ?_
        exact g_iret M_8_find d_8_find_20 rfl rfl k
  exact loop ws.length 0 (by omega) (fun j h9 => absurd h9 (Nat.not_lt_zero j)) _ rfl rfl rfl
set_option maxHeartbeats 4000000 in
set_option maxRecDepth 100000 in
theorem C_8_countOf {a la na rows width : Nat} {ws : List (List Nat)} {aw lw : Nat} {w : List Nat} {h : Hp_} {Q : Ot_ → Hp_ → Prop} (hr : rows ≤ 30) (hw : width ≤ 16) (R : wsR h a la na rows width ws) (D : wdR h aw lw w) (k : Q (.inl (some (.int (nI (ws.countP (fun x => decide (x = w))))))) h) : gG 4 160 0 0 M_8_countOf 0 (lv_args 0 [.ref a, .ref aw]) [] h Q := by
  have r0 := R.2.2.1
  have rl := R.1
  refine g_iconst M_8_countOf (v := nI 0) d_8_countOf_0 (by decide) ?_
  refine g_istoren M_8_countOf d_8_countOf_1 (by decide) (by first | rfl | (simp only [gc]; simp [*])) ?_
  refine g_iconst M_8_countOf (v := nI 0) d_8_countOf_2 (by decide) ?_
  refine g_istoren M_8_countOf d_8_countOf_3 (by decide) (by first | rfl | (simp only [gc]; simp [*])) ?_
  have loop : ∀ n p, p + n = ws.length → ∀ lv : List (Nat × Value), gl lv 0 = some (.ref a) → gl lv 1 = some (.ref aw) → gl lv 2 = some (.int (nI ((ws.take p).countP (fun x => decide (x = w))))) → gl lv 3 = some (.int (nI p)) → gG 4 160 0 0 M_8_countOf 4 lv [] h Q := by
    intro n
    induction n with
    | zero =>
      intro p hp lv H0 H1 H2 H3
      rw [List.take_of_length_le (by omega)] at H2
      refine g_iloadn M_8_countOf d_8_countOf_4 (by first | rfl | assumption) ?_
      refine g_aloadn M_8_countOf d_8_countOf_5 (by first | rfl | assumption) ?_
      refine g_get M_8_countOf d_8_countOf_6 fl_8_29 (by assumption) (by rfl) ?_
      refine g_icmp_ge M_8_countOf (tgt := 30) d_8_countOf_9 (by decide) (fun _ => ?_) (fun c => absurd (nI_le (by omega) (by omega)) c)
      refine g_iloadn M_8_countOf d_8_countOf_30 (by first | rfl | assumption) ?_
      exact g_iret M_8_countOf d_8_countOf_31 rfl rfl k
    | succ n ih =>
      intro p hp lv H0 H1 H2 H3
      have et : (ws.take (p + 1)).countP (fun x => decide (x = w)) = (ws.take p).countP (fun x => decide (x = w)) + if decide (ws.getD p [] = w) = true then 1 else 0 := by
        rw [List.take_succ, List.countP_append, List.getD_eq_getElem?_getD, List.getElem?_eq_getElem (show p < ws.length by omega)]
        simp [List.countP_cons]
      refine g_iloadn M_8_countOf d_8_countOf_4 (by first | rfl | assumption) ?_
      refine g_aloadn M_8_countOf d_8_countOf_5 (by first | rfl | assumption) ?_
      refine g_get M_8_countOf d_8_countOf_6 fl_8_29 (by assumption) (by rfl) ?_
      refine g_icmp_ge M_8_countOf (tgt := 30) d_8_countOf_9 (by decide) (fun c => absurd c (nI_ge (by omega) (by omega))) (fun _ => ?_)
      refine g_aloadn M_8_countOf d_8_countOf_12 (by first | rfl | assumption) ?_
      refine g_iloadn M_8_countOf d_8_countOf_13 (by first | rfl | assumption) ?_
      refine g_aloadn M_8_countOf d_8_countOf_14 (by first | rfl | assumption) ?_
      refine gc_V M_8_countOf 0 0 [.int (nI p), .ref aw] [] d_8_countOf_15 cv_8_79 r0 (by rfl) (by rfl) (Nat.le_of_ble_eq_true (by rfl)) (Nat.le_of_ble_eq_true (by rfl)) (by decide) (by decide) (by decide) (by decide) (C_8_isSame hr hw R (by omega) D ?_)
      show gG _ _ _ _ _ _ _ _ _ _
      cases e : decide (ws.getD p [] = w) with
      | false =>
        rw [e, if_neg (by decide)] at et
        refine g_if_eq M_8_countOf (tgt := 24) d_8_countOf_18 (by decide) (fun _ => ?_) (fun c9 => absurd rfl c9)
        refine g_iinc M_8_countOf (v := nI (p + 1)) d_8_countOf_24 H3 (by decide) (by first | rfl | (simp only [gc]; simp [*])) (nI_add p 1) ?_
        refine g_goto M_8_countOf (tgt := 4) d_8_countOf_27 (by decide) ?_
        exact ih (p + 1) (by omega) _ H0 H1 (by rw [et]; exact H2) rfl
      | true =>
        rw [e, if_pos rfl] at et
        refine g_if_eq M_8_countOf (tgt := 24) d_8_countOf_18 (by decide) (fun c9 => absurd c9 (by decide)) (fun _ => ?_)
        refine g_iinc M_8_countOf (v := nI ((ws.take p).countP (fun x => decide (x = w)) + 1)) d_8_countOf_21 H2 (by decide) (by first | rfl | (simp only [gc]; simp [*])) (nI_add _ 1) ?_
        refine g_iinc M_8_countOf (v := nI (p + 1)) d_8_countOf_24 H3 (by decide) (by first | rfl | (simp only [gc]; simp [*])) (nI_add p 1) ?_
        refine g_goto M_8_countOf (tgt := 4) d_8_countOf_27 (by decide) ?_
        exact ih (p + 1) (by omega) _ H0 H1 (by rw [et]; rfl) rfl
  exact loop ws.length 0 (by omega) _ rfl rfl rfl rfl
