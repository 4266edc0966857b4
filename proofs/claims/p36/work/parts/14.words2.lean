theorem nI_mulbd {i rows width : Nat} (h : i < rows) : i * width + width ≤ rows * width := by
  have := Nat.mul_le_mul_right width (show i + 1 ≤ rows from h)
  rw [Nat.succ_mul] at this
  exact this
set_option maxHeartbeats 4000000 in
set_option maxRecDepth 100000 in
theorem C_8_put {a la na rows width c i aw lw : Nat} {f g : Nat → Int32} {w : List Nat} {h : Hp_} {Q : Ot_ → Hp_ → Prop} (hr : rows ≤ 30) (hw : width ≤ 16) (v : h a = some (.inr (8, [.int (nI width), .ref la, .ref na, .int (nI c)]))) (hf : h la = some (.inl (false, .char, (rows * width, .inl f)))) (hg : h na = some (.inl (false, .int, (rows, .inl g)))) (hch : ∀ j, j < rows * width → gCh (f j)) (hi : i < c) (hc : c ≤ rows) (R : wdR h aw lw w) (hlw : w.length ≤ width) (n1 : a ≠ la) (n2 : a ≠ na) (n3 : la ≠ na) (n4 : aw ≠ la ∧ aw ≠ na) (n5 : lw ≠ la ∧ lw ≠ na)
    (k : ∀ h' f' g', gExt h h' [la, na] [] → h' la = some (.inl (false, .char, (rows * width, .inl f'))) → h' na = some (.inl (false, .int, (rows, .inl g'))) → (∀ j, j < rows * width → gCh (f' j)) → g' i = nI w.length → (∀ q, q ≠ i → g' q = g q) → (∀ j, j < width → f' (i * width + j) = nI (w.getD j 0)) → (∀ q, q < i * width ∨ i * width + width ≤ q → f' q = f q) → Q (.inl none) h') : gG 2 100 0 0 M_8_put 0 (lv_args 0 [.ref a, .int (nI i), .ref aw]) [] h Q := by
  have b1 : rows * width ≤ 480 := Nat.le_trans (Nat.mul_le_mul hr hw) (by decide)
  have b2 : i * width + width ≤ rows * width := nI_mulbd (by omega)
  refine g_iloadn M_8_put d_8_put_0 (by first | rfl | assumption) ?_
  refine g_if_lt M_8_put (tgt := 21) d_8_put_1 (by decide) (fun c9 => absurd c9 (nI_pos (by omega))) (fun _ => ?_)
  refine g_iloadn M_8_put d_8_put_4 (by first | rfl | assumption) ?_
  refine g_aloadn M_8_put d_8_put_5 (by first | rfl | assumption) ?_
  refine g_get M_8_put d_8_put_6 fl_8_29 (by assumption) (by rfl) ?_
  refine g_icmp_ge M_8_put (tgt := 21) d_8_put_9 (by decide) (fun c9 => absurd c9 (nI_ge hi (by omega))) (fun _ => ?_)
  refine g_iloadn M_8_put d_8_put_12 (by first | rfl | assumption) ?_
  refine g_aloadn M_8_put d_8_put_13 (by first | rfl | assumption) ?_
  refine g_get M_8_put d_8_put_14 fl_8_25 (by assumption) (by rfl) ?_
  refine g_alen M_8_put d_8_put_17 (by assumption) ?_
  refine g_icmp_lt M_8_put (tgt := 22) d_8_put_18 (by decide) (fun _ => ?_) (fun c9 => absurd (nI_lt (by omega) (by omega)) c9)
  refine g_aloadn M_8_put d_8_put_22 (by first | rfl | assumption) ?_
  refine g_get M_8_put d_8_put_23 fl_8_25 (by assumption) (by rfl) ?_
  refine g_iloadn M_8_put d_8_put_26 (by first | rfl | assumption) ?_
  refine g_aloadn M_8_put d_8_put_27 (by first | rfl | assumption) ?_
  refine gc_V M_8_put 0 0 [] [.int (nI i), .ref na] d_8_put_28 cv_8_40 R.2.1 (by rfl) (by rfl) (Nat.le_of_ble_eq_true (by rfl)) (Nat.le_of_ble_eq_true (by rfl)) (by decide) (by decide) (by decide) (by decide) (C_7_length R.2.1 ?_)
  show gG _ _ _ _ _ _ _ _ _ _
  refine g_aloadn M_8_put d_8_put_31 (by first | rfl | assumption) ?_
  refine g_get M_8_put d_8_put_32 fl_8_15 (by assumption) (by rfl) ?_
  refine g_min M_8_put d_8_put_35 mm_8_46 mm_min_s mm_i mm_min_c (Nat.le_of_ble_eq_true (by rfl)) (Nat.le_of_ble_eq_true (by rfl)) ?_
  rw [if_neg (nI_nlt hlw (by omega))]
  refine e_ias M_8_put d_8_put_38 hg (vp_in_nI (by omega) (by omega)) (fun h1 g1 e1 => ?_)
  have v1 := e1.keep v (by simpa using n2)
  have f1 := e1.keep hf (by simpa using n3)
  have R1 := R.keep e1 (by simpa using n4.2) (by simpa using n5.2)
  rw [nI_cl (by omega)] at g1
  refine g_iconst M_8_put (v := nI 0) d_8_put_39 (by decide) ?_
  refine g_istoren M_8_put d_8_put_40 (by decide) (by first | rfl | (simp only [gc]; simp [*])) ?_
  have loop : ∀ n p, p + n = width → ∀ (h2 : Hp_) (f2 : Nat → Int32) (lv : List (Nat × Value)), gExt h1 h2 [la] [] → h2 la = some (.inl (false, .char, (rows * width, .inl f2))) → (∀ j, j < rows * width → gCh (f2 j)) → (∀ j, j < p → f2 (i * width + j) = nI (w.getD j 0)) → (∀ q, q < i * width ∨ i * width + width ≤ q → f2 q = f q) → gl lv 0 = some (.ref a) → gl lv 1 = some (.int (nI i)) → gl lv 2 = some (.ref aw) → gl lv 3 = some (.int (nI p)) → gG 2 100 0 0 M_8_put 41 lv [] h2 Q := by
    intro n
    induction n with
    | zero =>
      intro p hp h2 f2 lv e2 l2 c2 d2 o2 H0 H1 H2 H3
      have v2 := e2.keep v1 (by simpa using n1)
      have g2 := e2.keep g1 (by simpa using n3.symm)
      refine g_iloadn M_8_put d_8_put_41 (by first | rfl | assumption) ?_
      refine g_aloadn M_8_put d_8_put_42 (by first | rfl | assumption) ?_
      refine g_get M_8_put d_8_put_43 fl_8_15 (by assumption) (by rfl) ?_
      refine g_icmp_ge M_8_put (tgt := 92) d_8_put_46 (by decide) (fun _ => ?_) (fun c9 => absurd (nI_le (by omega) (by omega)) c9)
      refine g_vret M_8_put d_8_put_92 rfl (k h2 f2 _ ((e1.weak (S' := [la, na]) (by simp)).trans e2 (by simp)) l2 g2 c2 ?_ (fun q hq => ?_) (fun j hj => d2 j (by omega)) o2)
      · unfold upd; rw [if_pos rfl]
      · unfold upd; rw [if_neg hq]
    | succ n ih =>
      intro p hp h2 f2 lv e2 l2 c2 d2 o2 H0 H1 H2 H3
      have v2 := e2.keep v1 (by simpa using n1)
      have g2 := e2.keep g1 (by simpa using n3.symm)
      have R2 := R1.keep e2 (by simpa using n4.1) (by simpa using n5.1)
      refine g_iloadn M_8_put d_8_put_41 (by first | rfl | assumption) ?_
      refine g_aloadn M_8_put d_8_put_42 (by first | rfl | assumption) ?_
      refine g_get M_8_put d_8_put_43 fl_8_15 (by assumption) (by rfl) ?_
      refine g_icmp_ge M_8_put (tgt := 92) d_8_put_46 (by decide) (fun c9 => absurd c9 (nI_ge (by omega) (by omega))) (fun _ => ?_)
      refine g_iloadn M_8_put d_8_put_49 (by first | rfl | assumption) ?_
      refine g_aloadn M_8_put d_8_put_50 (by first | rfl | assumption) ?_
      refine g_get M_8_put d_8_put_51 fl_8_15 (by assumption) (by rfl) ?_
      refine g_imul M_8_put d_8_put_54 ?_
      rw [pk_mul]
      refine g_iloadn M_8_put d_8_put_55 (by first | rfl | assumption) ?_
      refine g_iadd M_8_put d_8_put_56 ?_
      rw [nI_add]
      refine g_istore M_8_put d_8_put_57 (by decide) (by first | rfl | (simp only [gc]; simp [*])) ?_
      refine g_iload M_8_put d_8_put_59 (by first | rfl | assumption) ?_
      refine g_if_lt M_8_put (tgt := 86) d_8_put_61 (by decide) (fun c9 => absurd c9 (nI_pos (by omega))) (fun _ => ?_)
      refine g_iload M_8_put d_8_put_64 (by first | rfl | assumption) ?_
      refine g_aloadn M_8_put d_8_put_66 (by first | rfl | assumption) ?_
      refine g_get M_8_put d_8_put_67 fl_8_21 (by assumption) (by rfl) ?_
      refine g_alen M_8_put d_8_put_70 (by assumption) ?_
      refine g_icmp_ge M_8_put (tgt := 86) d_8_put_71 (by decide) (fun c9 => absurd c9 (nI_ge (by omega) (by omega))) (fun _ => ?_)
      refine g_aloadn M_8_put d_8_put_74 (by first | rfl | assumption) ?_
      refine g_get M_8_put d_8_put_75 fl_8_21 (by assumption) (by rfl) ?_
      refine g_iload M_8_put d_8_put_78 (by first | rfl | assumption) ?_
      refine g_aloadn M_8_put d_8_put_80 (by first | rfl | assumption) ?_
      refine g_iloadn M_8_put d_8_put_81 (by first | rfl | assumption) ?_
      refine gc_V M_8_put 0 0 [.int (nI p)] [.int (nI (i * width + p)), .ref la] d_8_put_82 cv_8_49 R2.2.1 (by rfl) (by rfl) (Nat.le_of_ble_eq_true (by rfl)) (Nat.le_of_ble_eq_true (by rfl)) (by decide) (by decide) (by decide) (by decide) (C_7_letter R2 (by omega) ?_)
      refine e_cas M_8_put d_8_put_85 l2 (vp_in_nI (by omega) (by omega)) (gCh_n (gCh_of (R.1.get p))) (fun h3 l3 e3 => ?_)
      rw [nI_cl (by omega)] at l3
      refine g_iinc M_8_put d_8_put_86 (by first | rfl | assumption) (by decide) (by simp only [gc]; simp [gl, *]) (nI_1 p) ?_
      refine g_goto M_8_put (tgt := 41) d_8_put_89 (by decide) ?_
      refine ih (p + 1) (by omega) h3 _ _ (e2.trans e3 (by simp)) l3 (fun j hj => ?_) (fun j hj => ?_) (fun q hq => ?_) H0 H1 H2 rfl
      · unfold upd
        split
        · exact gCh_of (R.1.get p)
        · exact c2 j hj
      · unfold upd
        by_cases q : j = p
        · rw [q, if_pos rfl]
        · rw [if_neg (by omega)]; exact d2 j (by omega)
      · unfold upd
        rw [if_neg (by omega)]; exact o2 q hq
  refine loop width 0 (by omega) h1 f _ (gExt.refl.weak (by simp)) f1 hch (fun j hj => absurd hj (Nat.not_lt_zero j)) (fun _ _ => rfl) rfl rfl rfl rfl
theorem getD_appL {ws : List (List Nat)} {w : List Nat} {j : Nat} : (ws ++ [w]).getD j [] = if j = ws.length then w else ws.getD j [] := by
  simp only [List.getD_eq_getElem?_getD, List.getElem?_append]
  by_cases h1 : j < ws.length
  · rw [if_pos h1, if_neg (by omega)]
  · rw [if_neg h1]
    by_cases h2 : j = ws.length
    · rw [if_pos h2, h2]; simp
    · rw [if_neg h2, List.getElem?_eq_none (by simp; omega), List.getElem?_eq_none (by omega)]
set_option maxHeartbeats 4000000 in
set_option maxRecDepth 100000 in
theorem C_8_add {a la na rows width aw lw : Nat} {ws : List (List Nat)} {w : List Nat} {h : Hp_} {Q : Ot_ → Hp_ → Prop} (hr : rows ≤ 30) (hw : width ≤ 16) (RS : wsR h a la na rows width ws) (R : wdR h aw lw w) (hlw : w.length ≤ width) (n1 : a ≠ la) (n2 : a ≠ na) (n3 : la ≠ na) (n4 : aw ≠ a ∧ aw ≠ la ∧ aw ≠ na) (n5 : lw ≠ a ∧ lw ≠ la ∧ lw ≠ na)
    (kf : rows ≤ ws.length → Q (.inl (some (.int 0))) h) (kt : ws.length < rows → ∀ h', gExt h h' [a, la, na] [] → wsR h' a la na rows width (ws ++ [w]) → Q (.inl (some (.int 1))) h') : gG 3 130 0 0 M_8_add 0 (lv_args 0 [.ref a, .ref aw]) [] h Q := by
  obtain ⟨hlen, hok, v, f, g, hf, hg, hch, hall⟩ := id RS
  refine g_aloadn M_8_add d_8_add_0 (by first | rfl | assumption) ?_
  refine gc_V M_8_add 0 0 [] [] d_8_add_1 cv_8_32 v (by rfl) (by rfl) (Nat.le_of_ble_eq_true (by rfl)) (Nat.le_of_ble_eq_true (by rfl)) (by decide) (by decide) (by decide) (by decide) (C_8_isFull RS hr ?_)
  refine g_if_eq M_8_add (tgt := 9) d_8_add_4 (by decide) (fun c9 => ?_) (fun c9 => ?_)
  · have hlt : ws.length < rows := by
      rcases Nat.lt_or_ge ws.length rows with q | q
      · exact q
      · rw [decide_eq_true q] at c9; exact absurd c9 (by decide)
    refine g_aloadn M_8_add d_8_add_9 (by first | rfl | assumption) ?_
    refine g_dup M_8_add d_8_add_10 (by rfl) ?_
    refine g_get M_8_add d_8_add_11 fl_8_29 (by assumption) (by rfl) ?_
    refine g_iconst M_8_add (v := nI 1) d_8_add_14 (by decide) ?_
    refine g_iadd M_8_add d_8_add_15 ?_
    rw [nI_add]
    refine e_put M_8_add d_8_add_16 pt_8_29 v (by rfl) (by rfl) (fun h1 v1 e1 => ?_)
    have f1 := e1.keep hf (by simpa using n1.symm)
    have g1 := e1.keep hg (by simpa using n2.symm)
    have R1 := R.keep e1 (by simpa using n4.1) (by simpa using n5.1)
    have v1' : h1 a = some (.inr (8, [.int (nI width), .ref la, .ref na, .int (nI (ws.length + 1))])) := v1
    refine g_aloadn M_8_add d_8_add_19 (by first | rfl | assumption) ?_
    refine g_aloadn M_8_add d_8_add_20 (by first | rfl | assumption) ?_
    refine g_get M_8_add d_8_add_21 fl_8_29 v1' (by rfl) ?_
    refine g_iconst M_8_add (v := nI 1) d_8_add_24 (by decide) ?_
    refine g_isub M_8_add d_8_add_25 ?_
    rw [pk_sub (show 1 ≤ ws.length + 1 by omega)]
    refine g_aloadn M_8_add d_8_add_26 (by first | rfl | assumption) ?_
    refine gc_V M_8_add 0 0 [.int (nI (ws.length + 1 - 1)), .ref aw] [] d_8_add_27 cv_8_36 v1' (by rfl) (by rfl) (Nat.le_of_ble_eq_true (by rfl)) (Nat.le_of_ble_eq_true (by rfl)) (by decide) (by decide) (by decide) (by decide) (C_8_put hr hw v1' f1 g1 hch (by omega) (by omega) R1 hlw n1 n2 n3 n4.2 n5.2 (fun h2 f2 g2 e2 l2 m2 c2 x1 x2 x3 x4 => ?_))
    show gG _ _ _ _ _ _ _ _ _ _
    refine g_iconst M_8_add (v := 1) d_8_add_30 (by decide) ?_
    refine g_iret M_8_add d_8_add_31 rfl (by decide) (kt hlt h2 ((e1.weak (S' := [a, la, na]) (by simp)).trans e2 (by simp)) ?_)
    rw [show ws.length + 1 - 1 = ws.length by omega] at x1 x2 x3 x4
    refine ⟨by simp; omega, fun x hx => ?_, by simpa using e2.keep v1' (by simpa using ⟨n1, n2⟩), f2, g2, l2, m2, c2, fun i hi => ?_⟩
    · rcases List.mem_append.mp hx with q | q
      · exact hok x q
      · rw [List.mem_singleton.mp q]; exact ⟨hlw, R.1.2⟩
    · rw [getD_appL]
      simp only [List.length_append, List.length_cons, List.length_nil] at hi
      by_cases q : i = ws.length
      · rw [if_pos q, q]
        exact ⟨x1, fun j hj => x3 j (by omega)⟩
      · rw [if_neg q]
        have hi2 : i < ws.length := by omega
        refine ⟨(x2 i q).trans (hall i hi2).1, fun j hj => ?_⟩
        have hwi : (ws.getD i []).length ≤ width := by
          have hm : ws.getD i [] ∈ ws := by rw [List.getD_eq_getElem?_getD, List.getElem?_eq_getElem hi2]; exact List.getElem_mem hi2
          exact (hok _ hm).1
        have := nI_mulbd (width := width) hi2
        rw [x4 (i * width + j) (Or.inl (by omega))]
        exact (hall i hi2).2 j hj
  · have hge : rows ≤ ws.length := by
      rcases Nat.lt_or_ge ws.length rows with q | q
      · rw [decide_eq_false (by omega)] at c9; exact absurd rfl c9
      · exact q
    refine g_iconst M_8_add (v := 0) d_8_add_7 (by decide) ?_
    exact g_iret M_8_add d_8_add_8 rfl (by decide) (kf hge)
