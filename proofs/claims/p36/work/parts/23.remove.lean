/-! ===== closing gaps; Words.remove ===== -/
theorem nm_erase {h' : Hp_} {a n i : Nat} {xs : List Int32} {g g' : Nat → Int32} (hl : xs.length ≤ n) (hi : i < xs.length) (hg : ∀ j, j < xs.length → g j = xs.getD j 0) (hg' : ∀ j, g' j = if i ≤ j ∧ j < n - 1 then g (j + 1) else g j) (v : h' a = some (.inl (false, .int, (n, .inl g')))) : nmR h' a n (xs.eraseIdx i) := by
  have hll : (xs.eraseIdx i).length = xs.length - 1 := by rw [List.length_eraseIdx, if_pos hi]
  refine ⟨by omega, g', v, fun j hj => ?_⟩
  rw [hll] at hj
  rw [hg' j, List.getD_eq_getElem?_getD, List.getElem?_eraseIdx]
  by_cases q : j < i
  · rw [if_neg (by omega), if_pos q, hg j (by omega), List.getD_eq_getElem?_getD]
  · rw [if_pos (by omega), if_neg q, hg (j + 1) (by omega), List.getD_eq_getElem?_getD]
theorem er_get {ws : List (List Nat)} {i j : Nat} : (ws.eraseIdx i).getD j [] = if j < i then ws.getD j [] else ws.getD (j + 1) [] := by
  rw [List.getD_eq_getElem?_getD, List.getElem?_eraseIdx]
  split <;> rw [List.getD_eq_getElem?_getD]

set_option maxHeartbeats 4000000 in
set_option maxRecDepth 100000 in
theorem C_9_closeGap {a n i : Nat} {f : Nat → Int32} {h : Hp_} {Q : Ot_ → Hp_ → Prop} (hn : n < 2 ^ 31) (hi : i < n) (h1 : h a = some (.inl (false, .int, (n, .inl f)))) (k : ∀ h' f', gExt h h' [a] [] → h' a = some (.inl (false, .int, (n, .inl f'))) → (∀ j, f' j = if i ≤ j ∧ j < n - 1 then f (j + 1) else f j) → Q (.inl none) h') : gG 1 60 0 0 M_9_closeGap 0 (lv_args 0 [.ref a, .int (nI i)]) [] h Q := by
  refine g_iconst M_9_closeGap (v := nI 0) d_9_closeGap_0 (by decide) ?_
  refine g_iloadn M_9_closeGap d_9_closeGap_1 (by first | rfl | assumption) ?_
  refine g_max M_9_closeGap d_9_closeGap_2 mm_9_304 mm_max_s mm_i mm_max_c (Nat.le_of_ble_eq_true (by rfl)) (Nat.le_of_ble_eq_true (by rfl)) ?_
  have em : (if nI 0 < nI i then nI i else nI 0) = nI i := by
    by_cases q : 0 < i
    · rw [if_pos (nI_lt q (by omega))]
    · have : i = 0 := by omega
      subst this
      rfl
  rw [em]
  refine g_istoren M_9_closeGap d_9_closeGap_5 (by decide) (by first | rfl | (simp only [gc]; simp [*])) ?_
  have loop : ∀ t p, p + t = n - 1 → i ≤ p → ∀ (h2 : Hp_) (f2 : Nat → Int32) (lv : List (Nat × Value)), gExt h h2 [a] [] → h2 a = some (.inl (false, .int, (n, .inl f2))) → (∀ j, f2 j = if i ≤ j ∧ j < p then f (j + 1) else f j) → gl lv 0 = some (.ref a) → gl lv 1 = some (.int (nI i)) → gl lv 2 = some (.int (nI p)) → gG 1 60 0 0 M_9_closeGap 6 lv [] h2 Q := by
    intro t
    induction t with
    | zero =>
      intro p hp hip h2 f2 lv e2 w2 F H0 H1 H2
      refine g_iloadn M_9_closeGap d_9_closeGap_6 (by first | rfl | assumption) ?_
      refine g_aloadn M_9_closeGap d_9_closeGap_7 (by first | rfl | assumption) ?_
      refine g_alen M_9_closeGap d_9_closeGap_8 (by assumption) ?_
      refine g_iconst M_9_closeGap (v := nI 1) d_9_closeGap_9 (by decide) ?_
      refine g_isub M_9_closeGap d_9_closeGap_10 ?_
      rw [nI_sub (by omega)]
      refine g_icmp_ge M_9_closeGap (tgt := 28) d_9_closeGap_11 (by decide) (fun _ => ?_) (fun c => absurd (nI_le (by omega) (by omega)) c)
      exact g_vret M_9_closeGap d_9_closeGap_28 rfl (k h2 f2 e2 w2 (fun j => by rw [F j, show p = n - 1 by omega]))
    | succ t ih =>
      intro p hp hip h2 f2 lv e2 w2 F H0 H1 H2
      refine g_iloadn M_9_closeGap d_9_closeGap_6 (by first | rfl | assumption) ?_
      refine g_aloadn M_9_closeGap d_9_closeGap_7 (by first | rfl | assumption) ?_
      refine g_alen M_9_closeGap d_9_closeGap_8 (by assumption) ?_
      refine g_iconst M_9_closeGap (v := nI 1) d_9_closeGap_9 (by decide) ?_
      refine g_isub M_9_closeGap d_9_closeGap_10 ?_
      rw [nI_sub (by omega)]
      refine g_icmp_ge M_9_closeGap (tgt := 28) d_9_closeGap_11 (by decide) (fun c => absurd c (nI_ge (by omega) (by omega))) (fun _ => ?_)
      refine g_aloadn M_9_closeGap d_9_closeGap_14 (by first | rfl | assumption) ?_
      refine g_iloadn M_9_closeGap d_9_closeGap_15 (by first | rfl | assumption) ?_
      refine g_aloadn M_9_closeGap d_9_closeGap_16 (by first | rfl | assumption) ?_
      refine g_iloadn M_9_closeGap d_9_closeGap_17 (by first | rfl | assumption) ?_
      refine g_iconst M_9_closeGap (v := nI 1) d_9_closeGap_18 (by decide) ?_
      refine g_iadd M_9_closeGap d_9_closeGap_19 ?_
      rw [nI_add]
      refine g_iaload M_9_closeGap d_9_closeGap_20 w2 (vp_in_nI (by omega) (by omega)) ?_
      refine e_ias M_9_closeGap d_9_closeGap_21 w2 (vp_in_nI (by omega) (by omega)) (fun h3 w3 e3 => ?_)
      rw [nI_cl (by omega), nI_cl (by omega)] at w3
      refine g_iinc M_9_closeGap (v := nI (p + 1)) d_9_closeGap_22 H2 (by decide) (by first | rfl | (simp only [gc]; simp [*])) (nI_add p 1) ?_
      refine g_goto M_9_closeGap (tgt := 6) d_9_closeGap_25 (by decide) ?_
      refine ih (p + 1) (by omega) (by omega) h3 _ _ (by simpa using e2.trans e3 (by simp)) w3 (fun j => ?_) H0 H1 rfl
      unfold upd
      split
      · rename_i q
        subst q
        rw [if_pos ⟨hip, by omega⟩, F (j + 1), if_neg (by omega)]
      · rw [F j]
        by_cases z : i ≤ j ∧ j < p
        · rw [if_pos z, if_pos ⟨z.1, by omega⟩]
        · rw [if_neg z, if_neg (by omega)]
  exact loop (n - 1 - i) i (by omega) (Nat.le_refl _) h f _ (gExt.refl.weak (by simp)) h1 (fun j => by rw [if_neg (by omega)]) rfl rfl rfl
set_option maxHeartbeats 4000000 in
set_option maxRecDepth 100000 in
theorem C_8_remove {a la na rows width : Nat} {ws : List (List Nat)} {i : Nat} {h : Hp_} {Q : Ot_ → Hp_ → Prop} (hr : rows ≤ 30) (hw : width ≤ 16) (hi : i < ws.length) (n1 : a ≠ la) (n2 : a ≠ na) (n3 : la ≠ na) (R : wsR h a la na rows width ws) (k : ∀ h', gExt h h' [a, la, na] [] → wsR h' a la na rows width (ws.eraseIdx i) → Q (.inl none) h') : gG 2 100 0 0 M_8_remove 0 (lv_args 0 [.ref a, .int (nI i)]) [] h Q := by
  obtain ⟨p1, p2, p3, f, g, p4, p5, p6, p7⟩ := id R
  have b1 : rows * width ≤ 480 := Nat.le_trans (Nat.mul_le_mul hr hw) (by decide)
  have b2 : i * width + width ≤ rows * width := nI_mulbd (by omega)
  have ix : nI i * nI width = nI (i * width) := (Int32.ofNat_mul i width).symm
  refine g_iloadn M_8_remove d_8_remove_0 (by first | rfl | assumption) ?_
  refine g_if_lt M_8_remove (tgt := 12) d_8_remove_1 (by decide) (fun c => absurd c (nI_pos (by omega))) (fun _ => ?_)
  refine g_iloadn M_8_remove d_8_remove_4 (by first | rfl | assumption) ?_
  refine g_aloadn M_8_remove d_8_remove_5 (by first | rfl | assumption) ?_
  refine g_get M_8_remove d_8_remove_6 fl_8_29 (by assumption) (by rfl) ?_
  refine g_icmp_lt M_8_remove (tgt := 13) d_8_remove_9 (by decide) (fun _ => ?_) (fun c => absurd (nI_lt hi (by omega)) c)
  refine g_iloadn M_8_remove d_8_remove_13 (by first | rfl | assumption) ?_
  refine g_aloadn M_8_remove d_8_remove_14 (by first | rfl | assumption) ?_
  refine g_get M_8_remove d_8_remove_15 fl_8_15 (by assumption) (by rfl) ?_
  refine g_imul M_8_remove d_8_remove_18 ?_
  rw [ix]
  refine g_istoren M_8_remove d_8_remove_19 (by decide) (by first | rfl | (simp only [gc]; simp [*])) ?_
  have fin : ∀ (h2 : Hp_) (f2 : Nat → Int32) (lv : List (Nat × Value)), gExt h h2 [la] [] → h2 la = some (.inl (false, .char, (rows * width, .inl f2))) → (∀ q, f2 q = if i * width ≤ q ∧ q < rows * width - width then f (q + width) else f q) → gl lv 0 = some (.ref a) → gl lv 1 = some (.int (nI i)) → gG 2 100 0 0 M_8_remove 61 lv [] h2 Q := by
    intro h2 f2 lv e2 w2 F H0 H1
    have u2 := e2.keep p3 (by simpa using n1)
    have g2 := e2.keep p5 (by simpa using n3.symm)
    refine g_aloadn M_8_remove d_8_remove_61 (by first | rfl | assumption) ?_
    refine g_get M_8_remove d_8_remove_62 fl_8_25 (by assumption) (by rfl) ?_
    refine g_iloadn M_8_remove d_8_remove_65 (by first | rfl | assumption) ?_
    refine gc_N M_8_remove 0 0 [.ref na, .int (nI i)] [] d_8_remove_66 cn_8_53 (by rfl) (by rfl) (Nat.le_of_ble_eq_true (by rfl)) (Nat.le_of_ble_eq_true (by rfl)) (by decide) (by decide) (by decide) (by decide) (C_9_closeGap (by omega) (by omega) g2 (fun h3 g' e3 v3 G => ?_))
    have u3 := e3.keep u2 (by simpa using n2)
    have w3 := e3.keep w2 (by simpa using n3)
    show gG _ _ _ _ _ _ _ _ _ _
    refine g_aloadn M_8_remove d_8_remove_69 (by first | rfl | assumption) ?_
    refine g_dup M_8_remove d_8_remove_70 (by rfl) ?_
    refine g_get M_8_remove d_8_remove_71 fl_8_29 (by assumption) (by rfl) ?_
    refine g_iconst M_8_remove (v := nI 1) d_8_remove_74 (by decide) ?_
    refine g_isub M_8_remove d_8_remove_75 ?_
    rw [nI_sub (by omega)]
    refine e_put M_8_remove d_8_remove_76 pt_8_29 u3 (by rfl) (by rfl) (fun h4 v4 e4 => ?_)
    have hll : (ws.eraseIdx i).length = ws.length - 1 := by rw [List.length_eraseIdx, if_pos hi]
    have t := ((e2.weak (S' := [a, la, na]) (by simp)).trans e3 (by simp)).trans e4 (by simp)
    refine g_vret M_8_remove d_8_remove_79 rfl (k h4 (by simpa using t) ⟨by omega, fun w hw9 => p2 w (List.mem_of_mem_eraseIdx hw9), by rw [hll]; exact v4, f2, g', e4.keep w3 (by simpa using n1.symm), e4.keep v3 (by simpa using n2.symm), fun j hj => ?_, fun r hr9 => ?_⟩)
    · rw [F j]
      split
      · exact p6 _ (by omega)
      · exact p6 _ hj
    · rw [hll] at hr9
      rw [er_get]
      have b9 : r * width + width ≤ rows * width := nI_mulbd (by omega)
      by_cases q : r < i
      · rw [if_pos q]
        have b8 : r * width + width ≤ i * width := by
          have := Nat.mul_le_mul_right width (show r + 1 ≤ i by omega)
          rw [Nat.add_mul, Nat.one_mul] at this
          exact this
        refine ⟨by rw [G r, if_neg (by omega)]; exact (p7 r (by omega)).1, fun j hj => ?_⟩
        have hjw : j < width := Nat.lt_of_lt_of_le hj (wd_get p2).1
        rw [F _, if_neg (by omega)]
        exact (p7 r (by omega)).2 j hj
      · rw [if_neg q]
        have b8 : i * width ≤ r * width := Nat.mul_le_mul_right width (by omega)
        have b7 : (r + 1) * width + width ≤ rows * width := nI_mulbd (by omega)
        have b6 : (r + 1) * width = r * width + width := by rw [Nat.add_mul, Nat.one_mul]
        refine ⟨by rw [G r, if_pos (by omega)]; exact (p7 (r + 1) (by omega)).1, fun j hj => ?_⟩
        have hjw : j < width := Nat.lt_of_lt_of_le hj (wd_get p2).1
        rw [F _, if_pos (by omega), show r * width + j + width = (r + 1) * width + j by omega]
        exact (p7 (r + 1) (by omega)).2 j hj
  have loop : ∀ t p, p + t = rows * width - width → i * width ≤ p → ∀ (h2 : Hp_) (f2 : Nat → Int32) (lv : List (Nat × Value)), gExt h h2 [la] [] → h2 la = some (.inl (false, .char, (rows * width, .inl f2))) → (∀ q, f2 q = if i * width ≤ q ∧ q < p then f (q + width) else f q) → gl lv 0 = some (.ref a) → gl lv 1 = some (.int (nI i)) → gl lv 2 = some (.int (nI p)) → gG 2 100 0 0 M_8_remove 20 lv [] h2 Q := by
    intro t
    induction t with
    | zero =>
      intro p hp hip h2 f2 lv e2 w2 F H0 H1 H2
      have u2 := e2.keep p3 (by simpa using n1)
      refine g_iloadn M_8_remove d_8_remove_20 (by first | rfl | assumption) ?_
      refine g_aloadn M_8_remove d_8_remove_21 (by first | rfl | assumption) ?_
      refine g_get M_8_remove d_8_remove_22 fl_8_21 (by assumption) (by rfl) ?_
      refine g_alen M_8_remove d_8_remove_25 (by assumption) ?_
      refine g_aloadn M_8_remove d_8_remove_26 (by first | rfl | assumption) ?_
      refine g_get M_8_remove d_8_remove_27 fl_8_15 (by assumption) (by rfl) ?_
      refine g_isub M_8_remove d_8_remove_30 ?_
      rw [nI_sub (by omega)]
      refine g_icmp_ge M_8_remove (tgt := 61) d_8_remove_31 (by decide) (fun _ => ?_) (fun c => absurd (nI_le (by omega) (by omega)) c)
      exact fin h2 f2 lv e2 w2 (fun q => by rw [F q, show p = rows * width - width by omega]) H0 H1
    | succ t ih =>
      intro p hp hip h2 f2 lv e2 w2 F H0 H1 H2
      have u2 := e2.keep p3 (by simpa using n1)
      refine g_iloadn M_8_remove d_8_remove_20 (by first | rfl | assumption) ?_
      refine g_aloadn M_8_remove d_8_remove_21 (by first | rfl | assumption) ?_
      refine g_get M_8_remove d_8_remove_22 fl_8_21 (by assumption) (by rfl) ?_
      refine g_alen M_8_remove d_8_remove_25 (by assumption) ?_
      refine g_aloadn M_8_remove d_8_remove_26 (by first | rfl | assumption) ?_
      refine g_get M_8_remove d_8_remove_27 fl_8_15 (by assumption) (by rfl) ?_
      refine g_isub M_8_remove d_8_remove_30 ?_
      rw [nI_sub (by omega)]
      refine g_icmp_ge M_8_remove (tgt := 61) d_8_remove_31 (by decide) (fun c => absurd c (nI_ge (by omega) (by omega))) (fun _ => ?_)
      refine g_iloadn M_8_remove d_8_remove_34 (by first | rfl | assumption) ?_
      refine g_if_lt M_8_remove (tgt := 55) d_8_remove_35 (by decide) (fun c => absurd c (nI_pos (by omega))) (fun _ => ?_)
      refine g_aloadn M_8_remove d_8_remove_38 (by first | rfl | assumption) ?_
      refine g_get M_8_remove d_8_remove_39 fl_8_21 (by assumption) (by rfl) ?_
      refine g_iloadn M_8_remove d_8_remove_42 (by first | rfl | assumption) ?_
      refine g_aloadn M_8_remove d_8_remove_43 (by first | rfl | assumption) ?_
      refine g_get M_8_remove d_8_remove_44 fl_8_21 (by assumption) (by rfl) ?_
      refine g_iloadn M_8_remove d_8_remove_47 (by first | rfl | assumption) ?_
      refine g_aloadn M_8_remove d_8_remove_48 (by first | rfl | assumption) ?_
      refine g_get M_8_remove d_8_remove_49 fl_8_15 (by assumption) (by rfl) ?_
      refine g_iadd M_8_remove d_8_remove_52 ?_
      rw [nI_add]
      refine g_caload M_8_remove d_8_remove_53 w2 (vp_in_nI (by omega) (by omega)) ?_
      have fc : gCh (f2 (nI (p + width)).toNatClampNeg) := by
        rw [nI_cl (by omega), F _]
        split
        · exact p6 _ (by omega)
        · exact p6 _ (by omega)
      refine e_cas M_8_remove d_8_remove_54 w2 (vp_in_nI (by omega) (by omega)) (gCh_n fc) (fun h3 w3 e3 => ?_)
      rw [nI_cl (by omega), nI_cl (by omega)] at w3
      refine g_iinc M_8_remove (v := nI (p + 1)) d_8_remove_55 H2 (by decide) (by first | rfl | (simp only [gc]; simp [*])) (nI_add p 1) ?_
      refine g_goto M_8_remove (tgt := 20) d_8_remove_58 (by decide) ?_
      refine ih (p + 1) (by omega) (by omega) h3 _ _ (by simpa using e2.trans e3 (by simp)) w3 (fun j => ?_) H0 H1 rfl
      unfold upd
      split
      · rename_i q
        subst q
        rw [if_pos ⟨hip, by omega⟩, F (j + width)]
        split
        · rename_i z
          exact absurd z.2 (by omega)
        · rfl
      · rw [F j]
        by_cases z : i * width ≤ j ∧ j < p
        · rw [if_pos z, if_pos ⟨z.1, by omega⟩]
        · rw [if_neg z, if_neg (by omega)]
  exact loop (rows * width - width - i * width) (i * width) (by omega) (Nat.le_refl _) h f _ (gExt.refl.weak (by simp)) p4 (fun j => by rw [if_neg (by omega)]) rfl rfl rfl
