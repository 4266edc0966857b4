/-! ===== copies: numbers, words, dies, heaps, states ===== -/
theorem va_cpy0 {f g : Nat → Int32} {n i : Nat} (hi : i < n) : va_cpy f g 0 0 n i = f i := by
  unfold va_cpy
  rw [if_pos ⟨Nat.zero_le _, by omega⟩]
  simp
theorem nm_cpy {h' : Hp_} {a n : Nat} {xs : List Int32} {f g : Nat → Int32} (hx : xs.length ≤ n) (hf : ∀ i, i < xs.length → f i = xs.getD i 0) (v : h' a = some (.inl (false, .int, (n, .inl (va_cpy f g 0 0 n))))) : nmR h' a n xs :=
  ⟨hx, _, v, fun i hi => by rw [va_cpy0 (by omega)]; exact hf i hi⟩
def offM (r0 r : Nat → Nat) (n : Nat) : Prop := ∀ i j, i < n → j < n → r0 i ≠ r j
theorem notin_map {r : Nat → Nat} {x n : Nat} (hx : ∀ k, k < n → x ≠ r k) : x ∉ (List.range n).map r := by
  intro q
  obtain ⟨k, hk, e⟩ := List.mem_map.mp q
  exact hx k (List.mem_range.mp hk) e.symm

set_option maxHeartbeats 4000000 in
set_option maxRecDepth 100000 in
theorem C_9_copyNumbers {a0 a n : Nat} {f g : Nat → Int32} {h : Hp_} {Q : Ot_ → Hp_ → Prop} (hn : n < 2 ^ 31) (h0 : h a0 = some (.inl (false, .int, (n, .inl f)))) (h1 : h a = some (.inl (false, .int, (n, .inl g)))) (k : ∀ h', gExt h h' [a] [] → h' a = some (.inl (false, .int, (n, .inl (va_cpy f g 0 0 n)))) → Q (.inl none) h') : gG 1 90 0 0 M_9_copyNumbers 0 (lv_args 0 [.ref a0, .ref a]) [] h Q := by
  refine g_aloadn M_9_copyNumbers d_9_copyNumbers_0 (by first | rfl | assumption) ?_
  refine g_iconst M_9_copyNumbers (v := nI 0) d_9_copyNumbers_1 (by decide) ?_
  refine g_aloadn M_9_copyNumbers d_9_copyNumbers_2 (by first | rfl | assumption) ?_
  refine g_iconst M_9_copyNumbers (v := nI 0) d_9_copyNumbers_3 (by decide) ?_
  refine g_aloadn M_9_copyNumbers d_9_copyNumbers_4 (by first | rfl | assumption) ?_
  refine g_alen M_9_copyNumbers d_9_copyNumbers_5 (by assumption) ?_
  refine g_aloadn M_9_copyNumbers d_9_copyNumbers_6 (by first | rfl | assumption) ?_
  refine g_alen M_9_copyNumbers d_9_copyNumbers_7 (by assumption) ?_
  refine g_min M_9_copyNumbers d_9_copyNumbers_8 mm_9_310 mm_min_s mm_i mm_min_c (Nat.le_of_ble_eq_true (by rfl)) (Nat.le_of_ble_eq_true (by rfl)) ?_
  rw [ite_self]
  refine e_copy M_9_copyNumbers d_9_copyNumbers_11 ac_9_313 h0 h1 rfl (by decide) (by decide) (nI_pos hn) (by rw [nI_cl (by decide), nI_cl (by omega)]; omega) (by rw [nI_cl (by decide), nI_cl (by omega)]; omega) (fun _ _ => rfl) (Nat.le_of_ble_eq_true (by rfl)) (Nat.le_of_ble_eq_true (by rfl)) (fun h2 v2 e2 => ?_)
  rw [nI_cl (by decide), nI_cl hn] at v2
  exact g_vret M_9_copyNumbers d_9_copyNumbers_14 rfl (k _ e2 v2)
set_option maxHeartbeats 4000000 in
set_option maxRecDepth 100000 in
theorem C_8_copyFrom {a la na a0 l0 n0 rows width : Nat} {ws vs : List (List Nat)} {h : Hp_} {Q : Ot_ → Hp_ → Prop} (hr : rows ≤ 30) (hw : width ≤ 16) (R0 : wsR h a0 l0 n0 rows width ws) (R : wsR h a la na rows width vs) (n1 : a ≠ la) (n2 : a ≠ na) (n3 : la ≠ na) (o : ∀ x ∈ [a0, l0, n0], x ∉ [a, la, na]) (k : ∀ h', gExt h h' [a, la, na] [] → wsR h' a la na rows width ws → Q (.inl none) h') : gG 2 130 0 0 M_8_copyFrom 0 (lv_args 0 [.ref a, .ref a0]) [] h Q := by
  obtain ⟨p1, p2, p3, f, g, p4, p5, p6, p7⟩ := id R0
  obtain ⟨-, -, q3, f', g', q4, q5, -, -⟩ := id R
  have hb : rows * width ≤ 30 * 16 := Nat.mul_le_mul hr hw
  have oo : ∀ x ∈ [a0, l0, n0], x ≠ a ∧ x ≠ la ∧ x ≠ na := fun x hx => by simpa using o x hx
  have o1 := oo a0 (by simp)
  have o2 := oo l0 (by simp)
  have o3 := oo n0 (by simp)
  refine g_aloadn M_8_copyFrom d_8_copyFrom_0 (by first | rfl | assumption) ?_
  refine g_get M_8_copyFrom d_8_copyFrom_1 fl_8_21 (by assumption) (by rfl) ?_
  refine g_iconst M_8_copyFrom (v := nI 0) d_8_copyFrom_4 (by decide) ?_
  refine g_aloadn M_8_copyFrom d_8_copyFrom_5 (by first | rfl | assumption) ?_
  refine g_get M_8_copyFrom d_8_copyFrom_6 fl_8_21 (by assumption) (by rfl) ?_
  refine g_iconst M_8_copyFrom (v := nI 0) d_8_copyFrom_9 (by decide) ?_
  refine g_aloadn M_8_copyFrom d_8_copyFrom_10 (by first | rfl | assumption) ?_
  refine g_get M_8_copyFrom d_8_copyFrom_11 fl_8_21 (by assumption) (by rfl) ?_
  refine g_alen M_8_copyFrom d_8_copyFrom_14 (by assumption) ?_
  refine g_aloadn M_8_copyFrom d_8_copyFrom_15 (by first | rfl | assumption) ?_
  refine g_get M_8_copyFrom d_8_copyFrom_16 fl_8_21 (by assumption) (by rfl) ?_
  refine g_alen M_8_copyFrom d_8_copyFrom_19 (by assumption) ?_
  refine g_min M_8_copyFrom d_8_copyFrom_20 mm_8_46 mm_min_s mm_i mm_min_c (Nat.le_of_ble_eq_true (by rfl)) (Nat.le_of_ble_eq_true (by rfl)) ?_
  rw [ite_self]
  refine e_copy M_8_copyFrom d_8_copyFrom_23 ac_8_82 p4 q4 rfl (by decide) (by decide) (nI_pos (by omega)) (by rw [nI_cl (by decide), nI_cl (by omega)]; omega) (by rw [nI_cl (by decide), nI_cl (by omega)]; omega) (fun i hi => ?_) (Nat.le_of_ble_eq_true (by rfl)) (Nat.le_of_ble_eq_true (by rfl)) (fun h2 v2 e2 => ?_)
  · rw [nI_cl (by decide)]
    rw [nI_cl (by omega)] at hi
    exact gCh_f (p6 _ (by omega))
  rw [nI_cl (by decide), nI_cl (by omega)] at v2
  have p3a := e2.keep p3 (by simpa using o1.2.1)
  have q3a := e2.keep q3 (by simpa using n1)
  have p5a := e2.keep p5 (by simpa using o3.2.1)
  have q5a := e2.keep q5 (by simpa using n3.symm)
  refine g_aloadn M_8_copyFrom d_8_copyFrom_26 (by first | rfl | assumption) ?_
  refine g_get M_8_copyFrom d_8_copyFrom_27 fl_8_25 (by assumption) (by rfl) ?_
  refine g_aloadn M_8_copyFrom d_8_copyFrom_30 (by first | rfl | assumption) ?_
  refine g_get M_8_copyFrom d_8_copyFrom_31 fl_8_25 (by assumption) (by rfl) ?_
  refine gc_N M_8_copyFrom 0 0 [.ref n0, .ref na] [] d_8_copyFrom_34 cn_8_88 (by rfl) (by rfl) (Nat.le_of_ble_eq_true (by rfl)) (Nat.le_of_ble_eq_true (by rfl)) (by decide) (by decide) (by decide) (by decide) (C_9_copyNumbers (by omega) p5a q5a (fun h3 e3 v3 => ?_))
  show gG _ _ _ _ _ _ _ _ _ _
  have p3b := e3.keep p3a (by simpa using o1.2.2)
  have q3b := e3.keep q3a (by simpa using n2)
  have v2b := e3.keep v2 (by simpa using n3)
  refine g_aloadn M_8_copyFrom d_8_copyFrom_37 (by first | rfl | assumption) ?_
  refine g_aloadn M_8_copyFrom d_8_copyFrom_38 (by first | rfl | assumption) ?_
  refine g_get M_8_copyFrom d_8_copyFrom_39 fl_8_29 (by assumption) (by rfl) ?_
  refine e_put M_8_copyFrom d_8_copyFrom_42 pt_8_29 (by assumption) (by rfl) (by rfl) (fun h4 v4 e4 => ?_)
  refine g_vret M_8_copyFrom d_8_copyFrom_45 rfl (k h4 ?_ ⟨p1, p2, v4, _, _, e4.keep v2b (by simpa using n1.symm), e4.keep v3 (by simpa using n2.symm), fun j hj => ?_, fun i hi => ⟨?_, fun j hj => ?_⟩⟩)
  · have t := ((e2.weak (S' := [a, la, na]) (by simp)).trans e3 (by simp)).trans e4 (by simp)
    simpa using t
  · rw [va_cpy0 hj]
    exact p6 j hj
  · rw [va_cpy0 (by omega)]
    exact (p7 i hi).1
  · have hww : (ws.getD i []).length ≤ width := by
      rw [List.getD_eq_getElem?_getD, List.getElem?_eq_getElem hi]
      exact (p2 _ (List.getElem_mem hi)).1
    have := nI_mulbd (width := width) (show i < rows by omega)
    rw [va_cpy0 (by omega)]
    exact (p7 i hi).2 j hj
set_option maxHeartbeats 4000000 in
set_option maxRecDepth 100000 in
theorem C_0_copyFrom {r r0 : Nat → Nat} {v w : Dl_} {h : Hp_} {Q : Ot_ → Hp_ → Prop} (s : sepR r 8) (o : offM r0 r 8) (D0 : diR h r0 v) (D : diR h r w) (k : ∀ h', gExt h h' ((List.range 8).map r) [] → diR h' r v → Q (.inl none) h') : gG 3 160 0 0 M_0_copyFrom 0 (lv_args 0 [.ref (r 0), .ref (r0 0)]) [] h Q := by
  obtain ⟨v0, W1, W2, ⟨-, g, hg, -⟩, -, -⟩ := id D
  have mr : ∀ k, k < 8 → r k ∈ (List.range 8).map r := fun k hk => List.mem_map.mpr ⟨k, List.mem_range.mpr hk, rfl⟩
  have off : ∀ k, k < 8 → r0 k ∉ (List.range 8).map r := fun k hk => notin_map (fun j hj => o k j hk hj)
  obtain ⟨z0, Z1, Z2, Z3, zl⟩ := id D0
  refine g_aloadn M_0_copyFrom d_0_copyFrom_0 (by first | rfl | assumption) ?_
  refine g_get M_0_copyFrom d_0_copyFrom_1 fl_0_14 (by assumption) (by rfl) ?_
  refine g_aloadn M_0_copyFrom d_0_copyFrom_4 (by first | rfl | assumption) ?_
  refine g_get M_0_copyFrom d_0_copyFrom_5 fl_0_14 (by assumption) (by rfl) ?_
  refine gc_V M_0_copyFrom 0 0 [.ref (r0 1)] [] d_0_copyFrom_8 cv_0_78 W1.2.2.1 (by rfl) (by rfl) (Nat.le_of_ble_eq_true (by rfl)) (Nat.le_of_ble_eq_true (by rfl)) (by decide) (by decide) (by decide) (by decide) (C_8_copyFrom (by decide) (by decide) Z1 W1 (s.ne 1 2 (by decide) (by decide) (by decide)) (s.ne 1 3 (by decide) (by decide) (by decide)) (s.ne 2 3 (by decide) (by decide) (by decide)) (fun x hx q => by simp only [List.mem_cons, List.not_mem_nil, or_false] at hx q; rcases hx with rfl | rfl | rfl <;> rcases q with q | q | q <;> exact absurd q (o _ _ (by decide) (by decide))) (fun h1 e1 X1 => ?_))
  have f1 := e1.weak (S' := (List.range 8).map r) (fun x hx => by simp only [List.mem_cons, List.not_mem_nil, or_false] at hx; rcases hx with rfl | rfl | rfl <;> exact mr _ (by decide))
  have D1 := D0.keep f1 off
  obtain ⟨z0a, Z1a, Z2a, Z3a, -⟩ := id D1
  have v0a := e1.keep v0 (fun q => by simp only [List.mem_cons, List.not_mem_nil, or_false] at q; rcases q with q | q | q <;> first | exact absurd q (s.ne _ _ (by decide) (by decide) (by decide)) | exact absurd q (o _ _ (by decide) (by decide)))
  have W2a := W2.keep e1 (fun q => by simp only [List.mem_cons, List.not_mem_nil, or_false] at q; rcases q with q | q | q <;> first | exact absurd q (s.ne _ _ (by decide) (by decide) (by decide)) | exact absurd q (o _ _ (by decide) (by decide))) (fun q => by simp only [List.mem_cons, List.not_mem_nil, or_false] at q; rcases q with q | q | q <;> first | exact absurd q (s.ne _ _ (by decide) (by decide) (by decide)) | exact absurd q (o _ _ (by decide) (by decide))) (fun q => by simp only [List.mem_cons, List.not_mem_nil, or_false] at q; rcases q with q | q | q <;> first | exact absurd q (s.ne _ _ (by decide) (by decide) (by decide)) | exact absurd q (o _ _ (by decide) (by decide)))
  have hga := e1.keep hg (fun q => by simp only [List.mem_cons, List.not_mem_nil, or_false] at q; rcases q with q | q | q <;> first | exact absurd q (s.ne _ _ (by decide) (by decide) (by decide)) | exact absurd q (o _ _ (by decide) (by decide)))
  show gG _ _ _ _ _ _ _ _ _ _
  refine g_aloadn M_0_copyFrom d_0_copyFrom_11 (by first | rfl | assumption) ?_
  refine g_get M_0_copyFrom d_0_copyFrom_12 fl_0_20 (by assumption) (by rfl) ?_
  refine g_aloadn M_0_copyFrom d_0_copyFrom_15 (by first | rfl | assumption) ?_
  refine g_get M_0_copyFrom d_0_copyFrom_16 fl_0_20 (by assumption) (by rfl) ?_
  refine gc_V M_0_copyFrom 0 0 [.ref (r0 4)] [] d_0_copyFrom_19 cv_0_78 W2a.2.2.1 (by rfl) (by rfl) (Nat.le_of_ble_eq_true (by rfl)) (Nat.le_of_ble_eq_true (by rfl)) (by decide) (by decide) (by decide) (by decide) (C_8_copyFrom (by decide) (by decide) Z2a W2a (s.ne 4 5 (by decide) (by decide) (by decide)) (s.ne 4 6 (by decide) (by decide) (by decide)) (s.ne 5 6 (by decide) (by decide) (by decide)) (fun x hx q => by simp only [List.mem_cons, List.not_mem_nil, or_false] at hx q; rcases hx with rfl | rfl | rfl <;> rcases q with q | q | q <;> exact absurd q (o _ _ (by decide) (by decide))) (fun h2 e2 X2 => ?_))
  have f2 := e2.weak (S' := (List.range 8).map r) (fun x hx => by simp only [List.mem_cons, List.not_mem_nil, or_false] at hx; rcases hx with rfl | rfl | rfl <;> exact mr _ (by decide))
  have D2 := D1.keep f2 off
  obtain ⟨z0b, Z1b, Z2b, ⟨zb, gz, hz, hzv⟩, zb1, zb2⟩ := id D2
  have v0b := e2.keep v0a (fun q => by simp only [List.mem_cons, List.not_mem_nil, or_false] at q; rcases q with q | q | q <;> first | exact absurd q (s.ne _ _ (by decide) (by decide) (by decide)) | exact absurd q (o _ _ (by decide) (by decide)))
  have X1b := X1.keep e2 (fun q => by simp only [List.mem_cons, List.not_mem_nil, or_false] at q; rcases q with q | q | q <;> first | exact absurd q (s.ne _ _ (by decide) (by decide) (by decide)) | exact absurd q (o _ _ (by decide) (by decide))) (fun q => by simp only [List.mem_cons, List.not_mem_nil, or_false] at q; rcases q with q | q | q <;> first | exact absurd q (s.ne _ _ (by decide) (by decide) (by decide)) | exact absurd q (o _ _ (by decide) (by decide))) (fun q => by simp only [List.mem_cons, List.not_mem_nil, or_false] at q; rcases q with q | q | q <;> first | exact absurd q (s.ne _ _ (by decide) (by decide) (by decide)) | exact absurd q (o _ _ (by decide) (by decide)))
  have hgb := e2.keep hga (fun q => by simp only [List.mem_cons, List.not_mem_nil, or_false] at q; rcases q with q | q | q <;> first | exact absurd q (s.ne _ _ (by decide) (by decide) (by decide)) | exact absurd q (o _ _ (by decide) (by decide)))
  show gG _ _ _ _ _ _ _ _ _ _
  refine g_aloadn M_0_copyFrom d_0_copyFrom_22 (by first | rfl | assumption) ?_
  refine g_get M_0_copyFrom d_0_copyFrom_23 fl_0_23 (by assumption) (by rfl) ?_
  refine g_aloadn M_0_copyFrom d_0_copyFrom_26 (by first | rfl | assumption) ?_
  refine g_get M_0_copyFrom d_0_copyFrom_27 fl_0_23 (by assumption) (by rfl) ?_
  refine gc_N M_0_copyFrom 0 0 [.ref (r0 7), .ref (r 7)] [] d_0_copyFrom_30 cn_0_82 (by rfl) (by rfl) (Nat.le_of_ble_eq_true (by rfl)) (Nat.le_of_ble_eq_true (by rfl)) (by decide) (by decide) (by decide) (by decide) (C_9_copyNumbers (by decide) hz hgb (fun h3 e3 v3 => ?_))
  show gG _ _ _ _ _ _ _ _ _ _
  refine g_vret M_0_copyFrom d_0_copyFrom_33 rfl (k h3 ?_ ⟨e3.keep v0b (fun q => by simp only [List.mem_cons, List.not_mem_nil, or_false] at q; rcases q with q <;> first | exact absurd q (s.ne _ _ (by decide) (by decide) (by decide)) | exact absurd q (o _ _ (by decide) (by decide))), X1b.keep e3 (fun q => by simp only [List.mem_cons, List.not_mem_nil, or_false] at q; rcases q with q <;> first | exact absurd q (s.ne _ _ (by decide) (by decide) (by decide)) | exact absurd q (o _ _ (by decide) (by decide))) (fun q => by simp only [List.mem_cons, List.not_mem_nil, or_false] at q; rcases q with q <;> first | exact absurd q (s.ne _ _ (by decide) (by decide) (by decide)) | exact absurd q (o _ _ (by decide) (by decide))) (fun q => by simp only [List.mem_cons, List.not_mem_nil, or_false] at q; rcases q with q <;> first | exact absurd q (s.ne _ _ (by decide) (by decide) (by decide)) | exact absurd q (o _ _ (by decide) (by decide))), X2.keep e3 (fun q => by simp only [List.mem_cons, List.not_mem_nil, or_false] at q; rcases q with q <;> first | exact absurd q (s.ne _ _ (by decide) (by decide) (by decide)) | exact absurd q (o _ _ (by decide) (by decide))) (fun q => by simp only [List.mem_cons, List.not_mem_nil, or_false] at q; rcases q with q <;> first | exact absurd q (s.ne _ _ (by decide) (by decide) (by decide)) | exact absurd q (o _ _ (by decide) (by decide))) (fun q => by simp only [List.mem_cons, List.not_mem_nil, or_false] at q; rcases q with q <;> first | exact absurd q (s.ne _ _ (by decide) (by decide) (by decide)) | exact absurd q (o _ _ (by decide) (by decide))), nm_cpy zb hzv v3, zl⟩)
  have t := (f1.trans f2 (fun x hx => Or.inl hx)).trans e3 (fun x hx => Or.inl (by rw [List.mem_singleton.mp hx]; exact mr 7 (by decide)))
  simpa using t
set_option maxHeartbeats 4000000 in
set_option maxRecDepth 100000 in
theorem C_2_copyFrom {r r0 : Nat → Nat} {v w : Hl_} {h : Hp_} {Q : Ot_ → Hp_ → Prop} (s : sepR r 6) (o : offM r0 r 6) (D0 : heR h r0 v) (D : heR h r w) (k : ∀ h', gExt h h' ((List.range 6).map r) [] → heR h' r v → Q (.inl none) h') : gG 3 160 0 0 M_2_copyFrom 0 (lv_args 0 [.ref (r 0), .ref (r0 0)]) [] h Q := by
  obtain ⟨v0, W1, ⟨-, g, hg, -⟩, ⟨-, g2, hg2, -⟩, -, -⟩ := id D
  have mr : ∀ k, k < 6 → r k ∈ (List.range 6).map r := fun k hk => List.mem_map.mpr ⟨k, List.mem_range.mpr hk, rfl⟩
  have off : ∀ k, k < 6 → r0 k ∉ (List.range 6).map r := fun k hk => notin_map (fun j hj => o k j hk hj)
  obtain ⟨z0, Z1, Z2, Z3, zl⟩ := id D0
  refine g_aloadn M_2_copyFrom d_2_copyFrom_0 (by first | rfl | assumption) ?_
  refine g_get M_2_copyFrom d_2_copyFrom_1 fl_2_14 (by assumption) (by rfl) ?_
  refine g_aloadn M_2_copyFrom d_2_copyFrom_4 (by first | rfl | assumption) ?_
  refine g_get M_2_copyFrom d_2_copyFrom_5 fl_2_14 (by assumption) (by rfl) ?_
  refine gc_V M_2_copyFrom 0 0 [.ref (r0 1)] [] d_2_copyFrom_8 cv_2_74 W1.2.2.1 (by rfl) (by rfl) (Nat.le_of_ble_eq_true (by rfl)) (Nat.le_of_ble_eq_true (by rfl)) (by decide) (by decide) (by decide) (by decide) (C_8_copyFrom (by decide) (by decide) Z1 W1 (s.ne 1 2 (by decide) (by decide) (by decide)) (s.ne 1 3 (by decide) (by decide) (by decide)) (s.ne 2 3 (by decide) (by decide) (by decide)) (fun x hx q => by simp only [List.mem_cons, List.not_mem_nil, or_false] at hx q; rcases hx with rfl | rfl | rfl <;> rcases q with q | q | q <;> exact absurd q (o _ _ (by decide) (by decide))) (fun h1 e1 X1 => ?_))
  have f1 := e1.weak (S' := (List.range 6).map r) (fun x hx => by simp only [List.mem_cons, List.not_mem_nil, or_false] at hx; rcases hx with rfl | rfl | rfl <;> exact mr _ (by decide))
  have D1 := D0.keep f1 off
  obtain ⟨z0a, Z1a, ⟨za, gz, hz, hzv⟩, Z3a, -⟩ := id D1
  have v0a := e1.keep v0 (fun q => by simp only [List.mem_cons, List.not_mem_nil, or_false] at q; rcases q with q | q | q <;> first | exact absurd q (s.ne _ _ (by decide) (by decide) (by decide)) | exact absurd q (o _ _ (by decide) (by decide)))
  have hga := e1.keep hg (fun q => by simp only [List.mem_cons, List.not_mem_nil, or_false] at q; rcases q with q | q | q <;> first | exact absurd q (s.ne _ _ (by decide) (by decide) (by decide)) | exact absurd q (o _ _ (by decide) (by decide)))
  have hg2a := e1.keep hg2 (fun q => by simp only [List.mem_cons, List.not_mem_nil, or_false] at q; rcases q with q | q | q <;> first | exact absurd q (s.ne _ _ (by decide) (by decide) (by decide)) | exact absurd q (o _ _ (by decide) (by decide)))
  show gG _ _ _ _ _ _ _ _ _ _
  refine g_aloadn M_2_copyFrom d_2_copyFrom_11 (by first | rfl | assumption) ?_
  refine g_get M_2_copyFrom d_2_copyFrom_12 fl_2_20 (by assumption) (by rfl) ?_
  refine g_aloadn M_2_copyFrom d_2_copyFrom_15 (by first | rfl | assumption) ?_
  refine g_get M_2_copyFrom d_2_copyFrom_16 fl_2_20 (by assumption) (by rfl) ?_
  refine gc_N M_2_copyFrom 0 0 [.ref (r0 4), .ref (r 4)] [] d_2_copyFrom_19 cn_2_78 (by rfl) (by rfl) (Nat.le_of_ble_eq_true (by rfl)) (Nat.le_of_ble_eq_true (by rfl)) (by decide) (by decide) (by decide) (by decide) (C_9_copyNumbers (by decide) hz hga (fun h2 e2 v2 => ?_))
  have f2 := e2.weak (S' := (List.range 6).map r) (fun x hx => by rw [List.mem_singleton.mp hx]; exact mr 4 (by decide))
  have D2 := D1.keep f2 off
  obtain ⟨z0b, Z1b, Z2b, ⟨zb, gy, hy, hyv⟩, -⟩ := id D2
  have v0b := e2.keep v0a (fun q => by simp only [List.mem_cons, List.not_mem_nil, or_false] at q; rcases q with q <;> first | exact absurd q (s.ne _ _ (by decide) (by decide) (by decide)) | exact absurd q (o _ _ (by decide) (by decide)))
  have X1b := X1.keep e2 (fun q => by simp only [List.mem_cons, List.not_mem_nil, or_false] at q; rcases q with q <;> first | exact absurd q (s.ne _ _ (by decide) (by decide) (by decide)) | exact absurd q (o _ _ (by decide) (by decide))) (fun q => by simp only [List.mem_cons, List.not_mem_nil, or_false] at q; rcases q with q <;> first | exact absurd q (s.ne _ _ (by decide) (by decide) (by decide)) | exact absurd q (o _ _ (by decide) (by decide))) (fun q => by simp only [List.mem_cons, List.not_mem_nil, or_false] at q; rcases q with q <;> first | exact absurd q (s.ne _ _ (by decide) (by decide) (by decide)) | exact absurd q (o _ _ (by decide) (by decide)))
  have hg2b := e2.keep hg2a (fun q => by simp only [List.mem_cons, List.not_mem_nil, or_false] at q; rcases q with q <;> first | exact absurd q (s.ne _ _ (by decide) (by decide) (by decide)) | exact absurd q (o _ _ (by decide) (by decide)))
  have N2 := nm_cpy za hzv v2
  show gG _ _ _ _ _ _ _ _ _ _
  refine g_aloadn M_2_copyFrom d_2_copyFrom_22 (by first | rfl | assumption) ?_
  refine g_get M_2_copyFrom d_2_copyFrom_23 fl_2_24 (by assumption) (by rfl) ?_
  refine g_aloadn M_2_copyFrom d_2_copyFrom_26 (by first | rfl | assumption) ?_
  refine g_get M_2_copyFrom d_2_copyFrom_27 fl_2_24 (by assumption) (by rfl) ?_
  refine gc_N M_2_copyFrom 0 0 [.ref (r0 5), .ref (r 5)] [] d_2_copyFrom_30 cn_2_78 (by rfl) (by rfl) (Nat.le_of_ble_eq_true (by rfl)) (Nat.le_of_ble_eq_true (by rfl)) (by decide) (by decide) (by decide) (by decide) (C_9_copyNumbers (by decide) hy hg2b (fun h3 e3 v3 => ?_))
  show gG _ _ _ _ _ _ _ _ _ _
  refine g_vret M_2_copyFrom d_2_copyFrom_33 rfl (k h3 ?_ ⟨e3.keep v0b (fun q => by simp only [List.mem_cons, List.not_mem_nil, or_false] at q; rcases q with q <;> first | exact absurd q (s.ne _ _ (by decide) (by decide) (by decide)) | exact absurd q (o _ _ (by decide) (by decide))), X1b.keep e3 (fun q => by simp only [List.mem_cons, List.not_mem_nil, or_false] at q; rcases q with q <;> first | exact absurd q (s.ne _ _ (by decide) (by decide) (by decide)) | exact absurd q (o _ _ (by decide) (by decide))) (fun q => by simp only [List.mem_cons, List.not_mem_nil, or_false] at q; rcases q with q <;> first | exact absurd q (s.ne _ _ (by decide) (by decide) (by decide)) | exact absurd q (o _ _ (by decide) (by decide))) (fun q => by simp only [List.mem_cons, List.not_mem_nil, or_false] at q; rcases q with q <;> first | exact absurd q (s.ne _ _ (by decide) (by decide) (by decide)) | exact absurd q (o _ _ (by decide) (by decide))), N2.keep e3 (fun q => by simp only [List.mem_cons, List.not_mem_nil, or_false] at q; rcases q with q <;> first | exact absurd q (s.ne _ _ (by decide) (by decide) (by decide)) | exact absurd q (o _ _ (by decide) (by decide))), nm_cpy zb hyv v3, zl⟩)
  have t := (f1.trans f2 (fun x hx => Or.inl hx)).trans e3 (fun x hx => Or.inl (by rw [List.mem_singleton.mp hx]; exact mr 5 (by decide)))
  simpa using t
set_option maxHeartbeats 4000000 in
set_option maxRecDepth 100000 in
theorem C_6_copyFrom {r r0 : Nat → Nat} {v w : Sl_} {h : Hp_} {Q : Ot_ → Hp_ → Prop} (s : sepR r 24) (o : offM r0 r 24) (D0 : stR h r0 v) (D : stR h r w) (k : ∀ h', gExt h h' ((List.range 24).map r) [] → stR h' r v → Q (.inl none) h') : gG 4 190 0 0 M_6_copyFrom 0 (lv_args 0 [.ref (r 0), .ref (r0 0)]) [] h Q := by
  obtain ⟨v0, W1, W2, W3, DD, HH, -⟩ := id D
  have mr : ∀ k, k < 24 → r k ∈ (List.range 24).map r := fun k hk => List.mem_map.mpr ⟨k, List.mem_range.mpr hk, rfl⟩
  have off : ∀ k, k < 24 → r0 k ∉ (List.range 24).map r := fun k hk => notin_map (fun j hj => o k j hk hj)
  obtain ⟨z0, Z1, Z2, Z3, ZD, ZH, zl⟩ := id D0
  refine g_aloadn M_6_copyFrom d_6_copyFrom_0 (by first | rfl | assumption) ?_
  refine g_get M_6_copyFrom d_6_copyFrom_1 fl_6_14 (by assumption) (by rfl) ?_
  refine g_aloadn M_6_copyFrom d_6_copyFrom_4 (by first | rfl | assumption) ?_
  refine g_get M_6_copyFrom d_6_copyFrom_5 fl_6_14 (by assumption) (by rfl) ?_
  refine gc_V M_6_copyFrom 0 0 [.ref (r0 1)] [] d_6_copyFrom_8 cv_6_99 W1.2.2.1 (by rfl) (by rfl) (Nat.le_of_ble_eq_true (by rfl)) (Nat.le_of_ble_eq_true (by rfl)) (by decide) (by decide) (by decide) (by decide) (C_8_copyFrom (by decide) (by decide) Z1 W1 (s.ne 1 2 (by decide) (by decide) (by decide)) (s.ne 1 3 (by decide) (by decide) (by decide)) (s.ne 2 3 (by decide) (by decide) (by decide)) (fun x hx q => by simp only [List.mem_cons, List.not_mem_nil, or_false] at hx q; rcases hx with rfl | rfl | rfl <;> rcases q with q | q | q <;> exact absurd q (o _ _ (by decide) (by decide))) (fun h1 e1 X1 => ?_))
  have f1 := e1.weak (S' := ((List.range 24).map r)) (fun x hx => by simp only [List.mem_cons, List.not_mem_nil, or_false] at hx; rcases hx with rfl | rfl | rfl <;> exact mr _ (by decide))
  have D1 := D0.keep f1 off
  obtain ⟨z0a, -, Z2a, -, -, -, -⟩ := id D1
  have v0a := e1.keep v0 (fun q => by simp only [List.mem_cons, List.not_mem_nil, or_false] at q; rcases q with q | q | q <;> first | exact absurd q (s.ne _ _ (by decide) (by decide) (by decide)) | exact absurd q (o _ _ (by decide) (by decide)))
  have W2a := W2.keep e1 (fun q => by simp only [List.mem_cons, List.not_mem_nil, or_false] at q; rcases q with q | q | q <;> first | exact absurd q (s.ne _ _ (by decide) (by decide) (by decide)) | exact absurd q (o _ _ (by decide) (by decide))) (fun q => by simp only [List.mem_cons, List.not_mem_nil, or_false] at q; rcases q with q | q | q <;> first | exact absurd q (s.ne _ _ (by decide) (by decide) (by decide)) | exact absurd q (o _ _ (by decide) (by decide))) (fun q => by simp only [List.mem_cons, List.not_mem_nil, or_false] at q; rcases q with q | q | q <;> first | exact absurd q (s.ne _ _ (by decide) (by decide) (by decide)) | exact absurd q (o _ _ (by decide) (by decide)))
  have W3a := W3.keep e1 (fun q => by simp only [List.mem_cons, List.not_mem_nil, or_false] at q; rcases q with q | q | q <;> first | exact absurd q (s.ne _ _ (by decide) (by decide) (by decide)) | exact absurd q (o _ _ (by decide) (by decide))) (fun q => by simp only [List.mem_cons, List.not_mem_nil, or_false] at q; rcases q with q | q | q <;> first | exact absurd q (s.ne _ _ (by decide) (by decide) (by decide)) | exact absurd q (o _ _ (by decide) (by decide))) (fun q => by simp only [List.mem_cons, List.not_mem_nil, or_false] at q; rcases q with q | q | q <;> first | exact absurd q (s.ne _ _ (by decide) (by decide) (by decide)) | exact absurd q (o _ _ (by decide) (by decide)))
  show gG _ _ _ _ _ _ _ _ _ _
  refine g_aloadn M_6_copyFrom d_6_copyFrom_11 (by first | rfl | assumption) ?_
  refine g_get M_6_copyFrom d_6_copyFrom_12 fl_6_20 (by assumption) (by rfl) ?_
  refine g_aloadn M_6_copyFrom d_6_copyFrom_15 (by first | rfl | assumption) ?_
  refine g_get M_6_copyFrom d_6_copyFrom_16 fl_6_20 (by assumption) (by rfl) ?_
  refine gc_V M_6_copyFrom 0 0 [.ref (r0 4)] [] d_6_copyFrom_19 cv_6_99 W2a.2.2.1 (by rfl) (by rfl) (Nat.le_of_ble_eq_true (by rfl)) (Nat.le_of_ble_eq_true (by rfl)) (by decide) (by decide) (by decide) (by decide) (C_8_copyFrom (by decide) (by decide) Z2a W2a (s.ne 4 5 (by decide) (by decide) (by decide)) (s.ne 4 6 (by decide) (by decide) (by decide)) (s.ne 5 6 (by decide) (by decide) (by decide)) (fun x hx q => by simp only [List.mem_cons, List.not_mem_nil, or_false] at hx q; rcases hx with rfl | rfl | rfl <;> rcases q with q | q | q <;> exact absurd q (o _ _ (by decide) (by decide))) (fun h2 e2 X2 => ?_))
  have f2 := e2.weak (S' := ((List.range 24).map r)) (fun x hx => by simp only [List.mem_cons, List.not_mem_nil, or_false] at hx; rcases hx with rfl | rfl | rfl <;> exact mr _ (by decide))
  have D2 := D1.keep f2 off
  obtain ⟨z0b, -, -, Z3b, -, -, -⟩ := id D2
  have v0b := e2.keep v0a (fun q => by simp only [List.mem_cons, List.not_mem_nil, or_false] at q; rcases q with q | q | q <;> first | exact absurd q (s.ne _ _ (by decide) (by decide) (by decide)) | exact absurd q (o _ _ (by decide) (by decide)))
  have X1b := X1.keep e2 (fun q => by simp only [List.mem_cons, List.not_mem_nil, or_false] at q; rcases q with q | q | q <;> first | exact absurd q (s.ne _ _ (by decide) (by decide) (by decide)) | exact absurd q (o _ _ (by decide) (by decide))) (fun q => by simp only [List.mem_cons, List.not_mem_nil, or_false] at q; rcases q with q | q | q <;> first | exact absurd q (s.ne _ _ (by decide) (by decide) (by decide)) | exact absurd q (o _ _ (by decide) (by decide))) (fun q => by simp only [List.mem_cons, List.not_mem_nil, or_false] at q; rcases q with q | q | q <;> first | exact absurd q (s.ne _ _ (by decide) (by decide) (by decide)) | exact absurd q (o _ _ (by decide) (by decide)))
  have W3b := W3a.keep e2 (fun q => by simp only [List.mem_cons, List.not_mem_nil, or_false] at q; rcases q with q | q | q <;> first | exact absurd q (s.ne _ _ (by decide) (by decide) (by decide)) | exact absurd q (o _ _ (by decide) (by decide))) (fun q => by simp only [List.mem_cons, List.not_mem_nil, or_false] at q; rcases q with q | q | q <;> first | exact absurd q (s.ne _ _ (by decide) (by decide) (by decide)) | exact absurd q (o _ _ (by decide) (by decide))) (fun q => by simp only [List.mem_cons, List.not_mem_nil, or_false] at q; rcases q with q | q | q <;> first | exact absurd q (s.ne _ _ (by decide) (by decide) (by decide)) | exact absurd q (o _ _ (by decide) (by decide)))
  show gG _ _ _ _ _ _ _ _ _ _
  refine g_aloadn M_6_copyFrom d_6_copyFrom_22 (by first | rfl | assumption) ?_
  refine g_get M_6_copyFrom d_6_copyFrom_23 fl_6_23 (by assumption) (by rfl) ?_
  refine g_aloadn M_6_copyFrom d_6_copyFrom_26 (by first | rfl | assumption) ?_
  refine g_get M_6_copyFrom d_6_copyFrom_27 fl_6_23 (by assumption) (by rfl) ?_
  refine gc_V M_6_copyFrom 0 0 [.ref (r0 7)] [] d_6_copyFrom_30 cv_6_99 W3b.2.2.1 (by rfl) (by rfl) (Nat.le_of_ble_eq_true (by rfl)) (Nat.le_of_ble_eq_true (by rfl)) (by decide) (by decide) (by decide) (by decide) (C_8_copyFrom (by decide) (by decide) Z3b W3b (s.ne 7 8 (by decide) (by decide) (by decide)) (s.ne 7 9 (by decide) (by decide) (by decide)) (s.ne 8 9 (by decide) (by decide) (by decide)) (fun x hx q => by simp only [List.mem_cons, List.not_mem_nil, or_false] at hx q; rcases hx with rfl | rfl | rfl <;> rcases q with q | q | q <;> exact absurd q (o _ _ (by decide) (by decide))) (fun h3 e3 X3 => ?_))
  have f3 := e3.weak (S' := ((List.range 24).map r)) (fun x hx => by simp only [List.mem_cons, List.not_mem_nil, or_false] at hx; rcases hx with rfl | rfl | rfl <;> exact mr _ (by decide))
  have D3 := D2.keep f3 off
  obtain ⟨z0c, -, -, -, ZDc, -, -⟩ := id D3
  have v0c := e3.keep v0b (fun q => by simp only [List.mem_cons, List.not_mem_nil, or_false] at q; rcases q with q | q | q <;> first | exact absurd q (s.ne _ _ (by decide) (by decide) (by decide)) | exact absurd q (o _ _ (by decide) (by decide)))
  have X1c := X1b.keep e3 (fun q => by simp only [List.mem_cons, List.not_mem_nil, or_false] at q; rcases q with q | q | q <;> first | exact absurd q (s.ne _ _ (by decide) (by decide) (by decide)) | exact absurd q (o _ _ (by decide) (by decide))) (fun q => by simp only [List.mem_cons, List.not_mem_nil, or_false] at q; rcases q with q | q | q <;> first | exact absurd q (s.ne _ _ (by decide) (by decide) (by decide)) | exact absurd q (o _ _ (by decide) (by decide))) (fun q => by simp only [List.mem_cons, List.not_mem_nil, or_false] at q; rcases q with q | q | q <;> first | exact absurd q (s.ne _ _ (by decide) (by decide) (by decide)) | exact absurd q (o _ _ (by decide) (by decide)))
  have X2c := X2.keep e3 (fun q => by simp only [List.mem_cons, List.not_mem_nil, or_false] at q; rcases q with q | q | q <;> first | exact absurd q (s.ne _ _ (by decide) (by decide) (by decide)) | exact absurd q (o _ _ (by decide) (by decide))) (fun q => by simp only [List.mem_cons, List.not_mem_nil, or_false] at q; rcases q with q | q | q <;> first | exact absurd q (s.ne _ _ (by decide) (by decide) (by decide)) | exact absurd q (o _ _ (by decide) (by decide))) (fun q => by simp only [List.mem_cons, List.not_mem_nil, or_false] at q; rcases q with q | q | q <;> first | exact absurd q (s.ne _ _ (by decide) (by decide) (by decide)) | exact absurd q (o _ _ (by decide) (by decide)))
  have t3 := (f1.trans f2 (fun x hx => Or.inl hx)).trans f3 (fun x hx => Or.inl hx)
  have DDc : diR h3 (fun k => r (10 + k)) w.2.2.2.1 := ((DD.keep e1 (fun k hk => by intro q; simp only [List.mem_cons, List.not_mem_nil, or_false] at q; rcases q with q | q | q <;> exact absurd q (s.ne _ _ (by omega) (by decide) (by omega)))).keep e2 (fun k hk => by intro q; simp only [List.mem_cons, List.not_mem_nil, or_false] at q; rcases q with q | q | q <;> exact absurd q (s.ne _ _ (by omega) (by decide) (by omega)))).keep e3 (fun k hk => by intro q; simp only [List.mem_cons, List.not_mem_nil, or_false] at q; rcases q with q | q | q <;> exact absurd q (s.ne _ _ (by omega) (by decide) (by omega)))
  have HHc : heR h3 (fun k => r (18 + k)) w.2.2.2.2.1 := ((HH.keep e1 (fun k hk => by intro q; simp only [List.mem_cons, List.not_mem_nil, or_false] at q; rcases q with q | q | q <;> exact absurd q (s.ne _ _ (by omega) (by decide) (by omega)))).keep e2 (fun k hk => by intro q; simp only [List.mem_cons, List.not_mem_nil, or_false] at q; rcases q with q | q | q <;> exact absurd q (s.ne _ _ (by omega) (by decide) (by omega)))).keep e3 (fun k hk => by intro q; simp only [List.mem_cons, List.not_mem_nil, or_false] at q; rcases q with q | q | q <;> exact absurd q (s.ne _ _ (by omega) (by decide) (by omega)))
  show gG _ _ _ _ _ _ _ _ _ _
  refine g_aloadn M_6_copyFrom d_6_copyFrom_33 (by first | rfl | assumption) ?_
  refine g_get M_6_copyFrom d_6_copyFrom_34 fl_6_29 (by assumption) (by rfl) ?_
  refine g_aloadn M_6_copyFrom d_6_copyFrom_37 (by first | rfl | assumption) ?_
  refine g_get M_6_copyFrom d_6_copyFrom_38 fl_6_29 (by assumption) (by rfl) ?_
  refine gc_V M_6_copyFrom 0 0 [.ref (r0 10)] [] d_6_copyFrom_41 cv_6_103 DDc.1 (by rfl) (by rfl) (Nat.le_of_ble_eq_true (by rfl)) (Nat.le_of_ble_eq_true (by rfl)) (by decide) (by decide) (by decide) (by decide) (C_0_copyFrom (r := fun k => r (10 + k)) (r0 := fun k => r0 (10 + k)) (fun i j hi hj e => by have := s _ _ (by omega) (by omega) e; omega) (fun i j hi hj => o _ _ (by omega) (by omega)) ZDc DDc (fun h4 e4 XD => ?_))
  have f4 := e4.weak (S' := ((List.range 24).map r)) (fun x hx => by obtain ⟨j, hj, rfl⟩ := List.mem_map.mp hx; exact mr _ (by have := List.mem_range.mp hj; omega))
  have D4 := D3.keep f4 off
  obtain ⟨z0d, -, -, -, -, ZHd, -⟩ := id D4
  have v0d := e4.keep v0c (notin_map (fun j hj => s.ne 0 (10 + j) (by decide) (by omega) (by omega)))
  have X1d := X1c.keep e4 (notin_map (fun j hj => s.ne 1 (10 + j) (by decide) (by omega) (by omega))) (notin_map (fun j hj => s.ne 2 (10 + j) (by decide) (by omega) (by omega))) (notin_map (fun j hj => s.ne 3 (10 + j) (by decide) (by omega) (by omega)))
  have X2d := X2c.keep e4 (notin_map (fun j hj => s.ne 4 (10 + j) (by decide) (by omega) (by omega))) (notin_map (fun j hj => s.ne 5 (10 + j) (by decide) (by omega) (by omega))) (notin_map (fun j hj => s.ne 6 (10 + j) (by decide) (by omega) (by omega)))
  have X3d := X3.keep e4 (notin_map (fun j hj => s.ne 7 (10 + j) (by decide) (by omega) (by omega))) (notin_map (fun j hj => s.ne 8 (10 + j) (by decide) (by omega) (by omega))) (notin_map (fun j hj => s.ne 9 (10 + j) (by decide) (by omega) (by omega)))
  have HHd := HHc.keep e4 (fun k hk => notin_map (fun j hj => s.ne (18 + k) (10 + j) (by omega) (by omega) (by omega)))
  show gG _ _ _ _ _ _ _ _ _ _
  refine g_aloadn M_6_copyFrom d_6_copyFrom_44 (by first | rfl | assumption) ?_
  refine g_get M_6_copyFrom d_6_copyFrom_45 fl_6_36 (by assumption) (by rfl) ?_
  refine g_aloadn M_6_copyFrom d_6_copyFrom_48 (by first | rfl | assumption) ?_
  refine g_get M_6_copyFrom d_6_copyFrom_49 fl_6_36 (by assumption) (by rfl) ?_
  refine gc_V M_6_copyFrom 0 0 [.ref (r0 18)] [] d_6_copyFrom_52 cv_6_106 HHd.1 (by rfl) (by rfl) (Nat.le_of_ble_eq_true (by rfl)) (Nat.le_of_ble_eq_true (by rfl)) (by decide) (by decide) (by decide) (by decide) (C_2_copyFrom (r := fun k => r (18 + k)) (r0 := fun k => r0 (18 + k)) (fun i j hi hj e => by have := s _ _ (by omega) (by omega) e; omega) (fun i j hi hj => o _ _ (by omega) (by omega)) ZHd HHd (fun h5 e5 XH => ?_))
  have f5 := e5.weak (S' := ((List.range 24).map r)) (fun x hx => by obtain ⟨j, hj, rfl⟩ := List.mem_map.mp hx; exact mr _ (by have := List.mem_range.mp hj; omega))
  have D5 := D4.keep f5 off
  obtain ⟨z0e, -⟩ := id D5
  have v0e := e5.keep v0d (notin_map (fun j hj => s.ne 0 (18 + j) (by decide) (by omega) (by omega)))
  have X1e := X1d.keep e5 (notin_map (fun j hj => s.ne 1 (18 + j) (by decide) (by omega) (by omega))) (notin_map (fun j hj => s.ne 2 (18 + j) (by decide) (by omega) (by omega))) (notin_map (fun j hj => s.ne 3 (18 + j) (by decide) (by omega) (by omega)))
  have X2e := X2d.keep e5 (notin_map (fun j hj => s.ne 4 (18 + j) (by decide) (by omega) (by omega))) (notin_map (fun j hj => s.ne 5 (18 + j) (by decide) (by omega) (by omega))) (notin_map (fun j hj => s.ne 6 (18 + j) (by decide) (by omega) (by omega)))
  have X3e := X3d.keep e5 (notin_map (fun j hj => s.ne 7 (18 + j) (by decide) (by omega) (by omega))) (notin_map (fun j hj => s.ne 8 (18 + j) (by decide) (by omega) (by omega))) (notin_map (fun j hj => s.ne 9 (18 + j) (by decide) (by omega) (by omega)))
  have XDe := XD.keep e5 (fun k hk => notin_map (fun j hj => s.ne (10 + k) (18 + j) (by omega) (by omega) (by omega)))
  show gG _ _ _ _ _ _ _ _ _ _
  refine g_aloadn M_6_copyFrom d_6_copyFrom_55 (by first | rfl | assumption) ?_
  refine g_aloadn M_6_copyFrom d_6_copyFrom_56 (by first | rfl | assumption) ?_
  refine g_get M_6_copyFrom d_6_copyFrom_57 fl_6_109 (by assumption) (by rfl) ?_
  refine e_put M_6_copyFrom d_6_copyFrom_60 pt_6_109 v0e (by rfl) (by rfl) (fun h6 v6 e6 => ?_)
  have z0f := e6.keep z0e (fun q => by simp only [List.mem_cons, List.not_mem_nil, or_false] at q; rcases q with q <;> first | exact absurd q (s.ne _ _ (by decide) (by decide) (by decide)) | exact absurd q (o _ _ (by decide) (by decide)))
  refine g_aloadn M_6_copyFrom d_6_copyFrom_63 (by first | rfl | assumption) ?_
  refine g_aloadn M_6_copyFrom d_6_copyFrom_64 (by first | rfl | assumption) ?_
  refine g_get M_6_copyFrom d_6_copyFrom_65 fl_6_112 (by assumption) (by rfl) ?_
  refine e_put M_6_copyFrom d_6_copyFrom_68 pt_6_112 v6 (by rfl) (by rfl) (fun h7 v7 e7 => ?_)
  have t5 := ((t3.trans f4 (fun x hx => Or.inl hx)).trans f5 (fun x hx => Or.inl hx)).trans ((e6.weak (S' := [r 0]) (fun x hx => hx)).trans e7 (fun x hx => Or.inl hx)) (fun x hx => Or.inl (by rw [List.mem_singleton.mp hx]; exact mr 0 (by decide)))
  have e67 := (e6.weak (S' := [r 0]) (fun x hx => hx)).trans e7 (fun x hx => Or.inl hx)
  refine g_vret M_6_copyFrom d_6_copyFrom_71 rfl (k h7 (by simpa using t5) ⟨v7, X1e.keep e67 (fun q => by simp only [List.mem_cons, List.not_mem_nil, or_false] at q; rcases q with q <;> first | exact absurd q (s.ne _ _ (by decide) (by decide) (by decide)) | exact absurd q (o _ _ (by decide) (by decide))) (fun q => by simp only [List.mem_cons, List.not_mem_nil, or_false] at q; rcases q with q <;> first | exact absurd q (s.ne _ _ (by decide) (by decide) (by decide)) | exact absurd q (o _ _ (by decide) (by decide))) (fun q => by simp only [List.mem_cons, List.not_mem_nil, or_false] at q; rcases q with q <;> first | exact absurd q (s.ne _ _ (by decide) (by decide) (by decide)) | exact absurd q (o _ _ (by decide) (by decide))), X2e.keep e67 (fun q => by simp only [List.mem_cons, List.not_mem_nil, or_false] at q; rcases q with q <;> first | exact absurd q (s.ne _ _ (by decide) (by decide) (by decide)) | exact absurd q (o _ _ (by decide) (by decide))) (fun q => by simp only [List.mem_cons, List.not_mem_nil, or_false] at q; rcases q with q <;> first | exact absurd q (s.ne _ _ (by decide) (by decide) (by decide)) | exact absurd q (o _ _ (by decide) (by decide))) (fun q => by simp only [List.mem_cons, List.not_mem_nil, or_false] at q; rcases q with q <;> first | exact absurd q (s.ne _ _ (by decide) (by decide) (by decide)) | exact absurd q (o _ _ (by decide) (by decide))), X3e.keep e67 (fun q => by simp only [List.mem_cons, List.not_mem_nil, or_false] at q; rcases q with q <;> first | exact absurd q (s.ne _ _ (by decide) (by decide) (by decide)) | exact absurd q (o _ _ (by decide) (by decide))) (fun q => by simp only [List.mem_cons, List.not_mem_nil, or_false] at q; rcases q with q <;> first | exact absurd q (s.ne _ _ (by decide) (by decide) (by decide)) | exact absurd q (o _ _ (by decide) (by decide))) (fun q => by simp only [List.mem_cons, List.not_mem_nil, or_false] at q; rcases q with q <;> first | exact absurd q (s.ne _ _ (by decide) (by decide) (by decide)) | exact absurd q (o _ _ (by decide) (by decide))), XDe.keep e67 (fun k hk => by intro q; exact absurd (List.mem_singleton.mp q) (s.ne _ _ (by omega) (by decide) (by omega))), XH.keep e67 (fun k hk => by intro q; exact absurd (List.mem_singleton.mp q) (s.ne _ _ (by omega) (by decide) (by omega))), zl⟩)
