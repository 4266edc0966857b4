set_option maxHeartbeats 4000000 in
set_option maxRecDepth 100000 in
theorem C_8_init {a rows width : Nat} {h : Hp_} {Q : Ot_ → Hp_ → Prop} (hr : rows ≤ 30) (hw : width ≤ 16) (h0 : h a = some (.inr (8, [.int 0, .null, .null, .int 0]))) (k : ∀ la na h', gExt h h' [a] [la, na] → wsA h' a la na rows width w30 → Q (.inl none) h') : gG 1 60 2 (rows * width + rows) M_8_init 0 (lv_args 0 [.ref a, .int (nI rows), .int (nI width)]) [] h Q := by
  have b1 : rows * width ≤ 480 := Nat.le_trans (Nat.mul_le_mul hr hw) (by decide)
  have mx : ∀ n : Nat, n < 2 ^ 31 → (if nI 0 < nI n then nI n else nI 0) = nI n := by
    intro n hn
    by_cases z : n = 0
    · subst z; rfl
    · rw [if_pos (nI_lt (by omega) hn)]
  refine g_aloadn d_8_init_0 rfl ?_
  refine g_objInit d_8_init_1 oi_8_3 oi_i oi_c (Nat.le_of_ble_eq_true rfl) (Nat.le_of_ble_eq_true rfl) ?_
  refine g_aloadn d_8_init_4 rfl ?_
  refine g_iconst (v := nI 0) d_8_init_5 (by decide) ?_
  refine g_iloadn d_8_init_6 rfl ?_
  refine g_max d_8_init_7 mm_8_9 mm_max_s mm_i mm_max_c (Nat.le_of_ble_eq_true rfl) (Nat.le_of_ble_eq_true rfl) ?_
  rw [mx width (by omega)]
  refine g_putF d_8_init_10 pf_8_15 rfl h0 rfl rfl ?_
  have e1 := gExt.put (e := .inr (8, [.int (nI width), .null, .null, .int 0])) h0
  have h1 : gu h a (.inr (8, [.int (nI width), .null, .null, .int 0])) a = some (.inr (8, [.int (nI width), .null, .null, .int 0])) := gu_same
  show gG _ _ _ _ _ _ _ _ (gu h a (.inr (8, [.int (nI width), .null, .null, .int 0]))) _
  generalize gu h a (.inr (8, [.int (nI width), .null, .null, .int 0])) = h9 at h1 e1 ⊢
  refine g_aloadn d_8_init_13 rfl ?_
  refine g_iconst (v := nI 0) d_8_init_14 (by decide) ?_
  refine g_iloadn d_8_init_15 rfl ?_
  refine g_iloadn d_8_init_16 rfl ?_
  refine g_imul d_8_init_17 ?_
  rw [pk_mul]
  refine g_max d_8_init_18 mm_8_9 mm_max_s mm_i mm_max_c (Nat.le_of_ble_eq_true rfl) (Nat.le_of_ble_eq_true rfl) ?_
  rw [mx (rows * width) (by omega)]
  refine g_newarray (kc' := 1) (ks' := rows) (N := rows * width) d_8_init_21 rfl ak_char (Or.inr (Or.inl rfl)) (nI_pos (by omega)) (nI_cl (by omega)) (by omega) (by omega) (by omega) (fun la hla => ?_)
  have e2 := gExt.new (e := .inl (false, .char, gZ .char (rows * width))) hla
  have h2 := e2.keep h1 (by simp)
  have g2 : gu h9 la (.inl (false, .char, gZ .char (rows * width))) la = _ := gu_same
  generalize gu h9 la (.inl (false, .char, gZ .char (rows * width))) = h8 at h2 e2 g2 ⊢
  refine g_putF d_8_init_23 pf_8_21 rfl h2 rfl rfl ?_
  have e3 := gExt.put (e := .inr (8, [.int (nI width), .ref la, .null, .int 0])) h2
  have h3 : gu h8 a (.inr (8, [.int (nI width), .ref la, .null, .int 0])) a = _ := gu_same
  have g3 := e3.keep g2 (by simpa using (gExt.fresh e2 h1 (List.mem_singleton.mpr rfl)).symm)
  show gG _ _ _ _ _ _ _ _ (gu h8 a (.inr (8, [.int (nI width), .ref la, .null, .int 0]))) _
  generalize gu h8 a (.inr (8, [.int (nI width), .ref la, .null, .int 0])) = h7 at h3 e3 g3 ⊢
  refine g_aloadn d_8_init_26 rfl ?_
  refine g_iconst (v := nI 0) d_8_init_27 (by decide) ?_
  refine g_iloadn d_8_init_28 rfl ?_
  refine g_max d_8_init_29 mm_8_9 mm_max_s mm_i mm_max_c (Nat.le_of_ble_eq_true rfl) (Nat.le_of_ble_eq_true rfl) ?_
  rw [mx rows (by omega)]
  refine g_newarray (kc' := 0) (ks' := 0) (N := rows) d_8_init_32 rfl ak_int (Or.inl rfl) (nI_pos (by omega)) (nI_cl (by omega)) (by omega) (by omega) (by omega) (fun na hna => ?_)
  have e4 := gExt.new (e := .inl (false, .int, gZ .int rows)) hna
  have h4 := e4.keep h3 (by simp)
  have g4 := e4.keep g3 (by simp)
  have n4 : gu h7 na (.inl (false, .int, gZ .int rows)) na = _ := gu_same
  generalize gu h7 na (.inl (false, .int, gZ .int rows)) = h6 at h4 e4 g4 n4 ⊢
  refine g_putF d_8_init_34 pf_8_25 rfl h4 rfl rfl ?_
  have e5 := gExt.put (e := .inr (8, [.int (nI width), .ref la, .ref na, .int 0])) h4
  have h5 : gu h6 a (.inr (8, [.int (nI width), .ref la, .ref na, .int 0])) a = _ := gu_same
  have g5 := e5.keep g4 (by simpa using (gExt.fresh e2 h1 (List.mem_singleton.mpr rfl)).symm)
  have n5 := e5.keep n4 (by simpa using (gExt.fresh e4 h3 (List.mem_singleton.mpr rfl)).symm)
  show gG _ _ _ _ _ _ _ _ (gu h6 a (.inr (8, [.int (nI width), .ref la, .ref na, .int 0]))) _
  generalize gu h6 a (.inr (8, [.int (nI width), .ref la, .ref na, .int 0])) = h5' at h5 e5 g5 n5 ⊢
  refine g_vret d_8_init_37 rfl (k la na _ ?_ ⟨h5, arA.at g5, arA.at n5⟩)
  have t1 := (e1.trans e2 (by simp)).trans e3 (by simp)
  exact (t1.trans e4 (by simp)).trans e5 (by simp)
