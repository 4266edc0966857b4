set_option maxHeartbeats 4000000 in
set_option maxRecDepth 100000 in
theorem C_8_init {a rows width : Nat} {h : Hp_} {Q : Ot_ → Hp_ → Prop} (hr : rows ≤ 30) (hw : width ≤ 16) (h0 : h a = some (.inr (8, [.int 0, .null, .null, .int 0]))) (k : ∀ la na h', gExt h h' [a] [la, na] → wsA h' a la na rows width w30 → Q (.inl none) h') : gG 1 60 2 (rows * width + rows) M_8_init 0 (lv_args 0 [.ref a, .int (nI rows), .int (nI width)]) [] h Q := by
  have b1 : rows * width ≤ 480 := Nat.le_trans (Nat.mul_le_mul hr hw) (by decide)
  have mx : ∀ n : Nat, n < 2 ^ 31 → (if nI 0 < nI n then nI n else nI 0) = nI n := by
    intro n hn
    by_cases z : n = 0
    · subst z; rfl
    · rw [if_pos (nI_lt (by omega) hn)]
  refine g_aloadn M_8_init d_8_init_0 (by rfl) ?_
  refine g_objInit M_8_init d_8_init_1 oi_8_3 oi_i oi_c (Nat.le_of_ble_eq_true (by rfl)) (Nat.le_of_ble_eq_true (by rfl)) ?_
  refine g_aloadn M_8_init d_8_init_4 (by rfl) ?_
  refine g_iconst M_8_init (v := nI 0) d_8_init_5 (by decide) ?_
  refine g_iloadn M_8_init d_8_init_6 (by rfl) ?_
  refine g_max M_8_init d_8_init_7 mm_8_9 mm_max_s mm_i mm_max_c (Nat.le_of_ble_eq_true (by rfl)) (Nat.le_of_ble_eq_true (by rfl)) ?_
  rw [mx width (by omega)]
  refine e_putF M_8_init d_8_init_10 pf_8_15 rfl h0 rfl rfl (fun h1 v1 e1 => ?_)
  refine g_aloadn M_8_init d_8_init_13 (by rfl) ?_
  refine g_iconst M_8_init (v := nI 0) d_8_init_14 (by decide) ?_
  refine g_iloadn M_8_init d_8_init_15 (by rfl) ?_
  refine g_iloadn M_8_init d_8_init_16 (by rfl) ?_
  refine g_imul M_8_init d_8_init_17 ?_
  rw [pk_mul]
  refine g_max M_8_init d_8_init_18 mm_8_9 mm_max_s mm_i mm_max_c (Nat.le_of_ble_eq_true (by rfl)) (Nat.le_of_ble_eq_true (by rfl)) ?_
  rw [mx (rows * width) (by omega)]
  refine e_newC M_8_init (kc' := 1) (ks' := rows) (N := rows * width) d_8_init_21 (nI_pos (by omega)) (nI_cl (by omega)) (by omega) (by omega) (by omega) (fun la h2 g2 e2 => ?_)
  have v2 := e2.keep v1 (by simp)
  refine e_putF M_8_init d_8_init_23 pf_8_21 rfl v2 rfl rfl (fun h3 v3 e3 => ?_)
  have g3 := e3.keep g2 (by simpa using (e2.new_ne v1 (List.mem_singleton.mpr rfl)))
  refine g_aloadn M_8_init d_8_init_26 (by rfl) ?_
  refine g_iconst M_8_init (v := nI 0) d_8_init_27 (by decide) ?_
  refine g_iloadn M_8_init d_8_init_28 (by rfl) ?_
  refine g_max M_8_init d_8_init_29 mm_8_9 mm_max_s mm_i mm_max_c (Nat.le_of_ble_eq_true (by rfl)) (Nat.le_of_ble_eq_true (by rfl)) ?_
  rw [mx rows (by omega)]
  refine e_newI M_8_init (kc' := 0) (ks' := 0) (N := rows) d_8_init_32 (nI_pos (by omega)) (nI_cl (by omega)) (by omega) (by omega) (by omega) (fun na h4 n4 e4 => ?_)
  have v4 := e4.keep v3 (by simp)
  have g4 := e4.keep g3 (by simp)
  refine e_putF M_8_init d_8_init_34 pf_8_25 rfl v4 rfl rfl (fun h5 v5 e5 => ?_)
  have g5 := e5.keep g4 (by simpa using (e2.new_ne v1 (List.mem_singleton.mpr rfl)))
  have n5 := e5.keep n4 (by simpa using (e4.new_ne v3 (List.mem_singleton.mpr rfl)))
  refine g_vret M_8_init d_8_init_37 rfl (k la na _ ?_ ⟨v5, arA.at g5, arA.at n5⟩)
  have t1 := (e1.trans e2 (by simp)).trans e3 (by simp)
  exact (t1.trans e4 (by simp)).trans e5 (by simp)
set_option maxHeartbeats 4000000 in
set_option maxRecDepth 100000 in
theorem C_7_init {a : Nat} {h : Hp_} {Q : Ot_ → Hp_ → Prop} (h0 : h a = some (.inr (7, [.null, .int 0]))) (k : ∀ la h', gExt h h' [a] [la] → wdA h' a la (fun _ => 0) 0 → Q (.inl none) h') : gG 1 60 1 16 M_7_init 0 (lv_args 0 [.ref a]) [] h Q := by
  refine g_aloadn M_7_init d_7_init_0 (by rfl) ?_
  refine g_objInit M_7_init d_7_init_1 oi_7_3 oi_i oi_c (Nat.le_of_ble_eq_true (by rfl)) (Nat.le_of_ble_eq_true (by rfl)) ?_
  refine g_aloadn M_7_init d_7_init_4 (by rfl) ?_
  refine g_bipush M_7_init (v := nI 16) d_7_init_5 (by decide) ?_
  refine e_newC M_7_init (kc' := 0) (ks' := 0) (N := 16) d_7_init_7 (by decide) (by decide) (by decide) (by decide) (by decide) (fun la h2 g2 e2 => ?_)
  refine e_putF M_7_init d_7_init_9 pf_7_9 rfl (e2.keep h0 (by simp)) rfl rfl (fun h3 v3 e3 => ?_)
  exact g_vret M_7_init d_7_init_12 rfl (k la _ ((e2.weak (S' := [a]) (by simp)).trans e3 (by simp)) ⟨v3, arA.at (e3.keep g2 (e2.mem_ne h0 (List.mem_singleton.mpr rfl)))⟩)
set_option maxHeartbeats 4000000 in
set_option maxRecDepth 100000 in
theorem C_1_init {a : Nat} {h : Hp_} {Q : Ot_ → Hp_ → Prop} (k : Q (.inl none) h) : gG 1 60 0 0 M_1_init 0 (lv_args 0 [.ref a]) [] h Q := by
  refine g_aloadn M_1_init d_1_init_0 (by rfl) ?_
  refine g_objInit M_1_init d_1_init_1 oi_1_3 oi_i oi_c (Nat.le_of_ble_eq_true (by rfl)) (Nat.le_of_ble_eq_true (by rfl)) ?_
  exact g_vret M_1_init d_1_init_4 rfl k
