set_option maxHeartbeats 4000000 in
set_option maxRecDepth 100000 in
theorem C_8_init {a rows width : Nat} {h : Hp_} {Q : Ot_ → Hp_ → Prop} (hr : rows ≤ 30) (hw : width ≤ 16) (h0 : h a = some (.inr (8, [.int 0, .null, .null, .int 0]))) (k : ∀ la na h', gExt h h' [a] [la, na] → wsA h' a la na rows width w30 → Q (.inl none) h') : gG 1 60 2 (rows * width + rows) M_8_init 0 (lv_args 0 [.ref a, .int (nI rows), .int (nI width)]) [] h Q := by
  have b1 : rows * width ≤ 480 := Nat.le_trans (Nat.mul_le_mul hr hw) (by decide)
  have mx : ∀ n : Nat, n < 2 ^ 31 → (if nI 0 < nI n then nI n else nI 0) = nI n := by
    intro n hn
    by_cases z : n = 0
    · subst z; rfl
    · rw [if_pos (nI_lt (by omega) hn)]
  refine g_aloadn M_8_init d_8_init_0 (by rfl) ?_
  refine g_objInit M_8_init d_8_init_1 oi_8_3 oi_i oi_c (Nat.le_of_ble_eq_true (by rfl)) (Nat.le_of_ble_eq_true (by rfl)) ?_
  refine g_aloadn M_8_init d_8_init_4 (by rfl) ?_
  refine g_iconst M_8_init (v := nI 0) d_8_init_5 (by decide) ?_
  refine g_iloadn M_8_init d_8_init_6 (by rfl) ?_
  refine g_max M_8_init d_8_init_7 mm_8_9 mm_max_s mm_i mm_max_c (Nat.le_of_ble_eq_true (by rfl)) (Nat.le_of_ble_eq_true (by rfl)) ?_
  rw [mx width (by omega)]
  refine e_putF M_8_init d_8_init_10 pf_8_15 rfl h0 rfl rfl (fun h1 v1 e1 => ?_)
  refine g_aloadn M_8_init d_8_init_13 (by rfl) ?_
  refine g_iconst M_8_init (v := nI 0) d_8_init_14 (by decide) ?_
  refine g_iloadn M_8_init d_8_init_15 (by rfl) ?_
  refine g_iloadn M_8_init d_8_init_16 (by rfl) ?_
  refine g_imul M_8_init d_8_init_17 ?_
  rw [pk_mul]
  refine g_max M_8_init d_8_init_18 mm_8_9 mm_max_s mm_i mm_max_c (Nat.le_of_ble_eq_true (by rfl)) (Nat.le_of_ble_eq_true (by rfl)) ?_
  rw [mx (rows * width) (by omega)]
  refine e_newC M_8_init (kc' := 1) (ks' := rows) (N := rows * width) d_8_init_21 (nI_pos (by omega)) (nI_cl (by omega)) (by omega) (by omega) (by omega) (fun la h2 g2 e2 => ?_)
  have v2 := e2.keep v1 (by simp)
  refine e_putF M_8_init d_8_init_23 pf_8_21 rfl v2 rfl rfl (fun h3 v3 e3 => ?_)
  have g3 := e3.keep g2 (by simpa using (e2.new_ne v1 (List.mem_singleton.mpr rfl)))
  refine g_aloadn M_8_init d_8_init_26 (by rfl) ?_
  refine g_iconst M_8_init (v := nI 0) d_8_init_27 (by decide) ?_
  refine g_iloadn M_8_init d_8_init_28 (by rfl) ?_
  refine g_max M_8_init d_8_init_29 mm_8_9 mm_max_s mm_i mm_max_c (Nat.le_of_ble_eq_true (by rfl)) (Nat.le_of_ble_eq_true (by rfl)) ?_
  rw [mx rows (by omega)]
  refine e_newI M_8_init (kc' := 0) (ks' := 0) (N := rows) d_8_init_32 (nI_pos (by omega)) (nI_cl (by omega)) (by omega) (by omega) (by omega) (fun na h4 n4 e4 => ?_)
  have v4 := e4.keep v3 (by simp)
  have g4 := e4.keep g3 (by simp)
  refine e_putF M_8_init d_8_init_34 pf_8_25 rfl v4 rfl rfl (fun h5 v5 e5 => ?_)
  have g5 := e5.keep g4 (by simpa using (e2.new_ne v1 (List.mem_singleton.mpr rfl)))
  have n5 := e5.keep n4 (by simpa using (e4.new_ne v3 (List.mem_singleton.mpr rfl)))
  refine g_vret M_8_init d_8_init_37 rfl (k la na _ ?_ ⟨v5, arA.at g5, arA.at n5⟩)
  have t1 := (e1.trans e2 (by simp)).trans e3 (by simp)
  exact (t1.trans e4 (by simp)).trans e5 (by simp)
set_option maxHeartbeats 4000000 in
set_option maxRecDepth 100000 in
theorem C_7_init {a : Nat} {h : Hp_} {Q : Ot_ → Hp_ → Prop} (h0 : h a = some (.inr (7, [.null, .int 0]))) (k : ∀ la h', gExt h h' [a] [la] → wdA h' a la (fun _ => 0) 0 → Q (.inl none) h') : gG 1 60 1 16 M_7_init 0 (lv_args 0 [.ref a]) [] h Q := by
  refine g_aloadn M_7_init d_7_init_0 (by rfl) ?_
  refine g_objInit M_7_init d_7_init_1 oi_7_3 oi_i oi_c (Nat.le_of_ble_eq_true (by rfl)) (Nat.le_of_ble_eq_true (by rfl)) ?_
  refine g_aloadn M_7_init d_7_init_4 (by rfl) ?_
  refine g_bipush M_7_init (v := nI 16) d_7_init_5 (by decide) ?_
  refine e_newC M_7_init (kc' := 0) (ks' := 0) (N := 16) d_7_init_7 (by decide) (by decide) (by decide) (by decide) (by decide) (fun la h2 g2 e2 => ?_)
  refine e_putF M_7_init d_7_init_9 pf_7_9 rfl (e2.keep h0 (by simp)) rfl rfl (fun h3 v3 e3 => ?_)
  exact g_vret M_7_init d_7_init_12 rfl (k la _ ((e2.weak (S' := [a]) (by simp)).trans e3 (by simp)) ⟨v3, arA.at (e3.keep g2 (e2.mem_ne h0 (List.mem_singleton.mpr rfl)))⟩)
set_option maxHeartbeats 4000000 in
set_option maxRecDepth 100000 in
theorem C_1_init {a : Nat} {h : Hp_} {Q : Ot_ → Hp_ → Prop} (k : Q (.inl none) h) : gG 1 60 0 0 M_1_init 0 (lv_args 0 [.ref a]) [] h Q := by
  refine g_aloadn M_1_init d_1_init_0 (by rfl) ?_
  refine g_objInit M_1_init d_1_init_1 oi_1_3 oi_i oi_c (Nat.le_of_ble_eq_true (by rfl)) (Nat.le_of_ble_eq_true (by rfl)) ?_
  exact g_vret M_1_init d_1_init_4 rfl k
set_option maxHeartbeats 4000000 in
set_option maxRecDepth 100000 in
theorem C_0_init {a : Nat} {h : Hp_} {Q : Ot_ → Hp_ → Prop} (h0 : h a = some (.inr (0, [.null, .null, .null]))) (k : ∀ e le ne d ld nd c h', gExt h h' [a] [e, le, ne, d, ld, nd, c] → diA h' a e le ne d ld nd c di0 → Q (.inl none) h') : gG 2 100 7 140 M_0_init 0 (lv_args 0 [.ref a]) [] h Q := by
  refine g_aloadn M_0_init d_0_init_0 (by rfl) ?_
  refine g_objInit M_0_init d_0_init_1 oi_0_3 oi_i oi_c (Nat.le_of_ble_eq_true (by rfl)) (Nat.le_of_ble_eq_true (by rfl)) ?_
  refine g_aloadn M_0_init d_0_init_4 (by rfl) ?_
  refine e_new M_0_init (kc' := 6) (ks' := 136) (N := 4) d_0_init_5 nw_0_9 rfl (by decide) (by decide) (fun e h1 u1 e1 => ?_)
  have v1 := e1.keep h0 (by simp)
  refine g_dup M_0_init d_0_init_8 (by rfl) ?_
  refine g_bipush M_0_init (v := nI 12) d_0_init_9 (by decide) ?_
  refine g_iconst M_0_init (v := nI 4) d_0_init_11 (by decide) ?_
  refine gc_I M_0_init 4 76 [.int (nI 12), .int (nI 4)] [.ref e, .ref a] d_0_init_12 ci_0_11 (by rfl) (by rfl) (Nat.le_of_ble_eq_true (by rfl)) (Nat.le_of_ble_eq_true (by rfl)) (by decide) (by decide) (by decide) (by decide) (C_8_init (by decide) (by decide) u1 (fun le ne h2 e2 w2 => ?_))
  have v2 := e2.keep v1 (by simpa using e1.fresh h0 (List.mem_singleton.mpr rfl))
  refine e_putF M_0_init d_0_init_15 pf_0_14 rfl v2 (by rfl) (by rfl) (fun h3 v3 e3 => ?_)
  refine g_aloadn M_0_init d_0_init_18 (by rfl) ?_
  refine e_new M_0_init (kc' := 3) (ks' := 72) (N := 4) d_0_init_19 nw_0_9 rfl (by decide) (by decide) (fun d h4 u4 e4 => ?_)
  have v4 := e4.keep v3 (by simp)
  refine g_dup M_0_init d_0_init_22 (by rfl) ?_
  refine g_bipush M_0_init (v := nI 12) d_0_init_23 (by decide) ?_
  refine g_iconst M_0_init (v := nI 4) d_0_init_25 (by decide) ?_
  refine gc_I M_0_init 1 12 [.int (nI 12), .int (nI 4)] [.ref d, .ref a] d_0_init_26 ci_0_11 (by rfl) (by rfl) (Nat.le_of_ble_eq_true (by rfl)) (Nat.le_of_ble_eq_true (by rfl)) (by decide) (by decide) (by decide) (by decide) (C_8_init (by decide) (by decide) u4 (fun ld nd h5 e5 w5 => ?_))
  have v5 := e5.keep v4 (by simpa using e4.fresh v3 (List.mem_singleton.mpr rfl))
  refine e_putF M_0_init d_0_init_29 pf_0_20 rfl v5 (by rfl) (by rfl) (fun h6 v6 e6 => ?_)
  refine g_aloadn M_0_init d_0_init_32 (by rfl) ?_
  refine g_bipush M_0_init (v := nI 12) d_0_init_33 (by decide) ?_
  refine e_newI M_0_init (kc' := 0) (ks' := 0) (N := 12) d_0_init_35 (by decide) (by decide) (by decide) (by decide) (by decide) (fun c h7 w7 e7 => ?_)
  have v7 := e7.keep v6 (by simp)
  refine e_putF M_0_init d_0_init_37 pf_0_23 rfl v7 (by rfl) (by rfl) (fun h8 v8 e8 => ?_)
  have t1 := (e1.weak (S' := [a]) (by simp)).trans e2 (by simp)
  have t2 := t1.trans e3 (by simp)
  have t3 := (t2.trans e4 (by simp)).trans e5 (by simp)
  have t4 := ((t3.trans e6 (by simp)).trans e7 (by simp)).trans e8 (by simp)
  have ne : ∀ x ∈ [e, le, ne, d, ld, nd, c], x ∉ [a] := fun x hx => t4.mem_ne h0 (by simpa using hx)
  have r7 := (e7.weak (S' := [a]) (by simp)).trans e8 (by simp)
  have r5 := e6.trans r7 (by simp)
  have r3 := ((e4.weak (S' := [a]) (by simp)).trans e5 (by simp)).trans r5 (by simp)
  have r2 := e3.trans r3 (by simp)
  exact g_vret M_0_init d_0_init_40 rfl (k e le _ d ld nd c _ t4 ⟨v8, w2.keep r2 (ne _ (by simp)) (ne _ (by simp)) (ne _ (by simp)), w5.keep r5 (ne _ (by simp)) (ne _ (by simp)) (ne _ (by simp)), arA.at (e8.keep w7 (ne _ (by simp)))⟩)
set_option maxHeartbeats 4000000 in
set_option maxRecDepth 100000 in
theorem C_2_init {a : Nat} {h : Hp_} {Q : Ot_ → Hp_ → Prop} (h0 : h a = some (.inr (2, [.null, .null, .null]))) (k : ∀ m lm nm o c h', gExt h h' [a] [m, lm, nm, o, c] → heA h' a m lm nm o c he0 → Q (.inl none) h') : gG 2 100 5 574 M_2_init 0 (lv_args 0 [.ref a]) [] h Q := by
  refine g_aloadn M_2_init d_2_init_0 (by rfl) ?_
  refine g_objInit M_2_init d_2_init_1 oi_2_3 oi_i oi_c (Nat.le_of_ble_eq_true (by rfl)) (Nat.le_of_ble_eq_true (by rfl)) ?_
  refine g_aloadn M_2_init d_2_init_4 (by rfl) ?_
  refine e_new M_2_init (kc' := 4) (ks' := 570) (N := 4) d_2_init_5 nw_2_9 rfl (by decide) (by decide) (fun m h1 u1 e1 => ?_)
  have v1 := e1.keep h0 (by simp)
  refine g_dup M_2_init d_2_init_8 (by rfl) ?_
  refine g_bipush M_2_init (v := nI 30) d_2_init_9 (by decide) ?_
  refine g_bipush M_2_init (v := nI 16) d_2_init_11 (by decide) ?_
  refine gc_I M_2_init 2 60 [.int (nI 30), .int (nI 16)] [.ref m, .ref a] d_2_init_13 ci_2_11 (by rfl) (by rfl) (Nat.le_of_ble_eq_true (by rfl)) (Nat.le_of_ble_eq_true (by rfl)) (by decide) (by decide) (by decide) (by decide) (C_8_init (by decide) (by decide) u1 (fun lm nm h2 e2 w2 => ?_))
  have v2 := e2.keep v1 (by simpa using e1.fresh h0 (List.mem_singleton.mpr rfl))
  refine e_putF M_2_init d_2_init_16 pf_2_14 rfl v2 (by rfl) (by rfl) (fun h3 v3 e3 => ?_)
  refine g_aloadn M_2_init d_2_init_19 (by rfl) ?_
  refine g_bipush M_2_init (v := nI 30) d_2_init_20 (by decide) ?_
  refine e_newI M_2_init (kc' := 1) (ks' := 30) (N := 30) d_2_init_22 (by decide) (by decide) (by decide) (by decide) (by decide) (fun o h4 w4 e4 => ?_)
  have v4 := e4.keep v3 (by simp)
  refine e_putF M_2_init d_2_init_24 pf_2_20 rfl v4 (by rfl) (by rfl) (fun h5 v5 e5 => ?_)
  refine g_aloadn M_2_init d_2_init_27 (by rfl) ?_
  refine g_bipush M_2_init (v := nI 30) d_2_init_28 (by decide) ?_
  refine e_newI M_2_init (kc' := 0) (ks' := 0) (N := 30) d_2_init_30 (by decide) (by decide) (by decide) (by decide) (by decide) (fun c h6 w6 e6 => ?_)
  have v6 := e6.keep v5 (by simp)
  refine e_putF M_2_init d_2_init_32 pf_2_24 rfl v6 (by rfl) (by rfl) (fun h7 v7 e7 => ?_)
  have t1 := (e1.weak (S' := [a]) (by simp)).trans e2 (by simp)
  have t2 := t1.trans e3 (by simp)
  have t3 := (t2.trans e4 (by simp)).trans e5 (by simp)
  have t4 := (t3.trans e6 (by simp)).trans e7 (by simp)
  have ne : ∀ x ∈ [m, lm, nm, o, c], x ∉ [a] := fun x hx => t4.mem_ne h0 (by simpa using hx)
  have r5 := (e6.weak (S' := [a]) (by simp)).trans e7 (by simp)
  have r4 := e5.trans r5 (by simp)
  have r2 := e3.trans ((e4.weak (S' := [a]) (by simp)).trans r4 (by simp)) (by simp)
  exact g_vret M_2_init d_2_init_35 rfl (k m lm nm o c _ t4 ⟨v7, w2.keep r2 (ne _ (by simp)) (ne _ (by simp)) (ne _ (by simp)), arA.at (r4.keep w4 (ne _ (by simp))), arA.at (e7.keep w6 (ne _ (by simp)))⟩)
set_option maxHeartbeats 4000000 in
set_option maxRecDepth 100000 in
theorem C_6_init {a : Nat} {h : Hp_} {Q : Ot_ → Hp_ → Prop} (h0 : h a = some (.inr (6, [.null, .null, .null, .null, .null, .int 0, .int 0]))) (k : ∀ A h', A.length = 23 → gExt h h' [a] A → stA h' (fun k => (a :: A).getD k 0) st0 → Q (.inl none) h') : gG 3 140 23 1252 M_6_init 0 (lv_args 0 [.ref a]) [] h Q := by
  refine g_aloadn M_6_init d_6_init_0 (by rfl) ?_
  refine g_objInit M_6_init d_6_init_1 oi_6_3 oi_i oi_c (Nat.le_of_ble_eq_true (by rfl)) (Nat.le_of_ble_eq_true (by rfl)) ?_
  refine g_aloadn M_6_init d_6_init_4 (by rfl) ?_
  refine e_new M_6_init (kc' := 22) (ks' := 1248) (N := 4) d_6_init_5 nw_6_9 rfl (by decide) (by decide) (fun q1 h1 u1 e1 => ?_)
  have v1 := e1.keep h0 (by simp)
  refine g_dup M_6_init d_6_init_8 (by rfl) ?_
  refine g_bipush M_6_init (v := nI 20) d_6_init_9 (by decide) ?_
  refine g_bipush M_6_init (v := nI 12) d_6_init_11 (by decide) ?_
  refine gc_I M_6_init 20 988 [.int (nI 20), .int (nI 12)] [.ref q1, .ref a] d_6_init_13 ci_6_11 (by rfl) (by rfl) (Nat.le_of_ble_eq_true (by rfl)) (Nat.le_of_ble_eq_true (by rfl)) (by decide) (by decide) (by decide) (by decide) (C_8_init (by decide) (by decide) u1 (fun q2 q3 h2 e2 w2 => ?_))
  have v2 := e2.keep v1 (by simpa using e1.fresh h0 (List.mem_singleton.mpr rfl))
  refine e_putF M_6_init d_6_init_16 pf_6_14 rfl v2 (by rfl) (by rfl) (fun h3 v3 e3 => ?_)
  refine g_aloadn M_6_init d_6_init_19 (by rfl) ?_
  refine e_new M_6_init (kc' := 19) (ks' := 984) (N := 4) d_6_init_20 nw_6_9 rfl (by decide) (by decide) (fun q4 h4 u4 e4 => ?_)
  have v4 := e4.keep v3 (by simp)
  refine g_dup M_6_init d_6_init_23 (by rfl) ?_
  refine g_bipush M_6_init (v := nI 10) d_6_init_24 (by decide) ?_
  refine g_bipush M_6_init (v := nI 12) d_6_init_26 (by decide) ?_
  refine gc_I M_6_init 17 854 [.int (nI 10), .int (nI 12)] [.ref q4, .ref a] d_6_init_28 ci_6_11 (by rfl) (by rfl) (Nat.le_of_ble_eq_true (by rfl)) (Nat.le_of_ble_eq_true (by rfl)) (by decide) (by decide) (by decide) (by decide) (C_8_init (by decide) (by decide) u4 (fun q5 q6 h5 e5 w5 => ?_))
  have v5 := e5.keep v4 (by simpa using e4.fresh v3 (List.mem_singleton.mpr rfl))
  refine e_putF M_6_init d_6_init_31 pf_6_20 rfl v5 (by rfl) (by rfl) (fun h6 v6 e6 => ?_)
  refine g_aloadn M_6_init d_6_init_34 (by rfl) ?_
  refine e_new M_6_init (kc' := 16) (ks' := 850) (N := 4) d_6_init_35 nw_6_9 rfl (by decide) (by decide) (fun q7 h7 u7 e7 => ?_)
  have v7 := e7.keep v6 (by simp)
  refine g_dup M_6_init d_6_init_38 (by rfl) ?_
  refine g_bipush M_6_init (v := nI 10) d_6_init_39 (by decide) ?_
  refine g_bipush M_6_init (v := nI 12) d_6_init_41 (by decide) ?_
  refine gc_I M_6_init 14 720 [.int (nI 10), .int (nI 12)] [.ref q7, .ref a] d_6_init_43 ci_6_11 (by rfl) (by rfl) (Nat.le_of_ble_eq_true (by rfl)) (Nat.le_of_ble_eq_true (by rfl)) (by decide) (by decide) (by decide) (by decide) (C_8_init (by decide) (by decide) u7 (fun q8 q9 h8 e8 w8 => ?_))
  have v8 := e8.keep v7 (by simpa using e7.fresh v6 (List.mem_singleton.mpr rfl))
  refine e_putF M_6_init d_6_init_46 pf_6_23 rfl v8 (by rfl) (by rfl) (fun h9 v9 e9 => ?_)
  refine g_aloadn M_6_init d_6_init_49 (by rfl) ?_
  refine e_new M_6_init (kc' := 13) (ks' := 717) (N := 3) d_6_init_50 nw_6_26 rfl (by decide) (by decide) (fun q10 h10 u10 e10 => ?_)
  have v10 := e10.keep v9 (by simp)
  refine g_dup M_6_init d_6_init_53 (by rfl) ?_
  refine gc_I M_6_init 6 577 [] [.ref q10, .ref a] d_6_init_54 ci_6_28 (by rfl) (by rfl) (Nat.le_of_ble_eq_true (by rfl)) (Nat.le_of_ble_eq_true (by rfl)) (by decide) (by decide) (by decide) (by decide) (C_0_init u10 (fun q11 q12 q13 q14 q15 q16 q17 h11 e11 w11 => ?_))
  have v11 := e11.keep v10 (by simpa using e10.fresh v9 (List.mem_singleton.mpr rfl))
  refine e_putF M_6_init d_6_init_57 pf_6_29 rfl v11 (by rfl) (by rfl) (fun h12 v12 e12 => ?_)
  refine g_aloadn M_6_init d_6_init_60 (by rfl) ?_
  refine e_new M_6_init (kc' := 5) (ks' := 574) (N := 3) d_6_init_61 nw_6_33 rfl (by decide) (by decide) (fun q18 h13 u13 e13 => ?_)
  have v13 := e13.keep v12 (by simp)
  refine g_dup M_6_init d_6_init_64 (by rfl) ?_
  refine gc_I M_6_init 0 0 [] [.ref q18, .ref a] d_6_init_65 ci_6_35 (by rfl) (by rfl) (Nat.le_of_ble_eq_true (by rfl)) (Nat.le_of_ble_eq_true (by rfl)) (by decide) (by decide) (by decide) (by decide) (C_2_init u13 (fun q19 q20 q21 q22 q23 h14 e14 w14 => ?_))
  have v14 := e14.keep v13 (by simpa using e13.fresh v12 (List.mem_singleton.mpr rfl))
  refine e_putF M_6_init d_6_init_68 pf_6_36 rfl v14 (by rfl) (by rfl) (fun h15 v15 e15 => ?_)
  have r14 := e15
  have r12 := ((e13.weak (S' := [a]) (by simp)).trans e14 (by simp)).trans r14 (by simp)
  have r11 := e12.trans r12 (by simp)
  have r9 := ((e10.weak (S' := [a]) (by simp)).trans e11 (by simp)).trans r11 (by simp)
  have r8 := e9.trans r9 (by simp)
  have r6 := ((e7.weak (S' := [a]) (by simp)).trans e8 (by simp)).trans r8 (by simp)
  have r5 := e6.trans r6 (by simp)
  have r3 := ((e4.weak (S' := [a]) (by simp)).trans e5 (by simp)).trans r5 (by simp)
  have r2 := e3.trans r3 (by simp)
  have t4 : gExt h _ [a] [q1, q2, q3, q4, q5, q6, q7, q8, q9, q10, q11, q12, q13, q14, q15, q16, q17, q18, q19, q20, q21, q22, q23] := ((e1.weak (S' := [a]) (by simp)).trans e2 (by simp)).trans r2 (by simp)
  have ne : ∀ x ∈ [q1, q2, q3, q4, q5, q6, q7, q8, q9, q10, q11, q12, q13, q14, q15, q16, q17, q18, q19, q20, q21, q22, q23], x ∉ [a] := fun x hx => t4.mem_ne h0 hx
  refine g_vret M_6_init d_6_init_71 rfl (k _ _ rfl t4 ⟨v15, w2.keep r2 (ne _ (by simp)) (ne _ (by simp)) (ne _ (by simp)), w5.keep r5 (ne _ (by simp)) (ne _ (by simp)) (ne _ (by simp)), w8.keep r8 (ne _ (by simp)) (ne _ (by simp)) (ne _ (by simp)), w11.keep r11 (fun q hq => ne _ (by simp only [List.mem_cons, List.not_mem_nil, or_false] at hq; rcases hq with rfl | rfl | rfl | rfl | rfl | rfl | rfl | rfl <;> simp)), w14.keep r14 (fun q hq => ne _ (by simp only [List.mem_cons, List.not_mem_nil, or_false] at hq; rcases hq with rfl | rfl | rfl | rfl | rfl | rfl <;> simp))⟩)
