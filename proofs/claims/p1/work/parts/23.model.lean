/-! ===== the reference: made ===== -/
def mF : Nat → Int32 := upd (upd (upd (fun _ => 0) 0 1) 24 1) 25 18
/-- the reference as made: q 0 itself, 1 all, 2 kept, 3 recorded, 4 snapshot, 5 plural, 6 text, 7 first, 8 second, 9 other, 10 found -/
def mdR (h : Hp_) (q : Nat → Nat) : Prop := sepR q 11 ∧ h (q 0) = some (.inr (10, [.ref (q 1), .ref (q 2), .ref (q 3), .int (nI 0), .ref (q 4), .int (nI 0), .int (nI 0), .ref (q 5), .ref (q 6), .int (nI 0), .int (nI 0), .int (nI 0), .int (nI 0), .ref (q 7), .ref (q 8), .int (nI 0), .int (nI 0), .ref (q 9), .ref (q 10), .int (nI 0)])) ∧ h (q 1) = some (.inl (false, .int, (1676, .inl mF))) ∧ (∃ f, h (q 3) = some (.inl (false, .int, (6704, .inl f)))) ∧ (∃ f, h (q 4) = some (.inl (false, .int, (1676, .inl f)))) ∧ (∃ f, h (q 6) = some (.inl (false, .int, (60, .inl f)))) ∧ ∃ f, h (q 7) = some (.inl (false, .int, (17, .inl f)))
theorem mdR.keep {h h' : Hp_} {q : Nat → Nat} (H : mdR h q) (e : ∀ j v, j < 11 → h (q j) = some v → h' (q j) = some v) : mdR h' q := by
  obtain ⟨s, a0, a1, ⟨f3, a3⟩, ⟨f4, a4⟩, ⟨f6, a6⟩, f7, a7⟩ := H
  exact ⟨s, e 0 _ (by decide) a0, e 1 _ (by decide) a1, ⟨f3, e 3 _ (by decide) a3⟩, ⟨f4, e 4 _ (by decide) a4⟩, ⟨f6, e 6 _ (by decide) a6⟩, f7, e 7 _ (by decide) a7⟩
/-- what a call leaves of the reference: 'thrown' -/
def mOut (q : Nat → Nat) (h h' : Hp_) (t : Int32) : Prop := (∃ fs, h' (q 0) = some (.inr (10, fs)) ∧ fs[6]? = some (.int t)) ∧ ∀ y v, h y = some v → (∀ j, j < 11 → y ≠ q j) → h' y = some v

set_option maxHeartbeats 4000000 in
set_option maxRecDepth 100000 in
theorem C_10_init {a : Nat} {h : Hp_} {Q : Ot_ → Hp_ → Prop} (h0 : h a = some (.inr (10, [.null, .null, .null, .int 0, .null, .int 0, .int 0, .null, .null, .int 0, .int 0, .int 0, .int 0, .null, .null, .int 0, .int 0, .null, .null, .int 0]))) (k : ∀ q A h', q 0 = a → (∀ j, 1 ≤ j → j < 11 → q j ∈ A) → gExt h h' [a] A → mdR h' q → Q (.inl none) h') : gG 2 60 10 12234 M_10_init 0 (lv_args 0 [.ref a]) [] h Q := by
  refine g_aloadn M_10_init d_10_init_0 (by first | rfl | assumption) ?_
  refine g_objInit M_10_init d_10_init_1 oi_10_1 oi_i oi_c (Nat.le_of_ble_eq_true (by rfl)) (Nat.le_of_ble_eq_true (by rfl)) ?_
  refine g_aloadn M_10_init d_10_init_4 (by first | rfl | assumption) ?_
  refine g_sipush M_10_init (v := nI 1676) d_10_init_5 (by decide) ?_
  refine e_newI M_10_init (kc' := 9) (ks' := 10558) (N := 1676) d_10_init_8 (by decide) (by rw [nI_cl (by decide)]) (by decide) (by decide) (by decide) (fun p1 g1 w1 ea1 => ?_)
  have ob1 := ea1.keep h0 (by simp)
  have n1 : p1 ≠ a := ea1.new_ne h0 (List.mem_singleton.mpr rfl)
  refine e_putF M_10_init d_10_init_10 pf_10_7 rfl ob1 (by rfl) (by rfl) (fun z1 o1 ec1 => ?_)
  have c1 := ec1.keep w1 (by simpa using n1)
  refine g_aloadn M_10_init d_10_init_13 (by first | rfl | assumption) ?_
  refine g_sipush M_10_init (v := nI 1676) d_10_init_14 (by decide) ?_
  refine e_newI M_10_init (kc' := 8) (ks' := 8882) (N := 1676) d_10_init_17 (by decide) (by rw [nI_cl (by decide)]) (by decide) (by decide) (by decide) (fun p2 g2 w2 ea2 => ?_)
  have ob2 := ea2.keep o1 (by simp)
  have c1a2 := ea2.keep c1 (by simp)
  have n2 : p2 ≠ a := ea2.new_ne o1 (List.mem_singleton.mpr rfl)
  refine e_putF M_10_init d_10_init_19 pf_10_13 rfl ob2 (by rfl) (by rfl) (fun z2 o2 ec2 => ?_)
  have c1b2 := ec2.keep c1a2 (by simpa using n1)
  refine g_aloadn M_10_init d_10_init_22 (by first | rfl | assumption) ?_
  refine g_sipush M_10_init (v := nI 6704) d_10_init_23 (by decide) ?_
  refine e_newI M_10_init (kc' := 7) (ks' := 2178) (N := 6704) d_10_init_26 (by decide) (by rw [nI_cl (by decide)]) (by decide) (by decide) (by decide) (fun p3 g3 w3 ea3 => ?_)
  have ob3 := ea3.keep o2 (by simp)
  have c1a3 := ea3.keep c1b2 (by simp)
  have n3 : p3 ≠ a := ea3.new_ne o2 (List.mem_singleton.mpr rfl)
  have n31 : p3 ≠ p1 := ea3.new_ne c1b2 (List.mem_singleton.mpr rfl)
  refine e_putF M_10_init d_10_init_28 pf_10_16 rfl ob3 (by rfl) (by rfl) (fun z3 o3 ec3 => ?_)
  have c1b3 := ec3.keep c1a3 (by simpa using n1)
  have c3 := ec3.keep w3 (by simpa using n3)
  refine g_aloadn M_10_init d_10_init_31 (by first | rfl | assumption) ?_
  refine g_sipush M_10_init (v := nI 1676) d_10_init_32 (by decide) ?_
  refine e_newI M_10_init (kc' := 6) (ks' := 502) (N := 1676) d_10_init_35 (by decide) (by rw [nI_cl (by decide)]) (by decide) (by decide) (by decide) (fun p4 g4 w4 ea4 => ?_)
  have ob4 := ea4.keep o3 (by simp)
  have c1a4 := ea4.keep c1b3 (by simp)
  have c3a4 := ea4.keep c3 (by simp)
  have n4 : p4 ≠ a := ea4.new_ne o3 (List.mem_singleton.mpr rfl)
  have n41 : p4 ≠ p1 := ea4.new_ne c1b3 (List.mem_singleton.mpr rfl)
  refine e_putF M_10_init d_10_init_37 pf_10_19 rfl ob4 (by rfl) (by rfl) (fun z4 o4 ec4 => ?_)
  have c1b4 := ec4.keep c1a4 (by simpa using n1)
  have c3b4 := ec4.keep c3a4 (by simpa using n3)
  have c4 := ec4.keep w4 (by simpa using n4)
  refine g_aloadn M_10_init d_10_init_40 (by first | rfl | assumption) ?_
  refine g_bipush M_10_init (v := nI 17) d_10_init_41 (by decide) ?_
  refine e_newI M_10_init (kc' := 5) (ks' := 485) (N := 17) d_10_init_43 (by decide) (by rw [nI_cl (by decide)]) (by decide) (by decide) (by decide) (fun p5 g5 w5 ea5 => ?_)
  have ob5 := ea5.keep o4 (by simp)
  have c1a5 := ea5.keep c1b4 (by simp)
  have c3a5 := ea5.keep c3b4 (by simp)
  have c4a5 := ea5.keep c4 (by simp)
  have n5 : p5 ≠ a := ea5.new_ne o4 (List.mem_singleton.mpr rfl)
  refine e_putF M_10_init d_10_init_45 pf_10_22 rfl ob5 (by rfl) (by rfl) (fun z5 o5 ec5 => ?_)
  have c1b5 := ec5.keep c1a5 (by simpa using n1)
  have c3b5 := ec5.keep c3a5 (by simpa using n3)
  have c4b5 := ec5.keep c4a5 (by simpa using n4)
  refine g_aloadn M_10_init d_10_init_48 (by first | rfl | assumption) ?_
  refine g_bipush M_10_init (v := nI 60) d_10_init_49 (by decide) ?_
  refine e_newI M_10_init (kc' := 4) (ks' := 425) (N := 60) d_10_init_51 (by decide) (by rw [nI_cl (by decide)]) (by decide) (by decide) (by decide) (fun p6 g6 w6 ea6 => ?_)
  have ob6 := ea6.keep o5 (by simp)
  have c1a6 := ea6.keep c1b5 (by simp)
  have c3a6 := ea6.keep c3b5 (by simp)
  have c4a6 := ea6.keep c4b5 (by simp)
  have n6 : p6 ≠ a := ea6.new_ne o5 (List.mem_singleton.mpr rfl)
  have n61 : p6 ≠ p1 := ea6.new_ne c1b5 (List.mem_singleton.mpr rfl)
  refine e_putF M_10_init d_10_init_53 pf_10_25 rfl ob6 (by rfl) (by rfl) (fun z6 o6 ec6 => ?_)
  have c1b6 := ec6.keep c1a6 (by simpa using n1)
  have c3b6 := ec6.keep c3a6 (by simpa using n3)
  have c4b6 := ec6.keep c4a6 (by simpa using n4)
  have c6 := ec6.keep w6 (by simpa using n6)
  refine g_aloadn M_10_init d_10_init_56 (by first | rfl | assumption) ?_
  refine g_bipush M_10_init (v := nI 17) d_10_init_57 (by decide) ?_
  refine e_newI M_10_init (kc' := 3) (ks' := 408) (N := 17) d_10_init_59 (by decide) (by rw [nI_cl (by decide)]) (by decide) (by decide) (by decide) (fun p7 g7 w7 ea7 => ?_)
  have ob7 := ea7.keep o6 (by simp)
  have c1a7 := ea7.keep c1b6 (by simp)
  have c3a7 := ea7.keep c3b6 (by simp)
  have c4a7 := ea7.keep c4b6 (by simp)
  have c6a7 := ea7.keep c6 (by simp)
  have n7 : p7 ≠ a := ea7.new_ne o6 (List.mem_singleton.mpr rfl)
  have n71 : p7 ≠ p1 := ea7.new_ne c1b6 (List.mem_singleton.mpr rfl)
  refine e_putF M_10_init d_10_init_61 pf_10_28 rfl ob7 (by rfl) (by rfl) (fun z7 o7 ec7 => ?_)
  have c1b7 := ec7.keep c1a7 (by simpa using n1)
  have c3b7 := ec7.keep c3a7 (by simpa using n3)
  have c4b7 := ec7.keep c4a7 (by simpa using n4)
  have c6b7 := ec7.keep c6a7 (by simpa using n6)
  have c7 := ec7.keep w7 (by simpa using n7)
  refine g_aloadn M_10_init d_10_init_64 (by first | rfl | assumption) ?_
  refine g_bipush M_10_init (v := nI 17) d_10_init_65 (by decide) ?_
  refine e_newI M_10_init (kc' := 2) (ks' := 391) (N := 17) d_10_init_67 (by decide) (by rw [nI_cl (by decide)]) (by decide) (by decide) (by decide) (fun p8 g8 w8 ea8 => ?_)
  have ob8 := ea8.keep o7 (by simp)
  have c1a8 := ea8.keep c1b7 (by simp)
  have c3a8 := ea8.keep c3b7 (by simp)
  have c4a8 := ea8.keep c4b7 (by simp)
  have c6a8 := ea8.keep c6b7 (by simp)
  have c7a8 := ea8.keep c7 (by simp)
  have n8 : p8 ≠ a := ea8.new_ne o7 (List.mem_singleton.mpr rfl)
  refine e_putF M_10_init d_10_init_69 pf_10_31 rfl ob8 (by rfl) (by rfl) (fun z8 o8 ec8 => ?_)
  have c1b8 := ec8.keep c1a8 (by simpa using n1)
  have c3b8 := ec8.keep c3a8 (by simpa using n3)
  have c4b8 := ec8.keep c4a8 (by simpa using n4)
  have c6b8 := ec8.keep c6a8 (by simpa using n6)
  have c7b8 := ec8.keep c7a8 (by simpa using n7)
  refine g_aloadn M_10_init d_10_init_72 (by first | rfl | assumption) ?_
  refine g_bipush M_10_init (v := nI 17) d_10_init_73 (by decide) ?_
  refine e_newI M_10_init (kc' := 1) (ks' := 374) (N := 17) d_10_init_75 (by decide) (by rw [nI_cl (by decide)]) (by decide) (by decide) (by decide) (fun p9 g9 w9 ea9 => ?_)
  have ob9 := ea9.keep o8 (by simp)
  have c1a9 := ea9.keep c1b8 (by simp)
  have c3a9 := ea9.keep c3b8 (by simp)
  have c4a9 := ea9.keep c4b8 (by simp)
  have c6a9 := ea9.keep c6b8 (by simp)
  have c7a9 := ea9.keep c7b8 (by simp)
  have n9 : p9 ≠ a := ea9.new_ne o8 (List.mem_singleton.mpr rfl)
  refine e_putF M_10_init d_10_init_77 pf_10_34 rfl ob9 (by rfl) (by rfl) (fun z9 o9 ec9 => ?_)
  have c1b9 := ec9.keep c1a9 (by simpa using n1)
  have c3b9 := ec9.keep c3a9 (by simpa using n3)
  have c4b9 := ec9.keep c4a9 (by simpa using n4)
  have c6b9 := ec9.keep c6a9 (by simpa using n6)
  have c7b9 := ec9.keep c7a9 (by simpa using n7)
  refine g_aloadn M_10_init d_10_init_80 (by first | rfl | assumption) ?_
  refine g_sipush M_10_init (v := nI 374) d_10_init_81 (by decide) ?_
  refine e_newI M_10_init (kc' := 0) (ks' := 0) (N := 374) d_10_init_84 (by decide) (by rw [nI_cl (by decide)]) (by decide) (by decide) (by decide) (fun p10 g10 w10 ea10 => ?_)
  have ob10 := ea10.keep o9 (by simp)
  have c1a10 := ea10.keep c1b9 (by simp)
  have c3a10 := ea10.keep c3b9 (by simp)
  have c4a10 := ea10.keep c4b9 (by simp)
  have c6a10 := ea10.keep c6b9 (by simp)
  have c7a10 := ea10.keep c7b9 (by simp)
  have n10 : p10 ≠ a := ea10.new_ne o9 (List.mem_singleton.mpr rfl)
  refine e_putF M_10_init d_10_init_86 pf_10_37 rfl ob10 (by rfl) (by rfl) (fun z10 o10 ec10 => ?_)
  have c1b10 := ec10.keep c1a10 (by simpa using n1)
  have c3b10 := ec10.keep c3a10 (by simpa using n3)
  have c4b10 := ec10.keep c4a10 (by simpa using n4)
  have c6b10 := ec10.keep c6a10 (by simpa using n6)
  have c7b10 := ec10.keep c7a10 (by simpa using n7)
  refine g_aloadn M_10_init d_10_init_89 (by first | rfl | assumption) ?_
  refine g_get M_10_init d_10_init_90 fl_10_7 (by assumption) (by rfl) ?_
  refine g_iconst M_10_init (v := nI 0) d_10_init_93 (by decide) ?_
  refine g_iconst M_10_init (v := nI 1) d_10_init_94 (by decide) ?_
  refine e_ias M_10_init d_10_init_95 c1b10 (vp_in_nI (by decide) (by decide)) (fun y0 s0 es0 => ?_)
  rw [nI_cl (by decide)] at s0
  have oo0 := es0.keep o10 (by simpa using n1.symm)
  have c3s0 := es0.keep c3b10 (by simpa using n31)
  have c4s0 := es0.keep c4b10 (by simpa using n41)
  have c6s0 := es0.keep c6b10 (by simpa using n61)
  have c7s0 := es0.keep c7b10 (by simpa using n71)
  refine g_aloadn M_10_init d_10_init_96 (by first | rfl | assumption) ?_
  refine g_get M_10_init d_10_init_97 fl_10_7 (by assumption) (by rfl) ?_
  refine g_bipush M_10_init (v := nI 24) d_10_init_100 (by decide) ?_
  refine g_iconst M_10_init (v := nI 1) d_10_init_102 (by decide) ?_
  refine e_ias M_10_init d_10_init_103 s0 (vp_in_nI (by decide) (by decide)) (fun y24 s24 es24 => ?_)
  rw [nI_cl (by decide)] at s24
  have oo24 := es24.keep oo0 (by simpa using n1.symm)
  have c3s24 := es24.keep c3s0 (by simpa using n31)
  have c4s24 := es24.keep c4s0 (by simpa using n41)
  have c6s24 := es24.keep c6s0 (by simpa using n61)
  have c7s24 := es24.keep c7s0 (by simpa using n71)
  refine g_aloadn M_10_init d_10_init_104 (by first | rfl | assumption) ?_
  refine g_get M_10_init d_10_init_105 fl_10_7 (by assumption) (by rfl) ?_
  refine g_bipush M_10_init (v := nI 25) d_10_init_108 (by decide) ?_
  refine g_bipush M_10_init (v := nI 18) d_10_init_110 (by decide) ?_
  refine e_ias M_10_init d_10_init_112 s24 (vp_in_nI (by decide) (by decide)) (fun y25 s25 es25 => ?_)
  rw [nI_cl (by decide)] at s25
  have oo25 := es25.keep oo24 (by simpa using n1.symm)
  have c3s25 := es25.keep c3s24 (by simpa using n31)
  have c4s25 := es25.keep c4s24 (by simpa using n41)
  have c6s25 := es25.keep c6s24 (by simpa using n61)
  have c7s25 := es25.keep c7s24 (by simpa using n71)
  have t1 := (ea1.weak (S' := [a]) (by simp)).trans ec1 (by simp)
  have t2 := (t1.trans ea2 (by simp)).trans ec2 (by simp)
  have t3 := (t2.trans ea3 (by simp)).trans ec3 (by simp)
  have t4 := (t3.trans ea4 (by simp)).trans ec4 (by simp)
  have t5 := (t4.trans ea5 (by simp)).trans ec5 (by simp)
  have t6 := (t5.trans ea6 (by simp)).trans ec6 (by simp)
  have t7 := (t6.trans ea7 (by simp)).trans ec7 (by simp)
  have t8 := (t7.trans ea8 (by simp)).trans ec8 (by simp)
  have t9 := (t8.trans ea9 (by simp)).trans ec9 (by simp)
  have t10 := (t9.trans ea10 (by simp)).trans ec10 (by simp)
  have T := ((t10.trans es0 (by simp)).trans es24 (by simp)).trans es25 (by simp)
  simp only [List.nil_append, List.append_nil, List.cons_append, List.append_assoc] at T
  have hnd : (a :: [p1, p2, p3, p4, p5, p6, p7, p8, p9, p10]).Nodup := List.nodup_cons.mpr ⟨(fun q => by
    have := (T.2.1 a q).1
    rw [h0] at this
    cases this), T.1⟩
  refine g_vret M_10_init d_10_init_113 rfl (k (fun k => (a :: [p1, p2, p3, p4, p5, p6, p7, p8, p9, p10]).getD k 0) _ _ rfl (fun j h1 h2 => ?_) T ⟨fun i j hi hj e => nodup_getD hnd (by simpa using hi) (by simpa using hj) e, oo25, s25, ⟨_, c3s25⟩, ⟨_, c4s25⟩, ⟨_, c6s25⟩, _, c7s25⟩)
  obtain ⟨i, rfl⟩ : ∃ i, j = i + 1 := ⟨j - 1, by omega⟩
  exact getD_mem (B := [p1, p2, p3, p4, p5, p6, p7, p8, p9, p10]) (k := i) (by simp; omega)
