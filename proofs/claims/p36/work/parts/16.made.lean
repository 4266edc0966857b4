/-! ===== the first die; order text, order, history, the mint: made ===== -/
abbrev Nw_ : Sl_ := ([], [], [], ([[]], [[115]], [0]), ([], [], []), 0, 0)
abbrev N0_ : Sl_ := ([], [], [], ([], [], []), ([], [], []), 0, 0)
set_option maxHeartbeats 4000000 in
set_option maxRecDepth 100000 in
theorem C_6_addFirstDie {r : Nat → Nat} {h : Hp_} {Q : Ot_ → Hp_ → Prop} (s : sepR r 24) (D : stR h r N0_) (k : ∀ h' A, gExt h h' ((List.range 24).map r) A → stR h' r Nw_ → Q (.inl none) h') : gG 5 220 4 36 M_6_addFirstDie 0 (lv_args 0 [.ref (r 0)]) [] h Q := by
  have al : ∀ k, k < 24 → h (r k) ≠ none := by
    obtain ⟨a0, ⟨-, -, a1, f1, g1, a2, a3, -⟩, ⟨-, -, b1, f2, g2, b2, b3, -⟩, ⟨-, -, c1, f3, g3, c2, c3, -⟩, ⟨d0, ⟨-, -, d1, f4, g4, d2, d3, -⟩, ⟨-, -, e1, f5, g5, e2, e3, -⟩, ⟨-, g6, f6, -⟩, -⟩, ⟨p0, ⟨-, -, p1, f7, g7, p2, p3, -⟩, ⟨-, g8, f8, -⟩, ⟨-, g9, f9, -⟩, -⟩, -⟩ := id D
    intro k hk
    rcases k with _ | _ | _ | _ | _ | _ | _ | _ | _ | _ | _ | _ | _ | _ | _ | _ | _ | _ | _ | _ | _ | _ | _ | _ | k
    all_goals first | omega | (simp only [Nat.zero_add, Nat.reduceAdd] at *; simp [*])
  refine e_new M_6_addFirstDie (kc' := 3) (ks' := 34) (N := 2) d_6_addFirstDie_0 nw_6_40 rfl (by decide) (by decide) (fun w1 h1 u1 e1 => ?_)
  refine g_dup M_6_addFirstDie d_6_addFirstDie_3 (by rfl) ?_
  refine gc_I M_6_addFirstDie 2 18 [] [.ref w1] d_6_addFirstDie_4 ci_6_42 (by rfl) (by rfl) (Nat.le_of_ble_eq_true (by rfl)) (Nat.le_of_ble_eq_true (by rfl)) (by decide) (by decide) (by decide) (by decide) (C_7_init u1 (fun l1 h2 e2 W1 => ?_))
  have off : ∀ {h h' : Hp_} {S A : List Nat} (e : gExt h h' S A) (x : Nat), (∀ k, k < 24 → h (r k) ≠ none) → x ∈ A → offR r 24 x := fun e x al hx k hk q => al k hk (by rw [← q]; exact (e.2.1 x hx).1)
  have al1 : ∀ k, k < 24 → h1 (r k) ≠ none := fun k hk => e1.2.2.1 _ (al k hk)
  have al2 : ∀ k, k < 24 → h2 (r k) ≠ none := fun k hk => e2.2.2.1 _ (al1 k hk)
  have ow1 := off e1 w1 al (List.mem_singleton.mpr rfl)
  have ol1 := off e2 l1 al1 (List.mem_singleton.mpr rfl)
  have D1 := D.keep e1 (fun k hk => by simp)
  have D2 := D1.keep e2 (fun k hk => by simpa using (ow1 k hk).symm)
  show gG _ _ _ _ _ _ _ _ _ _
  refine g_astoren M_6_addFirstDie d_6_addFirstDie_7 (by decide) (by first | rfl | (simp only [gc]; simp [*])) ?_
  refine e_new M_6_addFirstDie (kc' := 1) (ks' := 16) (N := 2) d_6_addFirstDie_8 nw_6_40 rfl (by decide) (by decide) (fun w2 h3 u3 e3 => ?_)
  refine g_dup M_6_addFirstDie d_6_addFirstDie_11 (by rfl) ?_
  refine gc_I M_6_addFirstDie 0 0 [] [.ref w2] d_6_addFirstDie_12 ci_6_42 (by rfl) (by rfl) (Nat.le_of_ble_eq_true (by rfl)) (Nat.le_of_ble_eq_true (by rfl)) (by decide) (by decide) (by decide) (by decide) (C_7_init u3 (fun l2 h4 e4 W2 => ?_))
  have al3 : ∀ k, k < 24 → h3 (r k) ≠ none := fun k hk => e3.2.2.1 _ (al2 k hk)
  have ow2 := off e3 w2 al2 (List.mem_singleton.mpr rfl)
  have ol2 := off e4 l2 al3 (List.mem_singleton.mpr rfl)
  have D3 := D2.keep e3 (fun k hk => by simp)
  have D4 := D3.keep e4 (fun k hk => by simpa using (ow2 k hk).symm)
  have W1a := W1.toR.keep e3 (by simp) (by simp)
  have nw12 : w1 ≠ w2 := e3.fresh W1.toR.2.1 (List.mem_singleton.mpr rfl)
  obtain ⟨fz, hfz, -⟩ := id W1.toR.2.2
  have nl12 : l1 ≠ w2 := e3.fresh hfz (List.mem_singleton.mpr rfl)
  have W1b := W1a.keep e4 (by simpa using nw12) (by simpa using nl12)
  have n22 : w2 ≠ l2 := e4.fresh u3 (List.mem_singleton.mpr rfl)
  have nw1l2 : w1 ≠ l2 := e4.fresh W1a.2.1 (List.mem_singleton.mpr rfl)
  obtain ⟨fy, hfy, -⟩ := id W1a.2.2
  have nl1l2 : l1 ≠ l2 := e4.fresh hfy (List.mem_singleton.mpr rfl)
  show gG _ _ _ _ _ _ _ _ _ _
  refine g_astoren M_6_addFirstDie d_6_addFirstDie_15 (by decide) (by first | rfl | (simp only [gc]; simp [*])) ?_
  refine g_aloadn M_6_addFirstDie d_6_addFirstDie_16 (by first | rfl | assumption) ?_
  refine g_bipush M_6_addFirstDie (v := nI 115) d_6_addFirstDie_17 (by decide) ?_
  refine gc_V M_6_addFirstDie 0 0 [.int (nI 115)] [] d_6_addFirstDie_19 cv_6_43 W2.toR.2.1 (by rfl) (by rfl) (Nat.le_of_ble_eq_true (by rfl)) (Nat.le_of_ble_eq_true (by rfl)) (by decide) (by decide) (by decide) (by decide) (C_7_append W2.toR (by decide) (by decide) n22 (fun h5 e5 W2a => ?_))
  have D5 := D4.keep e5 (fun k hk => by simpa using ⟨(ow2 k hk).symm, (ol2 k hk).symm⟩)
  have W1c := W1b.keep e5 (by simpa using ⟨nw12, nw1l2⟩) (by simpa using ⟨nl12, nl1l2⟩)
  obtain ⟨a0, a1, a2, a3, a4, a5, a6⟩ := id D5
  show gG _ _ _ _ _ _ _ _ _ _
  refine g_aloadn M_6_addFirstDie d_6_addFirstDie_22 (by first | rfl | assumption) ?_
  refine g_get M_6_addFirstDie d_6_addFirstDie_23 fl_6_29 (by assumption) (by rfl) ?_
  refine g_aloadn M_6_addFirstDie d_6_addFirstDie_26 (by first | rfl | assumption) ?_
  refine g_aloadn M_6_addFirstDie d_6_addFirstDie_27 (by first | rfl | assumption) ?_
  refine g_iconst M_6_addFirstDie (v := nI 0) d_6_addFirstDie_28 (by decide) ?_
  refine gc_V M_6_addFirstDie 0 0 [.ref w1, .ref w2, .int (nI 0)] [] d_6_addFirstDie_29 cv_6_47 a4.1 (by rfl) (by rfl) (Nat.le_of_ble_eq_true (by rfl)) (Nat.le_of_ble_eq_true (by rfl)) (by decide) (by decide) (by decide) (by decide) (C_0_add (fun i j hi hj e => by have := s (10 + i) (10 + j) (by omega) (by omega) e; omega) a4 W1c W2a (by decide) (by decide) (fun k hk => ow1 _ (by omega)) (fun k hk => ol1 _ (by omega)) (fun k hk => ow2 _ (by omega)) (fun k hk => ol2 _ (by omega)) (fun q => absurd q (by decide)) (fun _ h6 e6 D6 => ?_))
  show gG _ _ _ _ _ _ _ _ _ _
  refine g_pop M_6_addFirstDie d_6_addFirstDie_32 (by rfl) ?_
  have sub6 : ∀ k, k < 24 → (k < 10 ∨ 18 ≤ k) → r k ∉ (List.range 8).map (fun k => r (10 + k)) := by
    intro k hk ho hx
    obtain ⟨j, hj, e⟩ := List.mem_map.mp hx
    have := s (10 + j) k (by have := List.mem_range.mp hj; omega) hk e
    have := List.mem_range.mp hj
    omega
  refine g_vret M_6_addFirstDie d_6_addFirstDie_33 rfl (k h6 ([w1] ++ [l1] ++ [w2] ++ [l2]) ?_ ⟨e6.keep a0 (sub6 0 (by decide) (by decide)), a1.keep e6 (sub6 1 (by decide) (by decide)) (sub6 2 (by decide) (by decide)) (sub6 3 (by decide) (by decide)), a2.keep e6 (sub6 4 (by decide) (by decide)) (sub6 5 (by decide) (by decide)) (sub6 6 (by decide) (by decide)), a3.keep e6 (sub6 7 (by decide) (by decide)) (sub6 8 (by decide) (by decide)) (sub6 9 (by decide) (by decide)), D6, a5.keep e6 (fun k hk => sub6 (18 + k) (by omega) (by omega)), a6⟩)
  have t2 := ((e1.weak (S' := (List.range 24).map r) (by simp)).trans e2 (by simp)).trans e3 (by simp)
  have t4 := t2.trans e4 (by simp)
  have t5 := t4.trans e5 (by simp)
  have t6 := t5.trans e6 (fun x hx => by
    obtain ⟨j, hj, rfl⟩ := List.mem_map.mp hx
    exact Or.inl (List.mem_map.mpr ⟨10 + j, List.mem_range.mpr (by have := List.mem_range.mp hj; omega), rfl⟩))
  simpa using t6
/-- the order text: its signs, its grammar -/
def txR (h : Hp_) (t s g : Nat) (tx : List Nat) : Prop := okW 60 tx ∧ h t = some (.inr (5, [.ref s, .int (nI tx.length), .ref g])) ∧ (∃ f, h s = some (.inl (false, .char, (60, .inl f))) ∧ (∀ j, j < 60 → gCh (f j)) ∧ ∀ j, j < tx.length → f j = nI (tx.getD j 0)) ∧ ∃ p l, h g = some (.inr (1, [.int p, .int l]))
set_option maxHeartbeats 4000000 in
set_option maxRecDepth 100000 in
theorem C_5_init {a : Nat} {h : Hp_} {Q : Ot_ → Hp_ → Prop} (h0 : h a = some (.inr (5, [.null, .int 0, .null]))) (k : ∀ s g h', gExt h h' [a] [s, g] → txR h' a s g [] → Q (.inl none) h') : gG 2 90 2 62 M_5_init 0 (lv_args 0 [.ref a]) [] h Q := by
  refine g_aloadn M_5_init d_5_init_0 (by first | rfl | assumption) ?_
  refine g_objInit M_5_init d_5_init_1 oi_5_3 oi_i oi_c (Nat.le_of_ble_eq_true (by rfl)) (Nat.le_of_ble_eq_true (by rfl)) ?_
  refine g_aloadn M_5_init d_5_init_4 (by first | rfl | assumption) ?_
  refine g_bipush M_5_init (v := nI 60) d_5_init_5 (by decide) ?_
  refine e_newC M_5_init (kc' := 1) (ks' := 2) (N := 60) d_5_init_7 (by decide) (by decide) (by decide) (by decide) (by decide) (fun s h1 w1 e1 => ?_)
  refine e_putF M_5_init d_5_init_9 pf_5_9 rfl (e1.keep h0 (by simp)) (by rfl) (by rfl) (fun h2 u2 e2 => ?_)
  refine g_aloadn M_5_init d_5_init_12 (by first | rfl | assumption) ?_
  refine e_new M_5_init (kc' := 0) (ks' := 0) (N := 2) d_5_init_13 nw_5_15 rfl (by decide) (by decide) (fun g h3 u3 e3 => ?_)
  have v3 := e3.keep u2 (by simp)
  refine g_dup M_5_init d_5_init_16 (by rfl) ?_
  refine gc_I M_5_init 0 0 [] [.ref g, .ref a] d_5_init_17 ci_5_17 (by rfl) (by rfl) (Nat.le_of_ble_eq_true (by rfl)) (Nat.le_of_ble_eq_true (by rfl)) (by decide) (by decide) (by decide) (by decide) (C_1_init ?_)
  show gG _ _ _ _ _ _ _ _ _ _
  refine e_putF M_5_init d_5_init_20 pf_5_18 rfl v3 (by rfl) (by rfl) (fun h4 u4 e4 => ?_)
  have ns : s ≠ a := e1.new_ne h0 (List.mem_singleton.mpr rfl)
  have ng : g ≠ a := e3.new_ne u2 (List.mem_singleton.mpr rfl)
  have w2 := e2.keep w1 (by simpa using ns)
  have w4 := e4.keep (e3.keep w2 (by simp)) (by simpa using ns)
  have t := (((e1.weak (S' := [a]) (by simp)).trans e2 (by simp)).trans e3 (by simp)).trans e4 (by simp)
  exact g_vret M_5_init d_5_init_23 rfl (k s g h4 t ⟨⟨by decide, fun x hx => (nomatch hx)⟩, u4, ⟨_, w4, fun j hj => gCh_0, fun j hj => absurd hj (Nat.not_lt_zero j)⟩, 0, 0, e4.keep u3 (by simpa using ng)⟩)
/-- an order being read: kind, condition, which word is being written, the two words -/
def orR (h : Hp_) (a f lf s ls : Nat) (kd cd is2 : Int32) (w1 w2 : List Nat) : Prop := h a = some (.inr (4, [.int kd, .int cd, .int is2, .ref f, .ref s])) ∧ wdR h f lf w1 ∧ wdR h s ls w2
set_option maxHeartbeats 4000000 in
set_option maxRecDepth 100000 in
theorem C_4_init {a : Nat} {h : Hp_} {Q : Ot_ → Hp_ → Prop} (h0 : h a = some (.inr (4, [.int 0, .int 0, .int 0, .null, .null]))) (k : ∀ f lf s ls h', gExt h h' [a] [f, lf, s, ls] → orR h' a f lf s ls 0 0 0 [] [] → Q (.inl none) h') : gG 2 90 4 36 M_4_init 0 (lv_args 0 [.ref a]) [] h Q := by
  refine g_aloadn M_4_init d_4_init_0 (by first | rfl | assumption) ?_
  refine g_objInit M_4_init d_4_init_1 oi_4_1 oi_i oi_c (Nat.le_of_ble_eq_true (by rfl)) (Nat.le_of_ble_eq_true (by rfl)) ?_
  refine g_aloadn M_4_init d_4_init_4 (by first | rfl | assumption) ?_
  refine e_new M_4_init (kc' := 3) (ks' := 34) (N := 2) d_4_init_5 nw_4_7 rfl (by decide) (by decide) (fun f h1 u1 e1 => ?_)
  have v1 := e1.keep h0 (by simp)
  refine g_dup M_4_init d_4_init_8 (by rfl) ?_
  refine gc_I M_4_init 2 18 [] [.ref f, .ref a] d_4_init_9 ci_4_9 (by rfl) (by rfl) (Nat.le_of_ble_eq_true (by rfl)) (Nat.le_of_ble_eq_true (by rfl)) (by decide) (by decide) (by decide) (by decide) (C_7_init u1 (fun lf h2 e2 W2 => ?_))
  have v2 := e2.keep v1 (by simpa using e1.fresh h0 (List.mem_singleton.mpr rfl))
  show gG _ _ _ _ _ _ _ _ _ _
  refine e_putF M_4_init d_4_init_12 pf_4_10 rfl v2 (by rfl) (by rfl) (fun h3 u3 e3 => ?_)
  refine g_aloadn M_4_init d_4_init_15 (by first | rfl | assumption) ?_
  refine e_new M_4_init (kc' := 1) (ks' := 16) (N := 2) d_4_init_16 nw_4_7 rfl (by decide) (by decide) (fun s h4 u4 e4 => ?_)
  have v4 := e4.keep u3 (by simp)
  refine g_dup M_4_init d_4_init_19 (by rfl) ?_
  refine gc_I M_4_init 0 0 [] [.ref s, .ref a] d_4_init_20 ci_4_9 (by rfl) (by rfl) (Nat.le_of_ble_eq_true (by rfl)) (Nat.le_of_ble_eq_true (by rfl)) (by decide) (by decide) (by decide) (by decide) (C_7_init u4 (fun ls h5 e5 W5 => ?_))
  have v5 := e5.keep v4 (by simpa using e4.fresh u3 (List.mem_singleton.mpr rfl))
  show gG _ _ _ _ _ _ _ _ _ _
  refine e_putF M_4_init d_4_init_23 pf_4_16 rfl v5 (by rfl) (by rfl) (fun h6 u6 e6 => ?_)
  have r5 := (e6.weak (S' := [a]) (by simp))
  have r3 := ((e4.weak (S' := [a]) (by simp)).trans e5 (by simp)).trans r5 (by simp)
  have r2 := e3.trans r3 (by simp)
  have t := ((e1.weak (S' := [a]) (by simp)).trans e2 (by simp)).trans r2 (by simp)
  have ne : ∀ x ∈ [f, lf, s, ls], x ∉ [a] := fun x hx => t.mem_ne h0 (by simpa using hx)
  exact g_vret M_4_init d_4_init_26 rfl (k f lf s ls h6 t ⟨u6, W2.toR.keep r2 (ne _ (by simp)) (ne _ (by simp)), W5.toR.keep r5 (ne _ (by simp)) (ne _ (by simp))⟩)
