/-! ===== a state takes an order ===== -/
def acS (x : Sn_) (kd cd : Int32) (w1 w2 : List Nat) : Option Sn_ :=
  if kd = nI 2 then (if x.2.2.2.1.1.length < 12 then some (x.1, x.2.1, x.2.2.1, (x.2.2.2.1.1 ++ [w1], x.2.2.2.1.2.1 ++ [w2], x.2.2.2.1.2.2 ++ [cd]), x.2.2.2.2) else none)
  else if kd = 0 then (if (fst (fun i => decide (x.1.getD i [] = w1)) x.1.length).isSome then none else if x.1.length < 20 then some (x.1 ++ [w1], x.2) else none)
  else match fst (fun i => decide (x.2.1.getD i [] = w1)) x.2.1.length with
    | none => if x.2.1.length < 10 then some (x.1, x.2.1 ++ [w1], x.2.2.1 ++ [w2], x.2.2.2) else none
    | some i => some (x.1, x.2.1, x.2.2.1.set i w2, x.2.2.2)
theorem oI_ne {o : Option Nat} {n : Nat} (h : ∀ i, o = some i → i < n) (hn : n ≤ 30) (hs : o.isSome = true) : ¬ oI o = -1 := by
  cases o with
  | none => cases hs
  | some i =>
    intro z
    have z2 : nI i < 0 := by rw [show nI i = -1 from z]; decide
    exact nI_pos (by have := h i rfl; omega) z2

set_option maxHeartbeats 4000000 in
set_option maxRecDepth 100000 in
theorem C_6_accept {r : Nat → Nat} {x : Sn_} {a f lf s ls : Nat} {kd cd is2 : Int32} {w1 w2 : List Nat} {h : Hp_} {Q : Ot_ → Hp_ → Prop} (sp : sepR r 24) (D : stN h r x) (O : orR h a f lf s ls kd cd is2 w1 w2) (len4 : kd = nI 2 → w1.length ≤ 4 ∧ w2.length ≤ 4) (len12 : w1.length ≤ 12 ∧ w2.length ≤ 12) (oo : ∀ k, k < 24 → r k ≠ a ∧ r k ≠ f ∧ r k ≠ lf ∧ r k ≠ s ∧ r k ≠ ls) (kf : acS x kd cd w1 w2 = none → Q (.inl (some (.int 0))) h) (kt : ∀ x', acS x kd cd w1 w2 = some x' → ∀ h', gExt h h' ((List.range 24).map r) [] → stN h' r x' → Q (.inl (some (.int 1))) h') : gG 5 220 0 0 M_6_accept 0 (lv_args 0 [.ref (r 0), .ref a]) [] h Q := by
  obtain ⟨v0, W1, W2, W3, DD, HH, l1⟩ := id D.1
  have mr : ∀ k, k < 24 → r k ∈ (List.range 24).map r := fun k hk => List.mem_map.mpr ⟨k, List.mem_range.mpr hk, rfl⟩
  obtain ⟨o0, F, S⟩ := id O
  have nl := W1.1
  have il := W2.1
  refine g_aloadn M_6_accept d_6_accept_0 (by first | rfl | assumption) ?_
  refine g_get M_6_accept d_6_accept_1 fl_6_77 (by assumption) (by rfl) ?_
  refine g_iconst M_6_accept (v := nI 2) d_6_accept_4 (by decide) ?_
  by_cases k2 : kd = nI 2
  · refine g_icmp_ne M_6_accept (tgt := 28) d_6_accept_5 (by decide) (fun c => absurd k2 c) (fun _ => ?_)
    refine g_aloadn M_6_accept d_6_accept_8 (by first | rfl | assumption) ?_
    refine g_get M_6_accept d_6_accept_9 fl_6_29 (by assumption) (by rfl) ?_
    refine g_aloadn M_6_accept d_6_accept_12 (by first | rfl | assumption) ?_
    refine g_get M_6_accept d_6_accept_13 fl_6_83 (by assumption) (by rfl) ?_
    refine g_aloadn M_6_accept d_6_accept_16 (by first | rfl | assumption) ?_
    refine g_get M_6_accept d_6_accept_17 fl_6_87 (by assumption) (by rfl) ?_
    refine g_aloadn M_6_accept d_6_accept_20 (by first | rfl | assumption) ?_
    refine g_get M_6_accept d_6_accept_21 fl_6_90 (by assumption) (by rfl) ?_
    refine gc_V M_6_accept 0 0 [.ref f, .ref s, .int cd] [] d_6_accept_24 cv_6_47 DD.1 (by rfl) (by rfl) (Nat.le_of_ble_eq_true (by rfl)) (Nat.le_of_ble_eq_true (by rfl)) (by decide) (by decide) (by decide) (by decide) (C_0_add (r := fun k => r (10 + k)) (fun i j hi hj e => by have := sp _ _ (by omega) (by omega) e; omega) DD F S (len4 k2).1 (len4 k2).2 (fun k hk => (oo _ (by omega)).2.1.symm) (fun k hk => (oo _ (by omega)).2.2.1.symm) (fun k hk => (oo _ (by omega)).2.2.2.1.symm) (fun k hk => (oo _ (by omega)).2.2.2.2.symm) (fun q => ?_) (fun q h1 e1 D1 => ?_))
    · show gG _ _ _ _ _ _ _ _ _ _
      refine g_iret M_6_accept d_6_accept_27 rfl (by decide) (kf ?_)
      unfold acS
      rw [if_pos k2, if_neg (show ¬ x.2.2.2.1.1.length < 12 from Nat.not_lt.mpr q)]
    · show gG _ _ _ _ _ _ _ _ _ _
      have off : ∀ k, k < 24 → (k < 10 ∨ 18 ≤ k) → r k ∉ (List.range 8).map (fun k => r (10 + k)) := fun k hk ho => notin_map (fun j hj => sp.ne k (10 + j) hk (by omega) (by omega))
      have f1 := e1.weak (S' := (List.range 24).map r) (fun y hy => by obtain ⟨j, hj, rfl⟩ := List.mem_map.mp hy; exact mr _ (by have := List.mem_range.mp hj; omega))
      refine g_iret M_6_accept d_6_accept_27 rfl (by decide) (kt (x.1, x.2.1, x.2.2.1, (x.2.2.2.1.1 ++ [w1], x.2.2.2.1.2.1 ++ [w2], x.2.2.2.1.2.2 ++ [cd]), x.2.2.2.2) ?_ h1 f1 ⟨⟨e1.keep v0 (off 0 (by decide) (by decide)), W1.keep e1 (off 1 (by decide) (by decide)) (off 2 (by decide) (by decide)) (off 3 (by decide) (by decide)), W2.keep e1 (off 4 (by decide) (by decide)) (off 5 (by decide) (by decide)) (off 6 (by decide) (by decide)), W3.keep e1 (off 7 (by decide) (by decide)) (off 8 (by decide) (by decide)) (off 9 (by decide) (by decide)), D1, HH.keep e1 (fun k hk => off (18 + k) (by omega) (by omega)), l1⟩, D.2.1, ?_⟩)
      · unfold acS
        rw [if_pos k2, if_pos (show x.2.2.2.1.1.length < 12 from q)]
      · simp
  refine g_icmp_ne M_6_accept (tgt := 28) d_6_accept_5 (by decide) (fun _ => ?_) (fun c => absurd c k2)
  refine g_aloadn M_6_accept d_6_accept_28 (by first | rfl | assumption) ?_
  refine g_get M_6_accept d_6_accept_29 fl_6_77 (by assumption) (by rfl) ?_
  by_cases k0 : kd = 0
  · refine g_if_ne M_6_accept (tgt := 70) d_6_accept_32 (by decide) (fun c => absurd k0 c) (fun _ => ?_)
    refine g_aloadn M_6_accept d_6_accept_35 (by first | rfl | assumption) ?_
    refine g_get M_6_accept d_6_accept_36 fl_6_14 (by assumption) (by rfl) ?_
    refine g_aloadn M_6_accept d_6_accept_39 (by first | rfl | assumption) ?_
    refine g_get M_6_accept d_6_accept_40 fl_6_83 (by assumption) (by rfl) ?_
    refine gc_V M_6_accept 0 0 [.ref f] [] d_6_accept_43 cv_6_59 W1.2.2.1 (by rfl) (by rfl) (Nat.le_of_ble_eq_true (by rfl)) (Nat.le_of_ble_eq_true (by rfl)) (by decide) (by decide) (by decide) (by decide) (C_8_find (by decide) (by decide) W1 F ?_)
    show gG _ _ _ _ _ _ _ _ _ _
    refine g_iconst M_6_accept (v := -1) d_6_accept_46 (by decide) ?_
    have zero : acS x kd cd w1 w2 = none → gG 5 220 0 0 M_6_accept 68 (lv_args 0 [.ref (r 0), .ref a]) [] h Q := by
      intro e
      refine g_iconst M_6_accept (v := nI 0) d_6_accept_68 (by decide) ?_
      exact g_iret M_6_accept d_6_accept_69 rfl (by decide) (kf e)
    cases e : (fst (fun i => decide (x.1.getD i [] = w1)) x.1.length).isSome with
    | true =>
      have ne := oI_ne (n := x.1.length) (fun i hi => fst_lt hi) (Nat.le_trans nl (by decide)) e
      refine g_icmp_ne M_6_accept (tgt := 68) d_6_accept_47 (by decide) (fun _ => zero ?_) (fun c => absurd c ne)
      unfold acS
      rw [if_neg k2, if_pos k0, e]
      rfl
    | false =>
      have en : fst (fun i => decide (x.1.getD i [] = w1)) x.1.length = none := by simpa using e
      refine g_icmp_ne M_6_accept (tgt := 68) d_6_accept_47 (by decide) (fun c => absurd (by rw [show fst (fun i => decide ((sL x).1.getD i [] = w1)) (sL x).1.length = none from en]; rfl) c) (fun _ => ?_)
      refine g_aloadn M_6_accept d_6_accept_50 (by first | rfl | assumption) ?_
      refine g_get M_6_accept d_6_accept_51 fl_6_14 (by assumption) (by rfl) ?_
      refine g_aloadn M_6_accept d_6_accept_54 (by first | rfl | assumption) ?_
      refine g_get M_6_accept d_6_accept_55 fl_6_83 (by assumption) (by rfl) ?_
      refine gc_V M_6_accept 0 0 [.ref f] [] d_6_accept_58 cv_6_93 W1.2.2.1 (by rfl) (by rfl) (Nat.le_of_ble_eq_true (by rfl)) (Nat.le_of_ble_eq_true (by rfl)) (by decide) (by decide) (by decide) (by decide) (C_8_add (by decide) (by decide) W1 F len12.1 (sp.ne 1 2 (by decide) (by decide) (by decide)) (sp.ne 1 3 (by decide) (by decide) (by decide)) (sp.ne 2 3 (by decide) (by decide) (by decide)) ⟨(oo 1 (by decide)).2.1.symm, (oo 2 (by decide)).2.1.symm, (oo 3 (by decide)).2.1.symm⟩ ⟨(oo 1 (by decide)).2.2.1.symm, (oo 2 (by decide)).2.2.1.symm, (oo 3 (by decide)).2.2.1.symm⟩ (fun q => ?_) (fun q h1 e1 X1 => ?_))
      · show gG _ _ _ _ _ _ _ _ _ _
        refine g_if_eq M_6_accept (tgt := 68) d_6_accept_61 (by decide) (fun _ => zero ?_) (fun c => absurd rfl c)
        unfold acS
        rw [if_neg k2, if_pos k0, e, if_neg (by decide), if_neg (show ¬ x.1.length < 20 from Nat.not_lt.mpr q)]
      · show gG _ _ _ _ _ _ _ _ _ _
        refine g_if_eq M_6_accept (tgt := 68) d_6_accept_61 (by decide) (fun c => absurd c (by decide)) (fun _ => ?_)
        refine g_iconst M_6_accept (v := nI 1) d_6_accept_64 (by decide) ?_
        refine g_goto M_6_accept (tgt := 69) d_6_accept_65 (by decide) ?_
        have f1 := e1.weak (S' := (List.range 24).map r) (fun y hy => by simp only [List.mem_cons, List.not_mem_nil, or_false] at hy; rcases hy with rfl | rfl | rfl <;> exact mr _ (by decide))
        refine g_iret M_6_accept d_6_accept_69 rfl (by decide) (kt (x.1 ++ [w1], x.2) ?_ h1 f1 ⟨⟨e1.keep v0 (fun q => by simp only [List.mem_cons, List.not_mem_nil, or_false] at q; rcases q with q | q | q <;> exact absurd q (sp.ne _ _ (by decide) (by decide) (by decide))), X1, W2.keep e1 (fun q => by simp only [List.mem_cons, List.not_mem_nil, or_false] at q; rcases q with q | q | q <;> exact absurd q (sp.ne _ _ (by decide) (by decide) (by decide))) (fun q => by simp only [List.mem_cons, List.not_mem_nil, or_false] at q; rcases q with q | q | q <;> exact absurd q (sp.ne _ _ (by decide) (by decide) (by decide))) (fun q => by simp only [List.mem_cons, List.not_mem_nil, or_false] at q; rcases q with q | q | q <;> exact absurd q (sp.ne _ _ (by decide) (by decide) (by decide))), W3.keep e1 (fun q => by simp only [List.mem_cons, List.not_mem_nil, or_false] at q; rcases q with q | q | q <;> exact absurd q (sp.ne _ _ (by decide) (by decide) (by decide))) (fun q => by simp only [List.mem_cons, List.not_mem_nil, or_false] at q; rcases q with q | q | q <;> exact absurd q (sp.ne _ _ (by decide) (by decide) (by decide))) (fun q => by simp only [List.mem_cons, List.not_mem_nil, or_false] at q; rcases q with q | q | q <;> exact absurd q (sp.ne _ _ (by decide) (by decide) (by decide))), DD.keep e1 (fun k hk q => by simp only [List.mem_cons, List.not_mem_nil, or_false] at q; rcases q with q | q | q <;> exact absurd q (sp.ne _ _ (by omega) (by decide) (by omega))), HH.keep e1 (fun k hk q => by simp only [List.mem_cons, List.not_mem_nil, or_false] at q; rcases q with q | q | q <;> exact absurd q (sp.ne _ _ (by omega) (by decide) (by omega))), l1⟩, D.2.1, D.2.2⟩)
        unfold acS
        rw [if_neg k2, if_pos k0, e, if_neg (by decide), if_pos (show x.1.length < 20 from q)]
  refine g_if_ne M_6_accept (tgt := 70) d_6_accept_32 (by decide) (fun _ => ?_) (fun c => absurd c k0)
  refine g_aloadn M_6_accept d_6_accept_70 (by first | rfl | assumption) ?_
  refine g_get M_6_accept d_6_accept_71 fl_6_20 (by assumption) (by rfl) ?_
  refine g_aloadn M_6_accept d_6_accept_74 (by first | rfl | assumption) ?_
  refine g_get M_6_accept d_6_accept_75 fl_6_83 (by assumption) (by rfl) ?_
  refine gc_V M_6_accept 0 0 [.ref f] [] d_6_accept_78 cv_6_59 W2.2.2.1 (by rfl) (by rfl) (Nat.le_of_ble_eq_true (by rfl)) (Nat.le_of_ble_eq_true (by rfl)) (by decide) (by decide) (by decide) (by decide) (C_8_find (by decide) (by decide) W2 F ?_)
  show gG _ _ _ _ _ _ _ _ _ _
  refine g_istoren M_6_accept d_6_accept_81 (by decide) (by first | rfl | (simp only [gc]; simp [*])) ?_
  refine g_iloadn M_6_accept d_6_accept_82 (by first | rfl | assumption) ?_
  refine g_iconst M_6_accept (v := -1) d_6_accept_83 (by decide) ?_
  cases e : fst (fun i => decide (x.2.1.getD i [] = w1)) x.2.1.length with
  | none =>
    have e9 : fst (fun i => decide ((sL x).2.1.getD i [] = w1)) (sL x).2.1.length = none := e
    rw [e9]
    refine g_icmp_ne M_6_accept (tgt := 121) d_6_accept_84 (by decide) (fun c => absurd rfl c) (fun _ => ?_)
    have zero : acS x kd cd w1 w2 = none → ∀ lv : List (Nat × Value), gG 5 220 0 0 M_6_accept 119 lv [] h Q := by
      intro e lv
      refine g_iconst M_6_accept (v := nI 0) d_6_accept_119 (by decide) ?_
      exact g_iret M_6_accept d_6_accept_120 rfl (by decide) (kf e)
    refine g_aloadn M_6_accept d_6_accept_87 (by first | rfl | assumption) ?_
    refine g_get M_6_accept d_6_accept_88 fl_6_20 (by assumption) (by rfl) ?_
    refine g_aloadn M_6_accept d_6_accept_91 (by first | rfl | assumption) ?_
    refine g_get M_6_accept d_6_accept_92 fl_6_83 (by assumption) (by rfl) ?_
    refine gc_V M_6_accept 0 0 [.ref f] [] d_6_accept_95 cv_6_93 W2.2.2.1 (by rfl) (by rfl) (Nat.le_of_ble_eq_true (by rfl)) (Nat.le_of_ble_eq_true (by rfl)) (by decide) (by decide) (by decide) (by decide) (C_8_add (by decide) (by decide) W2 F len12.1 (sp.ne 4 5 (by decide) (by decide) (by decide)) (sp.ne 4 6 (by decide) (by decide) (by decide)) (sp.ne 5 6 (by decide) (by decide) (by decide)) ⟨(oo 4 (by decide)).2.1.symm, (oo 5 (by decide)).2.1.symm, (oo 6 (by decide)).2.1.symm⟩ ⟨(oo 4 (by decide)).2.2.1.symm, (oo 5 (by decide)).2.2.1.symm, (oo 6 (by decide)).2.2.1.symm⟩ (fun q => ?_) (fun q h1 e1 X1 => ?_))
    · show gG _ _ _ _ _ _ _ _ _ _
      refine g_if_eq M_6_accept (tgt := 119) d_6_accept_98 (by decide) (fun _ => zero ?_ _) (fun c => absurd rfl c)
      unfold acS
      rw [if_neg k2, if_neg k0, e]
      exact if_neg (show ¬ x.2.1.length < 10 from Nat.not_lt.mpr q)
    · show gG _ _ _ _ _ _ _ _ _ _
      refine g_if_eq M_6_accept (tgt := 119) d_6_accept_98 (by decide) (fun c => absurd c (by decide)) (fun _ => ?_)
      have v01 := e1.keep v0 (fun q => by simp only [List.mem_cons, List.not_mem_nil, or_false] at q; rcases q with q | q | q <;> exact absurd q (sp.ne _ _ (by decide) (by decide) (by decide)))
      have Y3 := W3.keep e1 (fun q => by simp only [List.mem_cons, List.not_mem_nil, or_false] at q; rcases q with q | q | q <;> exact absurd q (sp.ne _ _ (by decide) (by decide) (by decide))) (fun q => by simp only [List.mem_cons, List.not_mem_nil, or_false] at q; rcases q with q | q | q <;> exact absurd q (sp.ne _ _ (by decide) (by decide) (by decide))) (fun q => by simp only [List.mem_cons, List.not_mem_nil, or_false] at q; rcases q with q | q | q <;> exact absurd q (sp.ne _ _ (by decide) (by decide) (by decide)))
      have o01 := e1.keep o0 (by simpa using ⟨(oo 4 (by decide)).1.symm, (oo 5 (by decide)).1.symm, (oo 6 (by decide)).1.symm⟩)
      have S1 := S.keep e1 (by simpa using ⟨(oo 4 (by decide)).2.2.2.1.symm, (oo 5 (by decide)).2.2.2.1.symm, (oo 6 (by decide)).2.2.2.1.symm⟩) (by simpa using ⟨(oo 4 (by decide)).2.2.2.2.symm, (oo 5 (by decide)).2.2.2.2.symm, (oo 6 (by decide)).2.2.2.2.symm⟩)
      refine g_aloadn M_6_accept d_6_accept_101 (by first | rfl | assumption) ?_
      refine g_get M_6_accept d_6_accept_102 fl_6_23 (by assumption) (by rfl) ?_
      refine g_aloadn M_6_accept d_6_accept_105 (by first | rfl | assumption) ?_
      refine g_get M_6_accept d_6_accept_106 fl_6_87 (by assumption) (by rfl) ?_
      refine gc_V M_6_accept 0 0 [.ref s] [] d_6_accept_109 cv_6_93 Y3.2.2.1 (by rfl) (by rfl) (Nat.le_of_ble_eq_true (by rfl)) (Nat.le_of_ble_eq_true (by rfl)) (by decide) (by decide) (by decide) (by decide) (C_8_add (by decide) (by decide) Y3 S1 len12.2 (sp.ne 7 8 (by decide) (by decide) (by decide)) (sp.ne 7 9 (by decide) (by decide) (by decide)) (sp.ne 8 9 (by decide) (by decide) (by decide)) ⟨(oo 7 (by decide)).2.2.2.1.symm, (oo 8 (by decide)).2.2.2.1.symm, (oo 9 (by decide)).2.2.2.1.symm⟩ ⟨(oo 7 (by decide)).2.2.2.2.symm, (oo 8 (by decide)).2.2.2.2.symm, (oo 9 (by decide)).2.2.2.2.symm⟩ (fun q9 => absurd (show (sL x).2.1.length < 10 from q) (by rw [← l1]; omega)) (fun q9 h2 e2 X2 => ?_))
      show gG _ _ _ _ _ _ _ _ _ _
      refine g_if_eq M_6_accept (tgt := 119) d_6_accept_112 (by decide) (fun c => absurd c (by decide)) (fun _ => ?_)
      refine g_iconst M_6_accept (v := nI 1) d_6_accept_115 (by decide) ?_
      refine g_goto M_6_accept (tgt := 120) d_6_accept_116 (by decide) ?_
      have f1 := e1.weak (S' := (List.range 24).map r) (fun y hy => by simp only [List.mem_cons, List.not_mem_nil, or_false] at hy; rcases hy with rfl | rfl | rfl <;> exact mr _ (by decide))
      have f2 := f1.trans (e2.weak (S' := (List.range 24).map r) (fun y hy => by simp only [List.mem_cons, List.not_mem_nil, or_false] at hy; rcases hy with rfl | rfl | rfl <;> exact mr _ (by decide))) (fun y hy => Or.inl hy)
      refine g_iret M_6_accept d_6_accept_120 rfl (by decide) (kt (x.1, x.2.1 ++ [w1], x.2.2.1 ++ [w2], x.2.2.2) ?_ h2 (by simpa using f2) ⟨⟨e2.keep v01 (fun q => by simp only [List.mem_cons, List.not_mem_nil, or_false] at q; rcases q with q | q | q <;> exact absurd q (sp.ne _ _ (by decide) (by decide) (by decide))), (W1.keep e1 (fun q => by simp only [List.mem_cons, List.not_mem_nil, or_false] at q; rcases q with q | q | q <;> exact absurd q (sp.ne _ _ (by decide) (by decide) (by decide))) (fun q => by simp only [List.mem_cons, List.not_mem_nil, or_false] at q; rcases q with q | q | q <;> exact absurd q (sp.ne _ _ (by decide) (by decide) (by decide))) (fun q => by simp only [List.mem_cons, List.not_mem_nil, or_false] at q; rcases q with q | q | q <;> exact absurd q (sp.ne _ _ (by decide) (by decide) (by decide)))).keep e2 (fun q => by simp only [List.mem_cons, List.not_mem_nil, or_false] at q; rcases q with q | q | q <;> exact absurd q (sp.ne _ _ (by decide) (by decide) (by decide))) (fun q => by simp only [List.mem_cons, List.not_mem_nil, or_false] at q; rcases q with q | q | q <;> exact absurd q (sp.ne _ _ (by decide) (by decide) (by decide))) (fun q => by simp only [List.mem_cons, List.not_mem_nil, or_false] at q; rcases q with q | q | q <;> exact absurd q (sp.ne _ _ (by decide) (by decide) (by decide))), X1.keep e2 (fun q => by simp only [List.mem_cons, List.not_mem_nil, or_false] at q; rcases q with q | q | q <;> exact absurd q (sp.ne _ _ (by decide) (by decide) (by decide))) (fun q => by simp only [List.mem_cons, List.not_mem_nil, or_false] at q; rcases q with q | q | q <;> exact absurd q (sp.ne _ _ (by decide) (by decide) (by decide))) (fun q => by simp only [List.mem_cons, List.not_mem_nil, or_false] at q; rcases q with q | q | q <;> exact absurd q (sp.ne _ _ (by decide) (by decide) (by decide))), X2, (DD.keep e1 (fun k hk q => by simp only [List.mem_cons, List.not_mem_nil, or_false] at q; rcases q with q | q | q <;> exact absurd q (sp.ne _ _ (by omega) (by decide) (by omega)))).keep e2 (fun k hk q => by simp only [List.mem_cons, List.not_mem_nil, or_false] at q; rcases q with q | q | q <;> exact absurd q (sp.ne _ _ (by omega) (by decide) (by omega))), (HH.keep e1 (fun k hk q => by simp only [List.mem_cons, List.not_mem_nil, or_false] at q; rcases q with q | q | q <;> exact absurd q (sp.ne _ _ (by omega) (by decide) (by omega)))).keep e2 (fun k hk q => by simp only [List.mem_cons, List.not_mem_nil, or_false] at q; rcases q with q | q | q <;> exact absurd q (sp.ne _ _ (by omega) (by decide) (by omega))), ?_⟩, D.2.1, D.2.2⟩)
      · unfold acS
        rw [if_neg k2, if_neg k0, e]
        exact if_pos (show x.2.1.length < 10 from q)
      · show (x.2.2.1 ++ [w2]).length = (x.2.1 ++ [w1]).length
        rw [List.length_append, List.length_append, show x.2.2.1.length = x.2.1.length from l1]
        rfl
  | some i =>
    have e9 : fst (fun i => decide ((sL x).2.1.getD i [] = w1)) (sL x).2.1.length = some i := e
    have il9 : i < (sL x).2.2.1.length := by rw [l1]; exact fst_lt e
    rw [e9]
    refine g_icmp_ne M_6_accept (tgt := 121) d_6_accept_84 (by decide) (fun _ => ?_) (fun c => absurd c (oI_ne (n := x.2.1.length) (fun j hj => by cases hj; exact fst_lt e) (Nat.le_trans il (by decide)) rfl))
    refine g_aloadn M_6_accept d_6_accept_121 (by first | rfl | assumption) ?_
    refine g_get M_6_accept d_6_accept_122 fl_6_23 (by assumption) (by rfl) ?_
    refine g_iloadn M_6_accept d_6_accept_125 (by first | rfl | assumption) ?_
    refine g_aloadn M_6_accept d_6_accept_126 (by first | rfl | assumption) ?_
    refine g_get M_6_accept d_6_accept_127 fl_6_87 (by assumption) (by rfl) ?_
    refine gc_V M_6_accept 0 0 [.int (nI i), .ref s] [] d_6_accept_130 cv_6_96 W3.2.2.1 (by rfl) (by rfl) (Nat.le_of_ble_eq_true (by rfl)) (Nat.le_of_ble_eq_true (by rfl)) (by decide) (by decide) (by decide) (by decide) (C_8_putW (by decide) (by decide) W3 il9 S len12.2 (sp.ne 7 8 (by decide) (by decide) (by decide)) (sp.ne 7 9 (by decide) (by decide) (by decide)) (sp.ne 8 9 (by decide) (by decide) (by decide)) ⟨(oo 8 (by decide)).2.2.2.1.symm, (oo 9 (by decide)).2.2.2.1.symm⟩ ⟨(oo 8 (by decide)).2.2.2.2.symm, (oo 9 (by decide)).2.2.2.2.symm⟩ (fun h1 e1 X1 => ?_))
    show gG _ _ _ _ _ _ _ _ _ _
    refine g_iconst M_6_accept (v := nI 1) d_6_accept_133 (by decide) ?_
    have f1 := e1.weak (S' := (List.range 24).map r) (fun y hy => by simp only [List.mem_cons, List.not_mem_nil, or_false] at hy; rcases hy with rfl | rfl <;> exact mr _ (by decide))
    refine g_iret M_6_accept d_6_accept_134 rfl (by decide) (kt (x.1, x.2.1, x.2.2.1.set i w2, x.2.2.2) ?_ h1 f1 ⟨⟨e1.keep v0 (fun q => by simp only [List.mem_cons, List.not_mem_nil, or_false] at q; rcases q with q | q <;> exact absurd q (sp.ne _ _ (by decide) (by decide) (by decide))), W1.keep e1 (fun q => by simp only [List.mem_cons, List.not_mem_nil, or_false] at q; rcases q with q | q <;> exact absurd q (sp.ne _ _ (by decide) (by decide) (by decide))) (fun q => by simp only [List.mem_cons, List.not_mem_nil, or_false] at q; rcases q with q | q <;> exact absurd q (sp.ne _ _ (by decide) (by decide) (by decide))) (fun q => by simp only [List.mem_cons, List.not_mem_nil, or_false] at q; rcases q with q | q <;> exact absurd q (sp.ne _ _ (by decide) (by decide) (by decide))), W2.keep e1 (fun q => by simp only [List.mem_cons, List.not_mem_nil, or_false] at q; rcases q with q | q <;> exact absurd q (sp.ne _ _ (by decide) (by decide) (by decide))) (fun q => by simp only [List.mem_cons, List.not_mem_nil, or_false] at q; rcases q with q | q <;> exact absurd q (sp.ne _ _ (by decide) (by decide) (by decide))) (fun q => by simp only [List.mem_cons, List.not_mem_nil, or_false] at q; rcases q with q | q <;> exact absurd q (sp.ne _ _ (by decide) (by decide) (by decide))), X1, DD.keep e1 (fun k hk q => by simp only [List.mem_cons, List.not_mem_nil, or_false] at q; rcases q with q | q <;> exact absurd q (sp.ne _ _ (by omega) (by decide) (by omega))), HH.keep e1 (fun k hk q => by simp only [List.mem_cons, List.not_mem_nil, or_false] at q; rcases q with q | q <;> exact absurd q (sp.ne _ _ (by omega) (by decide) (by omega))), ?_⟩, D.2.1, D.2.2⟩)
    · unfold acS
      rw [if_neg k2, if_neg k0, e]
    · show (x.2.2.1.set i w2).length = x.2.1.length
      rw [List.length_set]
      exact l1
