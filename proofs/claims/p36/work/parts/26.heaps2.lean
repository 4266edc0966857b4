/-! ===== heaps: open, enlarge, empty, remove those without coins ===== -/
theorem hL_set {v : Hn_} {i c : Nat} : hL (v.set i ((hx v i).1, (hx v i).2.1, c)) = ((hL v).1, (hL v).2.1, (hL v).2.2.set i (nI c)) := by
  have e : ∀ {β : Type} (f : List Nat × Nat × Nat → β), f ((hx v i).1, (hx v i).2.1, c) = f (hx v i) → (v.set i ((hx v i).1, (hx v i).2.1, c)).map f = v.map f := by
    intro β f hf
    rw [List.map_set, hf]
    by_cases hi : i < v.length
    · apply List.ext_getElem?
      intro j
      rw [List.getElem?_set]
      split
      · rename_i q
        subst q
        rw [List.length_map, if_pos hi, List.getElem?_map, List.getElem?_eq_getElem hi]
        show some (f (hx v i)) = some (f v[i])
        unfold hx
        rw [List.getD_eq_getElem?_getD, List.getElem?_eq_getElem hi]
        rfl
      · rfl
    · rw [List.set_eq_of_length_le (by rw [List.length_map]; omega)]
  unfold hL
  rw [e _ rfl, e _ rfl, List.map_set]
theorem nm_upd {h' : Hp_} {a n i : Nat} {xs : List Int32} {g : Nat → Int32} {x : Int32} (hl : xs.length ≤ n) (hg : ∀ j, j < xs.length → g j = xs.getD j 0) (v : h' a = some (.inl (false, .int, (n, .inl (upd g i x))))) : nmR h' a n (xs.set i x) := by
  refine ⟨by rw [List.length_set]; exact hl, _, v, fun j hj => ?_⟩
  rw [List.length_set] at hj
  unfold upd
  rw [List.getD_eq_getElem?_getD, List.getElem?_set]
  by_cases q : j = i
  · subst q
    rw [if_pos rfl, if_pos rfl, if_pos hj]
    rfl
  · rw [if_neg q, if_neg (fun z => q z.symm), hg j hj, List.getD_eq_getElem?_getD]
/-- a heap's coins set -/
abbrev hset (v : Hn_) (i c : Nat) : Hn_ := v.set i ((hx v i).1, (hx v i).2.1, c)
theorem hset_ok {v : Hn_} {i c : Nat} (hi : i < v.length) (hc : c < 2 ^ 30) (H : ∀ x ∈ v, x.2.1 < 2 ^ 30 ∧ x.2.2 < 2 ^ 30) : ∀ x ∈ hset v i c, x.2.1 < 2 ^ 30 ∧ x.2.2 < 2 ^ 30 := by
  intro x hm
  rcases List.mem_or_eq_of_mem_set hm with q | q
  · exact H x q
  · rw [q]; exact ⟨(H _ (hx_mem hi)).1, hc⟩

set_option maxHeartbeats 4000000 in
set_option maxRecDepth 100000 in
theorem C_2_enlarge {r : Nat → Nat} {v : Hn_} {h : Hp_} {Q : Ot_ → Hp_ → Prop} {i c : Nat} {x : Int32} (s : sepR r 6) (D : heN h r v) (hi : i < v.length) (hc : c < 2 ^ 30) (hx9 : nI (hx v i).2.2 + x = nI c) (k : ∀ h', gExt h h' [r 5] [] → heN h' r (hset v i c) → Q (.inl none) h') : gG 1 60 0 0 M_2_enlarge 0 (lv_args 0 [.ref (r 0), .int (nI i), .int x]) [] h Q := by
  obtain ⟨v0, W1, ⟨ol, g, g1, g2⟩, ⟨cl, g', c1, c2⟩, l1, l2⟩ := id D.1
  have vl := D.le
  refine g_iloadn M_2_enlarge d_2_enlarge_0 (by first | rfl | assumption) ?_
  refine g_if_lt M_2_enlarge (tgt := 23) d_2_enlarge_1 (by decide) (fun c9 => absurd c9 (nI_pos (by omega))) (fun _ => ?_)
  refine g_iloadn M_2_enlarge d_2_enlarge_4 (by first | rfl | assumption) ?_
  refine g_aloadn M_2_enlarge d_2_enlarge_5 (by first | rfl | assumption) ?_
  refine g_get M_2_enlarge d_2_enlarge_6 fl_2_24 (by assumption) (by rfl) ?_
  refine g_alen M_2_enlarge d_2_enlarge_9 (by assumption) ?_
  refine g_icmp_ge M_2_enlarge (tgt := 23) d_2_enlarge_10 (by decide) (fun c9 => absurd c9 (nI_ge (by omega) (by decide))) (fun _ => ?_)
  refine g_aloadn M_2_enlarge d_2_enlarge_13 (by first | rfl | assumption) ?_
  refine g_get M_2_enlarge d_2_enlarge_14 fl_2_24 (by assumption) (by rfl) ?_
  refine g_iloadn M_2_enlarge d_2_enlarge_17 (by first | rfl | assumption) ?_
  refine g_dup2 M_2_enlarge d_2_enlarge_18 (by rfl) (by rfl) ?_
  refine g_iaload M_2_enlarge d_2_enlarge_19 c1 (vp_in_nI (by omega) (by decide)) ?_
  rw [nI_cl (by omega), c2 i (by have := @hL_l v; omega), hL_c]
  refine g_iloadn M_2_enlarge d_2_enlarge_20 (by first | rfl | assumption) ?_
  refine g_iadd M_2_enlarge d_2_enlarge_21 ?_
  rw [hx9]
  refine e_ias M_2_enlarge d_2_enlarge_22 c1 (vp_in_nI (by omega) (by decide)) (fun h1 u1 e1 => ?_)
  rw [nI_cl (by omega)] at u1
  have N1 := nm_upd cl c2 u1
  refine g_vret M_2_enlarge d_2_enlarge_23 rfl (k h1 e1 ⟨?_, hset_ok hi hc D.2⟩)
  rw [hL_set]
  exact ⟨e1.keep v0 (fun q => by simp only [List.mem_cons, List.not_mem_nil, or_false] at q; rcases q with q <;> exact absurd q (s.ne _ _ (by decide) (by decide) (by decide))), W1.keep e1 (fun q => by simp only [List.mem_cons, List.not_mem_nil, or_false] at q; rcases q with q <;> exact absurd q (s.ne _ _ (by decide) (by decide) (by decide))) (fun q => by simp only [List.mem_cons, List.not_mem_nil, or_false] at q; rcases q with q <;> exact absurd q (s.ne _ _ (by decide) (by decide) (by decide))) (fun q => by simp only [List.mem_cons, List.not_mem_nil, or_false] at q; rcases q with q <;> exact absurd q (s.ne _ _ (by decide) (by decide) (by decide))), (show nmR h (r 4) 30 (hL v).2.1 from ⟨ol, g, g1, g2⟩).keep e1 (fun q => by simp only [List.mem_cons, List.not_mem_nil, or_false] at q; rcases q with q <;> exact absurd q (s.ne _ _ (by decide) (by decide) (by decide))), N1, l1, by rw [List.length_set]; exact l2⟩
set_option maxHeartbeats 4000000 in
set_option maxRecDepth 100000 in
theorem C_2_empty {r : Nat → Nat} {v : Hn_} {h : Hp_} {Q : Ot_ → Hp_ → Prop} {i c : Nat} (s : sepR r 6) (D : heN h r v) (hi : i < v.length) (hc : c < 2 ^ 30) (hx9 : c = 0) (k : ∀ h', gExt h h' [r 5] [] → heN h' r (hset v i c) → Q (.inl none) h') : gG 1 60 0 0 M_2_empty 0 (lv_args 0 [.ref (r 0), .int (nI i)]) [] h Q := by
  obtain ⟨v0, W1, ⟨ol, g, g1, g2⟩, ⟨cl, g', c1, c2⟩, l1, l2⟩ := id D.1
  have vl := D.le
  refine g_iloadn M_2_empty d_2_empty_0 (by first | rfl | assumption) ?_
  refine g_if_lt M_2_empty (tgt := 20) d_2_empty_1 (by decide) (fun c9 => absurd c9 (nI_pos (by omega))) (fun _ => ?_)
  refine g_iloadn M_2_empty d_2_empty_4 (by first | rfl | assumption) ?_
  refine g_aloadn M_2_empty d_2_empty_5 (by first | rfl | assumption) ?_
  refine g_get M_2_empty d_2_empty_6 fl_2_24 (by assumption) (by rfl) ?_
  refine g_alen M_2_empty d_2_empty_9 (by assumption) ?_
  refine g_icmp_ge M_2_empty (tgt := 20) d_2_empty_10 (by decide) (fun c9 => absurd c9 (nI_ge (by omega) (by decide))) (fun _ => ?_)
  refine g_aloadn M_2_empty d_2_empty_13 (by first | rfl | assumption) ?_
  refine g_get M_2_empty d_2_empty_14 fl_2_24 (by assumption) (by rfl) ?_
  refine g_iloadn M_2_empty d_2_empty_17 (by first | rfl | assumption) ?_
  refine g_iconst M_2_empty (v := nI 0) d_2_empty_18 (by decide) ?_
  refine e_ias M_2_empty d_2_empty_19 c1 (vp_in_nI (by omega) (by decide)) (fun h1 u1 e1 => ?_)
  rw [nI_cl (by omega)] at u1
  have N1 := nm_upd cl c2 u1
  refine g_vret M_2_empty d_2_empty_20 rfl (k h1 e1 ⟨?_, hset_ok hi hc D.2⟩)
  rw [hL_set]
  subst hx9
  exact ⟨e1.keep v0 (fun q => by simp only [List.mem_cons, List.not_mem_nil, or_false] at q; rcases q with q <;> exact absurd q (s.ne _ _ (by decide) (by decide) (by decide))), W1.keep e1 (fun q => by simp only [List.mem_cons, List.not_mem_nil, or_false] at q; rcases q with q <;> exact absurd q (s.ne _ _ (by decide) (by decide) (by decide))) (fun q => by simp only [List.mem_cons, List.not_mem_nil, or_false] at q; rcases q with q <;> exact absurd q (s.ne _ _ (by decide) (by decide) (by decide))) (fun q => by simp only [List.mem_cons, List.not_mem_nil, or_false] at q; rcases q with q <;> exact absurd q (s.ne _ _ (by decide) (by decide) (by decide))), (show nmR h (r 4) 30 (hL v).2.1 from ⟨ol, g, g1, g2⟩).keep e1 (fun q => by simp only [List.mem_cons, List.not_mem_nil, or_false] at q; rcases q with q <;> exact absurd q (s.ne _ _ (by decide) (by decide) (by decide))), N1, l1, by rw [List.length_set]; exact l2⟩
set_option maxHeartbeats 4000000 in
set_option maxRecDepth 100000 in
theorem C_2_open {r : Nat → Nat} {v : Hn_} {h : Hp_} {Q : Ot_ → Hp_ → Prop} {n c aw lw : Nat} {w : List Nat} (s : sepR r 6) (D : heN h r v) (hl : v.length < 30) (hn : n < 2 ^ 30) (hc : c < 2 ^ 30) (W : wdR h aw lw w) (o : ∀ x, x < 6 → r x ≠ aw ∧ r x ≠ lw) (k : ∀ h', gExt h h' ((List.range 6).map r) [] → heN h' r (v ++ [(w, n, c)]) → Q (.inl none) h') : gG 4 170 0 0 M_2_open 0 (lv_args 0 [.ref (r 0), .int (nI n), .ref aw, .int (nI c)]) [] h Q := by
  obtain ⟨v0, W1, ⟨ol, g, g1, g2⟩, ⟨cl, g', c1, c2⟩, l1, l2⟩ := id D.1
  have vl := D.le
  have mr : ∀ k, k < 6 → r k ∈ (List.range 6).map r := fun k hk => List.mem_map.mpr ⟨k, List.mem_range.mpr hk, rfl⟩
  have hl1 := @hL_l v
  refine g_aloadn M_2_open d_2_open_0 (by first | rfl | assumption) ?_
  refine gc_V M_2_open 0 0 [] [] d_2_open_1 cv_2_39 v0 (by rfl) (by rfl) (Nat.le_of_ble_eq_true (by rfl)) (Nat.le_of_ble_eq_true (by rfl)) (by decide) (by decide) (by decide) (by decide) (C_2_count D.1 ?_)
  rw [hL_l.1]
  show gG _ _ _ _ _ _ _ _ _ _
  refine g_istore M_2_open d_2_open_4 (by decide) (by first | rfl | (simp only [gc]; simp [*])) ?_
  refine g_iload M_2_open d_2_open_6 (by first | rfl | assumption) ?_
  refine g_if_lt M_2_open (tgt := 56) d_2_open_8 (by decide) (fun c9 => absurd c9 (nI_pos (by omega))) (fun _ => ?_)
  refine g_iload M_2_open d_2_open_11 (by first | rfl | assumption) ?_
  refine g_aloadn M_2_open d_2_open_13 (by first | rfl | assumption) ?_
  refine g_get M_2_open d_2_open_14 fl_2_20 (by assumption) (by rfl) ?_
  refine g_alen M_2_open d_2_open_17 (by assumption) ?_
  refine g_icmp_ge M_2_open (tgt := 56) d_2_open_18 (by decide) (fun c9 => absurd c9 (nI_ge (by omega) (by decide))) (fun _ => ?_)
  refine g_iload M_2_open d_2_open_21 (by first | rfl | assumption) ?_
  refine g_aloadn M_2_open d_2_open_23 (by first | rfl | assumption) ?_
  refine g_get M_2_open d_2_open_24 fl_2_24 (by assumption) (by rfl) ?_
  refine g_alen M_2_open d_2_open_27 (by assumption) ?_
  refine g_icmp_ge M_2_open (tgt := 56) d_2_open_28 (by decide) (fun c9 => absurd c9 (nI_ge (by omega) (by decide))) (fun _ => ?_)
  refine g_aloadn M_2_open d_2_open_31 (by first | rfl | assumption) ?_
  refine g_get M_2_open d_2_open_32 fl_2_14 (by assumption) (by rfl) ?_
  refine g_aloadn M_2_open d_2_open_35 (by first | rfl | assumption) ?_
  refine gc_V M_2_open 0 0 [.ref aw] [] d_2_open_36 cv_2_50 W1.2.2.1 (by rfl) (by rfl) (Nat.le_of_ble_eq_true (by rfl)) (Nat.le_of_ble_eq_true (by rfl)) (by decide) (by decide) (by decide) (by decide) (C_8_add (by decide) (by decide) W1 W W.1.1 (s.ne 1 2 (by decide) (by decide) (by decide)) (s.ne 1 3 (by decide) (by decide) (by decide)) (s.ne 2 3 (by decide) (by decide) (by decide)) ⟨(o 1 (by decide)).1.symm, (o 2 (by decide)).1.symm, (o 3 (by decide)).1.symm⟩ ⟨(o 1 (by decide)).2.symm, (o 2 (by decide)).2.symm, (o 3 (by decide)).2.symm⟩ (fun q => absurd q (by omega)) (fun _ h1 e1 X1 => ?_))
  have v01 := e1.keep v0 (fun q => by simp only [List.mem_cons, List.not_mem_nil, or_false] at q; rcases q with q | q | q <;> exact absurd q (s.ne _ _ (by decide) (by decide) (by decide)))
  have g11 := e1.keep g1 (fun q => by simp only [List.mem_cons, List.not_mem_nil, or_false] at q; rcases q with q | q | q <;> exact absurd q (s.ne _ _ (by decide) (by decide) (by decide)))
  have c11 := e1.keep c1 (fun q => by simp only [List.mem_cons, List.not_mem_nil, or_false] at q; rcases q with q | q | q <;> exact absurd q (s.ne _ _ (by decide) (by decide) (by decide)))
  show gG _ _ _ _ _ _ _ _ _ _
  refine g_pop M_2_open d_2_open_39 (by rfl) ?_
  refine g_aloadn M_2_open d_2_open_40 (by first | rfl | assumption) ?_
  refine g_get M_2_open d_2_open_41 fl_2_20 (by assumption) (by rfl) ?_
  refine g_iload M_2_open d_2_open_44 (by first | rfl | assumption) ?_
  refine g_iloadn M_2_open d_2_open_46 (by first | rfl | assumption) ?_
  refine e_ias M_2_open d_2_open_47 g11 (vp_in_nI (by omega) (by decide)) (fun h2 u2 e2 => ?_)
  rw [nI_cl (by omega), ← hL_l.2.1] at u2
  have N2 := nm_set (by omega) g2 u2
  have v02 := e2.keep v01 (fun q => by simp only [List.mem_cons, List.not_mem_nil, or_false] at q; rcases q with q <;> exact absurd q (s.ne _ _ (by decide) (by decide) (by decide)))
  have X2 := X1.keep e2 (fun q => by simp only [List.mem_cons, List.not_mem_nil, or_false] at q; rcases q with q <;> exact absurd q (s.ne _ _ (by decide) (by decide) (by decide))) (fun q => by simp only [List.mem_cons, List.not_mem_nil, or_false] at q; rcases q with q <;> exact absurd q (s.ne _ _ (by decide) (by decide) (by decide))) (fun q => by simp only [List.mem_cons, List.not_mem_nil, or_false] at q; rcases q with q <;> exact absurd q (s.ne _ _ (by decide) (by decide) (by decide)))
  have c12 := e2.keep c11 (fun q => by simp only [List.mem_cons, List.not_mem_nil, or_false] at q; rcases q with q <;> exact absurd q (s.ne _ _ (by decide) (by decide) (by decide)))
  refine g_aloadn M_2_open d_2_open_48 (by first | rfl | assumption) ?_
  refine g_get M_2_open d_2_open_49 fl_2_24 (by assumption) (by rfl) ?_
  refine g_iload M_2_open d_2_open_52 (by first | rfl | assumption) ?_
  refine g_iloadn M_2_open d_2_open_54 (by first | rfl | assumption) ?_
  refine e_ias M_2_open d_2_open_55 c12 (vp_in_nI (by omega) (by decide)) (fun h3 u3 e3 => ?_)
  rw [nI_cl (by omega), ← hL_l.2.2] at u3
  have N3 := nm_set (by omega) c2 u3
  have f1 := e1.weak (S' := (List.range 6).map r) (fun x hx => by simp only [List.mem_cons, List.not_mem_nil, or_false] at hx; rcases hx with rfl | rfl | rfl <;> exact mr _ (by decide))
  have t := (f1.trans e2 (fun x hx => Or.inl (by rw [List.mem_singleton.mp hx]; exact mr 4 (by decide)))).trans e3 (fun x hx => Or.inl (by rw [List.mem_singleton.mp hx]; exact mr 5 (by decide)))
  refine g_vret M_2_open d_2_open_56 rfl (k h3 (by simpa using t) ⟨?_, fun x hx9 => ?_⟩)
  · have eL : hL (v ++ [(w, n, c)]) = ((hL v).1 ++ [w], (hL v).2.1 ++ [nI n], (hL v).2.2 ++ [nI c]) := by unfold hL; simp
    rw [eL]
    exact ⟨e3.keep v02 (fun q => by simp only [List.mem_cons, List.not_mem_nil, or_false] at q; rcases q with q <;> exact absurd q (s.ne _ _ (by decide) (by decide) (by decide))), X2.keep e3 (fun q => by simp only [List.mem_cons, List.not_mem_nil, or_false] at q; rcases q with q <;> exact absurd q (s.ne _ _ (by decide) (by decide) (by decide))) (fun q => by simp only [List.mem_cons, List.not_mem_nil, or_false] at q; rcases q with q <;> exact absurd q (s.ne _ _ (by decide) (by decide) (by decide))) (fun q => by simp only [List.mem_cons, List.not_mem_nil, or_false] at q; rcases q with q <;> exact absurd q (s.ne _ _ (by decide) (by decide) (by decide))), N2.keep e3 (fun q => by simp only [List.mem_cons, List.not_mem_nil, or_false] at q; rcases q with q <;> exact absurd q (s.ne _ _ (by decide) (by decide) (by decide))), N3, by simp [l1], by simp [l2]⟩
  · rcases List.mem_append.mp hx9 with q | q
    · exact D.2 x q
    · rw [List.mem_singleton.mp q]; exact ⟨hn, hc⟩
