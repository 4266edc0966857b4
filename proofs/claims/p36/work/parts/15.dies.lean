/-! ===== dies: count, add; the first die; order text, order, history: made ===== -/
def sepR (r : Nat → Nat) (n : Nat) : Prop := ∀ i j, i < n → j < n → r i = r j → i = j
def offR (r : Nat → Nat) (n x : Nat) : Prop := ∀ k, k < n → x ≠ r k
theorem sepR.ne {r : Nat → Nat} {n : Nat} (s : sepR r n) (i j : Nat) (hi : i < n) (hj : j < n) (h : i ≠ j) : r i ≠ r j := fun e => h (s i j hi hj e)
theorem nm_set {h' : Hp_} {a n : Nat} {xs : List Int32} {g : Nat → Int32} {x : Int32} (hl : xs.length < n) (hg : ∀ i, i < xs.length → g i = xs.getD i 0) (v : h' a = some (.inl (false, .int, (n, .inl (upd g xs.length x))))) : nmR h' a n (xs ++ [x]) := by
  refine ⟨by simp; omega, _, v, fun i hi => ?_⟩
  simp only [List.length_append, List.length_cons, List.length_nil] at hi
  unfold upd
  simp only [List.getD_eq_getElem?_getD, List.getElem?_append]
  by_cases q : i = xs.length
  · rw [if_pos q, if_neg (by omega), q]; simp
  · rw [if_neg q, if_pos (by omega), hg i (by omega), List.getD_eq_getElem?_getD]
set_option maxHeartbeats 4000000 in
set_option maxRecDepth 100000 in
theorem C_0_count {r : Nat → Nat} {v : Dl_} {h : Hp_} {Q : Ot_ → Hp_ → Prop} (D : diR h r v) (k : Q (.inl (some (.int (nI v.1.length)))) h) : gG 2 90 0 0 M_0_count 0 (lv_args 0 [.ref (r 0)]) [] h Q := by
  obtain ⟨v0, ⟨-, -, v1, -⟩, -⟩ := id D
  refine g_aloadn M_0_count d_0_count_0 (by first | rfl | assumption) ?_
  refine g_get M_0_count d_0_count_1 fl_0_14 (by assumption) (by rfl) ?_
  refine gc_V M_0_count 0 0 [] [] d_0_count_4 cv_0_27 v1 (by rfl) (by rfl) (Nat.le_of_ble_eq_true (by rfl)) (Nat.le_of_ble_eq_true (by rfl)) (by decide) (by decide) (by decide) (by decide) (C_8_count v1 ?_)
  exact g_iret M_0_count d_0_count_7 rfl rfl k
set_option maxHeartbeats 4000000 in
set_option maxRecDepth 100000 in
theorem C_0_add {r : Nat → Nat} {v : Dl_} {we le wa la : Nat} {e a : List Nat} {c : Int32} {h : Hp_} {Q : Ot_ → Hp_ → Prop} (s : sepR r 8) (D : diR h r v) (E : wdR h we le e) (AD : wdR h wa la a) (he : e.length ≤ 4) (ha : a.length ≤ 4) (o1 : offR r 8 we) (o2 : offR r 8 le) (o3 : offR r 8 wa) (o4 : offR r 8 la)
    (kf : 12 ≤ v.1.length → Q (.inl (some (.int 0))) h) (kt : v.1.length < 12 → ∀ h', gExt h h' ((List.range 8).map r) [] → diR h' r (v.1 ++ [e], v.2.1 ++ [a], v.2.2 ++ [c]) → Q (.inl (some (.int 1))) h') : gG 4 170 0 0 M_0_add 0 (lv_args 0 [.ref (r 0), .ref we, .ref wa, .int c]) [] h Q := by
  obtain ⟨v0, W1, W2, ⟨-, g, hg, hgv⟩, l1, l2⟩ := id D
  have hlen : v.1.length ≤ 12 := W1.1
  have mr : ∀ k, k < 8 → r k ∈ (List.range 8).map r := fun k hk => List.mem_map.mpr ⟨k, List.mem_range.mpr hk, rfl⟩
  refine g_aloadn M_0_add d_0_add_0 (by first | rfl | assumption) ?_
  refine gc_V M_0_add 0 0 [] [] d_0_add_1 cv_0_31 v0 (by rfl) (by rfl) (Nat.le_of_ble_eq_true (by rfl)) (Nat.le_of_ble_eq_true (by rfl)) (by decide) (by decide) (by decide) (by decide) (C_0_count D ?_)
  show gG _ _ _ _ _ _ _ _ _ _
  refine g_istore M_0_add d_0_add_4 (by decide) (by first | rfl | (simp only [gc]; simp [*])) ?_
  refine g_iload M_0_add d_0_add_6 (by first | rfl | assumption) ?_
  refine g_if_lt M_0_add (tgt := 21) d_0_add_8 (by decide) (fun c9 => absurd c9 (nI_pos (by omega))) (fun _ => ?_)
  refine g_iload M_0_add d_0_add_11 (by first | rfl | assumption) ?_
  refine g_aloadn M_0_add d_0_add_13 (by first | rfl | assumption) ?_
  refine g_get M_0_add d_0_add_14 fl_0_23 (by assumption) (by rfl) ?_
  refine g_alen M_0_add d_0_add_17 (by assumption) ?_
  refine g_icmp_lt M_0_add (tgt := 23) d_0_add_18 (by decide) (fun c9 => ?_) (fun c9 => ?_)
  · rw [nI_ltI (by omega) (by omega)] at c9
    refine g_aloadn M_0_add d_0_add_23 (by first | rfl | assumption) ?_
    refine g_get M_0_add d_0_add_24 fl_0_23 (by assumption) (by rfl) ?_
    refine g_iload M_0_add d_0_add_27 (by first | rfl | assumption) ?_
    refine g_iloadn M_0_add d_0_add_29 (by first | rfl | assumption) ?_
    refine e_ias M_0_add d_0_add_30 hg (vp_in_nI (by omega) (by decide)) (fun h1 g1 e1 => ?_)
    rw [nI_cl (by omega), ← l2] at g1
    have N1 := nm_set (by omega) hgv g1
    have W1' := W1.keep e1 (by simpa using s.ne 1 7 (by decide) (by decide) (by decide)) (by simpa using s.ne 2 7 (by decide) (by decide) (by decide)) (by simpa using s.ne 3 7 (by decide) (by decide) (by decide))
    have W2' := W2.keep e1 (by simpa using s.ne 4 7 (by decide) (by decide) (by decide)) (by simpa using s.ne 5 7 (by decide) (by decide) (by decide)) (by simpa using s.ne 6 7 (by decide) (by decide) (by decide))
    have v0' := e1.keep v0 (by simpa using s.ne 0 7 (by decide) (by decide) (by decide))
    have E' := E.keep e1 (by simpa using o1 7 (by decide)) (by simpa using o2 7 (by decide))
    have AD' := AD.keep e1 (by simpa using o3 7 (by decide)) (by simpa using o4 7 (by decide))
    refine g_aloadn M_0_add d_0_add_31 (by first | rfl | assumption) ?_
    refine g_get M_0_add d_0_add_32 fl_0_14 (by assumption) (by rfl) ?_
    refine g_aloadn M_0_add d_0_add_35 (by first | rfl | assumption) ?_
    refine gc_V M_0_add 0 0 [.ref we] [] d_0_add_36 cv_0_32 W1'.2.2.1 (by rfl) (by rfl) (Nat.le_of_ble_eq_true (by rfl)) (Nat.le_of_ble_eq_true (by rfl)) (by decide) (by decide) (by decide) (by decide) (C_8_add (by decide) (by decide) W1' E' he (s.ne 1 2 (by decide) (by decide) (by decide)) (s.ne 1 3 (by decide) (by decide) (by decide)) (s.ne 2 3 (by decide) (by decide) (by decide)) ⟨o1 1 (by decide), o1 2 (by decide), o1 3 (by decide)⟩ ⟨o2 1 (by decide), o2 2 (by decide), o2 3 (by decide)⟩ (fun q => absurd q (by omega)) (fun _ h2 e2 W1b => ?_))
    have v0b := e2.keep v0' (by simpa using ⟨s.ne 0 1 (by decide) (by decide) (by decide), s.ne 0 2 (by decide) (by decide) (by decide), s.ne 0 3 (by decide) (by decide) (by decide)⟩)
    have W2b := W2'.keep e2 (by simpa using ⟨s.ne 4 1 (by decide) (by decide) (by decide), s.ne 4 2 (by decide) (by decide) (by decide), s.ne 4 3 (by decide) (by decide) (by decide)⟩) (by simpa using ⟨s.ne 5 1 (by decide) (by decide) (by decide), s.ne 5 2 (by decide) (by decide) (by decide), s.ne 5 3 (by decide) (by decide) (by decide)⟩) (by simpa using ⟨s.ne 6 1 (by decide) (by decide) (by decide), s.ne 6 2 (by decide) (by decide) (by decide), s.ne 6 3 (by decide) (by decide) (by decide)⟩)
    have N1b := N1.keep e2 (by simpa using ⟨s.ne 7 1 (by decide) (by decide) (by decide), s.ne 7 2 (by decide) (by decide) (by decide), s.ne 7 3 (by decide) (by decide) (by decide)⟩)
    have ADb := AD'.keep e2 (by simpa using ⟨o3 1 (by decide), o3 2 (by decide), o3 3 (by decide)⟩) (by simpa using ⟨o4 1 (by decide), o4 2 (by decide), o4 3 (by decide)⟩)
    refine g_if_eq M_0_add (tgt := 57) d_0_add_39 (by decide) (fun c9 => absurd c9 (by decide)) (fun _ => ?_)
    refine g_aloadn M_0_add d_0_add_42 (by first | rfl | assumption) ?_
    refine g_get M_0_add d_0_add_43 fl_0_20 (by assumption) (by rfl) ?_
    refine g_aloadn M_0_add d_0_add_46 (by first | rfl | assumption) ?_
    refine gc_V M_0_add 0 0 [.ref wa] [] d_0_add_47 cv_0_32 W2b.2.2.1 (by rfl) (by rfl) (Nat.le_of_ble_eq_true (by rfl)) (Nat.le_of_ble_eq_true (by rfl)) (by decide) (by decide) (by decide) (by decide) (C_8_add (by decide) (by decide) W2b ADb ha (s.ne 4 5 (by decide) (by decide) (by decide)) (s.ne 4 6 (by decide) (by decide) (by decide)) (s.ne 5 6 (by decide) (by decide) (by decide)) ⟨o3 4 (by decide), o3 5 (by decide), o3 6 (by decide)⟩ ⟨o4 4 (by decide), o4 5 (by decide), o4 6 (by decide)⟩ (fun q => absurd q (by omega)) (fun _ h3 e3 W2c => ?_))
    have off : ∀ x : Nat, x ≠ 4 → x ≠ 5 → x ≠ 6 → x < 8 → r x ∉ [r 4, r 5, r 6] := fun x a1 a2 a3 a4 => by simpa using ⟨s.ne x 4 a4 (by decide) a1, s.ne x 5 a4 (by decide) a2, s.ne x 6 a4 (by decide) a3⟩
    refine g_if_eq M_0_add (tgt := 57) d_0_add_50 (by decide) (fun c9 => absurd c9 (by decide)) (fun _ => ?_)
    refine g_iconst M_0_add (v := 1) d_0_add_53 (by decide) ?_
    refine g_goto M_0_add (tgt := 58) d_0_add_54 (by decide) ?_
    refine g_iret M_0_add d_0_add_58 rfl (by decide) (kt c9 h3 ?_ ⟨e3.keep v0b (off 0 (by decide) (by decide) (by decide) (by decide)), W1b.keep e3 (off 1 (by decide) (by decide) (by decide) (by decide)) (off 2 (by decide) (by decide) (by decide) (by decide)) (off 3 (by decide) (by decide) (by decide) (by decide)), W2c, N1b.keep e3 (off 7 (by decide) (by decide) (by decide) (by decide)), by simp [l1], by simp [l2]⟩)
    have sub : ∀ l : List Nat, (∀ x ∈ l, ∃ k, k < 8 ∧ x = r k) → ∀ x ∈ l, x ∈ (List.range 8).map r ∨ x ∈ ([] : List Nat) := fun l hl x hx => by
      obtain ⟨k, hk, rfl⟩ := hl x hx
      exact Or.inl (mr k hk)
    have t1 := (e1.weak (S' := (List.range 8).map r) (fun x hx => by rw [List.mem_singleton.mp hx]; exact mr 7 (by decide)))
    have t2 := t1.trans e2 (sub _ (fun x hx => by
      simp only [List.mem_cons, List.not_mem_nil, or_false] at hx
      rcases hx with rfl | rfl | rfl
      · exact ⟨1, by decide, rfl⟩
      · exact ⟨2, by decide, rfl⟩
      · exact ⟨3, by decide, rfl⟩))
    exact t2.trans e3 (sub _ (fun x hx => by
      simp only [List.mem_cons, List.not_mem_nil, or_false] at hx
      rcases hx with rfl | rfl | rfl
      · exact ⟨4, by decide, rfl⟩
      · exact ⟨5, by decide, rfl⟩
      · exact ⟨6, by decide, rfl⟩))
  · have hge : 12 ≤ v.1.length := by
      rcases Nat.lt_or_ge v.1.length 12 with q | q
      · exact absurd (nI_lt q (by decide)) c9
      · exact q
    refine g_iconst M_0_add (v := 0) d_0_add_21 (by decide) ?_
    exact g_iret M_0_add d_0_add_22 rfl (by decide) (kf hge)
