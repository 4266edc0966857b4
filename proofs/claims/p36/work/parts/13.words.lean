set_option maxHeartbeats 4000000 in
set_option maxRecDepth 100000 in
theorem C_7_length {a : Nat} {v : Value} {n : Int32} {h : Hp_} {Q : Ot_ → Hp_ → Prop} (h0 : h a = some (.inr (7, [v, .int n]))) (k : Q (.inl (some (.int n))) h) : gG 1 60 0 0 M_7_length 0 (lv_args 0 [.ref a]) [] h Q := by
  refine g_aloadn M_7_length d_7_length_0 (by first | rfl | assumption) ?_
  refine g_get M_7_length d_7_length_1 fl_7_15 (by assumption) (by rfl) ?_
  exact g_iret M_7_length d_7_length_4 rfl rfl k
set_option maxHeartbeats 4000000 in
set_option maxRecDepth 100000 in
theorem C_7_letter {a la j : Nat} {w : List Nat} {h : Hp_} {Q : Ot_ → Hp_ → Prop} (R : wdR h a la w) (hj : j < 2 ^ 31) (k : Q (.inl (some (.int (nI (w.getD j 0))))) h) : gG 1 60 0 0 M_7_letter 0 (lv_args 0 [.ref a, .int (nI j)]) [] h Q := by
  obtain ⟨⟨hn, hx⟩, v, f, g, hc, hf⟩ := id R
  have out : ¬ j < w.length → gG 1 60 0 0 M_7_letter 25 (lv_args 0 [.ref a, .int (nI j)]) [] h Q := by
    intro hlt
    have e0 : w.getD j 0 = 0 := by rw [List.getD_eq_getElem?_getD, List.getElem?_eq_none (by omega)]; rfl
    rw [e0] at k
    refine g_iconst M_7_letter (v := nI 0) d_7_letter_25 (by decide) ?_
    refine g_istoren M_7_letter d_7_letter_26 (by decide) (by first | rfl | (simp only [gc]; simp [*])) ?_
    refine g_iloadn M_7_letter d_7_letter_27 (by first | rfl | assumption) ?_
    refine g_if_eq M_7_letter (tgt := 40) d_7_letter_28 (by decide) (fun _ => ?_) (fun c => absurd rfl c)
    refine g_iconst M_7_letter (v := nI 0) d_7_letter_40 (by decide) ?_
    exact g_iret M_7_letter d_7_letter_41 rfl (by decide) k
  refine g_iloadn M_7_letter d_7_letter_0 (by first | rfl | assumption) ?_
  refine g_if_lt M_7_letter (tgt := 25) d_7_letter_1 (by decide) (fun c => absurd c (nI_pos hj)) (fun _ => ?_)
  refine g_iloadn M_7_letter d_7_letter_4 (by first | rfl | assumption) ?_
  refine g_aloadn M_7_letter d_7_letter_5 (by first | rfl | assumption) ?_
  refine g_get M_7_letter d_7_letter_6 fl_7_15 (by assumption) (by rfl) ?_
  refine g_icmp_ge M_7_letter (tgt := 25) d_7_letter_9 (by decide) (fun c => out (by rw [nI_leI (by omega) hj] at c; omega)) (fun c => ?_)
  have hlt : j < w.length := by
    rcases Nat.lt_or_ge j w.length with q | q
    · exact q
    · exact absurd (nI_le q hj) c
  refine g_iloadn M_7_letter d_7_letter_12 (by first | rfl | assumption) ?_
  refine g_aloadn M_7_letter d_7_letter_13 (by first | rfl | assumption) ?_
  refine g_get M_7_letter d_7_letter_14 fl_7_9 (by assumption) (by rfl) ?_
  refine g_alen M_7_letter d_7_letter_17 (by assumption) ?_
  refine g_icmp_ge M_7_letter (tgt := 25) d_7_letter_18 (by decide) (fun c => absurd c (nI_ge (by omega) (by decide))) (fun _ => ?_)
  refine g_iconst M_7_letter (v := nI 1) d_7_letter_21 (by decide) ?_
  refine g_goto M_7_letter (tgt := 26) d_7_letter_22 (by decide) ?_
  refine g_istoren M_7_letter d_7_letter_26 (by decide) (by first | rfl | (simp only [gc]; simp [*])) ?_
  refine g_iloadn M_7_letter d_7_letter_27 (by first | rfl | assumption) ?_
  refine g_if_eq M_7_letter (tgt := 40) d_7_letter_28 (by decide) (fun c => absurd c (by decide)) (fun _ => ?_)
  refine g_aloadn M_7_letter d_7_letter_31 (by first | rfl | assumption) ?_
  refine g_get M_7_letter d_7_letter_32 fl_7_9 (by assumption) (by rfl) ?_
  refine g_iloadn M_7_letter d_7_letter_35 (by first | rfl | assumption) ?_
  refine g_caload M_7_letter d_7_letter_36 g (vp_in_nI (by omega) (by decide)) ?_
  rw [nI_cl hj, hf j hlt]
  refine g_goto M_7_letter (tgt := 41) d_7_letter_37 (by decide) ?_
  exact g_iret M_7_letter d_7_letter_41 rfl (gCh_n (gCh_of (R.1.get j))) k
theorem getD_app {w : List Nat} {c j : Nat} : (w ++ [c]).getD j 0 = if j = w.length then c else w.getD j 0 := by
  simp only [List.getD_eq_getElem?_getD, List.getElem?_append]
  by_cases h1 : j < w.length
  · rw [if_pos h1, if_neg (by omega)]
  · rw [if_neg h1]
    by_cases h2 : j = w.length
    · rw [if_pos h2, h2]; simp
    · rw [if_neg h2, List.getElem?_eq_none (by simp; omega), List.getElem?_eq_none (by omega)]
set_option maxHeartbeats 4000000 in
set_option maxRecDepth 100000 in
theorem C_7_append {a la c : Nat} {w : List Nat} {h : Hp_} {Q : Ot_ → Hp_ → Prop} (R : wdR h a la w) (hn : w.length < 16) (hc : c < 65536) (hne : a ≠ la) (k : ∀ h', gExt h h' [a, la] [] → wdR h' a la (w ++ [c]) → Q (.inl none) h') : gG 1 60 0 0 M_7_append 0 (lv_args 0 [.ref a, .int (nI c)]) [] h Q := by
  obtain ⟨⟨h16, hx⟩, v, f, g, hcc, hf⟩ := id R
  refine g_aloadn M_7_append d_7_append_0 (by first | rfl | assumption) ?_
  refine g_get M_7_append d_7_append_1 fl_7_15 (by assumption) (by rfl) ?_
  refine g_if_lt M_7_append (tgt := 39) d_7_append_4 (by decide) (fun c => absurd c (nI_pos (by omega))) (fun _ => ?_)
  refine g_aloadn M_7_append d_7_append_7 (by first | rfl | assumption) ?_
  refine g_get M_7_append d_7_append_8 fl_7_15 (by assumption) (by rfl) ?_
  refine g_aloadn M_7_append d_7_append_11 (by first | rfl | assumption) ?_
  refine g_get M_7_append d_7_append_12 fl_7_9 (by assumption) (by rfl) ?_
  refine g_alen M_7_append d_7_append_15 (by assumption) ?_
  refine g_icmp_ge M_7_append (tgt := 39) d_7_append_16 (by decide) (fun c => absurd c (nI_ge (by omega) (by decide))) (fun _ => ?_)
  refine g_aloadn M_7_append d_7_append_19 (by first | rfl | assumption) ?_
  refine g_get M_7_append d_7_append_20 fl_7_9 (by assumption) (by rfl) ?_
  refine g_aloadn M_7_append d_7_append_23 (by first | rfl | assumption) ?_
  refine g_get M_7_append d_7_append_24 fl_7_15 (by assumption) (by rfl) ?_
  refine g_iloadn M_7_append d_7_append_27 (by first | rfl | assumption) ?_
  refine e_cas M_7_append d_7_append_28 g (vp_in_nI (by omega) (by decide)) (gCh_n (gCh_of hc)) (fun h1 g1 e1 => ?_)
  have v1 := e1.keep v (by simpa using hne)
  refine g_aloadn M_7_append d_7_append_29 (by first | rfl | assumption) ?_
  refine g_dup M_7_append d_7_append_30 (by rfl) ?_
  refine g_get M_7_append d_7_append_31 fl_7_15 (by assumption) (by rfl) ?_
  refine g_iconst M_7_append (v := nI 1) d_7_append_34 (by decide) ?_
  refine g_iadd M_7_append d_7_append_35 ?_
  refine g_top M_7_append (congrArg Value.int (nI_1 w.length)) ?_
  refine e_put M_7_append d_7_append_36 pt_7_15 v1 (by rfl) (by rfl) (fun h2 v2 e2 => ?_)
  refine g_vret M_7_append d_7_append_39 rfl (k _ ((e1.weak (S' := [a, la]) (by simp)).trans e2 (by simp)) ⟨⟨by simp; omega, fun x hx9 => ?_⟩, by simpa using v2, _, e2.keep g1 (by simpa using hne.symm), fun j hj => ?_, fun j hj => ?_⟩)
  · rcases List.mem_append.mp hx9 with q | q
    · exact hx x q
    · rw [List.mem_singleton.mp q]; exact hc
  · unfold upd
    split
    · exact gCh_of hc
    · exact hcc j hj
  · rw [getD_app, nI_cl (by omega)]
    unfold upd
    simp only [List.length_append, List.length_cons, List.length_nil] at hj
    by_cases q : j = w.length
    · rw [if_pos q, if_pos q]
    · rw [if_neg q, if_neg q]
      exact hf j (by omega)
set_option maxHeartbeats 4000000 in
set_option maxRecDepth 100000 in
theorem C_8_count {a : Nat} {v1 v2 v3 : Value} {n : Int32} {h : Hp_} {Q : Ot_ → Hp_ → Prop} (h0 : h a = some (.inr (8, [v1, v2, v3, .int n]))) (k : Q (.inl (some (.int n))) h) : gG 1 60 0 0 M_8_count 0 (lv_args 0 [.ref a]) [] h Q := by
  refine g_aloadn M_8_count d_8_count_0 (by first | rfl | assumption) ?_
  refine g_get M_8_count d_8_count_1 fl_8_29 (by assumption) (by rfl) ?_
  exact g_iret M_8_count d_8_count_4 rfl rfl k
def bI (b : Bool) : Int32 := if b then 1 else 0
theorem bI_n (b : Bool) : narrow .boolean (.int (bI b)) = .int (bI b) := by cases b <;> decide
set_option maxHeartbeats 4000000 in
set_option maxRecDepth 100000 in
theorem C_8_isFull {a la na rows width : Nat} {ws : List (List Nat)} {h : Hp_} {Q : Ot_ → Hp_ → Prop} (R : wsR h a la na rows width ws) (hr : rows ≤ 30) (k : Q (.inl (some (.int (bI (decide (rows ≤ ws.length)))))) h) : gG 1 60 0 0 M_8_isFull 0 (lv_args 0 [.ref a]) [] h Q := by
  obtain ⟨hlen, hok, v, f, g, gl9, gn, hch, hall⟩ := id R
  refine g_aloadn M_8_isFull d_8_isFull_0 (by first | rfl | assumption) ?_
  refine g_get M_8_isFull d_8_isFull_1 fl_8_29 (by assumption) (by rfl) ?_
  refine g_aloadn M_8_isFull d_8_isFull_4 (by first | rfl | assumption) ?_
  refine g_get M_8_isFull d_8_isFull_5 fl_8_25 (by assumption) (by rfl) ?_
  refine g_alen M_8_isFull d_8_isFull_8 (by assumption) ?_
  refine g_icmp_lt M_8_isFull (tgt := 16) d_8_isFull_9 (by decide) (fun c => ?_) (fun c => ?_)
  · rw [nI_ltI (by omega) (by omega)] at c
    rw [decide_eq_false (by omega)] at k
    refine g_iconst M_8_isFull (v := nI 0) d_8_isFull_16 (by decide) ?_
    exact g_iret M_8_isFull d_8_isFull_17 rfl (by decide) k
  · rw [nI_ltI (by omega) (by omega)] at c
    rw [decide_eq_true (by omega)] at k
    refine g_iconst M_8_isFull (v := nI 1) d_8_isFull_12 (by decide) ?_
    refine g_goto M_8_isFull (tgt := 17) d_8_isFull_13 (by decide) ?_
    exact g_iret M_8_isFull d_8_isFull_17 rfl (by decide) k
