/-! ===== calls on the mint as made ===== -/
def gChg (L : Nat → Nat → Nat) (h h' : Hp_) : Prop := ∀ y v, h y = some v → (∀ i j, okL i j → y ≠ L i j) → h' y = some v
theorem gChg.rfl' {L : Nat → Nat → Nat} {h : Hp_} : gChg L h h := fun _ _ q _ => q
theorem gChg.of {L : Nat → Nat → Nat} {h h' : Hp_} {S A : List Nat} (e : gExt h h' S A) (hs : ∀ x ∈ S, ∃ i j, okL i j ∧ x = L i j) : gChg L h h' := fun y v q n => e.keep q (fun m => by
  obtain ⟨i, j, h1, h2⟩ := hs y m
  exact n i j h1 h2)
theorem gChg.tr {L : Nat → Nat → Nat} {h h1 h2 : Hp_} (a : gChg L h h1) (b : gChg L h1 h2) : gChg L h h2 := fun y v q n => b y v (a y v q n) n
theorem ok0 {j : Nat} (h : j < 23) : okL 0 j := Or.inl ⟨rfl, h⟩
theorem okB {i j : Nat} (h1 : 1 ≤ i) (h2 : i ≤ 7) (h : j < 24) : okL i j := Or.inr ⟨h1, h2, h⟩
theorem gChg.blk {L : Nat → Nat → Nat} {h h' : Hp_} {A : List Nat} {i : Nat} (h1 : 1 ≤ i) (h2 : i ≤ 7) (e : gExt h h' ((List.range 24).map (L i)) A) : gChg L h h' := gChg.of e (fun x hx => by
  obtain ⟨j, hj, rfl⟩ := List.mem_map.mp hx
  exact ⟨i, j, okB h1 h2 (List.mem_range.mp hj), rfl⟩)
theorem gChg.one {L : Nat → Nat → Nat} {h h' : Hp_} {A : List Nat} {i j : Nat} (o : okL i j) (e : gExt h h' [L i j] A) : gChg L h h' := gChg.of e (fun x hx => ⟨i, j, o, List.mem_singleton.mp hx⟩)
theorem sepL.r {L : Nat → Nat → Nat} (s : sepL L) {i : Nat} (h1 : 1 ≤ i) (h2 : i ≤ 7) : sepR (L i) 24 := fun j k hj hk e => (s _ _ _ _ (okB h1 h2 hj) (okB h1 h2 hk) e).2
theorem sepL.off {L : Nat → Nat → Nat} (s : sepL L) {i i' : Nat} (h1 : 1 ≤ i) (h2 : i ≤ 7) (h3 : 1 ≤ i') (h4 : i' ≤ 7) (n : i ≠ i') : offM (L i) (L i') 24 := fun j k hj hk e => n (s _ _ _ _ (okB h1 h2 hj) (okB h3 h4 hk) e).1
theorem i32_01 {x : Int32} (h1 : ¬ x < 0) (h2 : x < nI 1) : x = 0 := by
  have h2' : x < 1 := h2
  rw [Int32.lt_iff_toInt_lt] at h1 h2'
  apply Int32.toInt_inj.mp
  have e0 : (0 : Int32).toInt = 0 := by decide
  have e1 : (1 : Int32).toInt = 1 := by decide
  omega
abbrev IOB_ : String := "java/lang/IndexOutOfBoundsException"
abbrev ISE_ : String := "java/lang/IllegalStateException"

set_option maxHeartbeats 4000000 in
set_option maxRecDepth 100000 in
theorem C_5_length {a : Nat} {v w : Value} {n : Int32} {h : Hp_} {Q : Ot_ → Hp_ → Prop} (h0 : h a = some (.inr (5, [v, .int n, w]))) (k : Q (.inl (some (.int n))) h) : gG 1 60 0 0 M_5_length 0 (lv_args 0 [.ref a]) [] h Q := by
  refine g_aloadn M_5_length d_5_length_0 (by first | rfl | assumption) ?_
  refine g_get M_5_length d_5_length_1 fl_5_22 (by assumption) (by rfl) ?_
  exact g_iret M_5_length d_5_length_4 rfl rfl k
set_option maxHeartbeats 4000000 in
set_option maxRecDepth 100000 in
theorem C_3_count {a : Nat} {v : Value} {n : Int32} {h : Hp_} {Q : Ot_ → Hp_ → Prop} (h0 : h a = some (.inr (3, [v, .int n]))) (k : Q (.inl (some (.int n))) h) : gG 1 60 0 0 M_3_count 0 (lv_args 0 [.ref a]) [] h Q := by
  refine g_aloadn M_3_count d_3_count_0 (by first | rfl | assumption) ?_
  refine g_get M_3_count d_3_count_1 fl_3_18 (by assumption) (by rfl) ?_
  exact g_iret M_3_count d_3_count_4 rfl rfl k
set_option maxHeartbeats 4000000 in
set_option maxRecDepth 100000 in
theorem C_2_count {r : Nat → Nat} {v : Hl_} {h : Hp_} {Q : Ot_ → Hp_ → Prop} (D : heR h r v) (k : Q (.inl (some (.int (nI v.1.length)))) h) : gG 2 90 0 0 M_2_count 0 (lv_args 0 [.ref (r 0)]) [] h Q := by
  obtain ⟨v0, ⟨-, -, v1, -⟩, -⟩ := id D
  refine g_aloadn M_2_count d_2_count_0 (by first | rfl | assumption) ?_
  refine g_get M_2_count d_2_count_1 fl_2_14 (by assumption) (by rfl) ?_
  refine gc_V M_2_count 0 0 [] [] d_2_count_4 cv_2_27 v1 (by rfl) (by rfl) (Nat.le_of_ble_eq_true (by rfl)) (Nat.le_of_ble_eq_true (by rfl)) (by decide) (by decide) (by decide) (by decide) (C_8_count v1 ?_)
  exact g_iret M_2_count d_2_count_7 rfl rfl k
set_option maxHeartbeats 4000000 in
set_option maxRecDepth 100000 in
theorem C_5_isFull {a s n : Nat} {w : Value} {f : Nat → Int32} {h : Hp_} {Q : Ot_ → Hp_ → Prop} (hn : n ≤ 60) (h0 : h a = some (.inr (5, [.ref s, .int (nI n), w]))) (h1 : h s = some (.inl (false, .char, (60, .inl f)))) (k : Q (.inl (some (.int (bI (decide (60 ≤ n)))))) h) : gG 1 60 0 0 M_5_isFull 0 (lv_args 0 [.ref a]) [] h Q := by
  refine g_aloadn M_5_isFull d_5_isFull_0 (by first | rfl | assumption) ?_
  refine g_get M_5_isFull d_5_isFull_1 fl_5_22 (by assumption) (by rfl) ?_
  refine g_aloadn M_5_isFull d_5_isFull_4 (by first | rfl | assumption) ?_
  refine g_get M_5_isFull d_5_isFull_5 fl_5_9 (by assumption) (by rfl) ?_
  refine g_alen M_5_isFull d_5_isFull_8 (by assumption) ?_
  refine g_icmp_lt M_5_isFull (tgt := 16) d_5_isFull_9 (by decide) (fun c => ?_) (fun c => ?_)
  · rw [nI_ltI (by omega) (by decide)] at c
    rw [show decide (60 ≤ n) = false from decide_eq_false (by omega)] at k
    refine g_iconst M_5_isFull (v := nI 0) d_5_isFull_16 (by decide) ?_
    exact g_iret M_5_isFull d_5_isFull_17 rfl (by decide) k
  · rw [nI_ltI (by omega) (by decide)] at c
    rw [show decide (60 ≤ n) = true from decide_eq_true (by omega)] at k
    refine g_iconst M_5_isFull (v := nI 1) d_5_isFull_12 (by decide) ?_
    refine g_goto M_5_isFull (tgt := 17) d_5_isFull_13 (by decide) ?_
    exact g_iret M_5_isFull d_5_isFull_17 rfl (by decide) k
set_option maxHeartbeats 4000000 in
set_option maxRecDepth 100000 in
theorem C_5_append {t s g c : Nat} {tx : List Nat} {h : Hp_} {Q : Ot_ → Hp_ → Prop} (R : txR h t s g tx) (hn : tx.length < 60) (hc : c < 65536) (n1 : t ≠ s) (n2 : g ≠ t) (n3 : g ≠ s) (k : ∀ h', gExt h h' [t, s] [] → txR h' t s g (tx ++ [c]) → Q (.inl none) h') : gG 1 60 0 0 M_5_append 0 (lv_args 0 [.ref t, .int (nI c)]) [] h Q := by
  obtain ⟨⟨h16, hx⟩, v, ⟨f, g1, hcc, hf⟩, p, l, hg⟩ := id R
  refine g_aloadn M_5_append d_5_append_0 (by first | rfl | assumption) ?_
  refine g_get M_5_append d_5_append_1 fl_5_22 (by assumption) (by rfl) ?_
  refine g_if_lt M_5_append (tgt := 39) d_5_append_4 (by decide) (fun c => absurd c (nI_pos (by omega))) (fun _ => ?_)
  refine g_aloadn M_5_append d_5_append_7 (by first | rfl | assumption) ?_
  refine g_get M_5_append d_5_append_8 fl_5_22 (by assumption) (by rfl) ?_
  refine g_aloadn M_5_append d_5_append_11 (by first | rfl | assumption) ?_
  refine g_get M_5_append d_5_append_12 fl_5_9 (by assumption) (by rfl) ?_
  refine g_alen M_5_append d_5_append_15 (by assumption) ?_
  refine g_icmp_ge M_5_append (tgt := 39) d_5_append_16 (by decide) (fun c => absurd c (nI_ge (by omega) (by decide))) (fun _ => ?_)
  refine g_aloadn M_5_append d_5_append_19 (by first | rfl | assumption) ?_
  refine g_get M_5_append d_5_append_20 fl_5_9 (by assumption) (by rfl) ?_
  refine g_aloadn M_5_append d_5_append_23 (by first | rfl | assumption) ?_
  refine g_get M_5_append d_5_append_24 fl_5_22 (by assumption) (by rfl) ?_
  refine g_iloadn M_5_append d_5_append_27 (by first | rfl | assumption) ?_
  refine e_cas M_5_append d_5_append_28 g1 (vp_in_nI (by omega) (by decide)) (gCh_n (gCh_of hc)) (fun h1 u1 e1 => ?_)
  rw [nI_cl (by omega)] at u1
  have v1 := e1.keep v (by simpa using n1)
  refine g_aloadn M_5_append d_5_append_29 (by first | rfl | assumption) ?_
  refine g_dup M_5_append d_5_append_30 (by rfl) ?_
  refine g_get M_5_append d_5_append_31 fl_5_22 (by assumption) (by rfl) ?_
  refine g_iconst M_5_append (v := nI 1) d_5_append_34 (by decide) ?_
  refine g_iadd M_5_append d_5_append_35 ?_
  refine e_put M_5_append d_5_append_36 pt_5_22 v1 (by rfl) (by rfl) (fun h2 v2 e2 => ?_)
  have u2 := e2.keep u1 (by simpa using n1.symm)
  have e := (e1.weak (S' := [t, s]) (by simp)).trans e2 (by simp)
  have hl : nI tx.length + nI 1 = nI (tx ++ [c]).length := by
    rw [List.length_append]
    exact nI_add _ _
  refine g_vret M_5_append d_5_append_39 rfl (k h2 (by simpa using e) ⟨⟨by simp; omega, fun x hx2 => ?_⟩, by rw [← hl]; exact v2, ⟨_, u2, fun j hj => ?_, fun j hj => ?_⟩, p, l, e2.keep (e1.keep hg (by simpa using n3)) (by simpa using n2)⟩)
  · rcases List.mem_append.mp hx2 with q | q
    · exact hx x q
    · rw [List.mem_singleton.mp q]; exact hc
  · unfold upd
    split
    · exact gCh_of hc
    · exact hcc j hj
  · rw [getD_app]
    unfold upd
    simp only [List.length_append, List.length_cons, List.length_nil] at hj
    split
    · rfl
    · exact hf j (by omega)
set_option maxHeartbeats 4000000 in
set_option maxRecDepth 100000 in
theorem C_5_clear {a : Nat} {v w : Value} {n : Int32} {h : Hp_} {Q : Ot_ → Hp_ → Prop} (h0 : h a = some (.inr (5, [v, .int n, w]))) (k : ∀ h', gExt h h' [a] [] → h' a = some (.inr (5, [v, .int (nI 0), w])) → Q (.inl none) h') : gG 1 60 0 0 M_5_clear 0 (lv_args 0 [.ref a]) [] h Q := by
  refine g_aloadn M_5_clear d_5_clear_0 (by first | rfl | assumption) ?_
  refine g_iconst M_5_clear (v := nI 0) d_5_clear_1 (by decide) ?_
  refine e_put M_5_clear d_5_clear_2 pt_5_22 h0 (by rfl) (by rfl) (fun h1 v1 e1 => ?_)
  exact g_vret M_5_clear d_5_clear_5 rfl (k h1 e1 v1)
set_option maxHeartbeats 4000000 in
set_option maxRecDepth 100000 in
theorem C_8_clear {a la na rows width : Nat} {ws : List (List Nat)} {h : Hp_} {Q : Ot_ → Hp_ → Prop} (n1 : la ≠ a) (n2 : na ≠ a) (R : wsR h a la na rows width ws) (k : ∀ h', gExt h h' [a] [] → wsR h' a la na rows width [] → Q (.inl none) h') : gG 1 60 0 0 M_8_clear 0 (lv_args 0 [.ref a]) [] h Q := by
  obtain ⟨p1, p2, p3, f, g, p4, p5, p6, p7⟩ := id R
  refine g_aloadn M_8_clear d_8_clear_0 (by first | rfl | assumption) ?_
  refine g_iconst M_8_clear (v := nI 0) d_8_clear_1 (by decide) ?_
  refine e_put M_8_clear d_8_clear_2 pt_8_29 p3 (by rfl) (by rfl) (fun h1 v1 e1 => ?_)
  exact g_vret M_8_clear d_8_clear_5 rfl (k h1 e1 ⟨Nat.zero_le _, fun w hw => (nomatch hw), v1, f, g, e1.keep p4 (by simpa using n1), e1.keep p5 (by simpa using n2), p6, fun i hi => absurd hi (Nat.not_lt_zero i)⟩)
set_option maxHeartbeats 4000000 in
set_option maxRecDepth 100000 in
theorem C_1_start {a : Nat} {p l : Int32} {h : Hp_} {Q : Ot_ → Hp_ → Prop} (h0 : h a = some (.inr (1, [.int p, .int l]))) (k : ∀ h', gExt h h' [a] [] → h' a = some (.inr (1, [.int (nI 0), .int (nI 0)])) → Q (.inl none) h') : gG 1 60 0 0 M_1_start 0 (lv_args 0 [.ref a]) [] h Q := by
  refine g_aloadn M_1_start d_1_start_0 (by first | rfl | assumption) ?_
  refine g_iconst M_1_start (v := nI 0) d_1_start_1 (by decide) ?_
  refine e_put M_1_start d_1_start_2 pt_1_11 h0 (by rfl) (by rfl) (fun h1 v1 e1 => ?_)
  refine g_aloadn M_1_start d_1_start_5 (by first | rfl | assumption) ?_
  refine g_iconst M_1_start (v := nI 0) d_1_start_6 (by decide) ?_
  refine e_put M_1_start d_1_start_7 pt_1_15 v1 (by rfl) (by rfl) (fun h2 v2 e2 => ?_)
  exact g_vret M_1_start d_1_start_10 rfl (k h2 (by simpa using (e1.trans e2 (by simp))) v2)
set_option maxHeartbeats 4000000 in
set_option maxRecDepth 100000 in
theorem C_1_mayEnd0 {a : Nat} {h : Hp_} {Q : Ot_ → Hp_ → Prop} (h0 : h a = some (.inr (1, [.int (nI 0), .int (nI 0)]))) (k : Q (.inl (some (.int 0))) h) : gG 1 60 0 0 M_1_mayEnd 0 (lv_args 0 [.ref a]) [] h Q := by
  refine g_aloadn M_1_mayEnd d_1_mayEnd_0 (by first | rfl | assumption) ?_
  refine g_get M_1_mayEnd d_1_mayEnd_1 fl_1_11 (by assumption) (by rfl) ?_
  refine g_iconst M_1_mayEnd (v := nI 1) d_1_mayEnd_4 (by decide) ?_
  refine g_icmp_eq M_1_mayEnd (tgt := 31) d_1_mayEnd_5 (by decide) (fun c => absurd c (by decide)) (fun _ => ?_)
  refine g_aloadn M_1_mayEnd d_1_mayEnd_8 (by first | rfl | assumption) ?_
  refine g_get M_1_mayEnd d_1_mayEnd_9 fl_1_11 (by assumption) (by rfl) ?_
  refine g_iconst M_1_mayEnd (v := nI 2) d_1_mayEnd_12 (by decide) ?_
  refine g_icmp_eq M_1_mayEnd (tgt := 24) d_1_mayEnd_13 (by decide) (fun c => absurd c (by decide)) (fun _ => ?_)
  refine g_aloadn M_1_mayEnd d_1_mayEnd_16 (by first | rfl | assumption) ?_
  refine g_get M_1_mayEnd d_1_mayEnd_17 fl_1_11 (by assumption) (by rfl) ?_
  refine g_iconst M_1_mayEnd (v := nI 5) d_1_mayEnd_20 (by decide) ?_
  refine g_icmp_ne M_1_mayEnd (tgt := 35) d_1_mayEnd_21 (by decide) (fun _ => ?_) (fun c => absurd c (by decide))
  refine g_iconst M_1_mayEnd (v := nI 0) d_1_mayEnd_35 (by decide) ?_
  exact g_iret M_1_mayEnd d_1_mayEnd_36 rfl (by decide) k
set_option maxHeartbeats 4000000 in
set_option maxRecDepth 100000 in
theorem C_5_firstError0 {t s g : Nat} {p l : Int32} {h : Hp_} {Q : Ot_ → Hp_ → Prop} (n1 : t ≠ g) (h0 : h t = some (.inr (5, [.ref s, .int (nI 0), .ref g]))) (h1 : h g = some (.inr (1, [.int p, .int l]))) (k : ∀ h', gExt h h' [g] [] → Q (.inl (some (.int (nI 0)))) h') : gG 3 110 0 0 M_5_firstError 0 (lv_args 0 [.ref t]) [] h Q := by
  refine g_aloadn M_5_firstError d_5_firstError_0 (by first | rfl | assumption) ?_
  refine g_get M_5_firstError d_5_firstError_1 fl_5_18 (by assumption) (by rfl) ?_
  refine gc_V M_5_firstError 0 0 [] [] d_5_firstError_4 cv_5_26 h1 (by rfl) (by rfl) (Nat.le_of_ble_eq_true (by rfl)) (Nat.le_of_ble_eq_true (by rfl)) (by decide) (by decide) (by decide) (by decide) (C_1_start h1 (fun h2 e2 v2 => ?_))
  have u2 := e2.keep h0 (by simpa using n1)
  show gG _ _ _ _ _ _ _ _ _ _
  refine g_iconst M_5_firstError (v := nI 0) d_5_firstError_7 (by decide) ?_
  refine g_istoren M_5_firstError d_5_firstError_8 (by decide) (by first | rfl | (simp only [gc]; simp [*])) ?_
  refine g_iloadn M_5_firstError d_5_firstError_9 (by first | rfl | assumption) ?_
  refine g_aloadn M_5_firstError d_5_firstError_10 (by first | rfl | assumption) ?_
  refine g_get M_5_firstError d_5_firstError_11 fl_5_22 (by assumption) (by rfl) ?_
  refine g_icmp_ge M_5_firstError (tgt := 40) d_5_firstError_14 (by decide) (fun _ => ?_) (fun c => absurd (show nI 0 ≤ nI 0 by decide) c)
  refine g_aloadn M_5_firstError d_5_firstError_40 (by first | rfl | assumption) ?_
  refine g_get M_5_firstError d_5_firstError_41 fl_5_18 (by assumption) (by rfl) ?_
  refine gc_V M_5_firstError 0 0 [] [] d_5_firstError_44 cv_5_37 v2 (by rfl) (by rfl) (Nat.le_of_ble_eq_true (by rfl)) (Nat.le_of_ble_eq_true (by rfl)) (by decide) (by decide) (by decide) (by decide) (C_1_mayEnd0 v2 ?_)
  show gG _ _ _ _ _ _ _ _ _ _
  refine g_if_eq M_5_firstError (tgt := 54) d_5_firstError_47 (by decide) (fun _ => ?_) (fun c => absurd rfl c)
  refine g_aloadn M_5_firstError d_5_firstError_54 (by first | rfl | assumption) ?_
  refine g_get M_5_firstError d_5_firstError_55 fl_5_22 (by assumption) (by rfl) ?_
  exact g_iret M_5_firstError d_5_firstError_58 rfl rfl (k _ e2)
set_option maxHeartbeats 4000000 in
set_option maxRecDepth 100000 in
theorem C_5_isWord0 {t : Nat} {v w : Value} {h : Hp_} {Q : Ot_ → Hp_ → Prop} (h0 : h t = some (.inr (5, [v, .int (nI 0), w]))) (k : Q (.inl (some (.int 0))) h) : gG 3 110 0 0 M_5_isWord 0 (lv_args 0 [.ref t]) [] h Q := by
  refine g_iconst M_5_isWord (v := nI 0) d_5_isWord_0 (by decide) ?_
  refine g_istoren M_5_isWord d_5_isWord_1 (by decide) (by first | rfl | (simp only [gc]; simp [*])) ?_
  refine g_iloadn M_5_isWord d_5_isWord_2 (by first | rfl | assumption) ?_
  refine g_aloadn M_5_isWord d_5_isWord_3 (by first | rfl | assumption) ?_
  refine g_get M_5_isWord d_5_isWord_4 fl_5_22 (by assumption) (by rfl) ?_
  refine g_icmp_ge M_5_isWord (tgt := 29) d_5_isWord_7 (by decide) (fun _ => ?_) (fun c => absurd (show nI 0 ≤ nI 0 by decide) c)
  refine g_aloadn M_5_isWord d_5_isWord_29 (by first | rfl | assumption) ?_
  refine g_get M_5_isWord d_5_isWord_30 fl_5_22 (by assumption) (by rfl) ?_
  refine g_iconst M_5_isWord (v := nI 1) d_5_isWord_33 (by decide) ?_
  refine g_icmp_lt M_5_isWord (tgt := 50) d_5_isWord_34 (by decide) (fun _ => ?_) (fun c => absurd (show nI 0 < nI 1 by decide) c)
  refine g_iconst M_5_isWord (v := nI 0) d_5_isWord_50 (by decide) ?_
  exact g_iret M_5_isWord d_5_isWord_51 rfl (by decide) k
set_option maxHeartbeats 4000000 in
set_option maxRecDepth 100000 in
theorem C_9_checkNoun {L : Nat → Nat → Nat} {h : Hp_} {Q : Ot_ → Hp_ → Prop} {b : Nat → Nat} {tx : List Nat} {now : Sl_} {snap : Option Sl_} {rc : List Sl_} {x : Int32} (H : mtR h L b tx now snap rc) (kin : ¬ x < 0 → x < nI now.1.length → Q (.inl none) h) (kout : x < 0 ∨ ¬ x < nI now.1.length → Q (.inr IOB_) h) : gG 6 200 1 6 M_9_checkNoun 0 (lv_args 0 [.ref (L 0 0), .int x]) [] h Q := by
  obtain ⟨m0, -, S1, -⟩ := id H
  obtain ⟨a0, a1, a2, a3, a4, a5, -⟩ := id S1
  refine g_iloadn M_9_checkNoun d_9_checkNoun_0 (by first | rfl | assumption) ?_
  refine g_if_lt M_9_checkNoun (tgt := 18) d_9_checkNoun_1 (by decide) (fun c => ?_) (fun c => ?_)
  · exact g_throwW M_9_checkNoun th_9_checkNoun_18 rfl d_9_checkNoun_18 d_9_checkNoun_21 d_9_checkNoun_22 d_9_checkNoun_25 d_9_checkNoun_28 (Nat.le_of_ble_eq_true (by rfl)) (Nat.le_of_ble_eq_true (by rfl)) (Nat.le_of_ble_eq_true (by rfl)) (Nat.le_of_ble_eq_true (by rfl)) (kout (Or.inl c))
  refine g_iloadn M_9_checkNoun d_9_checkNoun_4 (by first | rfl | assumption) ?_
  refine g_aloadn M_9_checkNoun d_9_checkNoun_5 (by first | rfl | assumption) ?_
  refine g_get M_9_checkNoun d_9_checkNoun_6 fl_9_19 (by assumption) (by rfl) ?_
  refine g_get M_9_checkNoun d_9_checkNoun_9 fl_9_212 (by assumption) (by rfl) ?_
  refine gc_V M_9_checkNoun 1 6 [] [.int x] d_9_checkNoun_12 cv_9_165 a1.2.2.1 (by rfl) (by rfl) (Nat.le_of_ble_eq_true (by rfl)) (Nat.le_of_ble_eq_true (by rfl)) (by decide) (by decide) (by decide) (by decide) (C_8_count a1.2.2.1 ?_)
  show gG _ _ _ _ _ _ _ _ _ _
  refine g_icmp_lt M_9_checkNoun (tgt := 29) d_9_checkNoun_15 (by decide) (fun d => ?_) (fun d => ?_)
  · exact g_vret M_9_checkNoun d_9_checkNoun_29 rfl (kin c d)
  exact g_throwW M_9_checkNoun th_9_checkNoun_18 rfl d_9_checkNoun_18 d_9_checkNoun_21 d_9_checkNoun_22 d_9_checkNoun_25 d_9_checkNoun_28 (Nat.le_of_ble_eq_true (by rfl)) (Nat.le_of_ble_eq_true (by rfl)) (Nat.le_of_ble_eq_true (by rfl)) (Nat.le_of_ble_eq_true (by rfl)) (kout (Or.inr d))
set_option maxHeartbeats 4000000 in
set_option maxRecDepth 100000 in
theorem C_9_checkDie {L : Nat → Nat → Nat} {h : Hp_} {Q : Ot_ → Hp_ → Prop} {b : Nat → Nat} {tx : List Nat} {now : Sl_} {snap : Option Sl_} {rc : List Sl_} {x : Int32} (H : mtR h L b tx now snap rc) (kin : ¬ x < 0 → x < nI now.2.2.2.1.1.length → Q (.inl none) h) (kout : x < 0 ∨ ¬ x < nI now.2.2.2.1.1.length → Q (.inr IOB_) h) : gG 6 200 1 6 M_9_checkDie 0 (lv_args 0 [.ref (L 0 0), .int x]) [] h Q := by
  obtain ⟨m0, -, S1, -⟩ := id H
  obtain ⟨a0, a1, a2, a3, a4, a5, -⟩ := id S1
  refine g_iloadn M_9_checkDie d_9_checkDie_0 (by first | rfl | assumption) ?_
  refine g_if_lt M_9_checkDie (tgt := 18) d_9_checkDie_1 (by decide) (fun c => ?_) (fun c => ?_)
  · exact g_throwW M_9_checkDie th_9_checkDie_18 rfl d_9_checkDie_18 d_9_checkDie_21 d_9_checkDie_22 d_9_checkDie_25 d_9_checkDie_28 (Nat.le_of_ble_eq_true (by rfl)) (Nat.le_of_ble_eq_true (by rfl)) (Nat.le_of_ble_eq_true (by rfl)) (Nat.le_of_ble_eq_true (by rfl)) (kout (Or.inl c))
  refine g_iloadn M_9_checkDie d_9_checkDie_4 (by first | rfl | assumption) ?_
  refine g_aloadn M_9_checkDie d_9_checkDie_5 (by first | rfl | assumption) ?_
  refine g_get M_9_checkDie d_9_checkDie_6 fl_9_19 (by assumption) (by rfl) ?_
  refine g_get M_9_checkDie d_9_checkDie_9 fl_9_152 (by assumption) (by rfl) ?_
  refine gc_V M_9_checkDie 1 6 [] [.int x] d_9_checkDie_12 cv_9_161 a4.1 (by rfl) (by rfl) (Nat.le_of_ble_eq_true (by rfl)) (Nat.le_of_ble_eq_true (by rfl)) (by decide) (by decide) (by decide) (by decide) (C_0_count a4 ?_)
  show gG _ _ _ _ _ _ _ _ _ _
  refine g_icmp_lt M_9_checkDie (tgt := 29) d_9_checkDie_15 (by decide) (fun d => ?_) (fun d => ?_)
  · exact g_vret M_9_checkDie d_9_checkDie_29 rfl (kin c d)
  exact g_throwW M_9_checkDie th_9_checkDie_18 rfl d_9_checkDie_18 d_9_checkDie_21 d_9_checkDie_22 d_9_checkDie_25 d_9_checkDie_28 (Nat.le_of_ble_eq_true (by rfl)) (Nat.le_of_ble_eq_true (by rfl)) (Nat.le_of_ble_eq_true (by rfl)) (Nat.le_of_ble_eq_true (by rfl)) (kout (Or.inr d))
set_option maxHeartbeats 4000000 in
set_option maxRecDepth 100000 in
theorem F_strike {L : Nat → Nat → Nat} {h : Hp_} {Q : Ot_ → Hp_ → Prop} {x y : Int32} (H : mtR h L id [] Nw_ none []) (k : Q (.inr IOB_) h) : gG 7 240 1 6 M_9_strike 0 (lv_args 0 [.ref (L 0 0), .int x, .int y]) [] h Q := by
  refine g_aloadn M_9_strike d_9_strike_0 (by first | rfl | assumption) ?_
  refine g_iloadn M_9_strike d_9_strike_1 (by first | rfl | assumption) ?_
  refine gc_V M_9_strike 0 0 [.int x] [] d_9_strike_2 cv_9_71 H.1 (by rfl) (by rfl) (Nat.le_of_ble_eq_true (by rfl)) (Nat.le_of_ble_eq_true (by rfl)) (by decide) (by decide) (by decide) (by decide) (C_9_checkNoun H (fun c d => absurd (show x < 0 from d) c) (fun _ => gx_out _ rfl k))
set_option maxHeartbeats 4000000 in
set_option maxRecDepth 100000 in
theorem F_melt {L : Nat → Nat → Nat} {h : Hp_} {Q : Ot_ → Hp_ → Prop} {x y : Int32} (H : mtR h L id [] Nw_ none []) (k : Q (.inr IOB_) h) : gG 7 240 1 6 M_9_melt 0 (lv_args 0 [.ref (L 0 0), .int x, .int y]) [] h Q := by
  refine g_aloadn M_9_melt d_9_melt_0 (by first | rfl | assumption) ?_
  refine g_iloadn M_9_melt d_9_melt_1 (by first | rfl | assumption) ?_
  refine gc_V M_9_melt 0 0 [.int x] [] d_9_melt_2 cv_9_71 H.1 (by rfl) (by rfl) (Nat.le_of_ble_eq_true (by rfl)) (Nat.le_of_ble_eq_true (by rfl)) (by decide) (by decide) (by decide) (by decide) (C_9_checkNoun H (fun c d => absurd (show x < 0 from d) c) (fun _ => gx_out _ rfl k))
set_option maxHeartbeats 4000000 in
set_option maxRecDepth 100000 in
theorem F_lettersOf {L : Nat → Nat → Nat} {h : Hp_} {Q : Ot_ → Hp_ → Prop} {x : Int32} (H : mtR h L id [] Nw_ none []) (k : Q (.inr IOB_) h) : gG 7 240 1 6 M_9_lettersOf 0 (lv_args 0 [.ref (L 0 0), .int x]) [] h Q := by
  refine g_aloadn M_9_lettersOf d_9_lettersOf_0 (by first | rfl | assumption) ?_
  refine g_iloadn M_9_lettersOf d_9_lettersOf_1 (by first | rfl | assumption) ?_
  refine gc_V M_9_lettersOf 0 0 [.int x] [] d_9_lettersOf_2 cv_9_71 H.1 (by rfl) (by rfl) (Nat.le_of_ble_eq_true (by rfl)) (Nat.le_of_ble_eq_true (by rfl)) (by decide) (by decide) (by decide) (by decide) (C_9_checkNoun H (fun c d => absurd (show x < 0 from d) c) (fun _ => gx_out _ rfl k))
set_option maxHeartbeats 4000000 in
set_option maxRecDepth 100000 in
theorem F_pluralLetters {L : Nat → Nat → Nat} {h : Hp_} {Q : Ot_ → Hp_ → Prop} {x : Int32} (H : mtR h L id [] Nw_ none []) (k : Q (.inr IOB_) h) : gG 7 240 1 6 M_9_pluralLetters 0 (lv_args 0 [.ref (L 0 0), .int x]) [] h Q := by
  refine g_aloadn M_9_pluralLetters d_9_pluralLetters_0 (by first | rfl | assumption) ?_
  refine g_iloadn M_9_pluralLetters d_9_pluralLetters_1 (by first | rfl | assumption) ?_
  refine gc_V M_9_pluralLetters 0 0 [.int x] [] d_9_pluralLetters_2 cv_9_71 H.1 (by rfl) (by rfl) (Nat.le_of_ble_eq_true (by rfl)) (Nat.le_of_ble_eq_true (by rfl)) (by decide) (by decide) (by decide) (by decide) (C_9_checkNoun H (fun c d => absurd (show x < 0 from d) c) (fun _ => gx_out _ rfl k))
set_option maxHeartbeats 4000000 in
set_option maxRecDepth 100000 in
theorem F_pluralLetter {L : Nat → Nat → Nat} {h : Hp_} {Q : Ot_ → Hp_ → Prop} {x y : Int32} (H : mtR h L id [] Nw_ none []) (k : Q (.inr IOB_) h) : gG 7 240 1 6 M_9_pluralLetter 0 (lv_args 0 [.ref (L 0 0), .int x, .int y]) [] h Q := by
  refine g_aloadn M_9_pluralLetter d_9_pluralLetter_0 (by first | rfl | assumption) ?_
  refine g_iloadn M_9_pluralLetter d_9_pluralLetter_1 (by first | rfl | assumption) ?_
  refine gc_V M_9_pluralLetter 0 0 [.int x] [] d_9_pluralLetter_2 cv_9_71 H.1 (by rfl) (by rfl) (Nat.le_of_ble_eq_true (by rfl)) (Nat.le_of_ble_eq_true (by rfl)) (by decide) (by decide) (by decide) (by decide) (C_9_checkNoun H (fun c d => absurd (show x < 0 from d) c) (fun _ => gx_out _ rfl k))
set_option maxHeartbeats 4000000 in
set_option maxRecDepth 100000 in
theorem F_countedLetter {L : Nat → Nat → Nat} {h : Hp_} {Q : Ot_ → Hp_ → Prop} {x y z : Int32} (H : mtR h L id [] Nw_ none []) (k : Q (.inr IOB_) h) : gG 7 240 1 6 M_9_countedLetter 0 (lv_args 0 [.ref (L 0 0), .int x, .int y, .int z]) [] h Q := by
  refine g_aloadn M_9_countedLetter d_9_countedLetter_0 (by first | rfl | assumption) ?_
  refine g_iloadn M_9_countedLetter d_9_countedLetter_1 (by first | rfl | assumption) ?_
  refine gc_V M_9_countedLetter 0 0 [.int x] [] d_9_countedLetter_2 cv_9_71 H.1 (by rfl) (by rfl) (Nat.le_of_ble_eq_true (by rfl)) (Nat.le_of_ble_eq_true (by rfl)) (by decide) (by decide) (by decide) (by decide) (C_9_checkNoun H (fun c d => absurd (show x < 0 from d) c) (fun _ => gx_out _ rfl k))
set_option maxHeartbeats 4000000 in
set_option maxRecDepth 100000 in
theorem F_isIrregular {L : Nat → Nat → Nat} {h : Hp_} {Q : Ot_ → Hp_ → Prop} {x : Int32} (H : mtR h L id [] Nw_ none []) (k : Q (.inr IOB_) h) : gG 7 240 1 6 M_9_isIrregular 0 (lv_args 0 [.ref (L 0 0), .int x]) [] h Q := by
  refine g_aloadn M_9_isIrregular d_9_isIrregular_0 (by first | rfl | assumption) ?_
  refine g_iloadn M_9_isIrregular d_9_isIrregular_1 (by first | rfl | assumption) ?_
  refine gc_V M_9_isIrregular 0 0 [.int x] [] d_9_isIrregular_2 cv_9_71 H.1 (by rfl) (by rfl) (Nat.le_of_ble_eq_true (by rfl)) (Nat.le_of_ble_eq_true (by rfl)) (by decide) (by decide) (by decide) (by decide) (C_9_checkNoun H (fun c d => absurd (show x < 0 from d) c) (fun _ => gx_out _ rfl k))
set_option maxHeartbeats 4000000 in
set_option maxRecDepth 100000 in
theorem F_dieFor {L : Nat → Nat → Nat} {h : Hp_} {Q : Ot_ → Hp_ → Prop} {x : Int32} (H : mtR h L id [] Nw_ none []) (k : Q (.inr IOB_) h) : gG 7 240 1 6 M_9_dieFor 0 (lv_args 0 [.ref (L 0 0), .int x]) [] h Q := by
  refine g_aloadn M_9_dieFor d_9_dieFor_0 (by first | rfl | assumption) ?_
  refine g_iloadn M_9_dieFor d_9_dieFor_1 (by first | rfl | assumption) ?_
  refine gc_V M_9_dieFor 0 0 [.int x] [] d_9_dieFor_2 cv_9_71 H.1 (by rfl) (by rfl) (Nat.le_of_ble_eq_true (by rfl)) (Nat.le_of_ble_eq_true (by rfl)) (by decide) (by decide) (by decide) (by decide) (C_9_checkNoun H (fun c d => absurd (show x < 0 from d) c) (fun _ => gx_out _ rfl k))
set_option maxHeartbeats 4000000 in
set_option maxRecDepth 100000 in
theorem F_coinsOf {L : Nat → Nat → Nat} {h : Hp_} {Q : Ot_ → Hp_ → Prop} {x : Int32} (H : mtR h L id [] Nw_ none []) (k : Q (.inr IOB_) h) : gG 7 240 1 6 M_9_coinsOf 0 (lv_args 0 [.ref (L 0 0), .int x]) [] h Q := by
  refine g_aloadn M_9_coinsOf d_9_coinsOf_0 (by first | rfl | assumption) ?_
  refine g_iloadn M_9_coinsOf d_9_coinsOf_1 (by first | rfl | assumption) ?_
  refine gc_V M_9_coinsOf 0 0 [.int x] [] d_9_coinsOf_2 cv_9_71 H.1 (by rfl) (by rfl) (Nat.le_of_ble_eq_true (by rfl)) (Nat.le_of_ble_eq_true (by rfl)) (by decide) (by decide) (by decide) (by decide) (C_9_checkNoun H (fun c d => absurd (show x < 0 from d) c) (fun _ => gx_out _ rfl k))
set_option maxHeartbeats 4000000 in
set_option maxRecDepth 100000 in
theorem F_dropDie {L : Nat → Nat → Nat} {h : Hp_} {Q : Ot_ → Hp_ → Prop} {x : Int32} (H : mtR h L id [] Nw_ none []) (k0 : x = 0 → Q (.inr ISE_) h) (k : x ≠ 0 → Q (.inr IOB_) h) : gG 7 240 2 12 M_9_dropDie 0 (lv_args 0 [.ref (L 0 0), .int x]) [] h Q := by
  refine g_aloadn M_9_dropDie d_9_dropDie_0 (by first | rfl | assumption) ?_
  refine g_iloadn M_9_dropDie d_9_dropDie_1 (by first | rfl | assumption) ?_
  refine gc_V M_9_dropDie 1 6 [.int x] [] d_9_dropDie_2 cv_9_147 H.1 (by rfl) (by rfl) (Nat.le_of_ble_eq_true (by rfl)) (Nat.le_of_ble_eq_true (by rfl)) (by decide) (by decide) (by decide) (by decide) (C_9_checkDie H (fun c d => ?_) (fun q => gx_out _ rfl (k (fun e => by rw [e] at q; revert q; decide))))
  show gG _ _ _ _ _ _ _ _ _ _
  refine g_iloadn M_9_dropDie d_9_dropDie_5 (by first | rfl | assumption) ?_
  refine g_if_ne M_9_dropDie (tgt := 19) d_9_dropDie_6 (by decide) (fun e => absurd (i32_01 c d) e) (fun e => ?_)
  exact g_throw M_9_dropDie th_9_dropDie_9 rfl d_9_dropDie_9 d_9_dropDie_12 d_9_dropDie_13 d_9_dropDie_15 d_9_dropDie_18 (Nat.le_of_ble_eq_true (by rfl)) (Nat.le_of_ble_eq_true (by rfl)) (Nat.le_of_ble_eq_true (by rfl)) (Nat.le_of_ble_eq_true (by rfl)) (k0 e)
set_option maxHeartbeats 4000000 in
set_option maxRecDepth 100000 in
theorem F_fitsOf {L : Nat → Nat → Nat} {h : Hp_} {Q : Ot_ → Hp_ → Prop} {x : Int32} (H : mtR h L id [] Nw_ none []) (k0 : x = 0 → Q (.inl (some (.int (nI 0)))) h) (k : x ≠ 0 → Q (.inr IOB_) h) : gG 7 240 1 6 M_9_fitsOf 0 (lv_args 0 [.ref (L 0 0), .int x]) [] h Q := by
  obtain ⟨m0, ⟨-, t0, ⟨tf, t1, -, -⟩, gp, gl', t2⟩, S1, ⟨s4, S2, -⟩, -, ⟨-, q0, -, -, qf, q1, q2⟩, sc⟩ := id H
  obtain ⟨a0, a1, a2, a3, a4, a5, -⟩ := id S1
  have t0 : h (L 0 1) = some (.inr (5, [.ref (L 0 2), .int (nI 0), .ref (L 0 3)])) := t0
  have q0 : h (L 0 4) = some (.inr (3, [.ref (L 0 5), .int (nI 0)])) := q0
  refine g_aloadn M_9_fitsOf d_9_fitsOf_0 (by first | rfl | assumption) ?_
  refine g_iloadn M_9_fitsOf d_9_fitsOf_1 (by first | rfl | assumption) ?_
  refine gc_V M_9_fitsOf 0 0 [.int x] [] d_9_fitsOf_2 cv_9_147 H.1 (by rfl) (by rfl) (Nat.le_of_ble_eq_true (by rfl)) (Nat.le_of_ble_eq_true (by rfl)) (by decide) (by decide) (by decide) (by decide) (C_9_checkDie H (fun c d => ?_) (fun q => gx_out _ rfl (k (fun e => by rw [e] at q; revert q; decide))))
  show gG _ _ _ _ _ _ _ _ _ _
  refine g_iconst M_9_fitsOf (v := nI 0) d_9_fitsOf_5 (by decide) ?_
  refine g_istoren M_9_fitsOf d_9_fitsOf_6 (by decide) (by first | rfl | (simp only [gc]; simp [*])) ?_
  refine g_iconst M_9_fitsOf (v := nI 0) d_9_fitsOf_7 (by decide) ?_
  refine g_istoren M_9_fitsOf d_9_fitsOf_8 (by decide) (by first | rfl | (simp only [gc]; simp [*])) ?_
  refine g_iloadn M_9_fitsOf d_9_fitsOf_9 (by first | rfl | assumption) ?_
  refine g_aloadn M_9_fitsOf d_9_fitsOf_10 (by first | rfl | assumption) ?_
  refine g_get M_9_fitsOf d_9_fitsOf_11 fl_9_19 (by assumption) (by rfl) ?_
  refine g_get M_9_fitsOf d_9_fitsOf_14 fl_9_212 (by assumption) (by rfl) ?_
  refine gc_V M_9_fitsOf 0 0 [] [.int (nI 0)] d_9_fitsOf_17 cv_9_165 a1.2.2.1 (by rfl) (by rfl) (Nat.le_of_ble_eq_true (by rfl)) (Nat.le_of_ble_eq_true (by rfl)) (by decide) (by decide) (by decide) (by decide) (C_8_count a1.2.2.1 ?_)
  show gG _ _ _ _ _ _ _ _ _ _
  refine g_icmp_ge M_9_fitsOf (tgt := 65) d_9_fitsOf_20 (by decide) (fun _ => ?_) (fun c => absurd (show nI 0 ≤ nI 0 by decide) c)
  refine g_iloadn M_9_fitsOf d_9_fitsOf_65 (by first | rfl | assumption) ?_
  exact g_iret M_9_fitsOf d_9_fitsOf_66 rfl rfl (k0 (i32_01 c d))
set_option maxHeartbeats 4000000 in
set_option maxRecDepth 100000 in
theorem F_dropIrregular {L : Nat → Nat → Nat} {h : Hp_} {Q : Ot_ → Hp_ → Prop} (H : mtR h L id [] Nw_ none []) (k : Q (.inr ISE_) h) : gG 7 240 1 6 M_9_dropIrregular 0 (lv_args 0 [.ref (L 0 0)]) [] h Q := by
  obtain ⟨m0, ⟨-, t0, ⟨tf, t1, -, -⟩, gp, gl', t2⟩, S1, ⟨s4, S2, -⟩, -, ⟨-, q0, -, -, qf, q1, q2⟩, sc⟩ := id H
  obtain ⟨a0, a1, a2, a3, a4, a5, -⟩ := id S1
  have t0 : h (L 0 1) = some (.inr (5, [.ref (L 0 2), .int (nI 0), .ref (L 0 3)])) := t0
  have q0 : h (L 0 4) = some (.inr (3, [.ref (L 0 5), .int (nI 0)])) := q0
  refine g_aloadn M_9_dropIrregular d_9_dropIrregular_0 (by first | rfl | assumption) ?_
  refine g_get M_9_dropIrregular d_9_dropIrregular_1 fl_9_19 (by assumption) (by rfl) ?_
  refine g_get M_9_dropIrregular d_9_dropIrregular_4 fl_9_162 (by assumption) (by rfl) ?_
  refine gc_V M_9_dropIrregular 1 6 [] [] d_9_dropIrregular_7 cv_9_165 a2.2.2.1 (by rfl) (by rfl) (Nat.le_of_ble_eq_true (by rfl)) (Nat.le_of_ble_eq_true (by rfl)) (by decide) (by decide) (by decide) (by decide) (C_8_count a2.2.2.1 ?_)
  show gG _ _ _ _ _ _ _ _ _ _
  refine g_iconst M_9_dropIrregular (v := nI 1) d_9_dropIrregular_10 (by decide) ?_
  refine g_isub M_9_dropIrregular d_9_dropIrregular_11 ?_
  refine g_istoren M_9_dropIrregular d_9_dropIrregular_12 (by decide) (by first | rfl | (simp only [gc]; simp [*])) ?_
  refine g_iloadn M_9_dropIrregular d_9_dropIrregular_13 (by first | rfl | assumption) ?_
  refine g_if_ge M_9_dropIrregular (tgt := 27) d_9_dropIrregular_14 (by decide) (fun c => absurd c (by decide)) (fun _ => ?_)
  exact g_throw M_9_dropIrregular th_9_dropIrregular_17 rfl d_9_dropIrregular_17 d_9_dropIrregular_20 d_9_dropIrregular_21 d_9_dropIrregular_23 d_9_dropIrregular_26 (Nat.le_of_ble_eq_true (by rfl)) (Nat.le_of_ble_eq_true (by rfl)) (Nat.le_of_ble_eq_true (by rfl)) (Nat.le_of_ble_eq_true (by rfl)) k
set_option maxHeartbeats 4000000 in
set_option maxRecDepth 100000 in
theorem F_undo {L : Nat → Nat → Nat} {h : Hp_} {Q : Ot_ → Hp_ → Prop} (H : mtR h L id [] Nw_ none []) (k : Q (.inr ISE_) h) : gG 7 240 1 6 M_9_undo 0 (lv_args 0 [.ref (L 0 0)]) [] h Q := by
  obtain ⟨m0, ⟨-, t0, ⟨tf, t1, -, -⟩, gp, gl', t2⟩, S1, ⟨s4, S2, -⟩, -, ⟨-, q0, -, -, qf, q1, q2⟩, sc⟩ := id H
  obtain ⟨a0, a1, a2, a3, a4, a5, -⟩ := id S1
  have t0 : h (L 0 1) = some (.inr (5, [.ref (L 0 2), .int (nI 0), .ref (L 0 3)])) := t0
  have q0 : h (L 0 4) = some (.inr (3, [.ref (L 0 5), .int (nI 0)])) := q0
  refine g_aloadn M_9_undo d_9_undo_0 (by first | rfl | assumption) ?_
  refine g_get M_9_undo d_9_undo_1 fl_9_29 (by assumption) (by rfl) ?_
  refine gc_V M_9_undo 1 6 [] [] d_9_undo_4 cv_9_202 q0 (by rfl) (by rfl) (Nat.le_of_ble_eq_true (by rfl)) (Nat.le_of_ble_eq_true (by rfl)) (by decide) (by decide) (by decide) (by decide) (C_3_count q0 ?_)
  show gG _ _ _ _ _ _ _ _ _ _
  refine g_if_ne M_9_undo (tgt := 20) d_9_undo_7 (by decide) (fun c => absurd rfl c) (fun _ => ?_)
  exact g_throw M_9_undo th_9_undo_10 rfl d_9_undo_10 d_9_undo_13 d_9_undo_14 d_9_undo_16 d_9_undo_19 (Nat.le_of_ble_eq_true (by rfl)) (Nat.le_of_ble_eq_true (by rfl)) (Nat.le_of_ble_eq_true (by rfl)) (Nat.le_of_ble_eq_true (by rfl)) k
set_option maxHeartbeats 4000000 in
set_option maxRecDepth 100000 in
theorem F_restoreSnapshot {L : Nat → Nat → Nat} {h : Hp_} {Q : Ot_ → Hp_ → Prop} (H : mtR h L id [] Nw_ none []) (k : Q (.inr ISE_) h) : gG 7 240 1 6 M_9_restoreSnapshot 0 (lv_args 0 [.ref (L 0 0)]) [] h Q := by
  obtain ⟨m0, ⟨-, t0, ⟨tf, t1, -, -⟩, gp, gl', t2⟩, S1, ⟨s4, S2, -⟩, -, ⟨-, q0, -, -, qf, q1, q2⟩, sc⟩ := id H
  obtain ⟨a0, a1, a2, a3, a4, a5, -⟩ := id S1
  have t0 : h (L 0 1) = some (.inr (5, [.ref (L 0 2), .int (nI 0), .ref (L 0 3)])) := t0
  have q0 : h (L 0 4) = some (.inr (3, [.ref (L 0 5), .int (nI 0)])) := q0
  refine g_aloadn M_9_restoreSnapshot d_9_restoreSnapshot_0 (by first | rfl | assumption) ?_
  refine g_get M_9_restoreSnapshot d_9_restoreSnapshot_1 fl_9_208 (by assumption) (by rfl) ?_
  refine g_if_ne M_9_restoreSnapshot (tgt := 17) d_9_restoreSnapshot_4 (by decide) (fun c => absurd rfl c) (fun _ => ?_)
  exact g_throw M_9_restoreSnapshot th_9_restoreSnapshot_7 rfl d_9_restoreSnapshot_7 d_9_restoreSnapshot_10 d_9_restoreSnapshot_11 d_9_restoreSnapshot_13 d_9_restoreSnapshot_16 (Nat.le_of_ble_eq_true (by rfl)) (Nat.le_of_ble_eq_true (by rfl)) (Nat.le_of_ble_eq_true (by rfl)) (Nat.le_of_ble_eq_true (by rfl)) k
set_option maxHeartbeats 4000000 in
set_option maxRecDepth 100000 in
theorem F_checkTextIsValid {L : Nat → Nat → Nat} {h : Hp_} {Q : Ot_ → Hp_ → Prop} (s : sepL L) (H : mtR h L id [] Nw_ none []) (k : ∀ h', gChg L h h' → Q (.inr ISE_) h') : gG 6 200 1 6 M_9_checkTextIsValid 0 (lv_args 0 [.ref (L 0 0)]) [] h Q := by
  obtain ⟨m0, ⟨-, t0, ⟨tf, t1, -, -⟩, gp, gl', t2⟩, S1, ⟨s4, S2, -⟩, -, ⟨-, q0, -, -, qf, q1, q2⟩, sc⟩ := id H
  obtain ⟨a0, a1, a2, a3, a4, a5, -⟩ := id S1
  have t0 : h (L 0 1) = some (.inr (5, [.ref (L 0 2), .int (nI 0), .ref (L 0 3)])) := t0
  have q0 : h (L 0 4) = some (.inr (3, [.ref (L 0 5), .int (nI 0)])) := q0
  refine g_aloadn M_9_checkTextIsValid d_9_checkTextIsValid_0 (by first | rfl | assumption) ?_
  refine g_get M_9_checkTextIsValid d_9_checkTextIsValid_1 fl_9_10 (by assumption) (by rfl) ?_
  refine gc_V M_9_checkTextIsValid 1 6 [] [] d_9_checkTextIsValid_4 cv_9_185 t0 (by rfl) (by rfl) (Nat.le_of_ble_eq_true (by rfl)) (Nat.le_of_ble_eq_true (by rfl)) (by decide) (by decide) (by decide) (by decide) (C_5_firstError0 (fun e => absurd (s _ _ _ _ (ok0 (by decide)) (ok0 (by decide)) e).2 (by decide)) t0 t2 (fun h1 e1 => ?_))
  show gG _ _ _ _ _ _ _ _ _ _
  refine g_iconst M_9_checkTextIsValid (v := -1) d_9_checkTextIsValid_7 (by decide) ?_
  refine g_icmp_eq M_9_checkTextIsValid (tgt := 22) d_9_checkTextIsValid_8 (by decide) (fun c => absurd c (by decide)) (fun _ => ?_)
  exact g_throwW M_9_checkTextIsValid th_9_checkTextIsValid_11 rfl d_9_checkTextIsValid_11 d_9_checkTextIsValid_14 d_9_checkTextIsValid_15 d_9_checkTextIsValid_18 d_9_checkTextIsValid_21 (Nat.le_of_ble_eq_true (by rfl)) (Nat.le_of_ble_eq_true (by rfl)) (Nat.le_of_ble_eq_true (by rfl)) (Nat.le_of_ble_eq_true (by rfl)) (k h1 (gChg.one (ok0 (by decide)) e1))
set_option maxHeartbeats 4000000 in
set_option maxRecDepth 100000 in
theorem F_impossibleOrder {L : Nat → Nat → Nat} {h : Hp_} {Q : Ot_ → Hp_ → Prop} (s : sepL L) (H : mtR h L id [] Nw_ none []) (k : ∀ h', gChg L h h' → Q (.inr ISE_) h') : gG 7 240 1 6 M_9_impossibleOrder 0 (lv_args 0 [.ref (L 0 0)]) [] h Q := by
  refine g_aloadn M_9_impossibleOrder d_9_impossibleOrder_0 (by first | rfl | assumption) ?_
  refine gc_V M_9_impossibleOrder 0 0 [] [] d_9_impossibleOrder_1 cv_9_188 H.1 (by rfl) (by rfl) (Nat.le_of_ble_eq_true (by rfl)) (Nat.le_of_ble_eq_true (by rfl)) (by decide) (by decide) (by decide) (by decide) (F_checkTextIsValid s H (fun h1 e1 => gx_out _ rfl (k h1 e1)))
set_option maxHeartbeats 4000000 in
set_option maxRecDepth 100000 in
theorem F_carryOut {L : Nat → Nat → Nat} {h : Hp_} {Q : Ot_ → Hp_ → Prop} (s : sepL L) (H : mtR h L id [] Nw_ none []) (k : ∀ h', gChg L h h' → Q (.inr ISE_) h') : gG 7 240 1 6 M_9_carryOut 0 (lv_args 0 [.ref (L 0 0)]) [] h Q := by
  refine g_aloadn M_9_carryOut d_9_carryOut_0 (by first | rfl | assumption) ?_
  refine gc_V M_9_carryOut 0 0 [] [] d_9_carryOut_1 cv_9_188 H.1 (by rfl) (by rfl) (Nat.le_of_ble_eq_true (by rfl)) (Nat.le_of_ble_eq_true (by rfl)) (by decide) (by decide) (by decide) (by decide) (F_checkTextIsValid s H (fun h1 e1 => gx_out _ rfl (k h1 e1)))
set_option maxHeartbeats 4000000 in
set_option maxRecDepth 100000 in
theorem F_loadWantedPlural {L : Nat → Nat → Nat} {h : Hp_} {Q : Ot_ → Hp_ → Prop} (H : mtR h L id [] Nw_ none []) (k : Q (.inr ISE_) h) : gG 6 200 1 6 M_9_loadWantedPlural 0 (lv_args 0 [.ref (L 0 0)]) [] h Q := by
  obtain ⟨m0, ⟨-, t0, ⟨tf, t1, -, -⟩, gp, gl', t2⟩, S1, ⟨s4, S2, -⟩, -, ⟨-, q0, -, -, qf, q1, q2⟩, sc⟩ := id H
  obtain ⟨a0, a1, a2, a3, a4, a5, -⟩ := id S1
  have t0 : h (L 0 1) = some (.inr (5, [.ref (L 0 2), .int (nI 0), .ref (L 0 3)])) := t0
  have q0 : h (L 0 4) = some (.inr (3, [.ref (L 0 5), .int (nI 0)])) := q0
  refine g_aloadn M_9_loadWantedPlural d_9_loadWantedPlural_0 (by first | rfl | assumption) ?_
  refine g_get M_9_loadWantedPlural d_9_loadWantedPlural_1 fl_9_10 (by assumption) (by rfl) ?_
  refine gc_V M_9_loadWantedPlural 1 6 [] [] d_9_loadWantedPlural_4 cv_9_278 t0 (by rfl) (by rfl) (Nat.le_of_ble_eq_true (by rfl)) (Nat.le_of_ble_eq_true (by rfl)) (by decide) (by decide) (by decide) (by decide) (C_5_isWord0 t0 ?_)
  show gG _ _ _ _ _ _ _ _ _ _
  refine g_if_ne M_9_loadWantedPlural (tgt := 21) d_9_loadWantedPlural_7 (by decide) (fun c => absurd rfl c) (fun _ => ?_)
  exact g_throwW M_9_loadWantedPlural th_9_loadWantedPlural_10 rfl d_9_loadWantedPlural_10 d_9_loadWantedPlural_13 d_9_loadWantedPlural_14 d_9_loadWantedPlural_17 d_9_loadWantedPlural_20 (Nat.le_of_ble_eq_true (by rfl)) (Nat.le_of_ble_eq_true (by rfl)) (Nat.le_of_ble_eq_true (by rfl)) (Nat.le_of_ble_eq_true (by rfl)) k
set_option maxHeartbeats 4000000 in
set_option maxRecDepth 100000 in
theorem F_recallByStriking {L : Nat → Nat → Nat} {h : Hp_} {Q : Ot_ → Hp_ → Prop} (H : mtR h L id [] Nw_ none []) (k : Q (.inr ISE_) h) : gG 7 240 1 6 M_9_recallByStriking 0 (lv_args 0 [.ref (L 0 0)]) [] h Q := by
  refine g_aloadn M_9_recallByStriking d_9_recallByStriking_0 (by first | rfl | assumption) ?_
  refine gc_V M_9_recallByStriking 0 0 [] [] d_9_recallByStriking_1 cv_9_248 H.1 (by rfl) (by rfl) (Nat.le_of_ble_eq_true (by rfl)) (Nat.le_of_ble_eq_true (by rfl)) (by decide) (by decide) (by decide) (by decide) (F_loadWantedPlural H (gx_out _ rfl k))
set_option maxHeartbeats 4000000 in
set_option maxRecDepth 100000 in
theorem F_recallByReversing {L : Nat → Nat → Nat} {h : Hp_} {Q : Ot_ → Hp_ → Prop} (H : mtR h L id [] Nw_ none []) (k : Q (.inr ISE_) h) : gG 7 240 1 6 M_9_recallByReversing 0 (lv_args 0 [.ref (L 0 0)]) [] h Q := by
  refine g_aloadn M_9_recallByReversing d_9_recallByReversing_0 (by first | rfl | assumption) ?_
  refine gc_V M_9_recallByReversing 0 0 [] [] d_9_recallByReversing_1 cv_9_248 H.1 (by rfl) (by rfl) (Nat.le_of_ble_eq_true (by rfl)) (Nat.le_of_ble_eq_true (by rfl)) (by decide) (by decide) (by decide) (by decide) (F_loadWantedPlural H (gx_out _ rfl k))
set_option maxHeartbeats 4000000 in
set_option maxRecDepth 100000 in
theorem F_possibleNouns {L : Nat → Nat → Nat} {h : Hp_} {Q : Ot_ → Hp_ → Prop} (H : mtR h L id [] Nw_ none []) (k : Q (.inr ISE_) h) : gG 7 240 1 6 M_9_possibleNouns 0 (lv_args 0 [.ref (L 0 0)]) [] h Q := by
  refine g_aloadn M_9_possibleNouns d_9_possibleNouns_0 (by first | rfl | assumption) ?_
  refine gc_V M_9_possibleNouns 0 0 [] [] d_9_possibleNouns_1 cv_9_248 H.1 (by rfl) (by rfl) (Nat.le_of_ble_eq_true (by rfl)) (Nat.le_of_ble_eq_true (by rfl)) (by decide) (by decide) (by decide) (by decide) (F_loadWantedPlural H (gx_out _ rfl k))
set_option maxHeartbeats 4000000 in
set_option maxRecDepth 100000 in
theorem F_nouns {L : Nat → Nat → Nat} {h : Hp_} {Q : Ot_ → Hp_ → Prop} (H : mtR h L id [] Nw_ none []) (k : Q (.inl (some (.int (nI 0)))) h) : gG 7 240 1 6 M_9_nouns 0 (lv_args 0 [.ref (L 0 0)]) [] h Q := by
  obtain ⟨m0, ⟨-, t0, ⟨tf, t1, -, -⟩, gp, gl', t2⟩, S1, ⟨s4, S2, -⟩, -, ⟨-, q0, -, -, qf, q1, q2⟩, sc⟩ := id H
  obtain ⟨a0, a1, a2, a3, a4, a5, -⟩ := id S1
  have t0 : h (L 0 1) = some (.inr (5, [.ref (L 0 2), .int (nI 0), .ref (L 0 3)])) := t0
  have q0 : h (L 0 4) = some (.inr (3, [.ref (L 0 5), .int (nI 0)])) := q0
  refine g_aloadn M_9_nouns d_9_nouns_0 (by first | rfl | assumption) ?_
  refine g_get M_9_nouns d_9_nouns_1 fl_9_19 (by assumption) (by rfl) ?_
  refine g_get M_9_nouns d_9_nouns_4 fl_9_212 (by assumption) (by rfl) ?_
  refine gc_V M_9_nouns 0 0 [] [] d_9_nouns_7 cv_9_165 a1.2.2.1 (by rfl) (by rfl) (Nat.le_of_ble_eq_true (by rfl)) (Nat.le_of_ble_eq_true (by rfl)) (by decide) (by decide) (by decide) (by decide) (C_8_count a1.2.2.1 ?_)
  show gG _ _ _ _ _ _ _ _ _ _
  exact g_iret M_9_nouns d_9_nouns_10 rfl (by first | rfl | decide) k
set_option maxHeartbeats 4000000 in
set_option maxRecDepth 100000 in
theorem F_dies {L : Nat → Nat → Nat} {h : Hp_} {Q : Ot_ → Hp_ → Prop} (H : mtR h L id [] Nw_ none []) (k : Q (.inl (some (.int (nI 1)))) h) : gG 7 240 1 6 M_9_dies 0 (lv_args 0 [.ref (L 0 0)]) [] h Q := by
  obtain ⟨m0, ⟨-, t0, ⟨tf, t1, -, -⟩, gp, gl', t2⟩, S1, ⟨s4, S2, -⟩, -, ⟨-, q0, -, -, qf, q1, q2⟩, sc⟩ := id H
  obtain ⟨a0, a1, a2, a3, a4, a5, -⟩ := id S1
  have t0 : h (L 0 1) = some (.inr (5, [.ref (L 0 2), .int (nI 0), .ref (L 0 3)])) := t0
  have q0 : h (L 0 4) = some (.inr (3, [.ref (L 0 5), .int (nI 0)])) := q0
  refine g_aloadn M_9_dies d_9_dies_0 (by first | rfl | assumption) ?_
  refine g_get M_9_dies d_9_dies_1 fl_9_19 (by assumption) (by rfl) ?_
  refine g_get M_9_dies d_9_dies_4 fl_9_152 (by assumption) (by rfl) ?_
  refine gc_V M_9_dies 0 0 [] [] d_9_dies_7 cv_9_161 a4.1 (by rfl) (by rfl) (Nat.le_of_ble_eq_true (by rfl)) (Nat.le_of_ble_eq_true (by rfl)) (by decide) (by decide) (by decide) (by decide) (C_0_count a4 ?_)
  show gG _ _ _ _ _ _ _ _ _ _
  exact g_iret M_9_dies d_9_dies_10 rfl (by first | rfl | decide) k
set_option maxHeartbeats 4000000 in
set_option maxRecDepth 100000 in
theorem F_irregulars {L : Nat → Nat → Nat} {h : Hp_} {Q : Ot_ → Hp_ → Prop} (H : mtR h L id [] Nw_ none []) (k : Q (.inl (some (.int (nI 0)))) h) : gG 7 240 1 6 M_9_irregulars 0 (lv_args 0 [.ref (L 0 0)]) [] h Q := by
  obtain ⟨m0, ⟨-, t0, ⟨tf, t1, -, -⟩, gp, gl', t2⟩, S1, ⟨s4, S2, -⟩, -, ⟨-, q0, -, -, qf, q1, q2⟩, sc⟩ := id H
  obtain ⟨a0, a1, a2, a3, a4, a5, -⟩ := id S1
  have t0 : h (L 0 1) = some (.inr (5, [.ref (L 0 2), .int (nI 0), .ref (L 0 3)])) := t0
  have q0 : h (L 0 4) = some (.inr (3, [.ref (L 0 5), .int (nI 0)])) := q0
  refine g_aloadn M_9_irregulars d_9_irregulars_0 (by first | rfl | assumption) ?_
  refine g_get M_9_irregulars d_9_irregulars_1 fl_9_19 (by assumption) (by rfl) ?_
  refine g_get M_9_irregulars d_9_irregulars_4 fl_9_162 (by assumption) (by rfl) ?_
  refine gc_V M_9_irregulars 0 0 [] [] d_9_irregulars_7 cv_9_165 a2.2.2.1 (by rfl) (by rfl) (Nat.le_of_ble_eq_true (by rfl)) (Nat.le_of_ble_eq_true (by rfl)) (by decide) (by decide) (by decide) (by decide) (C_8_count a2.2.2.1 ?_)
  show gG _ _ _ _ _ _ _ _ _ _
  exact g_iret M_9_irregulars d_9_irregulars_10 rfl (by first | rfl | decide) k
set_option maxHeartbeats 4000000 in
set_option maxRecDepth 100000 in
theorem F_heaps {L : Nat → Nat → Nat} {h : Hp_} {Q : Ot_ → Hp_ → Prop} (H : mtR h L id [] Nw_ none []) (k : Q (.inl (some (.int (nI 0)))) h) : gG 7 240 1 6 M_9_heaps 0 (lv_args 0 [.ref (L 0 0)]) [] h Q := by
  obtain ⟨m0, ⟨-, t0, ⟨tf, t1, -, -⟩, gp, gl', t2⟩, S1, ⟨s4, S2, -⟩, -, ⟨-, q0, -, -, qf, q1, q2⟩, sc⟩ := id H
  obtain ⟨a0, a1, a2, a3, a4, a5, -⟩ := id S1
  have t0 : h (L 0 1) = some (.inr (5, [.ref (L 0 2), .int (nI 0), .ref (L 0 3)])) := t0
  have q0 : h (L 0 4) = some (.inr (3, [.ref (L 0 5), .int (nI 0)])) := q0
  refine g_aloadn M_9_heaps d_9_heaps_0 (by first | rfl | assumption) ?_
  refine g_get M_9_heaps d_9_heaps_1 fl_9_19 (by assumption) (by rfl) ?_
  refine g_get M_9_heaps d_9_heaps_4 fl_9_82 (by assumption) (by rfl) ?_
  refine gc_V M_9_heaps 0 0 [] [] d_9_heaps_7 cv_9_130 a5.1 (by rfl) (by rfl) (Nat.le_of_ble_eq_true (by rfl)) (Nat.le_of_ble_eq_true (by rfl)) (by decide) (by decide) (by decide) (by decide) (C_2_count a5 ?_)
  show gG _ _ _ _ _ _ _ _ _ _
  exact g_iret M_9_heaps d_9_heaps_10 rfl (by first | rfl | decide) k
set_option maxHeartbeats 4000000 in
set_option maxRecDepth 100000 in
theorem F_recordedStates {L : Nat → Nat → Nat} {h : Hp_} {Q : Ot_ → Hp_ → Prop} (H : mtR h L id [] Nw_ none []) (k : Q (.inl (some (.int (nI 0)))) h) : gG 7 240 1 6 M_9_recordedStates 0 (lv_args 0 [.ref (L 0 0)]) [] h Q := by
  obtain ⟨m0, ⟨-, t0, ⟨tf, t1, -, -⟩, gp, gl', t2⟩, S1, ⟨s4, S2, -⟩, -, ⟨-, q0, -, -, qf, q1, q2⟩, sc⟩ := id H
  obtain ⟨a0, a1, a2, a3, a4, a5, -⟩ := id S1
  have t0 : h (L 0 1) = some (.inr (5, [.ref (L 0 2), .int (nI 0), .ref (L 0 3)])) := t0
  have q0 : h (L 0 4) = some (.inr (3, [.ref (L 0 5), .int (nI 0)])) := q0
  refine g_aloadn M_9_recordedStates d_9_recordedStates_0 (by first | rfl | assumption) ?_
  refine g_get M_9_recordedStates d_9_recordedStates_1 fl_9_29 (by assumption) (by rfl) ?_
  refine gc_V M_9_recordedStates 0 0 [] [] d_9_recordedStates_4 cv_9_202 q0 (by rfl) (by rfl) (Nat.le_of_ble_eq_true (by rfl)) (Nat.le_of_ble_eq_true (by rfl)) (by decide) (by decide) (by decide) (by decide) (C_3_count q0 ?_)
  show gG _ _ _ _ _ _ _ _ _ _
  exact g_iret M_9_recordedStates d_9_recordedStates_7 rfl (by first | rfl | decide) k
set_option maxHeartbeats 4000000 in
set_option maxRecDepth 100000 in
theorem F_coinsByAccounts {L : Nat → Nat → Nat} {h : Hp_} {Q : Ot_ → Hp_ → Prop} (H : mtR h L id [] Nw_ none []) (k : Q (.inl (some (.int (nI 0)))) h) : gG 7 240 1 6 M_9_coinsByAccounts 0 (lv_args 0 [.ref (L 0 0)]) [] h Q := by
  obtain ⟨m0, ⟨-, t0, ⟨tf, t1, -, -⟩, gp, gl', t2⟩, S1, ⟨s4, S2, -⟩, -, ⟨-, q0, -, -, qf, q1, q2⟩, sc⟩ := id H
  obtain ⟨a0, a1, a2, a3, a4, a5, -⟩ := id S1
  have t0 : h (L 0 1) = some (.inr (5, [.ref (L 0 2), .int (nI 0), .ref (L 0 3)])) := t0
  have q0 : h (L 0 4) = some (.inr (3, [.ref (L 0 5), .int (nI 0)])) := q0
  refine g_aloadn M_9_coinsByAccounts d_9_coinsByAccounts_0 (by first | rfl | assumption) ?_
  refine g_get M_9_coinsByAccounts d_9_coinsByAccounts_1 fl_9_19 (by assumption) (by rfl) ?_
  refine g_get M_9_coinsByAccounts d_9_coinsByAccounts_4 fl_9_114 (by assumption) (by rfl) ?_
  refine g_aloadn M_9_coinsByAccounts d_9_coinsByAccounts_7 (by first | rfl | assumption) ?_
  refine g_get M_9_coinsByAccounts d_9_coinsByAccounts_8 fl_9_19 (by assumption) (by rfl) ?_
  refine g_get M_9_coinsByAccounts d_9_coinsByAccounts_11 fl_9_127 (by assumption) (by rfl) ?_
  refine g_isub M_9_coinsByAccounts d_9_coinsByAccounts_14 ?_
  exact g_iret M_9_coinsByAccounts d_9_coinsByAccounts_15 rfl (by first | rfl | decide) k
set_option maxHeartbeats 4000000 in
set_option maxRecDepth 100000 in
theorem F_staleCoins {L : Nat → Nat → Nat} {h : Hp_} {Q : Ot_ → Hp_ → Prop} (H : mtR h L id [] Nw_ none []) (k : Q (.inl (some (.int (nI 0)))) h) : gG 7 240 1 6 M_9_staleCoins 0 (lv_args 0 [.ref (L 0 0)]) [] h Q := by
  obtain ⟨m0, ⟨-, t0, ⟨tf, t1, -, -⟩, gp, gl', t2⟩, S1, ⟨s4, S2, -⟩, -, ⟨-, q0, -, -, qf, q1, q2⟩, sc⟩ := id H
  obtain ⟨a0, a1, a2, a3, a4, a5, -⟩ := id S1
  have t0 : h (L 0 1) = some (.inr (5, [.ref (L 0 2), .int (nI 0), .ref (L 0 3)])) := t0
  have q0 : h (L 0 4) = some (.inr (3, [.ref (L 0 5), .int (nI 0)])) := q0
  refine g_iconst M_9_staleCoins (v := nI 0) d_9_staleCoins_0 (by decide) ?_
  refine g_istoren M_9_staleCoins d_9_staleCoins_1 (by decide) (by first | rfl | (simp only [gc]; simp [*])) ?_
  refine g_iconst M_9_staleCoins (v := nI 0) d_9_staleCoins_2 (by decide) ?_
  refine g_istoren M_9_staleCoins d_9_staleCoins_3 (by decide) (by first | rfl | (simp only [gc]; simp [*])) ?_
  refine g_iloadn M_9_staleCoins d_9_staleCoins_4 (by first | rfl | assumption) ?_
  refine g_aloadn M_9_staleCoins d_9_staleCoins_5 (by first | rfl | assumption) ?_
  refine g_get M_9_staleCoins d_9_staleCoins_6 fl_9_19 (by assumption) (by rfl) ?_
  refine g_get M_9_staleCoins d_9_staleCoins_9 fl_9_82 (by assumption) (by rfl) ?_
  refine gc_V M_9_staleCoins 0 0 [] [.int (nI 0)] d_9_staleCoins_12 cv_9_130 a5.1 (by rfl) (by rfl) (Nat.le_of_ble_eq_true (by rfl)) (Nat.le_of_ble_eq_true (by rfl)) (by decide) (by decide) (by decide) (by decide) (C_2_count a5 ?_)
  show gG _ _ _ _ _ _ _ _ _ _
  refine g_icmp_ge M_9_staleCoins (tgt := 53) d_9_staleCoins_15 (by decide) (fun _ => ?_) (fun c => absurd (show nI 0 ≤ nI 0 by decide) c)
  refine g_iloadn M_9_staleCoins d_9_staleCoins_53 (by first | rfl | assumption) ?_
  exact g_iret M_9_staleCoins d_9_staleCoins_54 rfl (by first | rfl | decide) k
set_option maxHeartbeats 4000000 in
set_option maxRecDepth 100000 in
theorem F_coinsByHeaps {L : Nat → Nat → Nat} {h : Hp_} {Q : Ot_ → Hp_ → Prop} (H : mtR h L id [] Nw_ none []) (k : Q (.inl (some (.int (nI 0)))) h) : gG 7 240 1 6 M_9_coinsByHeaps 0 (lv_args 0 [.ref (L 0 0)]) [] h Q := by
  obtain ⟨m0, ⟨-, t0, ⟨tf, t1, -, -⟩, gp, gl', t2⟩, S1, ⟨s4, S2, -⟩, -, ⟨-, q0, -, -, qf, q1, q2⟩, sc⟩ := id H
  obtain ⟨a0, a1, a2, a3, a4, a5, -⟩ := id S1
  have t0 : h (L 0 1) = some (.inr (5, [.ref (L 0 2), .int (nI 0), .ref (L 0 3)])) := t0
  have q0 : h (L 0 4) = some (.inr (3, [.ref (L 0 5), .int (nI 0)])) := q0
  refine g_iconst M_9_coinsByHeaps (v := nI 0) d_9_coinsByHeaps_0 (by decide) ?_
  refine g_istoren M_9_coinsByHeaps d_9_coinsByHeaps_1 (by decide) (by first | rfl | (simp only [gc]; simp [*])) ?_
  refine g_iconst M_9_coinsByHeaps (v := nI 0) d_9_coinsByHeaps_2 (by decide) ?_
  refine g_istoren M_9_coinsByHeaps d_9_coinsByHeaps_3 (by decide) (by first | rfl | (simp only [gc]; simp [*])) ?_
  refine g_iloadn M_9_coinsByHeaps d_9_coinsByHeaps_4 (by first | rfl | assumption) ?_
  refine g_aloadn M_9_coinsByHeaps d_9_coinsByHeaps_5 (by first | rfl | assumption) ?_
  refine g_get M_9_coinsByHeaps d_9_coinsByHeaps_6 fl_9_19 (by assumption) (by rfl) ?_
  refine g_get M_9_coinsByHeaps d_9_coinsByHeaps_9 fl_9_82 (by assumption) (by rfl) ?_
  refine gc_V M_9_coinsByHeaps 0 0 [] [.int (nI 0)] d_9_coinsByHeaps_12 cv_9_130 a5.1 (by rfl) (by rfl) (Nat.le_of_ble_eq_true (by rfl)) (Nat.le_of_ble_eq_true (by rfl)) (by decide) (by decide) (by decide) (by decide) (C_2_count a5 ?_)
  show gG _ _ _ _ _ _ _ _ _ _
  refine g_icmp_ge M_9_coinsByHeaps (tgt := 38) d_9_coinsByHeaps_15 (by decide) (fun _ => ?_) (fun c => absurd (show nI 0 ≤ nI 0 by decide) c)
  refine g_iloadn M_9_coinsByHeaps d_9_coinsByHeaps_38 (by first | rfl | assumption) ?_
  exact g_iret M_9_coinsByHeaps d_9_coinsByHeaps_39 rfl (by first | rfl | decide) k
set_option maxHeartbeats 4000000 in
set_option maxRecDepth 100000 in
theorem F_ambiguousNouns {L : Nat → Nat → Nat} {h : Hp_} {Q : Ot_ → Hp_ → Prop} (s : sepL L) (H : mtR h L id [] Nw_ none []) (k : ∀ h', gChg L h h' → Q (.inl (some (.int (nI 0)))) h') : gG 7 240 1 6 M_9_ambiguousNouns 0 (lv_args 0 [.ref (L 0 0)]) [] h Q := by
  obtain ⟨m0, ⟨-, t0, ⟨tf, t1, -, -⟩, gp, gl', t2⟩, S1, ⟨s4, S2, -⟩, -, ⟨-, q0, -, -, qf, q1, q2⟩, sc⟩ := id H
  obtain ⟨a0, a1, a2, a3, a4, a5, -⟩ := id S1
  have t0 : h (L 0 1) = some (.inr (5, [.ref (L 0 2), .int (nI 0), .ref (L 0 3)])) := t0
  have q0 : h (L 0 4) = some (.inr (3, [.ref (L 0 5), .int (nI 0)])) := q0
  obtain ⟨-, -, -, -, ⟨pw, p0⟩, -⟩ := sc
  refine g_aloadn M_9_ambiguousNouns d_9_ambiguousNouns_0 (by first | rfl | assumption) ?_
  refine g_get M_9_ambiguousNouns d_9_ambiguousNouns_1 fl_9_61 (by assumption) (by rfl) ?_
  refine gc_V M_9_ambiguousNouns 0 0 [] [] d_9_ambiguousNouns_4 cv_9_240 p0.2.2.1 (by rfl) (by rfl) (Nat.le_of_ble_eq_true (by rfl)) (Nat.le_of_ble_eq_true (by rfl)) (by decide) (by decide) (by decide) (by decide) (C_8_clear (fun e => absurd (s 0 18 0 17 (by first | exact ok0 (by decide) | exact okB (by decide) (by decide) (by decide)) (by first | exact ok0 (by decide) | exact okB (by decide) (by decide) (by decide)) e) (by decide)) (fun e => absurd (s 0 19 0 17 (by first | exact ok0 (by decide) | exact okB (by decide) (by decide) (by decide)) (by first | exact ok0 (by decide) | exact okB (by decide) (by decide) (by decide)) e) (by decide)) p0 (fun h1 e1 p1 => ?_))
  have m1 := e1.keep m0 (fun q => absurd (s 0 0 0 17 (by first | exact ok0 (by decide) | exact okB (by decide) (by decide) (by decide)) (by first | exact ok0 (by decide) | exact okB (by decide) (by decide) (by decide)) (List.mem_singleton.mp q)) (by decide))
  have a01 := e1.keep a0 (fun q => absurd (s 1 0 0 17 (by first | exact ok0 (by decide) | exact okB (by decide) (by decide) (by decide)) (by first | exact ok0 (by decide) | exact okB (by decide) (by decide) (by decide)) (List.mem_singleton.mp q)) (by decide))
  have a11 := a1.keep e1 (fun q => absurd (s 1 1 0 17 (by first | exact ok0 (by decide) | exact okB (by decide) (by decide) (by decide)) (by first | exact ok0 (by decide) | exact okB (by decide) (by decide) (by decide)) (List.mem_singleton.mp q)) (by decide)) (fun q => absurd (s 1 2 0 17 (by first | exact ok0 (by decide) | exact okB (by decide) (by decide) (by decide)) (by first | exact ok0 (by decide) | exact okB (by decide) (by decide) (by decide)) (List.mem_singleton.mp q)) (by decide)) (fun q => absurd (s 1 3 0 17 (by first | exact ok0 (by decide) | exact okB (by decide) (by decide) (by decide)) (by first | exact ok0 (by decide) | exact okB (by decide) (by decide) (by decide)) (List.mem_singleton.mp q)) (by decide))
  show gG _ _ _ _ _ _ _ _ _ _
  refine g_iconst M_9_ambiguousNouns (v := nI 0) d_9_ambiguousNouns_7 (by decide) ?_
  refine g_istoren M_9_ambiguousNouns d_9_ambiguousNouns_8 (by decide) (by first | rfl | (simp only [gc]; simp [*])) ?_
  refine g_iloadn M_9_ambiguousNouns d_9_ambiguousNouns_9 (by first | rfl | assumption) ?_
  refine g_aloadn M_9_ambiguousNouns d_9_ambiguousNouns_10 (by first | rfl | assumption) ?_
  refine g_get M_9_ambiguousNouns d_9_ambiguousNouns_11 fl_9_19 (by assumption) (by rfl) ?_
  refine g_get M_9_ambiguousNouns d_9_ambiguousNouns_14 fl_9_212 (by assumption) (by rfl) ?_
  refine gc_V M_9_ambiguousNouns 0 0 [] [.int (nI 0)] d_9_ambiguousNouns_17 cv_9_165 a11.2.2.1 (by rfl) (by rfl) (Nat.le_of_ble_eq_true (by rfl)) (Nat.le_of_ble_eq_true (by rfl)) (by decide) (by decide) (by decide) (by decide) (C_8_count a11.2.2.1 ?_)
  show gG _ _ _ _ _ _ _ _ _ _
  refine g_icmp_ge M_9_ambiguousNouns (tgt := 53) d_9_ambiguousNouns_20 (by decide) (fun _ => ?_) (fun c => absurd (show nI 0 ≤ nI 0 by decide) c)
  refine g_iconst M_9_ambiguousNouns (v := nI 0) d_9_ambiguousNouns_53 (by decide) ?_
  refine g_istoren M_9_ambiguousNouns d_9_ambiguousNouns_54 (by decide) (by first | rfl | (simp only [gc]; simp [*])) ?_
  refine g_iconst M_9_ambiguousNouns (v := nI 0) d_9_ambiguousNouns_55 (by decide) ?_
  refine g_istoren M_9_ambiguousNouns d_9_ambiguousNouns_56 (by decide) (by first | rfl | (simp only [gc]; simp [*])) ?_
  refine g_iloadn M_9_ambiguousNouns d_9_ambiguousNouns_57 (by first | rfl | assumption) ?_
  refine g_aloadn M_9_ambiguousNouns d_9_ambiguousNouns_58 (by first | rfl | assumption) ?_
  refine g_get M_9_ambiguousNouns d_9_ambiguousNouns_59 fl_9_61 (by assumption) (by rfl) ?_
  refine gc_V M_9_ambiguousNouns 0 0 [] [.int (nI 0)] d_9_ambiguousNouns_62 cv_9_165 p1.2.2.1 (by rfl) (by rfl) (Nat.le_of_ble_eq_true (by rfl)) (Nat.le_of_ble_eq_true (by rfl)) (by decide) (by decide) (by decide) (by decide) (C_8_count p1.2.2.1 ?_)
  show gG _ _ _ _ _ _ _ _ _ _
  refine g_icmp_ge M_9_ambiguousNouns (tgt := 104) d_9_ambiguousNouns_65 (by decide) (fun _ => ?_) (fun c => absurd (show nI 0 ≤ nI 0 by decide) c)
  refine g_iloadn M_9_ambiguousNouns d_9_ambiguousNouns_104 (by first | rfl | assumption) ?_
  exact g_iret M_9_ambiguousNouns d_9_ambiguousNouns_105 rfl (by first | rfl | decide) (k h1 (gChg.one (ok0 (by decide)) e1))
set_option maxHeartbeats 4000000 in
set_option maxRecDepth 100000 in
theorem F_type {L : Nat → Nat → Nat} {h : Hp_} {Q : Ot_ → Hp_ → Prop} {c : Nat} (hc : c < 65536) (s : sepL L) (H : mtR h L id [] Nw_ none []) (k : ∀ h', gChg L h h' → Q (.inl (some (.int (nI 1)))) h') : gG 7 240 1 6 M_9_type 0 (lv_args 0 [.ref (L 0 0), .int (nI c)]) [] h Q := by
  obtain ⟨m0, ⟨-, t0, ⟨tf, t1, -, -⟩, gp, gl', t2⟩, S1, ⟨s4, S2, -⟩, -, ⟨-, q0, -, -, qf, q1, q2⟩, sc⟩ := id H
  obtain ⟨a0, a1, a2, a3, a4, a5, -⟩ := id S1
  have t0 : h (L 0 1) = some (.inr (5, [.ref (L 0 2), .int (nI 0), .ref (L 0 3)])) := t0
  have q0 : h (L 0 4) = some (.inr (3, [.ref (L 0 5), .int (nI 0)])) := q0
  refine g_aloadn M_9_type d_9_type_0 (by first | rfl | assumption) ?_
  refine g_get M_9_type d_9_type_1 fl_9_10 (by assumption) (by rfl) ?_
  refine gc_V M_9_type 0 0 [] [] d_9_type_4 cv_9_172 t0 (by rfl) (by rfl) (Nat.le_of_ble_eq_true (by rfl)) (Nat.le_of_ble_eq_true (by rfl)) (by decide) (by decide) (by decide) (by decide) (C_5_isFull (by decide) t0 t1 ?_)
  show gG _ _ _ _ _ _ _ _ _ _
  refine g_if_eq M_9_type (tgt := 20) d_9_type_7 (by decide) (fun _ => ?_) (fun c => absurd (by decide) c)
  refine g_aloadn M_9_type d_9_type_20 (by first | rfl | assumption) ?_
  refine g_get M_9_type d_9_type_21 fl_9_10 (by assumption) (by rfl) ?_
  refine g_iloadn M_9_type d_9_type_24 (by first | rfl | assumption) ?_
  refine gc_V M_9_type 0 0 [.int (nI c)] [] d_9_type_25 cv_9_175 t0 (by rfl) (by rfl) (Nat.le_of_ble_eq_true (by rfl)) (Nat.le_of_ble_eq_true (by rfl)) (by decide) (by decide) (by decide) (by decide) (C_5_append H.2.1 (by decide) hc (fun e => absurd (s 0 1 0 2 (by first | exact ok0 (by decide) | exact okB (by decide) (by decide) (by decide)) (by first | exact ok0 (by decide) | exact okB (by decide) (by decide) (by decide)) e) (by decide)) (fun e => absurd (s 0 3 0 1 (by first | exact ok0 (by decide) | exact okB (by decide) (by decide) (by decide)) (by first | exact ok0 (by decide) | exact okB (by decide) (by decide) (by decide)) e) (by decide)) (fun e => absurd (s 0 3 0 2 (by first | exact ok0 (by decide) | exact okB (by decide) (by decide) (by decide)) (by first | exact ok0 (by decide) | exact okB (by decide) (by decide) (by decide)) e) (by decide)) (fun h1 e1 T1 => ?_))
  have m1 := e1.keep m0 (fun q => by
    simp only [List.mem_cons, List.not_mem_nil, or_false] at q
    rcases q with q | q
    · exact absurd (s 0 0 0 1 (ok0 (by decide)) (ok0 (by decide)) q) (by decide)
    · exact absurd (s 0 0 0 2 (ok0 (by decide)) (ok0 (by decide)) q) (by decide))
  have T2 : h1 (L 0 1) = some (.inr (5, [.ref (L 0 2), .int (nI 1), .ref (L 0 3)])) := T1.2.1
  show gG _ _ _ _ _ _ _ _ _ _
  refine g_aloadn M_9_type d_9_type_28 (by first | rfl | assumption) ?_
  refine g_get M_9_type d_9_type_29 fl_9_10 (by assumption) (by rfl) ?_
  refine gc_V M_9_type 0 0 [] [] d_9_type_32 cv_9_179 T2 (by rfl) (by rfl) (Nat.le_of_ble_eq_true (by rfl)) (Nat.le_of_ble_eq_true (by rfl)) (by decide) (by decide) (by decide) (by decide) (C_5_length T2 ?_)
  show gG _ _ _ _ _ _ _ _ _ _
  exact g_iret M_9_type d_9_type_35 rfl (by first | rfl | decide) (k h1 (gChg.of e1 (fun x hx => by
    simp only [List.mem_cons, List.not_mem_nil, or_false] at hx
    rcases hx with q | q
    · exact ⟨0, 1, ok0 (by decide), q⟩
    · exact ⟨0, 2, ok0 (by decide), q⟩)))
set_option maxHeartbeats 4000000 in
set_option maxRecDepth 100000 in
theorem F_clearText {L : Nat → Nat → Nat} {h : Hp_} {Q : Ot_ → Hp_ → Prop} (s : sepL L) (H : mtR h L id [] Nw_ none []) (k : ∀ h', gChg L h h' → Q (.inl (some (.int (nI 0)))) h') : gG 7 240 1 6 M_9_clearText 0 (lv_args 0 [.ref (L 0 0)]) [] h Q := by
  obtain ⟨m0, ⟨-, t0, ⟨tf, t1, -, -⟩, gp, gl', t2⟩, S1, ⟨s4, S2, -⟩, -, ⟨-, q0, -, -, qf, q1, q2⟩, sc⟩ := id H
  obtain ⟨a0, a1, a2, a3, a4, a5, -⟩ := id S1
  have t0 : h (L 0 1) = some (.inr (5, [.ref (L 0 2), .int (nI 0), .ref (L 0 3)])) := t0
  have q0 : h (L 0 4) = some (.inr (3, [.ref (L 0 5), .int (nI 0)])) := q0
  refine g_aloadn M_9_clearText d_9_clearText_0 (by first | rfl | assumption) ?_
  refine g_get M_9_clearText d_9_clearText_1 fl_9_10 (by assumption) (by rfl) ?_
  refine gc_V M_9_clearText 0 0 [] [] d_9_clearText_4 cv_9_179 t0 (by rfl) (by rfl) (Nat.le_of_ble_eq_true (by rfl)) (Nat.le_of_ble_eq_true (by rfl)) (by decide) (by decide) (by decide) (by decide) (C_5_length t0 ?_)
  show gG _ _ _ _ _ _ _ _ _ _
  refine g_istoren M_9_clearText d_9_clearText_7 (by decide) (by first | rfl | (simp only [gc]; simp [*])) ?_
  refine g_aloadn M_9_clearText d_9_clearText_8 (by first | rfl | assumption) ?_
  refine g_get M_9_clearText d_9_clearText_9 fl_9_10 (by assumption) (by rfl) ?_
  refine gc_V M_9_clearText 0 0 [] [] d_9_clearText_12 cv_9_182 t0 (by rfl) (by rfl) (Nat.le_of_ble_eq_true (by rfl)) (Nat.le_of_ble_eq_true (by rfl)) (by decide) (by decide) (by decide) (by decide) (C_5_clear t0 (fun h1 e1 _ => ?_))
  show gG _ _ _ _ _ _ _ _ _ _
  refine g_iloadn M_9_clearText d_9_clearText_15 (by first | rfl | assumption) ?_
  exact g_iret M_9_clearText d_9_clearText_16 rfl (by first | rfl | decide) (k h1 (gChg.one (ok0 (by decide)) e1))
set_option maxHeartbeats 4000000 in
set_option maxRecDepth 100000 in
theorem F_textError {L : Nat → Nat → Nat} {h : Hp_} {Q : Ot_ → Hp_ → Prop} (s : sepL L) (H : mtR h L id [] Nw_ none []) (k : ∀ h', gChg L h h' → Q (.inl (some (.int (nI 0)))) h') : gG 7 240 1 6 M_9_textError 0 (lv_args 0 [.ref (L 0 0)]) [] h Q := by
  obtain ⟨m0, ⟨-, t0, ⟨tf, t1, -, -⟩, gp, gl', t2⟩, S1, ⟨s4, S2, -⟩, -, ⟨-, q0, -, -, qf, q1, q2⟩, sc⟩ := id H
  obtain ⟨a0, a1, a2, a3, a4, a5, -⟩ := id S1
  have t0 : h (L 0 1) = some (.inr (5, [.ref (L 0 2), .int (nI 0), .ref (L 0 3)])) := t0
  have q0 : h (L 0 4) = some (.inr (3, [.ref (L 0 5), .int (nI 0)])) := q0
  refine g_aloadn M_9_textError d_9_textError_0 (by first | rfl | assumption) ?_
  refine g_get M_9_textError d_9_textError_1 fl_9_10 (by assumption) (by rfl) ?_
  refine gc_V M_9_textError 0 0 [] [] d_9_textError_4 cv_9_185 t0 (by rfl) (by rfl) (Nat.le_of_ble_eq_true (by rfl)) (Nat.le_of_ble_eq_true (by rfl)) (by decide) (by decide) (by decide) (by decide) (C_5_firstError0 (fun e => absurd (s 0 1 0 3 (by first | exact ok0 (by decide) | exact okB (by decide) (by decide) (by decide)) (by first | exact ok0 (by decide) | exact okB (by decide) (by decide) (by decide)) e) (by decide)) t0 t2 (fun h1 e1 => ?_))
  show gG _ _ _ _ _ _ _ _ _ _
  exact g_iret M_9_textError d_9_textError_7 rfl (by first | rfl | decide) (k h1 (gChg.one (ok0 (by decide)) e1))
set_option maxHeartbeats 4000000 in
set_option maxRecDepth 100000 in
theorem F_takeSnapshot {L : Nat → Nat → Nat} {h : Hp_} {Q : Ot_ → Hp_ → Prop} (s : sepL L) (H : mtR h L id [] Nw_ none []) (k : ∀ h', gChg L h h' → Q (.inl (some (.int (nI 0)))) h') : gG 7 240 1 6 M_9_takeSnapshot 0 (lv_args 0 [.ref (L 0 0)]) [] h Q := by
  obtain ⟨m0, ⟨-, t0, ⟨tf, t1, -, -⟩, gp, gl', t2⟩, S1, ⟨s4, S2, -⟩, -, ⟨-, q0, -, -, qf, q1, q2⟩, sc⟩ := id H
  obtain ⟨a0, a1, a2, a3, a4, a5, -⟩ := id S1
  have t0 : h (L 0 1) = some (.inr (5, [.ref (L 0 2), .int (nI 0), .ref (L 0 3)])) := t0
  have q0 : h (L 0 4) = some (.inr (3, [.ref (L 0 5), .int (nI 0)])) := q0
  refine g_aloadn M_9_takeSnapshot d_9_takeSnapshot_0 (by first | rfl | assumption) ?_
  refine g_get M_9_takeSnapshot d_9_takeSnapshot_1 fl_9_23 (by assumption) (by rfl) ?_
  refine g_aloadn M_9_takeSnapshot d_9_takeSnapshot_4 (by first | rfl | assumption) ?_
  refine g_get M_9_takeSnapshot d_9_takeSnapshot_5 fl_9_19 (by assumption) (by rfl) ?_
  refine gc_V M_9_takeSnapshot 0 0 [.ref (L 1 0)] [] d_9_takeSnapshot_8 cv_9_196 S2.1 (by rfl) (by rfl) (Nat.le_of_ble_eq_true (by rfl)) (Nat.le_of_ble_eq_true (by rfl)) (by decide) (by decide) (by decide) (by decide) (C_6_copyFrom (s.r (by decide) (by decide)) (s.off (by decide) (by decide) (by decide) (by decide) (by decide)) S1 S2 (fun h1 e1 S3 => ?_))
  have m1 := e1.keep m0 (notin_map (fun q hq e => absurd (s 0 0 2 q (by first | exact ok0 (by decide) | exact okB (by decide) (by decide) (by decide)) (okB (by decide) (by decide) hq) e).1 (by decide)))
  have a01 := e1.keep a0 (notin_map (fun q hq e => absurd (s 1 0 2 q (by first | exact ok0 (by decide) | exact okB (by decide) (by decide) (by decide)) (okB (by decide) (by decide) hq) e).1 (by decide)))
  have a11 := a1.keep e1 (notin_map (fun q hq e => absurd (s 1 1 2 q (by first | exact ok0 (by decide) | exact okB (by decide) (by decide) (by decide)) (okB (by decide) (by decide) hq) e).1 (by decide))) (notin_map (fun q hq e => absurd (s 1 2 2 q (by first | exact ok0 (by decide) | exact okB (by decide) (by decide) (by decide)) (okB (by decide) (by decide) hq) e).1 (by decide))) (notin_map (fun q hq e => absurd (s 1 3 2 q (by first | exact ok0 (by decide) | exact okB (by decide) (by decide) (by decide)) (okB (by decide) (by decide) hq) e).1 (by decide)))
  show gG _ _ _ _ _ _ _ _ _ _
  refine g_aloadn M_9_takeSnapshot d_9_takeSnapshot_11 (by first | rfl | assumption) ?_
  refine g_iconst M_9_takeSnapshot (v := nI 1) d_9_takeSnapshot_12 (by decide) ?_
  refine e_put M_9_takeSnapshot d_9_takeSnapshot_13 pt_9_208 m1 (by rfl) (by rfl) (fun h2 m2 e2 => ?_)
  have a02 := e2.keep a01 (fun q => absurd (s 1 0 0 0 (by first | exact ok0 (by decide) | exact okB (by decide) (by decide) (by decide)) (by first | exact ok0 (by decide) | exact okB (by decide) (by decide) (by decide)) (List.mem_singleton.mp q)) (by decide))
  have a12 := a11.keep e2 (fun q => absurd (s 1 1 0 0 (by first | exact ok0 (by decide) | exact okB (by decide) (by decide) (by decide)) (by first | exact ok0 (by decide) | exact okB (by decide) (by decide) (by decide)) (List.mem_singleton.mp q)) (by decide)) (fun q => absurd (s 1 2 0 0 (by first | exact ok0 (by decide) | exact okB (by decide) (by decide) (by decide)) (by first | exact ok0 (by decide) | exact okB (by decide) (by decide) (by decide)) (List.mem_singleton.mp q)) (by decide)) (fun q => absurd (s 1 3 0 0 (by first | exact ok0 (by decide) | exact okB (by decide) (by decide) (by decide)) (by first | exact ok0 (by decide) | exact okB (by decide) (by decide) (by decide)) (List.mem_singleton.mp q)) (by decide))
  refine g_aloadn M_9_takeSnapshot d_9_takeSnapshot_16 (by first | rfl | assumption) ?_
  refine g_get M_9_takeSnapshot d_9_takeSnapshot_17 fl_9_19 (by assumption) (by rfl) ?_
  refine g_get M_9_takeSnapshot d_9_takeSnapshot_20 fl_9_212 (by assumption) (by rfl) ?_
  refine gc_V M_9_takeSnapshot 0 0 [] [] d_9_takeSnapshot_23 cv_9_165 a12.2.2.1 (by rfl) (by rfl) (Nat.le_of_ble_eq_true (by rfl)) (Nat.le_of_ble_eq_true (by rfl)) (by decide) (by decide) (by decide) (by decide) (C_8_count a12.2.2.1 ?_)
  show gG _ _ _ _ _ _ _ _ _ _
  exact g_iret M_9_takeSnapshot d_9_takeSnapshot_26 rfl (by first | rfl | decide) (k h2 ((gChg.blk (by decide) (by decide) e1).tr (gChg.one (ok0 (by decide)) e2)))
set_option maxHeartbeats 4000000 in
set_option maxRecDepth 100000 in
theorem F_record {L : Nat → Nat → Nat} {h : Hp_} {Q : Ot_ → Hp_ → Prop} (s : sepL L) (H : mtR h L id [] Nw_ none []) (k : ∀ h', gChg L h h' → stR h' (L 1) Nw_ → h' (L 0 0) = h (L 0 0) → Q (.inl none) h') : gG 5 220 0 0 M_3_record 0 (lv_args 0 [.ref (L 0 4), .ref (L 1 0)]) [] h Q := by
  obtain ⟨m0, ⟨-, t0, ⟨tf, t1, -, -⟩, gp, gl', t2⟩, S1, ⟨s4, S2, -⟩, -, ⟨-, q0, -, -, qf, q1, q2⟩, sc⟩ := id H
  obtain ⟨a0, a1, a2, a3, a4, a5, -⟩ := id S1
  have t0 : h (L 0 1) = some (.inr (5, [.ref (L 0 2), .int (nI 0), .ref (L 0 3)])) := t0
  have q0 : h (L 0 4) = some (.inr (3, [.ref (L 0 5), .int (nI 0)])) := q0
  obtain ⟨f0, zs, Z, -⟩ := q2 0 (by decide)
  refine g_aloadn M_3_record d_3_record_0 (by first | rfl | assumption) ?_
  refine g_get M_3_record d_3_record_1 fl_3_18 (by assumption) (by rfl) ?_
  refine g_aloadn M_3_record d_3_record_4 (by first | rfl | assumption) ?_
  refine g_get M_3_record d_3_record_5 fl_3_11 (by assumption) (by rfl) ?_
  refine g_alen M_3_record d_3_record_8 (by assumption) ?_
  refine g_icmp_lt M_3_record (tgt := 27) d_3_record_9 (by decide) (fun _ => ?_) (fun c => absurd (show nI 0 < nI 4 by decide) c)
  refine g_aloadn M_3_record d_3_record_27 (by first | rfl | assumption) ?_
  refine g_get M_3_record d_3_record_28 fl_3_18 (by assumption) (by rfl) ?_
  refine g_if_lt M_3_record (tgt := 81) d_3_record_31 (by decide) (fun c => absurd c (by decide)) (fun _ => ?_)
  refine g_aloadn M_3_record d_3_record_34 (by first | rfl | assumption) ?_
  refine g_get M_3_record d_3_record_35 fl_3_18 (by assumption) (by rfl) ?_
  refine g_aloadn M_3_record d_3_record_38 (by first | rfl | assumption) ?_
  refine g_get M_3_record d_3_record_39 fl_3_11 (by assumption) (by rfl) ?_
  refine g_alen M_3_record d_3_record_42 (by assumption) ?_
  refine g_icmp_ge M_3_record (tgt := 81) d_3_record_43 (by decide) (fun c => absurd c (by decide)) (fun _ => ?_)
  refine g_aloadn M_3_record d_3_record_46 (by first | rfl | assumption) ?_
  refine g_get M_3_record d_3_record_47 fl_3_11 (by assumption) (by rfl) ?_
  refine g_aloadn M_3_record d_3_record_50 (by first | rfl | assumption) ?_
  refine g_get M_3_record d_3_record_51 fl_3_18 (by assumption) (by rfl) ?_
  refine g_aaload M_3_record d_3_record_54 q1 (vp_in_nI (by decide) (by decide)) (by rw [nI_cl (by decide)]; exact f0) ?_
  refine g_ifnull M_3_record d_3_record_55 ?_
  refine g_aloadn M_3_record d_3_record_58 (by first | rfl | assumption) ?_
  refine g_get M_3_record d_3_record_59 fl_3_11 (by assumption) (by rfl) ?_
  refine g_aloadn M_3_record d_3_record_62 (by first | rfl | assumption) ?_
  refine g_get M_3_record d_3_record_63 fl_3_18 (by assumption) (by rfl) ?_
  refine g_aaload M_3_record d_3_record_66 q1 (vp_in_nI (by decide) (by decide)) (by rw [nI_cl (by decide)]; exact f0) ?_
  refine g_aloadn M_3_record d_3_record_67 (by first | rfl | assumption) ?_
  refine gc_V M_3_record 0 0 [.ref (L 1 0)] [] d_3_record_68 cv_3_25 Z.1 (by rfl) (by rfl) (Nat.le_of_ble_eq_true (by rfl)) (Nat.le_of_ble_eq_true (by rfl)) (by decide) (by decide) (by decide) (by decide) (C_6_copyFrom (s.r (by decide) (by decide)) (s.off (by decide) (by decide) (by decide) (by decide) (by decide)) S1 Z (fun h1 e1 S3 => ?_))
  have q01 := e1.keep q0 (notin_map (fun q hq e => absurd (s 0 4 (4 + id 0) q (by first | exact ok0 (by decide) | exact okB (by decide) (by decide) (by decide)) (okB (by decide) (by decide) hq) e).1 (by decide)))
  have m1 := e1.keep m0 (notin_map (fun q hq e => absurd (s 0 0 (4 + id 0) q (by first | exact ok0 (by decide) | exact okB (by decide) (by decide) (by decide)) (okB (by decide) (by decide) hq) e).1 (by decide)))
  have S11 := S1.keep e1 (fun j hj => notin_map (fun q hq e => absurd (s 1 j (4 + id 0) q (okB (by decide) (by decide) hj) (okB (by decide) (by decide) hq) e).1 (by decide)))
  show gG _ _ _ _ _ _ _ _ _ _
  refine g_aloadn M_3_record d_3_record_71 (by first | rfl | assumption) ?_
  refine g_dup M_3_record d_3_record_72 (by rfl) ?_
  refine g_get M_3_record d_3_record_73 fl_3_18 (by assumption) (by rfl) ?_
  refine g_iconst M_3_record (v := nI 1) d_3_record_76 (by decide) ?_
  refine g_iadd M_3_record d_3_record_77 ?_
  refine e_put M_3_record d_3_record_78 pt_3_18 q01 (by rfl) (by rfl) (fun h2 q02 e2 => ?_)
  refine g_vret M_3_record d_3_record_81 rfl (k h2 ((gChg.blk (by decide) (by decide) e1).tr (gChg.one (ok0 (by decide)) e2)) (S11.keep e2 (fun j hj q => absurd (s 1 j 0 4 (okB (by decide) (by decide) hj) (ok0 (by decide)) (List.mem_singleton.mp q)).1 (by decide))) ?_)
  rw [e2.keep m1 (fun q => absurd (s 0 0 0 4 (by first | exact ok0 (by decide) | exact okB (by decide) (by decide) (by decide)) (by first | exact ok0 (by decide) | exact okB (by decide) (by decide) (by decide)) (List.mem_singleton.mp q)) (by decide)), m0]
set_option maxHeartbeats 4000000 in
set_option maxRecDepth 100000 in
theorem F_removeEmpty {r : Nat → Nat} {v : Hl_} {h : Hp_} {Q : Ot_ → Hp_ → Prop} (D : heR h r v) (hz : v.1 = []) (k : Q (.inl none) h) : gG 5 200 0 0 M_2_removeEmpty 0 (lv_args 0 [.ref (r 0)]) [] h Q := by
  refine g_aloadn M_2_removeEmpty d_2_removeEmpty_0 (by first | rfl | assumption) ?_
  refine gc_V M_2_removeEmpty 0 0 [] [] d_2_removeEmpty_1 cv_2_39 D.1 (by rfl) (by rfl) (Nat.le_of_ble_eq_true (by rfl)) (Nat.le_of_ble_eq_true (by rfl)) (by decide) (by decide) (by decide) (by decide) (C_2_count D ?_)
  rw [hz]
  show gG _ _ _ _ _ _ _ _ _ _
  refine g_iconst M_2_removeEmpty (v := nI 1) d_2_removeEmpty_4 (by decide) ?_
  refine g_isub M_2_removeEmpty d_2_removeEmpty_5 ?_
  refine g_istoren M_2_removeEmpty d_2_removeEmpty_6 (by decide) (by first | rfl | (simp only [gc]; simp [*])) ?_
  refine g_iloadn M_2_removeEmpty d_2_removeEmpty_7 (by first | rfl | assumption) ?_
  refine g_if_lt M_2_removeEmpty (tgt := 49) d_2_removeEmpty_8 (by decide) (fun _ => ?_) (fun c => absurd (by decide) c)
  exact g_vret M_2_removeEmpty d_2_removeEmpty_49 rfl k
set_option maxHeartbeats 4000000 in
set_option maxRecDepth 100000 in
theorem F_meltStale {L : Nat → Nat → Nat} {h : Hp_} {Q : Ot_ → Hp_ → Prop} (s : sepL L) (H : mtR h L id [] Nw_ none []) (k : ∀ h', gChg L h h' → Q (.inl (some (.int (nI 0)))) h') : gG 7 280 1 6 M_9_meltStale 0 (lv_args 0 [.ref (L 0 0)]) [] h Q := by
  obtain ⟨m0, ⟨-, t0, ⟨tf, t1, -, -⟩, gp, gl', t2⟩, S1, ⟨s4, S2, -⟩, -, ⟨-, q0, -, -, qf, q1, q2⟩, sc⟩ := id H
  obtain ⟨a0, a1, a2, a3, a4, a5, -⟩ := id S1
  have t0 : h (L 0 1) = some (.inr (5, [.ref (L 0 2), .int (nI 0), .ref (L 0 3)])) := t0
  have q0 : h (L 0 4) = some (.inr (3, [.ref (L 0 5), .int (nI 0)])) := q0
  refine g_aloadn M_9_meltStale d_9_meltStale_0 (by first | rfl | assumption) ?_
  refine g_get M_9_meltStale d_9_meltStale_1 fl_9_29 (by assumption) (by rfl) ?_
  refine g_aloadn M_9_meltStale d_9_meltStale_4 (by first | rfl | assumption) ?_
  refine g_get M_9_meltStale d_9_meltStale_5 fl_9_19 (by assumption) (by rfl) ?_
  refine gc_V M_9_meltStale 0 0 [.ref (L 1 0)] [] d_9_meltStale_8 cv_9_103 q0 (by rfl) (by rfl) (Nat.le_of_ble_eq_true (by rfl)) (Nat.le_of_ble_eq_true (by rfl)) (by decide) (by decide) (by decide) (by decide) (F_record s H (fun h1 e1 S3 e0 => ?_))
  have m1 := e0.trans m0
  obtain ⟨b0, -, -, -, -, b5, -⟩ := id S3
  show gG _ _ _ _ _ _ _ _ _ _
  refine g_iconst M_9_meltStale (v := nI 0) d_9_meltStale_11 (by decide) ?_
  refine g_istoren M_9_meltStale d_9_meltStale_12 (by decide) (by first | rfl | (simp only [gc]; simp [*])) ?_
  refine g_iconst M_9_meltStale (v := nI 0) d_9_meltStale_13 (by decide) ?_
  refine g_istoren M_9_meltStale d_9_meltStale_14 (by decide) (by first | rfl | (simp only [gc]; simp [*])) ?_
  refine g_iloadn M_9_meltStale d_9_meltStale_15 (by first | rfl | assumption) ?_
  refine g_aloadn M_9_meltStale d_9_meltStale_16 (by first | rfl | assumption) ?_
  refine g_get M_9_meltStale d_9_meltStale_17 fl_9_19 (by assumption) (by rfl) ?_
  refine g_get M_9_meltStale d_9_meltStale_20 fl_9_82 (by assumption) (by rfl) ?_
  refine gc_V M_9_meltStale 0 0 [] [.int (nI 0)] d_9_meltStale_23 cv_9_130 b5.1 (by rfl) (by rfl) (Nat.le_of_ble_eq_true (by rfl)) (Nat.le_of_ble_eq_true (by rfl)) (by decide) (by decide) (by decide) (by decide) (C_2_count b5 ?_)
  show gG _ _ _ _ _ _ _ _ _ _
  refine g_icmp_ge M_9_meltStale (tgt := 75) d_9_meltStale_26 (by decide) (fun _ => ?_) (fun c => absurd (show nI 0 ≤ nI 0 by decide) c)
  refine g_aloadn M_9_meltStale d_9_meltStale_75 (by first | rfl | assumption) ?_
  refine g_get M_9_meltStale d_9_meltStale_76 fl_9_19 (by assumption) (by rfl) ?_
  refine g_get M_9_meltStale d_9_meltStale_79 fl_9_82 (by assumption) (by rfl) ?_
  refine gc_V M_9_meltStale 0 0 [] [] d_9_meltStale_82 cv_9_144 b5.1 (by rfl) (by rfl) (Nat.le_of_ble_eq_true (by rfl)) (Nat.le_of_ble_eq_true (by rfl)) (by decide) (by decide) (by decide) (by decide) (F_removeEmpty b5 rfl ?_)
  show gG _ _ _ _ _ _ _ _ _ _
  refine g_aloadn M_9_meltStale d_9_meltStale_85 (by first | rfl | assumption) ?_
  refine g_get M_9_meltStale d_9_meltStale_86 fl_9_19 (by assumption) (by rfl) ?_
  refine g_dup M_9_meltStale d_9_meltStale_89 (by rfl) ?_
  refine g_get M_9_meltStale d_9_meltStale_90 fl_9_127 (by assumption) (by rfl) ?_
  refine g_iloadn M_9_meltStale d_9_meltStale_93 (by first | rfl | assumption) ?_
  refine g_iadd M_9_meltStale d_9_meltStale_94 ?_
  refine e_put M_9_meltStale d_9_meltStale_95 pt_9_127 b0 (by rfl) (by rfl) (fun h2 b02 e2 => ?_)
  refine g_iloadn M_9_meltStale d_9_meltStale_98 (by first | rfl | assumption) ?_
  exact g_iret M_9_meltStale d_9_meltStale_99 rfl (by first | rfl | decide) (k h2 (e1.tr (gChg.one (okB (by decide) (by decide) (by decide)) e2)))
