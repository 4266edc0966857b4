/-! ===== small methods, the frame of a call ===== -/
def gChg (L : Nat → Nat → Nat) (h h' : Hp_) : Prop := ∀ y v, h y = some v → (∀ i j, okL i j → y ≠ L i j) → h' y = some v
theorem gChg.rfl' {L : Nat → Nat → Nat} {h : Hp_} : gChg L h h := fun _ _ q _ => q
theorem gChg.of {L : Nat → Nat → Nat} {h h' : Hp_} {S A : List Nat} (e : gExt h h' S A) (hs : ∀ x ∈ S, ∃ i j, okL i j ∧ x = L i j) : gChg L h h' := fun y v q n => e.keep q (fun m => by
  obtain ⟨i, j, h1, h2⟩ := hs y m
  exact n i j h1 h2)
theorem gChg.tr {L : Nat → Nat → Nat} {h h1 h2 : Hp_} (a : gChg L h h1) (b : gChg L h1 h2) : gChg L h h2 := fun y v q n => b y v (a y v q n) n
theorem ok0 {j : Nat} (h : j < 23) : okL 0 j := Or.inl ⟨rfl, h⟩
theorem okB {i j : Nat} (h1 : 1 ≤ i) (h2 : i ≤ 7) (h : j < 24) : okL i j := Or.inr ⟨h1, h2, h⟩
theorem gChg.blk {L : Nat → Nat → Nat} {h h' : Hp_} {A : List Nat} {i : Nat} (h1 : 1 ≤ i) (h2 : i ≤ 7) (e : gExt h h' ((List.range 24).map (L i)) A) : gChg L h h' := gChg.of e (fun x hx => by
  obtain ⟨j, hj, rfl⟩ := List.mem_map.mp hx
  exact ⟨i, j, okB h1 h2 (List.mem_range.mp hj), rfl⟩)
theorem gChg.one {L : Nat → Nat → Nat} {h h' : Hp_} {A : List Nat} {i j : Nat} (o : okL i j) (e : gExt h h' [L i j] A) : gChg L h h' := gChg.of e (fun x hx => ⟨i, j, o, List.mem_singleton.mp hx⟩)
theorem sepL.r {L : Nat → Nat → Nat} (s : sepL L) {i : Nat} (h1 : 1 ≤ i) (h2 : i ≤ 7) : sepR (L i) 24 := fun j k hj hk e => (s _ _ _ _ (okB h1 h2 hj) (okB h1 h2 hk) e).2
theorem sepL.off {L : Nat → Nat → Nat} (s : sepL L) {i i' : Nat} (h1 : 1 ≤ i) (h2 : i ≤ 7) (h3 : 1 ≤ i') (h4 : i' ≤ 7) (n : i ≠ i') : offM (L i) (L i') 24 := fun j k hj hk e => n (s _ _ _ _ (okB h1 h2 hj) (okB h3 h4 hk) e).1
theorem i32_01 {x : Int32} (h1 : ¬ x < 0) (h2 : x < nI 1) : x = 0 := by
  have h2' : x < 1 := h2
  rw [Int32.lt_iff_toInt_lt] at h1 h2'
  apply Int32.toInt_inj.mp
  have e0 : (0 : Int32).toInt = 0 := by decide
  have e1 : (1 : Int32).toInt = 1 := by decide
  omega
abbrev IOB_ : String := "java/lang/IndexOutOfBoundsException"
abbrev ISE_ : String := "java/lang/IllegalStateException"

set_option maxHeartbeats 4000000 in
set_option maxRecDepth 100000 in
theorem C_5_length {a : Nat} {v w : Value} {n : Int32} {h : Hp_} {Q : Ot_ → Hp_ → Prop} (h0 : h a = some (.inr (5, [v, .int n, w]))) (k : Q (.inl (some (.int n))) h) : gG 1 60 0 0 M_5_length 0 (lv_args 0 [.ref a]) [] h Q := by
  refine g_aloadn M_5_length d_5_length_0 (by first | rfl | assumption) ?_
  refine g_get M_5_length d_5_length_1 fl_5_22 (by assumption) (by rfl) ?_
  exact g_iret M_5_length d_5_length_4 rfl rfl k
set_option maxHeartbeats 4000000 in
set_option maxRecDepth 100000 in
theorem C_3_count {a : Nat} {v : Value} {n : Int32} {h : Hp_} {Q : Ot_ → Hp_ → Prop} (h0 : h a = some (.inr (3, [v, .int n]))) (k : Q (.inl (some (.int n))) h) : gG 1 60 0 0 M_3_count 0 (lv_args 0 [.ref a]) [] h Q := by
  refine g_aloadn M_3_count d_3_count_0 (by first | rfl | assumption) ?_
  refine g_get M_3_count d_3_count_1 fl_3_18 (by assumption) (by rfl) ?_
  exact g_iret M_3_count d_3_count_4 rfl rfl k
set_option maxHeartbeats 4000000 in
set_option maxRecDepth 100000 in
theorem C_2_count {r : Nat → Nat} {v : Hl_} {h : Hp_} {Q : Ot_ → Hp_ → Prop} (D : heR h r v) (k : Q (.inl (some (.int (nI v.1.length)))) h) : gG 2 90 0 0 M_2_count 0 (lv_args 0 [.ref (r 0)]) [] h Q := by
  obtain ⟨v0, ⟨-, -, v1, -⟩, -⟩ := id D
  refine g_aloadn M_2_count d_2_count_0 (by first | rfl | assumption) ?_
  refine g_get M_2_count d_2_count_1 fl_2_14 (by assumption) (by rfl) ?_
  refine gc_V M_2_count 0 0 [] [] d_2_count_4 cv_2_27 v1 (by rfl) (by rfl) (Nat.le_of_ble_eq_true (by rfl)) (Nat.le_of_ble_eq_true (by rfl)) (by decide) (by decide) (by decide) (by decide) (C_8_count v1 ?_)
  exact g_iret M_2_count d_2_count_7 rfl rfl k
set_option maxHeartbeats 4000000 in
set_option maxRecDepth 100000 in
theorem C_5_isFull {a s n : Nat} {w : Value} {f : Nat → Int32} {h : Hp_} {Q : Ot_ → Hp_ → Prop} (hn : n ≤ 60) (h0 : h a = some (.inr (5, [.ref s, .int (nI n), w]))) (h1 : h s = some (.inl (false, .char, (60, .inl f)))) (k : Q (.inl (some (.int (bI (decide (60 ≤ n)))))) h) : gG 1 60 0 0 M_5_isFull 0 (lv_args 0 [.ref a]) [] h Q := by
  refine g_aloadn M_5_isFull d_5_isFull_0 (by first | rfl | assumption) ?_
  refine g_get M_5_isFull d_5_isFull_1 fl_5_22 (by assumption) (by rfl) ?_
  refine g_aloadn M_5_isFull d_5_isFull_4 (by first | rfl | assumption) ?_
  refine g_get M_5_isFull d_5_isFull_5 fl_5_9 (by assumption) (by rfl) ?_
  refine g_alen M_5_isFull d_5_isFull_8 (by assumption) ?_
  refine g_icmp_lt M_5_isFull (tgt := 16) d_5_isFull_9 (by decide) (fun c => ?_) (fun c => ?_)
  · rw [nI_ltI (by omega) (by decide)] at c
    rw [show decide (60 ≤ n) = false from decide_eq_false (by omega)] at k
    refine g_iconst M_5_isFull (v := nI 0) d_5_isFull_16 (by decide) ?_
    exact g_iret M_5_isFull d_5_isFull_17 rfl (by decide) k
  · rw [nI_ltI (by omega) (by decide)] at c
    rw [show decide (60 ≤ n) = true from decide_eq_true (by omega)] at k
    refine g_iconst M_5_isFull (v := nI 1) d_5_isFull_12 (by decide) ?_
    refine g_goto M_5_isFull (tgt := 17) d_5_isFull_13 (by decide) ?_
    exact g_iret M_5_isFull d_5_isFull_17 rfl (by decide) k
set_option maxHeartbeats 4000000 in
set_option maxRecDepth 100000 in
theorem C_5_append {t s g c : Nat} {tx : List Nat} {h : Hp_} {Q : Ot_ → Hp_ → Prop} (R : txR h t s g tx) (hn : tx.length < 60) (hc : c < 65536) (n1 : t ≠ s) (n2 : g ≠ t) (n3 : g ≠ s) (k : ∀ h', gExt h h' [t, s] [] → txR h' t s g (tx ++ [c]) → Q (.inl none) h') : gG 1 60 0 0 M_5_append 0 (lv_args 0 [.ref t, .int (nI c)]) [] h Q := by
  obtain ⟨⟨h16, hx⟩, v, ⟨f, g1, hcc, hf⟩, p, l, hg⟩ := id R
  refine g_aloadn M_5_append d_5_append_0 (by first | rfl | assumption) ?_
  refine g_get M_5_append d_5_append_1 fl_5_22 (by assumption) (by rfl) ?_
  refine g_if_lt M_5_append (tgt := 39) d_5_append_4 (by decide) (fun c => absurd c (nI_pos (by omega))) (fun _ => ?_)
  refine g_aloadn M_5_append d_5_append_7 (by first | rfl | assumption) ?_
  refine g_get M_5_append d_5_append_8 fl_5_22 (by assumption) (by rfl) ?_
  refine g_aloadn M_5_append d_5_append_11 (by first | rfl | assumption) ?_
  refine g_get M_5_append d_5_append_12 fl_5_9 (by assumption) (by rfl) ?_
  refine g_alen M_5_append d_5_append_15 (by assumption) ?_
  refine g_icmp_ge M_5_append (tgt := 39) d_5_append_16 (by decide) (fun c => absurd c (nI_ge (by omega) (by decide))) (fun _ => ?_)
  refine g_aloadn M_5_append d_5_append_19 (by first | rfl | assumption) ?_
  refine g_get M_5_append d_5_append_20 fl_5_9 (by assumption) (by rfl) ?_
  refine g_aloadn M_5_append d_5_append_23 (by first | rfl | assumption) ?_
  refine g_get M_5_append d_5_append_24 fl_5_22 (by assumption) (by rfl) ?_
  refine g_iloadn M_5_append d_5_append_27 (by first | rfl | assumption) ?_
  refine e_cas M_5_append d_5_append_28 g1 (vp_in_nI (by omega) (by decide)) (gCh_n (gCh_of hc)) (fun h1 u1 e1 => ?_)
  rw [nI_cl (by omega)] at u1
  have v1 := e1.keep v (by simpa using n1)
  refine g_aloadn M_5_append d_5_append_29 (by first | rfl | assumption) ?_
  refine g_dup M_5_append d_5_append_30 (by rfl) ?_
  refine g_get M_5_append d_5_append_31 fl_5_22 (by assumption) (by rfl) ?_
  refine g_iconst M_5_append (v := nI 1) d_5_append_34 (by decide) ?_
  refine g_iadd M_5_append d_5_append_35 ?_
  refine e_put M_5_append d_5_append_36 pt_5_22 v1 (by rfl) (by rfl) (fun h2 v2 e2 => ?_)
  have u2 := e2.keep u1 (by simpa using n1.symm)
  have e := (e1.weak (S' := [t, s]) (by simp)).trans e2 (by simp)
  have hl : nI tx.length + nI 1 = nI (tx ++ [c]).length := by
    rw [List.length_append]
    exact nI_add _ _
  refine g_vret M_5_append d_5_append_39 rfl (k h2 (by simpa using e) ⟨⟨by simp; omega, fun x hx2 => ?_⟩, by rw [← hl]; exact v2, ⟨_, u2, fun j hj => ?_, fun j hj => ?_⟩, p, l, e2.keep (e1.keep hg (by simpa using n3)) (by simpa using n2)⟩)
  · rcases List.mem_append.mp hx2 with q | q
    · exact hx x q
    · rw [List.mem_singleton.mp q]; exact hc
  · unfold upd
    split
    · exact gCh_of hc
    · exact hcc j hj
  · rw [getD_app]
    unfold upd
    simp only [List.length_append, List.length_cons, List.length_nil] at hj
    split
    · rfl
    · exact hf j (by omega)
set_option maxHeartbeats 4000000 in
set_option maxRecDepth 100000 in
theorem C_5_clear {a : Nat} {v w : Value} {n : Int32} {h : Hp_} {Q : Ot_ → Hp_ → Prop} (h0 : h a = some (.inr (5, [v, .int n, w]))) (k : ∀ h', gExt h h' [a] [] → h' a = some (.inr (5, [v, .int (nI 0), w])) → Q (.inl none) h') : gG 1 60 0 0 M_5_clear 0 (lv_args 0 [.ref a]) [] h Q := by
  refine g_aloadn M_5_clear d_5_clear_0 (by first | rfl | assumption) ?_
  refine g_iconst M_5_clear (v := nI 0) d_5_clear_1 (by decide) ?_
  refine e_put M_5_clear d_5_clear_2 pt_5_22 h0 (by rfl) (by rfl) (fun h1 v1 e1 => ?_)
  exact g_vret M_5_clear d_5_clear_5 rfl (k h1 e1 v1)
set_option maxHeartbeats 4000000 in
set_option maxRecDepth 100000 in
theorem C_8_clear {a la na rows width : Nat} {ws : List (List Nat)} {h : Hp_} {Q : Ot_ → Hp_ → Prop} (n1 : la ≠ a) (n2 : na ≠ a) (R : wsR h a la na rows width ws) (k : ∀ h', gExt h h' [a] [] → wsR h' a la na rows width [] → Q (.inl none) h') : gG 1 60 0 0 M_8_clear 0 (lv_args 0 [.ref a]) [] h Q := by
  obtain ⟨p1, p2, p3, f, g, p4, p5, p6, p7⟩ := id R
  refine g_aloadn M_8_clear d_8_clear_0 (by first | rfl | assumption) ?_
  refine g_iconst M_8_clear (v := nI 0) d_8_clear_1 (by decide) ?_
  refine e_put M_8_clear d_8_clear_2 pt_8_29 p3 (by rfl) (by rfl) (fun h1 v1 e1 => ?_)
  exact g_vret M_8_clear d_8_clear_5 rfl (k h1 e1 ⟨Nat.zero_le _, fun w hw => (nomatch hw), v1, f, g, e1.keep p4 (by simpa using n1), e1.keep p5 (by simpa using n2), p6, fun i hi => absurd hi (Nat.not_lt_zero i)⟩)
set_option maxHeartbeats 4000000 in
set_option maxRecDepth 100000 in
theorem C_1_start {a : Nat} {p l : Int32} {h : Hp_} {Q : Ot_ → Hp_ → Prop} (h0 : h a = some (.inr (1, [.int p, .int l]))) (k : ∀ h', gExt h h' [a] [] → h' a = some (.inr (1, [.int (nI 0), .int (nI 0)])) → Q (.inl none) h') : gG 1 60 0 0 M_1_start 0 (lv_args 0 [.ref a]) [] h Q := by
  refine g_aloadn M_1_start d_1_start_0 (by first | rfl | assumption) ?_
  refine g_iconst M_1_start (v := nI 0) d_1_start_1 (by decide) ?_
  refine e_put M_1_start d_1_start_2 pt_1_11 h0 (by rfl) (by rfl) (fun h1 v1 e1 => ?_)
  refine g_aloadn M_1_start d_1_start_5 (by first | rfl | assumption) ?_
  refine g_iconst M_1_start (v := nI 0) d_1_start_6 (by decide) ?_
  refine e_put M_1_start d_1_start_7 pt_1_15 v1 (by rfl) (by rfl) (fun h2 v2 e2 => ?_)
  exact g_vret M_1_start d_1_start_10 rfl (k h2 (by simpa using (e1.trans e2 (by simp))) v2)
set_option maxHeartbeats 4000000 in
set_option maxRecDepth 100000 in
theorem C_1_mayEnd0 {a : Nat} {h : Hp_} {Q : Ot_ → Hp_ → Prop} (h0 : h a = some (.inr (1, [.int (nI 0), .int (nI 0)]))) (k : Q (.inl (some (.int 0))) h) : gG 1 60 0 0 M_1_mayEnd 0 (lv_args 0 [.ref a]) [] h Q := by
  refine g_aloadn M_1_mayEnd d_1_mayEnd_0 (by first | rfl | assumption) ?_
  refine g_get M_1_mayEnd d_1_mayEnd_1 fl_1_11 (by assumption) (by rfl) ?_
  refine g_iconst M_1_mayEnd (v := nI 1) d_1_mayEnd_4 (by decide) ?_
  refine g_icmp_eq M_1_mayEnd (tgt := 31) d_1_mayEnd_5 (by decide) (fun c => absurd c (by decide)) (fun _ => ?_)
  refine g_aloadn M_1_mayEnd d_1_mayEnd_8 (by first | rfl | assumption) ?_
  refine g_get M_1_mayEnd d_1_mayEnd_9 fl_1_11 (by assumption) (by rfl) ?_
  refine g_iconst M_1_mayEnd (v := nI 2) d_1_mayEnd_12 (by decide) ?_
  refine g_icmp_eq M_1_mayEnd (tgt := 24) d_1_mayEnd_13 (by decide) (fun c => absurd c (by decide)) (fun _ => ?_)
  refine g_aloadn M_1_mayEnd d_1_mayEnd_16 (by first | rfl | assumption) ?_
  refine g_get M_1_mayEnd d_1_mayEnd_17 fl_1_11 (by assumption) (by rfl) ?_
  refine g_iconst M_1_mayEnd (v := nI 5) d_1_mayEnd_20 (by decide) ?_
  refine g_icmp_ne M_1_mayEnd (tgt := 35) d_1_mayEnd_21 (by decide) (fun _ => ?_) (fun c => absurd c (by decide))
  refine g_iconst M_1_mayEnd (v := nI 0) d_1_mayEnd_35 (by decide) ?_
  exact g_iret M_1_mayEnd d_1_mayEnd_36 rfl (by decide) k
set_option maxHeartbeats 4000000 in
set_option maxRecDepth 100000 in
theorem C_5_firstError0 {t s g : Nat} {p l : Int32} {h : Hp_} {Q : Ot_ → Hp_ → Prop} (n1 : t ≠ g) (h0 : h t = some (.inr (5, [.ref s, .int (nI 0), .ref g]))) (h1 : h g = some (.inr (1, [.int p, .int l]))) (k : ∀ h', gExt h h' [g] [] → Q (.inl (some (.int (nI 0)))) h') : gG 3 110 0 0 M_5_firstError 0 (lv_args 0 [.ref t]) [] h Q := by
  refine g_aloadn M_5_firstError d_5_firstError_0 (by first | rfl | assumption) ?_
  refine g_get M_5_firstError d_5_firstError_1 fl_5_18 (by assumption) (by rfl) ?_
  refine gc_V M_5_firstError 0 0 [] [] d_5_firstError_4 cv_5_26 h1 (by rfl) (by rfl) (Nat.le_of_ble_eq_true (by rfl)) (Nat.le_of_ble_eq_true (by rfl)) (by decide) (by decide) (by decide) (by decide) (C_1_start h1 (fun h2 e2 v2 => ?_))
  have u2 := e2.keep h0 (by simpa using n1)
  show gG _ _ _ _ _ _ _ _ _ _
  refine g_iconst M_5_firstError (v := nI 0) d_5_firstError_7 (by decide) ?_
  refine g_istoren M_5_firstError d_5_firstError_8 (by decide) (by first | rfl | (simp only [gc]; simp [*])) ?_
  refine g_iloadn M_5_firstError d_5_firstError_9 (by first | rfl | assumption) ?_
  refine g_aloadn M_5_firstError d_5_firstError_10 (by first | rfl | assumption) ?_
  refine g_get M_5_firstError d_5_firstError_11 fl_5_22 (by assumption) (by rfl) ?_
  refine g_icmp_ge M_5_firstError (tgt := 40) d_5_firstError_14 (by decide) (fun _ => ?_) (fun c => absurd (show nI 0 ≤ nI 0 by decide) c)
  refine g_aloadn M_5_firstError d_5_firstError_40 (by first | rfl | assumption) ?_
  refine g_get M_5_firstError d_5_firstError_41 fl_5_18 (by assumption) (by rfl) ?_
  refine gc_V M_5_firstError 0 0 [] [] d_5_firstError_44 cv_5_37 v2 (by rfl) (by rfl) (Nat.le_of_ble_eq_true (by rfl)) (Nat.le_of_ble_eq_true (by rfl)) (by decide) (by decide) (by decide) (by decide) (C_1_mayEnd0 v2 ?_)
  show gG _ _ _ _ _ _ _ _ _ _
  refine g_if_eq M_5_firstError (tgt := 54) d_5_firstError_47 (by decide) (fun _ => ?_) (fun c => absurd rfl c)
  refine g_aloadn M_5_firstError d_5_firstError_54 (by first | rfl | assumption) ?_
  refine g_get M_5_firstError d_5_firstError_55 fl_5_22 (by assumption) (by rfl) ?_
  exact g_iret M_5_firstError d_5_firstError_58 rfl rfl (k _ e2)
set_option maxHeartbeats 4000000 in
set_option maxRecDepth 100000 in
theorem C_5_isWord0 {t : Nat} {v w : Value} {h : Hp_} {Q : Ot_ → Hp_ → Prop} (h0 : h t = some (.inr (5, [v, .int (nI 0), w]))) (k : Q (.inl (some (.int 0))) h) : gG 3 110 0 0 M_5_isWord 0 (lv_args 0 [.ref t]) [] h Q := by
  refine g_iconst M_5_isWord (v := nI 0) d_5_isWord_0 (by decide) ?_
  refine g_istoren M_5_isWord d_5_isWord_1 (by decide) (by first | rfl | (simp only [gc]; simp [*])) ?_
  refine g_iloadn M_5_isWord d_5_isWord_2 (by first | rfl | assumption) ?_
  refine g_aloadn M_5_isWord d_5_isWord_3 (by first | rfl | assumption) ?_
  refine g_get M_5_isWord d_5_isWord_4 fl_5_22 (by assumption) (by rfl) ?_
  refine g_icmp_ge M_5_isWord (tgt := 29) d_5_isWord_7 (by decide) (fun _ => ?_) (fun c => absurd (show nI 0 ≤ nI 0 by decide) c)
  refine g_aloadn M_5_isWord d_5_isWord_29 (by first | rfl | assumption) ?_
  refine g_get M_5_isWord d_5_isWord_30 fl_5_22 (by assumption) (by rfl) ?_
  refine g_iconst M_5_isWord (v := nI 1) d_5_isWord_33 (by decide) ?_
  refine g_icmp_lt M_5_isWord (tgt := 50) d_5_isWord_34 (by decide) (fun _ => ?_) (fun c => absurd (show nI 0 < nI 1 by decide) c)
  refine g_iconst M_5_isWord (v := nI 0) d_5_isWord_50 (by decide) ?_
  exact g_iret M_5_isWord d_5_isWord_51 rfl (by decide) k
set_option maxHeartbeats 4000000 in
set_option maxRecDepth 100000 in
theorem C_9_checkNoun {L : Nat → Nat → Nat} {h : Hp_} {Q : Ot_ → Hp_ → Prop} {b : Nat → Nat} {tx : List Nat} {now : Sl_} {snap : Option Sl_} {rc : List Sl_} {x : Int32} (H : mtR h L b tx now snap rc) (kin : ¬ x < 0 → x < nI now.1.length → Q (.inl none) h) (kout : x < 0 ∨ ¬ x < nI now.1.length → Q (.inr IOB_) h) : gG 6 200 1 6 M_9_checkNoun 0 (lv_args 0 [.ref (L 0 0), .int x]) [] h Q := by
  obtain ⟨m0, -, S1, -⟩ := id H
  obtain ⟨a0, a1, a2, a3, a4, a5, -⟩ := id S1
  refine g_iloadn M_9_checkNoun d_9_checkNoun_0 (by first | rfl | assumption) ?_
  refine g_if_lt M_9_checkNoun (tgt := 18) d_9_checkNoun_1 (by decide) (fun c => ?_) (fun c => ?_)
  · exact g_throwW M_9_checkNoun th_9_checkNoun_18 rfl d_9_checkNoun_18 d_9_checkNoun_21 d_9_checkNoun_22 d_9_checkNoun_25 d_9_checkNoun_28 (Nat.le_of_ble_eq_true (by rfl)) (Nat.le_of_ble_eq_true (by rfl)) (Nat.le_of_ble_eq_true (by rfl)) (Nat.le_of_ble_eq_true (by rfl)) (kout (Or.inl c))
  refine g_iloadn M_9_checkNoun d_9_checkNoun_4 (by first | rfl | assumption) ?_
  refine g_aloadn M_9_checkNoun d_9_checkNoun_5 (by first | rfl | assumption) ?_
  refine g_get M_9_checkNoun d_9_checkNoun_6 fl_9_19 (by assumption) (by rfl) ?_
  refine g_get M_9_checkNoun d_9_checkNoun_9 fl_9_212 (by assumption) (by rfl) ?_
  refine gc_V M_9_checkNoun 1 6 [] [.int x] d_9_checkNoun_12 cv_9_165 a1.2.2.1 (by rfl) (by rfl) (Nat.le_of_ble_eq_true (by rfl)) (Nat.le_of_ble_eq_true (by rfl)) (by decide) (by decide) (by decide) (by decide) (C_8_count a1.2.2.1 ?_)
  show gG _ _ _ _ _ _ _ _ _ _
  refine g_icmp_lt M_9_checkNoun (tgt := 29) d_9_checkNoun_15 (by decide) (fun d => ?_) (fun d => ?_)
  · exact g_vret M_9_checkNoun d_9_checkNoun_29 rfl (kin c d)
  exact g_throwW M_9_checkNoun th_9_checkNoun_18 rfl d_9_checkNoun_18 d_9_checkNoun_21 d_9_checkNoun_22 d_9_checkNoun_25 d_9_checkNoun_28 (Nat.le_of_ble_eq_true (by rfl)) (Nat.le_of_ble_eq_true (by rfl)) (Nat.le_of_ble_eq_true (by rfl)) (Nat.le_of_ble_eq_true (by rfl)) (kout (Or.inr d))
set_option maxHeartbeats 4000000 in
set_option maxRecDepth 100000 in
theorem C_9_checkDie {L : Nat → Nat → Nat} {h : Hp_} {Q : Ot_ → Hp_ → Prop} {b : Nat → Nat} {tx : List Nat} {now : Sl_} {snap : Option Sl_} {rc : List Sl_} {x : Int32} (H : mtR h L b tx now snap rc) (kin : ¬ x < 0 → x < nI now.2.2.2.1.1.length → Q (.inl none) h) (kout : x < 0 ∨ ¬ x < nI now.2.2.2.1.1.length → Q (.inr IOB_) h) : gG 6 200 1 6 M_9_checkDie 0 (lv_args 0 [.ref (L 0 0), .int x]) [] h Q := by
  obtain ⟨m0, -, S1, -⟩ := id H
  obtain ⟨a0, a1, a2, a3, a4, a5, -⟩ := id S1
  refine g_iloadn M_9_checkDie d_9_checkDie_0 (by first | rfl | assumption) ?_
  refine g_if_lt M_9_checkDie (tgt := 18) d_9_checkDie_1 (by decide) (fun c => ?_) (fun c => ?_)
  · exact g_throwW M_9_checkDie th_9_checkDie_18 rfl d_9_checkDie_18 d_9_checkDie_21 d_9_checkDie_22 d_9_checkDie_25 d_9_checkDie_28 (Nat.le_of_ble_eq_true (by rfl)) (Nat.le_of_ble_eq_true (by rfl)) (Nat.le_of_ble_eq_true (by rfl)) (Nat.le_of_ble_eq_true (by rfl)) (kout (Or.inl c))
  refine g_iloadn M_9_checkDie d_9_checkDie_4 (by first | rfl | assumption) ?_
  refine g_aloadn M_9_checkDie d_9_checkDie_5 (by first | rfl | assumption) ?_
  refine g_get M_9_checkDie d_9_checkDie_6 fl_9_19 (by assumption) (by rfl) ?_
  refine g_get M_9_checkDie d_9_checkDie_9 fl_9_152 (by assumption) (by rfl) ?_
  refine gc_V M_9_checkDie 1 6 [] [.int x] d_9_checkDie_12 cv_9_161 a4.1 (by rfl) (by rfl) (Nat.le_of_ble_eq_true (by rfl)) (Nat.le_of_ble_eq_true (by rfl)) (by decide) (by decide) (by decide) (by decide) (C_0_count a4 ?_)
  show gG _ _ _ _ _ _ _ _ _ _
  refine g_icmp_lt M_9_checkDie (tgt := 29) d_9_checkDie_15 (by decide) (fun d => ?_) (fun d => ?_)
  · exact g_vret M_9_checkDie d_9_checkDie_29 rfl (kin c d)
  exact g_throwW M_9_checkDie th_9_checkDie_18 rfl d_9_checkDie_18 d_9_checkDie_21 d_9_checkDie_22 d_9_checkDie_25 d_9_checkDie_28 (Nat.le_of_ble_eq_true (by rfl)) (Nat.le_of_ble_eq_true (by rfl)) (Nat.le_of_ble_eq_true (by rfl)) (Nat.le_of_ble_eq_true (by rfl)) (kout (Or.inr d))
