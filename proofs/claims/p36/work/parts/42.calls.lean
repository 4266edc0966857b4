/-! ===== a mint, unpacked; its small calls ===== -/
theorem neL {L : Nat → Nat → Nat} {i j i' j' : Nat} (s : sepL L) (o : okL i j) (o' : okL i' j') (n : ¬ (i = i' ∧ j = j')) : L i j ≠ L i' j' := fun e => n (s _ _ _ _ o o' e)
theorem offW {L : Nat → Nat → Nat} {i j j' : Nat} (s : sepL L) (h1 : 1 ≤ i) (h2 : i ≤ 7) (hj : j < 23) (hj' : j' < 23) : ∀ k, k < 24 → L i k ≠ L 0 j ∧ L i k ≠ L 0 j' := fun k hk => ⟨neL s (okB h1 h2 hk) (ok0 hj) (by omega), neL s (okB h1 h2 hk) (ok0 hj') (by omega)⟩
theorem mtN.un {h : Hp_} {L : Nat → Nat → Nat} {X : Mt_} (H : mtN h L X) : sepL L ∧ okN X.2.1 ∧ h (L 0 0) = some (.inr (9, [.ref (L 0 1), .ref (L 1 0), .ref (L 2 0), .int (bI X.2.2.1.isSome), .ref (L 0 4), .ref (L 3 0), .ref (L 0 6), .ref (L 0 11), .ref (L 0 13), .ref (L 0 15), .ref (L 0 17), .ref (L 0 20)])) ∧
    txR h (L 0 1) (L 0 2) (L 0 3) X.1 ∧ stN h (L 1) X.2.1 ∧ h (L 1 0) = some (.inr (6, [.ref (L 1 1), .ref (L 1 4), .ref (L 1 7), .ref (L 1 10), .ref (L 1 18), .int (nI X.2.1.2.2.2.2.2.1), .int (nI X.2.1.2.2.2.2.2.2)])) ∧
    wsR h (L 1 1) (L 1 2) (L 1 3) 20 12 X.2.1.1 ∧ wsR h (L 1 4) (L 1 5) (L 1 6) 10 12 X.2.1.2.1 ∧ wsR h (L 1 7) (L 1 8) (L 1 9) 10 12 X.2.1.2.2.1 ∧ diR h (fun k => L 1 (10 + k)) X.2.1.2.2.2.1 ∧ heN h (fun k => L 1 (18 + k)) X.2.1.2.2.2.2.1 ∧ X.2.1.2.2.1.length = X.2.1.2.1.length ∧
    (∃ sn, stR h (L 2) sn ∧ ∀ z, X.2.2.1 = some z → sn = sL z) ∧ (∃ tr, stR h (L 3) tr) ∧ (∃ b, hiR h L b (X.2.2.2.map sL)) ∧ (∃ x, orT h (L 0 6) (L 0 7) (L 0 8) (L 0 9) (L 0 10) x) ∧
    (∃ w, wdR h (L 0 11) (L 0 12) w) ∧ (∃ w, wdR h (L 0 13) (L 0 14) w) ∧ (∃ w, wdR h (L 0 15) (L 0 16) w) ∧ (∃ w, wsR h (L 0 17) (L 0 18) (L 0 19) 20 16 w) ∧ ∃ w, wsR h (L 0 20) (L 0 21) (L 0 22) 22 12 w := by
  obtain ⟨s, b, ⟨k1, k2, k3, ⟨s4, k4, k4'⟩, k5, k6, ⟨kd, cd, is2, w1, w2, a1⟩, a11, a13, a15, a17, a20⟩, ok1, ok2, ok3⟩ := H
  rw [Option.isSome_map] at k1
  exact ⟨s, ok1, k1, k2, ⟨k3, ok1⟩, k3.1, k3.2.1, k3.2.2.1, k3.2.2.2.1, k3.2.2.2.2.1, ⟨k3.2.2.2.2.2.1, ok1.1⟩, k3.2.2.2.2.2.2, ⟨s4, k4, fun z hz => k4' _ (by rw [hz]; rfl)⟩, k5, ⟨b, k6⟩, ⟨(kd, cd, is2, w1, w2), a1⟩, a11, a13, a15, a17, a20⟩
theorem mtN.okr {h : Hp_} {L : Nat → Nat → Nat} {X : Mt_} (H : mtN h L X) : ∀ z ∈ X.2.2.2, okN z := H.2.choose_spec.2.2.2
theorem mtN.oks {h : Hp_} {L : Nat → Nat → Nat} {X : Mt_} (H : mtN h L X) : ∀ z, X.2.2.1 = some z → okN z := H.2.choose_spec.2.2.1
set_option maxHeartbeats 4000000 in
set_option maxRecDepth 100000 in
theorem C_9_checkNounV {L : Nat → Nat → Nat} {X : Mt_} {h : Hp_} {Q : Ot_ → Hp_ → Prop} {n : Nat} (H : mtN h L X) (hn : n < X.2.1.1.length) (k : Q (.inl none) h) : gG 2 90 0 0 M_9_checkNoun 0 (lv_args 0 [.ref (L 0 0), .int (nI n)]) [] h Q := by
  obtain ⟨sp, ok, m0, T, N, v, W1, W2, W3, D, E, l1, ⟨sn, Z, ze⟩, ⟨tr, Y⟩, ⟨b, I⟩, ⟨ox, O⟩, ⟨ya, Wa⟩, ⟨yp, Wp⟩, ⟨yo, Wo⟩, ⟨ps, Ps⟩, os, Os⟩ := H.un
  have nl := W1.1
  refine g_iloadn M_9_checkNoun d_9_checkNoun_0 (by first | rfl | assumption) ?_
  refine g_if_lt M_9_checkNoun (tgt := 18) d_9_checkNoun_1 (by decide) (fun c9 => absurd c9 (nI_pos (by omega))) (fun _ => ?_)
  refine g_iloadn M_9_checkNoun d_9_checkNoun_4 (by first | rfl | assumption) ?_
  refine g_aloadn M_9_checkNoun d_9_checkNoun_5 (by first | rfl | assumption) ?_
  refine g_get M_9_checkNoun d_9_checkNoun_6 fl_9_19 (by assumption) (by rfl) ?_
  refine g_get M_9_checkNoun d_9_checkNoun_9 fl_9_212 (by assumption) (by rfl) ?_
  refine gc_V M_9_checkNoun 0 0 [] _ d_9_checkNoun_12 cv_9_165 W1.2.2.1 (by rfl) (by rfl) (Nat.le_of_ble_eq_true (by rfl)) (Nat.le_of_ble_eq_true (by rfl)) (by decide) (by decide) (by decide) (by decide) (C_8_count W1.2.2.1 ?_)
  show gG _ _ _ _ _ _ _ _ _ _
  refine g_icmp_lt M_9_checkNoun (tgt := 29) d_9_checkNoun_15 (by decide) (fun _ => ?_) (fun c9 => absurd (nI_lt hn (by omega)) c9)
  exact g_vret M_9_checkNoun d_9_checkNoun_29 rfl (k)
set_option maxHeartbeats 4000000 in
set_option maxRecDepth 100000 in
theorem C_9_checkNounX {L : Nat → Nat → Nat} {X : Mt_} {h : Hp_} {Q : Ot_ → Hp_ → Prop} {n : Nat} (H : mtN h L X) (hn : ¬ n < X.2.1.1.length) (h31 : n < 2 ^ 31) (k : Q (.inr IOB_) h) : gG 6 200 1 6 M_9_checkNoun 0 (lv_args 0 [.ref (L 0 0), .int (nI n)]) [] h Q := by
  obtain ⟨sp, ok, m0, T, N, v, W1, W2, W3, D, E, l1, ⟨sn, Z, ze⟩, ⟨tr, Y⟩, ⟨b, I⟩, ⟨ox, O⟩, ⟨ya, Wa⟩, ⟨yp, Wp⟩, ⟨yo, Wo⟩, ⟨ps, Ps⟩, os, Os⟩ := H.un
  have nl := W1.1
  refine g_iloadn M_9_checkNoun d_9_checkNoun_0 (by first | rfl | assumption) ?_
  refine g_if_lt M_9_checkNoun (tgt := 18) d_9_checkNoun_1 (by decide) (fun c9 => absurd c9 (nI_pos (by omega))) (fun _ => ?_)
  refine g_iloadn M_9_checkNoun d_9_checkNoun_4 (by first | rfl | assumption) ?_
  refine g_aloadn M_9_checkNoun d_9_checkNoun_5 (by first | rfl | assumption) ?_
  refine g_get M_9_checkNoun d_9_checkNoun_6 fl_9_19 (by assumption) (by rfl) ?_
  refine g_get M_9_checkNoun d_9_checkNoun_9 fl_9_212 (by assumption) (by rfl) ?_
  refine gc_V M_9_checkNoun 1 6 [] _ d_9_checkNoun_12 cv_9_165 W1.2.2.1 (by rfl) (by rfl) (Nat.le_of_ble_eq_true (by rfl)) (Nat.le_of_ble_eq_true (by rfl)) (by decide) (by decide) (by decide) (by decide) (C_8_count W1.2.2.1 ?_)
  show gG _ _ _ _ _ _ _ _ _ _
  refine g_icmp_lt M_9_checkNoun (tgt := 29) d_9_checkNoun_15 (by decide) (fun c9 => absurd c9 (nI_nlt (by omega) (by omega))) (fun _ => ?_)
  exact g_throwW M_9_checkNoun th_9_checkNoun_18 rfl d_9_checkNoun_18 d_9_checkNoun_21 d_9_checkNoun_22 d_9_checkNoun_25 d_9_checkNoun_28 (Nat.le_of_ble_eq_true (by rfl)) (Nat.le_of_ble_eq_true (by rfl)) (Nat.le_of_ble_eq_true (by rfl)) (Nat.le_of_ble_eq_true (by rfl)) (k)
set_option maxHeartbeats 4000000 in
set_option maxRecDepth 100000 in
theorem C_9_checkDieV {L : Nat → Nat → Nat} {X : Mt_} {h : Hp_} {Q : Ot_ → Hp_ → Prop} {n : Nat} (H : mtN h L X) (hn : n < X.2.1.2.2.2.1.1.length) (k : Q (.inl none) h) : gG 3 120 0 0 M_9_checkDie 0 (lv_args 0 [.ref (L 0 0), .int (nI n)]) [] h Q := by
  obtain ⟨sp, ok, m0, T, N, v, W1, W2, W3, D, E, l1, ⟨sn, Z, ze⟩, ⟨tr, Y⟩, ⟨b, I⟩, ⟨ox, O⟩, ⟨ya, Wa⟩, ⟨yp, Wp⟩, ⟨yo, Wo⟩, ⟨ps, Ps⟩, os, Os⟩ := H.un
  have nl := D.2.1.1
  refine g_iloadn M_9_checkDie d_9_checkDie_0 (by first | rfl | assumption) ?_
  refine g_if_lt M_9_checkDie (tgt := 18) d_9_checkDie_1 (by decide) (fun c9 => absurd c9 (nI_pos (by omega))) (fun _ => ?_)
  refine g_iloadn M_9_checkDie d_9_checkDie_4 (by first | rfl | assumption) ?_
  refine g_aloadn M_9_checkDie d_9_checkDie_5 (by first | rfl | assumption) ?_
  refine g_get M_9_checkDie d_9_checkDie_6 fl_9_19 (by assumption) (by rfl) ?_
  refine g_get M_9_checkDie d_9_checkDie_9 fl_9_152 (by assumption) (by rfl) ?_
  refine gc_V M_9_checkDie 0 0 [] _ d_9_checkDie_12 cv_9_161 D.1 (by rfl) (by rfl) (Nat.le_of_ble_eq_true (by rfl)) (Nat.le_of_ble_eq_true (by rfl)) (by decide) (by decide) (by decide) (by decide) (C_0_count D ?_)
  show gG _ _ _ _ _ _ _ _ _ _
  refine g_icmp_lt M_9_checkDie (tgt := 29) d_9_checkDie_15 (by decide) (fun _ => ?_) (fun c9 => absurd (nI_lt hn (by omega)) c9)
  exact g_vret M_9_checkDie d_9_checkDie_29 rfl (k)
set_option maxHeartbeats 4000000 in
set_option maxRecDepth 100000 in
theorem C_9_checkManyV {m : Nat} {h : Hp_} {Q : Ot_ → Hp_ → Prop} (h1 : 1 ≤ m) (h2 : m ≤ 99) (k : Q (.inl none) h) : gG 1 60 0 0 M_9_checkMany 0 (lv_args 0 [.int (nI m)]) [] h Q := by
  refine g_iloadn M_9_checkMany d_9_checkMany_0 (by first | rfl | assumption) ?_
  refine g_iconst M_9_checkMany (v := nI 1) d_9_checkMany_1 (by decide) ?_
  refine g_icmp_lt M_9_checkMany (tgt := 11) d_9_checkMany_2 (by decide) (fun c9 => absurd c9 (nI_nlt h1 (by omega))) (fun _ => ?_)
  refine g_iloadn M_9_checkMany d_9_checkMany_5 (by first | rfl | assumption) ?_
  refine g_bipush M_9_checkMany (v := nI 99) d_9_checkMany_6 (by decide) ?_
  refine g_icmp_le M_9_checkMany (tgt := 22) d_9_checkMany_8 (by decide) (fun _ => ?_) (fun c9 => absurd (nI_le h2 (by decide)) c9)
  exact g_vret M_9_checkMany d_9_checkMany_22 rfl (k)
set_option maxHeartbeats 4000000 in
set_option maxRecDepth 100000 in
theorem C_9_checkCountV {m : Nat} {h : Hp_} {Q : Ot_ → Hp_ → Prop} (h2 : m ≤ 9999) (k : Q (.inl none) h) : gG 1 60 0 0 M_9_checkCount 0 (lv_args 0 [.int (nI m)]) [] h Q := by
  refine g_iloadn M_9_checkCount d_9_checkCount_0 (by first | rfl | assumption) ?_
  refine g_if_lt M_9_checkCount (tgt := 11) d_9_checkCount_1 (by decide) (fun c9 => absurd c9 (nI_pos (by omega))) (fun _ => ?_)
  refine g_iloadn M_9_checkCount d_9_checkCount_4 (by first | rfl | assumption) ?_
  refine g_sipush M_9_checkCount (v := nI 9999) d_9_checkCount_5 (by decide) ?_
  refine g_icmp_le M_9_checkCount (tgt := 22) d_9_checkCount_8 (by decide) (fun _ => ?_) (fun c9 => absurd (nI_le h2 (by decide)) c9)
  exact g_vret M_9_checkCount d_9_checkCount_22 rfl (k)
set_option maxHeartbeats 4000000 in
set_option maxRecDepth 100000 in
theorem C_9_checkPlaceV {j aw lw : Nat} {w : List Nat} {h : Hp_} {Q : Ot_ → Hp_ → Prop} (W : wdR h aw lw w) (hj : j < w.length) (k : Q (.inl none) h) : gG 2 90 0 0 M_9_checkPlace 0 (lv_args 0 [.int (nI j), .ref aw]) [] h Q := by
  have w16 := W.1.1
  refine g_iloadn M_9_checkPlace d_9_checkPlace_0 (by first | rfl | assumption) ?_
  refine g_if_lt M_9_checkPlace (tgt := 12) d_9_checkPlace_1 (by decide) (fun c9 => absurd c9 (nI_pos (by omega))) (fun _ => ?_)
  refine g_iloadn M_9_checkPlace d_9_checkPlace_4 (by first | rfl | assumption) ?_
  refine g_aloadn M_9_checkPlace d_9_checkPlace_5 (by first | rfl | assumption) ?_
  refine gc_V M_9_checkPlace 0 0 [] _ d_9_checkPlace_6 cv_9_220 W.2.1 (by rfl) (by rfl) (Nat.le_of_ble_eq_true (by rfl)) (Nat.le_of_ble_eq_true (by rfl)) (by decide) (by decide) (by decide) (by decide) (C_7_length W.2.1 ?_)
  show gG _ _ _ _ _ _ _ _ _ _
  refine g_icmp_lt M_9_checkPlace (tgt := 23) d_9_checkPlace_9 (by decide) (fun _ => ?_) (fun c9 => absurd (nI_lt hj (by omega)) c9)
  exact g_vret M_9_checkPlace d_9_checkPlace_23 rfl (k)
set_option maxHeartbeats 4000000 in
set_option maxRecDepth 100000 in
theorem C_9_nouns {L : Nat → Nat → Nat} {X : Mt_} {h : Hp_} {Q : Ot_ → Hp_ → Prop} (H : mtN h L X) (k : Q (.inl (some (.int (nI X.2.1.1.length)))) h) : gG 3 120 0 0 M_9_nouns 0 (lv_args 0 [.ref (L 0 0)]) [] h Q := by
  obtain ⟨sp, ok, m0, T, N, v, W1, W2, W3, D, E, l1, ⟨sn, Z, ze⟩, ⟨tr, Y⟩, ⟨b, I⟩, ⟨ox, O⟩, ⟨ya, Wa⟩, ⟨yp, Wp⟩, ⟨yo, Wo⟩, ⟨ps, Ps⟩, os, Os⟩ := H.un
  refine g_aloadn M_9_nouns d_9_nouns_0 (by first | rfl | assumption) ?_
  refine g_get M_9_nouns d_9_nouns_1 fl_9_19 (by assumption) (by rfl) ?_
  refine g_get M_9_nouns d_9_nouns_4 fl_9_212 (by assumption) (by rfl) ?_
  refine gc_V M_9_nouns 0 0 [] _ d_9_nouns_7 cv_9_165 W1.2.2.1 (by rfl) (by rfl) (Nat.le_of_ble_eq_true (by rfl)) (Nat.le_of_ble_eq_true (by rfl)) (by decide) (by decide) (by decide) (by decide) (C_8_count W1.2.2.1 ?_)
  show gG _ _ _ _ _ _ _ _ _ _
  exact g_iret M_9_nouns d_9_nouns_10 rfl rfl (k)
set_option maxHeartbeats 4000000 in
set_option maxRecDepth 100000 in
theorem C_9_dies {L : Nat → Nat → Nat} {X : Mt_} {h : Hp_} {Q : Ot_ → Hp_ → Prop} (H : mtN h L X) (k : Q (.inl (some (.int (nI X.2.1.2.2.2.1.1.length)))) h) : gG 3 120 0 0 M_9_dies 0 (lv_args 0 [.ref (L 0 0)]) [] h Q := by
  obtain ⟨sp, ok, m0, T, N, v, W1, W2, W3, D, E, l1, ⟨sn, Z, ze⟩, ⟨tr, Y⟩, ⟨b, I⟩, ⟨ox, O⟩, ⟨ya, Wa⟩, ⟨yp, Wp⟩, ⟨yo, Wo⟩, ⟨ps, Ps⟩, os, Os⟩ := H.un
  refine g_aloadn M_9_dies d_9_dies_0 (by first | rfl | assumption) ?_
  refine g_get M_9_dies d_9_dies_1 fl_9_19 (by assumption) (by rfl) ?_
  refine g_get M_9_dies d_9_dies_4 fl_9_152 (by assumption) (by rfl) ?_
  refine gc_V M_9_dies 0 0 [] _ d_9_dies_7 cv_9_161 D.1 (by rfl) (by rfl) (Nat.le_of_ble_eq_true (by rfl)) (Nat.le_of_ble_eq_true (by rfl)) (by decide) (by decide) (by decide) (by decide) (C_0_count D ?_)
  show gG _ _ _ _ _ _ _ _ _ _
  exact g_iret M_9_dies d_9_dies_10 rfl rfl (k)
set_option maxHeartbeats 4000000 in
set_option maxRecDepth 100000 in
theorem C_9_irregulars {L : Nat → Nat → Nat} {X : Mt_} {h : Hp_} {Q : Ot_ → Hp_ → Prop} (H : mtN h L X) (k : Q (.inl (some (.int (nI X.2.1.2.1.length)))) h) : gG 3 120 0 0 M_9_irregulars 0 (lv_args 0 [.ref (L 0 0)]) [] h Q := by
  obtain ⟨sp, ok, m0, T, N, v, W1, W2, W3, D, E, l1, ⟨sn, Z, ze⟩, ⟨tr, Y⟩, ⟨b, I⟩, ⟨ox, O⟩, ⟨ya, Wa⟩, ⟨yp, Wp⟩, ⟨yo, Wo⟩, ⟨ps, Ps⟩, os, Os⟩ := H.un
  refine g_aloadn M_9_irregulars d_9_irregulars_0 (by first | rfl | assumption) ?_
  refine g_get M_9_irregulars d_9_irregulars_1 fl_9_19 (by assumption) (by rfl) ?_
  refine g_get M_9_irregulars d_9_irregulars_4 fl_9_162 (by assumption) (by rfl) ?_
  refine gc_V M_9_irregulars 0 0 [] _ d_9_irregulars_7 cv_9_165 W2.2.2.1 (by rfl) (by rfl) (Nat.le_of_ble_eq_true (by rfl)) (Nat.le_of_ble_eq_true (by rfl)) (by decide) (by decide) (by decide) (by decide) (C_8_count W2.2.2.1 ?_)
  show gG _ _ _ _ _ _ _ _ _ _
  exact g_iret M_9_irregulars d_9_irregulars_10 rfl rfl (k)
set_option maxHeartbeats 4000000 in
set_option maxRecDepth 100000 in
theorem C_9_heaps {L : Nat → Nat → Nat} {X : Mt_} {h : Hp_} {Q : Ot_ → Hp_ → Prop} (H : mtN h L X) (k : Q (.inl (some (.int (nI X.2.1.2.2.2.2.1.length)))) h) : gG 3 120 0 0 M_9_heaps 0 (lv_args 0 [.ref (L 0 0)]) [] h Q := by
  obtain ⟨sp, ok, m0, T, N, v, W1, W2, W3, D, E, l1, ⟨sn, Z, ze⟩, ⟨tr, Y⟩, ⟨b, I⟩, ⟨ox, O⟩, ⟨ya, Wa⟩, ⟨yp, Wp⟩, ⟨yo, Wo⟩, ⟨ps, Ps⟩, os, Os⟩ := H.un
  rw [← (hL_l (v := X.2.1.2.2.2.2.1)).1] at k
  refine g_aloadn M_9_heaps d_9_heaps_0 (by first | rfl | assumption) ?_
  refine g_get M_9_heaps d_9_heaps_1 fl_9_19 (by assumption) (by rfl) ?_
  refine g_get M_9_heaps d_9_heaps_4 fl_9_82 (by assumption) (by rfl) ?_
  refine gc_V M_9_heaps 0 0 [] _ d_9_heaps_7 cv_9_130 E.1.1 (by rfl) (by rfl) (Nat.le_of_ble_eq_true (by rfl)) (Nat.le_of_ble_eq_true (by rfl)) (by decide) (by decide) (by decide) (by decide) (C_2_count E.1 ?_)
  show gG _ _ _ _ _ _ _ _ _ _
  exact g_iret M_9_heaps d_9_heaps_10 rfl rfl (k)
set_option maxHeartbeats 4000000 in
set_option maxRecDepth 100000 in
theorem C_9_recordedStates {L : Nat → Nat → Nat} {X : Mt_} {h : Hp_} {Q : Ot_ → Hp_ → Prop} (H : mtN h L X) (k : Q (.inl (some (.int (nI X.2.2.2.length)))) h) : gG 3 120 0 0 M_9_recordedStates 0 (lv_args 0 [.ref (L 0 0)]) [] h Q := by
  obtain ⟨sp, ok, m0, T, N, v, W1, W2, W3, D, E, l1, ⟨sn, Z, ze⟩, ⟨tr, Y⟩, ⟨b, I⟩, ⟨ox, O⟩, ⟨ya, Wa⟩, ⟨yp, Wp⟩, ⟨yo, Wo⟩, ⟨ps, Ps⟩, os, Os⟩ := H.un
  rw [← List.length_map (f := sL)] at k
  refine g_aloadn M_9_recordedStates d_9_recordedStates_0 (by first | rfl | assumption) ?_
  refine g_get M_9_recordedStates d_9_recordedStates_1 fl_9_29 (by assumption) (by rfl) ?_
  refine gc_V M_9_recordedStates 0 0 [] _ d_9_recordedStates_4 cv_9_202 I.2.1 (by rfl) (by rfl) (Nat.le_of_ble_eq_true (by rfl)) (Nat.le_of_ble_eq_true (by rfl)) (by decide) (by decide) (by decide) (by decide) (C_3_count I.2.1 ?_)
  show gG _ _ _ _ _ _ _ _ _ _
  exact g_iret M_9_recordedStates d_9_recordedStates_7 rfl rfl (k)
set_option maxHeartbeats 4000000 in
set_option maxRecDepth 100000 in
theorem C_9_coinsByAccounts {L : Nat → Nat → Nat} {X : Mt_} {h : Hp_} {Q : Ot_ → Hp_ → Prop} (H : mtN h L X) (hm : X.2.1.2.2.2.2.2.2 ≤ X.2.1.2.2.2.2.2.1) (k : Q (.inl (some (.int (nI (X.2.1.2.2.2.2.2.1 - X.2.1.2.2.2.2.2.2))))) h) : gG 3 120 0 0 M_9_coinsByAccounts 0 (lv_args 0 [.ref (L 0 0)]) [] h Q := by
  obtain ⟨sp, ok, m0, T, N, v, W1, W2, W3, D, E, l1, ⟨sn, Z, ze⟩, ⟨tr, Y⟩, ⟨b, I⟩, ⟨ox, O⟩, ⟨ya, Wa⟩, ⟨yp, Wp⟩, ⟨yo, Wo⟩, ⟨ps, Ps⟩, os, Os⟩ := H.un
  refine g_aloadn M_9_coinsByAccounts d_9_coinsByAccounts_0 (by first | rfl | assumption) ?_
  refine g_get M_9_coinsByAccounts d_9_coinsByAccounts_1 fl_9_19 (by assumption) (by rfl) ?_
  refine g_get M_9_coinsByAccounts d_9_coinsByAccounts_4 fl_9_114 (by assumption) (by rfl) ?_
  refine g_aloadn M_9_coinsByAccounts d_9_coinsByAccounts_7 (by first | rfl | assumption) ?_
  refine g_get M_9_coinsByAccounts d_9_coinsByAccounts_8 fl_9_19 (by assumption) (by rfl) ?_
  refine g_get M_9_coinsByAccounts d_9_coinsByAccounts_11 fl_9_127 (by assumption) (by rfl) ?_
  refine g_isub M_9_coinsByAccounts d_9_coinsByAccounts_14 ?_
  rw [nI_sub hm]
  exact g_iret M_9_coinsByAccounts d_9_coinsByAccounts_15 rfl rfl (k)
set_option maxHeartbeats 4000000 in
set_option maxRecDepth 100000 in
theorem C_9_lettersOf {L : Nat → Nat → Nat} {X : Mt_} {h : Hp_} {Q : Ot_ → Hp_ → Prop} {n : Nat} (H : mtN h L X) (hn : n < X.2.1.1.length) (k : Q (.inl (some (.int (nI (X.2.1.1.getD n []).length)))) h) : gG 3 120 0 0 M_9_lettersOf 0 (lv_args 0 [.ref (L 0 0), .int (nI n)]) [] h Q := by
  obtain ⟨sp, ok, m0, T, N, v, W1, W2, W3, D, E, l1, ⟨sn, Z, ze⟩, ⟨tr, Y⟩, ⟨b, I⟩, ⟨ox, O⟩, ⟨ya, Wa⟩, ⟨yp, Wp⟩, ⟨yo, Wo⟩, ⟨ps, Ps⟩, os, Os⟩ := H.un
  have nl := W1.1
  refine g_aloadn M_9_lettersOf d_9_lettersOf_0 (by first | rfl | assumption) ?_
  refine g_iloadn M_9_lettersOf d_9_lettersOf_1 (by first | rfl | assumption) ?_
  refine gc_V M_9_lettersOf 0 0 [_] _ d_9_lettersOf_2 cv_9_71 m0 (by rfl) (by rfl) (Nat.le_of_ble_eq_true (by rfl)) (Nat.le_of_ble_eq_true (by rfl)) (by decide) (by decide) (by decide) (by decide) (C_9_checkNounV H hn ?_)
  show gG _ _ _ _ _ _ _ _ _ _
  refine g_aloadn M_9_lettersOf d_9_lettersOf_5 (by first | rfl | assumption) ?_
  refine g_get M_9_lettersOf d_9_lettersOf_6 fl_9_19 (by assumption) (by rfl) ?_
  refine g_get M_9_lettersOf d_9_lettersOf_9 fl_9_212 (by assumption) (by rfl) ?_
  refine g_iloadn M_9_lettersOf d_9_lettersOf_12 (by first | rfl | assumption) ?_
  refine gc_V M_9_lettersOf 0 0 [_] _ d_9_lettersOf_13 cv_9_217 W1.2.2.1 (by rfl) (by rfl) (Nat.le_of_ble_eq_true (by rfl)) (Nat.le_of_ble_eq_true (by rfl)) (by decide) (by decide) (by decide) (by decide) (C_8_lengthOf (by decide) W1 (by omega) ?_)
  show gG _ _ _ _ _ _ _ _ _ _
  exact g_iret M_9_lettersOf d_9_lettersOf_16 rfl rfl (k)
set_option maxHeartbeats 4000000 in
set_option maxRecDepth 100000 in
theorem C_9_coinsOf {L : Nat → Nat → Nat} {X : Mt_} {h : Hp_} {Q : Ot_ → Hp_ → Prop} {n : Nat} (H : mtN h L X) (hn : n < X.2.1.1.length) (k : Q (.inl (some (.int (nI (cW n X.2.1.2.2.2.2.1))))) h) : gG 4 160 0 0 M_9_coinsOf 0 (lv_args 0 [.ref (L 0 0), .int (nI n)]) [] h Q := by
  obtain ⟨sp, ok, m0, T, N, v, W1, W2, W3, D, E, l1, ⟨sn, Z, ze⟩, ⟨tr, Y⟩, ⟨b, I⟩, ⟨ox, O⟩, ⟨ya, Wa⟩, ⟨yp, Wp⟩, ⟨yo, Wo⟩, ⟨ps, Ps⟩, os, Os⟩ := H.un
  have nl := W1.1
  refine g_aloadn M_9_coinsOf d_9_coinsOf_0 (by first | rfl | assumption) ?_
  refine g_iloadn M_9_coinsOf d_9_coinsOf_1 (by first | rfl | assumption) ?_
  refine gc_V M_9_coinsOf 0 0 [_] _ d_9_coinsOf_2 cv_9_71 m0 (by rfl) (by rfl) (Nat.le_of_ble_eq_true (by rfl)) (Nat.le_of_ble_eq_true (by rfl)) (by decide) (by decide) (by decide) (by decide) (C_9_checkNounV H hn ?_)
  show gG _ _ _ _ _ _ _ _ _ _
  refine g_aloadn M_9_coinsOf d_9_coinsOf_5 (by first | rfl | assumption) ?_
  refine g_get M_9_coinsOf d_9_coinsOf_6 fl_9_19 (by assumption) (by rfl) ?_
  refine g_get M_9_coinsOf d_9_coinsOf_9 fl_9_82 (by assumption) (by rfl) ?_
  refine g_iloadn M_9_coinsOf d_9_coinsOf_12 (by first | rfl | assumption) ?_
  refine gc_V M_9_coinsOf 0 0 [_] _ d_9_coinsOf_13 cv_9_118 E.1.1 (by rfl) (by rfl) (Nat.le_of_ble_eq_true (by rfl)) (Nat.le_of_ble_eq_true (by rfl)) (by decide) (by decide) (by decide) (by decide) (C_2_coinsWith E (by omega) ?_)
  show gG _ _ _ _ _ _ _ _ _ _
  exact g_iret M_9_coinsOf d_9_coinsOf_16 rfl rfl (k)
def plN (x : Sn_) (n : Nat) : List Nat := plS x (x.1.getD n [])
set_option maxHeartbeats 4000000 in
set_option maxRecDepth 100000 in
theorem C_9_pluralLetters {L : Nat → Nat → Nat} {X : Mt_} {h : Hp_} {Q : Ot_ → Hp_ → Prop} {n : Nat} (H : mtN h L X) (hn : n < X.2.1.1.length) (k : ∀ h', gExt h h' (aL L) [] → mtN h' L X → (plN X.2.1 n).length ≤ 16 → Q (.inl (some (.int (nI (plN X.2.1 n).length)))) h') : gG 7 300 0 0 M_9_pluralLetters 0 (lv_args 0 [.ref (L 0 0), .int (nI n)]) [] h Q := by
  obtain ⟨sp, ok, m0, T, N, v, W1, W2, W3, D, E, l1, ⟨sn, Z, ze⟩, ⟨tr, Y⟩, ⟨b, I⟩, ⟨ox, O⟩, ⟨ya, Wa⟩, ⟨yp, Wp⟩, ⟨yo, Wo⟩, ⟨ps, Ps⟩, os, Os⟩ := H.un
  have nl := W1.1
  refine g_aloadn M_9_pluralLetters d_9_pluralLetters_0 (by first | rfl | assumption) ?_
  refine g_iloadn M_9_pluralLetters d_9_pluralLetters_1 (by first | rfl | assumption) ?_
  refine gc_V M_9_pluralLetters 0 0 [_] _ d_9_pluralLetters_2 cv_9_71 m0 (by rfl) (by rfl) (Nat.le_of_ble_eq_true (by rfl)) (Nat.le_of_ble_eq_true (by rfl)) (by decide) (by decide) (by decide) (by decide) (C_9_checkNounV H hn ?_)
  show gG _ _ _ _ _ _ _ _ _ _
  refine g_aloadn M_9_pluralLetters d_9_pluralLetters_5 (by first | rfl | assumption) ?_
  refine g_get M_9_pluralLetters d_9_pluralLetters_6 fl_9_19 (by assumption) (by rfl) ?_
  refine g_iloadn M_9_pluralLetters d_9_pluralLetters_9 (by first | rfl | assumption) ?_
  refine g_aloadn M_9_pluralLetters d_9_pluralLetters_10 (by first | rfl | assumption) ?_
  refine g_get M_9_pluralLetters d_9_pluralLetters_11 fl_9_50 (by assumption) (by rfl) ?_
  refine gc_V M_9_pluralLetters 0 0 [_, _] _ d_9_pluralLetters_14 cv_9_78 v (by rfl) (by rfl) (Nat.le_of_ble_eq_true (by rfl)) (Nat.le_of_ble_eq_true (by rfl)) (by decide) (by decide) (by decide) (by decide) (C_6_loadPlural N (by omega) Wp (neL sp (ok0 (by decide)) (ok0 (by decide)) (by decide)) (offW sp (by decide) (by decide) (by decide) (by decide)) (fun h1 e1 V1 => ?_))
  have H1 := H.w13 e1 V1
  have m1 := e1.keep m0 (by simpa using ⟨neL sp (ok0 (by decide)) (ok0 (by decide)) (by decide), neL sp (ok0 (by decide)) (ok0 (by decide)) (by decide)⟩)
  show gG _ _ _ _ _ _ _ _ _ _
  refine g_aloadn M_9_pluralLetters d_9_pluralLetters_17 (by first | rfl | assumption) ?_
  refine g_get M_9_pluralLetters d_9_pluralLetters_18 fl_9_50 (by assumption) (by rfl) ?_
  refine gc_V M_9_pluralLetters 0 0 [] _ d_9_pluralLetters_21 cv_9_220 V1.2.1 (by rfl) (by rfl) (Nat.le_of_ble_eq_true (by rfl)) (Nat.le_of_ble_eq_true (by rfl)) (by decide) (by decide) (by decide) (by decide) (C_7_length V1.2.1 ?_)
  show gG _ _ _ _ _ _ _ _ _ _
  exact g_iret M_9_pluralLetters d_9_pluralLetters_24 rfl rfl (k h1 (e1.aLw (fun y hy => aL2 (ok0 (by decide)) (ok0 (by decide)) hy)) H1 V1.1.1)
set_option maxHeartbeats 4000000 in
set_option maxRecDepth 100000 in
theorem C_9_pluralLetter {L : Nat → Nat → Nat} {X : Mt_} {h : Hp_} {Q : Ot_ → Hp_ → Prop} {n j : Nat} (H : mtN h L X) (hn : n < X.2.1.1.length) (hj : j < (plN X.2.1 n).length) (k : ∀ h', gExt h h' (aL L) [] → mtN h' L X → (plN X.2.1 n).getD j 0 < 65536 → Q (.inl (some (.int (nI ((plN X.2.1 n).getD j 0))))) h') : gG 7 300 0 0 M_9_pluralLetter 0 (lv_args 0 [.ref (L 0 0), .int (nI n), .int (nI j)]) [] h Q := by
  obtain ⟨sp, ok, m0, T, N, v, W1, W2, W3, D, E, l1, ⟨sn, Z, ze⟩, ⟨tr, Y⟩, ⟨b, I⟩, ⟨ox, O⟩, ⟨ya, Wa⟩, ⟨yp, Wp⟩, ⟨yo, Wo⟩, ⟨ps, Ps⟩, os, Os⟩ := H.un
  have nl := W1.1
  refine g_aloadn M_9_pluralLetter d_9_pluralLetter_0 (by first | rfl | assumption) ?_
  refine g_iloadn M_9_pluralLetter d_9_pluralLetter_1 (by first | rfl | assumption) ?_
  refine gc_V M_9_pluralLetter 0 0 [_] _ d_9_pluralLetter_2 cv_9_71 m0 (by rfl) (by rfl) (Nat.le_of_ble_eq_true (by rfl)) (Nat.le_of_ble_eq_true (by rfl)) (by decide) (by decide) (by decide) (by decide) (C_9_checkNounV H hn ?_)
  show gG _ _ _ _ _ _ _ _ _ _
  refine g_aloadn M_9_pluralLetter d_9_pluralLetter_5 (by first | rfl | assumption) ?_
  refine g_get M_9_pluralLetter d_9_pluralLetter_6 fl_9_19 (by assumption) (by rfl) ?_
  refine g_iloadn M_9_pluralLetter d_9_pluralLetter_9 (by first | rfl | assumption) ?_
  refine g_aloadn M_9_pluralLetter d_9_pluralLetter_10 (by first | rfl | assumption) ?_
  refine g_get M_9_pluralLetter d_9_pluralLetter_11 fl_9_50 (by assumption) (by rfl) ?_
  refine gc_V M_9_pluralLetter 0 0 [_, _] _ d_9_pluralLetter_14 cv_9_78 v (by rfl) (by rfl) (Nat.le_of_ble_eq_true (by rfl)) (Nat.le_of_ble_eq_true (by rfl)) (by decide) (by decide) (by decide) (by decide) (C_6_loadPlural N (by omega) Wp (neL sp (ok0 (by decide)) (ok0 (by decide)) (by decide)) (offW sp (by decide) (by decide) (by decide) (by decide)) (fun h1 e1 V1 => ?_))
  have H1 := H.w13 e1 V1
  have m1 := e1.keep m0 (by simpa using ⟨neL sp (ok0 (by decide)) (ok0 (by decide)) (by decide), neL sp (ok0 (by decide)) (ok0 (by decide)) (by decide)⟩)
  have v16 := V1.1.1
  replace hj : j < (plS X.2.1 (X.2.1.1.getD n [])).length := hj
  show gG _ _ _ _ _ _ _ _ _ _
  refine g_iloadn M_9_pluralLetter d_9_pluralLetter_17 (by first | rfl | assumption) ?_
  refine g_aloadn M_9_pluralLetter d_9_pluralLetter_18 (by first | rfl | assumption) ?_
  refine g_get M_9_pluralLetter d_9_pluralLetter_19 fl_9_50 (by assumption) (by rfl) ?_
  refine gc_S M_9_pluralLetter 0 0 [_, _] _ d_9_pluralLetter_22 cs_9_221 (by rfl) (by rfl) (by rfl) (Nat.le_of_ble_eq_true (by rfl)) (Nat.le_of_ble_eq_true (by rfl)) (by decide) (by decide) (by decide) (by decide) (C_9_checkPlaceV V1 hj ?_)
  show gG _ _ _ _ _ _ _ _ _ _
  refine g_aloadn M_9_pluralLetter d_9_pluralLetter_25 (by first | rfl | assumption) ?_
  refine g_get M_9_pluralLetter d_9_pluralLetter_26 fl_9_50 (by assumption) (by rfl) ?_
  refine g_iloadn M_9_pluralLetter d_9_pluralLetter_29 (by first | rfl | assumption) ?_
  refine gc_V M_9_pluralLetter 0 0 [_] _ d_9_pluralLetter_30 cv_9_224 V1.2.1 (by rfl) (by rfl) (Nat.le_of_ble_eq_true (by rfl)) (Nat.le_of_ble_eq_true (by rfl)) (by decide) (by decide) (by decide) (by decide) (C_7_letter V1 (by omega) ?_)
  show gG _ _ _ _ _ _ _ _ _ _
  exact g_iret M_9_pluralLetter d_9_pluralLetter_33 rfl (gCh_n (gCh_of (V1.1.get _))) (k h1 (e1.aLw (fun y hy => aL2 (ok0 (by decide)) (ok0 (by decide)) hy)) H1 (V1.1.get _))
set_option maxHeartbeats 4000000 in
set_option maxRecDepth 100000 in
theorem C_9_counted1 {L : Nat → Nat → Nat} {X : Mt_} {h : Hp_} {Q : Ot_ → Hp_ → Prop} {n j : Nat} (H : mtN h L X) (hn : n < X.2.1.1.length) (hj : j < (X.2.1.1.getD n []).length) (k : ∀ h', gExt h h' (aL L) [] → mtN h' L X → (X.2.1.1.getD n []).getD j 0 < 65536 → Q (.inl (some (.int (nI ((X.2.1.1.getD n []).getD j 0))))) h') : gG 7 300 0 0 M_9_countedLetter 0 (lv_args 0 [.ref (L 0 0), .int (nI n), .int (nI 1), .int (nI j)]) [] h Q := by
  obtain ⟨sp, ok, m0, T, N, v, W1, W2, W3, D, E, l1, ⟨sn, Z, ze⟩, ⟨tr, Y⟩, ⟨b, I⟩, ⟨ox, O⟩, ⟨ya, Wa⟩, ⟨yp, Wp⟩, ⟨yo, Wo⟩, ⟨ps, Ps⟩, os, Os⟩ := H.un
  have nl := W1.1
  refine g_aloadn M_9_countedLetter d_9_countedLetter_0 (by first | rfl | assumption) ?_
  refine g_iloadn M_9_countedLetter d_9_countedLetter_1 (by first | rfl | assumption) ?_
  refine gc_V M_9_countedLetter 0 0 [_] _ d_9_countedLetter_2 cv_9_71 m0 (by rfl) (by rfl) (Nat.le_of_ble_eq_true (by rfl)) (Nat.le_of_ble_eq_true (by rfl)) (by decide) (by decide) (by decide) (by decide) (C_9_checkNounV H hn ?_)
  show gG _ _ _ _ _ _ _ _ _ _
  refine g_iloadn M_9_countedLetter d_9_countedLetter_5 (by first | rfl | assumption) ?_
  refine gc_S M_9_countedLetter 0 0 [_] _ d_9_countedLetter_6 cs_9_228 (by rfl) (by rfl) (by rfl) (Nat.le_of_ble_eq_true (by rfl)) (Nat.le_of_ble_eq_true (by rfl)) (by decide) (by decide) (by decide) (by decide) (C_9_checkCountV (by decide) ?_)
  show gG _ _ _ _ _ _ _ _ _ _
  refine g_iloadn M_9_countedLetter d_9_countedLetter_9 (by first | rfl | assumption) ?_
  refine g_iconst M_9_countedLetter (v := nI 1) d_9_countedLetter_10 (by decide) ?_
  refine g_icmp_ne M_9_countedLetter (tgt := 32) d_9_countedLetter_11 (by decide) (fun c9 => False.elim (c9 rfl)) (fun _ => ?_)
  refine g_aloadn M_9_countedLetter d_9_countedLetter_14 (by first | rfl | assumption) ?_
  refine g_get M_9_countedLetter d_9_countedLetter_15 fl_9_19 (by assumption) (by rfl) ?_
  refine g_get M_9_countedLetter d_9_countedLetter_18 fl_9_212 (by assumption) (by rfl) ?_
  refine g_iloadn M_9_countedLetter d_9_countedLetter_21 (by first | rfl | assumption) ?_
  refine g_aloadn M_9_countedLetter d_9_countedLetter_22 (by first | rfl | assumption) ?_
  refine g_get M_9_countedLetter d_9_countedLetter_23 fl_9_46 (by assumption) (by rfl) ?_
  refine gc_V M_9_countedLetter 0 0 [_, _] _ d_9_countedLetter_26 cv_9_231 W1.2.2.1 (by rfl) (by rfl) (Nat.le_of_ble_eq_true (by rfl)) (Nat.le_of_ble_eq_true (by rfl)) (by decide) (by decide) (by decide) (by decide) (C_8_load (by decide) (by decide) W1 (by omega) Wa (neL sp (ok0 (by decide)) (ok0 (by decide)) (by decide)) (fun y hy q => by simp only [List.mem_cons, List.not_mem_nil, or_false] at hy q; rcases hy with rfl | rfl | rfl <;> rcases q with q | q <;> exact neL sp (okB (by decide) (by decide) (by decide)) (ok0 (by decide)) (by decide) q) (fun h1 e1 V1 => ?_))
  have H1 := H.w11 e1 V1
  have m1 := e1.keep m0 (by simpa using ⟨neL sp (ok0 (by decide)) (ok0 (by decide)) (by decide), neL sp (ok0 (by decide)) (ok0 (by decide)) (by decide)⟩)
  have v16 := V1.1.1
  show gG _ _ _ _ _ _ _ _ _ _
  refine g_goto M_9_countedLetter (tgt := 44) d_9_countedLetter_29 (by decide) ?_
  refine g_iloadn M_9_countedLetter d_9_countedLetter_44 (by first | rfl | assumption) ?_
  refine g_aloadn M_9_countedLetter d_9_countedLetter_45 (by first | rfl | assumption) ?_
  refine g_get M_9_countedLetter d_9_countedLetter_46 fl_9_46 (by assumption) (by rfl) ?_
  refine gc_S M_9_countedLetter 0 0 [_, _] _ d_9_countedLetter_49 cs_9_221 (by rfl) (by rfl) (by rfl) (Nat.le_of_ble_eq_true (by rfl)) (Nat.le_of_ble_eq_true (by rfl)) (by decide) (by decide) (by decide) (by decide) (C_9_checkPlaceV V1 hj ?_)
  show gG _ _ _ _ _ _ _ _ _ _
  refine g_aloadn M_9_countedLetter d_9_countedLetter_52 (by first | rfl | assumption) ?_
  refine g_get M_9_countedLetter d_9_countedLetter_53 fl_9_46 (by assumption) (by rfl) ?_
  refine g_iloadn M_9_countedLetter d_9_countedLetter_56 (by first | rfl | assumption) ?_
  refine gc_V M_9_countedLetter 0 0 [_] _ d_9_countedLetter_57 cv_9_224 V1.2.1 (by rfl) (by rfl) (Nat.le_of_ble_eq_true (by rfl)) (Nat.le_of_ble_eq_true (by rfl)) (by decide) (by decide) (by decide) (by decide) (C_7_letter V1 (by omega) ?_)
  show gG _ _ _ _ _ _ _ _ _ _
  exact g_iret M_9_countedLetter d_9_countedLetter_60 rfl (gCh_n (gCh_of (V1.1.get _))) (k h1 (e1.aLw (fun y hy => aL2 (ok0 (by decide)) (ok0 (by decide)) hy)) H1 (V1.1.get _))
set_option maxHeartbeats 4000000 in
set_option maxRecDepth 100000 in
theorem C_9_counted0 {L : Nat → Nat → Nat} {X : Mt_} {h : Hp_} {Q : Ot_ → Hp_ → Prop} {n j : Nat} (H : mtN h L X) (hn : n < X.2.1.1.length) (hj : j < (plN X.2.1 n).length) (k : ∀ h', gExt h h' (aL L) [] → mtN h' L X → (plN X.2.1 n).getD j 0 < 65536 → Q (.inl (some (.int (nI ((plN X.2.1 n).getD j 0))))) h') : gG 7 300 0 0 M_9_countedLetter 0 (lv_args 0 [.ref (L 0 0), .int (nI n), .int (nI 0), .int (nI j)]) [] h Q := by
  obtain ⟨sp, ok, m0, T, N, v, W1, W2, W3, D, E, l1, ⟨sn, Z, ze⟩, ⟨tr, Y⟩, ⟨b, I⟩, ⟨ox, O⟩, ⟨ya, Wa⟩, ⟨yp, Wp⟩, ⟨yo, Wo⟩, ⟨ps, Ps⟩, os, Os⟩ := H.un
  have nl := W1.1
  refine g_aloadn M_9_countedLetter d_9_countedLetter_0 (by first | rfl | assumption) ?_
  refine g_iloadn M_9_countedLetter d_9_countedLetter_1 (by first | rfl | assumption) ?_
  refine gc_V M_9_countedLetter 0 0 [_] _ d_9_countedLetter_2 cv_9_71 m0 (by rfl) (by rfl) (Nat.le_of_ble_eq_true (by rfl)) (Nat.le_of_ble_eq_true (by rfl)) (by decide) (by decide) (by decide) (by decide) (C_9_checkNounV H hn ?_)
  show gG _ _ _ _ _ _ _ _ _ _
  refine g_iloadn M_9_countedLetter d_9_countedLetter_5 (by first | rfl | assumption) ?_
  refine gc_S M_9_countedLetter 0 0 [_] _ d_9_countedLetter_6 cs_9_228 (by rfl) (by rfl) (by rfl) (Nat.le_of_ble_eq_true (by rfl)) (Nat.le_of_ble_eq_true (by rfl)) (by decide) (by decide) (by decide) (by decide) (C_9_checkCountV (by decide) ?_)
  show gG _ _ _ _ _ _ _ _ _ _
  refine g_iloadn M_9_countedLetter d_9_countedLetter_9 (by first | rfl | assumption) ?_
  refine g_iconst M_9_countedLetter (v := nI 1) d_9_countedLetter_10 (by decide) ?_
  refine g_icmp_ne M_9_countedLetter (tgt := 32) d_9_countedLetter_11 (by decide) (fun _ => ?_) (fun c9 => absurd c9 (by decide))
  refine g_aloadn M_9_countedLetter d_9_countedLetter_32 (by first | rfl | assumption) ?_
  refine g_get M_9_countedLetter d_9_countedLetter_33 fl_9_19 (by assumption) (by rfl) ?_
  refine g_iloadn M_9_countedLetter d_9_countedLetter_36 (by first | rfl | assumption) ?_
  refine g_aloadn M_9_countedLetter d_9_countedLetter_37 (by first | rfl | assumption) ?_
  refine g_get M_9_countedLetter d_9_countedLetter_38 fl_9_46 (by assumption) (by rfl) ?_
  refine gc_V M_9_countedLetter 0 0 [_, _] _ d_9_countedLetter_41 cv_9_78 v (by rfl) (by rfl) (Nat.le_of_ble_eq_true (by rfl)) (Nat.le_of_ble_eq_true (by rfl)) (by decide) (by decide) (by decide) (by decide) (C_6_loadPlural N (by omega) Wa (neL sp (ok0 (by decide)) (ok0 (by decide)) (by decide)) (offW sp (by decide) (by decide) (by decide) (by decide)) (fun h1 e1 V1 => ?_))
  have H1 := H.w11 e1 V1
  have m1 := e1.keep m0 (by simpa using ⟨neL sp (ok0 (by decide)) (ok0 (by decide)) (by decide), neL sp (ok0 (by decide)) (ok0 (by decide)) (by decide)⟩)
  have v16 := V1.1.1
  replace hj : j < (plS X.2.1 (X.2.1.1.getD n [])).length := hj
  show gG _ _ _ _ _ _ _ _ _ _
  refine g_iloadn M_9_countedLetter d_9_countedLetter_44 (by first | rfl | assumption) ?_
  refine g_aloadn M_9_countedLetter d_9_countedLetter_45 (by first | rfl | assumption) ?_
  refine g_get M_9_countedLetter d_9_countedLetter_46 fl_9_46 (by assumption) (by rfl) ?_
  refine gc_S M_9_countedLetter 0 0 [_, _] _ d_9_countedLetter_49 cs_9_221 (by rfl) (by rfl) (by rfl) (Nat.le_of_ble_eq_true (by rfl)) (Nat.le_of_ble_eq_true (by rfl)) (by decide) (by decide) (by decide) (by decide) (C_9_checkPlaceV V1 hj ?_)
  show gG _ _ _ _ _ _ _ _ _ _
  refine g_aloadn M_9_countedLetter d_9_countedLetter_52 (by first | rfl | assumption) ?_
  refine g_get M_9_countedLetter d_9_countedLetter_53 fl_9_46 (by assumption) (by rfl) ?_
  refine g_iloadn M_9_countedLetter d_9_countedLetter_56 (by first | rfl | assumption) ?_
  refine gc_V M_9_countedLetter 0 0 [_] _ d_9_countedLetter_57 cv_9_224 V1.2.1 (by rfl) (by rfl) (Nat.le_of_ble_eq_true (by rfl)) (Nat.le_of_ble_eq_true (by rfl)) (by decide) (by decide) (by decide) (by decide) (C_7_letter V1 (by omega) ?_)
  show gG _ _ _ _ _ _ _ _ _ _
  exact g_iret M_9_countedLetter d_9_countedLetter_60 rfl (gCh_n (gCh_of (V1.1.get _))) (k h1 (e1.aLw (fun y hy => aL2 (ok0 (by decide)) (ok0 (by decide)) hy)) H1 (V1.1.get _))
def irF (x : Sn_) (n : Nat) : Option Nat := fst (fun i => decide (x.2.1.getD i [] = x.1.getD n [])) x.2.1.length
set_option maxHeartbeats 4000000 in
set_option maxRecDepth 100000 in
theorem C_9_isIrregular {L : Nat → Nat → Nat} {X : Mt_} {h : Hp_} {Q : Ot_ → Hp_ → Prop} {n : Nat} (H : mtN h L X) (hn : n < X.2.1.1.length) (k : ∀ h', gExt h h' (aL L) [] → mtN h' L X → Q (.inl (some (.int (bI (irF X.2.1 n).isSome)))) h') : gG 6 240 0 0 M_9_isIrregular 0 (lv_args 0 [.ref (L 0 0), .int (nI n)]) [] h Q := by
  obtain ⟨sp, ok, m0, T, N, v, W1, W2, W3, D, E, l1, ⟨sn, Z, ze⟩, ⟨tr, Y⟩, ⟨b, I⟩, ⟨ox, O⟩, ⟨ya, Wa⟩, ⟨yp, Wp⟩, ⟨yo, Wo⟩, ⟨ps, Ps⟩, os, Os⟩ := H.un
  have nl := W1.1
  refine g_aloadn M_9_isIrregular d_9_isIrregular_0 (by first | rfl | assumption) ?_
  refine g_iloadn M_9_isIrregular d_9_isIrregular_1 (by first | rfl | assumption) ?_
  refine gc_V M_9_isIrregular 0 0 [_] _ d_9_isIrregular_2 cv_9_71 m0 (by rfl) (by rfl) (Nat.le_of_ble_eq_true (by rfl)) (Nat.le_of_ble_eq_true (by rfl)) (by decide) (by decide) (by decide) (by decide) (C_9_checkNounV H hn ?_)
  show gG _ _ _ _ _ _ _ _ _ _
  refine g_aloadn M_9_isIrregular d_9_isIrregular_5 (by first | rfl | assumption) ?_
  refine g_get M_9_isIrregular d_9_isIrregular_6 fl_9_19 (by assumption) (by rfl) ?_
  refine g_get M_9_isIrregular d_9_isIrregular_9 fl_9_212 (by assumption) (by rfl) ?_
  refine g_iloadn M_9_isIrregular d_9_isIrregular_12 (by first | rfl | assumption) ?_
  refine g_aloadn M_9_isIrregular d_9_isIrregular_13 (by first | rfl | assumption) ?_
  refine g_get M_9_isIrregular d_9_isIrregular_14 fl_9_46 (by assumption) (by rfl) ?_
  refine gc_V M_9_isIrregular 0 0 [_, _] _ d_9_isIrregular_17 cv_9_231 W1.2.2.1 (by rfl) (by rfl) (Nat.le_of_ble_eq_true (by rfl)) (Nat.le_of_ble_eq_true (by rfl)) (by decide) (by decide) (by decide) (by decide) (C_8_load (by decide) (by decide) W1 (by omega) Wa (neL sp (ok0 (by decide)) (ok0 (by decide)) (by decide)) (fun y hy q => by simp only [List.mem_cons, List.not_mem_nil, or_false] at hy q; rcases hy with rfl | rfl | rfl <;> rcases q with q | q <;> exact neL sp (okB (by decide) (by decide) (by decide)) (ok0 (by decide)) (by decide) q) (fun h1 e1 V1 => ?_))
  have H1 := H.w11 e1 V1
  obtain ⟨sp1, ok1, m01, T1, N1, v1, W11, W21, W31, D1, E1, l11, ⟨sn1, Z1, ze1⟩, ⟨tr1, Y1⟩, ⟨b1, I1⟩, ⟨ox1, O1⟩, ⟨ya1, Wa1⟩, ⟨yp1, Wp1⟩, ⟨yo1, Wo1⟩, ⟨ps1, Ps1⟩, os1, Os1⟩ := H1.un
  have kk := k h1 (e1.aLw (fun y hy => aL2 (ok0 (by decide)) (ok0 (by decide)) hy)) H1
  show gG _ _ _ _ _ _ _ _ _ _
  refine g_aloadn M_9_isIrregular d_9_isIrregular_20 (by first | rfl | assumption) ?_
  refine g_get M_9_isIrregular d_9_isIrregular_21 fl_9_19 (by assumption) (by rfl) ?_
  refine g_get M_9_isIrregular d_9_isIrregular_24 fl_9_162 (by assumption) (by rfl) ?_
  refine g_aloadn M_9_isIrregular d_9_isIrregular_27 (by first | rfl | assumption) ?_
  refine g_get M_9_isIrregular d_9_isIrregular_28 fl_9_46 (by assumption) (by rfl) ?_
  refine gc_V M_9_isIrregular 0 0 [_] _ d_9_isIrregular_31 cv_9_234 W21.2.2.1 (by rfl) (by rfl) (Nat.le_of_ble_eq_true (by rfl)) (Nat.le_of_ble_eq_true (by rfl)) (by decide) (by decide) (by decide) (by decide) (C_8_find (by decide) (by decide) W21 V1 ?_)
  show gG _ _ _ _ _ _ _ _ _ _
  refine g_iconst M_9_isIrregular (v := -1) d_9_isIrregular_34 (by decide) ?_
  unfold irF at kk
  cases e : fst (fun i => decide (X.2.1.2.1.getD i [] = X.2.1.1.getD n [])) X.2.1.2.1.length with
  | none =>
    refine g_icmp_eq M_9_isIrregular (tgt := 42) d_9_isIrregular_35 (by decide) (fun _ => ?_) (fun c9 => absurd rfl c9)
    rw [e] at kk
    refine g_iconst M_9_isIrregular (v := nI 0) d_9_isIrregular_42 (by decide) ?_
    exact g_iret M_9_isIrregular d_9_isIrregular_43 rfl (by decide) (kk)
  | some i =>
    refine g_icmp_eq M_9_isIrregular (tgt := 42) d_9_isIrregular_35 (by decide) (fun c9 => absurd c9 (oI_ne (n := 10) (fun j hj => by cases hj; have := fst_lt e; have := W21.1; omega) (by decide) rfl)) (fun _ => ?_)
    rw [e] at kk
    refine g_iconst M_9_isIrregular (v := nI 1) d_9_isIrregular_38 (by decide) ?_
    refine g_goto M_9_isIrregular (tgt := 43) d_9_isIrregular_39 (by decide) ?_
    exact g_iret M_9_isIrregular d_9_isIrregular_43 rfl (by decide) (kk)
def dfN (x : Sn_) (n : Nat) : Int32 := match irF x n with
  | some _ => -1
  | none => nI (chD x.2.2.2.1 (x.1.getD n []))
set_option maxHeartbeats 4000000 in
set_option maxRecDepth 100000 in
theorem C_9_dieFor {L : Nat → Nat → Nat} {X : Mt_} {h : Hp_} {Q : Ot_ → Hp_ → Prop} {n : Nat} (H : mtN h L X) (hn : n < X.2.1.1.length) (k : ∀ h', gExt h h' (aL L) [] → mtN h' L X → Q (.inl (some (.int (dfN X.2.1 n)))) h') : gG 6 240 0 0 M_9_dieFor 0 (lv_args 0 [.ref (L 0 0), .int (nI n)]) [] h Q := by
  obtain ⟨sp, ok, m0, T, N, v, W1, W2, W3, D, E, l1, ⟨sn, Z, ze⟩, ⟨tr, Y⟩, ⟨b, I⟩, ⟨ox, O⟩, ⟨ya, Wa⟩, ⟨yp, Wp⟩, ⟨yo, Wo⟩, ⟨ps, Ps⟩, os, Os⟩ := H.un
  have nl := W1.1
  refine g_aloadn M_9_dieFor d_9_dieFor_0 (by first | rfl | assumption) ?_
  refine g_iloadn M_9_dieFor d_9_dieFor_1 (by first | rfl | assumption) ?_
  refine gc_V M_9_dieFor 0 0 [_] _ d_9_dieFor_2 cv_9_71 m0 (by rfl) (by rfl) (Nat.le_of_ble_eq_true (by rfl)) (Nat.le_of_ble_eq_true (by rfl)) (by decide) (by decide) (by decide) (by decide) (C_9_checkNounV H hn ?_)
  show gG _ _ _ _ _ _ _ _ _ _
  refine g_aloadn M_9_dieFor d_9_dieFor_5 (by first | rfl | assumption) ?_
  refine g_get M_9_dieFor d_9_dieFor_6 fl_9_19 (by assumption) (by rfl) ?_
  refine g_get M_9_dieFor d_9_dieFor_9 fl_9_212 (by assumption) (by rfl) ?_
  refine g_iloadn M_9_dieFor d_9_dieFor_12 (by first | rfl | assumption) ?_
  refine g_aloadn M_9_dieFor d_9_dieFor_13 (by first | rfl | assumption) ?_
  refine g_get M_9_dieFor d_9_dieFor_14 fl_9_46 (by assumption) (by rfl) ?_
  refine gc_V M_9_dieFor 0 0 [_, _] _ d_9_dieFor_17 cv_9_231 W1.2.2.1 (by rfl) (by rfl) (Nat.le_of_ble_eq_true (by rfl)) (Nat.le_of_ble_eq_true (by rfl)) (by decide) (by decide) (by decide) (by decide) (C_8_load (by decide) (by decide) W1 (by omega) Wa (neL sp (ok0 (by decide)) (ok0 (by decide)) (by decide)) (fun y hy q => by simp only [List.mem_cons, List.not_mem_nil, or_false] at hy q; rcases hy with rfl | rfl | rfl <;> rcases q with q | q <;> exact neL sp (okB (by decide) (by decide) (by decide)) (ok0 (by decide)) (by decide) q) (fun h1 e1 V1 => ?_))
  have H1 := H.w11 e1 V1
  obtain ⟨sp1, ok1, m01, T1, N1, v1, W11, W21, W31, D1, E1, l11, ⟨sn1, Z1, ze1⟩, ⟨tr1, Y1⟩, ⟨b1, I1⟩, ⟨ox1, O1⟩, ⟨ya1, Wa1⟩, ⟨yp1, Wp1⟩, ⟨yo1, Wo1⟩, ⟨ps1, Ps1⟩, os1, Os1⟩ := H1.un
  have kk := k h1 (e1.aLw (fun y hy => aL2 (ok0 (by decide)) (ok0 (by decide)) hy)) H1
  show gG _ _ _ _ _ _ _ _ _ _
  refine g_aloadn M_9_dieFor d_9_dieFor_20 (by first | rfl | assumption) ?_
  refine g_get M_9_dieFor d_9_dieFor_21 fl_9_19 (by assumption) (by rfl) ?_
  refine g_get M_9_dieFor d_9_dieFor_24 fl_9_162 (by assumption) (by rfl) ?_
  refine g_aloadn M_9_dieFor d_9_dieFor_27 (by first | rfl | assumption) ?_
  refine g_get M_9_dieFor d_9_dieFor_28 fl_9_46 (by assumption) (by rfl) ?_
  refine gc_V M_9_dieFor 0 0 [_] _ d_9_dieFor_31 cv_9_234 W21.2.2.1 (by rfl) (by rfl) (Nat.le_of_ble_eq_true (by rfl)) (Nat.le_of_ble_eq_true (by rfl)) (by decide) (by decide) (by decide) (by decide) (C_8_find (by decide) (by decide) W21 V1 ?_)
  show gG _ _ _ _ _ _ _ _ _ _
  refine g_iconst M_9_dieFor (v := -1) d_9_dieFor_34 (by decide) ?_
  unfold dfN irF at kk
  cases e : fst (fun i => decide (X.2.1.2.1.getD i [] = X.2.1.1.getD n [])) X.2.1.2.1.length with
  | none =>
    refine g_icmp_eq M_9_dieFor (tgt := 42) d_9_dieFor_35 (by decide) (fun _ => ?_) (fun c9 => absurd rfl c9)
    refine g_aloadn M_9_dieFor d_9_dieFor_42 (by first | rfl | assumption) ?_
    refine g_get M_9_dieFor d_9_dieFor_43 fl_9_19 (by assumption) (by rfl) ?_
    refine g_get M_9_dieFor d_9_dieFor_46 fl_9_152 (by assumption) (by rfl) ?_
    refine g_aloadn M_9_dieFor d_9_dieFor_49 (by first | rfl | assumption) ?_
    refine g_get M_9_dieFor d_9_dieFor_50 fl_9_46 (by assumption) (by rfl) ?_
    refine gc_V M_9_dieFor 0 0 [_] _ d_9_dieFor_53 cv_9_237 D1.1 (by rfl) (by rfl) (Nat.le_of_ble_eq_true (by rfl)) (Nat.le_of_ble_eq_true (by rfl)) (by decide) (by decide) (by decide) (by decide) (C_0_choose D1 ok1.2 V1 ?_)
    show gG _ _ _ _ _ _ _ _ _ _
    rw [e] at kk
    exact g_iret M_9_dieFor d_9_dieFor_56 rfl rfl (kk)
  | some i =>
    refine g_icmp_eq M_9_dieFor (tgt := 42) d_9_dieFor_35 (by decide) (fun c9 => absurd c9 (oI_ne (n := 10) (fun j hj => by cases hj; have := fst_lt e; have := W21.1; omega) (by decide) rfl)) (fun _ => ?_)
    rw [e] at kk
    refine g_iconst M_9_dieFor (v := -1) d_9_dieFor_38 (by decide) ?_
    refine g_goto M_9_dieFor (tgt := 56) d_9_dieFor_39 (by decide) ?_
    exact g_iret M_9_dieFor d_9_dieFor_56 rfl rfl (kk)
