/-! ===== the law's calls of the mint ===== -/
theorem i2c_nI (x : Int32) : ∃ c, c < 65536 ∧ (x.toUInt32 % 65536).toInt32 = nI c := by
  refine ⟨(x.toUInt32 % 65536).toNat, ?_, ?_⟩
  · rw [UInt32.toNat_mod]
    exact Nat.mod_lt _ (by decide)
  · generalize x.toUInt32 % 65536 = u
    unfold nI
    apply Int32.toBitVec_inj.mp
    simp
abbrev OUT_ (f : Nat → Int64) : Ent_ := .inl (false, .long, (1, .inr (.inl f)))

set_option maxHeartbeats 4000000 in
set_option maxRecDepth 100000 in
theorem W_strike {L : Nat → Nat → Nat} {h : Hp_} {Q : Ot_ → Hp_ → Prop} {o : Nat} {x y : Int32} (s : sepL L) (H : mtR h L id [] Nw_ none []) (k : ∀ h', gChg L h h' → Q (.inl (some (.int (nI 1)))) h') : gG 8 290 2 12 M_L_strike 0 (lv_args 0 [.ref (L 0 0), .int x, .int y, .ref o]) [] h Q := by
  refine g_aloadn M_L_strike d_L_strike_0 (by first | rfl | assumption) ?_
  refine g_iconst M_L_strike (v := nI 0) d_L_strike_1 (by decide) ?_
  refine g_aloadn M_L_strike d_L_strike_2 (by first | rfl | assumption) ?_
  refine g_iloadn M_L_strike d_L_strike_3 (by first | rfl | assumption) ?_
  refine g_iloadn M_L_strike d_L_strike_4 (by first | rfl | assumption) ?_
  refine gc_V M_L_strike 0 0 [.int x, .int y] [.int (nI 0), .ref o] d_L_strike_5 cv_L_7 H.1 (by rfl) (by rfl) (Nat.le_of_ble_eq_true (by rfl)) (Nat.le_of_ble_eq_true (by rfl)) (by decide) (by decide) (by decide) (by decide) (F_strike H (gx_catch M_L_strike [] (0, 10, 13, 13) [(0, 10, 17, 15), (0, 10, 21, 17)] rfl (fun z hz => nomatch hz) (by decide) (by decide) cl_L_13 ca_IndexOutOfBoundsException (fun z => ?_)))
  refine g_astore M_L_strike d_L_strike_13 (by decide) (by first | rfl | (simp only [gc]; simp [*])) ?_
  refine g_iconst M_L_strike (v := nI 1) d_L_strike_15 (by decide) ?_
  exact g_iret M_L_strike d_L_strike_16 rfl rfl (k h gChg.rfl')
set_option maxHeartbeats 4000000 in
set_option maxRecDepth 100000 in
theorem W_melt {L : Nat → Nat → Nat} {h : Hp_} {Q : Ot_ → Hp_ → Prop} {o : Nat} {x y : Int32} (s : sepL L) (H : mtR h L id [] Nw_ none []) (k : ∀ h', gChg L h h' → Q (.inl (some (.int (nI 1)))) h') : gG 8 290 2 12 M_L_melt 0 (lv_args 0 [.ref (L 0 0), .int x, .int y, .ref o]) [] h Q := by
  refine g_aloadn M_L_melt d_L_melt_0 (by first | rfl | assumption) ?_
  refine g_iconst M_L_melt (v := nI 0) d_L_melt_1 (by decide) ?_
  refine g_aloadn M_L_melt d_L_melt_2 (by first | rfl | assumption) ?_
  refine g_iloadn M_L_melt d_L_melt_3 (by first | rfl | assumption) ?_
  refine g_iloadn M_L_melt d_L_melt_4 (by first | rfl | assumption) ?_
  refine gc_V M_L_melt 0 0 [.int x, .int y] [.int (nI 0), .ref o] d_L_melt_5 cv_L_19 H.1 (by rfl) (by rfl) (Nat.le_of_ble_eq_true (by rfl)) (Nat.le_of_ble_eq_true (by rfl)) (by decide) (by decide) (by decide) (by decide) (F_melt H (gx_catch M_L_melt [] (0, 10, 13, 13) [(0, 10, 17, 15), (0, 10, 21, 17)] rfl (fun z hz => nomatch hz) (by decide) (by decide) cl_L_13 ca_IndexOutOfBoundsException (fun z => ?_)))
  refine g_astore M_L_melt d_L_melt_13 (by decide) (by first | rfl | (simp only [gc]; simp [*])) ?_
  refine g_iconst M_L_melt (v := nI 1) d_L_melt_15 (by decide) ?_
  exact g_iret M_L_melt d_L_melt_16 rfl rfl (k h gChg.rfl')
set_option maxHeartbeats 4000000 in
set_option maxRecDepth 100000 in
theorem W_dropIrregular {L : Nat → Nat → Nat} {h : Hp_} {Q : Ot_ → Hp_ → Prop} {o : Nat} (s : sepL L) (H : mtR h L id [] Nw_ none []) (k : ∀ h', gChg L h h' → Q (.inl (some (.int (nI 1)))) h') : gG 8 290 2 12 M_L_dropIrregular 0 (lv_args 0 [.ref (L 0 0), .ref o]) [] h Q := by
  refine g_aloadn M_L_dropIrregular d_L_dropIrregular_0 (by first | rfl | assumption) ?_
  refine g_iconst M_L_dropIrregular (v := nI 0) d_L_dropIrregular_1 (by decide) ?_
  refine g_aloadn M_L_dropIrregular d_L_dropIrregular_2 (by first | rfl | assumption) ?_
  refine gc_V M_L_dropIrregular 0 0 [] [.int (nI 0), .ref o] d_L_dropIrregular_3 cv_L_26 H.1 (by rfl) (by rfl) (Nat.le_of_ble_eq_true (by rfl)) (Nat.le_of_ble_eq_true (by rfl)) (by decide) (by decide) (by decide) (by decide) (F_dropIrregular H (gx_catch M_L_dropIrregular [] (0, 8, 11, 17) [] rfl (fun z hz => nomatch hz) (by decide) (by decide) cl_L_17 ca_IllegalStateException (fun z => ?_)))
  refine g_astoren M_L_dropIrregular d_L_dropIrregular_11 (by decide) (by first | rfl | (simp only [gc]; simp [*])) ?_
  refine g_iconst M_L_dropIrregular (v := nI 1) d_L_dropIrregular_12 (by decide) ?_
  exact g_iret M_L_dropIrregular d_L_dropIrregular_13 rfl rfl (k h gChg.rfl')
set_option maxHeartbeats 4000000 in
set_option maxRecDepth 100000 in
theorem W_impossibleOrder {L : Nat → Nat → Nat} {h : Hp_} {Q : Ot_ → Hp_ → Prop} {o : Nat} (s : sepL L) (H : mtR h L id [] Nw_ none []) (k : ∀ h', gChg L h h' → Q (.inl (some (.int (nI 1)))) h') : gG 8 290 2 12 M_L_impossibleOrder 0 (lv_args 0 [.ref (L 0 0), .ref o]) [] h Q := by
  refine g_aloadn M_L_impossibleOrder d_L_impossibleOrder_0 (by first | rfl | assumption) ?_
  refine g_iconst M_L_impossibleOrder (v := nI 0) d_L_impossibleOrder_1 (by decide) ?_
  refine g_aloadn M_L_impossibleOrder d_L_impossibleOrder_2 (by first | rfl | assumption) ?_
  refine gc_V M_L_impossibleOrder 0 0 [] [.int (nI 0), .ref o] d_L_impossibleOrder_3 cv_L_34 H.1 (by rfl) (by rfl) (Nat.le_of_ble_eq_true (by rfl)) (Nat.le_of_ble_eq_true (by rfl)) (by decide) (by decide) (by decide) (by decide) (F_impossibleOrder s H (fun h1 e1 => (gx_catch M_L_impossibleOrder [] (0, 8, 11, 17) [] rfl (fun z hz => nomatch hz) (by decide) (by decide) cl_L_17 ca_IllegalStateException (fun z => ?_))))
  refine g_astoren M_L_impossibleOrder d_L_impossibleOrder_11 (by decide) (by first | rfl | (simp only [gc]; simp [*])) ?_
  refine g_iconst M_L_impossibleOrder (v := nI 1) d_L_impossibleOrder_12 (by decide) ?_
  exact g_iret M_L_impossibleOrder d_L_impossibleOrder_13 rfl rfl (k h1 e1)
set_option maxHeartbeats 4000000 in
set_option maxRecDepth 100000 in
theorem W_carryOut {L : Nat → Nat → Nat} {h : Hp_} {Q : Ot_ → Hp_ → Prop} {o : Nat} (s : sepL L) (H : mtR h L id [] Nw_ none []) (k : ∀ h', gChg L h h' → Q (.inl (some (.int (nI 1)))) h') : gG 8 290 2 12 M_L_carryOut 0 (lv_args 0 [.ref (L 0 0), .ref o]) [] h Q := by
  refine g_aloadn M_L_carryOut d_L_carryOut_0 (by first | rfl | assumption) ?_
  refine g_iconst M_L_carryOut (v := nI 0) d_L_carryOut_1 (by decide) ?_
  refine g_aloadn M_L_carryOut d_L_carryOut_2 (by first | rfl | assumption) ?_
  refine gc_V M_L_carryOut 0 0 [] [.int (nI 0), .ref o] d_L_carryOut_3 cv_L_37 H.1 (by rfl) (by rfl) (Nat.le_of_ble_eq_true (by rfl)) (Nat.le_of_ble_eq_true (by rfl)) (by decide) (by decide) (by decide) (by decide) (F_carryOut s H (fun h1 e1 => (gx_catch M_L_carryOut [] (0, 8, 11, 17) [] rfl (fun z hz => nomatch hz) (by decide) (by decide) cl_L_17 ca_IllegalStateException (fun z => ?_))))
  refine g_astoren M_L_carryOut d_L_carryOut_11 (by decide) (by first | rfl | (simp only [gc]; simp [*])) ?_
  refine g_iconst M_L_carryOut (v := nI 1) d_L_carryOut_12 (by decide) ?_
  exact g_iret M_L_carryOut d_L_carryOut_13 rfl rfl (k h1 e1)
set_option maxHeartbeats 4000000 in
set_option maxRecDepth 100000 in
theorem W_undo {L : Nat → Nat → Nat} {h : Hp_} {Q : Ot_ → Hp_ → Prop} {o : Nat} (s : sepL L) (H : mtR h L id [] Nw_ none []) (k : ∀ h', gChg L h h' → Q (.inl (some (.int (nI 1)))) h') : gG 8 290 2 12 M_L_undo 0 (lv_args 0 [.ref (L 0 0), .ref o]) [] h Q := by
  refine g_aloadn M_L_undo d_L_undo_0 (by first | rfl | assumption) ?_
  refine g_iconst M_L_undo (v := nI 0) d_L_undo_1 (by decide) ?_
  refine g_aloadn M_L_undo d_L_undo_2 (by first | rfl | assumption) ?_
  refine gc_V M_L_undo 0 0 [] [.int (nI 0), .ref o] d_L_undo_3 cv_L_40 H.1 (by rfl) (by rfl) (Nat.le_of_ble_eq_true (by rfl)) (Nat.le_of_ble_eq_true (by rfl)) (by decide) (by decide) (by decide) (by decide) (F_undo H (gx_catch M_L_undo [] (0, 8, 11, 17) [] rfl (fun z hz => nomatch hz) (by decide) (by decide) cl_L_17 ca_IllegalStateException (fun z => ?_)))
  refine g_astoren M_L_undo d_L_undo_11 (by decide) (by first | rfl | (simp only [gc]; simp [*])) ?_
  refine g_iconst M_L_undo (v := nI 1) d_L_undo_12 (by decide) ?_
  exact g_iret M_L_undo d_L_undo_13 rfl rfl (k h gChg.rfl')
set_option maxHeartbeats 4000000 in
set_option maxRecDepth 100000 in
theorem W_restoreSnapshot {L : Nat → Nat → Nat} {h : Hp_} {Q : Ot_ → Hp_ → Prop} {o : Nat} (s : sepL L) (H : mtR h L id [] Nw_ none []) (k : ∀ h', gChg L h h' → Q (.inl (some (.int (nI 1)))) h') : gG 8 290 2 12 M_L_restoreSnapshot 0 (lv_args 0 [.ref (L 0 0), .ref o]) [] h Q := by
  refine g_aloadn M_L_restoreSnapshot d_L_restoreSnapshot_0 (by first | rfl | assumption) ?_
  refine g_iconst M_L_restoreSnapshot (v := nI 0) d_L_restoreSnapshot_1 (by decide) ?_
  refine g_aloadn M_L_restoreSnapshot d_L_restoreSnapshot_2 (by first | rfl | assumption) ?_
  refine gc_V M_L_restoreSnapshot 0 0 [] [.int (nI 0), .ref o] d_L_restoreSnapshot_3 cv_L_43 H.1 (by rfl) (by rfl) (Nat.le_of_ble_eq_true (by rfl)) (Nat.le_of_ble_eq_true (by rfl)) (by decide) (by decide) (by decide) (by decide) (F_restoreSnapshot H (gx_catch M_L_restoreSnapshot [] (0, 8, 11, 17) [] rfl (fun z hz => nomatch hz) (by decide) (by decide) cl_L_17 ca_IllegalStateException (fun z => ?_)))
  refine g_astoren M_L_restoreSnapshot d_L_restoreSnapshot_11 (by decide) (by first | rfl | (simp only [gc]; simp [*])) ?_
  refine g_iconst M_L_restoreSnapshot (v := nI 1) d_L_restoreSnapshot_12 (by decide) ?_
  exact g_iret M_L_restoreSnapshot d_L_restoreSnapshot_13 rfl rfl (k h gChg.rfl')
set_option maxHeartbeats 4000000 in
set_option maxRecDepth 100000 in
theorem W_lettersOf {L : Nat → Nat → Nat} {h : Hp_} {Q : Ot_ → Hp_ → Prop} {o : Nat} {x : Int32} (s : sepL L) (H : mtR h L id [] Nw_ none []) (k : ∀ h', gChg L h h' → Q (.inl (some (.int (nI 1)))) h') : gG 8 290 2 12 M_L_lettersOf 0 (lv_args 0 [.ref (L 0 0), .int x, .ref o]) [] h Q := by
  refine g_aloadn M_L_lettersOf d_L_lettersOf_0 (by first | rfl | assumption) ?_
  refine g_iconst M_L_lettersOf (v := nI 0) d_L_lettersOf_1 (by decide) ?_
  refine g_aloadn M_L_lettersOf d_L_lettersOf_2 (by first | rfl | assumption) ?_
  refine g_iloadn M_L_lettersOf d_L_lettersOf_3 (by first | rfl | assumption) ?_
  refine gc_V M_L_lettersOf 0 0 [.int x] [.int (nI 0), .ref o] d_L_lettersOf_4 cv_L_46 H.1 (by rfl) (by rfl) (Nat.le_of_ble_eq_true (by rfl)) (Nat.le_of_ble_eq_true (by rfl)) (by decide) (by decide) (by decide) (by decide) (F_lettersOf H (gx_catch M_L_lettersOf [] (0, 9, 12, 13) [] rfl (fun z hz => nomatch hz) (by decide) (by decide) cl_L_13 ca_IndexOutOfBoundsException (fun z => ?_)))
  refine g_astoren M_L_lettersOf d_L_lettersOf_12 (by decide) (by first | rfl | (simp only [gc]; simp [*])) ?_
  refine g_iconst M_L_lettersOf (v := nI 1) d_L_lettersOf_13 (by decide) ?_
  exact g_iret M_L_lettersOf d_L_lettersOf_14 rfl rfl (k h gChg.rfl')
set_option maxHeartbeats 4000000 in
set_option maxRecDepth 100000 in
theorem W_pluralLetters {L : Nat → Nat → Nat} {h : Hp_} {Q : Ot_ → Hp_ → Prop} {o : Nat} {x : Int32} (s : sepL L) (H : mtR h L id [] Nw_ none []) (k : ∀ h', gChg L h h' → Q (.inl (some (.int (nI 1)))) h') : gG 8 290 2 12 M_L_pluralLetters 0 (lv_args 0 [.ref (L 0 0), .int x, .ref o]) [] h Q := by
  refine g_aloadn M_L_pluralLetters d_L_pluralLetters_0 (by first | rfl | assumption) ?_
  refine g_iconst M_L_pluralLetters (v := nI 0) d_L_pluralLetters_1 (by decide) ?_
  refine g_aloadn M_L_pluralLetters d_L_pluralLetters_2 (by first | rfl | assumption) ?_
  refine g_iloadn M_L_pluralLetters d_L_pluralLetters_3 (by first | rfl | assumption) ?_
  refine gc_V M_L_pluralLetters 0 0 [.int x] [.int (nI 0), .ref o] d_L_pluralLetters_4 cv_L_49 H.1 (by rfl) (by rfl) (Nat.le_of_ble_eq_true (by rfl)) (Nat.le_of_ble_eq_true (by rfl)) (by decide) (by decide) (by decide) (by decide) (F_pluralLetters H (gx_catch M_L_pluralLetters [] (0, 9, 12, 13) [] rfl (fun z hz => nomatch hz) (by decide) (by decide) cl_L_13 ca_IndexOutOfBoundsException (fun z => ?_)))
  refine g_astoren M_L_pluralLetters d_L_pluralLetters_12 (by decide) (by first | rfl | (simp only [gc]; simp [*])) ?_
  refine g_iconst M_L_pluralLetters (v := nI 1) d_L_pluralLetters_13 (by decide) ?_
  exact g_iret M_L_pluralLetters d_L_pluralLetters_14 rfl rfl (k h gChg.rfl')
set_option maxHeartbeats 4000000 in
set_option maxRecDepth 100000 in
theorem W_pluralLetter {L : Nat → Nat → Nat} {h : Hp_} {Q : Ot_ → Hp_ → Prop} {o : Nat} {x y : Int32} (s : sepL L) (H : mtR h L id [] Nw_ none []) (k : ∀ h', gChg L h h' → Q (.inl (some (.int (nI 1)))) h') : gG 8 290 2 12 M_L_pluralLetter 0 (lv_args 0 [.ref (L 0 0), .int x, .int y, .ref o]) [] h Q := by
  refine g_aloadn M_L_pluralLetter d_L_pluralLetter_0 (by first | rfl | assumption) ?_
  refine g_iconst M_L_pluralLetter (v := nI 0) d_L_pluralLetter_1 (by decide) ?_
  refine g_aloadn M_L_pluralLetter d_L_pluralLetter_2 (by first | rfl | assumption) ?_
  refine g_iloadn M_L_pluralLetter d_L_pluralLetter_3 (by first | rfl | assumption) ?_
  refine g_iloadn M_L_pluralLetter d_L_pluralLetter_4 (by first | rfl | assumption) ?_
  refine gc_V M_L_pluralLetter 0 0 [.int x, .int y] [.int (nI 0), .ref o] d_L_pluralLetter_5 cv_L_52 H.1 (by rfl) (by rfl) (Nat.le_of_ble_eq_true (by rfl)) (Nat.le_of_ble_eq_true (by rfl)) (by decide) (by decide) (by decide) (by decide) (F_pluralLetter H (gx_catch M_L_pluralLetter [] (0, 10, 13, 13) [] rfl (fun z hz => nomatch hz) (by decide) (by decide) cl_L_13 ca_IndexOutOfBoundsException (fun z => ?_)))
  refine g_astore M_L_pluralLetter d_L_pluralLetter_13 (by decide) (by first | rfl | (simp only [gc]; simp [*])) ?_
  refine g_iconst M_L_pluralLetter (v := nI 1) d_L_pluralLetter_15 (by decide) ?_
  exact g_iret M_L_pluralLetter d_L_pluralLetter_16 rfl rfl (k h gChg.rfl')
set_option maxHeartbeats 4000000 in
set_option maxRecDepth 100000 in
theorem W_countedLetter {L : Nat → Nat → Nat} {h : Hp_} {Q : Ot_ → Hp_ → Prop} {o : Nat} {x y z : Int32} (s : sepL L) (H : mtR h L id [] Nw_ none []) (k : ∀ h', gChg L h h' → Q (.inl (some (.int (nI 1)))) h') : gG 8 290 2 12 M_L_countedLetter 0 (lv_args 0 [.ref (L 0 0), .int x, .int y, .int z, .ref o]) [] h Q := by
  refine g_aload M_L_countedLetter d_L_countedLetter_0 (by first | rfl | assumption) ?_
  refine g_iconst M_L_countedLetter (v := nI 0) d_L_countedLetter_2 (by decide) ?_
  refine g_aloadn M_L_countedLetter d_L_countedLetter_3 (by first | rfl | assumption) ?_
  refine g_iloadn M_L_countedLetter d_L_countedLetter_4 (by first | rfl | assumption) ?_
  refine g_iloadn M_L_countedLetter d_L_countedLetter_5 (by first | rfl | assumption) ?_
  refine g_iloadn M_L_countedLetter d_L_countedLetter_6 (by first | rfl | assumption) ?_
  refine gc_V M_L_countedLetter 0 0 [.int x, .int y, .int z] [.int (nI 0), .ref o] d_L_countedLetter_7 cv_L_56 H.1 (by rfl) (by rfl) (Nat.le_of_ble_eq_true (by rfl)) (Nat.le_of_ble_eq_true (by rfl)) (by decide) (by decide) (by decide) (by decide) (F_countedLetter H (gx_catch M_L_countedLetter [] (0, 12, 15, 13) [(0, 12, 19, 15)] rfl (fun z hz => nomatch hz) (by decide) (by decide) cl_L_13 ca_IndexOutOfBoundsException (fun z => ?_)))
  refine g_astore M_L_countedLetter d_L_countedLetter_15 (by decide) (by first | rfl | (simp only [gc]; simp [*])) ?_
  refine g_iconst M_L_countedLetter (v := nI 1) d_L_countedLetter_17 (by decide) ?_
  exact g_iret M_L_countedLetter d_L_countedLetter_18 rfl rfl (k h gChg.rfl')
set_option maxHeartbeats 4000000 in
set_option maxRecDepth 100000 in
theorem W_isIrregular {L : Nat → Nat → Nat} {h : Hp_} {Q : Ot_ → Hp_ → Prop} {o : Nat} {x : Int32} (s : sepL L) (H : mtR h L id [] Nw_ none []) (k : ∀ h', gChg L h h' → Q (.inl (some (.int (nI 1)))) h') : gG 8 290 2 12 M_L_isIrregular 0 (lv_args 0 [.ref (L 0 0), .int x, .ref o]) [] h Q := by
  refine g_aloadn M_L_isIrregular d_L_isIrregular_0 (by first | rfl | assumption) ?_
  refine g_iconst M_L_isIrregular (v := nI 0) d_L_isIrregular_1 (by decide) ?_
  refine g_aloadn M_L_isIrregular d_L_isIrregular_2 (by first | rfl | assumption) ?_
  refine g_iloadn M_L_isIrregular d_L_isIrregular_3 (by first | rfl | assumption) ?_
  refine gc_V M_L_isIrregular 0 0 [.int x] [.int (nI 0), .ref o] d_L_isIrregular_4 cv_L_60 H.1 (by rfl) (by rfl) (Nat.le_of_ble_eq_true (by rfl)) (Nat.le_of_ble_eq_true (by rfl)) (by decide) (by decide) (by decide) (by decide) (F_isIrregular H (gx_catch M_L_isIrregular [] (0, 16, 19, 13) [] rfl (fun z hz => nomatch hz) (by decide) (by decide) cl_L_13 ca_IndexOutOfBoundsException (fun z => ?_)))
  refine g_astoren M_L_isIrregular d_L_isIrregular_19 (by decide) (by first | rfl | (simp only [gc]; simp [*])) ?_
  refine g_iconst M_L_isIrregular (v := nI 1) d_L_isIrregular_20 (by decide) ?_
  exact g_iret M_L_isIrregular d_L_isIrregular_21 rfl rfl (k h gChg.rfl')
set_option maxHeartbeats 4000000 in
set_option maxRecDepth 100000 in
theorem W_dieFor {L : Nat → Nat → Nat} {h : Hp_} {Q : Ot_ → Hp_ → Prop} {o : Nat} {x : Int32} (s : sepL L) (H : mtR h L id [] Nw_ none []) (k : ∀ h', gChg L h h' → Q (.inl (some (.int (nI 1)))) h') : gG 8 290 2 12 M_L_dieFor 0 (lv_args 0 [.ref (L 0 0), .int x, .ref o]) [] h Q := by
  refine g_aloadn M_L_dieFor d_L_dieFor_0 (by first | rfl | assumption) ?_
  refine g_iconst M_L_dieFor (v := nI 0) d_L_dieFor_1 (by decide) ?_
  refine g_aloadn M_L_dieFor d_L_dieFor_2 (by first | rfl | assumption) ?_
  refine g_iloadn M_L_dieFor d_L_dieFor_3 (by first | rfl | assumption) ?_
  refine gc_V M_L_dieFor 0 0 [.int x] [.int (nI 0), .ref o] d_L_dieFor_4 cv_L_64 H.1 (by rfl) (by rfl) (Nat.le_of_ble_eq_true (by rfl)) (Nat.le_of_ble_eq_true (by rfl)) (by decide) (by decide) (by decide) (by decide) (F_dieFor H (gx_catch M_L_dieFor [] (0, 9, 12, 13) [] rfl (fun z hz => nomatch hz) (by decide) (by decide) cl_L_13 ca_IndexOutOfBoundsException (fun z => ?_)))
  refine g_astoren M_L_dieFor d_L_dieFor_12 (by decide) (by first | rfl | (simp only [gc]; simp [*])) ?_
  refine g_iconst M_L_dieFor (v := nI 1) d_L_dieFor_13 (by decide) ?_
  exact g_iret M_L_dieFor d_L_dieFor_14 rfl rfl (k h gChg.rfl')
set_option maxHeartbeats 4000000 in
set_option maxRecDepth 100000 in
theorem W_recallByStriking {L : Nat → Nat → Nat} {h : Hp_} {Q : Ot_ → Hp_ → Prop} {o : Nat} (s : sepL L) (H : mtR h L id [] Nw_ none []) (k : ∀ h', gChg L h h' → Q (.inl (some (.int (nI 1)))) h') : gG 8 290 2 12 M_L_recallByStriking 0 (lv_args 0 [.ref (L 0 0), .ref o]) [] h Q := by
  refine g_aloadn M_L_recallByStriking d_L_recallByStriking_0 (by first | rfl | assumption) ?_
  refine g_iconst M_L_recallByStriking (v := nI 0) d_L_recallByStriking_1 (by decide) ?_
  refine g_aloadn M_L_recallByStriking d_L_recallByStriking_2 (by first | rfl | assumption) ?_
  refine gc_V M_L_recallByStriking 0 0 [] [.int (nI 0), .ref o] d_L_recallByStriking_3 cv_L_67 H.1 (by rfl) (by rfl) (Nat.le_of_ble_eq_true (by rfl)) (Nat.le_of_ble_eq_true (by rfl)) (by decide) (by decide) (by decide) (by decide) (F_recallByStriking H (gx_catch M_L_recallByStriking [] (0, 8, 11, 17) [] rfl (fun z hz => nomatch hz) (by decide) (by decide) cl_L_17 ca_IllegalStateException (fun z => ?_)))
  refine g_astoren M_L_recallByStriking d_L_recallByStriking_11 (by decide) (by first | rfl | (simp only [gc]; simp [*])) ?_
  refine g_iconst M_L_recallByStriking (v := nI 1) d_L_recallByStriking_12 (by decide) ?_
  exact g_iret M_L_recallByStriking d_L_recallByStriking_13 rfl rfl (k h gChg.rfl')
set_option maxHeartbeats 4000000 in
set_option maxRecDepth 100000 in
theorem W_recallByReversing {L : Nat → Nat → Nat} {h : Hp_} {Q : Ot_ → Hp_ → Prop} {o : Nat} (s : sepL L) (H : mtR h L id [] Nw_ none []) (k : ∀ h', gChg L h h' → Q (.inl (some (.int (nI 1)))) h') : gG 8 290 2 12 M_L_recallByReversing 0 (lv_args 0 [.ref (L 0 0), .ref o]) [] h Q := by
  refine g_aloadn M_L_recallByReversing d_L_recallByReversing_0 (by first | rfl | assumption) ?_
  refine g_iconst M_L_recallByReversing (v := nI 0) d_L_recallByReversing_1 (by decide) ?_
  refine g_aloadn M_L_recallByReversing d_L_recallByReversing_2 (by first | rfl | assumption) ?_
  refine gc_V M_L_recallByReversing 0 0 [] [.int (nI 0), .ref o] d_L_recallByReversing_3 cv_L_70 H.1 (by rfl) (by rfl) (Nat.le_of_ble_eq_true (by rfl)) (Nat.le_of_ble_eq_true (by rfl)) (by decide) (by decide) (by decide) (by decide) (F_recallByReversing H (gx_catch M_L_recallByReversing [] (0, 8, 11, 17) [] rfl (fun z hz => nomatch hz) (by decide) (by decide) cl_L_17 ca_IllegalStateException (fun z => ?_)))
  refine g_astoren M_L_recallByReversing d_L_recallByReversing_11 (by decide) (by first | rfl | (simp only [gc]; simp [*])) ?_
  refine g_iconst M_L_recallByReversing (v := nI 1) d_L_recallByReversing_12 (by decide) ?_
  exact g_iret M_L_recallByReversing d_L_recallByReversing_13 rfl rfl (k h gChg.rfl')
set_option maxHeartbeats 4000000 in
set_option maxRecDepth 100000 in
theorem W_possibleNouns {L : Nat → Nat → Nat} {h : Hp_} {Q : Ot_ → Hp_ → Prop} {o : Nat} (s : sepL L) (H : mtR h L id [] Nw_ none []) (k : ∀ h', gChg L h h' → Q (.inl (some (.int (nI 1)))) h') : gG 8 290 2 12 M_L_possibleNouns 0 (lv_args 0 [.ref (L 0 0), .ref o]) [] h Q := by
  refine g_aloadn M_L_possibleNouns d_L_possibleNouns_0 (by first | rfl | assumption) ?_
  refine g_iconst M_L_possibleNouns (v := nI 0) d_L_possibleNouns_1 (by decide) ?_
  refine g_aloadn M_L_possibleNouns d_L_possibleNouns_2 (by first | rfl | assumption) ?_
  refine gc_V M_L_possibleNouns 0 0 [] [.int (nI 0), .ref o] d_L_possibleNouns_3 cv_L_73 H.1 (by rfl) (by rfl) (Nat.le_of_ble_eq_true (by rfl)) (Nat.le_of_ble_eq_true (by rfl)) (by decide) (by decide) (by decide) (by decide) (F_possibleNouns H (gx_catch M_L_possibleNouns [] (0, 8, 11, 17) [] rfl (fun z hz => nomatch hz) (by decide) (by decide) cl_L_17 ca_IllegalStateException (fun z => ?_)))
  refine g_astoren M_L_possibleNouns d_L_possibleNouns_11 (by decide) (by first | rfl | (simp only [gc]; simp [*])) ?_
  refine g_iconst M_L_possibleNouns (v := nI 1) d_L_possibleNouns_12 (by decide) ?_
  exact g_iret M_L_possibleNouns d_L_possibleNouns_13 rfl rfl (k h gChg.rfl')
set_option maxHeartbeats 4000000 in
set_option maxRecDepth 100000 in
theorem W_coinsOf {L : Nat → Nat → Nat} {h : Hp_} {Q : Ot_ → Hp_ → Prop} {o : Nat} {x : Int32} (s : sepL L) (H : mtR h L id [] Nw_ none []) (k : ∀ h', gChg L h h' → Q (.inl (some (.int (nI 1)))) h') : gG 8 290 2 12 M_L_coinsOf 0 (lv_args 0 [.ref (L 0 0), .int x, .ref o]) [] h Q := by
  refine g_aloadn M_L_coinsOf d_L_coinsOf_0 (by first | rfl | assumption) ?_
  refine g_iconst M_L_coinsOf (v := nI 0) d_L_coinsOf_1 (by decide) ?_
  refine g_aloadn M_L_coinsOf d_L_coinsOf_2 (by first | rfl | assumption) ?_
  refine g_iloadn M_L_coinsOf d_L_coinsOf_3 (by first | rfl | assumption) ?_
  refine gc_V M_L_coinsOf 0 0 [.int x] [.int (nI 0), .ref o] d_L_coinsOf_4 cv_L_79 H.1 (by rfl) (by rfl) (Nat.le_of_ble_eq_true (by rfl)) (Nat.le_of_ble_eq_true (by rfl)) (by decide) (by decide) (by decide) (by decide) (F_coinsOf H (gx_catch M_L_coinsOf [] (0, 9, 12, 13) [] rfl (fun z hz => nomatch hz) (by decide) (by decide) cl_L_13 ca_IndexOutOfBoundsException (fun z => ?_)))
  refine g_astoren M_L_coinsOf d_L_coinsOf_12 (by decide) (by first | rfl | (simp only [gc]; simp [*])) ?_
  refine g_iconst M_L_coinsOf (v := nI 1) d_L_coinsOf_13 (by decide) ?_
  exact g_iret M_L_coinsOf d_L_coinsOf_14 rfl rfl (k h gChg.rfl')
set_option maxHeartbeats 4000000 in
set_option maxRecDepth 100000 in
theorem W_dropDie {L : Nat → Nat → Nat} {h : Hp_} {Q : Ot_ → Hp_ → Prop} {o : Nat} {x : Int32} (H : mtR h L id [] Nw_ none []) (k0 : x = 0 → Q (.inl (some (.int (nI 2)))) h) (k : x ≠ 0 → Q (.inl (some (.int (nI 1)))) h) : gG 8 290 2 12 M_L_dropDie 0 (lv_args 0 [.ref (L 0 0), .int x, .ref o]) [] h Q := by
  refine g_aloadn M_L_dropDie d_L_dropDie_0 (by first | rfl | assumption) ?_
  refine g_iconst M_L_dropDie (v := nI 0) d_L_dropDie_1 (by decide) ?_
  refine g_aloadn M_L_dropDie d_L_dropDie_2 (by first | rfl | assumption) ?_
  refine g_iloadn M_L_dropDie d_L_dropDie_3 (by first | rfl | assumption) ?_
  refine gc_V M_L_dropDie 0 0 [.int x] [.int (nI 0), .ref o] d_L_dropDie_4 cv_L_22 H.1 (by rfl) (by rfl) (Nat.le_of_ble_eq_true (by rfl)) (Nat.le_of_ble_eq_true (by rfl)) (by decide) (by decide) (by decide) (by decide) (F_dropDie H (fun e => (gx_catch M_L_dropDie [(0, 9, 12, 13)] (0, 9, 15, 17) [] rfl (fun z hz => by rw [List.mem_singleton.mp hz]; exact ⟨by decide, _, cl_L_13, by decide +kernel⟩) (by decide) (by decide) cl_L_17 ca_IllegalStateException (fun z => ?_))) (fun e => (gx_catch M_L_dropDie [] (0, 9, 12, 13) [(0, 9, 15, 17)] rfl (fun z hz => nomatch hz) (by decide) (by decide) cl_L_13 ca_IndexOutOfBoundsException (fun z => ?_))))
  · refine g_astoren M_L_dropDie d_L_dropDie_15 (by decide) (by first | rfl | (simp only [gc]; simp [*])) ?_
    refine g_iconst M_L_dropDie (v := nI 2) d_L_dropDie_16 (by decide) ?_
    exact g_iret M_L_dropDie d_L_dropDie_17 rfl rfl (k0 e)
  · refine g_astoren M_L_dropDie d_L_dropDie_12 (by decide) (by first | rfl | (simp only [gc]; simp [*])) ?_
    refine g_iconst M_L_dropDie (v := nI 1) d_L_dropDie_13 (by decide) ?_
    exact g_iret M_L_dropDie d_L_dropDie_14 rfl rfl (k e)
set_option maxHeartbeats 4000000 in
set_option maxRecDepth 100000 in
theorem W_type {L : Nat → Nat → Nat} {h : Hp_} {Q : Ot_ → Hp_ → Prop} {o : Nat} {c : Nat} {f : Nat → Int64} (hc : c < 65536) (s : sepL L) (H : mtR h L id [] Nw_ none []) (ho : h o = some (OUT_ f)) (no : ∀ i j, okL i j → o ≠ L i j) (k : ∀ h' f', h' o = some (OUT_ f') → f' 0 = (nI 1).toInt64 → (∀ y v, h y = some v → (∀ i j, okL i j → y ≠ L i j) → y ≠ o → h' y = some v) → Q (.inl (some (.int (nI 0)))) h') : gG 8 290 2 12 M_L_type 0 (lv_args 0 [.ref (L 0 0), .int (nI c), .ref o]) [] h Q := by
  refine g_aloadn M_L_type d_L_type_0 (by first | rfl | assumption) ?_
  refine g_iconst M_L_type (v := nI 0) d_L_type_1 (by decide) ?_
  refine g_aloadn M_L_type d_L_type_2 (by first | rfl | assumption) ?_
  refine g_iloadn M_L_type d_L_type_3 (by first | rfl | assumption) ?_
  refine gc_V M_L_type 0 0 [.int (nI c)] [.int (nI 0), .ref o] d_L_type_4 cv_L_30 H.1 (by rfl) (by rfl) (Nat.le_of_ble_eq_true (by rfl)) (Nat.le_of_ble_eq_true (by rfl)) (by decide) (by decide) (by decide) (by decide) (F_type hc s H (fun h1 e1 => ?_))
  have o1 := e1 o _ ho no
  show gG _ _ _ _ _ _ _ _ _ _
  refine g_i2l M_L_type d_L_type_7 ?_
  refine g_lastore M_L_type d_L_type_8 o1 (vp_in_nI (by decide) (by decide)) ?_
  refine g_goto M_L_type (tgt := 15) d_L_type_9 (by decide) ?_
  refine g_iconst M_L_type (v := nI 0) d_L_type_15 (by decide) ?_
  exact g_iret M_L_type d_L_type_16 rfl rfl (k _ _ gu_same (by rfl) (fun y v hv n1 n2 => by rw [gu_ne n2]; exact e1 y v hv n1))
set_option maxHeartbeats 4000000 in
set_option maxRecDepth 100000 in
theorem W_fitsOf {L : Nat → Nat → Nat} {h : Hp_} {Q : Ot_ → Hp_ → Prop} {o : Nat} {x : Int32} {f : Nat → Int64} (H : mtR h L id [] Nw_ none []) (o1 : h o = some (OUT_ f)) (k0 : x = 0 → ∀ h' f', h' o = some (OUT_ f') → f' 0 = (nI 0).toInt64 → (∀ y v, h y = some v → (∀ i j, okL i j → y ≠ L i j) → y ≠ o → h' y = some v) → Q (.inl (some (.int (nI 0)))) h') (k : x ≠ 0 → Q (.inl (some (.int (nI 1)))) h) : gG 8 290 2 12 M_L_fitsOf 0 (lv_args 0 [.ref (L 0 0), .int x, .ref o]) [] h Q := by
  refine g_aloadn M_L_fitsOf d_L_fitsOf_0 (by first | rfl | assumption) ?_
  refine g_iconst M_L_fitsOf (v := nI 0) d_L_fitsOf_1 (by decide) ?_
  refine g_aloadn M_L_fitsOf d_L_fitsOf_2 (by first | rfl | assumption) ?_
  refine g_iloadn M_L_fitsOf d_L_fitsOf_3 (by first | rfl | assumption) ?_
  refine gc_V M_L_fitsOf 0 0 [.int x] [.int (nI 0), .ref o] d_L_fitsOf_4 cv_L_76 H.1 (by rfl) (by rfl) (Nat.le_of_ble_eq_true (by rfl)) (Nat.le_of_ble_eq_true (by rfl)) (by decide) (by decide) (by decide) (by decide) (F_fitsOf H (fun e => ?_) (fun e => (gx_catch M_L_fitsOf [] (0, 9, 12, 13) [] rfl (fun z hz => nomatch hz) (by decide) (by decide) cl_L_13 ca_IndexOutOfBoundsException (fun z => ?_))))
  · show gG _ _ _ _ _ _ _ _ _ _
    refine g_i2l M_L_fitsOf d_L_fitsOf_7 ?_
    refine g_lastore M_L_fitsOf d_L_fitsOf_8 o1 (vp_in_nI (by decide) (by decide)) ?_
    refine g_goto M_L_fitsOf (tgt := 15) d_L_fitsOf_9 (by decide) ?_
    refine g_iconst M_L_fitsOf (v := nI 0) d_L_fitsOf_15 (by decide) ?_
    exact g_iret M_L_fitsOf d_L_fitsOf_16 rfl rfl (k0 e _ _ gu_same (by rfl) (fun y v hv n1 n2 => by rw [gu_ne n2]; exact hv))
  · refine g_astoren M_L_fitsOf d_L_fitsOf_12 (by decide) (by first | rfl | (simp only [gc]; simp [*])) ?_
    refine g_iconst M_L_fitsOf (v := nI 1) d_L_fitsOf_13 (by decide) ?_
    exact g_iret M_L_fitsOf d_L_fitsOf_14 rfl rfl (k e)
