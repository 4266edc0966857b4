/-! ===== melt, drop, type, undo, snapshots ===== -/
def meS (x : Sn_) (n m : Nat) : Option Sn_ := if cW n x.2.2.2.2.1 < m then none else some (x.1, x.2.1, x.2.2.1, x.2.2.2.1, (tkO n m x.2.2.2.2.1).filter nzH, x.2.2.2.2.2.1, x.2.2.2.2.2.2 + m)
def ddS (x : Sn_) (d : Nat) : Option Sn_ := if d = 0 then none else some (x.1, x.2.1, x.2.2.1, (x.2.2.2.1.1.eraseIdx d, x.2.2.2.1.2.1.eraseIdx d, x.2.2.2.1.2.2.eraseIdx d), x.2.2.2.2)
def diR1 (x : Sn_) : Option Sn_ := if x.2.1.length = 0 then none else some (x.1, x.2.1.eraseIdx (x.2.1.length - 1), x.2.2.1.eraseIdx (x.2.1.length - 1), x.2.2.2)
set_option maxHeartbeats 4000000 in
set_option maxRecDepth 100000 in
theorem C_9_meltV {L : Nat → Nat → Nat} {X : Mt_} {h : Hp_} {Q : Ot_ → Hp_ → Prop} {n m : Nat} (H : mtN h L X) (hn : n < X.2.1.1.length) (hm : 1 ≤ m ∧ m ≤ 99) (hb : cW n X.2.1.2.2.2.2.1 < 2 ^ 30) (kx : meS X.2.1 n m = none → ∀ h', gExt h h' (aL L) [] → mtN h' L X → Q (.inr ISE_) h') (kk : ∀ x', meS X.2.1 n m = some x' → ∀ h', gExt h h' (aL L) [] → mtN h' L (X.1, x', X.2.2.1, recN X.2.2.2 X.2.1) → Q (.inl (some (.int (nI (cW n x'.2.2.2.2.1))))) h') : gG 7 300 1 6 M_9_melt 0 (lv_args 0 [.ref (L 0 0), .int (nI n), .int (nI m)]) [] h Q := by
  obtain ⟨sp, ok, m0, T, N, v, W1, W2, W3, D, E, l1, ⟨sn, Z, ze⟩, ⟨tr, Y⟩, ⟨b, I⟩, ⟨ox, O⟩, ⟨ya, Wa⟩, ⟨yp, Wp⟩, ⟨yo, Wo⟩, ⟨ps, Ps⟩, os, Os⟩ := H.un
  have nl := W1.1
  refine g_aloadn M_9_melt d_9_melt_0 (by first | rfl | assumption) ?_
  refine g_iloadn M_9_melt d_9_melt_1 (by first | rfl | assumption) ?_
  refine gc_V M_9_melt 1 6 [_] _ d_9_melt_2 cv_9_71 m0 (by rfl) (by rfl) (Nat.le_of_ble_eq_true (by rfl)) (Nat.le_of_ble_eq_true (by rfl)) (by decide) (by decide) (by decide) (by decide) (C_9_checkNounV H hn ?_)
  show gG _ _ _ _ _ _ _ _ _ _
  refine g_iloadn M_9_melt d_9_melt_5 (by first | rfl | assumption) ?_
  refine gc_S M_9_melt 1 6 [_] _ d_9_melt_6 cs_9_75 (by rfl) (by rfl) (by rfl) (Nat.le_of_ble_eq_true (by rfl)) (Nat.le_of_ble_eq_true (by rfl)) (by decide) (by decide) (by decide) (by decide) (C_9_checkManyV hm.1 hm.2 ?_)
  show gG _ _ _ _ _ _ _ _ _ _
  refine g_aloadn M_9_melt d_9_melt_9 (by first | rfl | assumption) ?_
  refine g_get M_9_melt d_9_melt_10 fl_9_19 (by assumption) (by rfl) ?_
  refine g_get M_9_melt d_9_melt_13 fl_9_82 (by assumption) (by rfl) ?_
  refine g_iloadn M_9_melt d_9_melt_16 (by first | rfl | assumption) ?_
  refine gc_V M_9_melt 1 6 [_] _ d_9_melt_17 cv_9_118 E.1.1 (by rfl) (by rfl) (Nat.le_of_ble_eq_true (by rfl)) (Nat.le_of_ble_eq_true (by rfl)) (by decide) (by decide) (by decide) (by decide) (C_2_coinsWith E (by omega) ?_)
  show gG _ _ _ _ _ _ _ _ _ _
  by_cases f : cW n X.2.1.2.2.2.2.1 < m
  · refine g_iloadn M_9_melt d_9_melt_20 (by first | rfl | assumption) ?_
    refine g_icmp_ge M_9_melt (tgt := 34) d_9_melt_21 (by decide) (fun c9 => absurd c9 (nI_ge f (by omega))) (fun _ => ?_)
    exact g_throw M_9_melt th_9_melt_24 rfl d_9_melt_24 d_9_melt_27 d_9_melt_28 d_9_melt_30 d_9_melt_33 (Nat.le_of_ble_eq_true (by rfl)) (Nat.le_of_ble_eq_true (by rfl)) (Nat.le_of_ble_eq_true (by rfl)) (Nat.le_of_ble_eq_true (by rfl)) (kx (by unfold meS; exact if_pos f) h gExt.r H)
  · refine g_iloadn M_9_melt d_9_melt_20 (by first | rfl | assumption) ?_
    refine g_icmp_ge M_9_melt (tgt := 34) d_9_melt_21 (by decide) (fun _ => ?_) (fun c9 => absurd (nI_le (by omega) (by omega)) c9)
    refine g_aloadn M_9_melt d_9_melt_34 (by first | rfl | assumption) ?_
    refine g_get M_9_melt d_9_melt_35 fl_9_29 (by assumption) (by rfl) ?_
    refine g_aloadn M_9_melt d_9_melt_38 (by first | rfl | assumption) ?_
    refine g_get M_9_melt d_9_melt_39 fl_9_19 (by assumption) (by rfl) ?_
    refine gc_V M_9_melt 0 0 [_] _ d_9_melt_42 cv_9_103 I.2.1 (by rfl) (by rfl) (Nat.le_of_ble_eq_true (by rfl)) (Nat.le_of_ble_eq_true (by rfl)) (by decide) (by decide) (by decide) (by decide) (C_9_rec H (fun h2 S29 e2 s29 a2 H2 => ?_))
    obtain ⟨sp2, ok2, m02, T2, N2, v2, W12, W22, W32, D2, E2, l12, ⟨sn2, Z2, ze2⟩, ⟨tr2, Y2⟩, ⟨b2, I2⟩, ⟨ox2, O2⟩, ⟨ya2, Wa2⟩, ⟨yp2, Wp2⟩, ⟨yo2, Wo2⟩, ⟨ps2, Ps2⟩, os2, Os2⟩ := H2.un
    try dsimp only at ok2 T2 N2 v2 W12 W22 W32 D2 E2 l12 ze2 I2
    show gG _ _ _ _ _ _ _ _ _ _
    refine g_aloadn M_9_melt d_9_melt_45 (by first | rfl | assumption) ?_
    refine g_get M_9_melt d_9_melt_46 fl_9_19 (by assumption) (by rfl) ?_
    refine g_get M_9_melt d_9_melt_49 fl_9_82 (by assumption) (by rfl) ?_
    refine g_iloadn M_9_melt d_9_melt_52 (by first | rfl | assumption) ?_
    refine g_iloadn M_9_melt d_9_melt_53 (by first | rfl | assumption) ?_
    refine gc_V M_9_melt 0 0 [_, _] _ d_9_melt_54 cv_9_124 E2.1.1 (by rfl) (by rfl) (Nat.le_of_ble_eq_true (by rfl)) (Nat.le_of_ble_eq_true (by rfl)) (by decide) (by decide) (by decide) (by decide) (C_2_takeOldest (sepR.sub (sp.r (by decide) (by decide)) (by decide)) E2 (by omega) (by omega) (fun h3 e3 V3 => ?_))
    have H3 := H2.now (e3.weak (map_sub (by decide))) (stR.he (sp.r (by decide) (by decide)) N2.1 e3 V3) ⟨V3.2, ok.2⟩
    have a3 := (e3.weak (map_sub (by decide))).aLb (by decide) (by decide)
    obtain ⟨sp3, ok3, m03, T3, N3, v3, W13, W23, W33, D3, E3, l13, ⟨sn3, Z3, ze3⟩, ⟨tr3, Y3⟩, ⟨b3, I3⟩, ⟨ox3, O3⟩, ⟨ya3, Wa3⟩, ⟨yp3, Wp3⟩, ⟨yo3, Wo3⟩, ⟨ps3, Ps3⟩, os3, Os3⟩ := H3.un
    try dsimp only at ok3 T3 N3 v3 W13 W23 W33 D3 E3 l13 ze3 I3
    show gG _ _ _ _ _ _ _ _ _ _
    refine g_aloadn M_9_melt d_9_melt_57 (by first | rfl | assumption) ?_
    refine g_get M_9_melt d_9_melt_58 fl_9_19 (by assumption) (by rfl) ?_
    refine g_dup M_9_melt d_9_melt_61 (by rfl) ?_
    refine g_get M_9_melt d_9_melt_62 fl_9_127 (by assumption) (by rfl) ?_
    refine g_iloadn M_9_melt d_9_melt_65 (by first | rfl | assumption) ?_
    refine g_iadd M_9_melt d_9_melt_66 ?_
    refine e_put M_9_melt d_9_melt_67 pt_9_127 v3 (by rfl) (by rfl) (fun h4 v4 e4 => ?_)
    rw [nI_add] at v4
    have S4 := stR.sm (sp.r (by decide) (by decide)) N3.1 e4 v4
    have H4 := H3.now (e4.weak (one_sub (by decide))) S4 ok3
    have a4 := e4.aL1 (okB (by decide) (by decide) (by decide))
    obtain ⟨sp4, ok4, m04, T4, N4, v4, W14, W24, W34, D4, E4, l14, ⟨sn4, Z4, ze4⟩, ⟨tr4, Y4⟩, ⟨b4, I4⟩, ⟨ox4, O4⟩, ⟨ya4, Wa4⟩, ⟨yp4, Wp4⟩, ⟨yo4, Wo4⟩, ⟨ps4, Ps4⟩, os4, Os4⟩ := H4.un
    try dsimp only at ok4 T4 N4 v4 W14 W24 W34 D4 E4 l14 ze4 I4
    show gG _ _ _ _ _ _ _ _ _ _
    refine g_aloadn M_9_melt d_9_melt_70 (by first | rfl | assumption) ?_
    refine g_get M_9_melt d_9_melt_71 fl_9_19 (by assumption) (by rfl) ?_
    refine g_get M_9_melt d_9_melt_74 fl_9_82 (by assumption) (by rfl) ?_
    refine g_iloadn M_9_melt d_9_melt_77 (by first | rfl | assumption) ?_
    refine gc_V M_9_melt 0 0 [_] _ d_9_melt_78 cv_9_118 E4.1.1 (by rfl) (by rfl) (Nat.le_of_ble_eq_true (by rfl)) (Nat.le_of_ble_eq_true (by rfl)) (by decide) (by decide) (by decide) (by decide) (C_2_coinsWith E4 (by omega) ?_)
    show gG _ _ _ _ _ _ _ _ _ _
    exact g_iret M_9_melt d_9_melt_81 rfl rfl (kk _ (by unfold meS; exact if_neg f) h4 ((a2.t a3).t a4) H4)
set_option maxHeartbeats 4000000 in
set_option maxRecDepth 100000 in
theorem C_9_meltX {L : Nat → Nat → Nat} {X : Mt_} {h : Hp_} {Q : Ot_ → Hp_ → Prop} {n m : Nat} (H : mtN h L X) (hn : ¬ n < X.2.1.1.length) (h31 : n < 2 ^ 31) (k : Q (.inr IOB_) h) : gG 7 300 1 6 M_9_melt 0 (lv_args 0 [.ref (L 0 0), .int (nI n), .int (nI m)]) [] h Q := by
  obtain ⟨sp, ok, m0, T, N, v, W1, W2, W3, D, E, l1, ⟨sn, Z, ze⟩, ⟨tr, Y⟩, ⟨b, I⟩, ⟨ox, O⟩, ⟨ya, Wa⟩, ⟨yp, Wp⟩, ⟨yo, Wo⟩, ⟨ps, Ps⟩, os, Os⟩ := H.un
  refine g_aloadn M_9_melt d_9_melt_0 (by first | rfl | assumption) ?_
  refine g_iloadn M_9_melt d_9_melt_1 (by first | rfl | assumption) ?_
  refine gc_V M_9_melt 0 0 [_] _ d_9_melt_2 cv_9_71 m0 (by rfl) (by rfl) (Nat.le_of_ble_eq_true (by rfl)) (Nat.le_of_ble_eq_true (by rfl)) (by decide) (by decide) (by decide) (by decide) (C_9_checkNounX H hn h31 ?_)
  exact gx_out M_9_melt rfl k
set_option maxHeartbeats 4000000 in
set_option maxRecDepth 100000 in
theorem C_9_dropDieV {L : Nat → Nat → Nat} {X : Mt_} {h : Hp_} {Q : Ot_ → Hp_ → Prop} {d : Nat} (H : mtN h L X) (hd : d < X.2.1.2.2.2.1.1.length) (kx : ddS X.2.1 d = none → ∀ h', gExt h h' (aL L) [] → mtN h' L X → Q (.inr ISE_) h') (kk : ∀ x', ddS X.2.1 d = some x' → ∀ h', gExt h h' (aL L) [] → mtN h' L (X.1, x', X.2.2.1, recN X.2.2.2 X.2.1) → Q (.inl (some (.int (nI x'.2.2.2.1.1.length)))) h') : gG 7 300 1 6 M_9_dropDie 0 (lv_args 0 [.ref (L 0 0), .int (nI d)]) [] h Q := by
  obtain ⟨sp, ok, m0, T, N, v, W1, W2, W3, D, E, l1, ⟨sn, Z, ze⟩, ⟨tr, Y⟩, ⟨b, I⟩, ⟨ox, O⟩, ⟨ya, Wa⟩, ⟨yp, Wp⟩, ⟨yo, Wo⟩, ⟨ps, Ps⟩, os, Os⟩ := H.un
  have dl := D.2.1.1
  refine g_aloadn M_9_dropDie d_9_dropDie_0 (by first | rfl | assumption) ?_
  refine g_iloadn M_9_dropDie d_9_dropDie_1 (by first | rfl | assumption) ?_
  refine gc_V M_9_dropDie 1 6 [_] _ d_9_dropDie_2 cv_9_147 m0 (by rfl) (by rfl) (Nat.le_of_ble_eq_true (by rfl)) (Nat.le_of_ble_eq_true (by rfl)) (by decide) (by decide) (by decide) (by decide) (C_9_checkDieV H hd ?_)
  show gG _ _ _ _ _ _ _ _ _ _
  by_cases f : d = 0
  · refine g_iloadn M_9_dropDie d_9_dropDie_5 (by first | rfl | assumption) ?_
    refine g_if_ne M_9_dropDie (tgt := 19) d_9_dropDie_6 (by decide) (fun c9 => absurd (by rw [f]; rfl) c9) (fun _ => ?_)
    exact g_throw M_9_dropDie th_9_dropDie_9 rfl d_9_dropDie_9 d_9_dropDie_12 d_9_dropDie_13 d_9_dropDie_15 d_9_dropDie_18 (Nat.le_of_ble_eq_true (by rfl)) (Nat.le_of_ble_eq_true (by rfl)) (Nat.le_of_ble_eq_true (by rfl)) (Nat.le_of_ble_eq_true (by rfl)) (kx (by unfold ddS; exact if_pos f) h gExt.r H)
  · refine g_iloadn M_9_dropDie d_9_dropDie_5 (by first | rfl | assumption) ?_
    refine g_if_ne M_9_dropDie (tgt := 19) d_9_dropDie_6 (by decide) (fun _ => ?_) (fun c9 => absurd c9 (nI_ne0 (by omega) (by omega)))
    refine g_aloadn M_9_dropDie d_9_dropDie_19 (by first | rfl | assumption) ?_
    refine g_get M_9_dropDie d_9_dropDie_20 fl_9_29 (by assumption) (by rfl) ?_
    refine g_aloadn M_9_dropDie d_9_dropDie_23 (by first | rfl | assumption) ?_
    refine g_get M_9_dropDie d_9_dropDie_24 fl_9_19 (by assumption) (by rfl) ?_
    refine gc_V M_9_dropDie 0 0 [_] _ d_9_dropDie_27 cv_9_103 I.2.1 (by rfl) (by rfl) (Nat.le_of_ble_eq_true (by rfl)) (Nat.le_of_ble_eq_true (by rfl)) (by decide) (by decide) (by decide) (by decide) (C_9_rec H (fun h2 S29 e2 s29 a2 H2 => ?_))
    obtain ⟨sp2, ok2, m02, T2, N2, v2, W12, W22, W32, D2, E2, l12, ⟨sn2, Z2, ze2⟩, ⟨tr2, Y2⟩, ⟨b2, I2⟩, ⟨ox2, O2⟩, ⟨ya2, Wa2⟩, ⟨yp2, Wp2⟩, ⟨yo2, Wo2⟩, ⟨ps2, Ps2⟩, os2, Os2⟩ := H2.un
    try dsimp only at ok2 T2 N2 v2 W12 W22 W32 D2 E2 l12 ze2 I2
    show gG _ _ _ _ _ _ _ _ _ _
    refine g_aloadn M_9_dropDie d_9_dropDie_30 (by first | rfl | assumption) ?_
    refine g_get M_9_dropDie d_9_dropDie_31 fl_9_19 (by assumption) (by rfl) ?_
    refine g_get M_9_dropDie d_9_dropDie_34 fl_9_152 (by assumption) (by rfl) ?_
    refine g_iloadn M_9_dropDie d_9_dropDie_37 (by first | rfl | assumption) ?_
    refine gc_V M_9_dropDie 0 0 [_] _ d_9_dropDie_38 cv_9_156 D2.1 (by rfl) (by rfl) (Nat.le_of_ble_eq_true (by rfl)) (Nat.le_of_ble_eq_true (by rfl)) (by decide) (by decide) (by decide) (by decide) (C_0_remove (sepR.sub (sp.r (by decide) (by decide)) (by decide)) D2 hd (fun h3 e3 V3 => ?_))
    have H3 := H2.now (e3.weak (map_sub (by decide))) (stR.di (sp.r (by decide) (by decide)) N2.1 e3 V3) ⟨ok.1, by show 0 < (X.2.1.2.2.2.1.1.eraseIdx d).length; rw [List.length_eraseIdx_of_lt hd]; omega⟩
    have a3 := (e3.weak (map_sub (by decide))).aLb (by decide) (by decide)
    obtain ⟨sp3, ok3, m03, T3, N3, v3, W13, W23, W33, D3, E3, l13, ⟨sn3, Z3, ze3⟩, ⟨tr3, Y3⟩, ⟨b3, I3⟩, ⟨ox3, O3⟩, ⟨ya3, Wa3⟩, ⟨yp3, Wp3⟩, ⟨yo3, Wo3⟩, ⟨ps3, Ps3⟩, os3, Os3⟩ := H3.un
    try dsimp only at ok3 T3 N3 v3 W13 W23 W33 D3 E3 l13 ze3 I3
    show gG _ _ _ _ _ _ _ _ _ _
    refine g_aloadn M_9_dropDie d_9_dropDie_41 (by first | rfl | assumption) ?_
    refine g_get M_9_dropDie d_9_dropDie_42 fl_9_19 (by assumption) (by rfl) ?_
    refine g_get M_9_dropDie d_9_dropDie_45 fl_9_152 (by assumption) (by rfl) ?_
    refine gc_V M_9_dropDie 0 0 [] _ d_9_dropDie_48 cv_9_161 D3.1 (by rfl) (by rfl) (Nat.le_of_ble_eq_true (by rfl)) (Nat.le_of_ble_eq_true (by rfl)) (by decide) (by decide) (by decide) (by decide) (C_0_count D3 ?_)
    show gG _ _ _ _ _ _ _ _ _ _
    exact g_iret M_9_dropDie d_9_dropDie_51 rfl rfl (kk _ (by unfold ddS; exact if_neg f) h3 (a2.t a3) H3)
set_option maxHeartbeats 4000000 in
set_option maxRecDepth 100000 in
theorem C_9_dropDieX {L : Nat → Nat → Nat} {X : Mt_} {h : Hp_} {Q : Ot_ → Hp_ → Prop} {d : Nat} (H : mtN h L X) (hd : ¬ d < X.2.1.2.2.2.1.1.length) (h31 : d < 2 ^ 31) (k : Q (.inr IOB_) h) : gG 7 300 1 6 M_9_dropDie 0 (lv_args 0 [.ref (L 0 0), .int (nI d)]) [] h Q := by
  obtain ⟨sp, ok, m0, T, N, v, W1, W2, W3, D, E, l1, ⟨sn, Z, ze⟩, ⟨tr, Y⟩, ⟨b, I⟩, ⟨ox, O⟩, ⟨ya, Wa⟩, ⟨yp, Wp⟩, ⟨yo, Wo⟩, ⟨ps, Ps⟩, os, Os⟩ := H.un
  have dl := D.2.1.1
  obtain ⟨s, b, M, -⟩ := id H
  refine g_aloadn M_9_dropDie d_9_dropDie_0 (by first | rfl | assumption) ?_
  refine g_iloadn M_9_dropDie d_9_dropDie_1 (by first | rfl | assumption) ?_
  refine gc_V M_9_dropDie 0 0 [_] _ d_9_dropDie_2 cv_9_147 m0 (by rfl) (by rfl) (Nat.le_of_ble_eq_true (by rfl)) (Nat.le_of_ble_eq_true (by rfl)) (by decide) (by decide) (by decide) (by decide) (C_9_checkDie M (fun _ c => absurd c (nI_nlt (by show X.2.1.2.2.2.1.1.length ≤ d; omega) h31)) (fun _ => ?_))
  exact gx_out M_9_dropDie rfl k
set_option maxHeartbeats 4000000 in
set_option maxRecDepth 100000 in
theorem C_9_dropIrrV {L : Nat → Nat → Nat} {X : Mt_} {h : Hp_} {Q : Ot_ → Hp_ → Prop} (H : mtN h L X) (kx : diR1 X.2.1 = none → ∀ h', gExt h h' (aL L) [] → mtN h' L X → Q (.inr ISE_) h') (kk : ∀ x', diR1 X.2.1 = some x' → ∀ h', gExt h h' (aL L) [] → mtN h' L (X.1, x', X.2.2.1, recN X.2.2.2 X.2.1) → Q (.inl (some (.int (nI x'.2.1.length)))) h') : gG 7 300 1 6 M_9_dropIrregular 0 (lv_args 0 [.ref (L 0 0)]) [] h Q := by
  obtain ⟨sp, ok, m0, T, N, v, W1, W2, W3, D, E, l1, ⟨sn, Z, ze⟩, ⟨tr, Y⟩, ⟨b, I⟩, ⟨ox, O⟩, ⟨ya, Wa⟩, ⟨yp, Wp⟩, ⟨yo, Wo⟩, ⟨ps, Ps⟩, os, Os⟩ := H.un
  have il := W2.1
  refine g_aloadn M_9_dropIrregular d_9_dropIrregular_0 (by first | rfl | assumption) ?_
  refine g_get M_9_dropIrregular d_9_dropIrregular_1 fl_9_19 (by assumption) (by rfl) ?_
  refine g_get M_9_dropIrregular d_9_dropIrregular_4 fl_9_162 (by assumption) (by rfl) ?_
  refine gc_V M_9_dropIrregular 1 6 [] _ d_9_dropIrregular_7 cv_9_165 W2.2.2.1 (by rfl) (by rfl) (Nat.le_of_ble_eq_true (by rfl)) (Nat.le_of_ble_eq_true (by rfl)) (by decide) (by decide) (by decide) (by decide) (C_8_count W2.2.2.1 ?_)
  show gG _ _ _ _ _ _ _ _ _ _
  refine g_iconst M_9_dropIrregular (v := nI 1) d_9_dropIrregular_10 (by decide) ?_
  refine g_isub M_9_dropIrregular d_9_dropIrregular_11 ?_
  refine g_istoren M_9_dropIrregular d_9_dropIrregular_12 (by decide) (by first | rfl | (simp only [gc]; simp [*])) ?_
  refine g_iloadn M_9_dropIrregular d_9_dropIrregular_13 (by first | rfl | assumption) ?_
  by_cases f : X.2.1.2.1.length = 0
  · refine g_if_ge M_9_dropIrregular (tgt := 27) d_9_dropIrregular_14 (by decide) (fun c9 => absurd c9 (by rw [f]; decide)) (fun _ => ?_)
    exact g_throw M_9_dropIrregular th_9_dropIrregular_17 rfl d_9_dropIrregular_17 d_9_dropIrregular_20 d_9_dropIrregular_21 d_9_dropIrregular_23 d_9_dropIrregular_26 (Nat.le_of_ble_eq_true (by rfl)) (Nat.le_of_ble_eq_true (by rfl)) (Nat.le_of_ble_eq_true (by rfl)) (Nat.le_of_ble_eq_true (by rfl)) (kx (by unfold diR1; exact if_pos f) h gExt.r H)
  · rw [nI_sub (by omega)]
    refine g_if_ge M_9_dropIrregular (tgt := 27) d_9_dropIrregular_14 (by decide) (fun _ => ?_) (fun c9 => absurd (show nI 0 ≤ nI _ from nI_le (Nat.zero_le _) (by omega)) c9)
    refine g_aloadn M_9_dropIrregular d_9_dropIrregular_27 (by first | rfl | assumption) ?_
    refine g_get M_9_dropIrregular d_9_dropIrregular_28 fl_9_29 (by assumption) (by rfl) ?_
    refine g_aloadn M_9_dropIrregular d_9_dropIrregular_31 (by first | rfl | assumption) ?_
    refine g_get M_9_dropIrregular d_9_dropIrregular_32 fl_9_19 (by assumption) (by rfl) ?_
    refine gc_V M_9_dropIrregular 0 0 [_] _ d_9_dropIrregular_35 cv_9_103 I.2.1 (by rfl) (by rfl) (Nat.le_of_ble_eq_true (by rfl)) (Nat.le_of_ble_eq_true (by rfl)) (by decide) (by decide) (by decide) (by decide) (C_9_rec H (fun h2 S29 e2 s29 a2 H2 => ?_))
    obtain ⟨sp2, ok2, m02, T2, N2, v2, W12, W22, W32, D2, E2, l12, ⟨sn2, Z2, ze2⟩, ⟨tr2, Y2⟩, ⟨b2, I2⟩, ⟨ox2, O2⟩, ⟨ya2, Wa2⟩, ⟨yp2, Wp2⟩, ⟨yo2, Wo2⟩, ⟨ps2, Ps2⟩, os2, Os2⟩ := H2.un
    try dsimp only at ok2 T2 N2 v2 W12 W22 W32 D2 E2 l12 ze2 I2
    show gG _ _ _ _ _ _ _ _ _ _
    refine g_aloadn M_9_dropIrregular d_9_dropIrregular_38 (by first | rfl | assumption) ?_
    refine g_get M_9_dropIrregular d_9_dropIrregular_39 fl_9_19 (by assumption) (by rfl) ?_
    refine g_get M_9_dropIrregular d_9_dropIrregular_42 fl_9_162 (by assumption) (by rfl) ?_
    refine g_iloadn M_9_dropIrregular d_9_dropIrregular_45 (by first | rfl | assumption) ?_
    refine gc_V M_9_dropIrregular 0 0 [_] _ d_9_dropIrregular_46 cv_9_168 W22.2.2.1 (by rfl) (by rfl) (Nat.le_of_ble_eq_true (by rfl)) (Nat.le_of_ble_eq_true (by rfl)) (by decide) (by decide) (by decide) (by decide) (C_8_remove (by decide) (by decide) (by omega) (neL sp (okB (by decide) (by decide) (by decide)) (okB (by decide) (by decide) (by decide)) (by decide)) (neL sp (okB (by decide) (by decide) (by decide)) (okB (by decide) (by decide) (by decide)) (by decide)) (neL sp (okB (by decide) (by decide) (by decide)) (okB (by decide) (by decide) (by decide)) (by decide)) W22 (fun h3 e3 V3 => ?_))
    have nn : ∀ i, i < 24 → ¬ (i = 4 ∨ i = 5 ∨ i = 6) → L 1 i ∉ [L 1 4, L 1 5, L 1 6] := fun i hi n q => by
      simp only [List.mem_cons, List.not_mem_nil, or_false] at q
      rcases q with q | q | q <;> exact neL sp (okB (by decide) (by decide) hi) (okB (by decide) (by decide) (by decide)) (by omega) q
    have n0 : ∀ i, i < 23 → L 0 i ∉ [L 1 4, L 1 5, L 1 6] := fun i hi q => by
      simp only [List.mem_cons, List.not_mem_nil, or_false] at q
      rcases q with q | q | q <;> exact neL sp (ok0 hi) (okB (by decide) (by decide) (by decide)) (by omega) q
    have m03 := e3.keep m02 (n0 0 (by decide))
    have v3 := e3.keep v2 (nn 0 (by decide) (by decide))
    have W33 := W32.keep e3 (nn 7 (by decide) (by decide)) (nn 8 (by decide) (by decide)) (nn 9 (by decide) (by decide))
    show gG _ _ _ _ _ _ _ _ _ _
    refine g_aloadn M_9_dropIrregular d_9_dropIrregular_49 (by first | rfl | assumption) ?_
    refine g_get M_9_dropIrregular d_9_dropIrregular_50 fl_9_19 (by assumption) (by rfl) ?_
    refine g_get M_9_dropIrregular d_9_dropIrregular_53 fl_9_169 (by assumption) (by rfl) ?_
    refine g_iloadn M_9_dropIrregular d_9_dropIrregular_56 (by first | rfl | assumption) ?_
    refine gc_V M_9_dropIrregular 0 0 [_] _ d_9_dropIrregular_57 cv_9_168 W33.2.2.1 (by rfl) (by rfl) (Nat.le_of_ble_eq_true (by rfl)) (Nat.le_of_ble_eq_true (by rfl)) (by decide) (by decide) (by decide) (by decide) (C_8_remove (by decide) (by decide) (by omega) (neL sp (okB (by decide) (by decide) (by decide)) (okB (by decide) (by decide) (by decide)) (by decide)) (neL sp (okB (by decide) (by decide) (by decide)) (okB (by decide) (by decide) (by decide)) (by decide)) (neL sp (okB (by decide) (by decide) (by decide)) (okB (by decide) (by decide) (by decide)) (by decide)) W33 (fun h4 e4 V4 => ?_))
    have e3w : gExt h2 h3 ((List.range 24).map (L 1)) [] := e3.weak (fun y hy => by
      simp only [List.mem_cons, List.not_mem_nil, or_false] at hy
      rcases hy with rfl | rfl | rfl <;> exact List.mem_map.mpr ⟨_, by decide, rfl⟩)
    have e4w : gExt h3 h4 ((List.range 24).map (L 1)) [] := e4.weak (fun y hy => by
      simp only [List.mem_cons, List.not_mem_nil, or_false] at hy
      rcases hy with rfl | rfl | rfl <;> exact List.mem_map.mpr ⟨_, by decide, rfl⟩)
    have H4 := H2.now (e3w.t e4w) (stR.ir (sp.r (by decide) (by decide)) N2.1 e3 V3 e4 V4 (by rw [List.length_eraseIdx_of_lt (by omega), List.length_eraseIdx_of_lt (by omega), l1])) ok
    have a4 := (e3w.t e4w).aLb (by decide) (by decide)
    obtain ⟨sp4, ok4, m04, T4, N4, v4, W14, W24, W34, D4, E4, l14, ⟨sn4, Z4, ze4⟩, ⟨tr4, Y4⟩, ⟨b4, I4⟩, ⟨ox4, O4⟩, ⟨ya4, Wa4⟩, ⟨yp4, Wp4⟩, ⟨yo4, Wo4⟩, ⟨ps4, Ps4⟩, os4, Os4⟩ := H4.un
    try dsimp only at ok4 T4 N4 v4 W14 W24 W34 D4 E4 l14 ze4 I4
    show gG _ _ _ _ _ _ _ _ _ _
    refine g_aloadn M_9_dropIrregular d_9_dropIrregular_60 (by first | rfl | assumption) ?_
    refine g_get M_9_dropIrregular d_9_dropIrregular_61 fl_9_19 (by assumption) (by rfl) ?_
    refine g_get M_9_dropIrregular d_9_dropIrregular_64 fl_9_162 (by assumption) (by rfl) ?_
    refine gc_V M_9_dropIrregular 0 0 [] _ d_9_dropIrregular_67 cv_9_165 W24.2.2.1 (by rfl) (by rfl) (Nat.le_of_ble_eq_true (by rfl)) (Nat.le_of_ble_eq_true (by rfl)) (by decide) (by decide) (by decide) (by decide) (C_8_count W24.2.2.1 ?_)
    show gG _ _ _ _ _ _ _ _ _ _
    exact g_iret M_9_dropIrregular d_9_dropIrregular_70 rfl rfl (kk _ (by unfold diR1; exact if_neg f) h4 (a2.t a4) H4)
set_option maxHeartbeats 4000000 in
set_option maxRecDepth 100000 in
theorem C_9_typeV {L : Nat → Nat → Nat} {X : Mt_} {h : Hp_} {Q : Ot_ → Hp_ → Prop} {c : Nat} (H : mtN h L X) (hn : X.1.length < 60) (hc : c < 65536) (k : ∀ h', gExt h h' (aL L) [] → mtN h' L (X.1 ++ [c], X.2) → Q (.inl (some (.int (nI (X.1.length + 1))))) h') : gG 3 120 0 0 M_9_type 0 (lv_args 0 [.ref (L 0 0), .int (nI c)]) [] h Q := by
  obtain ⟨sp, ok, m0, T, N, v, W1, W2, W3, D, E, l1, ⟨sn, Z, ze⟩, ⟨tr, Y⟩, ⟨b, I⟩, ⟨ox, O⟩, ⟨ya, Wa⟩, ⟨yp, Wp⟩, ⟨yo, Wo⟩, ⟨ps, Ps⟩, os, Os⟩ := H.un
  obtain ⟨tk, t0, ⟨tf, t1, -⟩, -⟩ := id T
  refine g_aloadn M_9_type d_9_type_0 (by first | rfl | assumption) ?_
  refine g_get M_9_type d_9_type_1 fl_9_10 (by assumption) (by rfl) ?_
  refine gc_V M_9_type 0 0 [] _ d_9_type_4 cv_9_172 t0 (by rfl) (by rfl) (Nat.le_of_ble_eq_true (by rfl)) (Nat.le_of_ble_eq_true (by rfl)) (by decide) (by decide) (by decide) (by decide) (C_5_isFull (by omega) t0 t1 ?_)
  show gG _ _ _ _ _ _ _ _ _ _
  rw [decide_eq_false (by omega)]
  refine g_if_eq M_9_type (tgt := 20) d_9_type_7 (by decide) (fun _ => ?_) (fun c9 => absurd rfl c9)
  refine g_aloadn M_9_type d_9_type_20 (by first | rfl | assumption) ?_
  refine g_get M_9_type d_9_type_21 fl_9_10 (by assumption) (by rfl) ?_
  refine g_iloadn M_9_type d_9_type_24 (by first | rfl | assumption) ?_
  refine gc_V M_9_type 0 0 [_] _ d_9_type_25 cv_9_175 t0 (by rfl) (by rfl) (Nat.le_of_ble_eq_true (by rfl)) (Nat.le_of_ble_eq_true (by rfl)) (by decide) (by decide) (by decide) (by decide) (C_5_append T hn hc (neL sp (ok0 (by decide)) (ok0 (by decide)) (by decide)) (neL sp (ok0 (by decide)) (ok0 (by decide)) (by decide)) (neL sp (ok0 (by decide)) (ok0 (by decide)) (by decide)) (fun h1 e1 V1 => ?_))
  replace e1 : gExt h h1 [L 0 1, L 0 2, L 0 3] [] := e1.weak (by simp)
  have H1 := H.tx e1 V1
  have a1 := e1.aLw (L := L) (fun y hy => aL3 (ok0 (by decide)) (ok0 (by decide)) (ok0 (by decide)) hy)
  obtain ⟨sp1, ok1, m01, T1, N1, v1, W11, W21, W31, D1, E1, l11, ⟨sn1, Z1, ze1⟩, ⟨tr1, Y1⟩, ⟨b1, I1⟩, ⟨ox1, O1⟩, ⟨ya1, Wa1⟩, ⟨yp1, Wp1⟩, ⟨yo1, Wo1⟩, ⟨ps1, Ps1⟩, os1, Os1⟩ := H1.un
  try dsimp only at ok1 T1 N1 v1 W11 W21 W31 D1 E1 l11 ze1 I1
  have kk := k h1 a1 H1
  rw [← show (X.1 ++ [c]).length = X.1.length + 1 by simp] at kk
  show gG _ _ _ _ _ _ _ _ _ _
  refine g_aloadn M_9_type d_9_type_28 (by first | rfl | assumption) ?_
  refine g_get M_9_type d_9_type_29 fl_9_10 (by assumption) (by rfl) ?_
  refine gc_V M_9_type 0 0 [] _ d_9_type_32 cv_9_179 T1.2.1 (by rfl) (by rfl) (Nat.le_of_ble_eq_true (by rfl)) (Nat.le_of_ble_eq_true (by rfl)) (by decide) (by decide) (by decide) (by decide) (C_5_length T1.2.1 ?_)
  show gG _ _ _ _ _ _ _ _ _ _
  exact g_iret M_9_type d_9_type_35 rfl rfl (kk)
set_option maxHeartbeats 4000000 in
set_option maxRecDepth 100000 in
theorem C_9_clearText {L : Nat → Nat → Nat} {X : Mt_} {h : Hp_} {Q : Ot_ → Hp_ → Prop} (H : mtN h L X) (k : ∀ h', gExt h h' (aL L) [] → mtN h' L ([], X.2) → Q (.inl (some (.int (nI X.1.length)))) h') : gG 3 120 0 0 M_9_clearText 0 (lv_args 0 [.ref (L 0 0)]) [] h Q := by
  obtain ⟨sp, ok, m0, T, N, v, W1, W2, W3, D, E, l1, ⟨sn, Z, ze⟩, ⟨tr, Y⟩, ⟨b, I⟩, ⟨ox, O⟩, ⟨ya, Wa⟩, ⟨yp, Wp⟩, ⟨yo, Wo⟩, ⟨ps, Ps⟩, os, Os⟩ := H.un
  obtain ⟨tk, t0, ⟨tf, t1, t2, t3⟩, p9, l9, t4⟩ := id T
  refine g_aloadn M_9_clearText d_9_clearText_0 (by first | rfl | assumption) ?_
  refine g_get M_9_clearText d_9_clearText_1 fl_9_10 (by assumption) (by rfl) ?_
  refine gc_V M_9_clearText 0 0 [] _ d_9_clearText_4 cv_9_179 t0 (by rfl) (by rfl) (Nat.le_of_ble_eq_true (by rfl)) (Nat.le_of_ble_eq_true (by rfl)) (by decide) (by decide) (by decide) (by decide) (C_5_length t0 ?_)
  show gG _ _ _ _ _ _ _ _ _ _
  refine g_istoren M_9_clearText d_9_clearText_7 (by decide) (by first | rfl | (simp only [gc]; simp [*])) ?_
  refine g_aloadn M_9_clearText d_9_clearText_8 (by first | rfl | assumption) ?_
  refine g_get M_9_clearText d_9_clearText_9 fl_9_10 (by assumption) (by rfl) ?_
  refine gc_V M_9_clearText 0 0 [] _ d_9_clearText_12 cv_9_182 t0 (by rfl) (by rfl) (Nat.le_of_ble_eq_true (by rfl)) (Nat.le_of_ble_eq_true (by rfl)) (by decide) (by decide) (by decide) (by decide) (C_5_clear t0 (fun h1 e1 V1 => ?_))
  have nn : ∀ i, i < 23 → i ≠ 1 → L 0 i ∉ [L 0 1] := fun i hi n q => neL sp (ok0 hi) (ok0 (by decide)) (by omega) (List.mem_singleton.mp q)
  have T1 : txR h1 (L 0 1) (L 0 2) (L 0 3) [] := ⟨⟨Nat.zero_le _, fun x hx9 => nomatch hx9⟩, V1, ⟨tf, e1.keep t1 (nn 2 (by decide) (by decide)), t2, fun j hj => absurd hj (Nat.not_lt_zero j)⟩, p9, l9, e1.keep t4 (nn 3 (by decide) (by decide))⟩
  have H1 := H.tx (e1.weak (by simp)) T1
  have a1 := e1.aL1 (ok0 (by decide))
  show gG _ _ _ _ _ _ _ _ _ _
  refine g_iloadn M_9_clearText d_9_clearText_15 (by first | rfl | assumption) ?_
  exact g_iret M_9_clearText d_9_clearText_16 rfl rfl (k h1 a1 H1)
set_option maxHeartbeats 4000000 in
set_option maxRecDepth 100000 in
theorem C_9_undoV {L : Nat → Nat → Nat} {X : Mt_} {h : Hp_} {Q : Ot_ → Hp_ → Prop} (H : mtN h L X) (kx : X.2.2.2 = [] → ∀ h', gExt h h' (aL L) [] → mtN h' L X → Q (.inr ISE_) h') (kk : ∀ rc z, X.2.2.2 = rc ++ [z] → ∀ h', gExt h h' (aL L) [] → mtN h' L (X.1, z, X.2.2.1, rc) → Q (.inl (some (.int (nI rc.length)))) h') : gG 7 300 1 6 M_9_undo 0 (lv_args 0 [.ref (L 0 0)]) [] h Q := by
  obtain ⟨sp, ok, m0, T, N, v, W1, W2, W3, D, E, l1, ⟨sn, Z, ze⟩, ⟨tr, Y⟩, ⟨b, I⟩, ⟨ox, O⟩, ⟨ya, Wa⟩, ⟨yp, Wp⟩, ⟨yo, Wo⟩, ⟨ps, Ps⟩, os, Os⟩ := H.un
  refine g_aloadn M_9_undo d_9_undo_0 (by first | rfl | assumption) ?_
  refine g_get M_9_undo d_9_undo_1 fl_9_29 (by assumption) (by rfl) ?_
  refine gc_V M_9_undo 1 6 [] _ d_9_undo_4 cv_9_202 I.2.1 (by rfl) (by rfl) (Nat.le_of_ble_eq_true (by rfl)) (Nat.le_of_ble_eq_true (by rfl)) (by decide) (by decide) (by decide) (by decide) (C_3_count I.2.1 ?_)
  show gG _ _ _ _ _ _ _ _ _ _
  rcases List.eq_nil_or_concat X.2.2.2 with f | ⟨rc, z, f⟩
  · refine g_if_ne M_9_undo (tgt := 20) d_9_undo_7 (by decide) (fun c9 => absurd (by rw [f]; rfl) c9) (fun _ => ?_)
    exact g_throw M_9_undo th_9_undo_10 rfl d_9_undo_10 d_9_undo_13 d_9_undo_14 d_9_undo_16 d_9_undo_19 (Nat.le_of_ble_eq_true (by rfl)) (Nat.le_of_ble_eq_true (by rfl)) (Nat.le_of_ble_eq_true (by rfl)) (Nat.le_of_ble_eq_true (by rfl)) (kx f h gExt.r H)
  · replace f : X.2.2.2 = rc ++ [z] := by rw [f, List.concat_eq_append]
    have ll := I.1
    rw [List.length_map, f, List.length_append] at ll
    replace ll : rc.length + 1 ≤ 4 := ll
    rw [List.length_map, f, List.length_append]
    refine g_if_ne M_9_undo (tgt := 20) d_9_undo_7 (by decide) (fun _ => ?_) (fun c9 => absurd c9 (nI_ne0 (by simp) (by show rc.length + 1 < 2 ^ 31; omega)))
    rw [f, List.map_append] at I
    refine g_aloadn M_9_undo d_9_undo_20 (by first | rfl | assumption) ?_
    refine g_get M_9_undo d_9_undo_21 fl_9_29 (by assumption) (by rfl) ?_
    refine g_aloadn M_9_undo d_9_undo_24 (by first | rfl | assumption) ?_
    refine g_get M_9_undo d_9_undo_25 fl_9_19 (by assumption) (by rfl) ?_
    refine gc_V M_9_undo 0 0 [_] _ d_9_undo_28 cv_9_205 I.2.1 (by rfl) (by rfl) (Nat.le_of_ble_eq_true (by rfl)) (Nat.le_of_ble_eq_true (by rfl)) (by decide) (by decide) (by decide) (by decide) (C_3_giveBack sp I N.1 (fun h1 e1 J S1 => ?_))
    have okr := H.okr
    rw [f] at okr
    have H1 := H.back e1 S1 (okr z (List.mem_append.mpr (Or.inr (List.mem_singleton.mpr rfl)))) J (fun y hy => okr y (List.mem_append.mpr (Or.inl hy)))
    have a1 : gExt h h1 (aL L) [] := e1.aLw (fun y hy => by
      rcases List.mem_append.mp hy with hy | hy
      · obtain ⟨j, hj, rfl⟩ := List.mem_map.mp hy
        exact ⟨1, j, okB (by decide) (by decide) (List.mem_range.mp hj), rfl⟩
      · exact ⟨0, 4, ok0 (by decide), List.mem_singleton.mp hy⟩)
    have kk1 := kk rc z f h1 a1 H1
    rw [← List.length_map (f := sL)] at kk1
    have m1 := H1.un.2.2.1
    dsimp only at m1
    show gG _ _ _ _ _ _ _ _ _ _
    refine g_aloadn M_9_undo d_9_undo_31 (by first | rfl | assumption) ?_
    refine g_get M_9_undo d_9_undo_32 fl_9_29 (by assumption) (by rfl) ?_
    refine gc_V M_9_undo 0 0 [] _ d_9_undo_35 cv_9_202 J.2.1 (by rfl) (by rfl) (Nat.le_of_ble_eq_true (by rfl)) (Nat.le_of_ble_eq_true (by rfl)) (by decide) (by decide) (by decide) (by decide) (C_3_count J.2.1 ?_)
    show gG _ _ _ _ _ _ _ _ _ _
    exact g_iret M_9_undo d_9_undo_38 rfl rfl (kk1)
set_option maxHeartbeats 4000000 in
set_option maxRecDepth 100000 in
theorem C_9_takeSnapshot {L : Nat → Nat → Nat} {X : Mt_} {h : Hp_} {Q : Ot_ → Hp_ → Prop} (H : mtN h L X) (k : ∀ h', gExt h h' (aL L) [] → mtN h' L (X.1, X.2.1, some X.2.1, X.2.2.2) → Q (.inl (some (.int (nI X.2.1.1.length)))) h') : gG 7 300 0 0 M_9_takeSnapshot 0 (lv_args 0 [.ref (L 0 0)]) [] h Q := by
  obtain ⟨sp, ok, m0, T, N, v, W1, W2, W3, D, E, l1, ⟨sn, Z, ze⟩, ⟨tr, Y⟩, ⟨b, I⟩, ⟨ox, O⟩, ⟨ya, Wa⟩, ⟨yp, Wp⟩, ⟨yo, Wo⟩, ⟨ps, Ps⟩, os, Os⟩ := H.un
  refine g_aloadn M_9_takeSnapshot d_9_takeSnapshot_0 (by first | rfl | assumption) ?_
  refine g_get M_9_takeSnapshot d_9_takeSnapshot_1 fl_9_23 (by assumption) (by rfl) ?_
  refine g_aloadn M_9_takeSnapshot d_9_takeSnapshot_4 (by first | rfl | assumption) ?_
  refine g_get M_9_takeSnapshot d_9_takeSnapshot_5 fl_9_19 (by assumption) (by rfl) ?_
  refine gc_V M_9_takeSnapshot 0 0 [_] _ d_9_takeSnapshot_8 cv_9_196 Z.1 (by rfl) (by rfl) (Nat.le_of_ble_eq_true (by rfl)) (Nat.le_of_ble_eq_true (by rfl)) (by decide) (by decide) (by decide) (by decide) (C_6_copyFrom (sp.r (by decide) (by decide)) (sp.off (by decide) (by decide) (by decide) (by decide) (by decide)) N.1 Z (fun h1 e1 S1 => ?_))
  have nB : ∀ i j, okL i j → i ≠ 2 → L i j ∉ (List.range 24).map (L 2) := fun i j ok n => notin_map (fun q hq e => n (sp _ _ _ _ ok (okB (by decide) (by decide) hq) e).1)
  have m1 := e1.keep m0 (nB 0 0 (ok0 (by decide)) (by decide))
  show gG _ _ _ _ _ _ _ _ _ _
  refine g_aloadn M_9_takeSnapshot d_9_takeSnapshot_11 (by first | rfl | assumption) ?_
  refine g_iconst M_9_takeSnapshot (v := nI 1) d_9_takeSnapshot_12 (by decide) ?_
  refine e_put M_9_takeSnapshot d_9_takeSnapshot_13 pt_9_208 m1 (by rfl) (by rfl) (fun h2 m2 e2 => ?_)
  have e12 : gExt h h2 ((List.range 24).map (L 2) ++ [L 0 0]) [] := (e1.weak (fun y hy => List.mem_append.mpr (Or.inl hy))).t (e2.weak (fun y hy => List.mem_append.mpr (Or.inr hy)))
  have H2 := H.snap e12 (S1.keep e2 (fun j hj q => neL sp (okB (by decide) (by decide) hj) (ok0 (by decide)) (by omega) (List.mem_singleton.mp q))) ok m2
  have a2 : gExt h h2 (aL L) [] := e12.aLw (fun y hy => by
    rcases List.mem_append.mp hy with hy | hy
    · obtain ⟨j, hj, rfl⟩ := List.mem_map.mp hy
      exact ⟨2, j, okB (by decide) (by decide) (List.mem_range.mp hj), rfl⟩
    · exact ⟨0, 0, ok0 (by decide), List.mem_singleton.mp hy⟩)
  obtain ⟨sp2, ok2, m02, T2, N2, v2, W12, W22, W32, D2, E2, l12, ⟨sn2, Z2, ze2⟩, ⟨tr2, Y2⟩, ⟨b2, I2⟩, ⟨ox2, O2⟩, ⟨ya2, Wa2⟩, ⟨yp2, Wp2⟩, ⟨yo2, Wo2⟩, ⟨ps2, Ps2⟩, os2, Os2⟩ := H2.un
  try dsimp only at ok2 T2 N2 v2 W12 W22 W32 D2 E2 l12 ze2 I2
  show gG _ _ _ _ _ _ _ _ _ _
  refine g_aloadn M_9_takeSnapshot d_9_takeSnapshot_16 (by first | rfl | assumption) ?_
  refine g_get M_9_takeSnapshot d_9_takeSnapshot_17 fl_9_19 (by assumption) (by rfl) ?_
  refine g_get M_9_takeSnapshot d_9_takeSnapshot_20 fl_9_212 (by assumption) (by rfl) ?_
  refine gc_V M_9_takeSnapshot 0 0 [] _ d_9_takeSnapshot_23 cv_9_165 W12.2.2.1 (by rfl) (by rfl) (Nat.le_of_ble_eq_true (by rfl)) (Nat.le_of_ble_eq_true (by rfl)) (by decide) (by decide) (by decide) (by decide) (C_8_count W12.2.2.1 ?_)
  show gG _ _ _ _ _ _ _ _ _ _
  exact g_iret M_9_takeSnapshot d_9_takeSnapshot_26 rfl rfl (k h2 a2 H2)
set_option maxHeartbeats 4000000 in
set_option maxRecDepth 100000 in
theorem C_9_restoreV {L : Nat → Nat → Nat} {X : Mt_} {h : Hp_} {Q : Ot_ → Hp_ → Prop} (H : mtN h L X) (kx : X.2.2.1 = none → ∀ h', gExt h h' (aL L) [] → mtN h' L X → Q (.inr ISE_) h') (kk : ∀ z, X.2.2.1 = some z → ∀ h', gExt h h' (aL L) [] → mtN h' L (X.1, z, X.2.2.1, recN X.2.2.2 X.2.1) → Q (.inl (some (.int (nI z.1.length)))) h') : gG 7 300 1 6 M_9_restoreSnapshot 0 (lv_args 0 [.ref (L 0 0)]) [] h Q := by
  obtain ⟨sp, ok, m0, T, N, v, W1, W2, W3, D, E, l1, ⟨sn, Z, ze⟩, ⟨tr, Y⟩, ⟨b, I⟩, ⟨ox, O⟩, ⟨ya, Wa⟩, ⟨yp, Wp⟩, ⟨yo, Wo⟩, ⟨ps, Ps⟩, os, Os⟩ := H.un
  refine g_aloadn M_9_restoreSnapshot d_9_restoreSnapshot_0 (by first | rfl | assumption) ?_
  refine g_get M_9_restoreSnapshot d_9_restoreSnapshot_1 fl_9_208 (by assumption) (by rfl) ?_
  cases f : X.2.2.1 with
  | none =>
    refine g_if_ne M_9_restoreSnapshot (tgt := 17) d_9_restoreSnapshot_4 (by decide) (fun c9 => absurd rfl c9) (fun _ => ?_)
    exact g_throw M_9_restoreSnapshot th_9_restoreSnapshot_7 rfl d_9_restoreSnapshot_7 d_9_restoreSnapshot_10 d_9_restoreSnapshot_11 d_9_restoreSnapshot_13 d_9_restoreSnapshot_16 (Nat.le_of_ble_eq_true (by rfl)) (Nat.le_of_ble_eq_true (by rfl)) (Nat.le_of_ble_eq_true (by rfl)) (Nat.le_of_ble_eq_true (by rfl)) (kx f h gExt.r H)
  | some z =>
    refine g_if_ne M_9_restoreSnapshot (tgt := 17) d_9_restoreSnapshot_4 (by decide) (fun _ => ?_) (fun c9 => absurd (show nI 1 = 0 from c9) (by decide))
    refine g_aloadn M_9_restoreSnapshot d_9_restoreSnapshot_17 (by first | rfl | assumption) ?_
    refine g_get M_9_restoreSnapshot d_9_restoreSnapshot_18 fl_9_29 (by assumption) (by rfl) ?_
    refine g_aloadn M_9_restoreSnapshot d_9_restoreSnapshot_21 (by first | rfl | assumption) ?_
    refine g_get M_9_restoreSnapshot d_9_restoreSnapshot_22 fl_9_19 (by assumption) (by rfl) ?_
    refine gc_V M_9_restoreSnapshot 0 0 [_] _ d_9_restoreSnapshot_25 cv_9_103 I.2.1 (by rfl) (by rfl) (Nat.le_of_ble_eq_true (by rfl)) (Nat.le_of_ble_eq_true (by rfl)) (by decide) (by decide) (by decide) (by decide) (C_9_rec H (fun h2 S29 e2 s29 a2 H2 => ?_))
    obtain ⟨sp2, ok2, m02, T2, N2, v2, W12, W22, W32, D2, E2, l12, ⟨sn2, Z2, ze2⟩, ⟨tr2, Y2⟩, ⟨b2, I2⟩, ⟨ox2, O2⟩, ⟨ya2, Wa2⟩, ⟨yp2, Wp2⟩, ⟨yo2, Wo2⟩, ⟨ps2, Ps2⟩, os2, Os2⟩ := H2.un
    try dsimp only at ok2 T2 N2 v2 W12 W22 W32 D2 E2 l12 ze2 I2
    show gG _ _ _ _ _ _ _ _ _ _
    obtain rfl := ze2 _ f
    refine g_aloadn M_9_restoreSnapshot d_9_restoreSnapshot_28 (by first | rfl | assumption) ?_
    refine g_get M_9_restoreSnapshot d_9_restoreSnapshot_29 fl_9_19 (by assumption) (by rfl) ?_
    refine g_aloadn M_9_restoreSnapshot d_9_restoreSnapshot_32 (by first | rfl | assumption) ?_
    refine g_get M_9_restoreSnapshot d_9_restoreSnapshot_33 fl_9_23 (by assumption) (by rfl) ?_
    refine gc_V M_9_restoreSnapshot 0 0 [_] _ d_9_restoreSnapshot_36 cv_9_196 N2.1.1 (by rfl) (by rfl) (Nat.le_of_ble_eq_true (by rfl)) (Nat.le_of_ble_eq_true (by rfl)) (by decide) (by decide) (by decide) (by decide) (C_6_copyFrom (sp.r (by decide) (by decide)) (sp.off (by decide) (by decide) (by decide) (by decide) (by decide)) Z2 N2.1 (fun h3 e3 S3 => ?_))
    have H3 := H2.now e3 S3 (H.oks _ f)
    have a3 := e3.aLb (by decide) (by decide)
    obtain ⟨sp3, ok3, m03, T3, N3, v3, W13, W23, W33, D3, E3, l13, ⟨sn3, Z3, ze3⟩, ⟨tr3, Y3⟩, ⟨b3, I3⟩, ⟨ox3, O3⟩, ⟨ya3, Wa3⟩, ⟨yp3, Wp3⟩, ⟨yo3, Wo3⟩, ⟨ps3, Ps3⟩, os3, Os3⟩ := H3.un
    try dsimp only at ok3 T3 N3 v3 W13 W23 W33 D3 E3 l13 ze3 I3
    show gG _ _ _ _ _ _ _ _ _ _
    refine g_aloadn M_9_restoreSnapshot d_9_restoreSnapshot_39 (by first | rfl | assumption) ?_
    refine g_get M_9_restoreSnapshot d_9_restoreSnapshot_40 fl_9_19 (by assumption) (by rfl) ?_
    refine g_get M_9_restoreSnapshot d_9_restoreSnapshot_43 fl_9_212 (by assumption) (by rfl) ?_
    refine gc_V M_9_restoreSnapshot 0 0 [] _ d_9_restoreSnapshot_46 cv_9_165 W13.2.2.1 (by rfl) (by rfl) (Nat.le_of_ble_eq_true (by rfl)) (Nat.le_of_ble_eq_true (by rfl)) (by decide) (by decide) (by decide) (by decide) (C_8_count W13.2.2.1 ?_)
    show gG _ _ _ _ _ _ _ _ _ _
    exact g_iret M_9_restoreSnapshot d_9_restoreSnapshot_49 rfl rfl (kk _ f h3 (a2.t a3) H3)
