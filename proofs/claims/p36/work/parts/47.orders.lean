/-! ===== orders carried out ===== -/
/-- what the one order of a text makes of a state -/
def acO (x : Sn_) (tx : List Nat) : Option Sn_ := acS x (oRun o0 tx).1 (oRun o0 tx).2.1 (oRun o0 tx).2.2.2.1 (oRun o0 tx).2.2.2.2
/-- a text of one short valid order -/
def okT (tx : List Nat) : Prop := vT tx = true ∧ tx.length ≤ 15 ∧ (∀ c ∈ tx, c ≠ 59) ∧ ((oRun o0 tx).1 = nI 2 → (oRun o0 tx).2.2.2.1.length ≤ 4 ∧ (oRun o0 tx).2.2.2.2.length ≤ 4) ∧ (oRun o0 tx).2.2.2.1.length ≤ 12 ∧ (oRun o0 tx).2.2.2.2.length ≤ 12
theorem hisS.offB {L : Nat → Nat → Nat} {S : List Nat} (hS : hisS L S) (s : sepL L) {i j : Nat} (h1 : 1 ≤ i) (h3 : i ≤ 3) (hj : j < 24) : L i j ∉ S := fun hy => by
  obtain ⟨i', j', p, q⟩ := hS _ hy
  rcases p with ⟨rfl, p⟩ | ⟨p1, p2, p3⟩
  · have := s _ _ _ _ (okB h1 (by omega) hj) (ok0 (by omega)) q; omega
  · have := s _ _ _ _ (okB h1 (by omega) hj) (okB (by omega) p2 p3) q; omega
theorem nin5 {L : Nat → Nat → Nat} {i j : Nat} (s : sepL L) (o : okL i j) (h : ¬ (i = 0 ∧ 6 ≤ j ∧ j ≤ 10)) : L i j ∉ [L 0 6, L 0 7, L 0 8, L 0 9, L 0 10] := fun q => by
  simp only [List.mem_cons, List.not_mem_nil, or_false] at q
  rcases q with q | q | q | q | q <;> (have := s _ _ _ _ o (ok0 (by decide)) q; omega)
theorem nd5 {L : Nat → Nat → Nat} (s : sepL L) : [L 0 6, L 0 7, L 0 8, L 0 9, L 0 10].Nodup := by
  have n : ∀ a b, a < 23 → b < 23 → a ≠ b → L 0 a ≠ L 0 b := fun a b ha hb h => neL s (ok0 ha) (ok0 hb) (by omega)
  simp only [List.nodup_cons, List.mem_cons, List.not_mem_nil, or_false, not_or, not_false_eq_true, List.nodup_nil, and_true]
  refine ⟨⟨?_, ?_, ?_, ?_⟩, ⟨?_, ?_, ?_⟩, ⟨?_, ?_⟩, ?_⟩ <;> exact n _ _ (by decide) (by decide) (by decide)
set_option maxHeartbeats 4000000 in
set_option maxRecDepth 100000 in
theorem C_9_tryOrders {L : Nat → Nat → Nat} {X : Mt_} {h : Hp_} {Q : Ot_ → Hp_ → Prop} (H : mtN h L X) (hT : okT X.1) (k0 : acO X.2.1 X.1 = none → ∀ h', gExt h h' (aL L) [] → mtN h' L X → Q (.inl (some (.int (nI 0)))) h') (k1 : ∀ x', acO X.2.1 X.1 = some x' → ∀ h', gExt h h' (aL L) [] → mtN h' L X → stR h' (L 3) (sL x') → okN x' → Q (.inl (some (.int (-1)))) h') : gG 6 260 0 0 M_9_tryOrders 0 (lv_args 0 [.ref (L 0 0)]) [] h Q := by
  obtain ⟨sp, ok, m0, T, N, v, W1, W2, W3, D, E, l1, ⟨sn, Z, ze⟩, ⟨tr, Y⟩, ⟨b, I⟩, ⟨ox, O⟩, ⟨ya, Wa⟩, ⟨yp, Wp⟩, ⟨yo, Wo⟩, ⟨ps, Ps⟩, os, Os⟩ := H.un
  refine g_aloadn M_9_tryOrders d_9_tryOrders_0 (by first | rfl | assumption) ?_
  refine g_get M_9_tryOrders d_9_tryOrders_1 fl_9_33 (by assumption) (by rfl) ?_
  refine g_aloadn M_9_tryOrders d_9_tryOrders_4 (by first | rfl | assumption) ?_
  refine g_get M_9_tryOrders d_9_tryOrders_5 fl_9_19 (by assumption) (by rfl) ?_
  refine gc_V M_9_tryOrders 0 0 [_] _ d_9_tryOrders_8 cv_9_196 Y.1 (by rfl) (by rfl) (Nat.le_of_ble_eq_true (by rfl)) (Nat.le_of_ble_eq_true (by rfl)) (by decide) (by decide) (by decide) (by decide) (C_6_copyFrom (sp.r (by decide) (by decide)) (sp.off (by decide) (by decide) (by decide) (by decide) (by decide)) N.1 Y (fun h1 e1 S1 => ?_))
  have H1 := H.tri e1 S1
  have a1 := e1.aLb (L := L) (by decide) (by decide)
  obtain ⟨sp1, ok1, m01, T1, N1, v1, W11, W21, W31, D1, E1, l11, ⟨sn1, Z1, ze1⟩, ⟨tr1, Y1⟩, ⟨b1, I1⟩, ⟨ox1, O1⟩, ⟨ya1, Wa1⟩, ⟨yp1, Wp1⟩, ⟨yo1, Wo1⟩, ⟨ps1, Ps1⟩, os1, Os1⟩ := H1.un
  show gG _ _ _ _ _ _ _ _ _ _
  refine g_aloadn M_9_tryOrders d_9_tryOrders_11 (by first | rfl | assumption) ?_
  refine g_get M_9_tryOrders d_9_tryOrders_12 fl_9_10 (by assumption) (by rfl) ?_
  refine gc_V M_9_tryOrders 0 0 [] _ d_9_tryOrders_15 cv_9_199 T1.2.1 (by rfl) (by rfl) (Nat.le_of_ble_eq_true (by rfl)) (Nat.le_of_ble_eq_true (by rfl)) (by decide) (by decide) (by decide) (by decide) (C_5_orders1 T1 hT.2.2.1 ?_)
  show gG _ _ _ _ _ _ _ _ _ _
  refine g_istoren M_9_tryOrders d_9_tryOrders_18 (by decide) (by first | rfl | (simp only [gc]; simp [*])) ?_
  refine g_iconst M_9_tryOrders (v := nI 0) d_9_tryOrders_19 (by decide) ?_
  refine g_istoren M_9_tryOrders d_9_tryOrders_20 (by decide) (by first | rfl | (simp only [gc]; simp [*])) ?_
  refine g_iconst M_9_tryOrders (v := nI 0) d_9_tryOrders_21 (by decide) ?_
  refine g_istoren M_9_tryOrders d_9_tryOrders_22 (by decide) (by first | rfl | (simp only [gc]; simp [*])) ?_
  refine g_iloadn M_9_tryOrders d_9_tryOrders_23 (by first | rfl | assumption) ?_
  refine g_iloadn M_9_tryOrders d_9_tryOrders_24 (by first | rfl | assumption) ?_
  refine g_icmp_ge M_9_tryOrders (tgt := 63) d_9_tryOrders_25 (by decide) (fun c9 => absurd c9 (by decide)) (fun _ => ?_)
  refine g_aloadn M_9_tryOrders d_9_tryOrders_28 (by first | rfl | assumption) ?_
  refine g_get M_9_tryOrders d_9_tryOrders_29 fl_9_10 (by assumption) (by rfl) ?_
  refine g_iloadn M_9_tryOrders d_9_tryOrders_32 (by first | rfl | assumption) ?_
  refine g_aloadn M_9_tryOrders d_9_tryOrders_33 (by first | rfl | assumption) ?_
  refine g_get M_9_tryOrders d_9_tryOrders_34 fl_9_39 (by assumption) (by rfl) ?_
  refine gc_V M_9_tryOrders 0 0 [_, _] _ d_9_tryOrders_37 cv_9_286 T1.2.1 (by rfl) (by rfl) (Nat.le_of_ble_eq_true (by rfl)) (Nat.le_of_ble_eq_true (by rfl)) (by decide) (by decide) (by decide) (by decide) (C_5_read1 (nd5 sp) (fun y hy => by
      simp only [List.mem_cons, List.not_mem_nil, or_false] at hy
      rcases hy with rfl | rfl | rfl <;> exact nin5 sp (ok0 (by decide)) (by decide)) T1 hT.2.1 hT.2.2.1 O1 (fun pl h2 e2 T2 O2 => ?_))
  have H2 := H1.ord e2 O2
  have a2 : gExt h1 h2 (aL L) [] := e2.aLw (fun y hy => by
    simp only [List.mem_cons, List.not_mem_nil, or_false] at hy
    rcases hy with rfl | rfl | rfl | rfl | rfl <;> exact ⟨0, _, ok0 (by decide), rfl⟩)
  have S2 := S1.keep e2 (fun j hj => nin5 sp (okB (by decide) (by decide) hj) (by omega))
  have m2 := H2.un.2.2.1
  have oo : ∀ k, k < 24 → L 3 k ≠ L 0 6 ∧ L 3 k ≠ L 0 7 ∧ L 3 k ≠ L 0 8 ∧ L 3 k ≠ L 0 9 ∧ L 3 k ≠ L 0 10 := fun k hk => ⟨neL sp (okB (by decide) (by decide) hk) (ok0 (by decide)) (by omega), neL sp (okB (by decide) (by decide) hk) (ok0 (by decide)) (by omega), neL sp (okB (by decide) (by decide) hk) (ok0 (by decide)) (by omega), neL sp (okB (by decide) (by decide) hk) (ok0 (by decide)) (by omega), neL sp (okB (by decide) (by decide) hk) (ok0 (by decide)) (by omega)⟩
  show gG _ _ _ _ _ _ _ _ _ _
  refine g_istoren M_9_tryOrders d_9_tryOrders_40 (by decide) (by first | rfl | (simp only [gc]; simp [*])) ?_
  refine g_aloadn M_9_tryOrders d_9_tryOrders_41 (by first | rfl | assumption) ?_
  refine g_get M_9_tryOrders d_9_tryOrders_42 fl_9_33 (by assumption) (by rfl) ?_
  refine g_aloadn M_9_tryOrders d_9_tryOrders_45 (by first | rfl | assumption) ?_
  refine g_get M_9_tryOrders d_9_tryOrders_46 fl_9_39 (by assumption) (by rfl) ?_
  refine gc_V M_9_tryOrders 0 0 [_] _ d_9_tryOrders_49 cv_9_290 S2.1 (by rfl) (by rfl) (Nat.le_of_ble_eq_true (by rfl)) (Nat.le_of_ble_eq_true (by rfl)) (by decide) (by decide) (by decide) (by decide) (C_6_accept (sp.r (by decide) (by decide)) ⟨S2, ok⟩ O2 hT.2.2.2.1 hT.2.2.2.2 oo (fun f => ?_) (fun x1 f h3 e3 D3 => ?_))
  · show gG _ _ _ _ _ _ _ _ _ _
    refine g_if_ne M_9_tryOrders (tgt := 57) d_9_tryOrders_52 (by decide) (fun c9 => False.elim (c9 rfl)) (fun _ => ?_)
    refine g_iloadn M_9_tryOrders d_9_tryOrders_55 (by first | rfl | assumption) ?_
    exact g_iret M_9_tryOrders d_9_tryOrders_56 rfl rfl (k0 f h2 (a1.t a2) H2)
  · have H3 := H2.tri e3 D3.1
    have a3 := e3.aLb (L := L) (by decide) (by decide)
    show gG _ _ _ _ _ _ _ _ _ _
    refine g_if_ne M_9_tryOrders (tgt := 57) d_9_tryOrders_52 (by decide) (fun _ => ?_) (fun c9 => absurd c9 (by decide))
    refine g_iinc M_9_tryOrders (v := nI 1) d_9_tryOrders_57 rfl (by decide) (by first | rfl | (simp only [gc]; simp [*])) (rfl) ?_
    refine g_goto M_9_tryOrders (tgt := 23) d_9_tryOrders_60 (by decide) ?_
    refine g_iloadn M_9_tryOrders d_9_tryOrders_23 (by first | rfl | assumption) ?_
    refine g_iloadn M_9_tryOrders d_9_tryOrders_24 (by first | rfl | assumption) ?_
    refine g_icmp_ge M_9_tryOrders (tgt := 63) d_9_tryOrders_25 (by decide) (fun _ => ?_) (fun c9 => absurd (by decide) c9)
    refine g_iconst M_9_tryOrders (v := -1) d_9_tryOrders_63 (by decide) ?_
    exact g_iret M_9_tryOrders d_9_tryOrders_64 rfl rfl (k1 x1 f h3 ((a1.t a2).t a3) H3 D3.1 D3.2)
set_option maxHeartbeats 4000000 in
set_option maxRecDepth 100000 in
theorem C_9_checkText {L : Nat → Nat → Nat} {X : Mt_} {h : Hp_} {Q : Ot_ → Hp_ → Prop} (H : mtN h L X) (hT : okT X.1) (k : ∀ h', gExt h h' (aL L) [] → mtN h' L X → Q (.inl none) h') : gG 5 200 0 0 M_9_checkTextIsValid 0 (lv_args 0 [.ref (L 0 0)]) [] h Q := by
  obtain ⟨sp, ok, m0, T, N, v, W1, W2, W3, D, E, l1, ⟨sn, Z, ze⟩, ⟨tr, Y⟩, ⟨b, I⟩, ⟨ox, O⟩, ⟨ya, Wa⟩, ⟨yp, Wp⟩, ⟨yo, Wo⟩, ⟨ps, Ps⟩, os, Os⟩ := H.un
  refine g_aloadn M_9_checkTextIsValid d_9_checkTextIsValid_0 (by first | rfl | assumption) ?_
  refine g_get M_9_checkTextIsValid d_9_checkTextIsValid_1 fl_9_10 (by assumption) (by rfl) ?_
  refine gc_V M_9_checkTextIsValid 0 0 [] _ d_9_checkTextIsValid_4 cv_9_185 T.2.1 (by rfl) (by rfl) (Nat.le_of_ble_eq_true (by rfl)) (Nat.le_of_ble_eq_true (by rfl)) (by decide) (by decide) (by decide) (by decide) (C_5_firstErrorV T (neL sp (ok0 (by decide)) (ok0 (by decide)) (by decide)) (neL sp (ok0 (by decide)) (ok0 (by decide)) (by decide)) hT.1 (fun h1 e1 T1 => ?_))
  have e1w : gExt h h1 [L 0 1, L 0 2, L 0 3] [] := e1.weak (by simp)
  have H1 := H.tx e1w T1
  have a1 := e1w.aLw (L := L) (fun y hy => aL3 (ok0 (by decide)) (ok0 (by decide)) (ok0 (by decide)) hy)
  show gG _ _ _ _ _ _ _ _ _ _
  refine g_iconst M_9_checkTextIsValid (v := -1) d_9_checkTextIsValid_7 (by decide) ?_
  refine g_icmp_eq M_9_checkTextIsValid (tgt := 22) d_9_checkTextIsValid_8 (by decide) (fun _ => ?_) (fun c9 => absurd rfl c9)
  exact g_vret M_9_checkTextIsValid d_9_checkTextIsValid_22 rfl (k h1 a1 H1)
def impF (x : Sn_) (tx : List Nat) : Int32 := if (acO x tx).isSome = true then -1 else nI 0
set_option maxHeartbeats 4000000 in
set_option maxRecDepth 100000 in
theorem C_9_impossible {L : Nat → Nat → Nat} {X : Mt_} {h : Hp_} {Q : Ot_ → Hp_ → Prop} (H : mtN h L X) (hT : okT X.1) (k : ∀ h', gExt h h' (aL L) [] → mtN h' L X → Q (.inl (some (.int (if (acO X.2.1 X.1).isSome = true then -1 else nI 0)))) h') : gG 7 300 0 0 M_9_impossibleOrder 0 (lv_args 0 [.ref (L 0 0)]) [] h Q := by
  obtain ⟨sp, ok, m0, T, N, v, W1, W2, W3, D, E, l1, ⟨sn, Z, ze⟩, ⟨tr, Y⟩, ⟨b, I⟩, ⟨ox, O⟩, ⟨ya, Wa⟩, ⟨yp, Wp⟩, ⟨yo, Wo⟩, ⟨ps, Ps⟩, os, Os⟩ := H.un
  refine g_aloadn M_9_impossibleOrder d_9_impossibleOrder_0 (by first | rfl | assumption) ?_
  refine gc_V M_9_impossibleOrder 0 0 [] _ d_9_impossibleOrder_1 cv_9_188 m0 (by rfl) (by rfl) (Nat.le_of_ble_eq_true (by rfl)) (Nat.le_of_ble_eq_true (by rfl)) (by decide) (by decide) (by decide) (by decide) (C_9_checkText H hT (fun h1 a1 H1 => ?_))
  have m1 := H1.un.2.2.1
  show gG _ _ _ _ _ _ _ _ _ _
  refine g_aloadn M_9_impossibleOrder d_9_impossibleOrder_4 (by first | rfl | assumption) ?_
  refine gc_V M_9_impossibleOrder 0 0 [] _ d_9_impossibleOrder_5 cv_9_191 m1 (by rfl) (by rfl) (Nat.le_of_ble_eq_true (by rfl)) (Nat.le_of_ble_eq_true (by rfl)) (by decide) (by decide) (by decide) (by decide) (C_9_tryOrders H1 hT (fun f h2 a2 H2 => ?_) (fun x1 f h2 a2 H2 S2 ok2 => ?_))
  · have kk := k h2 (a1.t a2) H2
    rw [f] at kk
    show gG _ _ _ _ _ _ _ _ _ _
    exact g_iret M_9_impossibleOrder d_9_impossibleOrder_8 rfl rfl (kk)
  · have kk := k h2 (a1.t a2) H2
    rw [f] at kk
    show gG _ _ _ _ _ _ _ _ _ _
    exact g_iret M_9_impossibleOrder d_9_impossibleOrder_8 rfl rfl (kk)
set_option maxHeartbeats 4000000 in
set_option maxRecDepth 100000 in
theorem C_9_carryV {L : Nat → Nat → Nat} {X : Mt_} {h : Hp_} {Q : Ot_ → Hp_ → Prop} (H : mtN h L X) (hT : okT X.1) (kx : acO X.2.1 X.1 = none → ∀ h', gExt h h' (aL L) [] → mtN h' L X → Q (.inr ISE_) h') (kk : ∀ x', acO X.2.1 X.1 = some x' → ∀ h', gExt h h' (aL L) [] → mtN h' L (X.1, x', X.2.2.1, recN X.2.2.2 X.2.1) → Q (.inl (some (.int (nI 1)))) h') : gG 7 300 1 6 M_9_carryOut 0 (lv_args 0 [.ref (L 0 0)]) [] h Q := by
  obtain ⟨sp, ok, m0, T, N, v, W1, W2, W3, D, E, l1, ⟨sn, Z, ze⟩, ⟨tr, Y⟩, ⟨b, I⟩, ⟨ox, O⟩, ⟨ya, Wa⟩, ⟨yp, Wp⟩, ⟨yo, Wo⟩, ⟨ps, Ps⟩, os, Os⟩ := H.un
  refine g_aloadn M_9_carryOut d_9_carryOut_0 (by first | rfl | assumption) ?_
  refine gc_V M_9_carryOut 1 6 [] _ d_9_carryOut_1 cv_9_188 m0 (by rfl) (by rfl) (Nat.le_of_ble_eq_true (by rfl)) (Nat.le_of_ble_eq_true (by rfl)) (by decide) (by decide) (by decide) (by decide) (C_9_checkText H hT (fun h1 a1 H1 => ?_))
  have m1 := H1.un.2.2.1
  show gG _ _ _ _ _ _ _ _ _ _
  refine g_aloadn M_9_carryOut d_9_carryOut_4 (by first | rfl | assumption) ?_
  refine gc_V M_9_carryOut 1 6 [] _ d_9_carryOut_5 cv_9_191 m1 (by rfl) (by rfl) (Nat.le_of_ble_eq_true (by rfl)) (Nat.le_of_ble_eq_true (by rfl)) (by decide) (by decide) (by decide) (by decide) (C_9_tryOrders H1 hT (fun f h2 a2 H2 => ?_) (fun x1 f h2 a2 H2 U2 okx => ?_))
  · show gG _ _ _ _ _ _ _ _ _ _
    refine g_iconst M_9_carryOut (v := -1) d_9_carryOut_8 (by decide) ?_
    refine g_icmp_eq M_9_carryOut (tgt := 22) d_9_carryOut_9 (by decide) (fun c9 => absurd c9 (by decide)) (fun _ => ?_)
    exact g_throw M_9_carryOut th_9_carryOut_12 rfl d_9_carryOut_12 d_9_carryOut_15 d_9_carryOut_16 d_9_carryOut_18 d_9_carryOut_21 (Nat.le_of_ble_eq_true (by rfl)) (Nat.le_of_ble_eq_true (by rfl)) (Nat.le_of_ble_eq_true (by rfl)) (Nat.le_of_ble_eq_true (by rfl)) (kx f h2 (a1.t a2) H2)
  · obtain ⟨sp2, ok2, m02, T2, N2, v2, W12, W22, W32, D2, E2, l12, ⟨sn2, Z2, ze2⟩, ⟨tr2, Y2⟩, ⟨b2, I2⟩, ⟨ox2, O2⟩, ⟨ya2, Wa2⟩, ⟨yp2, Wp2⟩, ⟨yo2, Wo2⟩, ⟨ps2, Ps2⟩, os2, Os2⟩ := H2.un
    show gG _ _ _ _ _ _ _ _ _ _
    refine g_iconst M_9_carryOut (v := -1) d_9_carryOut_8 (by decide) ?_
    refine g_icmp_eq M_9_carryOut (tgt := 22) d_9_carryOut_9 (by decide) (fun _ => ?_) (fun c9 => absurd rfl c9)
    refine g_aloadn M_9_carryOut d_9_carryOut_22 (by first | rfl | assumption) ?_
    refine g_get M_9_carryOut d_9_carryOut_23 fl_9_29 (by assumption) (by rfl) ?_
    refine g_aloadn M_9_carryOut d_9_carryOut_26 (by first | rfl | assumption) ?_
    refine g_get M_9_carryOut d_9_carryOut_27 fl_9_19 (by assumption) (by rfl) ?_
    refine gc_V M_9_carryOut 0 0 [_] _ d_9_carryOut_30 cv_9_103 I2.2.1 (by rfl) (by rfl) (Nat.le_of_ble_eq_true (by rfl)) (Nat.le_of_ble_eq_true (by rfl)) (by decide) (by decide) (by decide) (by decide) (C_9_rec H2 (fun h3 S9 e3 s9 a3 H3 => ?_))
    have U3 := U2.keep e3 (fun j hj => s9.offB sp (by decide) (by decide) hj)
    obtain ⟨sp3, ok3, m03, T3, N3, v3, W13, W23, W33, D3, E3, l13, ⟨sn3, Z3, ze3⟩, ⟨tr3, Y3⟩, ⟨b3, I3⟩, ⟨ox3, O3⟩, ⟨ya3, Wa3⟩, ⟨yp3, Wp3⟩, ⟨yo3, Wo3⟩, ⟨ps3, Ps3⟩, os3, Os3⟩ := H3.un
    try dsimp only at ok3 T3 N3 v3 W13 W23 W33 D3 E3 l13 ze3 I3
    show gG _ _ _ _ _ _ _ _ _ _
    refine g_aloadn M_9_carryOut d_9_carryOut_33 (by first | rfl | assumption) ?_
    refine g_get M_9_carryOut d_9_carryOut_34 fl_9_19 (by assumption) (by rfl) ?_
    refine g_aloadn M_9_carryOut d_9_carryOut_37 (by first | rfl | assumption) ?_
    refine g_get M_9_carryOut d_9_carryOut_38 fl_9_33 (by assumption) (by rfl) ?_
    refine gc_V M_9_carryOut 0 0 [_] _ d_9_carryOut_41 cv_9_196 N3.1.1 (by rfl) (by rfl) (Nat.le_of_ble_eq_true (by rfl)) (Nat.le_of_ble_eq_true (by rfl)) (by decide) (by decide) (by decide) (by decide) (C_6_copyFrom (sp.r (by decide) (by decide)) (sp.off (by decide) (by decide) (by decide) (by decide) (by decide)) U3 N3.1 (fun h4 e4 S4 => ?_))
    have H4 := H3.now e4 S4 okx
    have a4 := e4.aLb (L := L) (by decide) (by decide)
    obtain ⟨sp4, ok4, m04, T4, N4, v4, W14, W24, W34, D4, E4, l14, ⟨sn4, Z4, ze4⟩, ⟨tr4, Y4⟩, ⟨b4, I4⟩, ⟨ox4, O4⟩, ⟨ya4, Wa4⟩, ⟨yp4, Wp4⟩, ⟨yo4, Wo4⟩, ⟨ps4, Ps4⟩, os4, Os4⟩ := H4.un
    try dsimp only at ok4 T4 N4 v4 W14 W24 W34 D4 E4 l14 ze4 I4
    show gG _ _ _ _ _ _ _ _ _ _
    refine g_aloadn M_9_carryOut d_9_carryOut_44 (by first | rfl | assumption) ?_
    refine g_get M_9_carryOut d_9_carryOut_45 fl_9_10 (by assumption) (by rfl) ?_
    refine gc_V M_9_carryOut 0 0 [] _ d_9_carryOut_48 cv_9_199 T4.2.1 (by rfl) (by rfl) (Nat.le_of_ble_eq_true (by rfl)) (Nat.le_of_ble_eq_true (by rfl)) (by decide) (by decide) (by decide) (by decide) (C_5_orders1 T4 hT.2.2.1 ?_)
    show gG _ _ _ _ _ _ _ _ _ _
    exact g_iret M_9_carryOut d_9_carryOut_51 rfl rfl (kk x1 f h4 (((a1.t a2).t a3).t a4) H4)
