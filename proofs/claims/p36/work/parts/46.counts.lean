/-! ===== counts over nouns; orders carried out ===== -/
theorem nin2 {L : Nat → Nat → Nat} {i j a b : Nat} (s : sepL L) (o : okL i j) (ha : a < 23) (hb : b < 23) (h : ¬ (i = 0 ∧ (j = a ∨ j = b))) : L i j ∉ [L 0 a, L 0 b] := fun q => by
  simp only [List.mem_cons, List.not_mem_nil, or_false] at q
  rcases q with q | q
  · have := s _ _ _ _ o (ok0 ha) q; omega
  · have := s _ _ _ _ o (ok0 hb) q; omega
theorem nin3 {L : Nat → Nat → Nat} {i j a b c : Nat} (s : sepL L) (o : okL i j) (ha : a < 23) (hb : b < 23) (hc : c < 23) (h : ¬ (i = 0 ∧ (j = a ∨ j = b ∨ j = c))) : L i j ∉ [L 0 a, L 0 b, L 0 c] := fun q => by
  simp only [List.mem_cons, List.not_mem_nil, or_false] at q
  rcases q with q | q | q
  · have := s _ _ _ _ o (ok0 ha) q; omega
  · have := s _ _ _ _ o (ok0 hb) q; omega
  · have := s _ _ _ _ o (ok0 hc) q; omega
theorem cnt_step {α : Type} {v : List α} {p : Nat} {f : α → Bool} {d : α} (h : p < v.length) : (v.take (p + 1)).countP f = (v.take p).countP f + if f (v.getD p d) = true then 1 else 0 := by
  rw [List.take_succ, List.countP_append, List.getD_eq_getElem?_getD, List.getElem?_eq_getElem h]
  simp [List.countP_cons]
def ambF (ws : List (List Nat)) : Nat := ws.countP (fun w => decide (1 < ws.countP (fun v => decide (v = w))))
def plA (x : Sn_) : List (List Nat) := (List.range x.1.length).map (plN x)
set_option maxHeartbeats 4000000 in
set_option maxRecDepth 100000 in
theorem C_9_fitsOf {L : Nat → Nat → Nat} {X : Mt_} {h : Hp_} {Q : Ot_ → Hp_ → Prop} {d : Nat} (H : mtN h L X) (hd : d < X.2.1.2.2.2.1.1.length) (k : ∀ h', gExt h h' (aL L) [] → mtN h' L X → Q (.inl (some (.int (nI (X.2.1.1.countP (fun w => fitD X.2.1.2.2.2.1 d w)))))) h') : gG 7 300 0 0 M_9_fitsOf 0 (lv_args 0 [.ref (L 0 0), .int (nI d)]) [] h Q := by
  obtain ⟨sp, ok, m0, T, N, v, W1, W2, W3, D, E, l1, ⟨sn, Z, ze⟩, ⟨tr, Y⟩, ⟨b, I⟩, ⟨ox, O⟩, ⟨ya, Wa⟩, ⟨yp, Wp⟩, ⟨yo, Wo⟩, ⟨ps, Ps⟩, os, Os⟩ := H.un
  have nl := W1.1
  refine g_aloadn M_9_fitsOf d_9_fitsOf_0 (by first | rfl | assumption) ?_
  refine g_iloadn M_9_fitsOf d_9_fitsOf_1 (by first | rfl | assumption) ?_
  refine gc_V M_9_fitsOf 0 0 [_] _ d_9_fitsOf_2 cv_9_147 m0 (by rfl) (by rfl) (Nat.le_of_ble_eq_true (by rfl)) (Nat.le_of_ble_eq_true (by rfl)) (by decide) (by decide) (by decide) (by decide) (C_9_checkDieV H hd ?_)
  show gG _ _ _ _ _ _ _ _ _ _
  refine g_iconst M_9_fitsOf (v := nI 0) d_9_fitsOf_5 (by decide) ?_
  refine g_istoren M_9_fitsOf d_9_fitsOf_6 (by decide) (by first | rfl | (simp only [gc]; simp [*])) ?_
  refine g_iconst M_9_fitsOf (v := nI 0) d_9_fitsOf_7 (by decide) ?_
  refine g_istoren M_9_fitsOf d_9_fitsOf_8 (by decide) (by first | rfl | (simp only [gc]; simp [*])) ?_
  have loop : ∀ n p h1, p + n = X.2.1.1.length → gExt h h1 (aL L) [] → mtN h1 L X → ∀ lv : List (Nat × Value), gl lv 0 = some (.ref (L 0 0)) → gl lv 1 = some (.int (nI d)) → gl lv 2 = some (.int (nI ((X.2.1.1.take p).countP (fun w => fitD X.2.1.2.2.2.1 d w)))) → gl lv 3 = some (.int (nI p)) → gG 7 300 0 0 M_9_fitsOf 9 lv [] h1 Q := by
    intro n
    induction n with
    | zero =>
      intro p h1 hp a1 H1 lv H0l H1l H2l H3l
      obtain ⟨sp1, ok1, m01, T1, N1, v1, W11, W21, W31, D1, E1, l11, ⟨sn1, Z1, ze1⟩, ⟨tr1, Y1⟩, ⟨b1, I1⟩, ⟨ox1, O1⟩, ⟨ya1, Wa1⟩, ⟨yp1, Wp1⟩, ⟨yo1, Wo1⟩, ⟨ps1, Ps1⟩, os1, Os1⟩ := H1.un
      rw [List.take_of_length_le (by omega)] at H2l
      refine g_iloadn M_9_fitsOf d_9_fitsOf_9 (by first | rfl | assumption) ?_
      refine g_aloadn M_9_fitsOf d_9_fitsOf_10 (by first | rfl | assumption) ?_
      refine g_get M_9_fitsOf d_9_fitsOf_11 fl_9_19 (by assumption) (by rfl) ?_
      refine g_get M_9_fitsOf d_9_fitsOf_14 fl_9_212 (by assumption) (by rfl) ?_
      refine gc_V M_9_fitsOf 0 0 [] _ d_9_fitsOf_17 cv_9_165 W11.2.2.1 (by rfl) (by rfl) (Nat.le_of_ble_eq_true (by rfl)) (Nat.le_of_ble_eq_true (by rfl)) (by decide) (by decide) (by decide) (by decide) (C_8_count W11.2.2.1 ?_)
      show gG _ _ _ _ _ _ _ _ _ _
      refine g_icmp_ge M_9_fitsOf (tgt := 65) d_9_fitsOf_20 (by decide) (fun _ => ?_) (fun c9 => absurd (nI_le (by omega) (by omega)) c9)
      refine g_iloadn M_9_fitsOf d_9_fitsOf_65 (by first | rfl | assumption) ?_
      exact g_iret M_9_fitsOf d_9_fitsOf_66 rfl rfl (k h1 a1 H1)
    | succ n ih =>
      intro p h1 hp a1 H1 lv H0l H1l H2l H3l
      obtain ⟨sp1, ok1, m01, T1, N1, v1, W11, W21, W31, D1, E1, l11, ⟨sn1, Z1, ze1⟩, ⟨tr1, Y1⟩, ⟨b1, I1⟩, ⟨ox1, O1⟩, ⟨ya1, Wa1⟩, ⟨yp1, Wp1⟩, ⟨yo1, Wo1⟩, ⟨ps1, Ps1⟩, os1, Os1⟩ := H1.un
      refine g_iloadn M_9_fitsOf d_9_fitsOf_9 (by first | rfl | assumption) ?_
      refine g_aloadn M_9_fitsOf d_9_fitsOf_10 (by first | rfl | assumption) ?_
      refine g_get M_9_fitsOf d_9_fitsOf_11 fl_9_19 (by assumption) (by rfl) ?_
      refine g_get M_9_fitsOf d_9_fitsOf_14 fl_9_212 (by assumption) (by rfl) ?_
      refine gc_V M_9_fitsOf 0 0 [] _ d_9_fitsOf_17 cv_9_165 W11.2.2.1 (by rfl) (by rfl) (Nat.le_of_ble_eq_true (by rfl)) (Nat.le_of_ble_eq_true (by rfl)) (by decide) (by decide) (by decide) (by decide) (C_8_count W11.2.2.1 ?_)
      show gG _ _ _ _ _ _ _ _ _ _
      refine g_icmp_ge M_9_fitsOf (tgt := 65) d_9_fitsOf_20 (by decide) (fun c9 => absurd c9 (nI_ge (by omega) (by omega))) (fun _ => ?_)
      refine g_aloadn M_9_fitsOf d_9_fitsOf_23 (by first | rfl | assumption) ?_
      refine g_get M_9_fitsOf d_9_fitsOf_24 fl_9_19 (by assumption) (by rfl) ?_
      refine g_get M_9_fitsOf d_9_fitsOf_27 fl_9_212 (by assumption) (by rfl) ?_
      refine g_iloadn M_9_fitsOf d_9_fitsOf_30 (by first | rfl | assumption) ?_
      refine g_aloadn M_9_fitsOf d_9_fitsOf_31 (by first | rfl | assumption) ?_
      refine g_get M_9_fitsOf d_9_fitsOf_32 fl_9_46 (by assumption) (by rfl) ?_
      refine gc_V M_9_fitsOf 0 0 [_, _] _ d_9_fitsOf_35 cv_9_231 W11.2.2.1 (by rfl) (by rfl) (Nat.le_of_ble_eq_true (by rfl)) (Nat.le_of_ble_eq_true (by rfl)) (by decide) (by decide) (by decide) (by decide) (C_8_load (by decide) (by decide) W11 (by omega) Wa1 (neL sp (ok0 (by decide)) (ok0 (by decide)) (by decide)) (fun y hy q => by simp only [List.mem_cons, List.not_mem_nil, or_false] at hy q; rcases hy with rfl | rfl | rfl <;> rcases q with q | q <;> exact neL sp (okB (by decide) (by decide) (by decide)) (ok0 (by decide)) (by decide) q) (fun h2 e2 V2 => ?_))
      have H2 := H1.w11 e2 V2
      have a2 := e2.aLw (L := L) (fun y hy => aL2 (ok0 (by decide)) (ok0 (by decide)) hy)
      obtain ⟨sp2, ok2, m02, T2, N2, v2, W12, W22, W32, D2, E2, l12, ⟨sn2, Z2, ze2⟩, ⟨tr2, Y2⟩, ⟨b2, I2⟩, ⟨ox2, O2⟩, ⟨ya2, Wa2⟩, ⟨yp2, Wp2⟩, ⟨yo2, Wo2⟩, ⟨ps2, Ps2⟩, os2, Os2⟩ := H2.un
      have st := cnt_step (f := (fun w => fitD X.2.1.2.2.2.1 d w)) (d := []) (show p < X.2.1.1.length by omega)
      show gG _ _ _ _ _ _ _ _ _ _
      refine g_aloadn M_9_fitsOf d_9_fitsOf_38 (by first | rfl | assumption) ?_
      refine g_get M_9_fitsOf d_9_fitsOf_39 fl_9_19 (by assumption) (by rfl) ?_
      refine g_get M_9_fitsOf d_9_fitsOf_42 fl_9_152 (by assumption) (by rfl) ?_
      refine g_iloadn M_9_fitsOf d_9_fitsOf_45 (by first | rfl | assumption) ?_
      refine g_aloadn M_9_fitsOf d_9_fitsOf_46 (by first | rfl | assumption) ?_
      refine g_get M_9_fitsOf d_9_fitsOf_47 fl_9_46 (by assumption) (by rfl) ?_
      refine gc_V M_9_fitsOf 0 0 [_, _] _ d_9_fitsOf_50 cv_9_257 D2.1 (by rfl) (by rfl) (Nat.le_of_ble_eq_true (by rfl)) (Nat.le_of_ble_eq_true (by rfl)) (by decide) (by decide) (by decide) (by decide) (C_0_fits D2 hd V2 ?_)
      show gG _ _ _ _ _ _ _ _ _ _
      cases q : fitD X.2.1.2.2.2.1 d (X.2.1.1.getD p []) with
      | false =>
        rw [q, if_neg (by decide), Nat.add_zero] at st
        refine g_if_eq M_9_fitsOf (tgt := 59) d_9_fitsOf_53 (by decide) (fun _ => ?_) (fun c9 => absurd rfl c9)
        refine g_iinc M_9_fitsOf (v := nI (p + 1)) d_9_fitsOf_59 H3l (by decide) (by first | rfl | (simp only [gc]; simp [*])) (nI_add p 1) ?_
        refine g_goto M_9_fitsOf (tgt := 9) d_9_fitsOf_62 (by decide) ?_
        exact ih (p + 1) h2 (by omega) (a1.t a2) H2 _ H0l H1l (by rw [st]; exact H2l) rfl
      | true =>
        rw [q, if_pos rfl] at st
        refine g_if_eq M_9_fitsOf (tgt := 59) d_9_fitsOf_53 (by decide) (fun c9 => absurd c9 (by decide)) (fun _ => ?_)
        refine g_iinc M_9_fitsOf (v := nI ((X.2.1.1.take p).countP (fun w => fitD X.2.1.2.2.2.1 d w) + 1)) d_9_fitsOf_56 H2l (by decide) (by first | rfl | (simp only [gc]; simp [*])) (nI_add _ 1) ?_
        refine g_iinc M_9_fitsOf (v := nI (p + 1)) d_9_fitsOf_59 H3l (by decide) (by first | rfl | (simp only [gc]; simp [*])) (nI_add p 1) ?_
        refine g_goto M_9_fitsOf (tgt := 9) d_9_fitsOf_62 (by decide) ?_
        exact ih (p + 1) h2 (by omega) (a1.t a2) H2 _ H0l H1l (by rw [st]; rfl) rfl
  exact loop X.2.1.1.length 0 h (by omega) gExt.r H _ rfl rfl rfl rfl
set_option maxHeartbeats 4000000 in
set_option maxRecDepth 100000 in
theorem C_9_ambiguous {L : Nat → Nat → Nat} {X : Mt_} {h : Hp_} {Q : Ot_ → Hp_ → Prop} (H : mtN h L X) (k : ∀ h', gExt h h' (aL L) [] → mtN h' L X → Q (.inl (some (.int (nI (ambF (plA X.2.1)))))) h') : gG 7 300 0 0 M_9_ambiguousNouns 0 (lv_args 0 [.ref (L 0 0)]) [] h Q := by
  obtain ⟨sp, ok, m0, T, N, v, W1, W2, W3, D, E, l1, ⟨sn, Z, ze⟩, ⟨tr, Y⟩, ⟨b, I⟩, ⟨ox, O⟩, ⟨ya, Wa⟩, ⟨yp, Wp⟩, ⟨yo, Wo⟩, ⟨ps, Ps⟩, os, Os⟩ := H.un
  have nl := W1.1
  have pl : (plA X.2.1).length = X.2.1.1.length := by unfold plA; rw [List.length_map, List.length_range]
  have loop2 : ∀ n p h1, p + n = (plA X.2.1).length → gExt h h1 (aL L) [] → mtN h1 L X → wsR h1 (L 0 17) (L 0 18) (L 0 19) 20 16 (plA X.2.1) → ∀ lv : List (Nat × Value), gl lv 0 = some (.ref (L 0 0)) → gl lv 1 = some (.int (nI (((plA X.2.1).take p).countP (fun w => decide (1 < (plA X.2.1).countP (fun v => decide (v = w))))))) → gl lv 2 = some (.int (nI p)) → gG 7 300 0 0 M_9_ambiguousNouns 57 lv [] h1 Q := by
    intro n
    induction n with
    | zero =>
      intro p h1 hp a1 H1 P1 lv H0l H1l H2l
      obtain ⟨sp1, ok1, m01, T1, N1, v1, W11, W21, W31, D1, E1, l11, ⟨sn1, Z1, ze1⟩, ⟨tr1, Y1⟩, ⟨b1, I1⟩, ⟨ox1, O1⟩, ⟨ya1, Wa1⟩, ⟨yp1, Wp1⟩, ⟨yo1, Wo1⟩, ⟨ps1, Ps1⟩, os1, Os1⟩ := H1.un
      rw [List.take_of_length_le (by omega)] at H1l
      refine g_iloadn M_9_ambiguousNouns d_9_ambiguousNouns_57 (by first | rfl | assumption) ?_
      refine g_aloadn M_9_ambiguousNouns d_9_ambiguousNouns_58 (by first | rfl | assumption) ?_
      refine g_get M_9_ambiguousNouns d_9_ambiguousNouns_59 fl_9_61 (by assumption) (by rfl) ?_
      refine gc_V M_9_ambiguousNouns 0 0 [] _ d_9_ambiguousNouns_62 cv_9_165 P1.2.2.1 (by rfl) (by rfl) (Nat.le_of_ble_eq_true (by rfl)) (Nat.le_of_ble_eq_true (by rfl)) (by decide) (by decide) (by decide) (by decide) (C_8_count P1.2.2.1 ?_)
      show gG _ _ _ _ _ _ _ _ _ _
      refine g_icmp_ge M_9_ambiguousNouns (tgt := 104) d_9_ambiguousNouns_65 (by decide) (fun _ => ?_) (fun c9 => absurd (nI_le (by omega) (by omega)) c9)
      refine g_iloadn M_9_ambiguousNouns d_9_ambiguousNouns_104 (by first | rfl | assumption) ?_
      exact g_iret M_9_ambiguousNouns d_9_ambiguousNouns_105 rfl rfl (k h1 a1 H1)
    | succ n ih =>
      intro p h1 hp a1 H1 P1 lv H0l H1l H2l
      obtain ⟨sp1, ok1, m01, T1, N1, v1, W11, W21, W31, D1, E1, l11, ⟨sn1, Z1, ze1⟩, ⟨tr1, Y1⟩, ⟨b1, I1⟩, ⟨ox1, O1⟩, ⟨ya1, Wa1⟩, ⟨yp1, Wp1⟩, ⟨yo1, Wo1⟩, ⟨ps1, Ps1⟩, os1, Os1⟩ := H1.un
      refine g_iloadn M_9_ambiguousNouns d_9_ambiguousNouns_57 (by first | rfl | assumption) ?_
      refine g_aloadn M_9_ambiguousNouns d_9_ambiguousNouns_58 (by first | rfl | assumption) ?_
      refine g_get M_9_ambiguousNouns d_9_ambiguousNouns_59 fl_9_61 (by assumption) (by rfl) ?_
      refine gc_V M_9_ambiguousNouns 0 0 [] _ d_9_ambiguousNouns_62 cv_9_165 P1.2.2.1 (by rfl) (by rfl) (Nat.le_of_ble_eq_true (by rfl)) (Nat.le_of_ble_eq_true (by rfl)) (by decide) (by decide) (by decide) (by decide) (C_8_count P1.2.2.1 ?_)
      show gG _ _ _ _ _ _ _ _ _ _
      refine g_icmp_ge M_9_ambiguousNouns (tgt := 104) d_9_ambiguousNouns_65 (by decide) (fun c9 => absurd c9 (nI_ge (by omega) (by omega))) (fun _ => ?_)
      refine g_aloadn M_9_ambiguousNouns d_9_ambiguousNouns_68 (by first | rfl | assumption) ?_
      refine g_get M_9_ambiguousNouns d_9_ambiguousNouns_69 fl_9_61 (by assumption) (by rfl) ?_
      refine g_iloadn M_9_ambiguousNouns d_9_ambiguousNouns_72 (by first | rfl | assumption) ?_
      refine g_aloadn M_9_ambiguousNouns d_9_ambiguousNouns_73 (by first | rfl | assumption) ?_
      refine g_get M_9_ambiguousNouns d_9_ambiguousNouns_74 fl_9_50 (by assumption) (by rfl) ?_
      refine gc_V M_9_ambiguousNouns 0 0 [_, _] _ d_9_ambiguousNouns_77 cv_9_231 P1.2.2.1 (by rfl) (by rfl) (Nat.le_of_ble_eq_true (by rfl)) (Nat.le_of_ble_eq_true (by rfl)) (by decide) (by decide) (by decide) (by decide) (C_8_load (by decide) (by decide) P1 (by omega) Wp1 (neL sp (ok0 (by decide)) (ok0 (by decide)) (by decide)) (fun y hy q => by simp only [List.mem_cons, List.not_mem_nil, or_false] at hy q; rcases hy with rfl | rfl | rfl <;> rcases q with q | q <;> exact neL sp (ok0 (by decide)) (ok0 (by decide)) (by decide) q) (fun h2 e2 V2 => ?_))
      have H2 := H1.w13 e2 V2
      have a2 := e2.aLw (L := L) (fun y hy => aL2 (ok0 (by decide)) (ok0 (by decide)) hy)
      have P2 := P1.keep e2 (nin2 sp (ok0 (by decide)) (by decide) (by decide) (by decide)) (nin2 sp (ok0 (by decide)) (by decide) (by decide) (by decide)) (nin2 sp (ok0 (by decide)) (by decide) (by decide) (by decide))
      have m2 := H2.un.2.2.1
      have st := cnt_step (f := (fun w => decide (1 < (plA X.2.1).countP (fun v => decide (v = w))))) (d := []) (show p < (plA X.2.1).length by omega)
      show gG _ _ _ _ _ _ _ _ _ _
      refine g_aloadn M_9_ambiguousNouns d_9_ambiguousNouns_80 (by first | rfl | assumption) ?_
      refine g_get M_9_ambiguousNouns d_9_ambiguousNouns_81 fl_9_61 (by assumption) (by rfl) ?_
      refine g_aloadn M_9_ambiguousNouns d_9_ambiguousNouns_84 (by first | rfl | assumption) ?_
      refine g_get M_9_ambiguousNouns d_9_ambiguousNouns_85 fl_9_50 (by assumption) (by rfl) ?_
      refine gc_V M_9_ambiguousNouns 0 0 [_] _ d_9_ambiguousNouns_88 cv_9_245 P2.2.2.1 (by rfl) (by rfl) (Nat.le_of_ble_eq_true (by rfl)) (Nat.le_of_ble_eq_true (by rfl)) (by decide) (by decide) (by decide) (by decide) (C_8_countOf (by decide) (by decide) P2 V2 ?_)
      show gG _ _ _ _ _ _ _ _ _ _
      refine g_iconst M_9_ambiguousNouns (v := nI 1) d_9_ambiguousNouns_91 (by decide) ?_
      have cl : (plA X.2.1).countP (fun v => decide (v = (plA X.2.1).getD p [])) ≤ (plA X.2.1).length := List.countP_le_length
      by_cases q : 1 < (plA X.2.1).countP (fun v => decide (v = (plA X.2.1).getD p []))
      · rw [decide_eq_true q, if_pos rfl] at st
        refine g_icmp_le M_9_ambiguousNouns (tgt := 98) d_9_ambiguousNouns_92 (by decide) (fun c9 => absurd c9 (nI_ge q (by omega))) (fun _ => ?_)
        refine g_iinc M_9_ambiguousNouns (v := nI (((plA X.2.1).take p).countP (fun w => decide (1 < (plA X.2.1).countP (fun v => decide (v = w)))) + 1)) d_9_ambiguousNouns_95 H1l (by decide) (by first | rfl | (simp only [gc]; simp [*])) (nI_add _ 1) ?_
        refine g_iinc M_9_ambiguousNouns (v := nI (p + 1)) d_9_ambiguousNouns_98 H2l (by decide) (by first | rfl | (simp only [gc]; simp [*])) (nI_add p 1) ?_
        refine g_goto M_9_ambiguousNouns (tgt := 57) d_9_ambiguousNouns_101 (by decide) ?_
        exact ih (p + 1) h2 (by omega) (a1.t a2) H2 P2 _ H0l (by rw [st]; rfl) rfl
      · rw [decide_eq_false q, if_neg (by decide), Nat.add_zero] at st
        refine g_icmp_le M_9_ambiguousNouns (tgt := 98) d_9_ambiguousNouns_92 (by decide) (fun _ => ?_) (fun c9 => absurd (nI_le (by omega) (by decide)) c9)
        refine g_iinc M_9_ambiguousNouns (v := nI (p + 1)) d_9_ambiguousNouns_98 H2l (by decide) (by first | rfl | (simp only [gc]; simp [*])) (nI_add p 1) ?_
        refine g_goto M_9_ambiguousNouns (tgt := 57) d_9_ambiguousNouns_101 (by decide) ?_
        exact ih (p + 1) h2 (by omega) (a1.t a2) H2 P2 _ H0l (by rw [st]; exact H1l) rfl
  have k2 := fun h1 a1 H1 P1 => loop2 (plA X.2.1).length 0 h1 (by omega) a1 H1 P1
  refine g_aloadn M_9_ambiguousNouns d_9_ambiguousNouns_0 (by first | rfl | assumption) ?_
  refine g_get M_9_ambiguousNouns d_9_ambiguousNouns_1 fl_9_61 (by assumption) (by rfl) ?_
  refine gc_V M_9_ambiguousNouns 0 0 [] _ d_9_ambiguousNouns_4 cv_9_240 Ps.2.2.1 (by rfl) (by rfl) (Nat.le_of_ble_eq_true (by rfl)) (Nat.le_of_ble_eq_true (by rfl)) (by decide) (by decide) (by decide) (by decide) (C_8_clear (neL sp (ok0 (by decide)) (ok0 (by decide)) (by decide)) (neL sp (ok0 (by decide)) (ok0 (by decide)) (by decide)) Ps (fun h0 e0 P0 => ?_))
  have e0w : gExt h h0 [L 0 17, L 0 18, L 0 19] [] := e0.weak (by simp)
  have H0 := H.ws17 e0w P0
  have a0 := e0w.aLw (L := L) (fun y hy => aL3 (ok0 (by decide)) (ok0 (by decide)) (ok0 (by decide)) hy)
  show gG _ _ _ _ _ _ _ _ _ _
  refine g_iconst M_9_ambiguousNouns (v := nI 0) d_9_ambiguousNouns_7 (by decide) ?_
  refine g_istoren M_9_ambiguousNouns d_9_ambiguousNouns_8 (by decide) (by first | rfl | (simp only [gc]; simp [*])) ?_
  have loop : ∀ n p h1, p + n = X.2.1.1.length → gExt h h1 (aL L) [] → mtN h1 L X → wsR h1 (L 0 17) (L 0 18) (L 0 19) 20 16 ((List.range p).map (plN X.2.1)) → ∀ lv : List (Nat × Value), gl lv 0 = some (.ref (L 0 0)) → gl lv 1 = some (.int (nI p)) → gG 7 300 0 0 M_9_ambiguousNouns 9 lv [] h1 Q := by
    intro n
    induction n with
    | zero =>
      intro p h1 hp a1 H1 P1 lv H0l H1l
      obtain ⟨sp1, ok1, m01, T1, N1, v1, W11, W21, W31, D1, E1, l11, ⟨sn1, Z1, ze1⟩, ⟨tr1, Y1⟩, ⟨b1, I1⟩, ⟨ox1, O1⟩, ⟨ya1, Wa1⟩, ⟨yp1, Wp1⟩, ⟨yo1, Wo1⟩, ⟨ps1, Ps1⟩, os1, Os1⟩ := H1.un
      refine g_iloadn M_9_ambiguousNouns d_9_ambiguousNouns_9 (by first | rfl | assumption) ?_
      refine g_aloadn M_9_ambiguousNouns d_9_ambiguousNouns_10 (by first | rfl | assumption) ?_
      refine g_get M_9_ambiguousNouns d_9_ambiguousNouns_11 fl_9_19 (by assumption) (by rfl) ?_
      refine g_get M_9_ambiguousNouns d_9_ambiguousNouns_14 fl_9_212 (by assumption) (by rfl) ?_
      refine gc_V M_9_ambiguousNouns 0 0 [] _ d_9_ambiguousNouns_17 cv_9_165 W11.2.2.1 (by rfl) (by rfl) (Nat.le_of_ble_eq_true (by rfl)) (Nat.le_of_ble_eq_true (by rfl)) (by decide) (by decide) (by decide) (by decide) (C_8_count W11.2.2.1 ?_)
      show gG _ _ _ _ _ _ _ _ _ _
      refine g_icmp_ge M_9_ambiguousNouns (tgt := 53) d_9_ambiguousNouns_20 (by decide) (fun _ => ?_) (fun c9 => absurd (nI_le (by omega) (by omega)) c9)
      refine g_iconst M_9_ambiguousNouns (v := nI 0) d_9_ambiguousNouns_53 (by decide) ?_
      refine g_istoren M_9_ambiguousNouns d_9_ambiguousNouns_54 (by decide) (by first | rfl | (simp only [gc]; simp [*])) ?_
      refine g_iconst M_9_ambiguousNouns (v := nI 0) d_9_ambiguousNouns_55 (by decide) ?_
      refine g_istoren M_9_ambiguousNouns d_9_ambiguousNouns_56 (by decide) (by first | rfl | (simp only [gc]; simp [*])) ?_
      exact k2 h1 a1 H1 (by have e : p = X.2.1.1.length := by omega
                            subst e; exact P1) _ H0l rfl rfl
    | succ n ih =>
      intro p h1 hp a1 H1 P1 lv H0l H1l
      obtain ⟨sp1, ok1, m01, T1, N1, v1, W11, W21, W31, D1, E1, l11, ⟨sn1, Z1, ze1⟩, ⟨tr1, Y1⟩, ⟨b1, I1⟩, ⟨ox1, O1⟩, ⟨ya1, Wa1⟩, ⟨yp1, Wp1⟩, ⟨yo1, Wo1⟩, ⟨ps1, Ps1⟩, os1, Os1⟩ := H1.un
      refine g_iloadn M_9_ambiguousNouns d_9_ambiguousNouns_9 (by first | rfl | assumption) ?_
      refine g_aloadn M_9_ambiguousNouns d_9_ambiguousNouns_10 (by first | rfl | assumption) ?_
      refine g_get M_9_ambiguousNouns d_9_ambiguousNouns_11 fl_9_19 (by assumption) (by rfl) ?_
      refine g_get M_9_ambiguousNouns d_9_ambiguousNouns_14 fl_9_212 (by assumption) (by rfl) ?_
      refine gc_V M_9_ambiguousNouns 0 0 [] _ d_9_ambiguousNouns_17 cv_9_165 W11.2.2.1 (by rfl) (by rfl) (Nat.le_of_ble_eq_true (by rfl)) (Nat.le_of_ble_eq_true (by rfl)) (by decide) (by decide) (by decide) (by decide) (C_8_count W11.2.2.1 ?_)
      show gG _ _ _ _ _ _ _ _ _ _
      refine g_icmp_ge M_9_ambiguousNouns (tgt := 53) d_9_ambiguousNouns_20 (by decide) (fun c9 => absurd c9 (nI_ge (by omega) (by omega))) (fun _ => ?_)
      refine g_aloadn M_9_ambiguousNouns d_9_ambiguousNouns_23 (by first | rfl | assumption) ?_
      refine g_get M_9_ambiguousNouns d_9_ambiguousNouns_24 fl_9_19 (by assumption) (by rfl) ?_
      refine g_iloadn M_9_ambiguousNouns d_9_ambiguousNouns_27 (by first | rfl | assumption) ?_
      refine g_aloadn M_9_ambiguousNouns d_9_ambiguousNouns_28 (by first | rfl | assumption) ?_
      refine g_get M_9_ambiguousNouns d_9_ambiguousNouns_29 fl_9_50 (by assumption) (by rfl) ?_
      refine gc_V M_9_ambiguousNouns 0 0 [_, _] _ d_9_ambiguousNouns_32 cv_9_78 v1 (by rfl) (by rfl) (Nat.le_of_ble_eq_true (by rfl)) (Nat.le_of_ble_eq_true (by rfl)) (by decide) (by decide) (by decide) (by decide) (C_6_loadPlural N1 (by omega) Wp1 (neL sp (ok0 (by decide)) (ok0 (by decide)) (by decide)) (offW sp (by decide) (by decide) (by decide) (by decide)) (fun h2 e2 V2 => ?_))
      have H2 := H1.w13 e2 V2
      have a2 := e2.aLw (L := L) (fun y hy => aL2 (ok0 (by decide)) (ok0 (by decide)) hy)
      have P2 := P1.keep e2 (nin2 sp (ok0 (by decide)) (by decide) (by decide) (by decide)) (nin2 sp (ok0 (by decide)) (by decide) (by decide) (by decide)) (nin2 sp (ok0 (by decide)) (by decide) (by decide) (by decide))
      have m2 := H2.un.2.2.1
      show gG _ _ _ _ _ _ _ _ _ _
      refine g_aloadn M_9_ambiguousNouns d_9_ambiguousNouns_35 (by first | rfl | assumption) ?_
      refine g_get M_9_ambiguousNouns d_9_ambiguousNouns_36 fl_9_61 (by assumption) (by rfl) ?_
      refine g_aloadn M_9_ambiguousNouns d_9_ambiguousNouns_39 (by first | rfl | assumption) ?_
      refine g_get M_9_ambiguousNouns d_9_ambiguousNouns_40 fl_9_50 (by assumption) (by rfl) ?_
      refine gc_V M_9_ambiguousNouns 0 0 [_] _ d_9_ambiguousNouns_43 cv_9_241 P2.2.2.1 (by rfl) (by rfl) (Nat.le_of_ble_eq_true (by rfl)) (Nat.le_of_ble_eq_true (by rfl)) (by decide) (by decide) (by decide) (by decide) (C_8_add (by decide) (by decide) P2 V2 V2.1.1 (neL sp (ok0 (by decide)) (ok0 (by decide)) (by decide)) (neL sp (ok0 (by decide)) (ok0 (by decide)) (by decide)) (neL sp (ok0 (by decide)) (ok0 (by decide)) (by decide)) ⟨(neL sp (ok0 (by decide)) (ok0 (by decide)) (by decide)), (neL sp (ok0 (by decide)) (ok0 (by decide)) (by decide)), (neL sp (ok0 (by decide)) (ok0 (by decide)) (by decide))⟩ ⟨(neL sp (ok0 (by decide)) (ok0 (by decide)) (by decide)), (neL sp (ok0 (by decide)) (ok0 (by decide)) (by decide)), (neL sp (ok0 (by decide)) (ok0 (by decide)) (by decide))⟩ (fun q => absurd q (by rw [List.length_map, List.length_range]; omega)) (fun q h3 e3 P3 => ?_))
      have H3 := H2.ws17 e3 P3
      have a3 := e3.aLw (L := L) (fun y hy => aL3 (ok0 (by decide)) (ok0 (by decide)) (ok0 (by decide)) hy)
      have ea : ((List.range p).map (plN X.2.1)) ++ [plS X.2.1 (X.2.1.1.getD p [])] = (List.range (p + 1)).map (plN X.2.1) := by rw [List.range_succ, List.map_append]; rfl
      rw [ea] at P3
      show gG _ _ _ _ _ _ _ _ _ _
      refine g_pop M_9_ambiguousNouns d_9_ambiguousNouns_46 (by rfl) ?_
      refine g_iinc M_9_ambiguousNouns (v := nI (p + 1)) d_9_ambiguousNouns_47 H1l (by decide) (by first | rfl | (simp only [gc]; simp [*])) (nI_add p 1) ?_
      refine g_goto M_9_ambiguousNouns (tgt := 9) d_9_ambiguousNouns_50 (by decide) ?_
      exact ih (p + 1) h3 (by omega) ((a1.t a2).t a3) H3 P3 _ H0l rfl
  exact loop X.2.1.1.length 0 h0 (by omega) a0 H0 P0 _ rfl rfl
