/-! ===== sums over heaps, counts over nouns ===== -/
def sumH (v : Hn_) : Nat := (v.map (fun y => y.2.2)).sum
def stl (x : Sn_) (y : List Nat × Nat × Nat) : Bool := !(decide (y.1 = plN x y.2.1))
def stZ (x : Sn_) (y : List Nat × Nat × Nat) : List Nat × Nat × Nat := if stl x y = true then (y.1, y.2.1, 0) else y
def mzS (x : Sn_) : Sn_ := (x.1, x.2.1, x.2.2.1, x.2.2.2.1, (x.2.2.2.2.1.map (stZ x)).filter nzH, x.2.2.2.2.2.1, x.2.2.2.2.2.2 + sumH (x.2.2.2.2.1.filter (stl x)))
theorem sumH_step {v : Hn_} {p : Nat} {f : List Nat × Nat × Nat → Bool} (h : p < v.length) : sumH ((v.take (p + 1)).filter f) = sumH ((v.take p).filter f) + if f (hx v p) = true then (hx v p).2.2 else 0 := by
  rw [hn_snoc h, List.filter_append]
  unfold sumH
  rw [List.map_append, List.sum_append]
  congr 1
  by_cases q : f (hx v p) = true
  · rw [if_pos q, List.filter_cons_of_pos q]; rfl
  · rw [if_neg q, List.filter_cons_of_neg q]; rfl
theorem sumH_step0 {v : Hn_} {p : Nat} (h : p < v.length) : sumH (v.take (p + 1)) = sumH (v.take p) + (hx v p).2.2 := by
  rw [hn_snoc h]
  unfold sumH
  rw [List.map_append, List.sum_append]
  rfl
/-- stale heaps are emptied up to the p-th -/
def mzP (x : Sn_) (p : Nat) : Hn_ := (x.2.2.2.2.1.take p).map (stZ x) ++ x.2.2.2.2.1.drop p
theorem mzP_len {x : Sn_} {p : Nat} : (mzP x p).length = x.2.2.2.2.1.length := by
  unfold mzP
  rw [List.length_append, List.length_map, ← List.length_append, List.take_append_drop]
theorem mzP_at {x : Sn_} {p : Nat} (h : p < x.2.2.2.2.1.length) : hx (mzP x p) p = hx x.2.2.2.2.1 p := by
  unfold mzP
  rw [hn_drop h]
  exact hx_mid (by rw [List.length_map, List.length_take]; omega)
theorem mzP_next {x : Sn_} {p : Nat} (h : p < x.2.2.2.2.1.length) : mzP x (p + 1) = (x.2.2.2.2.1.take p).map (stZ x) ++ stZ x (hx x.2.2.2.2.1 p) :: x.2.2.2.2.1.drop (p + 1) := by
  unfold mzP
  rw [hn_snoc h, List.map_append, List.append_assoc]
  rfl
theorem mzP_stale {x : Sn_} {p : Nat} (h : p < x.2.2.2.2.1.length) (q : stl x (hx x.2.2.2.2.1 p) = true) : hset (mzP x p) p 0 = mzP x (p + 1) := by
  show (mzP x p).set p ((hx (mzP x p) p).1, (hx (mzP x p) p).2.1, 0) = _
  rw [mzP_at h, mzP_next h]
  unfold mzP stZ
  rw [hn_drop h, set_mid (by rw [List.length_map, List.length_take]; omega), if_pos q]
theorem mzP_fresh {x : Sn_} {p : Nat} (h : p < x.2.2.2.2.1.length) (q : ¬ stl x (hx x.2.2.2.2.1 p) = true) : mzP x p = mzP x (p + 1) := by
  rw [mzP_next h]
  unfold mzP stZ
  rw [hn_drop h, if_neg q]
def xmz (x : Sn_) (p : Nat) : Sn_ := (x.1, x.2.1, x.2.2.1, x.2.2.2.1, mzP x p, x.2.2.2.2.2)
set_option maxHeartbeats 4000000 in
set_option maxRecDepth 100000 in
theorem C_9_staleCoins {L : Nat → Nat → Nat} {X : Mt_} {h : Hp_} {Q : Ot_ → Hp_ → Prop} (H : mtN h L X) (k : ∀ h', gExt h h' (aL L) [] → mtN h' L X → Q (.inl (some (.int (nI (sumH (X.2.1.2.2.2.2.1.filter (stl X.2.1))))))) h') : gG 7 300 0 0 M_9_staleCoins 0 (lv_args 0 [.ref (L 0 0)]) [] h Q := by
  have hl := H.un.2.2.2.2.2.2.2.2.2.2.1.le
  refine g_iconst M_9_staleCoins (v := nI 0) d_9_staleCoins_0 (by decide) ?_
  refine g_istoren M_9_staleCoins d_9_staleCoins_1 (by decide) (by first | rfl | (simp only [gc]; simp [*])) ?_
  refine g_iconst M_9_staleCoins (v := nI 0) d_9_staleCoins_2 (by decide) ?_
  refine g_istoren M_9_staleCoins d_9_staleCoins_3 (by decide) (by first | rfl | (simp only [gc]; simp [*])) ?_
  have loop : ∀ n p h1, p + n = X.2.1.2.2.2.2.1.length → gExt h h1 (aL L) [] → mtN h1 L X → ∀ lv : List (Nat × Value), gl lv 0 = some (.ref (L 0 0)) → gl lv 1 = some (.int (nI (sumH ((X.2.1.2.2.2.2.1.take p).filter (stl X.2.1))))) → gl lv 2 = some (.int (nI p)) → gG 7 300 0 0 M_9_staleCoins 4 lv [] h1 Q := by
    intro n
    induction n with
    | zero =>
      intro p h1 hp a1 H1 lv H0l H1l H2l
      obtain ⟨sp1, ok1, m01, T1, N1, v1, W11, W21, W31, D1, E1, l11, ⟨sn1, Z1, ze1⟩, ⟨tr1, Y1⟩, ⟨b1, I1⟩, ⟨ox1, O1⟩, ⟨ya1, Wa1⟩, ⟨yp1, Wp1⟩, ⟨yo1, Wo1⟩, ⟨ps1, Ps1⟩, os1, Os1⟩ := H1.un
      rw [List.take_of_length_le (by omega)] at H1l
      refine g_iloadn M_9_staleCoins d_9_staleCoins_4 (by first | rfl | assumption) ?_
      refine g_aloadn M_9_staleCoins d_9_staleCoins_5 (by first | rfl | assumption) ?_
      refine g_get M_9_staleCoins d_9_staleCoins_6 fl_9_19 (by assumption) (by rfl) ?_
      refine g_get M_9_staleCoins d_9_staleCoins_9 fl_9_82 (by assumption) (by rfl) ?_
      refine gc_V M_9_staleCoins 0 0 [] _ d_9_staleCoins_12 cv_9_130 E1.1.1 (by rfl) (by rfl) (Nat.le_of_ble_eq_true (by rfl)) (Nat.le_of_ble_eq_true (by rfl)) (by decide) (by decide) (by decide) (by decide) (C_2_count E1.1 ?_)
      show gG _ _ _ _ _ _ _ _ _ _
      rw [hL_l.1]
      refine g_icmp_ge M_9_staleCoins (tgt := 53) d_9_staleCoins_15 (by decide) (fun _ => ?_) (fun c9 => absurd (nI_le (by omega) (by omega)) c9)
      refine g_iloadn M_9_staleCoins d_9_staleCoins_53 (by first | rfl | assumption) ?_
      exact g_iret M_9_staleCoins d_9_staleCoins_54 rfl rfl (k h1 a1 H1)
    | succ n ih =>
      intro p h1 hp a1 H1 lv H0l H1l H2l
      obtain ⟨sp1, ok1, m01, T1, N1, v1, W11, W21, W31, D1, E1, l11, ⟨sn1, Z1, ze1⟩, ⟨tr1, Y1⟩, ⟨b1, I1⟩, ⟨ox1, O1⟩, ⟨ya1, Wa1⟩, ⟨yp1, Wp1⟩, ⟨yo1, Wo1⟩, ⟨ps1, Ps1⟩, os1, Os1⟩ := H1.un
      refine g_iloadn M_9_staleCoins d_9_staleCoins_4 (by first | rfl | assumption) ?_
      refine g_aloadn M_9_staleCoins d_9_staleCoins_5 (by first | rfl | assumption) ?_
      refine g_get M_9_staleCoins d_9_staleCoins_6 fl_9_19 (by assumption) (by rfl) ?_
      refine g_get M_9_staleCoins d_9_staleCoins_9 fl_9_82 (by assumption) (by rfl) ?_
      refine gc_V M_9_staleCoins 0 0 [] _ d_9_staleCoins_12 cv_9_130 E1.1.1 (by rfl) (by rfl) (Nat.le_of_ble_eq_true (by rfl)) (Nat.le_of_ble_eq_true (by rfl)) (by decide) (by decide) (by decide) (by decide) (C_2_count E1.1 ?_)
      show gG _ _ _ _ _ _ _ _ _ _
      rw [hL_l.1]
      refine g_icmp_ge M_9_staleCoins (tgt := 53) d_9_staleCoins_15 (by decide) (fun c9 => absurd c9 (nI_ge (by omega) (by omega))) (fun _ => ?_)
      refine g_aloadn M_9_staleCoins d_9_staleCoins_18 (by first | rfl | assumption) ?_
      refine g_get M_9_staleCoins d_9_staleCoins_19 fl_9_19 (by assumption) (by rfl) ?_
      refine g_iloadn M_9_staleCoins d_9_staleCoins_22 (by first | rfl | assumption) ?_
      refine g_aloadn M_9_staleCoins d_9_staleCoins_23 (by first | rfl | assumption) ?_
      refine g_get M_9_staleCoins d_9_staleCoins_24 fl_9_50 (by assumption) (by rfl) ?_
      refine gc_V M_9_staleCoins 0 0 [_, _] _ d_9_staleCoins_27 cv_9_134 v1 (by rfl) (by rfl) (Nat.le_of_ble_eq_true (by rfl)) (Nat.le_of_ble_eq_true (by rfl)) (by decide) (by decide) (by decide) (by decide) (C_6_isStale N1 (by omega) Wp1 (neL sp1 (ok0 (by decide)) (ok0 (by decide)) (by decide)) (offW sp1 (by decide) (by decide) (by decide) (by decide)) (fun h2 w2 e2 V2 => ?_))
      have H2 := H1.w13 e2 V2
      have a2 := e2.aLw (fun y hy => aL2 (ok0 (by decide)) (ok0 (by decide)) hy)
      obtain ⟨sp2, ok2, m02, T2, N2, v2, W12, W22, W32, D2, E2, l12, ⟨sn2, Z2, ze2⟩, ⟨tr2, Y2⟩, ⟨b2, I2⟩, ⟨ox2, O2⟩, ⟨ya2, Wa2⟩, ⟨yp2, Wp2⟩, ⟨yo2, Wo2⟩, ⟨ps2, Ps2⟩, os2, Os2⟩ := H2.un
      have es : (!(decide ((hx X.2.1.2.2.2.2.1 p).1 = plS X.2.1 (X.2.1.1.getD (hx X.2.1.2.2.2.2.1 p).2.1 [])))) = stl X.2.1 (hx X.2.1.2.2.2.2.1 p) := rfl
      rw [es]
      have st := sumH_step (f := stl X.2.1) (show p < X.2.1.2.2.2.2.1.length by omega)
      show gG _ _ _ _ _ _ _ _ _ _
      cases q : stl X.2.1 (hx X.2.1.2.2.2.2.1 p) with
      | false =>
        rw [q, if_neg (by decide), Nat.add_zero] at st
        refine g_if_eq M_9_staleCoins (tgt := 47) d_9_staleCoins_30 (by decide) (fun _ => ?_) (fun c9 => absurd rfl c9)
        refine g_iinc M_9_staleCoins (v := nI (p + 1)) d_9_staleCoins_47 H2l (by decide) (by first | rfl | (simp only [gc]; simp [*])) (nI_add p 1) ?_
        refine g_goto M_9_staleCoins (tgt := 4) d_9_staleCoins_50 (by decide) ?_
        exact ih (p + 1) h2 (by omega) (a1.t a2) H2 _ H0l (by rw [st]; exact H1l) rfl
      | true =>
        rw [q, if_pos rfl] at st
        refine g_if_eq M_9_staleCoins (tgt := 47) d_9_staleCoins_30 (by decide) (fun c9 => absurd c9 (by decide)) (fun _ => ?_)
        refine g_iloadn M_9_staleCoins d_9_staleCoins_33 (by first | rfl | assumption) ?_
        refine g_aloadn M_9_staleCoins d_9_staleCoins_34 (by first | rfl | assumption) ?_
        refine g_get M_9_staleCoins d_9_staleCoins_35 fl_9_19 (by assumption) (by rfl) ?_
        refine g_get M_9_staleCoins d_9_staleCoins_38 fl_9_82 (by assumption) (by rfl) ?_
        refine g_iloadn M_9_staleCoins d_9_staleCoins_41 (by first | rfl | assumption) ?_
        refine gc_V M_9_staleCoins 0 0 [_] _ d_9_staleCoins_42 cv_9_138 E2.1.1 (by rfl) (by rfl) (Nat.le_of_ble_eq_true (by rfl)) (Nat.le_of_ble_eq_true (by rfl)) (by decide) (by decide) (by decide) (by decide) (C_2_coinsIn E2 (by omega) ?_)
        show gG _ _ _ _ _ _ _ _ _ _
        refine g_iadd M_9_staleCoins d_9_staleCoins_45 ?_
        rw [nI_add]
        refine g_istoren M_9_staleCoins d_9_staleCoins_46 (by decide) (by first | rfl | (simp only [gc]; simp [*])) ?_
        refine g_iinc M_9_staleCoins (v := nI (p + 1)) d_9_staleCoins_47 H2l (by decide) (by first | rfl | (simp only [gc]; simp [*])) (nI_add p 1) ?_
        refine g_goto M_9_staleCoins (tgt := 4) d_9_staleCoins_50 (by decide) ?_
        exact ih (p + 1) h2 (by omega) (a1.t a2) H2 _ H0l (by rw [st]; rfl) rfl
  exact loop X.2.1.2.2.2.2.1.length 0 h (by omega) gExt.r H _ rfl rfl rfl
set_option maxHeartbeats 4000000 in
set_option maxRecDepth 100000 in
theorem C_9_coinsByHeaps {L : Nat → Nat → Nat} {X : Mt_} {h : Hp_} {Q : Ot_ → Hp_ → Prop} (H : mtN h L X) (k : Q (.inl (some (.int (nI (sumH X.2.1.2.2.2.2.1))))) h) : gG 7 300 0 0 M_9_coinsByHeaps 0 (lv_args 0 [.ref (L 0 0)]) [] h Q := by
  obtain ⟨sp, ok, m0, T, N, v, W1, W2, W3, D, E, l1, ⟨sn, Z, ze⟩, ⟨tr, Y⟩, ⟨b, I⟩, ⟨ox, O⟩, ⟨ya, Wa⟩, ⟨yp, Wp⟩, ⟨yo, Wo⟩, ⟨ps, Ps⟩, os, Os⟩ := H.un
  have hl := E.le
  refine g_iconst M_9_coinsByHeaps (v := nI 0) d_9_coinsByHeaps_0 (by decide) ?_
  refine g_istoren M_9_coinsByHeaps d_9_coinsByHeaps_1 (by decide) (by first | rfl | (simp only [gc]; simp [*])) ?_
  refine g_iconst M_9_coinsByHeaps (v := nI 0) d_9_coinsByHeaps_2 (by decide) ?_
  refine g_istoren M_9_coinsByHeaps d_9_coinsByHeaps_3 (by decide) (by first | rfl | (simp only [gc]; simp [*])) ?_
  have loop : ∀ n p, p + n = X.2.1.2.2.2.2.1.length → ∀ lv : List (Nat × Value), gl lv 0 = some (.ref (L 0 0)) → gl lv 1 = some (.int (nI (sumH (X.2.1.2.2.2.2.1.take p)))) → gl lv 2 = some (.int (nI p)) → gG 7 300 0 0 M_9_coinsByHeaps 4 lv [] h Q := by
    intro n
    induction n with
    | zero =>
      intro p hp lv H0l H1l H2l
      rw [List.take_of_length_le (by omega)] at H1l
      refine g_iloadn M_9_coinsByHeaps d_9_coinsByHeaps_4 (by first | rfl | assumption) ?_
      refine g_aloadn M_9_coinsByHeaps d_9_coinsByHeaps_5 (by first | rfl | assumption) ?_
      refine g_get M_9_coinsByHeaps d_9_coinsByHeaps_6 fl_9_19 (by assumption) (by rfl) ?_
      refine g_get M_9_coinsByHeaps d_9_coinsByHeaps_9 fl_9_82 (by assumption) (by rfl) ?_
      refine gc_V M_9_coinsByHeaps 0 0 [] _ d_9_coinsByHeaps_12 cv_9_130 E.1.1 (by rfl) (by rfl) (Nat.le_of_ble_eq_true (by rfl)) (Nat.le_of_ble_eq_true (by rfl)) (by decide) (by decide) (by decide) (by decide) (C_2_count E.1 ?_)
      show gG _ _ _ _ _ _ _ _ _ _
      rw [hL_l.1]
      refine g_icmp_ge M_9_coinsByHeaps (tgt := 38) d_9_coinsByHeaps_15 (by decide) (fun _ => ?_) (fun c9 => absurd (nI_le (by omega) (by omega)) c9)
      refine g_iloadn M_9_coinsByHeaps d_9_coinsByHeaps_38 (by first | rfl | assumption) ?_
      exact g_iret M_9_coinsByHeaps d_9_coinsByHeaps_39 rfl rfl (k)
    | succ n ih =>
      intro p hp lv H0l H1l H2l
      refine g_iloadn M_9_coinsByHeaps d_9_coinsByHeaps_4 (by first | rfl | assumption) ?_
      refine g_aloadn M_9_coinsByHeaps d_9_coinsByHeaps_5 (by first | rfl | assumption) ?_
      refine g_get M_9_coinsByHeaps d_9_coinsByHeaps_6 fl_9_19 (by assumption) (by rfl) ?_
      refine g_get M_9_coinsByHeaps d_9_coinsByHeaps_9 fl_9_82 (by assumption) (by rfl) ?_
      refine gc_V M_9_coinsByHeaps 0 0 [] _ d_9_coinsByHeaps_12 cv_9_130 E.1.1 (by rfl) (by rfl) (Nat.le_of_ble_eq_true (by rfl)) (Nat.le_of_ble_eq_true (by rfl)) (by decide) (by decide) (by decide) (by decide) (C_2_count E.1 ?_)
      show gG _ _ _ _ _ _ _ _ _ _
      rw [hL_l.1]
      refine g_icmp_ge M_9_coinsByHeaps (tgt := 38) d_9_coinsByHeaps_15 (by decide) (fun c9 => absurd c9 (nI_ge (by omega) (by omega))) (fun _ => ?_)
      refine g_iloadn M_9_coinsByHeaps d_9_coinsByHeaps_18 (by first | rfl | assumption) ?_
      refine g_aloadn M_9_coinsByHeaps d_9_coinsByHeaps_19 (by first | rfl | assumption) ?_
      refine g_get M_9_coinsByHeaps d_9_coinsByHeaps_20 fl_9_19 (by assumption) (by rfl) ?_
      refine g_get M_9_coinsByHeaps d_9_coinsByHeaps_23 fl_9_82 (by assumption) (by rfl) ?_
      refine g_iloadn M_9_coinsByHeaps d_9_coinsByHeaps_26 (by first | rfl | assumption) ?_
      refine gc_V M_9_coinsByHeaps 0 0 [_] _ d_9_coinsByHeaps_27 cv_9_138 E.1.1 (by rfl) (by rfl) (Nat.le_of_ble_eq_true (by rfl)) (Nat.le_of_ble_eq_true (by rfl)) (by decide) (by decide) (by decide) (by decide) (C_2_coinsIn E (by omega) ?_)
      show gG _ _ _ _ _ _ _ _ _ _
      have st := sumH_step0 (show p < X.2.1.2.2.2.2.1.length by omega)
      refine g_iadd M_9_coinsByHeaps d_9_coinsByHeaps_30 ?_
      rw [nI_add]
      refine g_istoren M_9_coinsByHeaps d_9_coinsByHeaps_31 (by decide) (by first | rfl | (simp only [gc]; simp [*])) ?_
      refine g_iinc M_9_coinsByHeaps (v := nI (p + 1)) d_9_coinsByHeaps_32 H2l (by decide) (by first | rfl | (simp only [gc]; simp [*])) (nI_add p 1) ?_
      refine g_goto M_9_coinsByHeaps (tgt := 4) d_9_coinsByHeaps_35 (by decide) ?_
      exact ih (p + 1) (by omega) _ H0l (by rw [st]; rfl) rfl
  exact loop X.2.1.2.2.2.2.1.length 0 (by omega) _ rfl rfl rfl
set_option maxHeartbeats 4000000 in
set_option maxRecDepth 100000 in
theorem C_9_meltStale {L : Nat → Nat → Nat} {X : Mt_} {h : Hp_} {Q : Ot_ → Hp_ → Prop} (H : mtN h L X) (k : ∀ h', gExt h h' (aL L) [] → mtN h' L (X.1, mzS X.2.1, X.2.2.1, recN X.2.2.2 X.2.1) → Q (.inl (some (.int (nI (sumH (X.2.1.2.2.2.2.1.filter (stl X.2.1))))))) h') : gG 7 300 0 0 M_9_meltStale 0 (lv_args 0 [.ref (L 0 0)]) [] h Q := by
  obtain ⟨sp, ok, m0, T, N, v, W1, W2, W3, D, E, l1, ⟨sn, Z, ze⟩, ⟨tr, Y⟩, ⟨b, I⟩, ⟨ox, O⟩, ⟨ya, Wa⟩, ⟨yp, Wp⟩, ⟨yo, Wo⟩, ⟨ps, Ps⟩, os, Os⟩ := H.un
  have hl := E.le
  refine g_aloadn M_9_meltStale d_9_meltStale_0 (by first | rfl | assumption) ?_
  refine g_get M_9_meltStale d_9_meltStale_1 fl_9_29 (by assumption) (by rfl) ?_
  refine g_aloadn M_9_meltStale d_9_meltStale_4 (by first | rfl | assumption) ?_
  refine g_get M_9_meltStale d_9_meltStale_5 fl_9_19 (by assumption) (by rfl) ?_
  refine gc_V M_9_meltStale 0 0 [_] _ d_9_meltStale_8 cv_9_103 I.2.1 (by rfl) (by rfl) (Nat.le_of_ble_eq_true (by rfl)) (Nat.le_of_ble_eq_true (by rfl)) (by decide) (by decide) (by decide) (by decide) (C_9_rec H (fun h0 S09 e0 s09 a0 H0 => ?_))
  show gG _ _ _ _ _ _ _ _ _ _
  refine g_iconst M_9_meltStale (v := nI 0) d_9_meltStale_11 (by decide) ?_
  refine g_istoren M_9_meltStale d_9_meltStale_12 (by decide) (by first | rfl | (simp only [gc]; simp [*])) ?_
  refine g_iconst M_9_meltStale (v := nI 0) d_9_meltStale_13 (by decide) ?_
  refine g_istoren M_9_meltStale d_9_meltStale_14 (by decide) (by first | rfl | (simp only [gc]; simp [*])) ?_
  have loop : ∀ n p h1, p + n = X.2.1.2.2.2.2.1.length → gExt h h1 (aL L) [] → mtN h1 L (X.1, xmz X.2.1 p, X.2.2.1, recN X.2.2.2 X.2.1) → ∀ lv : List (Nat × Value), gl lv 0 = some (.ref (L 0 0)) → gl lv 1 = some (.int (nI (sumH ((X.2.1.2.2.2.2.1.take p).filter (stl X.2.1))))) → gl lv 2 = some (.int (nI p)) → gG 7 300 0 0 M_9_meltStale 15 lv [] h1 Q := by
    intro n
    induction n with
    | zero =>
      intro p h1 hp a1 H1 lv H0l H1l H2l
      obtain ⟨sp1, ok1, m01, T1, N1, v1, W11, W21, W31, D1, E1, l11, ⟨sn1, Z1, ze1⟩, ⟨tr1, Y1⟩, ⟨b1, I1⟩, ⟨ox1, O1⟩, ⟨ya1, Wa1⟩, ⟨yp1, Wp1⟩, ⟨yo1, Wo1⟩, ⟨ps1, Ps1⟩, os1, Os1⟩ := H1.un
      dsimp only [xmz] at ok1 T1 N1 v1 W11 W21 W31 D1 E1 l11 I1
      rw [List.take_of_length_le (by omega)] at H1l
      refine g_iloadn M_9_meltStale d_9_meltStale_15 (by first | rfl | assumption) ?_
      refine g_aloadn M_9_meltStale d_9_meltStale_16 (by first | rfl | assumption) ?_
      refine g_get M_9_meltStale d_9_meltStale_17 fl_9_19 (by assumption) (by rfl) ?_
      refine g_get M_9_meltStale d_9_meltStale_20 fl_9_82 (by assumption) (by rfl) ?_
      refine gc_V M_9_meltStale 0 0 [] _ d_9_meltStale_23 cv_9_130 E1.1.1 (by rfl) (by rfl) (Nat.le_of_ble_eq_true (by rfl)) (Nat.le_of_ble_eq_true (by rfl)) (by decide) (by decide) (by decide) (by decide) (C_2_count E1.1 ?_)
      show gG _ _ _ _ _ _ _ _ _ _
      rw [hL_l.1, mzP_len]
      refine g_icmp_ge M_9_meltStale (tgt := 75) d_9_meltStale_26 (by decide) (fun _ => ?_) (fun c9 => absurd (nI_le (by omega) (by omega)) c9)
      refine g_aloadn M_9_meltStale d_9_meltStale_75 (by first | rfl | assumption) ?_
      refine g_get M_9_meltStale d_9_meltStale_76 fl_9_19 (by assumption) (by rfl) ?_
      refine g_get M_9_meltStale d_9_meltStale_79 fl_9_82 (by assumption) (by rfl) ?_
      refine gc_V M_9_meltStale 0 0 [] _ d_9_meltStale_82 cv_9_144 E1.1.1 (by rfl) (by rfl) (Nat.le_of_ble_eq_true (by rfl)) (Nat.le_of_ble_eq_true (by rfl)) (by decide) (by decide) (by decide) (by decide) (C_2_removeEmpty (sepR.sub (sp1.r (by decide) (by decide)) (by decide)) E1 (fun h3 e3 V3 => ?_))
      have H3 := H1.now (e3.weak (map_sub (by decide))) (stR.he (sp1.r (by decide) (by decide)) N1.1 e3 V3) ⟨V3.2, ok1.2⟩
      have a3 := (e3.weak (map_sub (by decide))).aLb (L := L) (by decide) (by decide)
      obtain ⟨sp3, ok3, m03, T3, N3, v3, W13, W23, W33, D3, E3, l13, ⟨sn3, Z3, ze3⟩, ⟨tr3, Y3⟩, ⟨b3, I3⟩, ⟨ox3, O3⟩, ⟨ya3, Wa3⟩, ⟨yp3, Wp3⟩, ⟨yo3, Wo3⟩, ⟨ps3, Ps3⟩, os3, Os3⟩ := H3.un
      try dsimp only at ok3 T3 N3 v3 W13 W23 W33 D3 E3 l13 ze3 I3
      show gG _ _ _ _ _ _ _ _ _ _
      refine g_aloadn M_9_meltStale d_9_meltStale_85 (by first | rfl | assumption) ?_
      refine g_get M_9_meltStale d_9_meltStale_86 fl_9_19 (by assumption) (by rfl) ?_
      refine g_dup M_9_meltStale d_9_meltStale_89 (by rfl) ?_
      refine g_get M_9_meltStale d_9_meltStale_90 fl_9_127 (by assumption) (by rfl) ?_
      refine g_iloadn M_9_meltStale d_9_meltStale_93 (by first | rfl | assumption) ?_
      refine g_iadd M_9_meltStale d_9_meltStale_94 ?_
      refine e_put M_9_meltStale d_9_meltStale_95 pt_9_127 v3 (by rfl) (by rfl) (fun h4 v4 e4 => ?_)
      rw [nI_add] at v4
      have S4 := stR.sm (sp1.r (by decide) (by decide)) N3.1 e4 v4
      have H4 := H3.now (e4.weak (one_sub (by decide))) S4 ok3
      have a4 := e4.aL1 (L := L) (okB (by decide) (by decide) (by decide))
      have em : mzP X.2.1 p = X.2.1.2.2.2.2.1.map (stZ X.2.1) := by unfold mzP; rw [List.take_of_length_le (by omega), List.drop_of_length_le (by omega), List.append_nil]
      have kk := k h4 ((a1.t a3).t a4) (by
        have H4' := H4
        dsimp only [xmz] at H4'
        rw [em] at H4'
        exact H4')
      refine g_iloadn M_9_meltStale d_9_meltStale_98 (by first | rfl | assumption) ?_
      exact g_iret M_9_meltStale d_9_meltStale_99 rfl rfl (kk)
    | succ n ih =>
      intro p h1 hp a1 H1 lv H0l H1l H2l
      obtain ⟨sp1, ok1, m01, T1, N1, v1, W11, W21, W31, D1, E1, l11, ⟨sn1, Z1, ze1⟩, ⟨tr1, Y1⟩, ⟨b1, I1⟩, ⟨ox1, O1⟩, ⟨ya1, Wa1⟩, ⟨yp1, Wp1⟩, ⟨yo1, Wo1⟩, ⟨ps1, Ps1⟩, os1, Os1⟩ := H1.un
      dsimp only [xmz] at ok1 T1 N1 v1 W11 W21 W31 D1 E1 l11 I1
      refine g_iloadn M_9_meltStale d_9_meltStale_15 (by first | rfl | assumption) ?_
      refine g_aloadn M_9_meltStale d_9_meltStale_16 (by first | rfl | assumption) ?_
      refine g_get M_9_meltStale d_9_meltStale_17 fl_9_19 (by assumption) (by rfl) ?_
      refine g_get M_9_meltStale d_9_meltStale_20 fl_9_82 (by assumption) (by rfl) ?_
      refine gc_V M_9_meltStale 0 0 [] _ d_9_meltStale_23 cv_9_130 E1.1.1 (by rfl) (by rfl) (Nat.le_of_ble_eq_true (by rfl)) (Nat.le_of_ble_eq_true (by rfl)) (by decide) (by decide) (by decide) (by decide) (C_2_count E1.1 ?_)
      show gG _ _ _ _ _ _ _ _ _ _
      rw [hL_l.1, mzP_len]
      refine g_icmp_ge M_9_meltStale (tgt := 75) d_9_meltStale_26 (by decide) (fun c9 => absurd c9 (nI_ge (by omega) (by omega))) (fun _ => ?_)
      have N19 : stN h1 (L 1) (xmz X.2.1 p) := N1
      refine g_aloadn M_9_meltStale d_9_meltStale_29 (by first | rfl | assumption) ?_
      refine g_get M_9_meltStale d_9_meltStale_30 fl_9_19 (by assumption) (by rfl) ?_
      refine g_iloadn M_9_meltStale d_9_meltStale_33 (by first | rfl | assumption) ?_
      refine g_aloadn M_9_meltStale d_9_meltStale_34 (by first | rfl | assumption) ?_
      refine g_get M_9_meltStale d_9_meltStale_35 fl_9_50 (by assumption) (by rfl) ?_
      refine gc_V M_9_meltStale 0 0 [_, _] _ d_9_meltStale_38 cv_9_134 v1 (by rfl) (by rfl) (Nat.le_of_ble_eq_true (by rfl)) (Nat.le_of_ble_eq_true (by rfl)) (by decide) (by decide) (by decide) (by decide) (C_6_isStale N19 (by show p < (mzP X.2.1 p).length; rw [mzP_len]; omega) Wp1 (neL sp1 (ok0 (by decide)) (ok0 (by decide)) (by decide)) (offW sp1 (by decide) (by decide) (by decide) (by decide)) (fun h2 w2 e2 V2 => ?_))
      have H2 := H1.w13 e2 V2
      have a2 := e2.aLw (L := L) (fun y hy => aL2 (ok0 (by decide)) (ok0 (by decide)) hy)
      obtain ⟨sp2, ok2, m02, T2, N2, v2, W12, W22, W32, D2, E2, l12, ⟨sn2, Z2, ze2⟩, ⟨tr2, Y2⟩, ⟨b2, I2⟩, ⟨ox2, O2⟩, ⟨ya2, Wa2⟩, ⟨yp2, Wp2⟩, ⟨yo2, Wo2⟩, ⟨ps2, Ps2⟩, os2, Os2⟩ := H2.un
      dsimp only [xmz] at ok2 T2 N2 v2 W12 W22 W32 D2 E2 l12 I2
      have es : (!(decide ((hx (xmz X.2.1 p).2.2.2.2.1 p).1 = plS (xmz X.2.1 p) ((xmz X.2.1 p).1.getD (hx (xmz X.2.1 p).2.2.2.2.1 p).2.1 [])))) = stl X.2.1 (hx X.2.1.2.2.2.2.1 p) := by
        show stl X.2.1 (hx (mzP X.2.1 p) p) = _
        rw [mzP_at (by omega)]
      rw [es]
      have st := sumH_step (f := stl X.2.1) (show p < X.2.1.2.2.2.2.1.length by omega)
      show gG _ _ _ _ _ _ _ _ _ _
      cases q : stl X.2.1 (hx X.2.1.2.2.2.2.1 p) with
      | false =>
        rw [q, if_neg (by decide), Nat.add_zero] at st
        refine g_if_eq M_9_meltStale (tgt := 69) d_9_meltStale_41 (by decide) (fun _ => ?_) (fun c9 => absurd rfl c9)
        refine g_iinc M_9_meltStale (v := nI (p + 1)) d_9_meltStale_69 H2l (by decide) (by first | rfl | (simp only [gc]; simp [*])) (nI_add p 1) ?_
        refine g_goto M_9_meltStale (tgt := 15) d_9_meltStale_72 (by decide) ?_
        refine ih (p + 1) h2 (by omega) (a1.t a2) ?_ _ H0l (by rw [st]; exact H1l) rfl
        have H2' := H2
        unfold xmz at H2' ⊢
        rw [← mzP_fresh (by omega) (by rw [q]; decide)]
        exact H2'
      | true =>
        rw [q, if_pos rfl] at st
        refine g_if_eq M_9_meltStale (tgt := 69) d_9_meltStale_41 (by decide) (fun c9 => absurd c9 (by decide)) (fun _ => ?_)
        refine g_iloadn M_9_meltStale d_9_meltStale_44 (by first | rfl | assumption) ?_
        refine g_aloadn M_9_meltStale d_9_meltStale_45 (by first | rfl | assumption) ?_
        refine g_get M_9_meltStale d_9_meltStale_46 fl_9_19 (by assumption) (by rfl) ?_
        refine g_get M_9_meltStale d_9_meltStale_49 fl_9_82 (by assumption) (by rfl) ?_
        refine g_iloadn M_9_meltStale d_9_meltStale_52 (by first | rfl | assumption) ?_
        refine gc_V M_9_meltStale 0 0 [_] _ d_9_meltStale_53 cv_9_138 E2.1.1 (by rfl) (by rfl) (Nat.le_of_ble_eq_true (by rfl)) (Nat.le_of_ble_eq_true (by rfl)) (by decide) (by decide) (by decide) (by decide) (C_2_coinsIn E2 (by rw [mzP_len]; omega) ?_)
        show gG _ _ _ _ _ _ _ _ _ _
        rw [mzP_at (by omega)]
        refine g_iadd M_9_meltStale d_9_meltStale_56 ?_
        rw [nI_add]
        refine g_istoren M_9_meltStale d_9_meltStale_57 (by decide) (by first | rfl | (simp only [gc]; simp [*])) ?_
        refine g_aloadn M_9_meltStale d_9_meltStale_58 (by first | rfl | assumption) ?_
        refine g_get M_9_meltStale d_9_meltStale_59 fl_9_19 (by assumption) (by rfl) ?_
        refine g_get M_9_meltStale d_9_meltStale_62 fl_9_82 (by assumption) (by rfl) ?_
        refine g_iloadn M_9_meltStale d_9_meltStale_65 (by first | rfl | assumption) ?_
        refine gc_V M_9_meltStale 0 0 [_] _ d_9_meltStale_66 cv_9_141 E2.1.1 (by rfl) (by rfl) (Nat.le_of_ble_eq_true (by rfl)) (Nat.le_of_ble_eq_true (by rfl)) (by decide) (by decide) (by decide) (by decide) (C_2_empty (sepR.sub (sp2.r (by decide) (by decide)) (by decide)) E2 (by rw [mzP_len]; omega) (by decide) rfl (fun h3 e3 V3 => ?_))
        rw [mzP_stale (by omega) q] at V3
        replace e3 : gExt h2 h3 ((List.range 6).map (fun k => L 1 (18 + k))) [] := e3.weak (fun y hy => by rw [List.mem_singleton.mp hy]; exact List.mem_map.mpr ⟨5, by decide, rfl⟩)
        have H3 := H2.now (e3.weak (map_sub (by decide))) (stR.he (sp2.r (by decide) (by decide)) N2.1 e3 V3) ⟨V3.2, ok2.2⟩
        have a3 := (e3.weak (map_sub (by decide))).aLb (L := L) (by decide) (by decide)
        show gG _ _ _ _ _ _ _ _ _ _
        refine g_iinc M_9_meltStale (v := nI (p + 1)) d_9_meltStale_69 H2l (by decide) (by first | rfl | (simp only [gc]; simp [*])) (nI_add p 1) ?_
        refine g_goto M_9_meltStale (tgt := 15) d_9_meltStale_72 (by decide) ?_
        exact ih (p + 1) h3 (by omega) ((a1.t a2).t a3) H3 _ H0l (by rw [st]; rfl) rfl
  exact loop X.2.1.2.2.2.2.1.length 0 h0 (by omega) a0 H0 _ rfl rfl rfl
