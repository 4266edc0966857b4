/-! ===== actions: what they make of a state ===== -/
def recN (rc : List Sn_) (x : Sn_) : List Sn_ := (if rc.length = 4 then rc.drop 1 else rc) ++ [x]
theorem recN_map {rc : List Sn_} {x : Sn_} : recd (rc.map sL) (sL x) = (recN rc x).map sL := by
  unfold recd recN
  rw [List.length_map]
  split <;> simp
theorem recN_ok {rc : List Sn_} {x : Sn_} (h : ∀ z ∈ rc, okN z) (hx : okN x) : ∀ z ∈ recN rc x, okN z := by
  intro z hz
  unfold recN at hz
  rcases List.mem_append.mp hz with q | q
  · split at q
    · exact h z (List.mem_of_mem_drop q)
    · exact h z q
  · rw [List.mem_singleton.mp q]; exact hx
theorem sepR.sub {r : Nat → Nat} (s : sepR r 24) {n m : Nat} (h : n + m ≤ 24) : sepR (fun k => r (n + k)) m := fun i j hi hj e => by have := s _ _ (by omega) (by omega) e; omega
theorem offS {r : Nat → Nat} (s : sepR r 24) {n m : Nat} (h : n + m ≤ 24) {i : Nat} (hi : i < 24) (n9 : ¬ (n ≤ i ∧ i < n + m)) : r i ∉ (List.range m).map (fun k => r (n + k)) := notin_map (fun k hk e => by have := s _ _ hi (by omega) e; omega)
theorem stR.he {h h' : Hp_} {r : Nat → Nat} {x : Sn_} {v : Hn_} (s : sepR r 24) (S : stR h r (sL x)) (e : gExt h h' ((List.range 6).map (fun k => r (18 + k))) []) (V : heN h' (fun k => r (18 + k)) v) : stR h' r (sL (x.1, x.2.1, x.2.2.1, x.2.2.2.1, v, x.2.2.2.2.2)) := by
  obtain ⟨h1, h2, h3, h4, h5, h6, h7⟩ := S
  have o : ∀ i, i < 18 → r i ∉ (List.range 6).map (fun k => r (18 + k)) := fun i hi => offS s (by decide) (by omega) (by omega)
  exact ⟨e.keep h1 (o _ (by decide)), h2.keep e (o _ (by decide)) (o _ (by decide)) (o _ (by decide)), h3.keep e (o _ (by decide)) (o _ (by decide)) (o _ (by decide)), h4.keep e (o _ (by decide)) (o _ (by decide)) (o _ (by decide)), h5.keep e (fun k hk => o _ (by omega)), V.1, h7⟩
theorem stR.di {h h' : Hp_} {r : Nat → Nat} {x : Sn_} {v : Dl_} (s : sepR r 24) (S : stR h r (sL x)) (e : gExt h h' ((List.range 8).map (fun k => r (10 + k))) []) (V : diR h' (fun k => r (10 + k)) v) : stR h' r (sL (x.1, x.2.1, x.2.2.1, v, x.2.2.2.2)) := by
  obtain ⟨h1, h2, h3, h4, h5, h6, h7⟩ := S
  have o : ∀ i, i < 24 → ¬ (10 ≤ i ∧ i < 10 + 8) → r i ∉ (List.range 8).map (fun k => r (10 + k)) := fun i hi n => offS s (by decide) hi n
  exact ⟨e.keep h1 (o _ (by decide) (by decide)), h2.keep e (o _ (by decide) (by decide)) (o _ (by decide) (by decide)) (o _ (by decide) (by decide)), h3.keep e (o _ (by decide) (by decide)) (o _ (by decide) (by decide)) (o _ (by decide) (by decide)), h4.keep e (o _ (by decide) (by decide)) (o _ (by decide) (by decide)) (o _ (by decide) (by decide)), V, h6.keep e (fun k hk => o _ (by omega) (by omega)), h7⟩
theorem stR.sm {h h' : Hp_} {r : Nat → Nat} {x : Sn_} {a b : Nat} (s : sepR r 24) (S : stR h r (sL x)) (e : gExt h h' [r 0] []) (V : h' (r 0) = some (.inr (6, [.ref (r 1), .ref (r 4), .ref (r 7), .ref (r 10), .ref (r 18), .int (nI a), .int (nI b)]))) : stR h' r (sL (x.1, x.2.1, x.2.2.1, x.2.2.2.1, x.2.2.2.2.1, a, b)) := by
  obtain ⟨h1, h2, h3, h4, h5, h6, h7⟩ := S
  have o : ∀ i, i < 24 → i ≠ 0 → r i ∉ [r 0] := fun i hi n q => n (s _ _ hi (by decide) (List.mem_singleton.mp q))
  exact ⟨V, h2.keep e (o _ (by decide) (by decide)) (o _ (by decide) (by decide)) (o _ (by decide) (by decide)), h3.keep e (o _ (by decide) (by decide)) (o _ (by decide) (by decide)) (o _ (by decide) (by decide)), h4.keep e (o _ (by decide) (by decide)) (o _ (by decide) (by decide)) (o _ (by decide) (by decide)), h5.keep e (fun k hk => o _ (by omega) (by omega)), h6.keep e (fun k hk => o _ (by omega) (by omega)), h7⟩
theorem stR.ir {h h1 h2 : Hp_} {r : Nat → Nat} {x : Sn_} {v w : List (List Nat)} (s : sepR r 24) (S : stR h r (sL x)) (e1 : gExt h h1 [r 4, r 5, r 6] []) (V : wsR h1 (r 4) (r 5) (r 6) 10 12 v) (e2 : gExt h1 h2 [r 7, r 8, r 9] []) (U : wsR h2 (r 7) (r 8) (r 9) 10 12 w) (hl : w.length = v.length) : stR h2 r (sL (x.1, v, w, x.2.2.2)) := by
  obtain ⟨k1, k2, k3, k4, k5, k6, k7⟩ := S
  have o1 : ∀ i, i < 24 → ¬ (i = 4 ∨ i = 5 ∨ i = 6) → r i ∉ [r 4, r 5, r 6] := fun i hi n q => by
    simp only [List.mem_cons, List.not_mem_nil, or_false] at q
    rcases q with q | q | q <;> (have := s _ _ hi (by decide) q; omega)
  have o2 : ∀ i, i < 24 → ¬ (i = 7 ∨ i = 8 ∨ i = 9) → r i ∉ [r 7, r 8, r 9] := fun i hi n q => by
    simp only [List.mem_cons, List.not_mem_nil, or_false] at q
    rcases q with q | q | q <;> (have := s _ _ hi (by decide) q; omega)
  refine ⟨e2.keep (e1.keep k1 (o1 _ (by decide) (by decide))) (o2 _ (by decide) (by decide)), (k2.keep e1 (o1 _ (by decide) (by decide)) (o1 _ (by decide) (by decide)) (o1 _ (by decide) (by decide))).keep e2 (o2 _ (by decide) (by decide)) (o2 _ (by decide) (by decide)) (o2 _ (by decide) (by decide)), V.keep e2 (o2 _ (by decide) (by decide)) (o2 _ (by decide) (by decide)) (o2 _ (by decide) (by decide)), U, (k5.keep e1 (fun k hk => o1 _ (by omega) (by omega))).keep e2 (fun k hk => o2 _ (by omega) (by omega)), (k6.keep e1 (fun k hk => o1 _ (by omega) (by omega))).keep e2 (fun k hk => o2 _ (by omega) (by omega)), hl⟩
theorem map_sub {L : Nat → Nat → Nat} {i n m : Nat} (h : n + m ≤ 24) : ∀ y ∈ (List.range m).map (fun k => L i (n + k)), y ∈ (List.range 24).map (L i) := fun y hy => by
  obtain ⟨k, hk, rfl⟩ := List.mem_map.mp hy
  exact List.mem_map.mpr ⟨n + k, List.mem_range.mpr (by have := List.mem_range.mp hk; omega), rfl⟩
theorem one_sub {L : Nat → Nat → Nat} {i n : Nat} (h : n < 24) : ∀ y ∈ [L i n], y ∈ (List.range 24).map (L i) := fun y hy => by
  rw [List.mem_singleton.mp hy]
  exact List.mem_map.mpr ⟨n, List.mem_range.mpr h, rfl⟩
theorem hisS.aL {L : Nat → Nat → Nat} {S : List Nat} (hS : hisS L S) : ∀ y ∈ S, ∃ i j, okL i j ∧ y = L i j := fun y hy => by
  obtain ⟨i, j, p, q⟩ := hS y hy
  rcases p with ⟨rfl, p | p⟩ | ⟨p1, p2, p3⟩
  · exact ⟨0, j, ok0 (by omega), q⟩
  · exact ⟨0, j, ok0 (by omega), q⟩
  · exact ⟨i, j, okB (by omega) p2 p3, q⟩
/-- the state is recorded -/
theorem hisS.off {L : Nat → Nat → Nat} {S : List Nat} (hS : hisS L S) (s : sepL L) {j : Nat} (hj : j < 23) (h4 : j ≠ 4) (h5 : j ≠ 5) : L 0 j ∉ S := fun hy => by
  obtain ⟨i', j', p, q⟩ := hS _ hy
  rcases p with ⟨rfl, p⟩ | ⟨p1, p2, p3⟩
  · have := s _ _ _ _ (ok0 hj) (ok0 (by omega)) q; omega
  · have := s _ _ _ _ (ok0 hj) (okB (by omega) p2 p3) q; omega
theorem C_9_rec {L : Nat → Nat → Nat} {X : Mt_} {h : Hp_} {Q : Ot_ → Hp_ → Prop} (H : mtN h L X) (k : ∀ h' S, gExt h h' S [] → hisS L S → gExt h h' (aL L) [] → mtN h' L (X.1, X.2.1, X.2.2.1, recN X.2.2.2 X.2.1) → Q (.inl none) h') : gG 5 220 0 0 M_3_record 0 (lv_args 0 [.ref (L 0 4), .ref (L 1 0)]) [] h Q := by
  obtain ⟨s, b, M, ok1, ok2, ok3⟩ := id H
  refine C_3_record s M.2.2.2.2.2.1 M.2.2.1 (fun h' b' S e hs R => ?_)
  rw [recN_map] at R
  exact k h' S e hs (e.aLw hs.aL) (H.hist e hs R (recN_ok ok3 ok1))
def hpF (x : Sn_) (n : Nat) : Option Nat := fst (fun i => decide ((hx x.2.2.2.2.1 i).2.1 = n ∧ (hx x.2.2.2.2.1 i).1 = plN x n)) x.2.2.2.2.1.length
def stkS (x : Sn_) (n m : Nat) : Option Sn_ := match hpF x n with
  | some i => some (x.1, x.2.1, x.2.2.1, x.2.2.2.1, hset x.2.2.2.2.1 i ((hx x.2.2.2.2.1 i).2.2 + m), x.2.2.2.2.2.1 + m, x.2.2.2.2.2.2)
  | none => if x.2.2.2.2.1.length < 30 then some (x.1, x.2.1, x.2.2.1, x.2.2.2.1, x.2.2.2.2.1 ++ [(plN x n, n, m)], x.2.2.2.2.2.1 + m, x.2.2.2.2.2.2) else none
set_option maxHeartbeats 4000000 in
set_option maxRecDepth 100000 in
theorem C_9_strikeV {L : Nat → Nat → Nat} {X : Mt_} {h : Hp_} {Q : Ot_ → Hp_ → Prop} {n m : Nat} (H : mtN h L X) (hn : n < X.2.1.1.length) (hm : 1 ≤ m ∧ m ≤ 99) (hb : ∀ y ∈ X.2.1.2.2.2.2.1, y.2.2 + 99 < 2 ^ 30) (kx : stkS X.2.1 n m = none → ∀ h', gExt h h' (aL L) [] → mtN h' L X → Q (.inr ISE_) h') (kk : ∀ x', stkS X.2.1 n m = some x' → ∀ h', gExt h h' (aL L) [] → mtN h' L (X.1, x', X.2.2.1, recN X.2.2.2 X.2.1) → Q (.inl (some (.int (nI (cW n x'.2.2.2.2.1))))) h') : gG 7 300 1 6 M_9_strike 0 (lv_args 0 [.ref (L 0 0), .int (nI n), .int (nI m)]) [] h Q := by
  obtain ⟨sp, ok, m0, T, N, v, W1, W2, W3, D, E, l1, ⟨sn, Z, ze⟩, ⟨tr, Y⟩, ⟨b, I⟩, ⟨ox, O⟩, ⟨ya, Wa⟩, ⟨yp, Wp⟩, ⟨yo, Wo⟩, ⟨ps, Ps⟩, os, Os⟩ := H.un
  have nl := W1.1
  refine g_aloadn M_9_strike d_9_strike_0 (by first | rfl | assumption) ?_
  refine g_iloadn M_9_strike d_9_strike_1 (by first | rfl | assumption) ?_
  refine gc_V M_9_strike 1 6 [_] _ d_9_strike_2 cv_9_71 m0 (by rfl) (by rfl) (Nat.le_of_ble_eq_true (by rfl)) (Nat.le_of_ble_eq_true (by rfl)) (by decide) (by decide) (by decide) (by decide) (C_9_checkNounV H hn ?_)
  show gG _ _ _ _ _ _ _ _ _ _
  refine g_iloadn M_9_strike d_9_strike_5 (by first | rfl | assumption) ?_
  refine gc_S M_9_strike 1 6 [_] _ d_9_strike_6 cs_9_75 (by rfl) (by rfl) (by rfl) (Nat.le_of_ble_eq_true (by rfl)) (Nat.le_of_ble_eq_true (by rfl)) (by decide) (by decide) (by decide) (by decide) (C_9_checkManyV hm.1 hm.2 ?_)
  show gG _ _ _ _ _ _ _ _ _ _
  refine g_aloadn M_9_strike d_9_strike_9 (by first | rfl | assumption) ?_
  refine g_get M_9_strike d_9_strike_10 fl_9_19 (by assumption) (by rfl) ?_
  refine g_iloadn M_9_strike d_9_strike_13 (by first | rfl | assumption) ?_
  refine g_aloadn M_9_strike d_9_strike_14 (by first | rfl | assumption) ?_
  refine g_get M_9_strike d_9_strike_15 fl_9_50 (by assumption) (by rfl) ?_
  refine gc_V M_9_strike 1 6 [_, _] _ d_9_strike_18 cv_9_78 v (by rfl) (by rfl) (Nat.le_of_ble_eq_true (by rfl)) (Nat.le_of_ble_eq_true (by rfl)) (by decide) (by decide) (by decide) (by decide) (C_6_loadPlural N (by omega) Wp (neL sp (ok0 (by decide)) (ok0 (by decide)) (by decide)) (offW sp (by decide) (by decide) (by decide) (by decide)) (fun h1 e1 V1 => ?_))
  have H1 := H.w13 e1 V1
  have a1 := (e1.aLw (fun y hy => aL2 (ok0 (by decide)) (ok0 (by decide)) hy))
  obtain ⟨sp1, ok1, m01, T1, N1, v1, W11, W21, W31, D1, E1, l11, ⟨sn1, Z1, ze1⟩, ⟨tr1, Y1⟩, ⟨b1, I1⟩, ⟨ox1, O1⟩, ⟨ya1, Wa1⟩, ⟨yp1, Wp1⟩, ⟨yo1, Wo1⟩, ⟨ps1, Ps1⟩, os1, Os1⟩ := H1.un
  show gG _ _ _ _ _ _ _ _ _ _
  refine g_aloadn M_9_strike d_9_strike_21 (by first | rfl | assumption) ?_
  refine g_get M_9_strike d_9_strike_22 fl_9_19 (by assumption) (by rfl) ?_
  refine g_get M_9_strike d_9_strike_25 fl_9_82 (by assumption) (by rfl) ?_
  refine g_iloadn M_9_strike d_9_strike_28 (by first | rfl | assumption) ?_
  refine g_aloadn M_9_strike d_9_strike_29 (by first | rfl | assumption) ?_
  refine g_get M_9_strike d_9_strike_30 fl_9_50 (by assumption) (by rfl) ?_
  refine gc_V M_9_strike 1 6 [_, _] _ d_9_strike_33 cv_9_86 E1.1.1 (by rfl) (by rfl) (Nat.le_of_ble_eq_true (by rfl)) (Nat.le_of_ble_eq_true (by rfl)) (by decide) (by decide) (by decide) (by decide) (C_2_find E1 (by omega) V1 ?_)
  show gG _ _ _ _ _ _ _ _ _ _
  refine g_istoren M_9_strike d_9_strike_36 (by decide) (by first | rfl | (simp only [gc]; simp [*])) ?_
  refine g_iloadn M_9_strike d_9_strike_37 (by first | rfl | assumption) ?_
  refine g_iconst M_9_strike (v := -1) d_9_strike_38 (by decide) ?_
  have eh : fst (fun i => decide ((hx X.2.1.2.2.2.2.1 i).2.1 = n ∧ (hx X.2.1.2.2.2.2.1 i).1 = plS X.2.1 (X.2.1.1.getD n []))) X.2.1.2.2.2.2.1.length = hpF X.2.1 n := rfl
  rw [eh]
  cases e : hpF X.2.1 n with
  | none =>
    refine g_icmp_ne M_9_strike (tgt := 65) d_9_strike_39 (by decide) (fun c9 => False.elim (c9 rfl)) (fun _ => ?_)
    refine g_aloadn M_9_strike d_9_strike_42 (by first | rfl | assumption) ?_
    refine g_get M_9_strike d_9_strike_43 fl_9_19 (by assumption) (by rfl) ?_
    refine g_get M_9_strike d_9_strike_46 fl_9_82 (by assumption) (by rfl) ?_
    refine gc_V M_9_strike 1 6 [] _ d_9_strike_49 cv_9_92 E1.1.1 (by rfl) (by rfl) (Nat.le_of_ble_eq_true (by rfl)) (Nat.le_of_ble_eq_true (by rfl)) (by decide) (by decide) (by decide) (by decide) (C_2_isFull E1 ?_)
    show gG _ _ _ _ _ _ _ _ _ _
    by_cases f : 30 ≤ X.2.1.2.2.2.2.1.length
    · rw [decide_eq_true f]
      refine g_if_eq M_9_strike (tgt := 65) d_9_strike_52 (by decide) (fun c9 => absurd c9 (by decide)) (fun _ => ?_)
      exact g_throw M_9_strike th_9_strike_55 rfl d_9_strike_55 d_9_strike_58 d_9_strike_59 d_9_strike_61 d_9_strike_64 (Nat.le_of_ble_eq_true (by rfl)) (Nat.le_of_ble_eq_true (by rfl)) (Nat.le_of_ble_eq_true (by rfl)) (Nat.le_of_ble_eq_true (by rfl)) (kx (by unfold stkS; rw [e]; exact if_neg (by omega)) h1 a1 H1)
    · rw [decide_eq_false f]
      refine g_if_eq M_9_strike (tgt := 65) d_9_strike_52 (by decide) (fun _ => ?_) (fun c9 => absurd rfl c9)
      refine g_aloadn M_9_strike d_9_strike_65 (by first | rfl | assumption) ?_
      refine g_get M_9_strike d_9_strike_66 fl_9_29 (by assumption) (by rfl) ?_
      refine g_aloadn M_9_strike d_9_strike_69 (by first | rfl | assumption) ?_
      refine g_get M_9_strike d_9_strike_70 fl_9_19 (by assumption) (by rfl) ?_
      refine gc_V M_9_strike 0 0 [_] _ d_9_strike_73 cv_9_103 I1.2.1 (by rfl) (by rfl) (Nat.le_of_ble_eq_true (by rfl)) (Nat.le_of_ble_eq_true (by rfl)) (by decide) (by decide) (by decide) (by decide) (C_9_rec H1 (fun h2 S9 e2 s9 a2 H2 => ?_))
      obtain ⟨sp2, ok2, m02, T2, N2, v2, W12, W22, W32, D2, E2, l12, ⟨sn2, Z2, ze2⟩, ⟨tr2, Y2⟩, ⟨b2, I2⟩, ⟨ox2, O2⟩, ⟨ya2, Wa2⟩, ⟨yp2, Wp2⟩, ⟨yo2, Wo2⟩, ⟨ps2, Ps2⟩, os2, Os2⟩ := H2.un
      try dsimp only at ok2 T2 N2 v2 W12 W22 W32 D2 E2 l12 ze2 I2
      show gG _ _ _ _ _ _ _ _ _ _
      refine g_iloadn M_9_strike d_9_strike_76 (by first | rfl | assumption) ?_
      refine g_iconst M_9_strike (v := -1) d_9_strike_77 (by decide) ?_
      refine g_icmp_ne M_9_strike (tgt := 100) d_9_strike_78 (by decide) (fun c9 => False.elim (c9 rfl)) (fun _ => ?_)
      have hs : stkS X.2.1 n m = some (X.2.1.1, X.2.1.2.1, X.2.1.2.2.1, X.2.1.2.2.2.1, X.2.1.2.2.2.2.1 ++ [(plN X.2.1 n, n, m)], X.2.1.2.2.2.2.2.1 + m, X.2.1.2.2.2.2.2.2) := by unfold stkS; rw [e]; exact if_pos (by omega)
      have V2 := V1.keep e2 (s9.off sp (by decide) (by decide) (by decide)) (s9.off sp (by decide) (by decide) (by decide))
      refine g_aloadn M_9_strike d_9_strike_81 (by first | rfl | assumption) ?_
      refine g_get M_9_strike d_9_strike_82 fl_9_19 (by assumption) (by rfl) ?_
      refine g_get M_9_strike d_9_strike_85 fl_9_82 (by assumption) (by rfl) ?_
      refine g_iloadn M_9_strike d_9_strike_88 (by first | rfl | assumption) ?_
      refine g_aloadn M_9_strike d_9_strike_89 (by first | rfl | assumption) ?_
      refine g_get M_9_strike d_9_strike_90 fl_9_50 (by assumption) (by rfl) ?_
      refine g_iloadn M_9_strike d_9_strike_93 (by first | rfl | assumption) ?_
      refine gc_V M_9_strike 0 0 [_, _, _] _ d_9_strike_94 cv_9_107 E2.1.1 (by rfl) (by rfl) (Nat.le_of_ble_eq_true (by rfl)) (Nat.le_of_ble_eq_true (by rfl)) (by decide) (by decide) (by decide) (by decide) (C_2_open (sepR.sub (sp.r (by decide) (by decide)) (by decide)) E2 (by omega) (by omega) (by omega) V2 (fun x hx9 => ⟨neL sp (okB (by decide) (by decide) (by omega)) (ok0 (by decide)) (by omega), neL sp (okB (by decide) (by decide) (by omega)) (ok0 (by decide)) (by omega)⟩) (fun h3 e3 V3 => ?_))
      have S2 := N2.1
      have H3 := H2.now (e3.weak (map_sub (by decide))) (stR.he (sp.r (by decide) (by decide)) S2 e3 V3) ⟨V3.2, ok.2⟩
      have a3 := (e3.weak (map_sub (by decide))).aLb (by decide) (by decide)
      obtain ⟨sp3, ok3, m03, T3, N3, v3, W13, W23, W33, D3, E3, l13, ⟨sn3, Z3, ze3⟩, ⟨tr3, Y3⟩, ⟨b3, I3⟩, ⟨ox3, O3⟩, ⟨ya3, Wa3⟩, ⟨yp3, Wp3⟩, ⟨yo3, Wo3⟩, ⟨ps3, Ps3⟩, os3, Os3⟩ := H3.un
      try dsimp only at ok3 T3 N3 v3 W13 W23 W33 D3 E3 l13 ze3 I3
      show gG _ _ _ _ _ _ _ _ _ _
      refine g_goto M_9_strike (tgt := 112) d_9_strike_97 (by decide) ?_
      refine g_aloadn M_9_strike d_9_strike_112 (by first | rfl | assumption) ?_
      refine g_get M_9_strike d_9_strike_113 fl_9_19 (by assumption) (by rfl) ?_
      refine g_dup M_9_strike d_9_strike_116 (by rfl) ?_
      refine g_get M_9_strike d_9_strike_117 fl_9_114 (by assumption) (by rfl) ?_
      refine g_iloadn M_9_strike d_9_strike_120 (by first | rfl | assumption) ?_
      refine g_iadd M_9_strike d_9_strike_121 ?_
      refine e_put M_9_strike d_9_strike_122 pt_9_114 v3 (by rfl) (by rfl) (fun h4 v4 e4 => ?_)
      rw [nI_add] at v4
      have S4 := stR.sm (sp.r (by decide) (by decide)) N3.1 e4 v4
      have H4 := H3.now (e4.weak (one_sub (by decide))) S4 ok3
      have a4 := e4.aL1 (okB (by decide) (by decide) (by decide))
      obtain ⟨sp4, ok4, m04, T4, N4, v4, W14, W24, W34, D4, E4, l14, ⟨sn4, Z4, ze4⟩, ⟨tr4, Y4⟩, ⟨b4, I4⟩, ⟨ox4, O4⟩, ⟨ya4, Wa4⟩, ⟨yp4, Wp4⟩, ⟨yo4, Wo4⟩, ⟨ps4, Ps4⟩, os4, Os4⟩ := H4.un
      try dsimp only at ok4 T4 N4 v4 W14 W24 W34 D4 E4 l14 ze4 I4
      refine g_aloadn M_9_strike d_9_strike_125 (by first | rfl | assumption) ?_
      refine g_get M_9_strike d_9_strike_126 fl_9_19 (by assumption) (by rfl) ?_
      refine g_get M_9_strike d_9_strike_129 fl_9_82 (by assumption) (by rfl) ?_
      refine g_iloadn M_9_strike d_9_strike_132 (by first | rfl | assumption) ?_
      refine gc_V M_9_strike 0 0 [_] _ d_9_strike_133 cv_9_118 E4.1.1 (by rfl) (by rfl) (Nat.le_of_ble_eq_true (by rfl)) (Nat.le_of_ble_eq_true (by rfl)) (by decide) (by decide) (by decide) (by decide) (C_2_coinsWith E4 (by omega) ?_)
      show gG _ _ _ _ _ _ _ _ _ _
      exact g_iret M_9_strike d_9_strike_136 rfl rfl (kk _ hs h4 (((a1.t a2).t a3).t a4) H4)
  | some i =>
    refine g_icmp_ne M_9_strike (tgt := 65) d_9_strike_39 (by decide) (fun _ => ?_) (fun c9 => absurd c9 (oI_ne (n := 30) (fun j hj => by cases hj; have := fst_lt e; have := E1.le; omega) (by decide) rfl))
    refine g_aloadn M_9_strike d_9_strike_65 (by first | rfl | assumption) ?_
    refine g_get M_9_strike d_9_strike_66 fl_9_29 (by assumption) (by rfl) ?_
    refine g_aloadn M_9_strike d_9_strike_69 (by first | rfl | assumption) ?_
    refine g_get M_9_strike d_9_strike_70 fl_9_19 (by assumption) (by rfl) ?_
    refine gc_V M_9_strike 0 0 [_] _ d_9_strike_73 cv_9_103 I1.2.1 (by rfl) (by rfl) (Nat.le_of_ble_eq_true (by rfl)) (Nat.le_of_ble_eq_true (by rfl)) (by decide) (by decide) (by decide) (by decide) (C_9_rec H1 (fun h2 S9 e2 s9 a2 H2 => ?_))
    obtain ⟨sp2, ok2, m02, T2, N2, v2, W12, W22, W32, D2, E2, l12, ⟨sn2, Z2, ze2⟩, ⟨tr2, Y2⟩, ⟨b2, I2⟩, ⟨ox2, O2⟩, ⟨ya2, Wa2⟩, ⟨yp2, Wp2⟩, ⟨yo2, Wo2⟩, ⟨ps2, Ps2⟩, os2, Os2⟩ := H2.un
    try dsimp only at ok2 T2 N2 v2 W12 W22 W32 D2 E2 l12 ze2 I2
    show gG _ _ _ _ _ _ _ _ _ _
    refine g_iloadn M_9_strike d_9_strike_76 (by first | rfl | assumption) ?_
    refine g_iconst M_9_strike (v := -1) d_9_strike_77 (by decide) ?_
    refine g_icmp_ne M_9_strike (tgt := 100) d_9_strike_78 (by decide) (fun _ => ?_) (fun c9 => absurd c9 (oI_ne (n := 30) (fun j hj => by cases hj; have := fst_lt e; have := E1.le; omega) (by decide) rfl))
    have hs : stkS X.2.1 n m = some (X.2.1.1, X.2.1.2.1, X.2.1.2.2.1, X.2.1.2.2.2.1, hset X.2.1.2.2.2.2.1 i ((hx X.2.1.2.2.2.2.1 i).2.2 + m), X.2.1.2.2.2.2.2.1 + m, X.2.1.2.2.2.2.2.2) := by unfold stkS; rw [e]
    have il : i < X.2.1.2.2.2.2.1.length := fst_lt e
    have cb := hb _ (hx_mem il)
    refine g_aloadn M_9_strike d_9_strike_100 (by first | rfl | assumption) ?_
    refine g_get M_9_strike d_9_strike_101 fl_9_19 (by assumption) (by rfl) ?_
    refine g_get M_9_strike d_9_strike_104 fl_9_82 (by assumption) (by rfl) ?_
    refine g_iloadn M_9_strike d_9_strike_107 (by first | rfl | assumption) ?_
    refine g_iloadn M_9_strike d_9_strike_108 (by first | rfl | assumption) ?_
    refine gc_V M_9_strike 0 0 [.int (nI i), .int (nI m)] _ d_9_strike_109 cv_9_111 E2.1.1 (by rfl) (by rfl) (Nat.le_of_ble_eq_true (by rfl)) (Nat.le_of_ble_eq_true (by rfl)) (by decide) (by decide) (by decide) (by decide) (C_2_enlarge (sepR.sub (sp.r (by decide) (by decide)) (by decide)) E2 il (by omega) (nI_add _ _) (fun h3 e3 V3 => ?_))
    replace e3 : gExt h2 h3 ((List.range 6).map (fun k => L 1 (18 + k))) [] := e3.weak (fun y hy => by rw [List.mem_singleton.mp hy]; exact List.mem_map.mpr ⟨5, by decide, rfl⟩)
    have S2 := N2.1
    have H3 := H2.now (e3.weak (map_sub (by decide))) (stR.he (sp.r (by decide) (by decide)) S2 e3 V3) ⟨V3.2, ok.2⟩
    have a3 := (e3.weak (map_sub (by decide))).aLb (by decide) (by decide)
    obtain ⟨sp3, ok3, m03, T3, N3, v3, W13, W23, W33, D3, E3, l13, ⟨sn3, Z3, ze3⟩, ⟨tr3, Y3⟩, ⟨b3, I3⟩, ⟨ox3, O3⟩, ⟨ya3, Wa3⟩, ⟨yp3, Wp3⟩, ⟨yo3, Wo3⟩, ⟨ps3, Ps3⟩, os3, Os3⟩ := H3.un
    try dsimp only at ok3 T3 N3 v3 W13 W23 W33 D3 E3 l13 ze3 I3
    show gG _ _ _ _ _ _ _ _ _ _
    refine g_aloadn M_9_strike d_9_strike_112 (by first | rfl | assumption) ?_
    refine g_get M_9_strike d_9_strike_113 fl_9_19 (by assumption) (by rfl) ?_
    refine g_dup M_9_strike d_9_strike_116 (by rfl) ?_
    refine g_get M_9_strike d_9_strike_117 fl_9_114 (by assumption) (by rfl) ?_
    refine g_iloadn M_9_strike d_9_strike_120 (by first | rfl | assumption) ?_
    refine g_iadd M_9_strike d_9_strike_121 ?_
    refine e_put M_9_strike d_9_strike_122 pt_9_114 v3 (by rfl) (by rfl) (fun h4 v4 e4 => ?_)
    rw [nI_add] at v4
    have S4 := stR.sm (sp.r (by decide) (by decide)) N3.1 e4 v4
    have H4 := H3.now (e4.weak (one_sub (by decide))) S4 ok3
    have a4 := e4.aL1 (okB (by decide) (by decide) (by decide))
    obtain ⟨sp4, ok4, m04, T4, N4, v4, W14, W24, W34, D4, E4, l14, ⟨sn4, Z4, ze4⟩, ⟨tr4, Y4⟩, ⟨b4, I4⟩, ⟨ox4, O4⟩, ⟨ya4, Wa4⟩, ⟨yp4, Wp4⟩, ⟨yo4, Wo4⟩, ⟨ps4, Ps4⟩, os4, Os4⟩ := H4.un
    try dsimp only at ok4 T4 N4 v4 W14 W24 W34 D4 E4 l14 ze4 I4
    refine g_aloadn M_9_strike d_9_strike_125 (by first | rfl | assumption) ?_
    refine g_get M_9_strike d_9_strike_126 fl_9_19 (by assumption) (by rfl) ?_
    refine g_get M_9_strike d_9_strike_129 fl_9_82 (by assumption) (by rfl) ?_
    refine g_iloadn M_9_strike d_9_strike_132 (by first | rfl | assumption) ?_
    refine gc_V M_9_strike 0 0 [_] _ d_9_strike_133 cv_9_118 E4.1.1 (by rfl) (by rfl) (Nat.le_of_ble_eq_true (by rfl)) (Nat.le_of_ble_eq_true (by rfl)) (by decide) (by decide) (by decide) (by decide) (C_2_coinsWith E4 (by omega) ?_)
    show gG _ _ _ _ _ _ _ _ _ _
    exact g_iret M_9_strike d_9_strike_136 rfl rfl (kk _ hs h4 (((a1.t a2).t a3).t a4) H4)
set_option maxHeartbeats 4000000 in
set_option maxRecDepth 100000 in
theorem C_9_strikeX {L : Nat → Nat → Nat} {X : Mt_} {h : Hp_} {Q : Ot_ → Hp_ → Prop} {n m : Nat} (H : mtN h L X) (hn : ¬ n < X.2.1.1.length) (h31 : n < 2 ^ 31) (k : Q (.inr IOB_) h) : gG 7 300 1 6 M_9_strike 0 (lv_args 0 [.ref (L 0 0), .int (nI n), .int (nI m)]) [] h Q := by
  obtain ⟨sp, ok, m0, T, N, v, W1, W2, W3, D, E, l1, ⟨sn, Z, ze⟩, ⟨tr, Y⟩, ⟨b, I⟩, ⟨ox, O⟩, ⟨ya, Wa⟩, ⟨yp, Wp⟩, ⟨yo, Wo⟩, ⟨ps, Ps⟩, os, Os⟩ := H.un
  refine g_aloadn M_9_strike d_9_strike_0 (by first | rfl | assumption) ?_
  refine g_iloadn M_9_strike d_9_strike_1 (by first | rfl | assumption) ?_
  refine gc_V M_9_strike 0 0 [_] _ d_9_strike_2 cv_9_71 m0 (by rfl) (by rfl) (Nat.le_of_ble_eq_true (by rfl)) (Nat.le_of_ble_eq_true (by rfl)) (by decide) (by decide) (by decide) (by decide) (C_9_checkNounX H hn h31 ?_)
  exact gx_out M_9_strike rfl k
