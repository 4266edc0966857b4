/-! ===== the mint: its cells by a map of blocks; made ===== -/
/-- block 0: the mint, its text, history, order, words; 1 now, 2 snapshot, 3 trial, 4 to 7 the recorded states -/
def okL (i j : Nat) : Prop := (i = 0 ∧ j < 23) ∨ (1 ≤ i ∧ i ≤ 7 ∧ j < 24)
def sepL (L : Nat → Nat → Nat) : Prop := ∀ i j i' j', okL i j → okL i' j' → L i j = L i' j' → i = i' ∧ j = j'
theorem txR.keep {h h' : Hp_} {S A : List Nat} {t s g : Nat} {tx : List Nat} (H : txR h t s g tx) (e : gExt h h' S A) (h1 : t ∉ S) (h2 : s ∉ S) (h3 : g ∉ S) : txR h' t s g tx := by
  obtain ⟨k1, k2, ⟨f, k3, k4⟩, p, l, k5⟩ := H
  exact ⟨k1, e.keep k2 h1, ⟨f, e.keep k3 h2, k4⟩, p, l, e.keep k5 h3⟩
theorem orR.keep {h h' : Hp_} {S A : List Nat} {a f lf s ls : Nat} {kd cd is2 : Int32} {w1 w2 : List Nat} (H : orR h a f lf s ls kd cd is2 w1 w2) (e : gExt h h' S A) (hs : a ∉ S) (h1 : f ∉ S) (h2 : lf ∉ S) (h3 : s ∉ S) (h4 : ls ∉ S) : orR h' a f lf s ls kd cd is2 w1 w2 :=
  ⟨e.keep H.1 hs, H.2.1.keep e h1 h2, H.2.2.keep e h3 h4⟩
/-- the recorded states: b i is the block (from 4) of the i-th -/
def hiR (h : Hp_) (L : Nat → Nat → Nat) (b : Nat → Nat) (rc : List Sl_) : Prop := rc.length ≤ 4 ∧ h (L 0 4) = some (.inr (3, [.ref (L 0 5), .int (nI rc.length)])) ∧ (∀ i, i < 4 → b i < 4) ∧ (∀ i j, i < 4 → j < 4 → b i = b j → i = j) ∧
  ∃ f, h (L 0 5) = some (.inl (false, .object "PluralMint$State", (4, .inr (.inr (.inr (.inr f)))))) ∧ ∀ i, i < 4 → f i = some (L (4 + b i) 0) ∧ ∃ s, stR h (L (4 + b i)) s ∧ (i < rc.length → s = rc.getD i N0_)
/-- rows to work on: their contents don't matter -/
def scR (h : Hp_) (L : Nat → Nat → Nat) : Prop := (∃ kd cd is2 w1 w2, orR h (L 0 6) (L 0 7) (L 0 8) (L 0 9) (L 0 10) kd cd is2 w1 w2) ∧ (∃ w, wdR h (L 0 11) (L 0 12) w) ∧ (∃ w, wdR h (L 0 13) (L 0 14) w) ∧ (∃ w, wdR h (L 0 15) (L 0 16) w) ∧ (∃ w, wsR h (L 0 17) (L 0 18) (L 0 19) 20 16 w) ∧ ∃ w, wsR h (L 0 20) (L 0 21) (L 0 22) 22 12 w
def mtR (h : Hp_) (L : Nat → Nat → Nat) (b : Nat → Nat) (tx : List Nat) (now : Sl_) (snap : Option Sl_) (rc : List Sl_) : Prop :=
  h (L 0 0) = some (.inr (9, [.ref (L 0 1), .ref (L 1 0), .ref (L 2 0), .int (bI snap.isSome), .ref (L 0 4), .ref (L 3 0), .ref (L 0 6), .ref (L 0 11), .ref (L 0 13), .ref (L 0 15), .ref (L 0 17), .ref (L 0 20)])) ∧
  txR h (L 0 1) (L 0 2) (L 0 3) tx ∧ stR h (L 1) now ∧ (∃ s, stR h (L 2) s ∧ ∀ z, snap = some z → s = z) ∧ (∃ s, stR h (L 3) s) ∧ hiR h L b rc ∧ scR h L
theorem hiR.keep {h h' : Hp_} {S A : List Nat} {L : Nat → Nat → Nat} {b : Nat → Nat} {rc : List Sl_} (H : hiR h L b rc) (e : gExt h h' S A) (h1 : L 0 4 ∉ S) (h2 : L 0 5 ∉ S) (h3 : ∀ i j, i < 4 → j < 24 → L (4 + i) j ∉ S) : hiR h' L b rc := by
  obtain ⟨k1, k2, k3, k4, f, k5, k6⟩ := H
  refine ⟨k1, e.keep k2 h1, k3, k4, f, e.keep k5 h2, fun i hi => ?_⟩
  obtain ⟨q1, s, q2, q3⟩ := k6 i hi
  exact ⟨q1, s, q2.keep e (fun j hj => h3 _ j (k3 i hi) hj), q3⟩
theorem scR.keep {h h' : Hp_} {S A : List Nat} {L : Nat → Nat → Nat} (H : scR h L) (e : gExt h h' S A) (hs : ∀ j, 6 ≤ j → j < 23 → L 0 j ∉ S) : scR h' L := by
  obtain ⟨⟨kd, cd, is2, w1, w2, k1⟩, ⟨w3, k2⟩, ⟨w4, k3⟩, ⟨w5, k4⟩, ⟨w6, k5⟩, w7, k6⟩ := H
  refine ⟨⟨kd, cd, is2, w1, w2, k1.keep e ?_ ?_ ?_ ?_ ?_⟩, ⟨w3, k2.keep e ?_ ?_⟩, ⟨w4, k3.keep e ?_ ?_⟩, ⟨w5, k4.keep e ?_ ?_⟩, ⟨w6, k5.keep e ?_ ?_ ?_⟩, w7, k6.keep e ?_ ?_ ?_⟩ <;> exact hs _ (by decide) (by decide)
/-- a step that changes the state of now alone -/
theorem mtR.now {h h' : Hp_} {A : List Nat} {L : Nat → Nat → Nat} {b : Nat → Nat} {tx : List Nat} {now now' : Sl_} {snap : Option Sl_} {rc : List Sl_} (H : mtR h L b tx now snap rc) (s : sepL L) (e : gExt h h' ((List.range 24).map (L 1)) A) (N : stR h' (L 1) now') : mtR h' L b tx now' snap rc := by
  have off : ∀ i j, okL i j → i ≠ 1 → L i j ∉ (List.range 24).map (L 1) := by
    intro i j ho hi hx
    obtain ⟨k, hk, q⟩ := List.mem_map.mp hx
    exact hi (s _ _ _ _ (Or.inr ⟨by decide, by decide, List.mem_range.mp hk⟩) ho q).1.symm
  obtain ⟨k1, k2, k3, ⟨s4, k4, k4'⟩, ⟨s5, k5⟩, k6, k7⟩ := H
  refine ⟨e.keep k1 (off 0 0 (Or.inl ⟨rfl, by decide⟩) (by decide)), k2.keep e (off _ _ (Or.inl ⟨rfl, by decide⟩) (by decide)) (off _ _ (Or.inl ⟨rfl, by decide⟩) (by decide)) (off _ _ (Or.inl ⟨rfl, by decide⟩) (by decide)), N, ⟨s4, k4.keep e (fun j hj => off _ _ (Or.inr ⟨by decide, by decide, hj⟩) (by decide)), k4'⟩, ⟨s5, k5.keep e (fun j hj => off _ _ (Or.inr ⟨by decide, by decide, hj⟩) (by decide))⟩, k6.keep e (off _ _ (Or.inl ⟨rfl, by decide⟩) (by decide)) (off _ _ (Or.inl ⟨rfl, by decide⟩) (by decide)) (fun i j hi hj => off _ _ (Or.inr ⟨by omega, by omega, hj⟩) (by omega)), k7.keep e (fun j _ hj => off _ _ (Or.inl ⟨rfl, hj⟩) (by decide))⟩
theorem stR.congr {h : Hp_} {r r' : Nat → Nat} {v : Sl_} (H : stR h r v) (e : ∀ k, k < 24 → r' k = r k) : stR h r' v := by
  obtain ⟨h1, h2, h3, h4, ⟨d1, d2, d3, d4, d5⟩, ⟨e1, e2, e3, e4, e5⟩, h7⟩ := H
  have q : ∀ k, k < 24 → r' k = r k := e
  refine ⟨?_, ?_, ?_, ?_, ⟨?_, ?_, ?_, ?_, d5⟩, ⟨?_, ?_, ?_, ?_, e5⟩, h7⟩
  · rw [q 0 (by decide), q 1 (by decide), q 4 (by decide), q 7 (by decide), q 10 (by decide), q 18 (by decide)]; exact h1
  · rw [q 1 (by decide), q 2 (by decide), q 3 (by decide)]; exact h2
  · rw [q 4 (by decide), q 5 (by decide), q 6 (by decide)]; exact h3
  · rw [q 7 (by decide), q 8 (by decide), q 9 (by decide)]; exact h4
  · show h (r' (10 + 0)) = some (.inr (0, [.ref (r' (10 + 1)), .ref (r' (10 + 4)), .ref (r' (10 + 7))]))
    rw [q _ (by decide), q _ (by decide), q _ (by decide), q _ (by decide)]; exact d1
  · show wsR h (r' (10 + 1)) (r' (10 + 2)) (r' (10 + 3)) 12 4 _
    rw [q _ (by decide), q _ (by decide), q _ (by decide)]; exact d2
  · show wsR h (r' (10 + 4)) (r' (10 + 5)) (r' (10 + 6)) 12 4 _
    rw [q _ (by decide), q _ (by decide), q _ (by decide)]; exact d3
  · show nmR h (r' (10 + 7)) 12 _
    rw [q _ (by decide)]; exact d4
  · show h (r' (18 + 0)) = some (.inr (2, [.ref (r' (18 + 1)), .ref (r' (18 + 4)), .ref (r' (18 + 5))]))
    rw [q _ (by decide), q _ (by decide), q _ (by decide), q _ (by decide)]; exact e1
  · show wsR h (r' (18 + 1)) (r' (18 + 2)) (r' (18 + 3)) 30 16 _
    rw [q _ (by decide), q _ (by decide), q _ (by decide)]; exact e2
  · show nmR h (r' (18 + 4)) 30 _
    rw [q _ (by decide)]; exact e3
  · show nmR h (r' (18 + 5)) 30 _
    rw [q _ (by decide)]; exact e4
def posL (i j : Nat) : Nat := if i = 0 then (if j < 4 then j else if j < 6 then 48 + j else 168 + j) else if i = 1 then 4 + j else if i = 2 then 28 + j else if i = 3 then 150 + j else 54 + 24 * (i - 4) + j
theorem posL_inj {i j i' j' : Nat} (h : okL i j) (h' : okL i' j') (e : posL i j = posL i' j') : i = i' ∧ j = j' := by
  unfold posL at e
  unfold okL at h h'
  split at e <;> split at e <;> (try split at e) <;> (try split at e) <;> (try split at e) <;> (try split at e) <;> (try split at e) <;> (try split at e) <;> omega
theorem posL_lt {i j : Nat} (h : okL i j) : posL i j < 191 := by
  unfold posL
  unfold okL at h
  split <;> (try split) <;> (try split) <;> (try split) <;> omega
theorem getD_skip {P X : List Nat} {n k : Nat} (h : P.length = n) : (P ++ X).getD (n + k) 0 = X.getD k 0 := by
  simp only [List.getD_eq_getElem?_getD]
  rw [List.getElem?_append_right (by omega)]
  congr 2
  omega
theorem getD_head {P X : List Nat} {k : Nat} (h : k < P.length) : (P ++ X).getD k 0 = P.getD k 0 := by
  simp only [List.getD_eq_getElem?_getD]
  rw [List.getElem?_append_left h]
theorem nodup_getD {T : List Nat} (hn : T.Nodup) {i j : Nat} (hi : i < T.length) (hj : j < T.length) (e : T.getD i 0 = T.getD j 0) : i = j := by
  rw [List.getD_eq_getElem?_getD, List.getD_eq_getElem?_getD, List.getElem?_eq_getElem hi, List.getElem?_eq_getElem hj] at e
  have e2 : T[i] = T[j] := e
  have hp := List.pairwise_iff_getElem.mp hn
  rcases Nat.lt_trichotomy i j with q | q | q
  · exact absurd e2 (hp i j hi hj q)
  · exact q
  · exact absurd e2.symm (hp j i hj hi q)
set_option maxHeartbeats 4000000 in
set_option maxRecDepth 100000 in
theorem C_9_init {a : Nat} {h : Hp_} {Q : Ot_ → Hp_ → Prop} (h0 : h a = some (.inr (9, [.null, .null, .null, .int 0, .null, .null, .null, .null, .null, .null, .null, .null]))) (k : ∀ L A h', sepL L → L 0 0 = a → (∀ i j, okL i j → L i j = a ∨ L i j ∈ A) → gExt h h' [a] A → mtR h' L id [] Nw_ none [] → Q (.inl none) h') : gG 6 250 194 9649 M_9_init 0 (lv_args 0 [.ref a]) [] h Q := by
  refine g_aloadn M_9_init d_9_init_0 (by first | rfl | assumption) ?_
  refine g_objInit M_9_init d_9_init_1 oi_9_1 oi_i oi_c (Nat.le_of_ble_eq_true (by rfl)) (Nat.le_of_ble_eq_true (by rfl)) ?_
  refine g_aloadn M_9_init d_9_init_4 (by first | rfl | assumption) ?_
  refine e_new M_9_init (kc' := 193) (ks' := 9646) (N := 3) d_9_init_5 nw_9_7 rfl (by decide) (by decide) (fun tx x1 u1 ea1 => ?_)
  have va1 := ea1.keep h0 (by simp)
  refine g_dup M_9_init d_9_init_8 (by rfl) ?_
  refine gc_I M_9_init 191 9584 [] [.ref tx, .ref a] d_9_init_9 ci_9_9 (by rfl) (by rfl) (Nat.le_of_ble_eq_true (by rfl)) (Nat.le_of_ble_eq_true (by rfl)) (by decide) (by decide) (by decide) (by decide) (C_5_init u1 (fun ts tg y1 eb1 W1 => ?_))
  have vb1 := eb1.keep va1 (by simpa using ea1.fresh h0 (List.mem_singleton.mpr rfl))
  show gG _ _ _ _ _ _ _ _ _ _
  refine e_putF M_9_init d_9_init_12 pf_9_10 rfl vb1 (by rfl) (by rfl) (fun z1 v1 ec1 => ?_)
  refine g_aloadn M_9_init d_9_init_15 (by first | rfl | assumption) ?_
  refine e_new M_9_init (kc' := 190) (ks' := 9577) (N := 7) d_9_init_16 nw_9_16 rfl (by decide) (by decide) (fun qn x2 u2 ea2 => ?_)
  have va2 := ea2.keep v1 (by simp)
  refine g_dup M_9_init d_9_init_19 (by rfl) ?_
  refine gc_I M_9_init 167 8325 [] [.ref qn, .ref a] d_9_init_20 ci_9_18 (by rfl) (by rfl) (Nat.le_of_ble_eq_true (by rfl)) (Nat.le_of_ble_eq_true (by rfl)) (by decide) (by decide) (by decide) (by decide) (C_6_init u2 (fun An y2 ln eb2 W2 => ?_))
  have vb2 := eb2.keep va2 (by simpa using ea2.fresh v1 (List.mem_singleton.mpr rfl))
  show gG _ _ _ _ _ _ _ _ _ _
  refine e_putF M_9_init d_9_init_23 pf_9_19 rfl vb2 (by rfl) (by rfl) (fun z2 v2 ec2 => ?_)
  refine g_aloadn M_9_init d_9_init_26 (by first | rfl | assumption) ?_
  refine e_new M_9_init (kc' := 166) (ks' := 8318) (N := 7) d_9_init_27 nw_9_16 rfl (by decide) (by decide) (fun qs x3 u3 ea3 => ?_)
  have va3 := ea3.keep v2 (by simp)
  refine g_dup M_9_init d_9_init_30 (by rfl) ?_
  refine gc_I M_9_init 143 7066 [] [.ref qs, .ref a] d_9_init_31 ci_9_18 (by rfl) (by rfl) (Nat.le_of_ble_eq_true (by rfl)) (Nat.le_of_ble_eq_true (by rfl)) (by decide) (by decide) (by decide) (by decide) (C_6_init u3 (fun As y3 lsn eb3 W3 => ?_))
  have vb3 := eb3.keep va3 (by simpa using ea3.fresh v2 (List.mem_singleton.mpr rfl))
  show gG _ _ _ _ _ _ _ _ _ _
  refine e_putF M_9_init d_9_init_34 pf_9_23 rfl vb3 (by rfl) (by rfl) (fun z3 v3 ec3 => ?_)
  refine g_aloadn M_9_init d_9_init_37 (by first | rfl | assumption) ?_
  refine e_new M_9_init (kc' := 142) (ks' := 7064) (N := 2) d_9_init_38 nw_9_26 rfl (by decide) (by decide) (fun hi x4 u4 ea4 => ?_)
  have va4 := ea4.keep v3 (by simp)
  refine g_dup M_9_init d_9_init_41 (by rfl) ?_
  refine gc_I M_9_init 45 2024 [] [.ref hi, .ref a] d_9_init_42 ci_9_28 (by rfl) (by rfl) (Nat.le_of_ble_eq_true (by rfl)) (Nat.le_of_ble_eq_true (by rfl)) (by decide) (by decide) (by decide) (by decide) (C_3_init u4 (fun arr B1 B2 B3 B4 y4 fh eb4 W4o W4a F0 F1 F2 F3 W4b1 W4b2 W4b3 W4b4 => ?_))
  have vb4 := eb4.keep va4 (by simpa using ea4.fresh v3 (List.mem_singleton.mpr rfl))
  show gG _ _ _ _ _ _ _ _ _ _
  refine e_putF M_9_init d_9_init_45 pf_9_29 rfl vb4 (by rfl) (by rfl) (fun z4 v4 ec4 => ?_)
  refine g_aloadn M_9_init d_9_init_48 (by first | rfl | assumption) ?_
  refine e_new M_9_init (kc' := 44) (ks' := 2017) (N := 7) d_9_init_49 nw_9_16 rfl (by decide) (by decide) (fun qt x5 u5 ea5 => ?_)
  have va5 := ea5.keep v4 (by simp)
  refine g_dup M_9_init d_9_init_52 (by rfl) ?_
  refine gc_I M_9_init 21 765 [] [.ref qt, .ref a] d_9_init_53 ci_9_18 (by rfl) (by rfl) (Nat.le_of_ble_eq_true (by rfl)) (Nat.le_of_ble_eq_true (by rfl)) (by decide) (by decide) (by decide) (by decide) (C_6_init u5 (fun At y5 lt5 eb5 W5 => ?_))
  have vb5 := eb5.keep va5 (by simpa using ea5.fresh v4 (List.mem_singleton.mpr rfl))
  show gG _ _ _ _ _ _ _ _ _ _
  refine e_putF M_9_init d_9_init_56 pf_9_33 rfl vb5 (by rfl) (by rfl) (fun z5 v5 ec5 => ?_)
  refine g_aloadn M_9_init d_9_init_59 (by first | rfl | assumption) ?_
  refine e_new M_9_init (kc' := 20) (ks' := 760) (N := 5) d_9_init_60 nw_9_36 rfl (by decide) (by decide) (fun qo x6 u6 ea6 => ?_)
  have va6 := ea6.keep v5 (by simp)
  refine g_dup M_9_init d_9_init_63 (by rfl) ?_
  refine gc_I M_9_init 16 724 [] [.ref qo, .ref a] d_9_init_64 ci_9_38 (by rfl) (by rfl) (Nat.le_of_ble_eq_true (by rfl)) (Nat.le_of_ble_eq_true (by rfl)) (by decide) (by decide) (by decide) (by decide) (C_4_init u6 (fun of ol os osl y6 eb6 W6 => ?_))
  have vb6 := eb6.keep va6 (by simpa using ea6.fresh v5 (List.mem_singleton.mpr rfl))
  show gG _ _ _ _ _ _ _ _ _ _
  refine e_putF M_9_init d_9_init_67 pf_9_39 rfl vb6 (by rfl) (by rfl) (fun z6 v6 ec6 => ?_)
  refine g_aloadn M_9_init d_9_init_70 (by first | rfl | assumption) ?_
  refine e_new M_9_init (kc' := 15) (ks' := 722) (N := 2) d_9_init_71 nw_9_43 rfl (by decide) (by decide) (fun wa x7 u7 ea7 => ?_)
  have va7 := ea7.keep v6 (by simp)
  refine g_dup M_9_init d_9_init_74 (by rfl) ?_
  refine gc_I M_9_init 14 706 [] [.ref wa, .ref a] d_9_init_75 ci_9_45 (by rfl) (by rfl) (Nat.le_of_ble_eq_true (by rfl)) (Nat.le_of_ble_eq_true (by rfl)) (by decide) (by decide) (by decide) (by decide) (C_7_init u7 (fun wal y7 eb7 W7 => ?_))
  have vb7 := eb7.keep va7 (by simpa using ea7.fresh v6 (List.mem_singleton.mpr rfl))
  show gG _ _ _ _ _ _ _ _ _ _
  refine e_putF M_9_init d_9_init_78 pf_9_46 rfl vb7 (by rfl) (by rfl) (fun z7 v7 ec7 => ?_)
  refine g_aloadn M_9_init d_9_init_81 (by first | rfl | assumption) ?_
  refine e_new M_9_init (kc' := 13) (ks' := 704) (N := 2) d_9_init_82 nw_9_43 rfl (by decide) (by decide) (fun pl x8 u8 ea8 => ?_)
  have va8 := ea8.keep v7 (by simp)
  refine g_dup M_9_init d_9_init_85 (by rfl) ?_
  refine gc_I M_9_init 12 688 [] [.ref pl, .ref a] d_9_init_86 ci_9_45 (by rfl) (by rfl) (Nat.le_of_ble_eq_true (by rfl)) (Nat.le_of_ble_eq_true (by rfl)) (by decide) (by decide) (by decide) (by decide) (C_7_init u8 (fun pll y8 eb8 W8 => ?_))
  have vb8 := eb8.keep va8 (by simpa using ea8.fresh v7 (List.mem_singleton.mpr rfl))
  show gG _ _ _ _ _ _ _ _ _ _
  refine e_putF M_9_init d_9_init_89 pf_9_50 rfl vb8 (by rfl) (by rfl) (fun z8 v8 ec8 => ?_)
  refine g_aloadn M_9_init d_9_init_92 (by first | rfl | assumption) ?_
  refine e_new M_9_init (kc' := 11) (ks' := 686) (N := 2) d_9_init_93 nw_9_43 rfl (by decide) (by decide) (fun og x9 u9 ea9 => ?_)
  have va9 := ea9.keep v8 (by simp)
  refine g_dup M_9_init d_9_init_96 (by rfl) ?_
  refine gc_I M_9_init 10 670 [] [.ref og, .ref a] d_9_init_97 ci_9_45 (by rfl) (by rfl) (Nat.le_of_ble_eq_true (by rfl)) (Nat.le_of_ble_eq_true (by rfl)) (by decide) (by decide) (by decide) (by decide) (C_7_init u9 (fun ogl y9 eb9 W9 => ?_))
  have vb9 := eb9.keep va9 (by simpa using ea9.fresh v8 (List.mem_singleton.mpr rfl))
  show gG _ _ _ _ _ _ _ _ _ _
  refine e_putF M_9_init d_9_init_100 pf_9_53 rfl vb9 (by rfl) (by rfl) (fun z9 v9 ec9 => ?_)
  refine g_aloadn M_9_init d_9_init_103 (by first | rfl | assumption) ?_
  refine e_new M_9_init (kc' := 9) (ks' := 666) (N := 4) d_9_init_104 nw_9_56 rfl (by decide) (by decide) (fun ps x10 u10 ea10 => ?_)
  have va10 := ea10.keep v9 (by simp)
  refine g_dup M_9_init d_9_init_107 (by rfl) ?_
  refine g_bipush M_9_init (v := nI 20) d_9_init_108 (by decide) ?_
  refine g_bipush M_9_init (v := nI 16) d_9_init_110 (by decide) ?_
  refine gc_I M_9_init 7 326 [.int (nI 20), .int (nI 16)] [.ref ps, .ref a] d_9_init_112 ci_9_58 (by rfl) (by rfl) (Nat.le_of_ble_eq_true (by rfl)) (Nat.le_of_ble_eq_true (by rfl)) (by decide) (by decide) (by decide) (by decide) (C_8_init (by decide) (by decide) u10 (fun pa pn y10 eb10 W10 => ?_))
  have vb10 := eb10.keep va10 (by simpa using ea10.fresh v9 (List.mem_singleton.mpr rfl))
  show gG _ _ _ _ _ _ _ _ _ _
  refine e_putF M_9_init d_9_init_115 pf_9_61 rfl vb10 (by rfl) (by rfl) (fun z10 v10 ec10 => ?_)
  refine g_aloadn M_9_init d_9_init_118 (by first | rfl | assumption) ?_
  refine e_new M_9_init (kc' := 6) (ks' := 322) (N := 4) d_9_init_119 nw_9_56 rfl (by decide) (by decide) (fun oz x11 u11 ea11 => ?_)
  have va11 := ea11.keep v10 (by simp)
  refine g_dup M_9_init d_9_init_122 (by rfl) ?_
  refine g_bipush M_9_init (v := nI 22) d_9_init_123 (by decide) ?_
  refine g_bipush M_9_init (v := nI 12) d_9_init_125 (by decide) ?_
  refine gc_I M_9_init 4 36 [.int (nI 22), .int (nI 12)] [.ref oz, .ref a] d_9_init_127 ci_9_58 (by rfl) (by rfl) (Nat.le_of_ble_eq_true (by rfl)) (Nat.le_of_ble_eq_true (by rfl)) (by decide) (by decide) (by decide) (by decide) (C_8_init (by decide) (by decide) u11 (fun oa on y11 eb11 W11 => ?_))
  have vb11 := eb11.keep va11 (by simpa using ea11.fresh v10 (List.mem_singleton.mpr rfl))
  show gG _ _ _ _ _ _ _ _ _ _
  refine e_putF M_9_init d_9_init_130 pf_9_65 rfl vb11 (by rfl) (by rfl) (fun z11 v11 ec11 => ?_)
  have r11 := ec11.weak (S' := [a]) (fun x hx => hx)
  have r10 := (((ec10.weak (S' := [a]) (fun x hx => hx)).trans ea11 (by simp)).trans eb11 (by simp)).trans r11 (by simp)
  have r9 := (((ec9.weak (S' := [a]) (fun x hx => hx)).trans ea10 (by simp)).trans eb10 (by simp)).trans r10 (by simp)
  have r8 := (((ec8.weak (S' := [a]) (fun x hx => hx)).trans ea9 (by simp)).trans eb9 (by simp)).trans r9 (by simp)
  have r7 := (((ec7.weak (S' := [a]) (fun x hx => hx)).trans ea8 (by simp)).trans eb8 (by simp)).trans r8 (by simp)
  have r6 := (((ec6.weak (S' := [a]) (fun x hx => hx)).trans ea7 (by simp)).trans eb7 (by simp)).trans r7 (by simp)
  have r5 := (((ec5.weak (S' := [a]) (fun x hx => hx)).trans ea6 (by simp)).trans eb6 (by simp)).trans r6 (by simp)
  have r4 := (((ec4.weak (S' := [a]) (fun x hx => hx)).trans ea5 (by simp)).trans eb5 (by simp)).trans r5 (by simp)
  have r3 := (((ec3.weak (S' := [a]) (fun x hx => hx)).trans ea4 (by simp)).trans eb4 (by simp)).trans r4 (by simp)
  have r2 := (((ec2.weak (S' := [a]) (fun x hx => hx)).trans ea3 (by simp)).trans eb3 (by simp)).trans r3 (by simp)
  have r1 := (((ec1.weak (S' := [a]) (fun x hx => hx)).trans ea2 (by simp)).trans eb2 (by simp)).trans r2 (by simp)
  have T0 := ((ea1.weak (S' := [a]) (by simp)).trans eb1 (by simp)).trans r1 (by simp)
  have T : gExt h z11 [a] ([tx, ts, tg] ++ ((qn :: An) ++ ((qs :: As) ++ ([hi, arr] ++ (B1 ++ (B2 ++ (B3 ++ (B4 ++ ((qt :: At) ++ [qo, of, ol, os, osl, wa, wal, pl, pll, og, ogl, ps, pa, pn, oz, oa, on]))))))))) := by simpa using T0
  have ne : ∀ x, x ∈ ([tx, ts, tg] ++ ((qn :: An) ++ ((qs :: As) ++ ([hi, arr] ++ (B1 ++ (B2 ++ (B3 ++ (B4 ++ ((qt :: At) ++ [qo, of, ol, os, osl, wa, wal, pl, pll, og, ogl, ps, pa, pn, oz, oa, on]))))))))) → x ∉ [a] := fun x hx => T.mem_ne h0 hx
  have ln1 : (qn :: An).length = 24 := by simp [ln]
  have ls1 : (qs :: As).length = 24 := by simp [lsn]
  have lt1 : (qt :: At).length = 24 := by simp [lt5]
  have lb1 := W4b1.1
  have lb2 := W4b2.1
  have lb3 := W4b3.1
  have lb4 := W4b4.1
  generalize hTT : ([tx, ts, tg] ++ ((qn :: An) ++ ((qs :: As) ++ ([hi, arr] ++ (B1 ++ (B2 ++ (B3 ++ (B4 ++ ((qt :: At) ++ [qo, of, ol, os, osl, wa, wal, pl, pll, og, ogl, ps, pa, pn, oz, oa, on]))))))))) = TT at T ne
  have hTl : (a :: TT).length = 191 := by rw [← hTT]; simp [ln, lsn, lt5, lb1, lb2, lb3, lb4]
  have hnd : (a :: TT).Nodup := by
    rw [List.nodup_cons]
    exact ⟨fun hx => ne a hx (List.mem_singleton.mpr rfl), T.1⟩
  obtain ⟨L, hL⟩ : ∃ L : Nat → Nat → Nat, L = fun i j => (a :: TT).getD (posL i j) 0 := ⟨_, rfl⟩
  have hLe : ∀ i j, L i j = (a :: TT).getD (posL i j) 0 := fun i j => by rw [hL]
  have sL : sepL L := by
    intro i j i' j' o1 o2 e
    rw [hLe, hLe] at e
    exact posL_inj o1 o2 (nodup_getD hnd (by rw [hTl]; exact posL_lt o1) (by rw [hTl]; exact posL_lt o2) e)
  have memL : ∀ i j, okL i j → L i j = a ∨ L i j ∈ TT := by
    intro i j o1
    rw [hLe]
    exact List.mem_cons.mp (getD_mem (by rw [hTl]; exact posL_lt o1))
  have sk : ∀ p : Nat, (a :: TT).getD (4 + p) 0 = ((qn :: An) ++ ((qs :: As) ++ ([hi, arr] ++ (B1 ++ (B2 ++ (B3 ++ (B4 ++ ((qt :: At) ++ [qo, of, ol, os, osl, wa, wal, pl, pll, og, ogl, ps, pa, pn, oz, oa, on])))))))).getD p 0 := by
    intro p
    rw [← hTT]
    exact getD_skip (P := [a, tx, ts, tg]) rfl
  have L1 : ∀ j, j < 24 → L 1 j = (qn :: An).getD j 0 := by
    intro j hj
    rw [hLe, show posL 1 j = 4 + j from rfl, sk, getD_head (by omega)]
  have L2 : ∀ j, j < 24 → L 2 j = (qs :: As).getD j 0 := by
    intro j hj
    rw [hLe, show posL 2 j = 4 + (24 + j) by show 28 + j = _; omega, sk, getD_skip ln1, getD_head (by omega)]
  have sk2 : ∀ p : Nat, (a :: TT).getD (52 + p) 0 = ([hi, arr] ++ (B1 ++ (B2 ++ (B3 ++ (B4 ++ ((qt :: At) ++ [qo, of, ol, os, osl, wa, wal, pl, pll, og, ogl, ps, pa, pn, oz, oa, on])))))).getD p 0 := by
    intro p
    rw [show 52 + p = 4 + (24 + (24 + p)) by omega, sk, getD_skip ln1, getD_skip ls1]
  have L4 : ∀ j, j < 24 → L 4 j = B1.getD j 0 := by
    intro j hj
    rw [hLe, show posL 4 j = 52 + (2 + j) by show 54 + 24 * 0 + j = _; omega, sk2, getD_skip (P := [hi, arr]) (n := 2) rfl, getD_head (by omega)]
  have L5 : ∀ j, j < 24 → L 5 j = B2.getD j 0 := by
    intro j hj
    rw [hLe, show posL 5 j = 52 + (2 + (24 + j)) by show 54 + 24 * 1 + j = _; omega, sk2, getD_skip (P := [hi, arr]) (n := 2) rfl, getD_skip lb1, getD_head (by omega)]
  have L6 : ∀ j, j < 24 → L 6 j = B3.getD j 0 := by
    intro j hj
    rw [hLe, show posL 6 j = 52 + (2 + (24 + (24 + j))) by show 54 + 24 * 2 + j = _; omega, sk2, getD_skip (P := [hi, arr]) (n := 2) rfl, getD_skip lb1, getD_skip lb2, getD_head (by omega)]
  have L7 : ∀ j, j < 24 → L 7 j = B4.getD j 0 := by
    intro j hj
    rw [hLe, show posL 7 j = 52 + (2 + (24 + (24 + (24 + j)))) by show 54 + 24 * 3 + j = _; omega, sk2, getD_skip (P := [hi, arr]) (n := 2) rfl, getD_skip lb1, getD_skip lb2, getD_skip lb3, getD_head (by omega)]
  have sk3 : ∀ p : Nat, (a :: TT).getD (150 + p) 0 = ((qt :: At) ++ [qo, of, ol, os, osl, wa, wal, pl, pll, og, ogl, ps, pa, pn, oz, oa, on]).getD p 0 := by
    intro p
    rw [show 150 + p = 52 + (2 + (24 + (24 + (24 + (24 + p))))) by omega, sk2, getD_skip (P := [hi, arr]) (n := 2) rfl, getD_skip lb1, getD_skip lb2, getD_skip lb3, getD_skip lb4]
  have L3 : ∀ j, j < 24 → L 3 j = (qt :: At).getD j 0 := by
    intro j hj
    rw [hLe, show posL 3 j = 150 + j from rfl, sk3, getD_head (by omega)]
  have Lm : ∀ j : Nat, L 0 (6 + j) = ([qo, of, ol, os, osl, wa, wal, pl, pll, og, ogl, ps, pa, pn, oz, oa, on] : List Nat).getD j 0 := by
    intro j
    rw [hLe, show posL 0 (6 + j) = 150 + (24 + j) by unfold posL; rw [if_pos rfl, if_neg (by omega), if_neg (by omega)]; omega, sk3, getD_skip lt1]
  have l00 : L 0 0 = a := by rw [hLe]; rfl
  have l01 : L 0 1 = tx := by rw [hLe, ← hTT]; rfl
  have l02 : L 0 2 = ts := by rw [hLe, ← hTT]; rfl
  have l03 : L 0 3 = tg := by rw [hLe, ← hTT]; rfl
  have l04 : L 0 4 = hi := by rw [hLe, show posL 0 4 = 52 + 0 from rfl, sk2]; rfl
  have l05 : L 0 5 = arr := by rw [hLe, show posL 0 5 = 52 + 1 from rfl, sk2]; rfl
  have l06 : L 0 6 = qo := Lm 0
  have l07 : L 0 7 = of := Lm 1
  have l08 : L 0 8 = ol := Lm 2
  have l09 : L 0 9 = os := Lm 3
  have l010 : L 0 10 = osl := Lm 4
  have l011 : L 0 11 = wa := Lm 5
  have l012 : L 0 12 = wal := Lm 6
  have l013 : L 0 13 = pl := Lm 7
  have l014 : L 0 14 = pll := Lm 8
  have l015 : L 0 15 = og := Lm 9
  have l016 : L 0 16 = ogl := Lm 10
  have l017 : L 0 17 = ps := Lm 11
  have l018 : L 0 18 = pa := Lm 12
  have l019 : L 0 19 = pn := Lm 13
  have l020 : L 0 20 = oz := Lm 14
  have l021 : L 0 21 = oa := Lm 15
  have l022 : L 0 22 = on := Lm 16
  have l10 : L 1 0 = qn := L1 0 (by decide)
  have l20 : L 2 0 = qs := L2 0 (by decide)
  have l30 : L 3 0 = qt := L3 0 (by decide)
  have al : ∀ x, x ∈ ([tx, ts, tg] ++ ((qn :: An) ++ ((qs :: As) ++ ([hi, arr] ++ (B1 ++ (B2 ++ (B3 ++ (B4 ++ ((qt :: At) ++ [qo, of, ol, os, osl, wa, wal, pl, pll, og, ogl, ps, pa, pn, oz, oa, on]))))))))) → x ∉ [a] := fun x hx => ne x (by rw [← hTT]; exact hx)
  have wB : ∀ (hx : Hp_) (B : List Nat) (A9 : List Nat) (v9 : Sl_), stB hx B v9 → gExt hx z11 [a] A9 → (∀ x ∈ B, x ∈ ([tx, ts, tg] ++ ((qn :: An) ++ ((qs :: As) ++ ([hi, arr] ++ (B1 ++ (B2 ++ (B3 ++ (B4 ++ ((qt :: At) ++ [qo, of, ol, os, osl, wa, wal, pl, pll, og, ogl, ps, pa, pn, oz, oa, on])))))))))) → stB z11 B v9 := fun hx B A9 v9 H e hm => H.keep e (fun x hx9 => al x (hm x hx9))
  have s2 := wB _ _ _ _ (stB.of ln W2) r2 (fun x hx => by simp only [List.mem_append]; exact Or.inr (Or.inl hx))
  have s3 := wB _ _ _ _ (stB.of lsn W3) r3 (fun x hx => by simp only [List.mem_append]; exact Or.inr (Or.inr (Or.inl hx)))
  have s5 := wB _ _ _ _ (stB.of lt5 W5) r5 (fun x hx => by simp only [List.mem_append]; exact Or.inr (Or.inr (Or.inr (Or.inr (Or.inr (Or.inr (Or.inr (Or.inr (Or.inl hx)))))))))
  have b1 := wB _ _ _ _ W4b1 r4 (fun x hx => by simp only [List.mem_append]; exact Or.inr (Or.inr (Or.inr (Or.inr (Or.inl hx)))))
  have b2 := wB _ _ _ _ W4b2 r4 (fun x hx => by simp only [List.mem_append]; exact Or.inr (Or.inr (Or.inr (Or.inr (Or.inr (Or.inl hx))))))
  have b3 := wB _ _ _ _ W4b3 r4 (fun x hx => by simp only [List.mem_append]; exact Or.inr (Or.inr (Or.inr (Or.inr (Or.inr (Or.inr (Or.inl hx)))))))
  have b4 := wB _ _ _ _ W4b4 r4 (fun x hx => by simp only [List.mem_append]; exact Or.inr (Or.inr (Or.inr (Or.inr (Or.inr (Or.inr (Or.inr (Or.inl hx))))))))
  have am : ∀ x, x ∈ [tx, ts, tg, hi, arr, qo, of, ol, os, osl, wa, wal, pl, pll, og, ogl, ps, pa, pn, oz, oa, on] → x ∉ [a] := by
    intro x hx
    refine al x ?_
    simp only [List.mem_cons, List.not_mem_nil, or_false] at hx
    simp only [List.mem_append, List.mem_cons, List.not_mem_nil, or_false]
    rcases hx with rfl | rfl | rfl | rfl | rfl | rfl | rfl | rfl | rfl | rfl | rfl | rfl | rfl | rfl | rfl | rfl | rfl | rfl | rfl | rfl | rfl | rfl <;> simp
  have MT : mtR z11 L id [] N0_ none [] := by
    refine ⟨?_, ?_, s2.2.congr L1, ⟨_, s3.2.congr L2, fun z hz => by cases hz⟩, ⟨_, s5.2.congr L3⟩, ⟨by decide, ?_, fun i hi => hi, fun i j _ _ e => e, fh, ?_, ?_⟩, ?_⟩
    · rw [l00, l01, l10, l20, l04, l30, l06, l011, l013, l015, l017, l020]; exact v11
    · rw [l01, l02, l03]; exact W1.keep r1 (am _ (by simp)) (am _ (by simp)) (am _ (by simp))
    · rw [l04, l05]; exact r4.keep W4o (am _ (by simp))
    · rw [l05]; exact r4.keep W4a (am _ (by simp))
    · intro i hi
      rcases i with _ | _ | _ | _ | i
      · exact ⟨by rw [show L (4 + id 0) 0 = _ from L4 0 (by decide)]; exact F0, _, b1.2.congr L4, fun z => absurd z (by decide)⟩
      · exact ⟨by rw [show L (4 + id 1) 0 = _ from L5 0 (by decide)]; exact F1, _, b2.2.congr L5, fun z => absurd z (by decide)⟩
      · exact ⟨by rw [show L (4 + id 2) 0 = _ from L6 0 (by decide)]; exact F2, _, b3.2.congr L6, fun z => absurd z (by decide)⟩
      · exact ⟨by rw [show L (4 + id 3) 0 = _ from L7 0 (by decide)]; exact F3, _, b4.2.congr L7, fun z => absurd z (by decide)⟩
      · omega
    · refine ⟨⟨0, 0, 0, [], [], ?_⟩, ⟨[], ?_⟩, ⟨[], ?_⟩, ⟨[], ?_⟩, ⟨[], ?_⟩, [], ?_⟩
      · rw [l06, l07, l08, l09, l010]; exact W6.keep r6 (am _ (by simp)) (am _ (by simp)) (am _ (by simp)) (am _ (by simp)) (am _ (by simp))
      · rw [l011, l012]; exact W7.toR.keep r7 (am _ (by simp)) (am _ (by simp))
      · rw [l013, l014]; exact W8.toR.keep r8 (am _ (by simp)) (am _ (by simp))
      · rw [l015, l016]; exact W9.toR.keep r9 (am _ (by simp)) (am _ (by simp))
      · rw [l017, l018, l019]; exact W10.toR.keep r10 (am _ (by simp)) (am _ (by simp)) (am _ (by simp))
      · rw [l020, l021, l022]; exact W11.toR.keep r11 (am _ (by simp)) (am _ (by simp)) (am _ (by simp))
  refine g_aloadn M_9_init d_9_init_133 (by first | rfl | assumption) ?_
  refine g_get M_9_init d_9_init_134 fl_9_19 (by assumption) (by rfl) ?_
  have sN : sepR (L 1) 24 := fun i j hi hj e => (sL 1 i 1 j (Or.inr ⟨by decide, by decide, hi⟩) (Or.inr ⟨by decide, by decide, hj⟩) e).2
  have hqn := MT.2.2.1.1
  rw [l10] at hqn
  refine gc_V M_9_init (fr' := 5) (lo' := 220) (kc' := 4) (ks' := 36) 0 0 [] [] d_9_init_137 cv_9_68 hqn (by rfl) (by rfl) (Nat.le_of_ble_eq_true (by rfl)) (Nat.le_of_ble_eq_true (by rfl)) (by decide) (by decide) (by decide) (by decide) ?_
  rw [← l10]
  refine C_6_addFirstDie sN MT.2.2.1 (fun h9 A9 e9 D9 => ?_)
  show gG _ _ _ _ _ _ _ _ _ _
  refine g_vret M_9_init d_9_init_140 rfl (k L (TT ++ A9) h9 sL l00 (fun i j o1 => (memL i j o1).imp id (fun q => List.mem_append.mpr (Or.inl q))) (T.trans e9 (fun x hx => ?_)) (MT.now sL e9 D9))
  obtain ⟨j, hj, rfl⟩ := List.mem_map.mp hx
  rcases memL 1 j (Or.inr ⟨by decide, by decide, List.mem_range.mp hj⟩) with q | q
  · exact Or.inl (List.mem_singleton.mpr q)
  · exact Or.inr q
