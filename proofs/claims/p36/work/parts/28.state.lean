/-! ===== a state in plain numbers; its plurals ===== -/
/-- nouns, irregular words, their plurals, dies, heaps, struck, melted -/
abbrev Sn_ : Type := List (List Nat) × List (List Nat) × List (List Nat) × Dl_ × Hn_ × Nat × Nat
def sL (x : Sn_) : Sl_ := (x.1, x.2.1, x.2.2.1, x.2.2.2.1, hL x.2.2.2.2.1, nI x.2.2.2.2.2.1, nI x.2.2.2.2.2.2)
def stN (h : Hp_) (r : Nat → Nat) (x : Sn_) : Prop := stR h r (sL x) ∧ (∀ y ∈ x.2.2.2.2.1, y.2.1 < 2 ^ 30 ∧ y.2.2 < 2 ^ 30) ∧ 0 < x.2.2.2.1.1.length
theorem stN.keep {h h' : Hp_} {S A : List Nat} {r : Nat → Nat} {x : Sn_} (H : stN h r x) (e : gExt h h' S A) (hs : ∀ k, k < 24 → r k ∉ S) : stN h' r x := ⟨H.1.keep e hs, H.2⟩
theorem stN.he {h : Hp_} {r : Nat → Nat} {x : Sn_} (H : stN h r x) : heN h (fun k => r (18 + k)) x.2.2.2.2.1 := ⟨H.1.2.2.2.2.2.1, H.2.1⟩
/-- the plural of a word -/
def plS (x : Sn_) (w : List Nat) : List Nat := match fst (fun i => decide (x.2.1.getD i [] = w)) x.2.1.length with
  | some i => x.2.2.1.getD i []
  | none => prD x.2.2.2.1 (chD x.2.2.2.1 w) w
theorem fst_lt {P : Nat → Bool} {n i : Nat} (h : fst P n = some i) : i < n := by
  unfold fst at h
  rw [List.find?_range_eq_some] at h
  exact List.mem_range.mp h.2.1
theorem chD_lt {v : Dl_} {w : List Nat} (h : 0 < v.1.length) : chD v w < v.1.length := by
  have := chG_lt (v := v) (w := w) (k := v.1.length - 1)
  unfold chD
  omega

set_option maxHeartbeats 4000000 in
set_option maxRecDepth 100000 in
theorem C_6_makePlural {r : Nat → Nat} {x : Sn_} {aw lw : Nat} {w : List Nat} {h : Hp_} {Q : Ot_ → Hp_ → Prop} (D : stN h r x) (W : wdR h aw lw w) (hw : w.length ≤ 12) (n0 : aw ≠ lw) (o : ∀ k, k < 24 → r k ≠ aw ∧ r k ≠ lw) (k : ∀ h', gExt h h' [aw, lw] [] → wdR h' aw lw (plS x w) → Q (.inl none) h') : gG 5 220 0 0 M_6_makePlural 0 (lv_args 0 [.ref (r 0), .ref aw]) [] h Q := by
  obtain ⟨v0, W1, W2, W3, DD, HH, l1⟩ := id D.1
  have iwl := W2.1
  refine g_aloadn M_6_makePlural d_6_makePlural_0 (by first | rfl | assumption) ?_
  refine g_get M_6_makePlural d_6_makePlural_1 fl_6_20 (by assumption) (by rfl) ?_
  refine g_aloadn M_6_makePlural d_6_makePlural_4 (by first | rfl | assumption) ?_
  refine gc_V M_6_makePlural 0 0 [.ref aw] [] d_6_makePlural_5 cv_6_59 W2.2.2.1 (by rfl) (by rfl) (Nat.le_of_ble_eq_true (by rfl)) (Nat.le_of_ble_eq_true (by rfl)) (by decide) (by decide) (by decide) (by decide) (C_8_find (by decide) (by decide) W2 W ?_)
  show gG _ _ _ _ _ _ _ _ _ _
  refine g_istoren M_6_makePlural d_6_makePlural_8 (by decide) (by first | rfl | (simp only [gc]; simp [*])) ?_
  refine g_iloadn M_6_makePlural d_6_makePlural_9 (by first | rfl | assumption) ?_
  refine g_iconst M_6_makePlural (v := -1) d_6_makePlural_10 (by decide) ?_
  cases e : fst (fun i => decide ((sL x).2.1.getD i [] = w)) (sL x).2.1.length with
  | some i =>
    have il : i < (sL x).2.1.length := fst_lt e
    have ep : plS x w = (sL x).2.2.1.getD i [] := by unfold plS; rw [show fst (fun i => decide (x.2.1.getD i [] = w)) x.2.1.length = some i from e]; rfl
    have ne : ¬ oI (some i) = -1 := fun z => by
      have z2 : nI i < 0 := by rw [show nI i = -1 from z]; decide
      exact nI_pos (by omega) z2
    refine g_icmp_eq M_6_makePlural (tgt := 26) d_6_makePlural_11 (by decide) (fun c => absurd c ne) (fun _ => ?_)
    refine g_aloadn M_6_makePlural d_6_makePlural_14 (by first | rfl | assumption) ?_
    refine g_get M_6_makePlural d_6_makePlural_15 fl_6_23 (by assumption) (by rfl) ?_
    refine g_iloadn M_6_makePlural d_6_makePlural_18 (by first | rfl | assumption) ?_
    refine g_aloadn M_6_makePlural d_6_makePlural_19 (by first | rfl | assumption) ?_
    refine gc_V M_6_makePlural 0 0 [.int (nI i), .ref aw] [] d_6_makePlural_20 cv_6_51 W3.2.2.1 (by rfl) (by rfl) (Nat.le_of_ble_eq_true (by rfl)) (Nat.le_of_ble_eq_true (by rfl)) (by decide) (by decide) (by decide) (by decide) (C_8_load (by decide) (by decide) W3 (by omega) W n0 (fun y hy q => by simp only [List.mem_cons, List.not_mem_nil, or_false] at hy q; rcases hy with rfl | rfl | rfl <;> rcases q with q | q <;> first | exact (o _ (by decide)).1 q | exact (o _ (by decide)).2 q) (fun h1 e1 X1 => ?_))
    show gG _ _ _ _ _ _ _ _ _ _
    refine g_goto M_6_makePlural (tgt := 42) d_6_makePlural_23 (by decide) ?_
    exact g_vret M_6_makePlural d_6_makePlural_42 rfl (k h1 e1 (by rw [ep]; exact X1))
  | none =>
    have ep : plS x w = prD x.2.2.2.1 (chD x.2.2.2.1 w) w := by unfold plS; rw [show fst (fun i => decide (x.2.1.getD i [] = w)) x.2.1.length = none from e]
    refine g_icmp_eq M_6_makePlural (tgt := 26) d_6_makePlural_11 (by decide) (fun _ => ?_) (fun c => absurd rfl c)
    refine g_aloadn M_6_makePlural d_6_makePlural_26 (by first | rfl | assumption) ?_
    refine g_get M_6_makePlural d_6_makePlural_27 fl_6_29 (by assumption) (by rfl) ?_
    refine g_aloadn M_6_makePlural d_6_makePlural_30 (by first | rfl | assumption) ?_
    refine g_get M_6_makePlural d_6_makePlural_31 fl_6_29 (by assumption) (by rfl) ?_
    refine g_aloadn M_6_makePlural d_6_makePlural_34 (by first | rfl | assumption) ?_
    refine gc_V M_6_makePlural 0 0 [.ref aw] [.ref (r 10)] d_6_makePlural_35 cv_6_63 DD.1 (by rfl) (by rfl) (Nat.le_of_ble_eq_true (by rfl)) (Nat.le_of_ble_eq_true (by rfl)) (by decide) (by decide) (by decide) (by decide) (C_0_choose DD D.2.2 W ?_)
    show gG _ _ _ _ _ _ _ _ _ _
    refine g_aloadn M_6_makePlural d_6_makePlural_38 (by first | rfl | assumption) ?_
    refine gc_V M_6_makePlural 0 0 [.int _, .ref aw] [] d_6_makePlural_39 cv_6_66 DD.1 (by rfl) (by rfl) (Nat.le_of_ble_eq_true (by rfl)) (Nat.le_of_ble_eq_true (by rfl)) (by decide) (by decide) (by decide) (by decide) (C_0_press DD (chD_lt D.2.2) W hw n0 (fun y hy => o _ (by omega)) (fun h1 e1 X1 => ?_))
    show gG _ _ _ _ _ _ _ _ _ _
    exact g_vret M_6_makePlural d_6_makePlural_42 rfl (k h1 e1 (by rw [ep]; exact X1))
set_option maxHeartbeats 4000000 in
set_option maxRecDepth 100000 in
theorem C_6_loadPlural {r : Nat → Nat} {x : Sn_} {aw lw : Nat} {w : List Nat} {h : Hp_} {Q : Ot_ → Hp_ → Prop} {n : Nat} (D : stN h r x) (hn : n < 2 ^ 31) (W : wdR h aw lw w) (n0 : aw ≠ lw) (o : ∀ k, k < 24 → r k ≠ aw ∧ r k ≠ lw) (k : ∀ h', gExt h h' [aw, lw] [] → wdR h' aw lw (plS x (x.1.getD n [])) → Q (.inl none) h') : gG 6 260 0 0 M_6_loadPlural 0 (lv_args 0 [.ref (r 0), .int (nI n), .ref aw]) [] h Q := by
  obtain ⟨v0, W1, W2, W3, DD, HH, l1⟩ := id D.1
  have off : ∀ k, k < 24 → r k ∉ [aw, lw] := fun k hk => by simpa using o k hk
  refine g_aloadn M_6_loadPlural d_6_loadPlural_0 (by first | rfl | assumption) ?_
  refine g_get M_6_loadPlural d_6_loadPlural_1 fl_6_14 (by assumption) (by rfl) ?_
  refine g_iloadn M_6_loadPlural d_6_loadPlural_4 (by first | rfl | assumption) ?_
  refine g_aloadn M_6_loadPlural d_6_loadPlural_5 (by first | rfl | assumption) ?_
  refine gc_V M_6_loadPlural 0 0 [.int (nI n), .ref aw] [] d_6_loadPlural_6 cv_6_51 W1.2.2.1 (by rfl) (by rfl) (Nat.le_of_ble_eq_true (by rfl)) (Nat.le_of_ble_eq_true (by rfl)) (by decide) (by decide) (by decide) (by decide) (C_8_load (by decide) (by decide) W1 hn W n0 (fun y hy q => by simp only [List.mem_cons, List.not_mem_nil, or_false] at hy q; rcases hy with rfl | rfl | rfl <;> rcases q with q | q <;> first | exact (o _ (by decide)).1 q | exact (o _ (by decide)).2 q) (fun h1 e1 X1 => ?_))
  have D1 := D.keep e1 off
  show gG _ _ _ _ _ _ _ _ _ _
  refine g_aloadn M_6_loadPlural d_6_loadPlural_9 (by first | rfl | assumption) ?_
  refine g_aloadn M_6_loadPlural d_6_loadPlural_10 (by first | rfl | assumption) ?_
  refine gc_V M_6_loadPlural 0 0 [.ref aw] [] d_6_loadPlural_11 cv_6_55 D1.1.1 (by rfl) (by rfl) (Nat.le_of_ble_eq_true (by rfl)) (Nat.le_of_ble_eq_true (by rfl)) (by decide) (by decide) (by decide) (by decide) (C_6_makePlural D1 X1 (wd_get W1.2.1).1 n0 o (fun h2 e2 X2 => ?_))
  show gG _ _ _ _ _ _ _ _ _ _
  exact g_vret M_6_loadPlural d_6_loadPlural_14 rfl (k h2 (by simpa using e1.trans e2 (fun y hy => Or.inl hy)) X2)
set_option maxHeartbeats 4000000 in
set_option maxRecDepth 100000 in
theorem C_6_isStale {r : Nat → Nat} {x : Sn_} {aw lw : Nat} {w : List Nat} {h : Hp_} {Q : Ot_ → Hp_ → Prop} {i : Nat} (D : stN h r x) (hi : i < x.2.2.2.2.1.length) (W : wdR h aw lw w) (n0 : aw ≠ lw) (o : ∀ k, k < 24 → r k ≠ aw ∧ r k ≠ lw) (k : ∀ h' w', gExt h h' [aw, lw] [] → wdR h' aw lw w' → Q (.inl (some (.int (bI (!(decide ((hx x.2.2.2.2.1 i).1 = plS x (x.1.getD (hx x.2.2.2.2.1 i).2.1 []))))))) ) h') : gG 6 260 0 0 M_6_isStale 0 (lv_args 0 [.ref (r 0), .int (nI i), .ref aw]) [] h Q := by
  obtain ⟨v0, W1, W2, W3, DD, HH, l1⟩ := id D.1
  have off : ∀ k, k < 24 → r k ∉ [aw, lw] := fun k hk => by simpa using o k hk
  have ob := (D.2.1 _ (hx_mem hi)).1
  refine g_aloadn M_6_isStale d_6_isStale_0 (by first | rfl | assumption) ?_
  refine g_get M_6_isStale d_6_isStale_1 fl_6_14 (by assumption) (by rfl) ?_
  refine g_aloadn M_6_isStale d_6_isStale_4 (by first | rfl | assumption) ?_
  refine g_get M_6_isStale d_6_isStale_5 fl_6_36 (by assumption) (by rfl) ?_
  refine g_iloadn M_6_isStale d_6_isStale_8 (by first | rfl | assumption) ?_
  refine gc_V M_6_isStale 0 0 [.int (nI i)] [_] d_6_isStale_9 cv_6_69 HH.1 (by rfl) (by rfl) (Nat.le_of_ble_eq_true (by rfl)) (Nat.le_of_ble_eq_true (by rfl)) (by decide) (by decide) (by decide) (by decide) (C_2_ownerOf D.he hi ?_)
  show gG _ _ _ _ _ _ _ _ _ _
  refine g_aloadn M_6_isStale d_6_isStale_12 (by first | rfl | assumption) ?_
  refine gc_V M_6_isStale 0 0 [.int (nI (hx x.2.2.2.2.1 i).2.1), .ref aw] [] d_6_isStale_13 cv_6_51 W1.2.2.1 (by rfl) (by rfl) (Nat.le_of_ble_eq_true (by rfl)) (Nat.le_of_ble_eq_true (by rfl)) (by decide) (by decide) (by decide) (by decide) (C_8_load (by decide) (by decide) W1 (by omega) W n0 (fun y hy q => by simp only [List.mem_cons, List.not_mem_nil, or_false] at hy q; rcases hy with rfl | rfl | rfl <;> rcases q with q | q <;> first | exact (o _ (by decide)).1 q | exact (o _ (by decide)).2 q) (fun h1 e1 X1 => ?_))
  have D1 := D.keep e1 off
  show gG _ _ _ _ _ _ _ _ _ _
  refine g_aloadn M_6_isStale d_6_isStale_16 (by first | rfl | assumption) ?_
  refine g_aloadn M_6_isStale d_6_isStale_17 (by first | rfl | assumption) ?_
  refine gc_V M_6_isStale 0 0 [.ref aw] [] d_6_isStale_18 cv_6_55 D1.1.1 (by rfl) (by rfl) (Nat.le_of_ble_eq_true (by rfl)) (Nat.le_of_ble_eq_true (by rfl)) (by decide) (by decide) (by decide) (by decide) (C_6_makePlural D1 X1 (wd_get W1.2.1).1 n0 o (fun h2 e2 X2 => ?_))
  have D2 := D1.keep e2 off
  obtain ⟨v02, -, -, -, -, HH2, -⟩ := id D2.1
  show gG _ _ _ _ _ _ _ _ _ _
  refine g_aloadn M_6_isStale d_6_isStale_21 (by first | rfl | assumption) ?_
  refine g_get M_6_isStale d_6_isStale_22 fl_6_36 (by assumption) (by rfl) ?_
  refine g_iloadn M_6_isStale d_6_isStale_25 (by first | rfl | assumption) ?_
  refine g_aloadn M_6_isStale d_6_isStale_26 (by first | rfl | assumption) ?_
  refine gc_V M_6_isStale 0 0 [.int (nI i), .ref aw] [] d_6_isStale_27 cv_6_73 HH2.1 (by rfl) (by rfl) (Nat.le_of_ble_eq_true (by rfl)) (Nat.le_of_ble_eq_true (by rfl)) (by decide) (by decide) (by decide) (by decide) (C_2_bears D2.he hi X2 ?_)
  show gG _ _ _ _ _ _ _ _ _ _
  have k2 := k h2 _ (by simpa using e1.trans e2 (fun y hy => Or.inl hy)) X2
  have es : (sL x).1 = x.1 := rfl
  rw [es]
  cases e : decide ((hx x.2.2.2.2.1 i).1 = plS x (x.1.getD (hx x.2.2.2.2.1 i).2.1 [])) with
  | false =>
    rw [e] at k2
    refine g_if_ne M_6_isStale (tgt := 37) d_6_isStale_30 (by decide) (fun c9 => absurd rfl c9) (fun _ => ?_)
    refine g_iconst M_6_isStale (v := nI 1) d_6_isStale_33 (by decide) ?_
    refine g_goto M_6_isStale (tgt := 38) d_6_isStale_34 (by decide) ?_
    exact g_iret M_6_isStale d_6_isStale_38 rfl (by decide) k2
  | true =>
    rw [e] at k2
    refine g_if_ne M_6_isStale (tgt := 37) d_6_isStale_30 (by decide) (fun _ => ?_) (fun c9 => absurd c9 (by decide))
    refine g_iconst M_6_isStale (v := nI 0) d_6_isStale_37 (by decide) ?_
    exact g_iret M_6_isStale d_6_isStale_38 rfl (by decide) k2
