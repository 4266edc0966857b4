/-! ===== a step of the law: the other cases ===== -/
theorem mW_app {a b : List Nat} : mWs a ++ b.map sg = mWs (a ++ b) := (List.map_append ..).symm
theorem mW_one {a : List Nat} {c : Nat} : mWs a ++ [sg c] = mWs (a ++ [c]) := by
  show _ = List.map sg _
  rw [List.map_append]
  rfl
theorem mW_len {a : List Nat} : (mWs a).length = a.length := List.length_map ..
theorem imp_m {X Y : Mt_} (r : Y.2 = mM X.2) (t : Y.1 = mWs X.1) : (acO Y.2.1 Y.1).isSome = (acO X.2.1 X.1).isSome := by
  rw [r, t, show acO (mM X.2).1 (mWs X.1) = (acO X.2.1 X.1).map mS from acO_m, Option.isSome_map]
set_option maxHeartbeats 4000000 in
set_option maxRecDepth 100000 in
theorem S_dropDie {L L9 : Nat → Nat → Nat} {a9 : Nat} {v9 : Ent_} {X Y : Mt_} {h : Hp_} {Q : Ot_ → Hp_ → Prop} {lv : List (Nat × Value)} {x y z : Int32} {k m t : Nat} (T0 : tw h L L9 a9 v9 X Y) (R : Rl t X Y) (ht : t ≤ 60) (hl : isL lv L L9 X x y z k m) (hk : k ≤ X.2.1.1.length) (hm : 1 ≤ m ∧ m ≤ 99) (kk : ∀ h' X' Y', tw h' L L9 a9 v9 X' Y' → Rl (t + 1) X' Y' → Q (.inl (some (.int (nI 1)))) h') : gG 11 430 8 48 M_L_isStep 372 lv [] h Q := by
  obtain ⟨r, hI⟩ := R
  obtain ⟨H0, H1, H2, H3, H4, H5, H6, H7, H8, H9, H10⟩ := hl
  have nl := T0.1.un.2.2.2.2.2.2.1.1
  have nlY := T0.2.1.un.2.2.2.2.2.2.1.1
  have el := T0.1.un.2.2.2.2.2.2.2.2.2.2.1.le
  obtain ⟨b1, b2⟩ := bnd hI.1 ht
  have dl := T0.1.un.2.2.2.2.2.2.2.2.2.1.2.1.1
  refine g_iloadn M_L_isStep d_L_isStep_372 (by first | rfl | assumption) ?_
  refine g_aloadn M_L_isStep d_L_isStep_373 (by first | rfl | assumption) ?_
  refine gc_V M_L_isStep 8 48 [] _ d_L_isStep_374 cv_L_134 T0.m0 (by rfl) (by rfl) (Nat.le_of_ble_eq_true (by rfl)) (Nat.le_of_ble_eq_true (by rfl)) (by decide) (by decide) (by omega) (by omega) (C_9_dies T0.1 ?_)
  show gG _ _ _ _ _ _ _ _ _ _
  refine g_iconst M_L_isStep (v := nI 1) d_L_isStep_377 (by decide) ?_
  refine g_iadd M_L_isStep d_L_isStep_378 ?_
  rw [nI_add]
  refine gc_S M_L_isStep 8 48 [_, _] _ d_L_isStep_379 cs_L_95 (by rfl) (by rfl) (by rfl) (Nat.le_of_ble_eq_true (by rfl)) (Nat.le_of_ble_eq_true (by rfl)) (by decide) (by decide) (by omega) (by omega) (W_up (by omega) (by omega) ?_)
  show gG _ _ _ _ _ _ _ _ _ _
  have ul := upF_lt (x := y) (n := X.2.1.2.2.2.1.1.length + 1) (by omega)
  refine g_istore M_L_isStep d_L_isStep_382 (by decide) (by first | rfl | (simp only [gc]; simp [*])) ?_
  refine g_aloadn M_L_isStep d_L_isStep_384 (by first | rfl | assumption) ?_
  refine g_iload M_L_isStep d_L_isStep_385 (by first | rfl | assumption) ?_
  refine gc_SH M_L_isStep 7 42 [_, _] _ d_L_isStep_387 cs_L_137 (by decide) (by rfl) (by rfl) (Nat.le_of_ble_eq_true (by rfl)) (Nat.le_of_ble_eq_true (by rfl)) (by decide) (by decide) (by omega) (by omega) (W_dropDie T0 (by omega) (fun h1 T1 => ?_))
  show gG _ _ _ _ _ _ _ _ _ _
  refine g_aloadn M_L_isStep d_L_isStep_390 (by first | rfl | assumption) ?_
  refine g_iload M_L_isStep d_L_isStep_391 (by first | rfl | assumption) ?_
  refine gc_SH M_L_isStep 6 36 [_, _] _ d_L_isStep_393 cs_L_137 (by decide) (by rfl) (by rfl) (Nat.le_of_ble_eq_true (by rfl)) (Nat.le_of_ble_eq_true (by rfl)) (by decide) (by decide) (by omega) (by omega) (W_dropDie T1.sw (by omega) (fun h2 T29 => ?_))
  have T2 := T29.sw
  show gG _ _ _ _ _ _ _ _ _ _
  obtain ⟨q1, q2⟩ := eq_dropDie (d := upF y (X.2.1.2.2.2.1.1.length + 1)) r
  rw [q1]
  refine g_icmp_ne M_L_isStep (tgt := 403) d_L_isStep_396 (by decide) (fun c9 => False.elim (c9 rfl)) (fun _ => ?_)
  refine g_iconst M_L_isStep (v := nI 1) d_L_isStep_399 (by decide) ?_
  refine g_goto M_L_isStep (tgt := 404) d_L_isStep_400 (by decide) ?_
  exact g_iret M_L_isStep d_L_isStep_404 rfl rfl (kk _ _ _ T2 ⟨q2, L_dropDie hI⟩)
set_option maxHeartbeats 4000000 in
set_option maxRecDepth 100000 in
theorem S_dropIrr {L L9 : Nat → Nat → Nat} {a9 : Nat} {v9 : Ent_} {X Y : Mt_} {h : Hp_} {Q : Ot_ → Hp_ → Prop} {lv : List (Nat × Value)} {x y z : Int32} {k m t : Nat} (T0 : tw h L L9 a9 v9 X Y) (R : Rl t X Y) (ht : t ≤ 60) (hl : isL lv L L9 X x y z k m) (hk : k ≤ X.2.1.1.length) (hm : 1 ≤ m ∧ m ≤ 99) (kk : ∀ h' X' Y', tw h' L L9 a9 v9 X' Y' → Rl (t + 1) X' Y' → Q (.inl (some (.int (nI 1)))) h') : gG 11 430 8 48 M_L_isStep 405 lv [] h Q := by
  obtain ⟨r, hI⟩ := R
  obtain ⟨H0, H1, H2, H3, H4, H5, H6, H7, H8, H9, H10⟩ := hl
  have nl := T0.1.un.2.2.2.2.2.2.1.1
  have nlY := T0.2.1.un.2.2.2.2.2.2.1.1
  have el := T0.1.un.2.2.2.2.2.2.2.2.2.2.1.le
  obtain ⟨b1, b2⟩ := bnd hI.1 ht
  refine g_aloadn M_L_isStep d_L_isStep_405 (by first | rfl | assumption) ?_
  refine gc_SH M_L_isStep 7 42 [_] _ d_L_isStep_406 cs_L_139 (by decide) (by rfl) (by rfl) (Nat.le_of_ble_eq_true (by rfl)) (Nat.le_of_ble_eq_true (by rfl)) (by decide) (by decide) (by omega) (by omega) (W_dropIrregular T0  (fun h1 T1 => ?_))
  show gG _ _ _ _ _ _ _ _ _ _
  refine g_aloadn M_L_isStep d_L_isStep_409 (by first | rfl | assumption) ?_
  refine gc_SH M_L_isStep 6 36 [_] _ d_L_isStep_410 cs_L_139 (by decide) (by rfl) (by rfl) (Nat.le_of_ble_eq_true (by rfl)) (Nat.le_of_ble_eq_true (by rfl)) (by decide) (by decide) (by omega) (by omega) (W_dropIrregular T1.sw  (fun h2 T29 => ?_))
  have T2 := T29.sw
  show gG _ _ _ _ _ _ _ _ _ _
  obtain ⟨q1, q2⟩ := eq_dropIrr r
  rw [q1]
  refine g_icmp_ne M_L_isStep (tgt := 420) d_L_isStep_413 (by decide) (fun c9 => False.elim (c9 rfl)) (fun _ => ?_)
  refine g_iconst M_L_isStep (v := nI 1) d_L_isStep_416 (by decide) ?_
  refine g_goto M_L_isStep (tgt := 421) d_L_isStep_417 (by decide) ?_
  exact g_iret M_L_isStep d_L_isStep_421 rfl rfl (kk _ _ _ T2 ⟨q2, L_dropIrr hI⟩)
set_option maxHeartbeats 4000000 in
set_option maxRecDepth 100000 in
theorem S_undo {L L9 : Nat → Nat → Nat} {a9 : Nat} {v9 : Ent_} {X Y : Mt_} {h : Hp_} {Q : Ot_ → Hp_ → Prop} {lv : List (Nat × Value)} {x y z : Int32} {k m t : Nat} (T0 : tw h L L9 a9 v9 X Y) (R : Rl t X Y) (ht : t ≤ 60) (hl : isL lv L L9 X x y z k m) (hk : k ≤ X.2.1.1.length) (hm : 1 ≤ m ∧ m ≤ 99) (kk : ∀ h' X' Y', tw h' L L9 a9 v9 X' Y' → Rl (t + 1) X' Y' → Q (.inl (some (.int (nI 1)))) h') : gG 11 430 8 48 M_L_isStep 751 lv [] h Q := by
  obtain ⟨r, hI⟩ := R
  obtain ⟨H0, H1, H2, H3, H4, H5, H6, H7, H8, H9, H10⟩ := hl
  have nl := T0.1.un.2.2.2.2.2.2.1.1
  have nlY := T0.2.1.un.2.2.2.2.2.2.1.1
  have el := T0.1.un.2.2.2.2.2.2.2.2.2.2.1.le
  obtain ⟨b1, b2⟩ := bnd hI.1 ht
  refine g_aloadn M_L_isStep d_L_isStep_751 (by first | rfl | assumption) ?_
  refine gc_SH M_L_isStep 7 42 [_] _ d_L_isStep_752 cs_L_161 (by decide) (by rfl) (by rfl) (Nat.le_of_ble_eq_true (by rfl)) (Nat.le_of_ble_eq_true (by rfl)) (by decide) (by decide) (by omega) (by omega) (W_undo T0  (fun h1 T1 => ?_))
  show gG _ _ _ _ _ _ _ _ _ _
  refine g_aloadn M_L_isStep d_L_isStep_755 (by first | rfl | assumption) ?_
  refine gc_SH M_L_isStep 6 36 [_] _ d_L_isStep_756 cs_L_161 (by decide) (by rfl) (by rfl) (Nat.le_of_ble_eq_true (by rfl)) (Nat.le_of_ble_eq_true (by rfl)) (by decide) (by decide) (by omega) (by omega) (W_undo T1.sw  (fun h2 T29 => ?_))
  have T2 := T29.sw
  show gG _ _ _ _ _ _ _ _ _ _
  obtain ⟨q1, q2⟩ := eq_undo r
  rw [q1]
  refine g_icmp_ne M_L_isStep (tgt := 766) d_L_isStep_759 (by decide) (fun c9 => False.elim (c9 rfl)) (fun _ => ?_)
  refine g_iconst M_L_isStep (v := nI 1) d_L_isStep_762 (by decide) ?_
  refine g_goto M_L_isStep (tgt := 767) d_L_isStep_763 (by decide) ?_
  exact g_iret M_L_isStep d_L_isStep_767 rfl rfl (kk _ _ _ T2 ⟨q2, L_undo hI⟩)
set_option maxHeartbeats 4000000 in
set_option maxRecDepth 100000 in
theorem S_snap {L L9 : Nat → Nat → Nat} {a9 : Nat} {v9 : Ent_} {X Y : Mt_} {h : Hp_} {Q : Ot_ → Hp_ → Prop} {lv : List (Nat × Value)} {x y z : Int32} {k m t : Nat} (T0 : tw h L L9 a9 v9 X Y) (R : Rl t X Y) (ht : t ≤ 60) (hl : isL lv L L9 X x y z k m) (hk : k ≤ X.2.1.1.length) (hm : 1 ≤ m ∧ m ≤ 99) (kk : ∀ h' X' Y', tw h' L L9 a9 v9 X' Y' → Rl (t + 1) X' Y' → Q (.inl (some (.int (nI 1)))) h') : gG 11 430 8 48 M_L_isStep 707 lv [] h Q := by
  obtain ⟨r, hI⟩ := R
  obtain ⟨H0, H1, H2, H3, H4, H5, H6, H7, H8, H9, H10⟩ := hl
  have nl := T0.1.un.2.2.2.2.2.2.1.1
  have nlY := T0.2.1.un.2.2.2.2.2.2.1.1
  have el := T0.1.un.2.2.2.2.2.2.2.2.2.2.1.le
  obtain ⟨b1, b2⟩ := bnd hI.1 ht
  refine g_iloadn M_L_isStep d_L_isStep_707 (by first | rfl | assumption) ?_
  refine g_iconst M_L_isStep (v := nI 2) d_L_isStep_708 (by decide) ?_
  refine gc_S M_L_isStep 8 48 [_, _] _ d_L_isStep_709 cs_L_95 (by rfl) (by rfl) (by rfl) (Nat.le_of_ble_eq_true (by rfl)) (Nat.le_of_ble_eq_true (by rfl)) (by decide) (by decide) (by omega) (by omega) (W_up (by decide) (by decide) ?_)
  show gG _ _ _ _ _ _ _ _ _ _
  by_cases u : upF y 2 = 0
  · rw [u]
    refine g_if_ne M_L_isStep (tgt := 734) d_L_isStep_712 (by decide) (fun c9 => absurd rfl c9) (fun _ => ?_)
    refine g_aloadn M_L_isStep d_L_isStep_715 (by first | rfl | assumption) ?_
    refine gc_V M_L_isStep 8 48 [] _ d_L_isStep_716 cv_L_155 T0.m0 (by rfl) (by rfl) (Nat.le_of_ble_eq_true (by rfl)) (Nat.le_of_ble_eq_true (by rfl)) (by decide) (by decide) (by omega) (by omega) (C_9_takeSnapshot T0.1 (fun h1 a1 G1 => ?_))
    have T1 := T0.o a1 G1
    show gG _ _ _ _ _ _ _ _ _ _
    refine g_aloadn M_L_isStep d_L_isStep_719 (by first | rfl | assumption) ?_
    refine gc_V M_L_isStep 8 48 [] _ d_L_isStep_720 cv_L_155 T1.sw.m0 (by rfl) (by rfl) (Nat.le_of_ble_eq_true (by rfl)) (Nat.le_of_ble_eq_true (by rfl)) (by decide) (by decide) (by omega) (by omega) (C_9_takeSnapshot T1.2.1 (fun h2 a2 G2 => ?_))
    have T2 := (T1.sw.o a2 G2).sw
    show gG _ _ _ _ _ _ _ _ _ _
    rw [rlN r]
    refine g_icmp_ne M_L_isStep (tgt := 730) d_L_isStep_723 (by decide) (fun c9 => False.elim (c9 rfl)) (fun _ => ?_)
    have q2 : ((Y.1, Y.2.1, some Y.2.1, Y.2.2.2) : Mt_).2 = mM ((X.1, X.2.1, some X.2.1, X.2.2.2) : Mt_).2 := by
      show (Y.2.1, some Y.2.1, Y.2.2.2) = (mS X.2.1, some (mS X.2.1), X.2.2.2.map mS)
      rw [r]
    refine g_iconst M_L_isStep (v := nI 1) d_L_isStep_726 (by decide) ?_
    refine g_goto M_L_isStep (tgt := 750) d_L_isStep_727 (by decide) ?_
    exact g_iret M_L_isStep d_L_isStep_750 rfl rfl (kk _ _ _ T2 ⟨q2, L_snap hI⟩)
  refine g_if_ne M_L_isStep (tgt := 734) d_L_isStep_712 (by decide) (fun _ => ?_) (fun c9 => absurd c9 (nI_ne0 (by omega) (by have := upF_lt (x := y) (n := 2) (by decide); omega)))
  refine g_aloadn M_L_isStep d_L_isStep_734 (by first | rfl | assumption) ?_
  refine gc_SH M_L_isStep 7 42 [_] _ d_L_isStep_735 cs_L_158 (by decide) (by rfl) (by rfl) (Nat.le_of_ble_eq_true (by rfl)) (Nat.le_of_ble_eq_true (by rfl)) (by decide) (by decide) (by omega) (by omega) (W_restore T0  (fun h1 T1 => ?_))
  show gG _ _ _ _ _ _ _ _ _ _
  refine g_aloadn M_L_isStep d_L_isStep_738 (by first | rfl | assumption) ?_
  refine gc_SH M_L_isStep 6 36 [_] _ d_L_isStep_739 cs_L_158 (by decide) (by rfl) (by rfl) (Nat.le_of_ble_eq_true (by rfl)) (Nat.le_of_ble_eq_true (by rfl)) (by decide) (by decide) (by omega) (by omega) (W_restore T1.sw  (fun h2 T29 => ?_))
  have T2 := T29.sw
  show gG _ _ _ _ _ _ _ _ _ _
  obtain ⟨q1, q2⟩ := eq_restore r
  rw [q1]
  refine g_icmp_ne M_L_isStep (tgt := 749) d_L_isStep_742 (by decide) (fun c9 => False.elim (c9 rfl)) (fun _ => ?_)
  refine g_iconst M_L_isStep (v := nI 1) d_L_isStep_745 (by decide) ?_
  refine g_goto M_L_isStep (tgt := 750) d_L_isStep_746 (by decide) ?_
  exact g_iret M_L_isStep d_L_isStep_750 rfl rfl (kk _ _ _ T2 ⟨q2, L_restore hI⟩)
set_option maxHeartbeats 4000000 in
set_option maxRecDepth 100000 in
theorem S_noun {L L9 : Nat → Nat → Nat} {a9 : Nat} {v9 : Ent_} {X Y : Mt_} {h : Hp_} {Q : Ot_ → Hp_ → Prop} {lv : List (Nat × Value)} {x y z : Int32} {k m t : Nat} (T0 : tw h L L9 a9 v9 X Y) (R : Rl t X Y) (ht : t ≤ 60) (hl : isL lv L L9 X x y z k m) (hk : k ≤ X.2.1.1.length) (hm : 1 ≤ m ∧ m ≤ 99) (kk : ∀ h' X' Y', tw h' L L9 a9 v9 X' Y' → Rl (t + 1) X' Y' → Q (.inl (some (.int (nI 1)))) h') : gG 11 430 8 48 M_L_isStep 768 lv [] h Q := by
  obtain ⟨r, hI⟩ := R
  obtain ⟨H0, H1, H2, H3, H4, H5, H6, H7, H8, H9, H10⟩ := hl
  have nl := T0.1.un.2.2.2.2.2.2.1.1
  have nlY := T0.2.1.un.2.2.2.2.2.2.1.1
  have el := T0.1.un.2.2.2.2.2.2.2.2.2.2.1.le
  obtain ⟨b1, b2⟩ := bnd hI.1 ht
  refine g_aloadn M_L_isStep d_L_isStep_768 (by first | rfl | assumption) ?_
  refine g_aloadn M_L_isStep d_L_isStep_769 (by first | rfl | assumption) ?_
  refine gc_S M_L_isStep 8 48 [_, _] _ d_L_isStep_770 cs_L_142 (by rfl) (by rfl) (by rfl) (Nat.le_of_ble_eq_true (by rfl)) (Nat.le_of_ble_eq_true (by rfl)) (by decide) (by decide) (by omega) (by omega) (W_empty T0  (fun h1 T1 => ?_))
  show gG _ _ _ _ _ _ _ _ _ _
  refine g_if_eq M_L_isStep (tgt := 796) d_L_isStep_773 (by decide) (fun c9 => absurd c9 (by decide)) (fun _ => ?_)
  refine g_aloadn M_L_isStep d_L_isStep_776 (by first | rfl | assumption) ?_
  refine g_aloadn M_L_isStep d_L_isStep_777 (by first | rfl | assumption) ?_
  refine g_iloadn M_L_isStep d_L_isStep_778 (by first | rfl | assumption) ?_
  refine g_iconst M_L_isStep (v := nI 1) d_L_isStep_779 (by decide) ?_
  refine g_iloadn M_L_isStep d_L_isStep_780 (by first | rfl | assumption) ?_
  refine g_iconst M_L_isStep (v := nI 5) d_L_isStep_781 (by decide) ?_
  refine gc_S M_L_isStep 8 48 [_, _] _ d_L_isStep_782 cs_L_95 (by rfl) (by rfl) (by rfl) (Nat.le_of_ble_eq_true (by rfl)) (Nat.le_of_ble_eq_true (by rfl)) (by decide) (by decide) (by omega) (by omega) (W_up (by decide) (by decide) ?_)
  show gG _ _ _ _ _ _ _ _ _ _
  have ul := upF_lt (x := y) (n := 5) (by decide)
  refine g_iadd M_L_isStep d_L_isStep_785 ?_
  rw [nI_add]
  refine gc_S M_L_isStep 8 48 [_, _, _, _] _ d_L_isStep_786 cs_L_146 (by rfl) (by rfl) (by rfl) (Nat.le_of_ble_eq_true (by rfl)) (Nat.le_of_ble_eq_true (by rfl)) (by decide) (by decide) (by omega) (by omega) (W_word T1 (by show 0 + _ < 60; omega) rfl (fun w2 h2 l2 s2 T2 => ?_))
  show gG _ _ _ _ _ _ _ _ _ _
  obtain ⟨ok, eo⟩ := tx_noun s2 (by omega) (by omega)
  replace T2 : tw h2 L L9 a9 v9 (w2, X.2) (mWs w2, Y.2) := T2
  refine g_if_eq M_L_isStep (tgt := 796) d_L_isStep_789 (by decide) (fun c9 => absurd c9 (by decide)) (fun _ => ?_)
  refine g_iconst M_L_isStep (v := nI 1) d_L_isStep_792 (by decide) ?_
  refine g_goto M_L_isStep (tgt := 797) d_L_isStep_793 (by decide) ?_
  refine g_istore M_L_isStep d_L_isStep_797 (by decide) (by first | rfl | (simp only [gc]; simp [*])) ?_
  refine g_aloadn M_L_isStep d_L_isStep_799 (by first | rfl | assumption) ?_
  refine gc_SH M_L_isStep 7 42 [_] _ d_L_isStep_800 cs_L_150 (by decide) (by rfl) (by rfl) (Nat.le_of_ble_eq_true (by rfl)) (Nat.le_of_ble_eq_true (by rfl)) (by decide) (by decide) (by omega) (by omega) (W_carryOut T2 ok (fun h3 T3 => ?_))
  show gG _ _ _ _ _ _ _ _ _ _
  refine g_istore M_L_isStep d_L_isStep_803 (by decide) (by first | rfl | (simp only [gc]; simp [*])) ?_
  refine g_iload M_L_isStep d_L_isStep_805 (by first | rfl | assumption) ?_
  refine g_if_eq M_L_isStep (tgt := 862) d_L_isStep_807 (by decide) (fun c9 => absurd c9 (by decide)) (fun _ => ?_)
  refine g_iload M_L_isStep d_L_isStep_810 (by first | rfl | assumption) ?_
  refine g_aloadn M_L_isStep d_L_isStep_812 (by first | rfl | assumption) ?_
  refine gc_SH M_L_isStep 6 36 [_] _ d_L_isStep_813 cs_L_150 (by decide) (by rfl) (by rfl) (Nat.le_of_ble_eq_true (by rfl)) (Nat.le_of_ble_eq_true (by rfl)) (by decide) (by decide) (by omega) (by omega) (W_carryOut T3.sw (okT_m ok) (fun h4 T49 => ?_))
  have T4 := T49.sw
  show gG _ _ _ _ _ _ _ _ _ _
  obtain ⟨q1, q2⟩ := eq_carry (X := (w2, X.2)) (Y := (mWs w2, Y.2)) r rfl
  rw [q1]
  refine g_icmp_ne M_L_isStep (tgt := 862) d_L_isStep_816 (by decide) (fun c9 => False.elim (c9 rfl)) (fun _ => ?_)
  rcases L_noun (X := (w2, X.2)) hI eo ⟨by omega, by omega⟩ with ea | ⟨x1, ea, i1, i2, i3⟩
  · rw [ea] at T4 q2 ⊢
    refine g_iload M_L_isStep d_L_isStep_819 (by first | rfl | assumption) ?_
    refine g_ldc M_L_isStep d_L_isStep_821 ki_L_17 ?_
    refine g_icmp_ne M_L_isStep (tgt := 838) d_L_isStep_823 (by decide) (fun c9 => False.elim (c9 rfl)) (fun _ => ?_)
    refine g_aloadn M_L_isStep d_L_isStep_826 (by first | rfl | assumption) ?_
    refine gc_V M_L_isStep 6 36 [] _ d_L_isStep_827 cv_L_108 T4.m0 (by rfl) (by rfl) (Nat.le_of_ble_eq_true (by rfl)) (Nat.le_of_ble_eq_true (by rfl)) (by decide) (by decide) (by omega) (by omega) (C_9_nouns T4.1 ?_)
    show gG _ _ _ _ _ _ _ _ _ _
    refine g_iload M_L_isStep d_L_isStep_830 (by first | rfl | assumption) ?_
    refine g_icmp_ne M_L_isStep (tgt := 862) d_L_isStep_832 (by decide) (fun c9 => False.elim (c9 rfl)) (fun _ => ?_)
    refine g_goto M_L_isStep (tgt := 858) d_L_isStep_835 (by decide) ?_
    refine g_iconst M_L_isStep (v := nI 1) d_L_isStep_858 (by decide) ?_
    refine g_goto M_L_isStep (tgt := 863) d_L_isStep_859 (by decide) ?_
    exact g_iret M_L_isStep d_L_isStep_863 rfl rfl (kk _ _ _ T4 ⟨q2, hI.up (Nat.le_succ t)⟩)
  · rw [ea] at T4 q2 ⊢
    refine g_iload M_L_isStep d_L_isStep_819 (by first | rfl | assumption) ?_
    refine g_ldc M_L_isStep d_L_isStep_821 ki_L_17 ?_
    refine g_icmp_ne M_L_isStep (tgt := 838) d_L_isStep_823 (by decide) (fun _ => ?_) (fun c9 => absurd (show nI 1 = nI 90001 from c9) (by decide))
    refine g_aloadn M_L_isStep d_L_isStep_838 (by first | rfl | assumption) ?_
    refine gc_V M_L_isStep 6 36 [] _ d_L_isStep_839 cv_L_108 T4.m0 (by rfl) (by rfl) (Nat.le_of_ble_eq_true (by rfl)) (Nat.le_of_ble_eq_true (by rfl)) (by decide) (by decide) (by omega) (by omega) (C_9_nouns T4.1 ?_)
    show gG _ _ _ _ _ _ _ _ _ _
    refine g_iload M_L_isStep d_L_isStep_842 (by first | rfl | assumption) ?_
    refine g_iconst M_L_isStep (v := nI 1) d_L_isStep_844 (by decide) ?_
    refine g_iadd M_L_isStep d_L_isStep_845 ?_
    rw [nI_add, show List.length (x1.1) = X.2.1.1.length + 1 from i2]
    refine g_icmp_ne M_L_isStep (tgt := 862) d_L_isStep_846 (by decide) (fun c9 => False.elim (c9 rfl)) (fun _ => ?_)
    refine g_aloadn M_L_isStep d_L_isStep_849 (by first | rfl | assumption) ?_
    refine g_iload M_L_isStep d_L_isStep_850 (by first | rfl | assumption) ?_
    refine gc_SH M_L_isStep 6 36 [_, _] _ d_L_isStep_852 cs_L_117 (by decide) (by rfl) (by rfl) (Nat.le_of_ble_eq_true (by rfl)) (Nat.le_of_ble_eq_true (by rfl)) (by decide) (by decide) (by omega) (by omega) (W_coins T4 (by show X.2.1.1.length < x1.1.length; rw [show x1.1.length = X.2.1.1.length + 1 from i2]; omega) (fun h5 T5 => ?_))
    show gG _ _ _ _ _ _ _ _ _ _
    rw [show cW X.2.1.1.length x1.2.2.2.2.1 = 0 from i3]
    refine g_if_ne M_L_isStep (tgt := 862) d_L_isStep_855 (by decide) (fun c9 => False.elim (c9 rfl)) (fun _ => ?_)
    refine g_iconst M_L_isStep (v := nI 1) d_L_isStep_858 (by decide) ?_
    refine g_goto M_L_isStep (tgt := 863) d_L_isStep_859 (by decide) ?_
    exact g_iret M_L_isStep d_L_isStep_863 rfl rfl (kk _ _ _ T5 ⟨q2, i1⟩)
set_option maxHeartbeats 4000000 in
set_option maxRecDepth 100000 in
theorem S_irr {L L9 : Nat → Nat → Nat} {a9 : Nat} {v9 : Ent_} {X Y : Mt_} {h : Hp_} {Q : Ot_ → Hp_ → Prop} {lv : List (Nat × Value)} {x y z : Int32} {k m t : Nat} (T0 : tw h L L9 a9 v9 X Y) (R : Rl t X Y) (ht : t ≤ 60) (hl : isL lv L L9 X x y z k m) (hk : k ≤ X.2.1.1.length) (hm : 1 ≤ m ∧ m ≤ 99) (kk : ∀ h' X' Y', tw h' L L9 a9 v9 X' Y' → Rl (t + 1) X' Y' → Q (.inl (some (.int (nI 1)))) h') : gG 11 430 8 48 M_L_isStep 606 lv [] h Q := by
  obtain ⟨r, hI⟩ := R
  obtain ⟨H0, H1, H2, H3, H4, H5, H6, H7, H8, H9, H10⟩ := hl
  have nl := T0.1.un.2.2.2.2.2.2.1.1
  have nlY := T0.2.1.un.2.2.2.2.2.2.1.1
  have el := T0.1.un.2.2.2.2.2.2.2.2.2.2.1.le
  obtain ⟨b1, b2⟩ := bnd hI.1 ht
  refine g_aloadn M_L_isStep d_L_isStep_606 (by first | rfl | assumption) ?_
  refine g_aloadn M_L_isStep d_L_isStep_607 (by first | rfl | assumption) ?_
  refine gc_S M_L_isStep 8 48 [_, _] _ d_L_isStep_608 cs_L_142 (by rfl) (by rfl) (by rfl) (Nat.le_of_ble_eq_true (by rfl)) (Nat.le_of_ble_eq_true (by rfl)) (by decide) (by decide) (by omega) (by omega) (W_empty T0  (fun h1 T1 => ?_))
  show gG _ _ _ _ _ _ _ _ _ _
  refine g_if_eq M_L_isStep (tgt := 662) d_L_isStep_611 (by decide) (fun c9 => absurd c9 (by decide)) (fun _ => ?_)
  refine g_aloadn M_L_isStep d_L_isStep_614 (by first | rfl | assumption) ?_
  refine g_aloadn M_L_isStep d_L_isStep_615 (by first | rfl | assumption) ?_
  refine g_iloadn M_L_isStep d_L_isStep_616 (by first | rfl | assumption) ?_
  refine g_iconst M_L_isStep (v := nI 1) d_L_isStep_617 (by decide) ?_
  refine g_iloadn M_L_isStep d_L_isStep_618 (by first | rfl | assumption) ?_
  refine g_iconst M_L_isStep (v := nI 4) d_L_isStep_619 (by decide) ?_
  refine gc_S M_L_isStep 8 48 [_, _] _ d_L_isStep_620 cs_L_95 (by rfl) (by rfl) (by rfl) (Nat.le_of_ble_eq_true (by rfl)) (Nat.le_of_ble_eq_true (by rfl)) (by decide) (by decide) (by omega) (by omega) (W_up (by decide) (by decide) ?_)
  show gG _ _ _ _ _ _ _ _ _ _
  have ul := upF_lt (x := y) (n := 4) (by decide)
  refine g_iadd M_L_isStep d_L_isStep_623 ?_
  rw [nI_add]
  refine gc_S M_L_isStep 8 48 [_, _, _, _] _ d_L_isStep_624 cs_L_146 (by rfl) (by rfl) (by rfl) (Nat.le_of_ble_eq_true (by rfl)) (Nat.le_of_ble_eq_true (by rfl)) (by decide) (by decide) (by omega) (by omega) (W_word T1 (by show 0 + _ < 60; omega) rfl (fun w2 h2 l2 s2 T2 => ?_))
  show gG _ _ _ _ _ _ _ _ _ _
  replace T2 : tw h2 L L9 a9 v9 (w2, X.2) (mWs w2, Y.2) := T2
  refine g_if_eq M_L_isStep (tgt := 662) d_L_isStep_627 (by decide) (fun c9 => absurd c9 (by decide)) (fun _ => ?_)
  refine g_aloadn M_L_isStep d_L_isStep_630 (by first | rfl | assumption) ?_
  refine g_aloadn M_L_isStep d_L_isStep_631 (by first | rfl | assumption) ?_
  refine g_bipush M_L_isStep (v := nI 61) d_L_isStep_632 (by decide) ?_
  refine gc_S M_L_isStep 8 48 [_, _, _] _ d_L_isStep_634 cs_L_101 (by rfl) (by rfl) (by rfl) (Nat.le_of_ble_eq_true (by rfl)) (Nat.le_of_ble_eq_true (by rfl)) (by decide) (by decide) (by omega) (by omega) (W_both T2 (by show w2.length < 60; omega) mW_len (by decide) (fun h3 T3 => ?_))
  show gG _ _ _ _ _ _ _ _ _ _
  replace T3 : tw h3 L L9 a9 v9 (w2 ++ [61], X.2) (mWs (w2 ++ [61]), Y.2) := by rw [← mW_one]; exact T3
  refine g_if_eq M_L_isStep (tgt := 662) d_L_isStep_637 (by decide) (fun c9 => absurd c9 (by decide)) (fun _ => ?_)
  refine g_aloadn M_L_isStep d_L_isStep_640 (by first | rfl | assumption) ?_
  refine g_aloadn M_L_isStep d_L_isStep_641 (by first | rfl | assumption) ?_
  refine g_iload M_L_isStep d_L_isStep_642 (by first | rfl | assumption) ?_
  refine g_iconst M_L_isStep (v := nI 1) d_L_isStep_644 (by decide) ?_
  refine g_iload M_L_isStep d_L_isStep_645 (by first | rfl | assumption) ?_
  refine g_iconst M_L_isStep (v := nI 5) d_L_isStep_647 (by decide) ?_
  refine gc_S M_L_isStep 8 48 [_, _] _ d_L_isStep_648 cs_L_95 (by rfl) (by rfl) (by rfl) (Nat.le_of_ble_eq_true (by rfl)) (Nat.le_of_ble_eq_true (by rfl)) (by decide) (by decide) (by omega) (by omega) (W_up (by decide) (by decide) ?_)
  show gG _ _ _ _ _ _ _ _ _ _
  have ul2 := upF_lt (x := z) (n := 5) (by decide)
  refine g_iadd M_L_isStep d_L_isStep_651 ?_
  rw [nI_add]
  refine gc_S M_L_isStep 8 48 [_, _, _, _] _ d_L_isStep_652 cs_L_146 (by rfl) (by rfl) (by rfl) (Nat.le_of_ble_eq_true (by rfl)) (Nat.le_of_ble_eq_true (by rfl)) (by decide) (by decide) (by omega) (by omega) (W_word T3 (by show (w2 ++ [61]).length + _ < 60; rw [List.length_append]; show w2.length + 1 + _ < 60; omega) mW_len (fun w4 h4 l4 s4 T4 => ?_))
  show gG _ _ _ _ _ _ _ _ _ _
  replace T4 : tw h4 L L9 a9 v9 (w2 ++ [61] ++ w4, X.2) (mWs (w2 ++ [61] ++ w4), Y.2) := by rw [← mW_app]; exact T4
  obtain ⟨ok, eo⟩ := tx_irr s2 (by omega) (by omega) s4 (by omega) (by omega)
  refine g_if_eq M_L_isStep (tgt := 662) d_L_isStep_655 (by decide) (fun c9 => absurd c9 (by decide)) (fun _ => ?_)
  refine g_iconst M_L_isStep (v := nI 1) d_L_isStep_658 (by decide) ?_
  refine g_goto M_L_isStep (tgt := 663) d_L_isStep_659 (by decide) ?_
  refine g_istore M_L_isStep d_L_isStep_663 (by decide) (by first | rfl | (simp only [gc]; simp [*])) ?_
  refine g_iload M_L_isStep d_L_isStep_665 (by first | rfl | assumption) ?_
  refine g_if_eq M_L_isStep (tgt := 705) d_L_isStep_667 (by decide) (fun c9 => absurd c9 (by decide)) (fun _ => ?_)
  refine g_aloadn M_L_isStep d_L_isStep_670 (by first | rfl | assumption) ?_
  refine gc_SH M_L_isStep 8 48 [_] _ d_L_isStep_671 cs_L_152 (by decide) (by rfl) (by rfl) (Nat.le_of_ble_eq_true (by rfl)) (Nat.le_of_ble_eq_true (by rfl)) (by decide) (by decide) (by omega) (by omega) (W_impossible T4 ok (fun h5 T5 => ?_))
  show gG _ _ _ _ _ _ _ _ _ _
  refine g_aloadn M_L_isStep d_L_isStep_674 (by first | rfl | assumption) ?_
  refine gc_SH M_L_isStep 8 48 [_] _ d_L_isStep_675 cs_L_152 (by decide) (by rfl) (by rfl) (Nat.le_of_ble_eq_true (by rfl)) (Nat.le_of_ble_eq_true (by rfl)) (by decide) (by decide) (by omega) (by omega) (W_impossible T5.sw (okT_m ok) (fun h6 T69 => ?_))
  have T6 := T69.sw
  show gG _ _ _ _ _ _ _ _ _ _
  rw [imp_m (X := (w2 ++ [61] ++ w4, X.2)) (Y := (mWs (w2 ++ [61] ++ w4), Y.2)) r rfl]
  refine g_icmp_ne M_L_isStep (tgt := 705) d_L_isStep_678 (by decide) (fun c9 => False.elim (c9 rfl)) (fun _ => ?_)
  refine g_aloadn M_L_isStep d_L_isStep_681 (by first | rfl | assumption) ?_
  refine gc_SH M_L_isStep 7 42 [_] _ d_L_isStep_682 cs_L_150 (by decide) (by rfl) (by rfl) (Nat.le_of_ble_eq_true (by rfl)) (Nat.le_of_ble_eq_true (by rfl)) (by decide) (by decide) (by omega) (by omega) (W_carryOut T6 ok (fun h7 T7 => ?_))
  show gG _ _ _ _ _ _ _ _ _ _
  refine g_aloadn M_L_isStep d_L_isStep_685 (by first | rfl | assumption) ?_
  refine gc_SH M_L_isStep 6 36 [_] _ d_L_isStep_686 cs_L_150 (by decide) (by rfl) (by rfl) (Nat.le_of_ble_eq_true (by rfl)) (Nat.le_of_ble_eq_true (by rfl)) (by decide) (by decide) (by omega) (by omega) (W_carryOut T7.sw (okT_m ok) (fun h8 T89 => ?_))
  have T8 := T89.sw
  show gG _ _ _ _ _ _ _ _ _ _
  obtain ⟨q1, q2⟩ := eq_carry (X := (w2 ++ [61] ++ w4, X.2)) (Y := (mWs (w2 ++ [61] ++ w4), Y.2)) r rfl
  obtain ⟨i1, i2⟩ := L_irr (X := (w2 ++ [61] ++ w4, X.2)) hI eo (by omega)
  rw [q1]
  refine g_icmp_ne M_L_isStep (tgt := 705) d_L_isStep_689 (by decide) (fun c9 => False.elim (c9 rfl)) (fun _ => ?_)
  refine g_aloadn M_L_isStep d_L_isStep_692 (by first | rfl | assumption) ?_
  refine gc_V M_L_isStep 6 36 [] _ d_L_isStep_693 cv_L_108 T8.m0 (by rfl) (by rfl) (Nat.le_of_ble_eq_true (by rfl)) (Nat.le_of_ble_eq_true (by rfl)) (by decide) (by decide) (by omega) (by omega) (C_9_nouns T8.1 ?_)
  show gG _ _ _ _ _ _ _ _ _ _
  rw [show List.length ((aCarry (w2 ++ [61] ++ w4, X.2)).2.2.1.1) = X.2.1.1.length from congrArg List.length i2]
  refine g_iload M_L_isStep d_L_isStep_696 (by first | rfl | assumption) ?_
  refine g_icmp_ne M_L_isStep (tgt := 705) d_L_isStep_698 (by decide) (fun c9 => False.elim (c9 rfl)) (fun _ => ?_)
  refine g_iconst M_L_isStep (v := nI 1) d_L_isStep_701 (by decide) ?_
  refine g_goto M_L_isStep (tgt := 706) d_L_isStep_702 (by decide) ?_
  exact g_iret M_L_isStep d_L_isStep_706 rfl rfl (kk _ _ _ T8 ⟨q2, i1⟩)
set_option maxHeartbeats 4000000 in
set_option maxRecDepth 100000 in
theorem S_dieTail {L L9 : Nat → Nat → Nat} {a9 : Nat} {v9 : Ent_} {X Y : Mt_} {h : Hp_} {Q : Ot_ → Hp_ → Prop} {lv : List (Nat × Value)} {x y z : Int32} {k m t : Nat} {c : List Nat} {cd : Int32} (T0 : tw h L L9 a9 v9 ([42] ++ c, X.2) (mWs ([42] ++ c), Y.2)) (R : Rl t X Y) (ht : t ≤ 60) (hl : isL lv L L9 X x y z k m) (H12 : gl lv 12 = some (.int (nI X.2.1.2.2.2.1.1.length))) (hc : (c = [] ∧ cd = nI 0) ∨ (c = [33] ∧ cd = nI 1) ∨ (c = [63] ∧ cd = nI 2)) (kk : ∀ h' X' Y', tw h' L L9 a9 v9 X' Y' → Rl (t + 1) X' Y' → Q (.inl (some (.int (nI 1)))) h') : gG 11 430 8 48 M_L_isStep 481 lv [] h Q := by
  obtain ⟨r, hI⟩ := R
  obtain ⟨H0, H1, H2, H3, H4, H5, H6, H7, H8, H9, H10⟩ := hl
  have dl : X.2.1.2.2.2.1.1.length ≤ 12 := T0.1.un.2.2.2.2.2.2.2.2.2.1.2.1.1
  have cl : c.length ≤ 1 := by
    rcases hc with ⟨rfl, -⟩ | ⟨rfl, -⟩ | ⟨rfl, -⟩ <;> decide
  refine g_aloadn M_L_isStep d_L_isStep_481 (by first | rfl | assumption) ?_
  refine g_aloadn M_L_isStep d_L_isStep_482 (by first | rfl | assumption) ?_
  refine g_iloadn M_L_isStep d_L_isStep_483 (by first | rfl | assumption) ?_
  refine g_iloadn M_L_isStep d_L_isStep_484 (by first | rfl | assumption) ?_
  refine g_iconst M_L_isStep (v := nI 3) d_L_isStep_485 (by decide) ?_
  refine gc_S M_L_isStep 8 48 [_, _] _ d_L_isStep_486 cs_L_95 (by rfl) (by rfl) (by rfl) (Nat.le_of_ble_eq_true (by rfl)) (Nat.le_of_ble_eq_true (by rfl)) (by decide) (by decide) (by omega) (by omega) (W_up (by decide) (by decide) ?_)
  show gG _ _ _ _ _ _ _ _ _ _
  have ul := upF_lt (x := y) (n := 3) (by decide)
  refine gc_S M_L_isStep 8 48 [_, _, _, _] _ d_L_isStep_489 cs_L_146 (by rfl) (by rfl) (by rfl) (Nat.le_of_ble_eq_true (by rfl)) (Nat.le_of_ble_eq_true (by rfl)) (by decide) (by decide) (by omega) (by omega) (W_word T0 (by show ([42] ++ c).length + _ < 60; rw [List.length_append]; show 1 + c.length + _ < 60; omega) mW_len (fun w1 h1 l1 s1 T1 => ?_))
  show gG _ _ _ _ _ _ _ _ _ _
  replace T1 : tw h1 L L9 a9 v9 ([42] ++ c ++ w1, X.2) (mWs ([42] ++ c ++ w1), Y.2) := by rw [← mW_app]; exact T1
  have ll : ([42] ++ c ++ w1).length = 1 + c.length + w1.length := by rw [List.length_append, List.length_append]; rfl
  refine g_if_eq M_L_isStep (tgt := 527) d_L_isStep_492 (by decide) (fun c9 => absurd c9 (by decide)) (fun _ => ?_)
  refine g_aloadn M_L_isStep d_L_isStep_495 (by first | rfl | assumption) ?_
  refine g_aloadn M_L_isStep d_L_isStep_496 (by first | rfl | assumption) ?_
  refine g_bipush M_L_isStep (v := nI 62) d_L_isStep_497 (by decide) ?_
  refine gc_S M_L_isStep 8 48 [_, _, _] _ d_L_isStep_499 cs_L_101 (by rfl) (by rfl) (by rfl) (Nat.le_of_ble_eq_true (by rfl)) (Nat.le_of_ble_eq_true (by rfl)) (by decide) (by decide) (by omega) (by omega) (W_both T1 (by show ([42] ++ c ++ w1).length < 60; omega) mW_len (by decide) (fun h2 T2 => ?_))
  show gG _ _ _ _ _ _ _ _ _ _
  replace T2 : tw h2 L L9 a9 v9 ([42] ++ c ++ w1 ++ [62], X.2) (mWs ([42] ++ c ++ w1 ++ [62]), Y.2) := by rw [← mW_one]; exact T2
  refine g_if_eq M_L_isStep (tgt := 527) d_L_isStep_502 (by decide) (fun c9 => absurd c9 (by decide)) (fun _ => ?_)
  refine g_aloadn M_L_isStep d_L_isStep_505 (by first | rfl | assumption) ?_
  refine g_aloadn M_L_isStep d_L_isStep_506 (by first | rfl | assumption) ?_
  refine g_iload M_L_isStep d_L_isStep_507 (by first | rfl | assumption) ?_
  refine g_iconst M_L_isStep (v := nI 1) d_L_isStep_509 (by decide) ?_
  refine g_iload M_L_isStep d_L_isStep_510 (by first | rfl | assumption) ?_
  refine g_iconst M_L_isStep (v := nI 3) d_L_isStep_512 (by decide) ?_
  refine gc_S M_L_isStep 8 48 [_, _] _ d_L_isStep_513 cs_L_95 (by rfl) (by rfl) (by rfl) (Nat.le_of_ble_eq_true (by rfl)) (Nat.le_of_ble_eq_true (by rfl)) (by decide) (by decide) (by omega) (by omega) (W_up (by decide) (by decide) ?_)
  show gG _ _ _ _ _ _ _ _ _ _
  have ul2 := upF_lt (x := z) (n := 3) (by decide)
  refine g_iadd M_L_isStep d_L_isStep_516 ?_
  rw [nI_add]
  refine gc_S M_L_isStep 8 48 [_, _, _, _] _ d_L_isStep_517 cs_L_146 (by rfl) (by rfl) (by rfl) (Nat.le_of_ble_eq_true (by rfl)) (Nat.le_of_ble_eq_true (by rfl)) (by decide) (by decide) (by omega) (by omega) (W_word T2 (by show ([42] ++ c ++ w1 ++ [62]).length + _ < 60; rw [List.length_append]; show ([42] ++ c ++ w1).length + 1 + _ < 60; omega) mW_len (fun w3 h3 l3 s3 T3 => ?_))
  show gG _ _ _ _ _ _ _ _ _ _
  replace T3 : tw h3 L L9 a9 v9 ([42] ++ c ++ w1 ++ [62] ++ w3, X.2) (mWs ([42] ++ c ++ w1 ++ [62] ++ w3), Y.2) := by rw [← mW_app]; exact T3
  obtain ⟨ok, eo⟩ := tx_die hc s1 (by omega) s3 (by omega) (by omega)
  generalize [42] ++ c ++ w1 ++ [62] ++ w3 = tx at T3 ok eo ⊢
  refine g_if_eq M_L_isStep (tgt := 527) d_L_isStep_520 (by decide) (fun c9 => absurd c9 (by decide)) (fun _ => ?_)
  refine g_iconst M_L_isStep (v := nI 1) d_L_isStep_523 (by decide) ?_
  refine g_goto M_L_isStep (tgt := 528) d_L_isStep_524 (by decide) ?_
  refine g_istore M_L_isStep d_L_isStep_528 (by decide) (by first | rfl | (simp only [gc]; simp [*])) ?_
  refine g_aloadn M_L_isStep d_L_isStep_530 (by first | rfl | assumption) ?_
  refine gc_SH M_L_isStep 7 42 [_] _ d_L_isStep_531 cs_L_150 (by decide) (by rfl) (by rfl) (Nat.le_of_ble_eq_true (by rfl)) (Nat.le_of_ble_eq_true (by rfl)) (by decide) (by decide) (by omega) (by omega) (W_carryOut T3 ok (fun h4 T4 => ?_))
  show gG _ _ _ _ _ _ _ _ _ _
  refine g_istore M_L_isStep d_L_isStep_534 (by decide) (by first | rfl | (simp only [gc]; simp [*])) ?_
  refine g_iload M_L_isStep d_L_isStep_536 (by first | rfl | assumption) ?_
  refine g_if_eq M_L_isStep (tgt := 604) d_L_isStep_538 (by decide) (fun c9 => absurd c9 (by decide)) (fun _ => ?_)
  refine g_iload M_L_isStep d_L_isStep_541 (by first | rfl | assumption) ?_
  refine g_aloadn M_L_isStep d_L_isStep_543 (by first | rfl | assumption) ?_
  refine gc_SH M_L_isStep 6 36 [_] _ d_L_isStep_544 cs_L_150 (by decide) (by rfl) (by rfl) (Nat.le_of_ble_eq_true (by rfl)) (Nat.le_of_ble_eq_true (by rfl)) (by decide) (by decide) (by omega) (by omega) (W_carryOut T4.sw (okT_m ok) (fun h5 T59 => ?_))
  have T5 := T59.sw
  show gG _ _ _ _ _ _ _ _ _ _
  obtain ⟨q1, q2⟩ := eq_carry (X := (tx, X.2)) (Y := (mWs tx, Y.2)) r rfl
  rw [q1]
  refine g_icmp_ne M_L_isStep (tgt := 604) d_L_isStep_547 (by decide) (fun c9 => False.elim (c9 rfl)) (fun _ => ?_)
  rcases L_die (X := (tx, X.2)) hI eo (by omega) with ⟨q, ea⟩ | ⟨q, x1, ea, i1, i2⟩
  · have d12 : X.2.1.2.2.2.1.1.length = 12 := by have : ¬ X.2.1.2.2.2.1.1.length < 12 := q; omega
    rw [ea] at T5 q2 ⊢
    rw [d12] at H12
    refine g_iload M_L_isStep d_L_isStep_550 (by first | rfl | assumption) ?_
    refine g_ldc M_L_isStep d_L_isStep_552 ki_L_17 ?_
    refine g_icmp_ne M_L_isStep (tgt := 561) d_L_isStep_554 (by decide) (fun c9 => False.elim (c9 rfl)) (fun _ => ?_)
    refine g_iconst M_L_isStep (v := nI 1) d_L_isStep_557 (by decide) ?_
    refine g_goto M_L_isStep (tgt := 562) d_L_isStep_558 (by decide) ?_
    refine g_iload M_L_isStep d_L_isStep_562 (by first | rfl | assumption) ?_
    refine g_bipush M_L_isStep (v := nI 12) d_L_isStep_564 (by decide) ?_
    refine g_icmp_ne M_L_isStep (tgt := 573) d_L_isStep_566 (by decide) (fun c9 => False.elim (c9 rfl)) (fun _ => ?_)
    refine g_iconst M_L_isStep (v := nI 1) d_L_isStep_569 (by decide) ?_
    refine g_goto M_L_isStep (tgt := 574) d_L_isStep_570 (by decide) ?_
    refine g_icmp_ne M_L_isStep (tgt := 604) d_L_isStep_574 (by decide) (fun c9 => False.elim (c9 rfl)) (fun _ => ?_)
    refine g_aloadn M_L_isStep d_L_isStep_577 (by first | rfl | assumption) ?_
    refine gc_V M_L_isStep 6 36 [] _ d_L_isStep_578 cv_L_134 T5.m0 (by rfl) (by rfl) (Nat.le_of_ble_eq_true (by rfl)) (Nat.le_of_ble_eq_true (by rfl)) (by decide) (by decide) (by omega) (by omega) (C_9_dies T5.1 ?_)
    show gG _ _ _ _ _ _ _ _ _ _
    rw [show List.length (X.2.1.2.2.2.1.1) = 12 from d12]
    refine g_iload M_L_isStep d_L_isStep_581 (by first | rfl | assumption) ?_
    refine g_bipush M_L_isStep (v := nI 12) d_L_isStep_583 (by decide) ?_
    refine g_icmp_ne M_L_isStep (tgt := 593) d_L_isStep_585 (by decide) (fun c9 => False.elim (c9 rfl)) (fun _ => ?_)
    refine g_bipush M_L_isStep (v := nI 12) d_L_isStep_588 (by decide) ?_
    refine g_goto M_L_isStep (tgt := 597) d_L_isStep_590 (by decide) ?_
    refine g_icmp_ne M_L_isStep (tgt := 604) d_L_isStep_597 (by decide) (fun c9 => False.elim (c9 rfl)) (fun _ => ?_)
    refine g_iconst M_L_isStep (v := nI 1) d_L_isStep_600 (by decide) ?_
    refine g_goto M_L_isStep (tgt := 605) d_L_isStep_601 (by decide) ?_
    exact g_iret M_L_isStep d_L_isStep_605 rfl rfl (kk _ _ _ T5 ⟨q2, hI.up (Nat.le_succ t)⟩)
  · have d12 : X.2.1.2.2.2.1.1.length < 12 := q
    rw [ea] at T5 q2 ⊢
    refine g_iload M_L_isStep d_L_isStep_550 (by first | rfl | assumption) ?_
    refine g_ldc M_L_isStep d_L_isStep_552 ki_L_17 ?_
    refine g_icmp_ne M_L_isStep (tgt := 561) d_L_isStep_554 (by decide) (fun _ => ?_) (fun c9 => absurd (show nI 1 = nI 90001 from c9) (by decide))
    refine g_iconst M_L_isStep (v := nI 0) d_L_isStep_561 (by decide) ?_
    refine g_iload M_L_isStep d_L_isStep_562 (by first | rfl | assumption) ?_
    refine g_bipush M_L_isStep (v := nI 12) d_L_isStep_564 (by decide) ?_
    refine g_icmp_ne M_L_isStep (tgt := 573) d_L_isStep_566 (by decide) (fun _ => ?_) (fun c9 => absurd ((nI_eq (by omega) (by decide)).mp c9) (by omega))
    refine g_iconst M_L_isStep (v := nI 0) d_L_isStep_573 (by decide) ?_
    refine g_icmp_ne M_L_isStep (tgt := 604) d_L_isStep_574 (by decide) (fun c9 => False.elim (c9 rfl)) (fun _ => ?_)
    refine g_aloadn M_L_isStep d_L_isStep_577 (by first | rfl | assumption) ?_
    refine gc_V M_L_isStep 6 36 [] _ d_L_isStep_578 cv_L_134 T5.m0 (by rfl) (by rfl) (Nat.le_of_ble_eq_true (by rfl)) (Nat.le_of_ble_eq_true (by rfl)) (by decide) (by decide) (by omega) (by omega) (C_9_dies T5.1 ?_)
    show gG _ _ _ _ _ _ _ _ _ _
    refine g_iload M_L_isStep d_L_isStep_581 (by first | rfl | assumption) ?_
    refine g_bipush M_L_isStep (v := nI 12) d_L_isStep_583 (by decide) ?_
    refine g_icmp_ne M_L_isStep (tgt := 593) d_L_isStep_585 (by decide) (fun _ => ?_) (fun c9 => absurd ((nI_eq (by omega) (by decide)).mp c9) (by omega))
    refine g_iload M_L_isStep d_L_isStep_593 (by first | rfl | assumption) ?_
    refine g_iconst M_L_isStep (v := nI 1) d_L_isStep_595 (by decide) ?_
    refine g_iadd M_L_isStep d_L_isStep_596 ?_
    rw [nI_add, show List.length (x1.2.2.2.1.1) = X.2.1.2.2.2.1.1.length + 1 from i2]
    refine g_icmp_ne M_L_isStep (tgt := 604) d_L_isStep_597 (by decide) (fun c9 => False.elim (c9 rfl)) (fun _ => ?_)
    refine g_iconst M_L_isStep (v := nI 1) d_L_isStep_600 (by decide) ?_
    refine g_goto M_L_isStep (tgt := 605) d_L_isStep_601 (by decide) ?_
    exact g_iret M_L_isStep d_L_isStep_605 rfl rfl (kk _ _ _ T5 ⟨q2, i1⟩)
set_option maxHeartbeats 4000000 in
set_option maxRecDepth 100000 in
theorem S_die {L L9 : Nat → Nat → Nat} {a9 : Nat} {v9 : Ent_} {X Y : Mt_} {h : Hp_} {Q : Ot_ → Hp_ → Prop} {lv : List (Nat × Value)} {x y z : Int32} {k m t : Nat} (T0 : tw h L L9 a9 v9 X Y) (R : Rl t X Y) (ht : t ≤ 60) (hl : isL lv L L9 X x y z k m) (hk : k ≤ X.2.1.1.length) (hm : 1 ≤ m ∧ m ≤ 99) (kk : ∀ h' X' Y', tw h' L L9 a9 v9 X' Y' → Rl (t + 1) X' Y' → Q (.inl (some (.int (nI 1)))) h') : gG 11 430 8 48 M_L_isStep 422 lv [] h Q := by
  obtain ⟨r, hI⟩ := R
  obtain ⟨H0, H1, H2, H3, H4, H5, H6, H7, H8, H9, H10⟩ := hl
  have nl := T0.1.un.2.2.2.2.2.2.1.1
  have nlY := T0.2.1.un.2.2.2.2.2.2.1.1
  have el := T0.1.un.2.2.2.2.2.2.2.2.2.2.1.le
  obtain ⟨b1, b2⟩ := bnd hI.1 ht
  refine g_iloadn M_L_isStep d_L_isStep_422 (by first | rfl | assumption) ?_
  refine g_iconst M_L_isStep (v := nI 3) d_L_isStep_423 (by decide) ?_
  refine g_ishr M_L_isStep d_L_isStep_424 ?_
  refine g_iconst M_L_isStep (v := nI 3) d_L_isStep_425 (by decide) ?_
  refine gc_S M_L_isStep 8 48 [_, _] _ d_L_isStep_426 cs_L_95 (by rfl) (by rfl) (by rfl) (Nat.le_of_ble_eq_true (by rfl)) (Nat.le_of_ble_eq_true (by rfl)) (by decide) (by decide) (by omega) (by omega) (W_up (by decide) (by decide) ?_)
  show gG _ _ _ _ _ _ _ _ _ _
  have ul := upF_lt (x := x >>> (nI 3 &&& 31)) (n := 3) (by decide)
  generalize upF (x >>> (nI 3 &&& 31)) 3 = u at ul ⊢
  refine g_istore M_L_isStep d_L_isStep_429 (by decide) (by first | rfl | (simp only [gc]; simp [*])) ?_
  refine g_aloadn M_L_isStep d_L_isStep_431 (by first | rfl | assumption) ?_
  refine gc_V M_L_isStep 8 48 [] _ d_L_isStep_432 cv_L_134 T0.m0 (by rfl) (by rfl) (Nat.le_of_ble_eq_true (by rfl)) (Nat.le_of_ble_eq_true (by rfl)) (by decide) (by decide) (by omega) (by omega) (C_9_dies T0.1 ?_)
  show gG _ _ _ _ _ _ _ _ _ _
  refine g_istore M_L_isStep d_L_isStep_435 (by decide) (by first | rfl | (simp only [gc]; simp [*])) ?_
  refine g_aloadn M_L_isStep d_L_isStep_437 (by first | rfl | assumption) ?_
  refine g_aloadn M_L_isStep d_L_isStep_438 (by first | rfl | assumption) ?_
  refine gc_S M_L_isStep 8 48 [_, _] _ d_L_isStep_439 cs_L_142 (by rfl) (by rfl) (by rfl) (Nat.le_of_ble_eq_true (by rfl)) (Nat.le_of_ble_eq_true (by rfl)) (by decide) (by decide) (by omega) (by omega) (W_empty T0  (fun h1 T1 => ?_))
  show gG _ _ _ _ _ _ _ _ _ _
  refine g_if_eq M_L_isStep (tgt := 527) d_L_isStep_442 (by decide) (fun c9 => absurd c9 (by decide)) (fun _ => ?_)
  refine g_aloadn M_L_isStep d_L_isStep_445 (by first | rfl | assumption) ?_
  refine g_aloadn M_L_isStep d_L_isStep_446 (by first | rfl | assumption) ?_
  refine g_bipush M_L_isStep (v := nI 42) d_L_isStep_447 (by decide) ?_
  refine gc_S M_L_isStep 8 48 [_, _, _] _ d_L_isStep_449 cs_L_101 (by rfl) (by rfl) (by rfl) (Nat.le_of_ble_eq_true (by rfl)) (Nat.le_of_ble_eq_true (by rfl)) (by decide) (by decide) (by omega) (by omega) (W_both T1 (show 0 < 60 by decide) rfl (by decide) (fun h2 T2 => ?_))
  show gG _ _ _ _ _ _ _ _ _ _
  replace T2 : tw h2 L L9 a9 v9 ([42], X.2) ([42], Y.2) := T2
  refine g_if_eq M_L_isStep (tgt := 527) d_L_isStep_452 (by decide) (fun c9 => absurd c9 (by decide)) (fun _ => ?_)
  rcases (show u = 0 ∨ u = 1 ∨ u = 2 by omega) with rfl | rfl | rfl
  · refine g_iload M_L_isStep d_L_isStep_455 (by first | rfl | assumption) ?_
    refine g_if_eq M_L_isStep (tgt := 481) d_L_isStep_457 (by decide) (fun _ => ?_) (fun c9 => absurd rfl c9)
    exact S_dieTail (c := []) T2 ⟨r, hI⟩ ht ⟨H0, H1, H2, H3, H4, H5, H6, H7, H8, H9, H10⟩ rfl (Or.inl ⟨rfl, rfl⟩) kk
  · refine g_iload M_L_isStep d_L_isStep_455 (by first | rfl | assumption) ?_
    refine g_if_eq M_L_isStep (tgt := 481) d_L_isStep_457 (by decide) (fun c9 => absurd c9 (by decide)) (fun _ => ?_)
    refine g_aloadn M_L_isStep d_L_isStep_460 (by first | rfl | assumption) ?_
    refine g_aloadn M_L_isStep d_L_isStep_461 (by first | rfl | assumption) ?_
    refine g_iload M_L_isStep d_L_isStep_462 (by first | rfl | assumption) ?_
    refine g_iconst M_L_isStep (v := nI 1) d_L_isStep_464 (by decide) ?_
    refine g_icmp_ne M_L_isStep (tgt := 473) d_L_isStep_465 (by decide) (fun c9 => False.elim (c9 rfl)) (fun _ => ?_)
    refine g_bipush M_L_isStep (v := nI 33) d_L_isStep_468 (by decide) ?_
    refine g_goto M_L_isStep (tgt := 475) d_L_isStep_470 (by decide) ?_
    refine gc_S M_L_isStep 8 48 [_, _, _] _ d_L_isStep_475 cs_L_101 (by rfl) (by rfl) (by rfl) (Nat.le_of_ble_eq_true (by rfl)) (Nat.le_of_ble_eq_true (by rfl)) (by decide) (by decide) (by omega) (by omega) (W_both T2 (show 1 < 60 by decide) rfl (by decide) (fun h3 T3 => ?_))
    show gG _ _ _ _ _ _ _ _ _ _
    refine g_if_eq M_L_isStep (tgt := 527) d_L_isStep_478 (by decide) (fun c9 => absurd c9 (by decide)) (fun _ => ?_)
    exact S_dieTail (c := [33]) T3 ⟨r, hI⟩ ht ⟨H0, H1, H2, H3, H4, H5, H6, H7, H8, H9, H10⟩ rfl (Or.inr (Or.inl ⟨rfl, rfl⟩)) kk
  · refine g_iload M_L_isStep d_L_isStep_455 (by first | rfl | assumption) ?_
    refine g_if_eq M_L_isStep (tgt := 481) d_L_isStep_457 (by decide) (fun c9 => absurd c9 (by decide)) (fun _ => ?_)
    refine g_aloadn M_L_isStep d_L_isStep_460 (by first | rfl | assumption) ?_
    refine g_aloadn M_L_isStep d_L_isStep_461 (by first | rfl | assumption) ?_
    refine g_iload M_L_isStep d_L_isStep_462 (by first | rfl | assumption) ?_
    refine g_iconst M_L_isStep (v := nI 1) d_L_isStep_464 (by decide) ?_
    refine g_icmp_ne M_L_isStep (tgt := 473) d_L_isStep_465 (by decide) (fun _ => ?_) (fun c9 => absurd c9 (by decide))
    refine g_bipush M_L_isStep (v := nI 63) d_L_isStep_473 (by decide) ?_
    refine gc_S M_L_isStep 8 48 [_, _, _] _ d_L_isStep_475 cs_L_101 (by rfl) (by rfl) (by rfl) (Nat.le_of_ble_eq_true (by rfl)) (Nat.le_of_ble_eq_true (by rfl)) (by decide) (by decide) (by omega) (by omega) (W_both T2 (show 1 < 60 by decide) rfl (by decide) (fun h3 T3 => ?_))
    show gG _ _ _ _ _ _ _ _ _ _
    refine g_if_eq M_L_isStep (tgt := 527) d_L_isStep_478 (by decide) (fun c9 => absurd c9 (by decide)) (fun _ => ?_)
    exact S_dieTail (c := [63]) T3 ⟨r, hI⟩ ht ⟨H0, H1, H2, H3, H4, H5, H6, H7, H8, H9, H10⟩ rfl (Or.inr (Or.inr ⟨rfl, rfl⟩)) kk
set_option maxHeartbeats 4000000 in
set_option maxRecDepth 100000 in
theorem S_switch {L L9 : Nat → Nat → Nat} {a9 : Nat} {v9 : Ent_} {X Y : Mt_} {h : Hp_} {Q : Ot_ → Hp_ → Prop} {lv : List (Nat × Value)} {x y z : Int32} {k m t : Nat} (T0 : tw h L L9 a9 v9 X Y) (R : Rl t X Y) (ht : t ≤ 60) (hl : isL lv L L9 X x y z k m) (hk : k ≤ X.2.1.1.length) (hm : 1 ≤ m ∧ m ≤ 99) (kk : ∀ h' X' Y', tw h' L L9 a9 v9 X' Y' → Rl (t + 1) X' Y' → Q (.inl (some (.int (nI 1)))) h') : ∀ n, n < 20 → gG 11 430 8 48 M_L_isStep 69 lv [.int (nI n)] h Q
  | 0, _ => g_tableIn M_L_isStep (tgt := 144) d_L_isStep_69 (by decide) (by decide) (by rfl) (by decide) (S_strike T0 R ht hl hk hm kk)
  | 1, _ => g_tableIn M_L_isStep (tgt := 144) d_L_isStep_69 (by decide) (by decide) (by rfl) (by decide) (S_strike T0 R ht hl hk hm kk)
  | 2, _ => g_tableIn M_L_isStep (tgt := 144) d_L_isStep_69 (by decide) (by decide) (by rfl) (by decide) (S_strike T0 R ht hl hk hm kk)
  | 3, _ => g_tableIn M_L_isStep (tgt := 144) d_L_isStep_69 (by decide) (by decide) (by rfl) (by decide) (S_strike T0 R ht hl hk hm kk)
  | 4, _ => g_tableIn M_L_isStep (tgt := 240) d_L_isStep_69 (by decide) (by decide) (by rfl) (by decide) (S_melt T0 R ht hl hk hm kk)
  | 5, _ => g_tableIn M_L_isStep (tgt := 240) d_L_isStep_69 (by decide) (by decide) (by rfl) (by decide) (S_melt T0 R ht hl hk hm kk)
  | 6, _ => g_tableIn M_L_isStep (tgt := 325) d_L_isStep_69 (by decide) (by decide) (by rfl) (by decide) (S_meltStale T0 R ht hl hk hm kk)
  | 7, _ => g_tableIn M_L_isStep (tgt := 372) d_L_isStep_69 (by decide) (by decide) (by rfl) (by decide) (S_dropDie T0 R ht hl hk hm kk)
  | 8, _ => g_tableIn M_L_isStep (tgt := 405) d_L_isStep_69 (by decide) (by decide) (by rfl) (by decide) (S_dropIrr T0 R ht hl hk hm kk)
  | 9, _ => g_tableIn M_L_isStep (tgt := 422) d_L_isStep_69 (by decide) (by decide) (by rfl) (by decide) (S_die T0 R ht hl hk hm kk)
  | 10, _ => g_tableIn M_L_isStep (tgt := 422) d_L_isStep_69 (by decide) (by decide) (by rfl) (by decide) (S_die T0 R ht hl hk hm kk)
  | 11, _ => g_tableIn M_L_isStep (tgt := 606) d_L_isStep_69 (by decide) (by decide) (by rfl) (by decide) (S_irr T0 R ht hl hk hm kk)
  | 12, _ => g_tableIn M_L_isStep (tgt := 606) d_L_isStep_69 (by decide) (by decide) (by rfl) (by decide) (S_irr T0 R ht hl hk hm kk)
  | 13, _ => g_tableIn M_L_isStep (tgt := 707) d_L_isStep_69 (by decide) (by decide) (by rfl) (by decide) (S_snap T0 R ht hl hk hm kk)
  | 14, _ => g_tableIn M_L_isStep (tgt := 751) d_L_isStep_69 (by decide) (by decide) (by rfl) (by decide) (S_undo T0 R ht hl hk hm kk)
  | 15, _ => g_tableOut M_L_isStep (tgt := 768) d_L_isStep_69 (Or.inr (by decide)) (by decide) (S_noun T0 R ht hl hk hm kk)
  | 16, _ => g_tableOut M_L_isStep (tgt := 768) d_L_isStep_69 (Or.inr (by decide)) (by decide) (S_noun T0 R ht hl hk hm kk)
  | 17, _ => g_tableOut M_L_isStep (tgt := 768) d_L_isStep_69 (Or.inr (by decide)) (by decide) (S_noun T0 R ht hl hk hm kk)
  | 18, _ => g_tableOut M_L_isStep (tgt := 768) d_L_isStep_69 (Or.inr (by decide)) (by decide) (S_noun T0 R ht hl hk hm kk)
  | 19, _ => g_tableOut M_L_isStep (tgt := 768) d_L_isStep_69 (Or.inr (by decide)) (by decide) (S_noun T0 R ht hl hk hm kk)
  | n + 20, hn => absurd hn (by omega)
theorem W_coins0 {L L9 : Nat → Nat → Nat} {a9 : Nat} {v9 : Ent_} {X Y : Mt_} {h : Hp_} {Q : Ot_ → Hp_ → Prop} {n : Nat} (T : tw h L L9 a9 v9 X Y) (hn : n < X.2.1.1.length) (k : Q (.inl (some (.int (nI (cW n X.2.1.2.2.2.2.1))))) h) : gG 8 340 0 0 M_L_coins 0 (lv_args 0 [.ref (L 0 0), .int (nI n)]) [] h Q := by
  refine g_aloadn M_L_coins d_L_coins_0 (by first | rfl | assumption) ?_
  refine g_iloadn M_L_coins d_L_coins_1 (by first | rfl | assumption) ?_
  refine gc_V M_L_coins 0 0 [_] _ d_L_coins_2 cv_L_84 T.m0 (by rfl) (by rfl) (Nat.le_of_ble_eq_true (by rfl)) (Nat.le_of_ble_eq_true (by rfl)) (by decide) (by decide) (by decide) (by decide) (C_9_coinsOf T.1 hn ?_)
  show gG _ _ _ _ _ _ _ _ _ _
  exact g_iret M_L_coins d_L_coins_5 rfl rfl k
set_option maxHeartbeats 4000000 in
set_option maxRecDepth 100000 in
theorem W_isStep {L L9 : Nat → Nat → Nat} {a9 : Nat} {v9 : Ent_} {X Y : Mt_} {h : Hp_} {Q : Ot_ → Hp_ → Prop} {x y : Int32} {t : Nat} (T0 : tw h L L9 a9 v9 X Y) (R : Rl t X Y) (ht : t ≤ 60) (kk : ∀ h' X' Y', tw h' L L9 a9 v9 X' Y' → Rl (t + 1) X' Y' → Q (.inl (some (.int (nI 1)))) h') : gG 11 430 8 48 M_L_isStep 0 (lv_args 0 [.ref (L 0 0), .ref (L9 0 0), .int x, .int y]) [] h Q := by
  have nl := T0.1.un.2.2.2.2.2.2.1.1
  refine g_iloadn M_L_isStep d_L_isStep_0 (by first | rfl | assumption) ?_
  refine g_iconst M_L_isStep (v := nI 4) d_L_isStep_1 (by decide) ?_
  refine g_ishr M_L_isStep d_L_isStep_2 ?_
  refine g_istore M_L_isStep d_L_isStep_3 (by decide) (by first | rfl | (simp only [gc]; simp [*])) ?_
  refine g_aloadn M_L_isStep d_L_isStep_5 (by first | rfl | assumption) ?_
  refine gc_V M_L_isStep 8 48 [] _ d_L_isStep_6 cv_L_108 T0.m0 (by rfl) (by rfl) (Nat.le_of_ble_eq_true (by rfl)) (Nat.le_of_ble_eq_true (by rfl)) (by decide) (by decide) (by omega) (by omega) (C_9_nouns T0.1 ?_)
  show gG _ _ _ _ _ _ _ _ _ _
  refine g_istore M_L_isStep d_L_isStep_9 (by decide) (by first | rfl | (simp only [gc]; simp [*])) ?_
  refine g_aloadn M_L_isStep d_L_isStep_11 (by first | rfl | assumption) ?_
  refine gc_V M_L_isStep 8 48 [] _ d_L_isStep_12 cv_L_111 T0.m0 (by rfl) (by rfl) (Nat.le_of_ble_eq_true (by rfl)) (Nat.le_of_ble_eq_true (by rfl)) (by decide) (by decide) (by omega) (by omega) (C_9_coinsByHeaps T0.1 ?_)
  show gG _ _ _ _ _ _ _ _ _ _
  refine g_istore M_L_isStep d_L_isStep_15 (by decide) (by first | rfl | (simp only [gc]; simp [*])) ?_
  refine g_aloadn M_L_isStep d_L_isStep_17 (by first | rfl | assumption) ?_
  refine gc_V M_L_isStep 8 48 [] _ d_L_isStep_18 cv_L_114 T0.m0 (by rfl) (by rfl) (Nat.le_of_ble_eq_true (by rfl)) (Nat.le_of_ble_eq_true (by rfl)) (by decide) (by decide) (by omega) (by omega) (C_9_staleCoins T0.1 (fun h1 a1 G1 => ?_))
  have T1 := T0.o a1 G1
  show gG _ _ _ _ _ _ _ _ _ _
  refine g_istore M_L_isStep d_L_isStep_21 (by decide) (by first | rfl | (simp only [gc]; simp [*])) ?_
  refine g_iloadn M_L_isStep d_L_isStep_23 (by first | rfl | assumption) ?_
  refine g_iload M_L_isStep d_L_isStep_24 (by first | rfl | assumption) ?_
  refine g_iconst M_L_isStep (v := nI 1) d_L_isStep_26 (by decide) ?_
  refine g_iadd M_L_isStep d_L_isStep_27 ?_
  rw [nI_add]
  refine gc_S M_L_isStep 8 48 [_, _] _ d_L_isStep_28 cs_L_95 (by rfl) (by rfl) (by rfl) (Nat.le_of_ble_eq_true (by rfl)) (Nat.le_of_ble_eq_true (by rfl)) (by decide) (by decide) (by omega) (by omega) (W_up (by omega) (by omega) ?_)
  show gG _ _ _ _ _ _ _ _ _ _
  have ul := upF_lt (x := y) (n := X.2.1.1.length + 1) (by omega)
  generalize upF y (X.2.1.1.length + 1) = k at ul ⊢
  have had : ∀ lv : List (Nat × Value), gl lv 0 = some (.ref (L 0 0)) → gl lv 5 = some (.int (nI X.2.1.1.length)) → gl lv 8 = some (.int (nI k)) → gl lv 7 = some (.int (nI (sumH (X.2.1.2.2.2.2.1.filter (stl X.2.1))))) → (∀ lv', lv' = (9, .int (nI (hadF X k))) :: lv → gG 11 430 8 48 M_L_isStep 52 lv' [] h1 Q) → gG 11 430 8 48 M_L_isStep 33 lv [] h1 Q := by
    intro lv H0 H5 H8 H7 nx
    by_cases q : k < X.2.1.1.length
    · refine g_iload M_L_isStep d_L_isStep_33 (by first | rfl | assumption) ?_
      refine g_iload M_L_isStep d_L_isStep_35 (by first | rfl | assumption) ?_
      refine g_icmp_ge M_L_isStep (tgt := 49) d_L_isStep_37 (by decide) (fun c9 => absurd c9 (nI_ge q (by omega))) (fun _ => ?_)
      refine g_aloadn M_L_isStep d_L_isStep_40 (by first | rfl | assumption) ?_
      refine g_iload M_L_isStep d_L_isStep_41 (by first | rfl | assumption) ?_
      refine gc_SH M_L_isStep 8 48 [_, _] _ d_L_isStep_43 cs_L_117 (by decide) (by rfl) (by rfl) (Nat.le_of_ble_eq_true (by rfl)) (Nat.le_of_ble_eq_true (by rfl)) (by decide) (by decide) (by omega) (by omega) (W_coins0 T1 q ?_)
      show gG _ _ _ _ _ _ _ _ _ _
      refine g_goto M_L_isStep (tgt := 50) d_L_isStep_46 (by decide) ?_
      rw [show cW k X.2.1.2.2.2.2.1 = hadF X k from (if_pos q).symm]
      refine g_istore M_L_isStep d_L_isStep_50 (by decide) (gc_i H8) ?_
      exact nx _ rfl
    · refine g_iload M_L_isStep d_L_isStep_33 (by first | rfl | assumption) ?_
      refine g_iload M_L_isStep d_L_isStep_35 (by first | rfl | assumption) ?_
      refine g_icmp_ge M_L_isStep (tgt := 49) d_L_isStep_37 (by decide) (fun _ => ?_) (fun c9 => absurd (nI_le (by omega) (by omega)) c9)
      refine g_iconst M_L_isStep (v := nI 0) d_L_isStep_49 (by decide) ?_
      rw [show nI 0 = nI (hadF X k) from congrArg nI (if_neg q).symm]
      refine g_istore M_L_isStep d_L_isStep_50 (by decide) (gc_i H8) ?_
      exact nx _ rfl
  refine g_istore M_L_isStep d_L_isStep_31 (by decide) (by first | rfl | (simp only [gc]; simp [*])) ?_
  refine had _ rfl rfl rfl rfl (fun lv9 e9 => ?_)
  subst e9
  refine g_iconst M_L_isStep (v := nI 1) d_L_isStep_52 (by decide) ?_
  refine g_iload M_L_isStep d_L_isStep_53 (by first | rfl | assumption) ?_
  refine g_bipush M_L_isStep (v := nI 99) d_L_isStep_55 (by decide) ?_
  refine gc_S M_L_isStep 8 48 [_, _] _ d_L_isStep_57 cs_L_95 (by rfl) (by rfl) (by rfl) (Nat.le_of_ble_eq_true (by rfl)) (Nat.le_of_ble_eq_true (by rfl)) (by decide) (by decide) (by omega) (by omega) (W_up (by decide) (by decide) ?_)
  show gG _ _ _ _ _ _ _ _ _ _
  have um := upF_lt (x := x >>> (nI 4 &&& 31)) (n := 99) (by decide)
  refine g_iadd M_L_isStep d_L_isStep_60 ?_
  rw [nI_add]
  refine g_istore M_L_isStep d_L_isStep_61 (by decide) (by first | rfl | (simp only [gc]; simp [*])) ?_
  refine g_iloadn M_L_isStep d_L_isStep_63 (by first | rfl | assumption) ?_
  refine g_bipush M_L_isStep (v := nI 20) d_L_isStep_64 (by decide) ?_
  refine gc_S M_L_isStep 8 48 [_, _] _ d_L_isStep_66 cs_L_95 (by rfl) (by rfl) (by rfl) (Nat.le_of_ble_eq_true (by rfl)) (Nat.le_of_ble_eq_true (by rfl)) (by decide) (by decide) (by omega) (by omega) (W_up (by decide) (by decide) ?_)
  show gG _ _ _ _ _ _ _ _ _ _
  exact S_switch T1 R ht ⟨rfl, rfl, rfl, rfl, rfl, rfl, rfl, rfl, rfl, rfl, rfl⟩ (by omega) ⟨by omega, by omega⟩ kk _ (upF_lt (by decide))
