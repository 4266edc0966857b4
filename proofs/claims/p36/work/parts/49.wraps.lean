/-! ===== the law's rows: remainders, shifts, constants; two mints; the law's calls of them ===== -/
section GMORE
variable {fr lo kc ks pc : Nat} (M : Mi_) {lv : List (Nat × Value)} {st : List Value} {h : Hp_} {Q : Ot_ → Hp_ → Prop}
theorem g_irem {x y : Int32} (d : decode M.2.1 pc = .ok (.irem, 1)) (n : ¬ y = 0) (k : gG fr lo kc ks M (pc + 1) lv (.int (x - x / y * y) :: st) h Q) : gG fr lo kc ks M pc lv (.int y :: .int x :: st) h Q := by
  intro l D B p e R s m args below meth c H locs cells slots mc ms ls C hW hS hL
  exact lv_irem C.1 C.2.1 d n (k C hW hS hL)
theorem g_ishr {x y : Int32} (d : decode M.2.1 pc = .ok (.ishr, 1)) (k : gG fr lo kc ks M (pc + 1) lv (.int (x >>> (y &&& 31)) :: st) h Q) : gG fr lo kc ks M pc lv (.int y :: .int x :: st) h Q := by
  intro l D B p e R s m args below meth c H locs cells slots mc ms ls C hW hS hL
  exact lv_ishr C.1 C.2.1 d (k C hW hS hL)
end GMORE
theorem ki_L_7 : Cond.constant RL 7 (nI 2145385927) ∈ gAll := by
  have e : (nI 2145385927) = (2145385927 : Int32) := by decide
  rw [e]
  exact gAll_of 320 (by decide +kernel) (by decide +kernel)
theorem ki_L_8 : Cond.constant RL 8 (nI 2147483647) ∈ gAll := by
  have e : (nI 2147483647) = (2147483647 : Int32) := by decide
  rw [e]
  exact gAll_of 428 (by decide +kernel) (by decide +kernel)
theorem ki_L_17 : Cond.constant RL 17 (nI 90001) ∈ gAll := by
  have e : (nI 90001) = (90001 : Int32) := by decide
  rw [e]
  exact gAll_of 516 (by decide +kernel) (by decide +kernel)
theorem ki_L_20 : Cond.constant RL 20 (nI 90002) ∈ gAll := by
  have e : (nI 90002) = (90002 : Int32) := by decide
  rw [e]
  exact gAll_of 620 (by decide +kernel) (by decide +kernel)
theorem ki_L_23 : Cond.constant RL 23 (nI 90003) ∈ gAll := by
  have e : (nI 90003) = (90003 : Int32) := by decide
  rw [e]
  exact gAll_of 621 (by decide +kernel) (by decide +kernel)
/-- two mints, and a cell that neither has -/
def tw (h : Hp_) (L L9 : Nat → Nat → Nat) (a9 : Nat) (v9 : Ent_) (X Y : Mt_) : Prop := mtN h L X ∧ mtN h L9 Y ∧ disL L L9 ∧ disL L9 L ∧ h a9 = some v9 ∧ a9 ∉ aL L ∧ a9 ∉ aL L9
theorem tw.o {h h' : Hp_} {L L9 : Nat → Nat → Nat} {a9 : Nat} {v9 : Ent_} {X X' Y : Mt_} (T : tw h L L9 a9 v9 X Y) (e : gExt h h' (aL L) []) (H : mtN h' L X') : tw h' L L9 a9 v9 X' Y :=
  ⟨H, T.2.1.other T.2.2.1 e, T.2.2.1, T.2.2.2.1, e.keep T.2.2.2.2.1 T.2.2.2.2.2.1, T.2.2.2.2.2⟩
theorem tw.sw {h : Hp_} {L L9 : Nat → Nat → Nat} {a9 : Nat} {v9 : Ent_} {X Y : Mt_} (T : tw h L L9 a9 v9 X Y) : tw h L9 L a9 v9 Y X := ⟨T.2.1, T.1, T.2.2.2.1, T.2.2.1, T.2.2.2.2.1, T.2.2.2.2.2.2, T.2.2.2.2.2.1⟩
theorem tw.m0 {h : Hp_} {L L9 : Nat → Nat → Nat} {a9 : Nat} {v9 : Ent_} {X Y : Mt_} (T : tw h L L9 a9 v9 X Y) : h (L 0 0) = some (.inr (9, [.ref (L 0 1), .ref (L 1 0), .ref (L 2 0), .int (bI X.2.2.1.isSome), .ref (L 0 4), .ref (L 3 0), .ref (L 0 6), .ref (L 0 11), .ref (L 0 13), .ref (L 0 15), .ref (L 0 17), .ref (L 0 20)])) := T.1.un.2.2.1
def aStrike (X : Mt_) (n m : Nat) : Nat × Mt_ := if n < X.2.1.1.length then (match stkS X.2.1 n m with
  | some x => (cW n x.2.2.2.2.1, (X.1, x, X.2.2.1, recN X.2.2.2 X.2.1))
  | none => (90003, X)) else (90001, X)
def aMelt (X : Mt_) (n m : Nat) : Nat × Mt_ := if n < X.2.1.1.length then (match meS X.2.1 n m with
  | some x => (cW n x.2.2.2.2.1, (X.1, x, X.2.2.1, recN X.2.2.2 X.2.1))
  | none => (90003, X)) else (90001, X)
def aDropDie (X : Mt_) (d : Nat) : Nat × Mt_ := if d < X.2.1.2.2.2.1.1.length then (match ddS X.2.1 d with
  | some x => (x.2.2.2.1.1.length, (X.1, x, X.2.2.1, recN X.2.2.2 X.2.1))
  | none => (90002, X)) else (90001, X)
def aDropIrr (X : Mt_) : Nat × Mt_ := match diR1 X.2.1 with
  | some x => (x.2.1.length, (X.1, x, X.2.2.1, recN X.2.2.2 X.2.1))
  | none => (90001, X)
def aCarry (X : Mt_) : Nat × Mt_ := match acO X.2.1 X.1 with
  | some x => (1, (X.1, x, X.2.2.1, recN X.2.2.2 X.2.1))
  | none => (90001, X)
def aUndo (X : Mt_) : Nat × Mt_ := match X.2.2.2.getLast? with
  | some z => (X.2.2.2.dropLast.length, (X.1, z, X.2.2.1, X.2.2.2.dropLast))
  | none => (90001, X)
def aRestore (X : Mt_) : Nat × Mt_ := match X.2.2.1 with
  | some z => (z.1.length, (X.1, z, X.2.2.1, recN X.2.2.2 X.2.1))
  | none => (90001, X)
def vRecall (X : Mt_) : Int32 := if wdT X.1 = true then oI (rsF X.2.1 X.1) else nI 90001
def vRev (X : Mt_) : Int32 := if wdT X.1 = true then oI (rrF X.2.1 X.1) else nI 90001
def vPos (X : Mt_) : Int32 := if wdT X.1 = true then nI (oriF X.2.1 X.1).length else nI 90001
set_option maxHeartbeats 4000000 in
set_option maxRecDepth 100000 in
theorem W_letters {L L9 : Nat → Nat → Nat} {a9 : Nat} {v9 : Ent_} {X Y : Mt_} {h : Hp_} {Q : Ot_ → Hp_ → Prop} {n : Nat} (T : tw h L L9 a9 v9 X Y) (hn : n < X.2.1.1.length) (k : ∀ h', tw h' L L9 a9 v9 X Y → Q (.inl (some (.int (nI (X.2.1.1.getD n []).length)))) h') : gG 8 340 0 0 M_L_letters 0 (lv_args 0 [.ref (L 0 0), .int (nI n)]) [] h Q := by
  refine g_aloadn M_L_letters d_L_letters_0 (by first | rfl | assumption) ?_
  refine g_iloadn M_L_letters d_L_letters_1 (by first | rfl | assumption) ?_
  refine gc_V M_L_letters 0 0 [_] _ d_L_letters_2 cv_L_51 T.m0 (by rfl) (by rfl) (Nat.le_of_ble_eq_true (by rfl)) (Nat.le_of_ble_eq_true (by rfl)) (by decide) (by decide) (by decide) (by decide) (C_9_lettersOf T.1 hn ?_)
  show gG _ _ _ _ _ _ _ _ _ _
  exact g_iret M_L_letters d_L_letters_5 rfl rfl (k h T)
set_option maxHeartbeats 4000000 in
set_option maxRecDepth 100000 in
theorem W_coins {L L9 : Nat → Nat → Nat} {a9 : Nat} {v9 : Ent_} {X Y : Mt_} {h : Hp_} {Q : Ot_ → Hp_ → Prop} {n : Nat} (T : tw h L L9 a9 v9 X Y) (hn : n < X.2.1.1.length) (k : ∀ h', tw h' L L9 a9 v9 X Y → Q (.inl (some (.int (nI (cW n X.2.1.2.2.2.2.1))))) h') : gG 8 340 0 0 M_L_coins 0 (lv_args 0 [.ref (L 0 0), .int (nI n)]) [] h Q := by
  refine g_aloadn M_L_coins d_L_coins_0 (by first | rfl | assumption) ?_
  refine g_iloadn M_L_coins d_L_coins_1 (by first | rfl | assumption) ?_
  refine gc_V M_L_coins 0 0 [_] _ d_L_coins_2 cv_L_84 T.m0 (by rfl) (by rfl) (Nat.le_of_ble_eq_true (by rfl)) (Nat.le_of_ble_eq_true (by rfl)) (by decide) (by decide) (by decide) (by decide) (C_9_coinsOf T.1 hn ?_)
  show gG _ _ _ _ _ _ _ _ _ _
  exact g_iret M_L_coins d_L_coins_5 rfl rfl (k h T)
set_option maxHeartbeats 4000000 in
set_option maxRecDepth 100000 in
theorem W_pluralLetters {L L9 : Nat → Nat → Nat} {a9 : Nat} {v9 : Ent_} {X Y : Mt_} {h : Hp_} {Q : Ot_ → Hp_ → Prop} {n : Nat} (T : tw h L L9 a9 v9 X Y) (hn : n < X.2.1.1.length) (k : ∀ h', tw h' L L9 a9 v9 X Y → (plN X.2.1 n).length ≤ 16 → Q (.inl (some (.int (nI (plN X.2.1 n).length)))) h') : gG 8 340 0 0 M_L_pluralLetters 0 (lv_args 0 [.ref (L 0 0), .int (nI n)]) [] h Q := by
  refine g_aloadn M_L_pluralLetters d_L_pluralLetters_0 (by first | rfl | assumption) ?_
  refine g_iloadn M_L_pluralLetters d_L_pluralLetters_1 (by first | rfl | assumption) ?_
  refine gc_V M_L_pluralLetters 0 0 [_] _ d_L_pluralLetters_2 cv_L_54 T.m0 (by rfl) (by rfl) (Nat.le_of_ble_eq_true (by rfl)) (Nat.le_of_ble_eq_true (by rfl)) (by decide) (by decide) (by decide) (by decide) (C_9_pluralLetters T.1 hn (fun h1 a1 H1 l16 => ?_))
  have T1 := T.o a1 H1
  show gG _ _ _ _ _ _ _ _ _ _
  exact g_iret M_L_pluralLetters d_L_pluralLetters_5 rfl rfl (k h1 T1 l16)
set_option maxHeartbeats 4000000 in
set_option maxRecDepth 100000 in
theorem W_fitsOf {L L9 : Nat → Nat → Nat} {a9 : Nat} {v9 : Ent_} {X Y : Mt_} {h : Hp_} {Q : Ot_ → Hp_ → Prop} {n : Nat} (T : tw h L L9 a9 v9 X Y) (hn : n < X.2.1.2.2.2.1.1.length) (k : ∀ h', tw h' L L9 a9 v9 X Y → Q (.inl (some (.int (nI (X.2.1.1.countP (fun w => fitD X.2.1.2.2.2.1 n w)))))) h') : gG 8 340 0 0 M_L_fitsOf 0 (lv_args 0 [.ref (L 0 0), .int (nI n)]) [] h Q := by
  refine g_aloadn M_L_fitsOf d_L_fitsOf_0 (by first | rfl | assumption) ?_
  refine g_iloadn M_L_fitsOf d_L_fitsOf_1 (by first | rfl | assumption) ?_
  refine gc_V M_L_fitsOf 0 0 [_] _ d_L_fitsOf_2 cv_L_81 T.m0 (by rfl) (by rfl) (Nat.le_of_ble_eq_true (by rfl)) (Nat.le_of_ble_eq_true (by rfl)) (by decide) (by decide) (by decide) (by decide) (C_9_fitsOf T.1 hn (fun h1 a1 H1 => ?_))
  have T1 := T.o a1 H1
  show gG _ _ _ _ _ _ _ _ _ _
  exact g_iret M_L_fitsOf d_L_fitsOf_5 rfl rfl (k h1 T1)
set_option maxHeartbeats 4000000 in
set_option maxRecDepth 100000 in
theorem W_dieFor {L L9 : Nat → Nat → Nat} {a9 : Nat} {v9 : Ent_} {X Y : Mt_} {h : Hp_} {Q : Ot_ → Hp_ → Prop} {n : Nat} (T : tw h L L9 a9 v9 X Y) (hn : n < X.2.1.1.length) (k : ∀ h', tw h' L L9 a9 v9 X Y → Q (.inl (some (.int (dfN X.2.1 n)))) h') : gG 8 340 0 0 M_L_dieFor 0 (lv_args 0 [.ref (L 0 0), .int (nI n)]) [] h Q := by
  refine g_aloadn M_L_dieFor d_L_dieFor_0 (by first | rfl | assumption) ?_
  refine g_iloadn M_L_dieFor d_L_dieFor_1 (by first | rfl | assumption) ?_
  refine gc_V M_L_dieFor 0 0 [_] _ d_L_dieFor_2 cv_L_69 T.m0 (by rfl) (by rfl) (Nat.le_of_ble_eq_true (by rfl)) (Nat.le_of_ble_eq_true (by rfl)) (by decide) (by decide) (by decide) (by decide) (C_9_dieFor T.1 hn (fun h1 a1 H1 => ?_))
  have T1 := T.o a1 H1
  show gG _ _ _ _ _ _ _ _ _ _
  exact g_iret M_L_dieFor d_L_dieFor_5 rfl rfl (k h1 T1)
set_option maxHeartbeats 4000000 in
set_option maxRecDepth 100000 in
theorem W_isIrregular {L L9 : Nat → Nat → Nat} {a9 : Nat} {v9 : Ent_} {X Y : Mt_} {h : Hp_} {Q : Ot_ → Hp_ → Prop} {n : Nat} (T : tw h L L9 a9 v9 X Y) (hn : n < X.2.1.1.length) (k : ∀ h', tw h' L L9 a9 v9 X Y → Q (.inl (some (.int (bI (irF X.2.1 n).isSome)))) h') : gG 8 340 0 0 M_L_isIrregular 0 (lv_args 0 [.ref (L 0 0), .int (nI n)]) [] h Q := by
  refine g_aloadn M_L_isIrregular d_L_isIrregular_0 (by first | rfl | assumption) ?_
  refine g_iloadn M_L_isIrregular d_L_isIrregular_1 (by first | rfl | assumption) ?_
  refine gc_V M_L_isIrregular 0 0 [_] _ d_L_isIrregular_2 cv_L_65 T.m0 (by rfl) (by rfl) (Nat.le_of_ble_eq_true (by rfl)) (Nat.le_of_ble_eq_true (by rfl)) (by decide) (by decide) (by decide) (by decide) (C_9_isIrregular T.1 hn (fun h1 a1 H1 => ?_))
  have kk := k h1 (T.o a1 H1)
  show gG _ _ _ _ _ _ _ _ _ _
  cases e : (irF X.2.1 n).isSome with
  | false =>
    rw [e] at kk
    refine g_if_eq M_L_isIrregular (tgt := 12) d_L_isIrregular_5 (by decide) (fun _ => ?_) (fun c9 => absurd rfl c9)
    refine g_iconst M_L_isIrregular (v := nI 0) d_L_isIrregular_12 (by decide) ?_
    exact g_iret M_L_isIrregular d_L_isIrregular_13 rfl rfl (kk)
  | true =>
    rw [e] at kk
    refine g_if_eq M_L_isIrregular (tgt := 12) d_L_isIrregular_5 (by decide) (fun c9 => absurd c9 (by decide)) (fun _ => ?_)
    refine g_iconst M_L_isIrregular (v := nI 1) d_L_isIrregular_8 (by decide) ?_
    refine g_goto M_L_isIrregular (tgt := 13) d_L_isIrregular_9 (by decide) ?_
    exact g_iret M_L_isIrregular d_L_isIrregular_13 rfl rfl (kk)
set_option maxHeartbeats 4000000 in
set_option maxRecDepth 100000 in
theorem W_letter {L L9 : Nat → Nat → Nat} {a9 : Nat} {v9 : Ent_} {X Y : Mt_} {h : Hp_} {Q : Ot_ → Hp_ → Prop} {n j : Nat} (T : tw h L L9 a9 v9 X Y) (hn : n < X.2.1.1.length) (hj : j < (plN X.2.1 n).length) (k : ∀ h', tw h' L L9 a9 v9 X Y → (plN X.2.1 n).getD j 0 < 65536 → Q (.inl (some (.int (nI ((plN X.2.1 n).getD j 0))))) h') : gG 8 340 0 0 M_L_letter 0 (lv_args 0 [.ref (L 0 0), .int (nI n), .int (nI j)]) [] h Q := by
  refine g_aloadn M_L_letter d_L_letter_0 (by first | rfl | assumption) ?_
  refine g_iloadn M_L_letter d_L_letter_1 (by first | rfl | assumption) ?_
  refine g_iloadn M_L_letter d_L_letter_2 (by first | rfl | assumption) ?_
  refine gc_V M_L_letter 0 0 [_, _] _ d_L_letter_3 cv_L_57 T.m0 (by rfl) (by rfl) (Nat.le_of_ble_eq_true (by rfl)) (Nat.le_of_ble_eq_true (by rfl)) (by decide) (by decide) (by decide) (by decide) (C_9_pluralLetter T.1 hn hj (fun h1 a1 H1 c1 => ?_))
  have T1 := T.o a1 H1
  show gG _ _ _ _ _ _ _ _ _ _
  exact g_iret M_L_letter d_L_letter_6 rfl rfl (k h1 T1 c1)
set_option maxHeartbeats 4000000 in
set_option maxRecDepth 100000 in
theorem W_counted1 {L L9 : Nat → Nat → Nat} {a9 : Nat} {v9 : Ent_} {X Y : Mt_} {h : Hp_} {Q : Ot_ → Hp_ → Prop} {n j : Nat} (T : tw h L L9 a9 v9 X Y) (hn : n < X.2.1.1.length) (hj : j < (X.2.1.1.getD n []).length) (k : ∀ h', tw h' L L9 a9 v9 X Y → (X.2.1.1.getD n []).getD j 0 < 65536 → Q (.inl (some (.int (nI ((X.2.1.1.getD n []).getD j 0))))) h') : gG 8 340 0 0 M_L_counted 0 (lv_args 0 [.ref (L 0 0), .int (nI n), .int (nI 1), .int (nI j)]) [] h Q := by
  refine g_aloadn M_L_counted d_L_counted_0 (by first | rfl | assumption) ?_
  refine g_iloadn M_L_counted d_L_counted_1 (by first | rfl | assumption) ?_
  refine g_iloadn M_L_counted d_L_counted_2 (by first | rfl | assumption) ?_
  refine g_iloadn M_L_counted d_L_counted_3 (by first | rfl | assumption) ?_
  refine gc_V M_L_counted 0 0 [_, _, _] _ d_L_counted_4 cv_L_61 T.m0 (by rfl) (by rfl) (Nat.le_of_ble_eq_true (by rfl)) (Nat.le_of_ble_eq_true (by rfl)) (by decide) (by decide) (by decide) (by decide) (C_9_counted1 T.1 hn hj (fun h1 a1 H1 c1 => ?_))
  have T1 := T.o a1 H1
  show gG _ _ _ _ _ _ _ _ _ _
  exact g_iret M_L_counted d_L_counted_7 rfl rfl (k h1 T1 c1)
set_option maxHeartbeats 4000000 in
set_option maxRecDepth 100000 in
theorem W_counted0 {L L9 : Nat → Nat → Nat} {a9 : Nat} {v9 : Ent_} {X Y : Mt_} {h : Hp_} {Q : Ot_ → Hp_ → Prop} {n j : Nat} (T : tw h L L9 a9 v9 X Y) (hn : n < X.2.1.1.length) (hj : j < (plN X.2.1 n).length) (k : ∀ h', tw h' L L9 a9 v9 X Y → (plN X.2.1 n).getD j 0 < 65536 → Q (.inl (some (.int (nI ((plN X.2.1 n).getD j 0))))) h') : gG 8 340 0 0 M_L_counted 0 (lv_args 0 [.ref (L 0 0), .int (nI n), .int (nI 0), .int (nI j)]) [] h Q := by
  refine g_aloadn M_L_counted d_L_counted_0 (by first | rfl | assumption) ?_
  refine g_iloadn M_L_counted d_L_counted_1 (by first | rfl | assumption) ?_
  refine g_iloadn M_L_counted d_L_counted_2 (by first | rfl | assumption) ?_
  refine g_iloadn M_L_counted d_L_counted_3 (by first | rfl | assumption) ?_
  refine gc_V M_L_counted 0 0 [_, _, _] _ d_L_counted_4 cv_L_61 T.m0 (by rfl) (by rfl) (Nat.le_of_ble_eq_true (by rfl)) (Nat.le_of_ble_eq_true (by rfl)) (by decide) (by decide) (by decide) (by decide) (C_9_counted0 T.1 hn hj (fun h1 a1 H1 c1 => ?_))
  have T1 := T.o a1 H1
  show gG _ _ _ _ _ _ _ _ _ _
  exact g_iret M_L_counted d_L_counted_7 rfl rfl (k h1 T1 c1)
set_option maxHeartbeats 4000000 in
set_option maxRecDepth 100000 in
theorem W_type {L L9 : Nat → Nat → Nat} {a9 : Nat} {v9 : Ent_} {X Y : Mt_} {h : Hp_} {Q : Ot_ → Hp_ → Prop} {c : Nat} (T : tw h L L9 a9 v9 X Y) (hl : X.1.length < 60) (hc : c < 65536) (k : ∀ h', tw h' L L9 a9 v9 (X.1 ++ [c], X.2) Y → Q (.inl (some (.int (nI (X.1.length + 1))))) h') : gG 8 340 0 0 M_L_type 0 (lv_args 0 [.ref (L 0 0), .int (nI c)]) [] h Q := by
  refine g_aloadn M_L_type d_L_type_0 (by first | rfl | assumption) ?_
  refine g_iloadn M_L_type d_L_type_1 (by first | rfl | assumption) ?_
  refine g_i2c M_L_type d_L_type_2 ?_
  rw [pk_char, pk_tn (by omega), Nat.mod_eq_of_lt hc]
  refine gc_V M_L_type 0 0 [_] _ d_L_type_3 cv_L_35 T.m0 (by rfl) (by rfl) (Nat.le_of_ble_eq_true (by rfl)) (Nat.le_of_ble_eq_true (by rfl)) (by decide) (by decide) (by decide) (by decide) (C_9_typeV T.1 hl hc (fun h1 a1 H1 => ?_))
  have T1 := T.o a1 H1
  show gG _ _ _ _ _ _ _ _ _ _
  exact g_iret M_L_type d_L_type_6 rfl rfl (k h1 T1)
set_option maxHeartbeats 4000000 in
set_option maxRecDepth 100000 in
theorem W_impossible {L L9 : Nat → Nat → Nat} {a9 : Nat} {v9 : Ent_} {X Y : Mt_} {h : Hp_} {Q : Ot_ → Hp_ → Prop} (T : tw h L L9 a9 v9 X Y) (hT : okT X.1) (k : ∀ h', tw h' L L9 a9 v9 X Y → Q (.inl (some (.int (if (acO X.2.1 X.1).isSome = true then -1 else nI 0)))) h') : gG 8 340 0 0 M_L_impossible 0 (lv_args 0 [.ref (L 0 0)]) [] h Q := by
  refine g_aloadn M_L_impossible d_L_impossible_0 (by first | rfl | assumption) ?_
  refine gc_V M_L_impossible 0 0 [] _ d_L_impossible_1 cv_L_39 T.m0 (by rfl) (by rfl) (Nat.le_of_ble_eq_true (by rfl)) (Nat.le_of_ble_eq_true (by rfl)) (by decide) (by decide) (by decide) (by decide) (C_9_impossible T.1 hT (fun h1 a1 H1 => ?_))
  have T1 := T.o a1 H1
  show gG _ _ _ _ _ _ _ _ _ _
  exact g_iret M_L_impossible d_L_impossible_4 rfl rfl (k h1 T1)
set_option maxHeartbeats 4000000 in
set_option maxRecDepth 100000 in
theorem W_strike {L L9 : Nat → Nat → Nat} {a9 : Nat} {v9 : Ent_} {X Y : Mt_} {h : Hp_} {Q : Ot_ → Hp_ → Prop} {n m : Nat} (T : tw h L L9 a9 v9 X Y) (h31 : n < 2 ^ 31) (hm : 1 ≤ m ∧ m ≤ 99) (hb : ∀ y ∈ X.2.1.2.2.2.2.1, y.2.2 + 99 < 2 ^ 30) (k : ∀ h', tw h' L L9 a9 v9 (aStrike X n m).2 Y → Q (.inl (some (.int (nI (aStrike X n m).1)))) h') : gG 8 340 1 6 M_L_strike 0 (lv_args 0 [.ref (L 0 0), .int (nI n), .int (nI m)]) [] h Q := by
  by_cases q : n < X.2.1.1.length
  rotate_left
  · have ee : aStrike X n m = (90001, X) := by unfold aStrike; exact if_neg q
    rw [ee] at k
    refine g_aloadn M_L_strike d_L_strike_0 (by first | rfl | assumption) ?_
    refine g_iloadn M_L_strike d_L_strike_1 (by first | rfl | assumption) ?_
    refine g_iloadn M_L_strike d_L_strike_2 (by first | rfl | assumption) ?_
    refine gc_V M_L_strike 0 0 [_, _] _ d_L_strike_3 cv_L_9 T.m0 (by rfl) (by rfl) (Nat.le_of_ble_eq_true (by rfl)) (Nat.le_of_ble_eq_true (by rfl)) (by decide) (by decide) (by decide) (by decide) (C_9_strikeX T.1 q h31 (gx_catch M_L_strike [] (0, 6, 7, 15) [(0, 6, 11, 18), (0, 6, 15, 21)] rfl (fun z hz => nomatch hz) (by decide) (by decide) cl_L_15 ca_IndexOutOfBoundsException (fun z => ?_)))
    refine g_astoren M_L_strike d_L_strike_7 (by decide) (by first | rfl | (simp only [gc]; simp [*])) ?_
    refine g_ldc M_L_strike d_L_strike_8 ki_L_17 ?_
    exact g_iret M_L_strike d_L_strike_10 rfl rfl (k h T)
  refine g_aloadn M_L_strike d_L_strike_0 (by first | rfl | assumption) ?_
  refine g_iloadn M_L_strike d_L_strike_1 (by first | rfl | assumption) ?_
  refine g_iloadn M_L_strike d_L_strike_2 (by first | rfl | assumption) ?_
  refine gc_V M_L_strike 0 0 [_, _] _ d_L_strike_3 cv_L_9 T.m0 (by rfl) (by rfl) (Nat.le_of_ble_eq_true (by rfl)) (Nat.le_of_ble_eq_true (by rfl)) (by decide) (by decide) (by decide) (by decide) (C_9_strikeV T.1 q hm hb (fun f h1 a1 H1 => ?_) (fun x1 f h1 a1 H1 => ?_))
  · have T1 := T.o a1 H1
    have ee : aStrike X n m = (90003, X) := by unfold aStrike; rw [if_pos q, f]
    rw [ee] at k
    refine gx_catch M_L_strike [(0, 6, 7, 15), (0, 6, 11, 18)] (0, 6, 15, 21) [] rfl (fun z hz => by
    simp only [List.mem_cons, List.not_mem_nil, or_false] at hz
    rcases hz with rfl | rfl
    · exact ⟨by decide, _, cl_L_15, by decide +kernel⟩
    · exact ⟨by decide, _, cl_L_18, by decide +kernel⟩) (by decide) (by decide) cl_L_21 ca_IllegalStateException (fun z => ?_)
    refine g_astoren M_L_strike d_L_strike_15 (by decide) (by first | rfl | (simp only [gc]; simp [*])) ?_
    refine g_ldc M_L_strike d_L_strike_16 ki_L_23 ?_
    exact g_iret M_L_strike d_L_strike_18 rfl rfl (k h1 T1)
  · have T1 := T.o a1 H1
    have ee : aStrike X n m = (cW n x1.2.2.2.2.1, (X.1, x1, X.2.2.1, recN X.2.2.2 X.2.1)) := by unfold aStrike; rw [if_pos q, f]
    rw [ee] at k
    show gG _ _ _ _ _ _ _ _ _ _
    exact g_iret M_L_strike d_L_strike_6 rfl rfl (k h1 T1)
set_option maxHeartbeats 4000000 in
set_option maxRecDepth 100000 in
theorem W_melt {L L9 : Nat → Nat → Nat} {a9 : Nat} {v9 : Ent_} {X Y : Mt_} {h : Hp_} {Q : Ot_ → Hp_ → Prop} {n m : Nat} (T : tw h L L9 a9 v9 X Y) (h31 : n < 2 ^ 31) (hm : 1 ≤ m ∧ m ≤ 99) (hb : cW n X.2.1.2.2.2.2.1 < 2 ^ 30) (k : ∀ h', tw h' L L9 a9 v9 (aMelt X n m).2 Y → Q (.inl (some (.int (nI (aMelt X n m).1)))) h') : gG 8 340 1 6 M_L_melt 0 (lv_args 0 [.ref (L 0 0), .int (nI n), .int (nI m)]) [] h Q := by
  by_cases q : n < X.2.1.1.length
  rotate_left
  · have ee : aMelt X n m = (90001, X) := by unfold aMelt; exact if_neg q
    rw [ee] at k
    refine g_aloadn M_L_melt d_L_melt_0 (by first | rfl | assumption) ?_
    refine g_iloadn M_L_melt d_L_melt_1 (by first | rfl | assumption) ?_
    refine g_iloadn M_L_melt d_L_melt_2 (by first | rfl | assumption) ?_
    refine gc_V M_L_melt 0 0 [_, _] _ d_L_melt_3 cv_L_24 T.m0 (by rfl) (by rfl) (Nat.le_of_ble_eq_true (by rfl)) (Nat.le_of_ble_eq_true (by rfl)) (by decide) (by decide) (by decide) (by decide) (C_9_meltX T.1 q h31 (gx_catch M_L_melt [] (0, 6, 7, 15) [(0, 6, 11, 18), (0, 6, 15, 21)] rfl (fun z hz => nomatch hz) (by decide) (by decide) cl_L_15 ca_IndexOutOfBoundsException (fun z => ?_)))
    refine g_astoren M_L_melt d_L_melt_7 (by decide) (by first | rfl | (simp only [gc]; simp [*])) ?_
    refine g_ldc M_L_melt d_L_melt_8 ki_L_17 ?_
    exact g_iret M_L_melt d_L_melt_10 rfl rfl (k h T)
  refine g_aloadn M_L_melt d_L_melt_0 (by first | rfl | assumption) ?_
  refine g_iloadn M_L_melt d_L_melt_1 (by first | rfl | assumption) ?_
  refine g_iloadn M_L_melt d_L_melt_2 (by first | rfl | assumption) ?_
  refine gc_V M_L_melt 0 0 [_, _] _ d_L_melt_3 cv_L_24 T.m0 (by rfl) (by rfl) (Nat.le_of_ble_eq_true (by rfl)) (Nat.le_of_ble_eq_true (by rfl)) (by decide) (by decide) (by decide) (by decide) (C_9_meltV T.1 q hm hb (fun f h1 a1 H1 => ?_) (fun x1 f h1 a1 H1 => ?_))
  · have T1 := T.o a1 H1
    have ee : aMelt X n m = (90003, X) := by unfold aMelt; rw [if_pos q, f]
    rw [ee] at k
    refine gx_catch M_L_melt [(0, 6, 7, 15), (0, 6, 11, 18)] (0, 6, 15, 21) [] rfl (fun z hz => by
    simp only [List.mem_cons, List.not_mem_nil, or_false] at hz
    rcases hz with rfl | rfl
    · exact ⟨by decide, _, cl_L_15, by decide +kernel⟩
    · exact ⟨by decide, _, cl_L_18, by decide +kernel⟩) (by decide) (by decide) cl_L_21 ca_IllegalStateException (fun z => ?_)
    refine g_astoren M_L_melt d_L_melt_15 (by decide) (by first | rfl | (simp only [gc]; simp [*])) ?_
    refine g_ldc M_L_melt d_L_melt_16 ki_L_23 ?_
    exact g_iret M_L_melt d_L_melt_18 rfl rfl (k h1 T1)
  · have T1 := T.o a1 H1
    have ee : aMelt X n m = (cW n x1.2.2.2.2.1, (X.1, x1, X.2.2.1, recN X.2.2.2 X.2.1)) := by unfold aMelt; rw [if_pos q, f]
    rw [ee] at k
    show gG _ _ _ _ _ _ _ _ _ _
    exact g_iret M_L_melt d_L_melt_6 rfl rfl (k h1 T1)
set_option maxHeartbeats 4000000 in
set_option maxRecDepth 100000 in
theorem W_dropDie {L L9 : Nat → Nat → Nat} {a9 : Nat} {v9 : Ent_} {X Y : Mt_} {h : Hp_} {Q : Ot_ → Hp_ → Prop} {d : Nat} (T : tw h L L9 a9 v9 X Y) (h31 : d < 2 ^ 31) (k : ∀ h', tw h' L L9 a9 v9 (aDropDie X d).2 Y → Q (.inl (some (.int (nI (aDropDie X d).1)))) h') : gG 8 340 1 6 M_L_dropDie 0 (lv_args 0 [.ref (L 0 0), .int (nI d)]) [] h Q := by
  by_cases q : d < X.2.1.2.2.2.1.1.length
  rotate_left
  · have ee : aDropDie X d = (90001, X) := by unfold aDropDie; exact if_neg q
    rw [ee] at k
    refine g_aloadn M_L_dropDie d_L_dropDie_0 (by first | rfl | assumption) ?_
    refine g_iloadn M_L_dropDie d_L_dropDie_1 (by first | rfl | assumption) ?_
    refine gc_V M_L_dropDie 0 0 [_] _ d_L_dropDie_2 cv_L_27 T.m0 (by rfl) (by rfl) (Nat.le_of_ble_eq_true (by rfl)) (Nat.le_of_ble_eq_true (by rfl)) (by decide) (by decide) (by decide) (by decide) (C_9_dropDieX T.1 q h31 (gx_catch M_L_dropDie [] (0, 5, 6, 15) [(0, 5, 10, 21)] rfl (fun z hz => nomatch hz) (by decide) (by decide) cl_L_15 ca_IndexOutOfBoundsException (fun z => ?_)))
    refine g_astoren M_L_dropDie d_L_dropDie_6 (by decide) (by first | rfl | (simp only [gc]; simp [*])) ?_
    refine g_ldc M_L_dropDie d_L_dropDie_7 ki_L_17 ?_
    exact g_iret M_L_dropDie d_L_dropDie_9 rfl rfl (k h T)
  refine g_aloadn M_L_dropDie d_L_dropDie_0 (by first | rfl | assumption) ?_
  refine g_iloadn M_L_dropDie d_L_dropDie_1 (by first | rfl | assumption) ?_
  refine gc_V M_L_dropDie 0 0 [_] _ d_L_dropDie_2 cv_L_27 T.m0 (by rfl) (by rfl) (Nat.le_of_ble_eq_true (by rfl)) (Nat.le_of_ble_eq_true (by rfl)) (by decide) (by decide) (by decide) (by decide) (C_9_dropDieV T.1 q (fun f h1 a1 H1 => ?_) (fun x1 f h1 a1 H1 => ?_))
  · have T1 := T.o a1 H1
    have ee : aDropDie X d = (90002, X) := by unfold aDropDie; rw [if_pos q, f]
    rw [ee] at k
    refine gx_catch M_L_dropDie [(0, 5, 6, 15)] (0, 5, 10, 21) [] rfl (fun z hz => by rw [List.mem_singleton.mp hz]; exact ⟨by decide, _, cl_L_15, by decide +kernel⟩) (by decide) (by decide) cl_L_21 ca_IllegalStateException (fun z => ?_)
    refine g_astoren M_L_dropDie d_L_dropDie_10 (by decide) (by first | rfl | (simp only [gc]; simp [*])) ?_
    refine g_ldc M_L_dropDie d_L_dropDie_11 ki_L_20 ?_
    exact g_iret M_L_dropDie d_L_dropDie_13 rfl rfl (k h1 T1)
  · have T1 := T.o a1 H1
    have ee : aDropDie X d = (x1.2.2.2.1.1.length, (X.1, x1, X.2.2.1, recN X.2.2.2 X.2.1)) := by unfold aDropDie; rw [if_pos q, f]
    rw [ee] at k
    show gG _ _ _ _ _ _ _ _ _ _
    exact g_iret M_L_dropDie d_L_dropDie_5 rfl rfl (k h1 T1)
set_option maxHeartbeats 4000000 in
set_option maxRecDepth 100000 in
theorem W_dropIrregular {L L9 : Nat → Nat → Nat} {a9 : Nat} {v9 : Ent_} {X Y : Mt_} {h : Hp_} {Q : Ot_ → Hp_ → Prop} (T : tw h L L9 a9 v9 X Y) (k : ∀ h', tw h' L L9 a9 v9 (aDropIrr X).2 Y → Q (.inl (some (.int (nI (aDropIrr X).1)))) h') : gG 8 340 1 6 M_L_dropIrregular 0 (lv_args 0 [.ref (L 0 0)]) [] h Q := by
  refine g_aloadn M_L_dropIrregular d_L_dropIrregular_0 (by first | rfl | assumption) ?_
  refine gc_V M_L_dropIrregular 0 0 [] _ d_L_dropIrregular_1 cv_L_31 T.m0 (by rfl) (by rfl) (Nat.le_of_ble_eq_true (by rfl)) (Nat.le_of_ble_eq_true (by rfl)) (by decide) (by decide) (by decide) (by decide) (C_9_dropIrrV T.1 (fun f h1 a1 H1 => ?_) (fun x1 f h1 a1 H1 => ?_))
  · have T1 := T.o a1 H1
    have ee : aDropIrr X = (90001, X) := by unfold aDropIrr; rw [f]
    rw [ee] at k
    refine gx_catch M_L_dropIrregular [] (0, 4, 5, 21) [] rfl (fun z hz => nomatch hz) (by decide) (by decide) cl_L_21 ca_IllegalStateException (fun z => ?_)
    refine g_astoren M_L_dropIrregular d_L_dropIrregular_5 (by decide) (by first | rfl | (simp only [gc]; simp [*])) ?_
    refine g_ldc M_L_dropIrregular d_L_dropIrregular_6 ki_L_17 ?_
    exact g_iret M_L_dropIrregular d_L_dropIrregular_8 rfl rfl (k h1 T1)
  · have T1 := T.o a1 H1
    have ee : aDropIrr X = (x1.2.1.length, (X.1, x1, X.2.2.1, recN X.2.2.2 X.2.1)) := by unfold aDropIrr; rw [f]
    rw [ee] at k
    show gG _ _ _ _ _ _ _ _ _ _
    exact g_iret M_L_dropIrregular d_L_dropIrregular_4 rfl rfl (k h1 T1)
set_option maxHeartbeats 4000000 in
set_option maxRecDepth 100000 in
theorem W_carryOut {L L9 : Nat → Nat → Nat} {a9 : Nat} {v9 : Ent_} {X Y : Mt_} {h : Hp_} {Q : Ot_ → Hp_ → Prop} (T : tw h L L9 a9 v9 X Y) (hT : okT X.1) (k : ∀ h', tw h' L L9 a9 v9 (aCarry X).2 Y → Q (.inl (some (.int (nI (aCarry X).1)))) h') : gG 8 340 1 6 M_L_carryOut 0 (lv_args 0 [.ref (L 0 0)]) [] h Q := by
  refine g_aloadn M_L_carryOut d_L_carryOut_0 (by first | rfl | assumption) ?_
  refine gc_V M_L_carryOut 0 0 [] _ d_L_carryOut_1 cv_L_42 T.m0 (by rfl) (by rfl) (Nat.le_of_ble_eq_true (by rfl)) (Nat.le_of_ble_eq_true (by rfl)) (by decide) (by decide) (by decide) (by decide) (C_9_carryV T.1 hT (fun f h1 a1 H1 => ?_) (fun x1 f h1 a1 H1 => ?_))
  · have T1 := T.o a1 H1
    have ee : aCarry X = (90001, X) := by unfold aCarry; rw [f]
    rw [ee] at k
    refine gx_catch M_L_carryOut [] (0, 4, 5, 21) [] rfl (fun z hz => nomatch hz) (by decide) (by decide) cl_L_21 ca_IllegalStateException (fun z => ?_)
    refine g_astoren M_L_carryOut d_L_carryOut_5 (by decide) (by first | rfl | (simp only [gc]; simp [*])) ?_
    refine g_ldc M_L_carryOut d_L_carryOut_6 ki_L_17 ?_
    exact g_iret M_L_carryOut d_L_carryOut_8 rfl rfl (k h1 T1)
  · have T1 := T.o a1 H1
    have ee : aCarry X = (1, (X.1, x1, X.2.2.1, recN X.2.2.2 X.2.1)) := by unfold aCarry; rw [f]
    rw [ee] at k
    show gG _ _ _ _ _ _ _ _ _ _
    exact g_iret M_L_carryOut d_L_carryOut_4 rfl rfl (k h1 T1)
set_option maxHeartbeats 4000000 in
set_option maxRecDepth 100000 in
theorem W_undo {L L9 : Nat → Nat → Nat} {a9 : Nat} {v9 : Ent_} {X Y : Mt_} {h : Hp_} {Q : Ot_ → Hp_ → Prop} (T : tw h L L9 a9 v9 X Y) (k : ∀ h', tw h' L L9 a9 v9 (aUndo X).2 Y → Q (.inl (some (.int (nI (aUndo X).1)))) h') : gG 8 340 1 6 M_L_undo 0 (lv_args 0 [.ref (L 0 0)]) [] h Q := by
  refine g_aloadn M_L_undo d_L_undo_0 (by first | rfl | assumption) ?_
  refine gc_V M_L_undo 0 0 [] _ d_L_undo_1 cv_L_45 T.m0 (by rfl) (by rfl) (Nat.le_of_ble_eq_true (by rfl)) (Nat.le_of_ble_eq_true (by rfl)) (by decide) (by decide) (by decide) (by decide) (C_9_undoV T.1 (fun f h1 a1 H1 => ?_) (fun rc x1 f h1 a1 H1 => ?_))
  · have T1 := T.o a1 H1
    have ee : aUndo X = (90001, X) := by unfold aUndo; rw [f]; rfl
    rw [ee] at k
    refine gx_catch M_L_undo [] (0, 4, 5, 21) [] rfl (fun z hz => nomatch hz) (by decide) (by decide) cl_L_21 ca_IllegalStateException (fun z => ?_)
    refine g_astoren M_L_undo d_L_undo_5 (by decide) (by first | rfl | (simp only [gc]; simp [*])) ?_
    refine g_ldc M_L_undo d_L_undo_6 ki_L_17 ?_
    exact g_iret M_L_undo d_L_undo_8 rfl rfl (k h1 T1)
  · have T1 := T.o a1 H1
    have ee : aUndo X = (rc.length, (X.1, x1, X.2.2.1, rc)) := by unfold aUndo; rw [f, List.getLast?_append]; simp
    rw [ee] at k
    show gG _ _ _ _ _ _ _ _ _ _
    exact g_iret M_L_undo d_L_undo_4 rfl rfl (k h1 T1)
set_option maxHeartbeats 4000000 in
set_option maxRecDepth 100000 in
theorem W_restore {L L9 : Nat → Nat → Nat} {a9 : Nat} {v9 : Ent_} {X Y : Mt_} {h : Hp_} {Q : Ot_ → Hp_ → Prop} (T : tw h L L9 a9 v9 X Y) (k : ∀ h', tw h' L L9 a9 v9 (aRestore X).2 Y → Q (.inl (some (.int (nI (aRestore X).1)))) h') : gG 8 340 1 6 M_L_restore 0 (lv_args 0 [.ref (L 0 0)]) [] h Q := by
  refine g_aloadn M_L_restore d_L_restore_0 (by first | rfl | assumption) ?_
  refine gc_V M_L_restore 0 0 [] _ d_L_restore_1 cv_L_48 T.m0 (by rfl) (by rfl) (Nat.le_of_ble_eq_true (by rfl)) (Nat.le_of_ble_eq_true (by rfl)) (by decide) (by decide) (by decide) (by decide) (C_9_restoreV T.1 (fun f h1 a1 H1 => ?_) (fun x1 f h1 a1 H1 => ?_))
  · have T1 := T.o a1 H1
    have ee : aRestore X = (90001, X) := by unfold aRestore; rw [f]
    rw [ee] at k
    refine gx_catch M_L_restore [] (0, 4, 5, 21) [] rfl (fun z hz => nomatch hz) (by decide) (by decide) cl_L_21 ca_IllegalStateException (fun z => ?_)
    refine g_astoren M_L_restore d_L_restore_5 (by decide) (by first | rfl | (simp only [gc]; simp [*])) ?_
    refine g_ldc M_L_restore d_L_restore_6 ki_L_17 ?_
    exact g_iret M_L_restore d_L_restore_8 rfl rfl (k h1 T1)
  · have T1 := T.o a1 H1
    have ee : aRestore X = (x1.1.length, (X.1, x1, X.2.2.1, recN X.2.2.2 X.2.1)) := by unfold aRestore; rw [f]
    rw [ee] at k
    show gG _ _ _ _ _ _ _ _ _ _
    exact g_iret M_L_restore d_L_restore_4 rfl rfl (k h1 T1)
set_option maxHeartbeats 4000000 in
set_option maxRecDepth 100000 in
theorem W_recall {L L9 : Nat → Nat → Nat} {a9 : Nat} {v9 : Ent_} {X Y : Mt_} {h : Hp_} {Q : Ot_ → Hp_ → Prop} (T : tw h L L9 a9 v9 X Y) (k : ∀ h', tw h' L L9 a9 v9 X Y → Q (.inl (some (.int (vRecall X)))) h') : gG 8 340 1 6 M_L_recall 0 (lv_args 0 [.ref (L 0 0)]) [] h Q := by
  by_cases q : wdT X.1 = true
  · refine g_aloadn M_L_recall d_L_recall_0 (by first | rfl | assumption) ?_
    refine gc_V M_L_recall 0 0 [] _ d_L_recall_1 cv_L_72 T.m0 (by rfl) (by rfl) (Nat.le_of_ble_eq_true (by rfl)) (Nat.le_of_ble_eq_true (by rfl)) (by decide) (by decide) (by decide) (by decide) (C_9_recall T.1 q (fun h1 a1 H1 => ?_))
    have T1 := T.o a1 H1
    have ee : vRecall X = _ := if_pos q
    rw [ee] at k
    show gG _ _ _ _ _ _ _ _ _ _
    exact g_iret M_L_recall d_L_recall_4 rfl rfl (k h1 T1)
  refine g_aloadn M_L_recall d_L_recall_0 (by first | rfl | assumption) ?_
  refine gc_V M_L_recall 0 0 [] _ d_L_recall_1 cv_L_72 T.m0 (by rfl) (by rfl) (Nat.le_of_ble_eq_true (by rfl)) (Nat.le_of_ble_eq_true (by rfl)) (by decide) (by decide) (by decide) (by decide) (C_9_recallX T.1 (by simpa using q) (gx_catch M_L_recall [] (0, 4, 5, 21) [] rfl (fun z hz => nomatch hz) (by decide) (by decide) cl_L_21 ca_IllegalStateException (fun z => ?_)))
  have ee : vRecall X = nI 90001 := if_neg q
  rw [ee] at k
  refine g_astoren M_L_recall d_L_recall_5 (by decide) (by first | rfl | (simp only [gc]; simp [*])) ?_
  refine g_ldc M_L_recall d_L_recall_6 ki_L_17 ?_
  exact g_iret M_L_recall d_L_recall_8 rfl rfl (k h T)
set_option maxHeartbeats 4000000 in
set_option maxRecDepth 100000 in
theorem W_reversed {L L9 : Nat → Nat → Nat} {a9 : Nat} {v9 : Ent_} {X Y : Mt_} {h : Hp_} {Q : Ot_ → Hp_ → Prop} (T : tw h L L9 a9 v9 X Y) (k : ∀ h', tw h' L L9 a9 v9 X Y → Q (.inl (some (.int (vRev X)))) h') : gG 8 340 1 6 M_L_reversed 0 (lv_args 0 [.ref (L 0 0)]) [] h Q := by
  by_cases q : wdT X.1 = true
  · refine g_aloadn M_L_reversed d_L_reversed_0 (by first | rfl | assumption) ?_
    refine gc_V M_L_reversed 0 0 [] _ d_L_reversed_1 cv_L_75 T.m0 (by rfl) (by rfl) (Nat.le_of_ble_eq_true (by rfl)) (Nat.le_of_ble_eq_true (by rfl)) (by decide) (by decide) (by decide) (by decide) (C_9_reversed T.1 q (fun h1 a1 H1 => ?_))
    have T1 := T.o a1 H1
    have ee : vRev X = _ := if_pos q
    rw [ee] at k
    show gG _ _ _ _ _ _ _ _ _ _
    exact g_iret M_L_reversed d_L_reversed_4 rfl rfl (k h1 T1)
  refine g_aloadn M_L_reversed d_L_reversed_0 (by first | rfl | assumption) ?_
  refine gc_V M_L_reversed 0 0 [] _ d_L_reversed_1 cv_L_75 T.m0 (by rfl) (by rfl) (Nat.le_of_ble_eq_true (by rfl)) (Nat.le_of_ble_eq_true (by rfl)) (by decide) (by decide) (by decide) (by decide) (C_9_reversedX T.1 (by simpa using q) (gx_catch M_L_reversed [] (0, 4, 5, 21) [] rfl (fun z hz => nomatch hz) (by decide) (by decide) cl_L_21 ca_IllegalStateException (fun z => ?_)))
  have ee : vRev X = nI 90001 := if_neg q
  rw [ee] at k
  refine g_astoren M_L_reversed d_L_reversed_5 (by decide) (by first | rfl | (simp only [gc]; simp [*])) ?_
  refine g_ldc M_L_reversed d_L_reversed_6 ki_L_17 ?_
  exact g_iret M_L_reversed d_L_reversed_8 rfl rfl (k h T)
set_option maxHeartbeats 4000000 in
set_option maxRecDepth 100000 in
theorem W_possible {L L9 : Nat → Nat → Nat} {a9 : Nat} {v9 : Ent_} {X Y : Mt_} {h : Hp_} {Q : Ot_ → Hp_ → Prop} (T : tw h L L9 a9 v9 X Y) (k : ∀ h', tw h' L L9 a9 v9 X Y → Q (.inl (some (.int (vPos X)))) h') : gG 8 340 1 6 M_L_possible 0 (lv_args 0 [.ref (L 0 0)]) [] h Q := by
  by_cases q : wdT X.1 = true
  · refine g_aloadn M_L_possible d_L_possible_0 (by first | rfl | assumption) ?_
    refine gc_V M_L_possible 0 0 [] _ d_L_possible_1 cv_L_78 T.m0 (by rfl) (by rfl) (Nat.le_of_ble_eq_true (by rfl)) (Nat.le_of_ble_eq_true (by rfl)) (by decide) (by decide) (by decide) (by decide) (C_9_possible T.1 q (fun h1 a1 H1 l22 => ?_))
    have T1 := T.o a1 H1
    have ee : vPos X = _ := if_pos q
    rw [ee] at k
    show gG _ _ _ _ _ _ _ _ _ _
    exact g_iret M_L_possible d_L_possible_4 rfl rfl (k h1 T1)
  refine g_aloadn M_L_possible d_L_possible_0 (by first | rfl | assumption) ?_
  refine gc_V M_L_possible 0 0 [] _ d_L_possible_1 cv_L_78 T.m0 (by rfl) (by rfl) (Nat.le_of_ble_eq_true (by rfl)) (Nat.le_of_ble_eq_true (by rfl)) (by decide) (by decide) (by decide) (by decide) (C_9_possibleX T.1 (by simpa using q) (gx_catch M_L_possible [] (0, 4, 5, 21) [] rfl (fun z hz => nomatch hz) (by decide) (by decide) cl_L_21 ca_IllegalStateException (fun z => ?_)))
  have ee : vPos X = nI 90001 := if_neg q
  rw [ee] at k
  refine g_astoren M_L_possible d_L_possible_5 (by decide) (by first | rfl | (simp only [gc]; simp [*])) ?_
  refine g_ldc M_L_possible d_L_possible_6 ki_L_17 ?_
  exact g_iret M_L_possible d_L_possible_8 rfl rfl (k h T)
