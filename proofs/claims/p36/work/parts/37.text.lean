/-! ===== the order text: a valid one, without ';'; a word ===== -/
def gRun : Nat × Nat → List Nat → Option (Nat × Nat)
  | g, [] => some g
  | g, c :: r => match gStep g c with
    | some g' => gRun g' r
    | none => none
/-- the text from here on is valid -/
def vFrom (g : Nat × Nat) (tx : List Nat) : Bool := match gRun g tx with
  | some g' => gEnd g'.1 g'.2
  | none => false
def vT (tx : List Nat) : Bool := vFrom (0, 0) tx
theorem gStep_le {g g' : Nat × Nat} {c : Nat} (h : gStep g c = some g') : g'.2 ≤ 12 := by
  unfold gStep at h
  split at h
  · by_cases z : gLet g.1 = 1 ∨ gLet g.1 = 2
    · simp only [if_pos z] at h
      by_cases q : g.2 + 1 ≤ 12
      · rw [if_pos q] at h; cases h; exact q
      · rw [if_neg q] at h; cases h
    · simp only [if_neg z] at h
      by_cases q : g.2 + 1 ≤ 4
      · rw [if_pos q] at h; cases h; show g.2 + 1 ≤ 12; omega
      · rw [if_neg q] at h; cases h
  · split at h
    · cases h; exact Nat.zero_le _
    · cases h
theorem vFrom_cons {g : Nat × Nat} {c : Nat} {r : List Nat} (h : vFrom g (c :: r) = true) : ∃ g', gStep g c = some g' ∧ vFrom g' r = true := by
  unfold vFrom gRun at h
  cases e : gStep g c with
  | none => rw [e] at h; cases h
  | some g' => rw [e] at h; exact ⟨g', rfl, h⟩
theorem drop_get {w : List Nat} {p : Nat} (h : p < w.length) : w.drop p = w.getD p 0 :: w.drop (p + 1) := by
  rw [List.drop_eq_getElem_cons h, List.getD_eq_getElem?_getD, List.getElem?_eq_getElem h]
  rfl
theorem gExt.t {h h1 h2 : Hp_} {S : List Nat} (e1 : gExt h h1 S []) (e2 : gExt h1 h2 S []) : gExt h h2 S [] := e1.trans e2 (fun _ q => Or.inl q)
theorem gExt.r {h : Hp_} {S : List Nat} : gExt h h S [] := gExt.refl.weak (fun x q => nomatch q)
theorem txR.gm {h h' : Hp_} {A : List Nat} {t s g : Nat} {tx : List Nat} {G : Nat × Nat} (R : txR h t s g tx) (e : gExt h h' [g] A) (n1 : t ≠ g) (n2 : s ≠ g) (G9 : gmR h' g G) : txR h' t s g tx := by
  obtain ⟨k1, k2, ⟨f, k3, k4⟩, -⟩ := R
  exact ⟨k1, e.keep k2 (by simpa using n1), ⟨f, e.keep k3 (by simpa using n2), k4⟩, _, _, G9.1⟩
theorem txR.lt {h : Hp_} {t s g : Nat} {tx : List Nat} (R : txR h t s g tx) (j : Nat) : tx.getD j 0 < 65536 := R.1.get j
set_option maxHeartbeats 4000000 in
set_option maxRecDepth 100000 in
theorem C_5_firstErrorV {t s g : Nat} {tx : List Nat} {h : Hp_} {Q : Ot_ → Hp_ → Prop} (R : txR h t s g tx) (n1 : t ≠ g) (n2 : s ≠ g) (V : vT tx = true) (k : ∀ h', gExt h h' [g] [] → txR h' t s g tx → Q (.inl (some (.int (-1)))) h') : gG 4 160 0 0 M_5_firstError 0 (lv_args 0 [.ref t]) [] h Q := by
  obtain ⟨⟨tl, tc⟩, v, ⟨f, s0, hf1, hf2⟩, p9, l9, g0⟩ := id R
  refine g_aloadn M_5_firstError d_5_firstError_0 (by first | rfl | assumption) ?_
  refine g_get M_5_firstError d_5_firstError_1 fl_5_18 (by assumption) (by rfl) ?_
  refine gc_V M_5_firstError 0 0 [] _ d_5_firstError_4 cv_5_26 g0 (by rfl) (by rfl) (Nat.le_of_ble_eq_true (by rfl)) (Nat.le_of_ble_eq_true (by rfl)) (by decide) (by decide) (by decide) (by decide) (C_1_start g0 (fun h0 e0 gg0 => ?_))
  have G0 : gmR h0 g (0, 0) := ⟨gg0, by decide, by decide⟩
  have R0 := R.gm e0 n1 n2 G0
  show gG _ _ _ _ _ _ _ _ _ _
  refine g_iconst M_5_firstError (v := nI 0) d_5_firstError_7 (by decide) ?_
  refine g_istoren M_5_firstError d_5_firstError_8 (by decide) (by first | rfl | (simp only [gc]; simp [*])) ?_
  have loop : ∀ n p G h1, p + n = tx.length → gExt h h1 [g] [] → txR h1 t s g tx → gmR h1 g G → G.2 ≤ 12 → vFrom G (tx.drop p) = true → ∀ lv : List (Nat × Value), gl lv 0 = some (.ref t) → gl lv 1 = some (.int (nI p)) → gG 4 160 0 0 M_5_firstError 9 lv [] h1 Q := by
    intro n
    induction n with
    | zero =>
      intro p G h1 hp e1 R1 G1 gl9 V lv H0 H1
      rw [List.drop_of_length_le (by omega)] at V
      replace V : gEnd G.1 G.2 = true := V
      obtain ⟨-, v1, -, -⟩ := id R1
      refine g_iloadn M_5_firstError d_5_firstError_9 (by first | rfl | assumption) ?_
      refine g_aloadn M_5_firstError d_5_firstError_10 (by first | rfl | assumption) ?_
      refine g_get M_5_firstError d_5_firstError_11 fl_5_22 (by assumption) (by rfl) ?_
      refine g_icmp_ge M_5_firstError (tgt := 40) d_5_firstError_14 (by decide) (fun _ => ?_) (fun c9 => absurd (nI_le (by omega) (by omega)) c9)
      refine g_aloadn M_5_firstError d_5_firstError_40 (by first | rfl | assumption) ?_
      refine g_get M_5_firstError d_5_firstError_41 fl_5_18 (by assumption) (by rfl) ?_
      refine gc_V M_5_firstError 0 0 [] _ d_5_firstError_44 cv_5_37 G1.1 (by rfl) (by rfl) (Nat.le_of_ble_eq_true (by rfl)) (Nat.le_of_ble_eq_true (by rfl)) (by decide) (by decide) (by decide) (by decide) (C_1_mayEnd G1 ?_)
      show gG _ _ _ _ _ _ _ _ _ _
      rw [V]
      refine g_if_eq M_5_firstError (tgt := 54) d_5_firstError_47 (by decide) (fun c9 => absurd c9 (by decide)) (fun _ => ?_)
      refine g_iconst M_5_firstError (v := -1) d_5_firstError_50 (by decide) ?_
      refine g_goto M_5_firstError (tgt := 58) d_5_firstError_51 (by decide) ?_
      exact g_iret M_5_firstError d_5_firstError_58 rfl (by decide) (k h1 e1 R1)
    | succ n ih =>
      intro p G h1 hp e1 R1 G1 gl9 V lv H0 H1
      rw [drop_get (by omega)] at V
      obtain ⟨g2, es, vs⟩ := vFrom_cons V
      obtain ⟨-, v1, -, -⟩ := id R1
      refine g_iloadn M_5_firstError d_5_firstError_9 (by first | rfl | assumption) ?_
      refine g_aloadn M_5_firstError d_5_firstError_10 (by first | rfl | assumption) ?_
      refine g_get M_5_firstError d_5_firstError_11 fl_5_22 (by assumption) (by rfl) ?_
      refine g_icmp_ge M_5_firstError (tgt := 40) d_5_firstError_14 (by decide) (fun c9 => absurd c9 (nI_ge (by omega) (by omega))) (fun _ => ?_)
      refine g_aloadn M_5_firstError d_5_firstError_17 (by first | rfl | assumption) ?_
      refine g_get M_5_firstError d_5_firstError_18 fl_5_18 (by assumption) (by rfl) ?_
      refine g_aloadn M_5_firstError d_5_firstError_21 (by first | rfl | assumption) ?_
      refine g_iloadn M_5_firstError d_5_firstError_22 (by first | rfl | assumption) ?_
      refine gc_V M_5_firstError 0 0 [_] [.ref g] d_5_firstError_23 cv_5_29 v1 (by rfl) (by rfl) (Nat.le_of_ble_eq_true (by rfl)) (Nat.le_of_ble_eq_true (by rfl)) (by decide) (by decide) (by decide) (by decide) (C_5_sign R1 (by omega) ?_)
      show gG _ _ _ _ _ _ _ _ _ _
      refine gc_V M_5_firstError 0 0 [_] _ d_5_firstError_26 cv_5_33 G1.1 (by rfl) (by rfl) (Nat.le_of_ble_eq_true (by rfl)) (Nat.le_of_ble_eq_true (by rfl)) (by decide) (by decide) (by decide) (by decide) (C_1_take G1 (by omega) (R1.lt p) (fun q => absurd (q.symm.trans es) (by simp)) (fun g3 q h2 e2 G2 => ?_))
      cases es.symm.trans q
      show gG _ _ _ _ _ _ _ _ _ _
      refine g_if_ne M_5_firstError (tgt := 34) d_5_firstError_29 (by decide) (fun _ => ?_) (fun c9 => absurd c9 (by decide))
      refine g_iinc M_5_firstError (v := nI (p + 1)) d_5_firstError_34 H1 (by decide) (by first | rfl | (simp only [gc]; simp [*])) (nI_add p 1) ?_
      refine g_goto M_5_firstError (tgt := 9) d_5_firstError_37 (by decide) ?_
      exact ih (p + 1) g2 h2 (by omega) (e1.t e2) (R1.gm e2 n1 n2 G2) G2 (gStep_le es) vs _ H0 rfl
  exact loop tx.length 0 (0, 0) h0 (by omega) e0 R0 G0 (by decide) V _ rfl rfl
set_option maxHeartbeats 4000000 in
set_option maxRecDepth 100000 in
theorem C_5_orders1 {t s g : Nat} {tx : List Nat} {h : Hp_} {Q : Ot_ → Hp_ → Prop} (R : txR h t s g tx) (hs : ∀ c ∈ tx, c ≠ 59) (k : Q (.inl (some (.int (nI 1)))) h) : gG 2 100 0 0 M_5_orders 0 (lv_args 0 [.ref t]) [] h Q := by
  obtain ⟨⟨tl, tc⟩, v, -, -⟩ := id R
  refine g_iconst M_5_orders (v := nI 1) d_5_orders_0 (by decide) ?_
  refine g_istoren M_5_orders d_5_orders_1 (by decide) (by first | rfl | (simp only [gc]; simp [*])) ?_
  refine g_iconst M_5_orders (v := nI 0) d_5_orders_2 (by decide) ?_
  refine g_istoren M_5_orders d_5_orders_3 (by decide) (by first | rfl | (simp only [gc]; simp [*])) ?_
  have loop : ∀ n p, p + n = tx.length → ∀ lv : List (Nat × Value), gl lv 0 = some (.ref t) → gl lv 1 = some (.int (nI 1)) → gl lv 2 = some (.int (nI p)) → gG 2 100 0 0 M_5_orders 4 lv [] h Q := by
    intro n
    induction n with
    | zero =>
      intro p hp lv H0 H1 H2
      refine g_iloadn M_5_orders d_5_orders_4 (by first | rfl | assumption) ?_
      refine g_aloadn M_5_orders d_5_orders_5 (by first | rfl | assumption) ?_
      refine g_get M_5_orders d_5_orders_6 fl_5_22 (by assumption) (by rfl) ?_
      refine g_icmp_ge M_5_orders (tgt := 31) d_5_orders_9 (by decide) (fun _ => ?_) (fun c9 => absurd (nI_le (by omega) (by omega)) c9)
      refine g_iloadn M_5_orders d_5_orders_31 (by first | rfl | assumption) ?_
      exact g_iret M_5_orders d_5_orders_32 rfl rfl (k)
    | succ n ih =>
      intro p hp lv H0 H1 H2
      have ns : tx.getD p 0 ≠ 59 := by
        rw [List.getD_eq_getElem?_getD, List.getElem?_eq_getElem (show p < tx.length by omega)]
        exact hs _ (List.getElem_mem _)
      refine g_iloadn M_5_orders d_5_orders_4 (by first | rfl | assumption) ?_
      refine g_aloadn M_5_orders d_5_orders_5 (by first | rfl | assumption) ?_
      refine g_get M_5_orders d_5_orders_6 fl_5_22 (by assumption) (by rfl) ?_
      refine g_icmp_ge M_5_orders (tgt := 31) d_5_orders_9 (by decide) (fun c9 => absurd c9 (nI_ge (by omega) (by omega))) (fun _ => ?_)
      refine g_aloadn M_5_orders d_5_orders_12 (by first | rfl | assumption) ?_
      refine g_iloadn M_5_orders d_5_orders_13 (by first | rfl | assumption) ?_
      refine gc_V M_5_orders 0 0 [_] _ d_5_orders_14 cv_5_29 v (by rfl) (by rfl) (Nat.le_of_ble_eq_true (by rfl)) (Nat.le_of_ble_eq_true (by rfl)) (by decide) (by decide) (by decide) (by decide) (C_5_sign R (by omega) ?_)
      show gG _ _ _ _ _ _ _ _ _ _
      refine g_bipush M_5_orders (v := nI 59) d_5_orders_17 (by decide) ?_
      refine g_icmp_ne M_5_orders (tgt := 25) d_5_orders_19 (by decide) (fun _ => ?_) (fun c9 => False.elim (ns ((nI_eq (by have := R.lt p; omega) (by decide)).mp c9)))
      refine g_iinc M_5_orders (v := nI (p + 1)) d_5_orders_25 H2 (by decide) (by first | rfl | (simp only [gc]; simp [*])) (nI_add p 1) ?_
      refine g_goto M_5_orders (tgt := 4) d_5_orders_28 (by decide) ?_
      exact ih (p + 1) (by omega) _ H0 H1 rfl
  exact loop tx.length 0 (by omega) _ rfl rfl rfl
def wdT (tx : List Nat) : Bool := tx.all sml && decide (1 ≤ tx.length ∧ tx.length ≤ 12)
theorem sml_get {tx : List Nat} {p : Nat} (h : p < tx.length) (n : sml (tx.getD p 0) = false) : tx.all sml = false := by
  rw [List.all_eq_false]
  refine ⟨tx.getD p 0, ?_, by rw [n]; decide⟩
  rw [List.getD_eq_getElem?_getD, List.getElem?_eq_getElem h]
  exact List.getElem_mem _
set_option maxHeartbeats 4000000 in
set_option maxRecDepth 100000 in
theorem C_5_isWord {t s g : Nat} {tx : List Nat} {h : Hp_} {Q : Ot_ → Hp_ → Prop} (R : txR h t s g tx) (k : Q (.inl (some (.int (bI (wdT tx))))) h) : gG 2 100 0 0 M_5_isWord 0 (lv_args 0 [.ref t]) [] h Q := by
  obtain ⟨⟨tl, tc⟩, v, -, -⟩ := id R
  refine g_iconst M_5_isWord (v := nI 0) d_5_isWord_0 (by decide) ?_
  refine g_istoren M_5_isWord d_5_isWord_1 (by decide) (by first | rfl | (simp only [gc]; simp [*])) ?_
  have loop : ∀ n p, p + n = tx.length → (∀ j, j < p → sml (tx.getD j 0) = true) → ∀ lv : List (Nat × Value), gl lv 0 = some (.ref t) → gl lv 1 = some (.int (nI p)) → gG 2 100 0 0 M_5_isWord 2 lv [] h Q := by
    intro n
    induction n with
    | zero =>
      intro p hp hj lv H0 H1
      have al : tx.all sml = true := by
        rw [List.all_eq_true]
        intro x hx
        obtain ⟨i, hi, rfl⟩ := List.mem_iff_getElem.mp hx
        have := hj i (by omega)
        rw [List.getD_eq_getElem?_getD, List.getElem?_eq_getElem hi] at this
        exact this
      have no : ¬ (1 ≤ tx.length ∧ tx.length ≤ 12) → gG 2 100 0 0 M_5_isWord 50 lv [] h Q := by
        intro q
        rw [show wdT tx = false by unfold wdT; rw [decide_eq_false q, Bool.and_false]] at k
        refine g_iconst M_5_isWord (v := nI 0) d_5_isWord_50 (by decide) ?_
        exact g_iret M_5_isWord d_5_isWord_51 rfl (by decide) (k)
      refine g_iloadn M_5_isWord d_5_isWord_2 (by first | rfl | assumption) ?_
      refine g_aloadn M_5_isWord d_5_isWord_3 (by first | rfl | assumption) ?_
      refine g_get M_5_isWord d_5_isWord_4 fl_5_22 (by assumption) (by rfl) ?_
      refine g_icmp_ge M_5_isWord (tgt := 29) d_5_isWord_7 (by decide) (fun _ => ?_) (fun c9 => absurd (nI_le (by omega) (by omega)) c9)
      refine g_aloadn M_5_isWord d_5_isWord_29 (by first | rfl | assumption) ?_
      refine g_get M_5_isWord d_5_isWord_30 fl_5_22 (by assumption) (by rfl) ?_
      refine g_iconst M_5_isWord (v := nI 1) d_5_isWord_33 (by decide) ?_
      refine g_icmp_lt M_5_isWord (tgt := 50) d_5_isWord_34 (by decide) (fun c => no (by rw [nI_ltI (by omega) (by decide)] at c; omega)) (fun c1 => ?_)
      refine g_aloadn M_5_isWord d_5_isWord_37 (by first | rfl | assumption) ?_
      refine g_get M_5_isWord d_5_isWord_38 fl_5_22 (by assumption) (by rfl) ?_
      refine g_bipush M_5_isWord (v := nI 12) d_5_isWord_41 (by decide) ?_
      refine g_icmp_gt M_5_isWord (tgt := 50) d_5_isWord_43 (by decide) (fun c => no (by rw [nI_ltI (by decide) (by omega)] at c; omega)) (fun c2 => ?_)
      rw [nI_ltI (by omega) (by decide)] at c1
      rw [nI_ltI (by decide) (by omega)] at c2
      rw [show wdT tx = true by unfold wdT; rw [al, decide_eq_true ⟨by omega, by omega⟩]; rfl] at k
      refine g_iconst M_5_isWord (v := nI 1) d_5_isWord_46 (by decide) ?_
      refine g_goto M_5_isWord (tgt := 51) d_5_isWord_47 (by decide) ?_
      exact g_iret M_5_isWord d_5_isWord_51 rfl (by decide) (k)
    | succ n ih =>
      intro p hp hj lv H0 H1
      refine g_iloadn M_5_isWord d_5_isWord_2 (by first | rfl | assumption) ?_
      refine g_aloadn M_5_isWord d_5_isWord_3 (by first | rfl | assumption) ?_
      refine g_get M_5_isWord d_5_isWord_4 fl_5_22 (by assumption) (by rfl) ?_
      refine g_icmp_ge M_5_isWord (tgt := 29) d_5_isWord_7 (by decide) (fun c9 => absurd c9 (nI_ge (by omega) (by omega))) (fun _ => ?_)
      refine g_aloadn M_5_isWord d_5_isWord_10 (by first | rfl | assumption) ?_
      refine g_iloadn M_5_isWord d_5_isWord_11 (by first | rfl | assumption) ?_
      refine gc_V M_5_isWord 0 0 [_] _ d_5_isWord_12 cv_5_29 v (by rfl) (by rfl) (Nat.le_of_ble_eq_true (by rfl)) (Nat.le_of_ble_eq_true (by rfl)) (by decide) (by decide) (by decide) (by decide) (C_5_sign R (by omega) ?_)
      show gG _ _ _ _ _ _ _ _ _ _
      refine gc_N M_5_isWord 0 0 [_] _ d_5_isWord_15 cn_5_49 (by rfl) (by rfl) (Nat.le_of_ble_eq_true (by rfl)) (Nat.le_of_ble_eq_true (by rfl)) (by decide) (by decide) (by decide) (by decide) (C_9_isSmallLetter (R.lt p) ?_)
      show gG _ _ _ _ _ _ _ _ _ _
      cases e : sml (tx.getD p 0) with
      | false =>
        rw [show wdT tx = false by unfold wdT; rw [sml_get (by omega) e]; rfl] at k
        refine g_if_ne M_5_isWord (tgt := 23) d_5_isWord_18 (by decide) (fun c9 => absurd rfl c9) (fun _ => ?_)
        refine g_iconst M_5_isWord (v := nI 0) d_5_isWord_21 (by decide) ?_
        exact g_iret M_5_isWord d_5_isWord_22 rfl (by decide) (k)
      | true =>
        refine g_if_ne M_5_isWord (tgt := 23) d_5_isWord_18 (by decide) (fun _ => ?_) (fun c9 => absurd c9 (by decide))
        refine g_iinc M_5_isWord (v := nI (p + 1)) d_5_isWord_23 H1 (by decide) (by first | rfl | (simp only [gc]; simp [*])) (nI_add p 1) ?_
        refine g_goto M_5_isWord (tgt := 2) d_5_isWord_26 (by decide) ?_
        refine ih (p + 1) (by omega) (fun j h9 => ?_) _ H0 rfl
        rcases Nat.lt_succ_iff_lt_or_eq.mp h9 with q | q
        · exact hj j q
        · rw [q]; exact e
  exact loop tx.length 0 (by omega) (fun j h9 => absurd h9 (Nat.not_lt_zero j)) _ rfl rfl
set_option maxHeartbeats 4000000 in
set_option maxRecDepth 100000 in
theorem C_5_load {t s g : Nat} {tx : List Nat} {h : Hp_} {Q : Ot_ → Hp_ → Prop} {aw lw : Nat} {w : List Nat} (R : txR h t s g tx) (hl : tx.length ≤ 16) (W : wdR h aw lw w) (n0 : aw ≠ lw) (o : ∀ x ∈ [t, s, g], x ∉ [aw, lw]) (k : ∀ h', gExt h h' [aw, lw] [] → wdR h' aw lw tx → Q (.inl none) h') : gG 2 100 0 0 M_5_load 0 (lv_args 0 [.ref t, .ref aw]) [] h Q := by
  obtain ⟨⟨tl, tc⟩, v, -, -⟩ := id R
  refine g_aloadn M_5_load d_5_load_0 (by first | rfl | assumption) ?_
  refine gc_V M_5_load 0 0 [] _ d_5_load_1 cv_5_52 W.2.1 (by rfl) (by rfl) (Nat.le_of_ble_eq_true (by rfl)) (Nat.le_of_ble_eq_true (by rfl)) (by decide) (by decide) (by decide) (by decide) (C_7_clear n0.symm W (fun h0 e0 W0 => ?_))
  replace e0 := e0.weak (S' := [aw, lw]) (by simp)
  have R0 := R.keep e0 (o _ (by simp)) (o _ (by simp)) (o _ (by simp))
  show gG _ _ _ _ _ _ _ _ _ _
  refine g_iconst M_5_load (v := nI 0) d_5_load_4 (by decide) ?_
  refine g_istoren M_5_load d_5_load_5 (by decide) (by first | rfl | (simp only [gc]; simp [*])) ?_
  have loop : ∀ n p h1, p + n = tx.length → gExt h h1 [aw, lw] [] → txR h1 t s g tx → wdR h1 aw lw (tx.take p) → ∀ lv : List (Nat × Value), gl lv 0 = some (.ref t) → gl lv 1 = some (.ref aw) → gl lv 2 = some (.int (nI p)) → gG 2 100 0 0 M_5_load 6 lv [] h1 Q := by
    intro n
    induction n with
    | zero =>
      intro p h1 hp e1 R1 W1 lv H0 H1 H2
      obtain ⟨-, v1, -, -⟩ := id R1
      rw [List.take_of_length_le (by omega)] at W1
      refine g_iloadn M_5_load d_5_load_6 (by first | rfl | assumption) ?_
      refine g_aloadn M_5_load d_5_load_7 (by first | rfl | assumption) ?_
      refine g_get M_5_load d_5_load_8 fl_5_22 (by assumption) (by rfl) ?_
      refine g_icmp_ge M_5_load (tgt := 29) d_5_load_11 (by decide) (fun _ => ?_) (fun c9 => absurd (nI_le (by omega) (by omega)) c9)
      exact g_vret M_5_load d_5_load_29 rfl (k h1 e1 W1)
    | succ n ih =>
      intro p h1 hp e1 R1 W1 lv H0 H1 H2
      obtain ⟨-, v1, -, -⟩ := id R1
      refine g_iloadn M_5_load d_5_load_6 (by first | rfl | assumption) ?_
      refine g_aloadn M_5_load d_5_load_7 (by first | rfl | assumption) ?_
      refine g_get M_5_load d_5_load_8 fl_5_22 (by assumption) (by rfl) ?_
      refine g_icmp_ge M_5_load (tgt := 29) d_5_load_11 (by decide) (fun c9 => absurd c9 (nI_ge (by omega) (by omega))) (fun _ => ?_)
      refine g_aloadn M_5_load d_5_load_14 (by first | rfl | assumption) ?_
      refine g_aloadn M_5_load d_5_load_15 (by first | rfl | assumption) ?_
      refine g_iloadn M_5_load d_5_load_16 (by first | rfl | assumption) ?_
      refine gc_V M_5_load 0 0 [_] [.ref aw] d_5_load_17 cv_5_29 v1 (by rfl) (by rfl) (Nat.le_of_ble_eq_true (by rfl)) (Nat.le_of_ble_eq_true (by rfl)) (by decide) (by decide) (by decide) (by decide) (C_5_sign R1 (by omega) ?_)
      show gG _ _ _ _ _ _ _ _ _ _
      refine gc_V M_5_load 0 0 [_] _ d_5_load_20 cv_5_55 W1.2.1 (by rfl) (by rfl) (Nat.le_of_ble_eq_true (by rfl)) (Nat.le_of_ble_eq_true (by rfl)) (by decide) (by decide) (by decide) (by decide) (C_7_append W1 (by rw [List.length_take]; omega) (R1.lt p) n0 (fun h2 e2 W2 => ?_))
      rw [take_snoc (by omega)] at W2
      show gG _ _ _ _ _ _ _ _ _ _
      refine g_iinc M_5_load (v := nI (p + 1)) d_5_load_23 H2 (by decide) (by first | rfl | (simp only [gc]; simp [*])) (nI_add p 1) ?_
      refine g_goto M_5_load (tgt := 6) d_5_load_26 (by decide) ?_
      exact ih (p + 1) h2 (by omega) (e1.t e2) (R1.keep e2 (o _ (by simp)) (o _ (by simp)) (o _ (by simp))) W2 _ H0 H1 rfl
  exact loop tx.length 0 h0 (by omega) e0 R0 (by simpa using W0) _ rfl rfl rfl
