/-! ===== Word and Words: the rest ===== -/
def fst (P : Nat → Bool) (n : Nat) : Option Nat := (List.range n).find? P
def oI : Option Nat → Int32
  | some i => nI i
  | none => -1
theorem fst_some {P : Nat → Bool} {n i : Nat} (hi : i < n) (hp : P i = true) (hj : ∀ j, j < i → P j = false) : fst P n = some i := by
  unfold fst
  rw [List.find?_range_eq_some]
  exact ⟨hp, List.mem_range.mpr hi, fun j h => by rw [hj j h]; rfl⟩
theorem fst_none {P : Nat → Bool} {n : Nat} (hj : ∀ j, j < n → P j = false) : fst P n = none := by
  unfold fst
  rw [List.find?_range_eq_none]
  exact fun j h => by rw [hj j h]; rfl
theorem getD_ext {w v : List Nat} (hl : w.length = v.length) (h : ∀ j, j < w.length → w.getD j 0 = v.getD j 0) : w = v := by
  apply List.ext_getElem hl
  intro j h1 h2
  have := h j h1
  rw [List.getD_eq_getElem?_getD, List.getD_eq_getElem?_getD, List.getElem?_eq_getElem h1, List.getElem?_eq_getElem h2] at this
  exact this
theorem nI_sub {a b : Nat} (h : b ≤ a) : nI a - nI b = nI (a - b) := by
  have e : nI a = nI (a - b) + nI b := by rw [nI_add]; congr 1; omega
  rw [e]
  exact Int32.add_sub_cancel _ _
theorem nI_subneg {a b : Nat} (h : a < b) (hb : b < 2 ^ 31) : nI a - nI b < 0 := by
  have e : nI a - nI b = -(nI (b - a)) := by
    rw [← nI_sub (Nat.le_of_lt h), Int32.neg_sub]
  rw [e, Int32.lt_iff_toInt_lt, Int32.toInt_neg, nI_toInt (by omega)]
  have : (0 : Int32).toInt = 0 := by decide
  rw [this]
  have hb2 : ((b - a : Nat) : Int) < 2 ^ 31 := by have : b - a < 2 ^ 31 := by omega
                                                  exact_mod_cast this
  have : (-((b - a : Nat) : Int)).bmod (2 ^ 32) = -((b - a : Nat) : Int) := Int.bmod_eq_of_le (by omega) (by omega)
  rw [this]
  omega
theorem take_snoc {w : List Nat} {p : Nat} (h : p < w.length) : w.take p ++ [w.getD p 0] = w.take (p + 1) := by
  rw [List.take_succ, List.getD_eq_getElem?_getD, List.getElem?_eq_getElem h]
  rfl
theorem row_lt {ws : List (List Nat)} {i p : Nat} (h : p < (ws.getD i []).length) : i < ws.length := by
  rcases Nat.lt_or_ge i ws.length with q | q
  · exact q
  · rw [List.getD_eq_getElem?_getD, List.getElem?_eq_none q] at h
    exact absurd h (Nat.not_lt_zero p)
theorem wd_get {ws : List (List Nat)} {n i : Nat} (h : ∀ w ∈ ws, okW n w) : okW n (ws.getD i []) := by
  rw [List.getD_eq_getElem?_getD]
  cases e : ws[i]? with
  | none => exact ⟨Nat.zero_le _, fun x hx => nomatch hx⟩
  | some w => exact h w (List.mem_of_getElem? e)

set_option maxHeartbeats 4000000 in
set_option maxRecDepth 100000 in
theorem C_7_clear {a la : Nat} {w : List Nat} {h : Hp_} {Q : Ot_ → Hp_ → Prop} (n1 : la ≠ a) (R : wdR h a la w) (k : ∀ h', gExt h h' [a] [] → wdR h' a la [] → Q (.inl none) h') : gG 1 60 0 0 M_7_clear 0 (lv_args 0 [.ref a]) [] h Q := by
  obtain ⟨⟨hn, hx⟩, v, f, g, hc, hf⟩ := id R
  refine g_aloadn M_7_clear d_7_clear_0 (by first | rfl | assumption) ?_
  refine g_iconst M_7_clear (v := nI 0) d_7_clear_1 (by decide) ?_
  refine e_put M_7_clear d_7_clear_2 pt_7_15 v (by rfl) (by rfl) (fun h1 v1 e1 => ?_)
  exact g_vret M_7_clear d_7_clear_5 rfl (k h1 e1 ⟨⟨Nat.zero_le _, fun x hx => (nomatch hx)⟩, v1, f, e1.keep g (by simpa using n1), hc, fun j hj => absurd hj (Nat.not_lt_zero j)⟩)
set_option maxHeartbeats 4000000 in
set_option maxRecDepth 100000 in
theorem C_7_shorten {a la n : Nat} {w : List Nat} {h : Hp_} {Q : Ot_ → Hp_ → Prop} (hn16 : n < 2 ^ 31) (n1 : la ≠ a) (R : wdR h a la w) (k : ∀ h', gExt h h' [a] [] → wdR h' a la (w.take (w.length - n)) → Q (.inl none) h') : gG 1 60 0 0 M_7_shorten 0 (lv_args 0 [.ref a, .int (nI n)]) [] h Q := by
  obtain ⟨⟨hn, hx⟩, v, f, g, hc, hf⟩ := id R
  refine g_aloadn M_7_shorten d_7_shorten_0 (by first | rfl | assumption) ?_
  refine g_iconst M_7_shorten (v := nI 0) d_7_shorten_1 (by decide) ?_
  refine g_aloadn M_7_shorten d_7_shorten_2 (by first | rfl | assumption) ?_
  refine g_get M_7_shorten d_7_shorten_3 fl_7_15 (by assumption) (by rfl) ?_
  refine g_iloadn M_7_shorten d_7_shorten_6 (by first | rfl | assumption) ?_
  refine g_isub M_7_shorten d_7_shorten_7 ?_
  refine g_max M_7_shorten d_7_shorten_8 mm_7_19 mm_max_s mm_i mm_max_c (Nat.le_of_ble_eq_true (by rfl)) (Nat.le_of_ble_eq_true (by rfl)) ?_
  have e : (if nI 0 < nI w.length - nI n then nI w.length - nI n else nI 0) = nI (w.take (w.length - n)).length := by
    rw [List.length_take]
    by_cases q : n ≤ w.length
    · rw [nI_sub q]
      split
      · congr 1; omega
      · rename_i c
        have c2 : ¬ nI 0 < nI (w.length - n) := c
        rw [nI_ltI (by decide) (by omega)] at c2
        congr 1; omega
    · have c := nI_subneg (show w.length < n by omega) hn16
      rw [if_neg (fun d => absurd (Int32.lt_trans d c) (by decide))]
      congr 1; omega
  rw [e]
  refine e_put M_7_shorten d_7_shorten_11 pt_7_15 v (by rfl) (by rfl) (fun h1 v1 e1 => ?_)
  refine g_vret M_7_shorten d_7_shorten_14 rfl (k h1 e1 ⟨⟨by rw [List.length_take]; omega, fun x hx2 => hx x (List.mem_of_mem_take hx2)⟩, v1, f, e1.keep g (by simpa using n1), hc, fun j hj => ?_⟩)
  rw [List.length_take] at hj
  rw [hf j (by omega), List.getD_eq_getElem?_getD, List.getD_eq_getElem?_getD, List.getElem?_take, if_pos (by omega)]
set_option maxHeartbeats 4000000 in
set_option maxRecDepth 100000 in
theorem C_7_isSame {a la b lb : Nat} {w v : List Nat} {h : Hp_} {Q : Ot_ → Hp_ → Prop} (R : wdR h a la w) (V : wdR h b lb v) (k : Q (.inl (some (.int (bI (decide (w = v)))))) h) : gG 2 100 0 0 M_7_isSame 0 (lv_args 0 [.ref a, .ref b]) [] h Q := by
  have r0 := R.2.1
  have v0 := V.2.1
  have hw := R.1.1
  have hv := V.1.1
  refine g_aloadn M_7_isSame d_7_isSame_0 (by first | rfl | assumption) ?_
  refine g_get M_7_isSame d_7_isSame_1 fl_7_15 (by assumption) (by rfl) ?_
  refine g_aloadn M_7_isSame d_7_isSame_4 (by first | rfl | assumption) ?_
  refine g_get M_7_isSame d_7_isSame_5 fl_7_15 (by assumption) (by rfl) ?_
  refine g_icmp_eq M_7_isSame (tgt := 13) d_7_isSame_8 (by decide) (fun c => ?_) (fun c => ?_)
  rotate_left
  · rw [decide_eq_false (fun e => c (by rw [e]))] at k
    refine g_iconst M_7_isSame (v := nI 0) d_7_isSame_11 (by decide) ?_
    exact g_iret M_7_isSame d_7_isSame_12 rfl (by decide) k
  have hl : w.length = v.length := (nI_eq (by omega) (by omega)).mp c
  refine g_iconst M_7_isSame (v := nI 0) d_7_isSame_13 (by decide) ?_
  refine g_istoren M_7_isSame d_7_isSame_14 (by decide) (by first | rfl | (simp only [gc]; simp [*])) ?_
  have loop : ∀ n p, p + n = w.length → (∀ j, j < p → w.getD j 0 = v.getD j 0) → ∀ lv : List (Nat × Value), gl lv 0 = some (.ref a) → gl lv 1 = some (.ref b) → gl lv 2 = some (.int (nI p)) → gG 2 100 0 0 M_7_isSame 15 lv [] h Q := by
    intro n
    induction n with
    | zero =>
      intro p hp hj lv H0 H1 H2
      refine g_iloadn M_7_isSame d_7_isSame_15 (by first | rfl | assumption) ?_
      refine g_aloadn M_7_isSame d_7_isSame_16 (by first | rfl | assumption) ?_
      refine g_get M_7_isSame d_7_isSame_17 fl_7_15 (by assumption) (by rfl) ?_
      refine g_icmp_ge M_7_isSame (tgt := 44) d_7_isSame_20 (by decide) (fun _ => ?_) (fun c => absurd (nI_le (by omega) (by omega)) c)
      rw [decide_eq_true (getD_ext hl (fun j h9 => hj j (by omega)))] at k
      refine g_iconst M_7_isSame (v := nI 1) d_7_isSame_44 (by decide) ?_
      exact g_iret M_7_isSame d_7_isSame_45 rfl (by decide) k
    | succ n ih =>
      intro p hp hj lv H0 H1 H2
      refine g_iloadn M_7_isSame d_7_isSame_15 (by first | rfl | assumption) ?_
      refine g_aloadn M_7_isSame d_7_isSame_16 (by first | rfl | assumption) ?_
      refine g_get M_7_isSame d_7_isSame_17 fl_7_15 (by assumption) (by rfl) ?_
      refine g_icmp_ge M_7_isSame (tgt := 44) d_7_isSame_20 (by decide) (fun c => absurd c (nI_ge (by omega) (by omega))) (fun _ => ?_)
      refine g_aloadn M_7_isSame d_7_isSame_23 (by first | rfl | assumption) ?_
      refine g_iloadn M_7_isSame d_7_isSame_24 (by first | rfl | assumption) ?_
      refine gc_V M_7_isSame 0 0 [.int (nI p)] [] d_7_isSame_25 cv_7_25 r0 (by rfl) (by rfl) (Nat.le_of_ble_eq_true (by rfl)) (Nat.le_of_ble_eq_true (by rfl)) (by decide) (by decide) (by decide) (by decide) (C_7_letter R (by omega) ?_)
      show gG _ _ _ _ _ _ _ _ _ _
      refine g_aloadn M_7_isSame d_7_isSame_28 (by first | rfl | assumption) ?_
      refine g_iloadn M_7_isSame d_7_isSame_29 (by first | rfl | assumption) ?_
      refine gc_V M_7_isSame 0 0 [.int (nI p)] [_] d_7_isSame_30 cv_7_25 v0 (by rfl) (by rfl) (Nat.le_of_ble_eq_true (by rfl)) (Nat.le_of_ble_eq_true (by rfl)) (by decide) (by decide) (by decide) (by decide) (C_7_letter V (by omega) ?_)
      show gG _ _ _ _ _ _ _ _ _ _
      refine g_icmp_eq M_7_isSame (tgt := 38) d_7_isSame_33 (by decide) (fun c => ?_) (fun c => ?_)
      · have ce := (nI_eq (Nat.lt_trans (R.1.get p) (by decide)) (Nat.lt_trans (V.1.get p) (by decide))).mp c
        refine g_iinc M_7_isSame (v := nI (p + 1)) d_7_isSame_38 H2 (by decide) (by first | rfl | (simp only [gc]; simp [*])) (nI_add p 1) ?_
        refine g_goto M_7_isSame (tgt := 15) d_7_isSame_41 (by decide) ?_
        refine ih (p + 1) (by omega) (fun j h9 => ?_) _ H0 H1 rfl
        rcases Nat.lt_succ_iff_lt_or_eq.mp h9 with q | q
        · exact hj j q
        · rw [q]; exact ce
      · rw [decide_eq_false (fun e => c (by rw [e]))] at k
        refine g_iconst M_7_isSame (v := nI 0) d_7_isSame_36 (by decide) ?_
        exact g_iret M_7_isSame d_7_isSame_37 rfl (by decide) k
  exact loop w.length 0 (by omega) (fun j h9 => absurd h9 (Nat.not_lt_zero j)) _ rfl rfl rfl
set_option maxHeartbeats 4000000 in
set_option maxRecDepth 100000 in
theorem C_7_copyFrom {a la b lb : Nat} {w v : List Nat} {h : Hp_} {Q : Ot_ → Hp_ → Prop} (R : wdR h a la w) (V : wdR h b lb v) (n1 : a ≠ la) (n2 : b ≠ la) (k : ∀ h', gExt h h' [a, la] [] → wdR h' a la v → Q (.inl none) h') : gG 1 90 0 0 M_7_copyFrom 0 (lv_args 0 [.ref a, .ref b]) [] h Q := by
  obtain ⟨r1, r2, f, r3, r4, r5⟩ := id R
  obtain ⟨v1, v2, g, v3, v4, v5⟩ := id V
  refine g_aloadn M_7_copyFrom d_7_copyFrom_0 (by first | rfl | assumption) ?_
  refine g_get M_7_copyFrom d_7_copyFrom_1 fl_7_9 (by assumption) (by rfl) ?_
  refine g_iconst M_7_copyFrom (v := nI 0) d_7_copyFrom_4 (by decide) ?_
  refine g_aloadn M_7_copyFrom d_7_copyFrom_5 (by first | rfl | assumption) ?_
  refine g_get M_7_copyFrom d_7_copyFrom_6 fl_7_9 (by assumption) (by rfl) ?_
  refine g_iconst M_7_copyFrom (v := nI 0) d_7_copyFrom_9 (by decide) ?_
  refine g_aloadn M_7_copyFrom d_7_copyFrom_10 (by first | rfl | assumption) ?_
  refine g_get M_7_copyFrom d_7_copyFrom_11 fl_7_9 (by assumption) (by rfl) ?_
  refine g_alen M_7_copyFrom d_7_copyFrom_14 (by assumption) ?_
  refine g_aloadn M_7_copyFrom d_7_copyFrom_15 (by first | rfl | assumption) ?_
  refine g_get M_7_copyFrom d_7_copyFrom_16 fl_7_9 (by assumption) (by rfl) ?_
  refine g_alen M_7_copyFrom d_7_copyFrom_19 (by assumption) ?_
  refine g_min M_7_copyFrom d_7_copyFrom_20 mm_7_29 mm_min_s mm_i mm_min_c (Nat.le_of_ble_eq_true (by rfl)) (Nat.le_of_ble_eq_true (by rfl)) ?_
  rw [ite_self]
  refine e_copy M_7_copyFrom d_7_copyFrom_23 ac_7_32 v3 r3 rfl (by decide) (by decide) (by decide) (by decide) (by decide) (fun i hi => ?_) (Nat.le_of_ble_eq_true (by rfl)) (Nat.le_of_ble_eq_true (by rfl)) (fun h2 u2 e2 => ?_)
  · rw [nI_cl (by decide)]
    rw [nI_cl (by decide)] at hi
    exact gCh_f (v4 _ (by omega))
  rw [nI_cl (by decide), nI_cl (by decide)] at u2
  have ra := e2.keep r2 (by simpa using n1)
  have vb := e2.keep v2 (by simpa using n2)
  refine g_aloadn M_7_copyFrom d_7_copyFrom_26 (by first | rfl | assumption) ?_
  refine g_aloadn M_7_copyFrom d_7_copyFrom_27 (by first | rfl | assumption) ?_
  refine g_get M_7_copyFrom d_7_copyFrom_28 fl_7_15 (by assumption) (by rfl) ?_
  refine e_put M_7_copyFrom d_7_copyFrom_31 pt_7_15 ra (by rfl) (by rfl) (fun h3 u3 e3 => ?_)
  refine g_vret M_7_copyFrom d_7_copyFrom_34 rfl (k h3 ?_ ⟨v1, u3, _, e3.keep u2 (by simpa using n1.symm), fun j hj => ?_, fun j hj => ?_⟩)
  · have t := (e2.weak (S' := [a, la]) (by simp)).trans e3 (by simp)
    simpa using t
  · rw [va_cpy0 hj]; exact v4 j hj
  · rw [va_cpy0 (by have := v1.1; omega)]; exact v5 j hj
set_option maxHeartbeats 4000000 in
set_option maxRecDepth 100000 in
theorem C_8_lengthOf {a la na rows width : Nat} {ws : List (List Nat)} {i : Nat} {h : Hp_} {Q : Ot_ → Hp_ → Prop} (hr : rows ≤ 30) (R : wsR h a la na rows width ws) (hi : i < 2 ^ 31) (k : Q (.inl (some (.int (nI (ws.getD i []).length)))) h) : gG 1 60 0 0 M_8_lengthOf 0 (lv_args 0 [.ref a, .int (nI i)]) [] h Q := by
  obtain ⟨p1, p2, p3, f, g, p4, p5, p6, p7⟩ := id R
  refine g_iloadn M_8_lengthOf d_8_lengthOf_0 (by first | rfl | assumption) ?_
  refine g_if_lt M_8_lengthOf (tgt := 30) d_8_lengthOf_1 (by decide) (fun c => absurd c (nI_pos hi)) (fun _ => ?_)
  refine g_iloadn M_8_lengthOf d_8_lengthOf_4 (by first | rfl | assumption) ?_
  refine g_aloadn M_8_lengthOf d_8_lengthOf_5 (by first | rfl | assumption) ?_
  refine g_get M_8_lengthOf d_8_lengthOf_6 fl_8_29 (by assumption) (by rfl) ?_
  refine g_icmp_ge M_8_lengthOf (tgt := 30) d_8_lengthOf_9 (by decide) (fun c => ?_) (fun c => ?_)
  · rw [nI_leI (by omega) hi] at c
    rw [List.getD_eq_getElem?_getD, List.getElem?_eq_none c] at k
    refine g_iconst M_8_lengthOf (v := nI 0) d_8_lengthOf_30 (by decide) ?_
    exact g_iret M_8_lengthOf d_8_lengthOf_31 rfl rfl k
  · rw [nI_leI (by omega) hi] at c
    refine g_iloadn M_8_lengthOf d_8_lengthOf_12 (by first | rfl | assumption) ?_
    refine g_aloadn M_8_lengthOf d_8_lengthOf_13 (by first | rfl | assumption) ?_
    refine g_get M_8_lengthOf d_8_lengthOf_14 fl_8_25 (by assumption) (by rfl) ?_
    refine g_alen M_8_lengthOf d_8_lengthOf_17 (by assumption) ?_
    refine g_icmp_ge M_8_lengthOf (tgt := 30) d_8_lengthOf_18 (by decide) (fun c9 => absurd c9 (nI_ge (by omega) (by omega))) (fun _ => ?_)
    refine g_aloadn M_8_lengthOf d_8_lengthOf_21 (by first | rfl | assumption) ?_
    refine g_get M_8_lengthOf d_8_lengthOf_22 fl_8_25 (by assumption) (by rfl) ?_
    refine g_iloadn M_8_lengthOf d_8_lengthOf_25 (by first | rfl | assumption) ?_
    refine g_iaload M_8_lengthOf d_8_lengthOf_26 p5 (vp_in_nI (by omega) (by omega)) ?_
    rw [nI_cl hi, (p7 i (by omega)).1]
    refine g_goto M_8_lengthOf (tgt := 31) d_8_lengthOf_27 (by decide) ?_
    exact g_iret M_8_lengthOf d_8_lengthOf_31 rfl rfl k
set_option maxHeartbeats 4000000 in
set_option maxRecDepth 100000 in
theorem C_8_letterOf {a la na rows width : Nat} {ws : List (List Nat)} {i j : Nat} {h : Hp_} {Q : Ot_ → Hp_ → Prop} (hr : rows ≤ 30) (hw : width ≤ 16) (R : wsR h a la na rows width ws) (hi : i < ws.length) (hj : j < (ws.getD i []).length) (k : Q (.inl (some (.int (nI ((ws.getD i []).getD j 0))))) h) : gG 1 60 0 0 M_8_letterOf 0 (lv_args 0 [.ref a, .int (nI i), .int (nI j)]) [] h Q := by
  obtain ⟨p1, p2, p3, f, g, p4, p5, p6, p7⟩ := id R
  have b1 : rows * width ≤ 480 := Nat.le_trans (Nat.mul_le_mul hr hw) (by decide)
  have b2 : i * width + width ≤ rows * width := nI_mulbd (by omega)
  have b3 := (wd_get (i := i) p2).1
  have ix : nI i * nI width + nI j = nI (i * width + j) := by
    rw [show nI i * nI width = nI (i * width) from (Int32.ofNat_mul i width).symm, nI_add]
  refine g_iloadn M_8_letterOf d_8_letterOf_0 (by first | rfl | assumption) ?_
  refine g_aloadn M_8_letterOf d_8_letterOf_1 (by first | rfl | assumption) ?_
  refine g_get M_8_letterOf d_8_letterOf_2 fl_8_15 (by assumption) (by rfl) ?_
  refine g_imul M_8_letterOf d_8_letterOf_5 ?_
  refine g_iloadn M_8_letterOf d_8_letterOf_6 (by first | rfl | assumption) ?_
  refine g_iadd M_8_letterOf d_8_letterOf_7 ?_
  rw [ix]
  refine g_istoren M_8_letterOf d_8_letterOf_8 (by decide) (by first | rfl | (simp only [gc]; simp [*])) ?_
  refine g_iloadn M_8_letterOf d_8_letterOf_9 (by first | rfl | assumption) ?_
  refine g_if_lt M_8_letterOf (tgt := 31) d_8_letterOf_10 (by decide) (fun c => absurd c (nI_pos (by omega))) (fun _ => ?_)
  refine g_iloadn M_8_letterOf d_8_letterOf_13 (by first | rfl | assumption) ?_
  refine g_aloadn M_8_letterOf d_8_letterOf_14 (by first | rfl | assumption) ?_
  refine g_get M_8_letterOf d_8_letterOf_15 fl_8_21 (by assumption) (by rfl) ?_
  refine g_alen M_8_letterOf d_8_letterOf_18 (by assumption) ?_
  refine g_icmp_ge M_8_letterOf (tgt := 31) d_8_letterOf_19 (by decide) (fun c => absurd c (nI_ge (by omega) (by omega))) (fun _ => ?_)
  refine g_aloadn M_8_letterOf d_8_letterOf_22 (by first | rfl | assumption) ?_
  refine g_get M_8_letterOf d_8_letterOf_23 fl_8_21 (by assumption) (by rfl) ?_
  refine g_iloadn M_8_letterOf d_8_letterOf_26 (by first | rfl | assumption) ?_
  refine g_caload M_8_letterOf d_8_letterOf_27 p4 (vp_in_nI (by omega) (by omega)) ?_
  rw [nI_cl (by omega), (p7 i hi).2 j hj]
  refine g_goto M_8_letterOf (tgt := 32) d_8_letterOf_28 (by decide) ?_
  exact g_iret M_8_letterOf d_8_letterOf_32 rfl (gCh_n (gCh_of ((wd_get p2).get j))) k
set_option maxHeartbeats 4000000 in
set_option maxRecDepth 100000 in
theorem C_8_appendTo {a la na rows width : Nat} {ws : List (List Nat)} {i aw lw : Nat} {w : List Nat} {h : Hp_} {Q : Ot_ → Hp_ → Prop} (hr : rows ≤ 30) (hw : width ≤ 16) (R : wsR h a la na rows width ws) (hi : i < 2 ^ 31) (D : wdR h aw lw w) (hlen : w.length + (ws.getD i []).length ≤ 16) (n0 : aw ≠ lw) (o : ∀ x ∈ [a, la, na], x ∉ [aw, lw]) (k : ∀ h', gExt h h' [aw, lw] [] → wdR h' aw lw (w ++ ws.getD i []) → Q (.inl none) h') : gG 2 100 0 0 M_8_appendTo 0 (lv_args 0 [.ref a, .int (nI i), .ref aw]) [] h Q := by
  have r0 := R.2.2.1
  have bw := (wd_get (i := i) R.2.1)
  have oa := o a (by simp)
  have ola := o la (by simp)
  have ona := o na (by simp)
  refine g_aloadn M_8_appendTo d_8_appendTo_0 (by first | rfl | assumption) ?_
  refine g_iloadn M_8_appendTo d_8_appendTo_1 (by first | rfl | assumption) ?_
  refine gc_V M_8_appendTo 0 0 [.int (nI i)] [] d_8_appendTo_2 cv_8_63 r0 (by rfl) (by rfl) (Nat.le_of_ble_eq_true (by rfl)) (Nat.le_of_ble_eq_true (by rfl)) (by decide) (by decide) (by decide) (by decide) (C_8_lengthOf hr R hi ?_)
  show gG _ _ _ _ _ _ _ _ _ _
  refine g_istoren M_8_appendTo d_8_appendTo_5 (by decide) (by first | rfl | (simp only [gc]; simp [*])) ?_
  refine g_iconst M_8_appendTo (v := nI 0) d_8_appendTo_6 (by decide) ?_
  refine g_istore M_8_appendTo d_8_appendTo_7 (by decide) (by first | rfl | (simp only [gc]; simp [*])) ?_
  have loop : ∀ n p, p + n = (ws.getD i []).length → ∀ (h2 : Hp_) (lv : List (Nat × Value)), gExt h h2 [aw, lw] [] → wdR h2 aw lw (w ++ (ws.getD i []).take p) → gl lv 0 = some (.ref a) → gl lv 1 = some (.int (nI i)) → gl lv 2 = some (.ref aw) → gl lv 3 = some (.int (nI (ws.getD i []).length)) → gl lv 4 = some (.int (nI p)) → gG 2 100 0 0 M_8_appendTo 9 lv [] h2 Q := by
    intro n
    induction n with
    | zero =>
      intro p hp h2 lv e2 D2 H0 H1 H2 H3 H4
      have D3 : wdR h2 aw lw (w ++ ws.getD i []) := by rw [List.take_of_length_le (by omega)] at D2; exact D2
      refine g_iload M_8_appendTo d_8_appendTo_9 (by first | rfl | assumption) ?_
      refine g_iloadn M_8_appendTo d_8_appendTo_11 (by first | rfl | assumption) ?_
      refine g_icmp_ge M_8_appendTo (tgt := 32) d_8_appendTo_12 (by decide) (fun _ => ?_) (fun c => absurd (nI_le (by omega) (by omega)) c)
      exact g_vret M_8_appendTo d_8_appendTo_32 rfl (k h2 e2 D3)
    | succ n ih =>
      intro p hp h2 lv e2 D2 H0 H1 H2 H3 H4
      have R2 := R.keep e2 oa ola ona
      have il : i < ws.length := row_lt (p := p) (by omega)
      have lt : (w ++ (ws.getD i []).take p).length < 16 := by rw [List.length_append, List.length_take]; omega
      refine g_iload M_8_appendTo d_8_appendTo_9 (by first | rfl | assumption) ?_
      refine g_iloadn M_8_appendTo d_8_appendTo_11 (by first | rfl | assumption) ?_
      refine g_icmp_ge M_8_appendTo (tgt := 32) d_8_appendTo_12 (by decide) (fun c => absurd c (nI_ge (by omega) (by omega))) (fun _ => ?_)
      refine g_aloadn M_8_appendTo d_8_appendTo_15 (by first | rfl | assumption) ?_
      refine g_aloadn M_8_appendTo d_8_appendTo_16 (by first | rfl | assumption) ?_
      refine g_iloadn M_8_appendTo d_8_appendTo_17 (by first | rfl | assumption) ?_
      refine g_iload M_8_appendTo d_8_appendTo_18 (by first | rfl | assumption) ?_
      refine gc_V M_8_appendTo 0 0 [.int (nI i), .int (nI p)] [.ref aw] d_8_appendTo_20 cv_8_67 R2.2.2.1 (by rfl) (by rfl) (Nat.le_of_ble_eq_true (by rfl)) (Nat.le_of_ble_eq_true (by rfl)) (by decide) (by decide) (by decide) (by decide) (C_8_letterOf hr hw R2 il (by omega) ?_)
      show gG _ _ _ _ _ _ _ _ _ _
      refine gc_V M_8_appendTo 0 0 [_] [] d_8_appendTo_23 cv_8_71 D2.2.1 (by rfl) (by rfl) (Nat.le_of_ble_eq_true (by rfl)) (Nat.le_of_ble_eq_true (by rfl)) (by decide) (by decide) (by decide) (by decide) (C_7_append D2 lt (bw.get p) n0 (fun h3 e3 D3 => ?_))
      show gG _ _ _ _ _ _ _ _ _ _
      refine g_iinc M_8_appendTo (v := nI (p + 1)) d_8_appendTo_26 H4 (by decide) (by first | rfl | (simp only [gc]; simp [*])) (nI_add p 1) ?_
      refine g_goto M_8_appendTo (tgt := 9) d_8_appendTo_29 (by decide) ?_
      refine ih (p + 1) (by omega) h3 _ (by simpa using e2.trans e3 (fun x hx => Or.inl hx)) ?_ H0 H1 H2 H3 rfl
      rw [← take_snoc (show p < (ws.getD i []).length by omega), ← List.append_assoc]
      exact D3
  exact loop (ws.getD i []).length 0 (by omega) h _ (gExt.refl.weak (by simp)) (by simpa using D) rfl rfl rfl rfl rfl
set_option maxHeartbeats 4000000 in
set_option maxRecDepth 100000 in
theorem C_8_load {a la na rows width : Nat} {ws : List (List Nat)} {i aw lw : Nat} {w : List Nat} {h : Hp_} {Q : Ot_ → Hp_ → Prop} (hr : rows ≤ 30) (hw : width ≤ 16) (R : wsR h a la na rows width ws) (hi : i < 2 ^ 31) (D : wdR h aw lw w) (n0 : aw ≠ lw) (o : ∀ x ∈ [a, la, na], x ∉ [aw, lw]) (k : ∀ h', gExt h h' [aw, lw] [] → wdR h' aw lw (ws.getD i []) → Q (.inl none) h') : gG 3 130 0 0 M_8_load 0 (lv_args 0 [.ref a, .int (nI i), .ref aw]) [] h Q := by
  have oo : ∀ x ∈ [a, la, na], x ∉ [aw] := fun x hx q => o x hx (by rw [List.mem_singleton.mp q]; simp)
  refine g_aloadn M_8_load d_8_load_0 (by first | rfl | assumption) ?_
  refine gc_V M_8_load 0 0 [] [] d_8_load_1 cv_8_57 D.2.1 (by rfl) (by rfl) (Nat.le_of_ble_eq_true (by rfl)) (Nat.le_of_ble_eq_true (by rfl)) (by decide) (by decide) (by decide) (by decide) (C_7_clear n0.symm D (fun h1 e1 D1 => ?_))
  have R1 := R.keep e1 (oo a (by simp)) (oo la (by simp)) (oo na (by simp))
  show gG _ _ _ _ _ _ _ _ _ _
  refine g_aloadn M_8_load d_8_load_4 (by first | rfl | assumption) ?_
  refine g_iloadn M_8_load d_8_load_5 (by first | rfl | assumption) ?_
  refine g_aloadn M_8_load d_8_load_6 (by first | rfl | assumption) ?_
  refine gc_V M_8_load 0 0 [.int (nI i), .ref aw] [] d_8_load_7 cv_8_60 R1.2.2.1 (by rfl) (by rfl) (Nat.le_of_ble_eq_true (by rfl)) (Nat.le_of_ble_eq_true (by rfl)) (by decide) (by decide) (by decide) (by decide) (C_8_appendTo hr hw R1 hi D1 (by rw [List.length_nil, Nat.zero_add]; exact Nat.le_trans (wd_get (i := i) R1.2.1).1 hw) n0 o (fun h2 e2 D2 => ?_))
  show gG _ _ _ _ _ _ _ _ _ _
  have t := (e1.weak (S' := [aw, lw]) (by simp)).trans e2 (fun x hx => Or.inl hx)
  exact g_vret M_8_load d_8_load_10 rfl (k h2 (by simpa using t) (by simpa using D2))
