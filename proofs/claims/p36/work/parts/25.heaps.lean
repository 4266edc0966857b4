/-! ===== heaps as triples: mark, owner, coins ===== -/
abbrev Hn_ : Type := List (List Nat × Nat × Nat)
abbrev hx (v : Hn_) (i : Nat) : List Nat × Nat × Nat := v.getD i ([], 0, 0)
def hL (v : Hn_) : Hl_ := (v.map (fun x => x.1), v.map (fun x => nI x.2.1), v.map (fun x => nI x.2.2))
def heN (h : Hp_) (r : Nat → Nat) (v : Hn_) : Prop := heR h r (hL v) ∧ ∀ x ∈ v, x.2.1 < 2 ^ 30 ∧ x.2.2 < 2 ^ 30
theorem hx_mem {v : Hn_} {i : Nat} (h : i < v.length) : hx v i ∈ v := by
  unfold hx
  rw [List.getD_eq_getElem?_getD, List.getElem?_eq_getElem h]
  exact List.getElem_mem h
theorem hL_m {v : Hn_} {i : Nat} : (hL v).1.getD i [] = (hx v i).1 := by
  unfold hL hx
  simp only [List.getD_eq_getElem?_getD, List.getElem?_map]
  cases v[i]? <;> rfl
theorem hL_o {v : Hn_} {i : Nat} : (hL v).2.1.getD i 0 = nI (hx v i).2.1 := by
  unfold hL hx
  simp only [List.getD_eq_getElem?_getD, List.getElem?_map]
  cases v[i]? <;> rfl
theorem hL_c {v : Hn_} {i : Nat} : (hL v).2.2.getD i 0 = nI (hx v i).2.2 := by
  unfold hL hx
  simp only [List.getD_eq_getElem?_getD, List.getElem?_map]
  cases v[i]? <;> rfl
theorem hL_l {v : Hn_} : (hL v).1.length = v.length ∧ (hL v).2.1.length = v.length ∧ (hL v).2.2.length = v.length := by
  unfold hL
  exact ⟨List.length_map _, List.length_map _, List.length_map _⟩
theorem heN.le {h : Hp_} {r : Nat → Nat} {v : Hn_} (D : heN h r v) : v.length ≤ 30 := by
  have := D.1.2.1.1
  rw [hL_l.1] at this
  exact this
theorem heN.keep {h h' : Hp_} {S A : List Nat} {r : Nat → Nat} {v : Hn_} (H : heN h r v) (x : gExt h h' S A) (hs : ∀ k, k < 6 → r k ∉ S) : heN h' r v := ⟨H.1.keep x hs, H.2⟩

set_option maxHeartbeats 4000000 in
set_option maxRecDepth 100000 in
theorem C_2_isFull {r : Nat → Nat} {v : Hn_} {h : Hp_} {Q : Ot_ → Hp_ → Prop} (D : heN h r v) (k : Q (.inl (some (.int (bI (decide (30 ≤ v.length)))))) h) : gG 2 90 0 0 M_2_isFull 0 (lv_args 0 [.ref (r 0)]) [] h Q := by
  obtain ⟨v0, W1, ⟨-, g, g1, g2⟩, ⟨-, g', c1, c2⟩, -, -⟩ := id D.1
  have vl := D.le
  rw [← hL_l.1] at k
  refine g_aloadn M_2_isFull d_2_isFull_0 (by first | rfl | assumption) ?_
  refine g_get M_2_isFull d_2_isFull_1 fl_2_14 (by assumption) (by rfl) ?_
  refine gc_V M_2_isFull 0 0 [] [] d_2_isFull_4 cv_2_31 W1.2.2.1 (by rfl) (by rfl) (Nat.le_of_ble_eq_true (by rfl)) (Nat.le_of_ble_eq_true (by rfl)) (by decide) (by decide) (by decide) (by decide) (C_8_isFull W1 (by decide) ?_)
  show gG _ _ _ _ _ _ _ _ _ _
  exact g_iret M_2_isFull d_2_isFull_7 rfl (bI_n _) k
set_option maxHeartbeats 4000000 in
set_option maxRecDepth 100000 in
theorem C_2_ownerOf {r : Nat → Nat} {v : Hn_} {h : Hp_} {Q : Ot_ → Hp_ → Prop} {i : Nat} (D : heN h r v) (hi : i < v.length) (k : Q (.inl (some (.int (nI (hx v i).2.1)))) h) : gG 1 60 0 0 M_2_ownerOf 0 (lv_args 0 [.ref (r 0), .int (nI i)]) [] h Q := by
  obtain ⟨v0, W1, ⟨-, g, g1, g2⟩, ⟨-, g', c1, c2⟩, -, -⟩ := id D.1
  have vl := D.le
  refine g_iloadn M_2_ownerOf d_2_ownerOf_0 (by first | rfl | assumption) ?_
  refine g_if_lt M_2_ownerOf (tgt := 22) d_2_ownerOf_1 (by decide) (fun c => absurd c (nI_pos (by omega))) (fun _ => ?_)
  refine g_iloadn M_2_ownerOf d_2_ownerOf_4 (by first | rfl | assumption) ?_
  refine g_aloadn M_2_ownerOf d_2_ownerOf_5 (by first | rfl | assumption) ?_
  refine g_get M_2_ownerOf d_2_ownerOf_6 fl_2_20 (by assumption) (by rfl) ?_
  refine g_alen M_2_ownerOf d_2_ownerOf_9 (by assumption) ?_
  refine g_icmp_ge M_2_ownerOf (tgt := 22) d_2_ownerOf_10 (by decide) (fun c => absurd c (nI_ge (by omega) (by decide))) (fun _ => ?_)
  refine g_aloadn M_2_ownerOf d_2_ownerOf_13 (by first | rfl | assumption) ?_
  refine g_get M_2_ownerOf d_2_ownerOf_14 fl_2_20 (by assumption) (by rfl) ?_
  refine g_iloadn M_2_ownerOf d_2_ownerOf_17 (by first | rfl | assumption) ?_
  refine g_iaload M_2_ownerOf d_2_ownerOf_18 g1 (vp_in_nI (by omega) (by decide)) ?_
  rw [nI_cl (by omega), g2 i (by have := @hL_l v; omega), hL_o]
  refine g_goto M_2_ownerOf (tgt := 23) d_2_ownerOf_19 (by decide) ?_
  exact g_iret M_2_ownerOf d_2_ownerOf_23 rfl rfl k
set_option maxHeartbeats 4000000 in
set_option maxRecDepth 100000 in
theorem C_2_coinsIn {r : Nat → Nat} {v : Hn_} {h : Hp_} {Q : Ot_ → Hp_ → Prop} {i : Nat} (D : heN h r v) (hi : i < v.length) (k : Q (.inl (some (.int (nI (hx v i).2.2)))) h) : gG 1 60 0 0 M_2_coinsIn 0 (lv_args 0 [.ref (r 0), .int (nI i)]) [] h Q := by
  obtain ⟨v0, W1, ⟨-, g, g1, g2⟩, ⟨-, g', c1, c2⟩, -, -⟩ := id D.1
  have vl := D.le
  refine g_iloadn M_2_coinsIn d_2_coinsIn_0 (by first | rfl | assumption) ?_
  refine g_if_lt M_2_coinsIn (tgt := 22) d_2_coinsIn_1 (by decide) (fun c => absurd c (nI_pos (by omega))) (fun _ => ?_)
  refine g_iloadn M_2_coinsIn d_2_coinsIn_4 (by first | rfl | assumption) ?_
  refine g_aloadn M_2_coinsIn d_2_coinsIn_5 (by first | rfl | assumption) ?_
  refine g_get M_2_coinsIn d_2_coinsIn_6 fl_2_24 (by assumption) (by rfl) ?_
  refine g_alen M_2_coinsIn d_2_coinsIn_9 (by assumption) ?_
  refine g_icmp_ge M_2_coinsIn (tgt := 22) d_2_coinsIn_10 (by decide) (fun c => absurd c (nI_ge (by omega) (by decide))) (fun _ => ?_)
  refine g_aloadn M_2_coinsIn d_2_coinsIn_13 (by first | rfl | assumption) ?_
  refine g_get M_2_coinsIn d_2_coinsIn_14 fl_2_24 (by assumption) (by rfl) ?_
  refine g_iloadn M_2_coinsIn d_2_coinsIn_17 (by first | rfl | assumption) ?_
  refine g_iaload M_2_coinsIn d_2_coinsIn_18 c1 (vp_in_nI (by omega) (by decide)) ?_
  rw [nI_cl (by omega), c2 i (by have := @hL_l v; omega), hL_c]
  refine g_goto M_2_coinsIn (tgt := 23) d_2_coinsIn_19 (by decide) ?_
  exact g_iret M_2_coinsIn d_2_coinsIn_23 rfl rfl k
set_option maxHeartbeats 4000000 in
set_option maxRecDepth 100000 in
theorem C_2_bears {r : Nat → Nat} {v : Hn_} {h : Hp_} {Q : Ot_ → Hp_ → Prop} {i aw lw : Nat} {w : List Nat} (D : heN h r v) (hi : i < v.length) (W : wdR h aw lw w) (k : Q (.inl (some (.int (bI (decide ((hx v i).1 = w)))))) h) : gG 4 170 0 0 M_2_bears 0 (lv_args 0 [.ref (r 0), .int (nI i), .ref aw]) [] h Q := by
  obtain ⟨v0, W1, ⟨-, g, g1, g2⟩, ⟨-, g', c1, c2⟩, -, -⟩ := id D.1
  have vl := D.le
  rw [← hL_m] at k
  refine g_aloadn M_2_bears d_2_bears_0 (by first | rfl | assumption) ?_
  refine g_get M_2_bears d_2_bears_1 fl_2_14 (by assumption) (by rfl) ?_
  refine g_iloadn M_2_bears d_2_bears_4 (by first | rfl | assumption) ?_
  refine g_aloadn M_2_bears d_2_bears_5 (by first | rfl | assumption) ?_
  refine gc_V M_2_bears 0 0 [.int (nI i), .ref aw] [] d_2_bears_6 cv_2_35 W1.2.2.1 (by rfl) (by rfl) (Nat.le_of_ble_eq_true (by rfl)) (Nat.le_of_ble_eq_true (by rfl)) (by decide) (by decide) (by decide) (by decide) (C_8_isSame (by decide) (by decide) W1 (by omega) W ?_)
  show gG _ _ _ _ _ _ _ _ _ _
  exact g_iret M_2_bears d_2_bears_9 rfl (bI_n _) k
set_option maxHeartbeats 4000000 in
set_option maxRecDepth 100000 in
theorem C_2_find {r : Nat → Nat} {v : Hn_} {h : Hp_} {Q : Ot_ → Hp_ → Prop} {n aw lw : Nat} {w : List Nat} (D : heN h r v) (hn : n < 2 ^ 30) (W : wdR h aw lw w) (k : Q (.inl (some (.int (oI (fst (fun i => decide ((hx v i).2.1 = n ∧ (hx v i).1 = w)) v.length))))) h) : gG 5 210 0 0 M_2_find 0 (lv_args 0 [.ref (r 0), .int (nI n), .ref aw]) [] h Q := by
  obtain ⟨v0, W1, ⟨-, g, g1, g2⟩, ⟨-, g', c1, c2⟩, -, -⟩ := id D.1
  have vl := D.le
  refine g_iconst M_2_find (v := nI 0) d_2_find_0 (by decide) ?_
  refine g_istoren M_2_find d_2_find_1 (by decide) (by first | rfl | (simp only [gc]; simp [*])) ?_
  have loop : ∀ t p, p + t = v.length → (∀ j, j < p → decide ((hx v j).2.1 = n ∧ (hx v j).1 = w) = false) → ∀ lv : List (Nat × Value), gl lv 0 = some (.ref (r 0)) → gl lv 1 = some (.int (nI n)) → gl lv 2 = some (.ref aw) → gl lv 3 = some (.int (nI p)) → gG 5 210 0 0 M_2_find 2 lv [] h Q := by
    intro t
    induction t with
    | zero =>
      intro p hp hj lv H0 H1 H2 H3
      rw [fst_none (fun j h9 => hj j (by omega))] at k
      refine g_iloadn M_2_find d_2_find_2 (by first | rfl | assumption) ?_
      refine g_aloadn M_2_find d_2_find_3 (by first | rfl | assumption) ?_
      refine gc_V M_2_find 0 0 [] [.int (nI p)] d_2_find_4 cv_2_39 v0 (by rfl) (by rfl) (Nat.le_of_ble_eq_true (by rfl)) (Nat.le_of_ble_eq_true (by rfl)) (by decide) (by decide) (by decide) (by decide) (C_2_count D.1 ?_)
      rw [hL_l.1]
      show gG _ _ _ _ _ _ _ _ _ _
      refine g_icmp_ge M_2_find (tgt := 36) d_2_find_7 (by decide) (fun _ => ?_) (fun c => absurd (nI_le (by omega) (by omega)) c)
      refine g_iconst M_2_find (v := -1) d_2_find_36 (by decide) ?_
      exact g_iret M_2_find d_2_find_37 rfl rfl k
    | succ t ih =>
      intro p hp hj lv H0 H1 H2 H3
      have ob := (D.2 _ (hx_mem (show p < v.length by omega))).1
      have next : decide ((hx v p).2.1 = n ∧ (hx v p).1 = w) = false → ∀ lv : List (Nat × Value), gl lv 0 = some (.ref (r 0)) → gl lv 1 = some (.int (nI n)) → gl lv 2 = some (.ref aw) → gl lv 3 = some (.int (nI p)) → gG 5 210 0 0 M_2_find 30 lv [] h Q := by
        intro e lv H0 H1 H2 H3
        refine g_iinc M_2_find (v := nI (p + 1)) d_2_find_30 H3 (by decide) (by first | rfl | (simp only [gc]; simp [*])) (nI_add p 1) ?_
        refine g_goto M_2_find (tgt := 2) d_2_find_33 (by decide) ?_
        refine ih (p + 1) (by omega) (fun j h9 => ?_) _ H0 H1 H2 rfl
        rcases Nat.lt_succ_iff_lt_or_eq.mp h9 with q | q
        · exact hj j q
        · rw [q]; exact e
      refine g_iloadn M_2_find d_2_find_2 (by first | rfl | assumption) ?_
      refine g_aloadn M_2_find d_2_find_3 (by first | rfl | assumption) ?_
      refine gc_V M_2_find 0 0 [] [.int (nI p)] d_2_find_4 cv_2_39 v0 (by rfl) (by rfl) (Nat.le_of_ble_eq_true (by rfl)) (Nat.le_of_ble_eq_true (by rfl)) (by decide) (by decide) (by decide) (by decide) (C_2_count D.1 ?_)
      rw [hL_l.1]
      show gG _ _ _ _ _ _ _ _ _ _
      refine g_icmp_ge M_2_find (tgt := 36) d_2_find_7 (by decide) (fun c => absurd c (nI_ge (by omega) (by omega))) (fun _ => ?_)
      refine g_aloadn M_2_find d_2_find_10 (by first | rfl | assumption) ?_
      refine g_iloadn M_2_find d_2_find_11 (by first | rfl | assumption) ?_
      refine gc_V M_2_find 0 0 [.int (nI p)] [] d_2_find_12 cv_2_40 v0 (by rfl) (by rfl) (Nat.le_of_ble_eq_true (by rfl)) (Nat.le_of_ble_eq_true (by rfl)) (by decide) (by decide) (by decide) (by decide) (C_2_ownerOf D (by omega) ?_)
      show gG _ _ _ _ _ _ _ _ _ _
      refine g_iloadn M_2_find d_2_find_15 (by first | rfl | assumption) ?_
      refine g_icmp_ne M_2_find (tgt := 30) d_2_find_16 (by decide) (fun c => ?_) (fun c => ?_)
      · exact next (decide_eq_false (fun z => c (by rw [z.1]))) lv H0 H1 H2 H3
      have ce := (nI_eq (by omega) (by omega)).mp c
      refine g_aloadn M_2_find d_2_find_19 (by first | rfl | assumption) ?_
      refine g_iloadn M_2_find d_2_find_20 (by first | rfl | assumption) ?_
      refine g_aloadn M_2_find d_2_find_21 (by first | rfl | assumption) ?_
      refine gc_V M_2_find 0 0 [.int (nI p), .ref aw] [] d_2_find_22 cv_2_44 v0 (by rfl) (by rfl) (Nat.le_of_ble_eq_true (by rfl)) (Nat.le_of_ble_eq_true (by rfl)) (by decide) (by decide) (by decide) (by decide) (C_2_bears D (by omega) W ?_)
      show gG _ _ _ _ _ _ _ _ _ _
      cases e : decide ((hx v p).1 = w) with
      | false =>
        refine g_if_eq M_2_find (tgt := 30) d_2_find_25 (by decide) (fun _ => ?_) (fun c9 => absurd rfl c9)
        exact next (decide_eq_false (fun z => (of_decide_eq_false e) z.2)) lv H0 H1 H2 H3
      | true =>
        rw [fst_some (i := p) (by omega) (decide_eq_true ⟨ce, of_decide_eq_true e⟩) hj] at k
        refine g_if_eq M_2_find (tgt := 30) d_2_find_25 (by decide) (fun c9 => absurd c9 (by decide)) (fun _ => ?_)
        refine g_iloadn M_2_find d_2_find_28 (by first | rfl | assumption) ?_
        exact g_iret M_2_find d_2_find_29 rfl rfl k
  exact loop v.length 0 (by omega) (fun j h9 => absurd h9 (Nat.not_lt_zero j)) _ rfl rfl rfl rfl
/-- the coins of a noun -/
def cW (n : Nat) : Hn_ → Nat
  | [] => 0
  | x :: t => (if x.2.1 = n then x.2.2 else 0) + cW n t
theorem cW_app {n : Nat} {a b : Hn_} : cW n (a ++ b) = cW n a + cW n b := by
  induction a with
  | nil => simp [cW]
  | cons x t ih => simp only [List.cons_append, cW, ih]; omega
theorem hn_snoc {v : Hn_} {p : Nat} (h : p < v.length) : v.take (p + 1) = v.take p ++ [hx v p] := by
  unfold hx
  rw [List.take_succ, List.getD_eq_getElem?_getD, List.getElem?_eq_getElem h]
  rfl

set_option maxHeartbeats 4000000 in
set_option maxRecDepth 100000 in
theorem C_2_coinsWith {r : Nat → Nat} {v : Hn_} {h : Hp_} {Q : Ot_ → Hp_ → Prop} {n : Nat} (D : heN h r v) (hn : n < 2 ^ 30) (k : Q (.inl (some (.int (nI (cW n v))))) h) : gG 3 130 0 0 M_2_coinsWith 0 (lv_args 0 [.ref (r 0), .int (nI n)]) [] h Q := by
  obtain ⟨v0, W1, ⟨-, g, g1, g2⟩, ⟨-, g', c1, c2⟩, -, -⟩ := id D.1
  have vl := D.le
  refine g_iconst M_2_coinsWith (v := nI 0) d_2_coinsWith_0 (by decide) ?_
  refine g_istoren M_2_coinsWith d_2_coinsWith_1 (by decide) (by first | rfl | (simp only [gc]; simp [*])) ?_
  refine g_iconst M_2_coinsWith (v := nI 0) d_2_coinsWith_2 (by decide) ?_
  refine g_istoren M_2_coinsWith d_2_coinsWith_3 (by decide) (by first | rfl | (simp only [gc]; simp [*])) ?_
  have loop : ∀ t p, p + t = v.length → ∀ lv : List (Nat × Value), gl lv 0 = some (.ref (r 0)) → gl lv 1 = some (.int (nI n)) → gl lv 2 = some (.int (nI (cW n (v.take p)))) → gl lv 3 = some (.int (nI p)) → gG 3 130 0 0 M_2_coinsWith 4 lv [] h Q := by
    intro t
    induction t with
    | zero =>
      intro p hp lv H0 H1 H2 H3
      rw [List.take_of_length_le (by omega)] at H2
      refine g_iloadn M_2_coinsWith d_2_coinsWith_4 (by first | rfl | assumption) ?_
      refine g_aloadn M_2_coinsWith d_2_coinsWith_5 (by first | rfl | assumption) ?_
      refine gc_V M_2_coinsWith 0 0 [] [.int (nI p)] d_2_coinsWith_6 cv_2_39 v0 (by rfl) (by rfl) (Nat.le_of_ble_eq_true (by rfl)) (Nat.le_of_ble_eq_true (by rfl)) (by decide) (by decide) (by decide) (by decide) (C_2_count D.1 ?_)
      rw [hL_l.1]
      show gG _ _ _ _ _ _ _ _ _ _
      refine g_icmp_ge M_2_coinsWith (tgt := 35) d_2_coinsWith_9 (by decide) (fun _ => ?_) (fun c => absurd (nI_le (by omega) (by omega)) c)
      refine g_iloadn M_2_coinsWith d_2_coinsWith_35 (by first | rfl | assumption) ?_
      exact g_iret M_2_coinsWith d_2_coinsWith_36 rfl rfl k
    | succ t ih =>
      intro p hp lv H0 H1 H2 H3
      have ob := (D.2 _ (hx_mem (show p < v.length by omega))).1
      have et : cW n (v.take (p + 1)) = cW n (v.take p) + if (hx v p).2.1 = n then (hx v p).2.2 else 0 := by
        rw [hn_snoc (by omega), cW_app]
        simp [cW]
      refine g_iloadn M_2_coinsWith d_2_coinsWith_4 (by first | rfl | assumption) ?_
      refine g_aloadn M_2_coinsWith d_2_coinsWith_5 (by first | rfl | assumption) ?_
      refine gc_V M_2_coinsWith 0 0 [] [.int (nI p)] d_2_coinsWith_6 cv_2_39 v0 (by rfl) (by rfl) (Nat.le_of_ble_eq_true (by rfl)) (Nat.le_of_ble_eq_true (by rfl)) (by decide) (by decide) (by decide) (by decide) (C_2_count D.1 ?_)
      rw [hL_l.1]
      show gG _ _ _ _ _ _ _ _ _ _
      refine g_icmp_ge M_2_coinsWith (tgt := 35) d_2_coinsWith_9 (by decide) (fun c => absurd c (nI_ge (by omega) (by omega))) (fun _ => ?_)
      refine g_aloadn M_2_coinsWith d_2_coinsWith_12 (by first | rfl | assumption) ?_
      refine g_iloadn M_2_coinsWith d_2_coinsWith_13 (by first | rfl | assumption) ?_
      refine gc_V M_2_coinsWith 0 0 [.int (nI p)] [] d_2_coinsWith_14 cv_2_40 v0 (by rfl) (by rfl) (Nat.le_of_ble_eq_true (by rfl)) (Nat.le_of_ble_eq_true (by rfl)) (by decide) (by decide) (by decide) (by decide) (C_2_ownerOf D (by omega) ?_)
      show gG _ _ _ _ _ _ _ _ _ _
      refine g_iloadn M_2_coinsWith d_2_coinsWith_17 (by first | rfl | assumption) ?_
      refine g_icmp_ne M_2_coinsWith (tgt := 29) d_2_coinsWith_18 (by decide) (fun c => ?_) (fun c => ?_)
      · rw [if_neg (fun z => c (by rw [z]))] at et
        refine g_iinc M_2_coinsWith (v := nI (p + 1)) d_2_coinsWith_29 H3 (by decide) (by first | rfl | (simp only [gc]; simp [*])) (nI_add p 1) ?_
        refine g_goto M_2_coinsWith (tgt := 4) d_2_coinsWith_32 (by decide) ?_
        exact ih (p + 1) (by omega) _ H0 H1 (by rw [et]; exact H2) rfl
      · rw [if_pos ((nI_eq (by omega) (by omega)).mp c)] at et
        refine g_iloadn M_2_coinsWith d_2_coinsWith_21 (by first | rfl | assumption) ?_
        refine g_aloadn M_2_coinsWith d_2_coinsWith_22 (by first | rfl | assumption) ?_
        refine g_iloadn M_2_coinsWith d_2_coinsWith_23 (by first | rfl | assumption) ?_
        refine gc_V M_2_coinsWith 0 0 [.int (nI p)] [_] d_2_coinsWith_24 cv_2_47 v0 (by rfl) (by rfl) (Nat.le_of_ble_eq_true (by rfl)) (Nat.le_of_ble_eq_true (by rfl)) (by decide) (by decide) (by decide) (by decide) (C_2_coinsIn D (by omega) ?_)
        show gG _ _ _ _ _ _ _ _ _ _
        refine g_iadd M_2_coinsWith d_2_coinsWith_27 ?_
        rw [nI_add]
        refine g_istoren M_2_coinsWith d_2_coinsWith_28 (by decide) (by first | rfl | (simp only [gc]; simp [*])) ?_
        refine g_iinc M_2_coinsWith (v := nI (p + 1)) d_2_coinsWith_29 H3 (by decide) (by first | rfl | (simp only [gc]; simp [*])) (nI_add p 1) ?_
        refine g_goto M_2_coinsWith (tgt := 4) d_2_coinsWith_32 (by decide) ?_
        exact ih (p + 1) (by omega) _ H0 H1 (by rw [et]; rfl) rfl
  exact loop v.length 0 (by omega) _ rfl rfl rfl rfl
