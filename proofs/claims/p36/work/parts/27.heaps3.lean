/-! ===== heaps: those without coins go; the oldest coins are taken ===== -/
theorem gc_i {lv : List (Nat × Value)} {i : Nat} {x : Int32} (h : gl lv i = some (.int x)) : gc lv (i + 1) = true := by
  show (match gl lv i with | some (.long _) => false | some (.double _) => false | _ => true) = true
  rw [h]
theorem er_map {α β : Type} {f : α → β} {l : List α} {i : Nat} : (l.eraseIdx i).map f = (l.map f).eraseIdx i := by
  apply List.ext_getElem?
  intro j
  simp only [List.getElem?_map, List.getElem?_eraseIdx]
  split <;> rfl
theorem hL_er {v : Hn_} {i : Nat} : hL (v.eraseIdx i) = ((hL v).1.eraseIdx i, (hL v).2.1.eraseIdx i, (hL v).2.2.eraseIdx i) := by
  unfold hL
  rw [er_map, er_map, er_map]
theorem hn_drop {v : Hn_} {p : Nat} (h : p < v.length) : v.drop p = hx v p :: v.drop (p + 1) := by
  rw [List.drop_eq_getElem_cons h]
  unfold hx
  rw [List.getD_eq_getElem?_getD, List.getElem?_eq_getElem h]
  rfl
theorem hx_mid {a b : Hn_} {x : List Nat × Nat × Nat} {p : Nat} (h : a.length = p) : hx (a ++ x :: b) p = x := by
  subst h
  unfold hx
  rw [List.getD_eq_getElem?_getD, List.getElem?_append_right (Nat.le_refl _), Nat.sub_self]
  rfl
theorem er_mid {a b : Hn_} {x : List Nat × Nat × Nat} {p : Nat} (h : a.length = p) : (a ++ x :: b).eraseIdx p = a ++ b := by
  subst h
  rw [List.eraseIdx_append_of_length_le (Nat.le_refl _), Nat.sub_self]
  rfl
theorem set_mid {a b : Hn_} {x y : List Nat × Nat × Nat} {p : Nat} (h : a.length = p) : (a ++ x :: b).set p y = a ++ y :: b := by
  subst h
  rw [List.set_append_right _ _ (Nat.le_refl _), Nat.sub_self]
  rfl
def nzH (x : List Nat × Nat × Nat) : Bool := decide (x.2.2 ≠ 0)
def reU (v : Hn_) (p : Nat) : Hn_ := v.take p ++ (v.drop p).filter nzH

set_option maxHeartbeats 4000000 in
set_option maxRecDepth 100000 in
theorem C_2_removeEmpty {r : Nat → Nat} {v : Hn_} {h : Hp_} {Q : Ot_ → Hp_ → Prop} (s : sepR r 6) (D : heN h r v) (k : ∀ h', gExt h h' ((List.range 6).map r) [] → heN h' r (v.filter nzH) → Q (.inl none) h') : gG 3 130 0 0 M_2_removeEmpty 0 (lv_args 0 [.ref (r 0)]) [] h Q := by
  have vl := D.le
  have mr : ∀ k, k < 6 → r k ∈ (List.range 6).map r := fun k hk => List.mem_map.mpr ⟨k, List.mem_range.mpr hk, rfl⟩
  have sub3 : ∀ x ∈ [r 1, r 2, r 3], x ∈ (List.range 6).map r := fun x hx => by simp only [List.mem_cons, List.not_mem_nil, or_false] at hx; rcases hx with rfl | rfl | rfl <;> exact mr _ (by decide)
  have Dv := D.2
  refine g_aloadn M_2_removeEmpty d_2_removeEmpty_0 (by first | rfl | assumption) ?_
  refine gc_V M_2_removeEmpty 0 0 [] [] d_2_removeEmpty_1 cv_2_39 D.1.1 (by rfl) (by rfl) (Nat.le_of_ble_eq_true (by rfl)) (Nat.le_of_ble_eq_true (by rfl)) (by decide) (by decide) (by decide) (by decide) (C_2_count D.1 ?_)
  rw [hL_l.1]
  show gG _ _ _ _ _ _ _ _ _ _
  refine g_iconst M_2_removeEmpty (v := nI 1) d_2_removeEmpty_4 (by decide) ?_
  refine g_isub M_2_removeEmpty d_2_removeEmpty_5 ?_
  refine g_istoren M_2_removeEmpty d_2_removeEmpty_6 (by decide) (by first | rfl | (simp only [gc]; simp [*])) ?_
  have loop : ∀ p, p ≤ v.length → ∀ (h2 : Hp_) (lv : List (Nat × Value)), gExt h h2 ((List.range 6).map r) [] → heN h2 r (reU v p) → gl lv 0 = some (.ref (r 0)) → gl lv 1 = some (.int (nI p - nI 1)) → gG 3 130 0 0 M_2_removeEmpty 7 lv [] h2 Q := by
    intro p
    induction p with
    | zero =>
      intro hp h2 lv e2 D2 H0 H1
      have D3 : heN h2 r (v.filter nzH) := D2
      refine g_iloadn M_2_removeEmpty d_2_removeEmpty_7 (by first | rfl | assumption) ?_
      refine g_if_lt M_2_removeEmpty (tgt := 49) d_2_removeEmpty_8 (by decide) (fun _ => ?_) (fun c => absurd (by decide) c)
      exact g_vret M_2_removeEmpty d_2_removeEmpty_49 rfl (k h2 e2 D3)
    | succ p ih =>
      intro hp h2 lv e2 D2 H0 H1
      have hlen : (v.take p).length = p := by rw [List.length_take]; omega
      have eU : reU v (p + 1) = v.take p ++ hx v p :: (v.drop (p + 1)).filter nzH := by
        unfold reU
        rw [hn_snoc (by omega), List.append_assoc]
        rfl
      have cb := (Dv _ (hx_mem (show p < v.length by omega))).2
      have il : p < (reU v (p + 1)).length := by rw [eU, List.length_append, List.length_cons]; omega
      have ex : hx (reU v (p + 1)) p = hx v p := by rw [eU, hx_mid hlen]
      have ei : nI (p + 1) - nI 1 = nI p := by rw [nI_sub (by omega)]; rfl
      rw [ei] at H1
      have next : ∀ (h3 : Hp_), gExt h h3 ((List.range 6).map r) [] → heN h3 r (reU v p) → ∀ lv : List (Nat × Value), gl lv 0 = some (.ref (r 0)) → gl lv 1 = some (.int (nI p)) → gG 3 130 0 0 M_2_removeEmpty 43 lv [] h3 Q := by
        intro h3 e3 D3 lv H0 H1
        refine g_iinc M_2_removeEmpty (v := nI p - nI 1) d_2_removeEmpty_43 H1 (by decide) (by first | rfl | (simp only [gc]; simp [*])) (by rw [Int32.sub_eq_add_neg]; exact congrArg (nI p + ·) (by decide)) ?_
        refine g_goto M_2_removeEmpty (tgt := 7) d_2_removeEmpty_46 (by decide) ?_
        exact ih (by omega) h3 _ e3 D3 H0 rfl
      obtain ⟨v0, W1, ⟨ol, g, g1, g2⟩, ⟨cl, g', c1, c2⟩, l1, l2⟩ := id D2.1
      refine g_iloadn M_2_removeEmpty d_2_removeEmpty_7 (by first | rfl | assumption) ?_
      refine g_if_lt M_2_removeEmpty (tgt := 49) d_2_removeEmpty_8 (by decide) (fun c => absurd c (nI_pos (by omega))) (fun _ => ?_)
      refine g_aloadn M_2_removeEmpty d_2_removeEmpty_11 (by first | rfl | assumption) ?_
      refine g_iloadn M_2_removeEmpty d_2_removeEmpty_12 (by first | rfl | assumption) ?_
      refine gc_V M_2_removeEmpty 0 0 [.int (nI p)] [] d_2_removeEmpty_13 cv_2_47 v0 (by rfl) (by rfl) (Nat.le_of_ble_eq_true (by rfl)) (Nat.le_of_ble_eq_true (by rfl)) (by decide) (by decide) (by decide) (by decide) (C_2_coinsIn D2 il ?_)
      rw [ex]
      show gG _ _ _ _ _ _ _ _ _ _
      refine g_if_ne M_2_removeEmpty (tgt := 43) d_2_removeEmpty_16 (by decide) (fun c => ?_) (fun c => ?_)
      · have ek : reU v p = reU v (p + 1) := by
          rw [eU]
          unfold reU
          rw [hn_drop (show p < v.length by omega), List.filter_cons, if_pos (show nzH (hx v p) = true from decide_eq_true (fun z => c (by rw [z]; rfl)))]
        exact next h2 e2 (by rw [ek]; exact D2) lv H0 H1
      · have z0 : (hx v p).2.2 = 0 := (nI_eq (by omega) (by decide)).mp c
        have ek : (reU v (p + 1)).eraseIdx p = reU v p := by
          rw [eU, er_mid hlen]
          unfold reU
          rw [hn_drop (show p < v.length by omega), List.filter_cons, if_neg (show ¬ nzH (hx v p) = true by unfold nzH; rw [decide_eq_true_iff]; exact fun z => z z0)]
        have hl9 := @hL_l (reU v (p + 1))
        refine g_aloadn M_2_removeEmpty d_2_removeEmpty_19 (by first | rfl | assumption) ?_
        refine g_get M_2_removeEmpty d_2_removeEmpty_20 fl_2_14 (by assumption) (by rfl) ?_
        refine g_iloadn M_2_removeEmpty d_2_removeEmpty_23 (by first | rfl | assumption) ?_
        refine gc_V M_2_removeEmpty 0 0 [.int (nI p)] [] d_2_removeEmpty_24 cv_2_66 W1.2.2.1 (by rfl) (by rfl) (Nat.le_of_ble_eq_true (by rfl)) (Nat.le_of_ble_eq_true (by rfl)) (by decide) (by decide) (by decide) (by decide) (C_8_remove (by decide) (by decide) (by omega) (s.ne 1 2 (by decide) (by decide) (by decide)) (s.ne 1 3 (by decide) (by decide) (by decide)) (s.ne 2 3 (by decide) (by decide) (by decide)) W1 (fun h3 e3 W3 => ?_))
        have v03 := e3.keep v0 (fun q => by simp only [List.mem_cons, List.not_mem_nil, or_false] at q; rcases q with q | q | q <;> exact absurd q (s.ne _ _ (by decide) (by decide) (by decide)))
        have g13 := e3.keep g1 (fun q => by simp only [List.mem_cons, List.not_mem_nil, or_false] at q; rcases q with q | q | q <;> exact absurd q (s.ne _ _ (by decide) (by decide) (by decide)))
        have c13 := e3.keep c1 (fun q => by simp only [List.mem_cons, List.not_mem_nil, or_false] at q; rcases q with q | q | q <;> exact absurd q (s.ne _ _ (by decide) (by decide) (by decide)))
        show gG _ _ _ _ _ _ _ _ _ _
        refine g_aloadn M_2_removeEmpty d_2_removeEmpty_27 (by first | rfl | assumption) ?_
        refine g_get M_2_removeEmpty d_2_removeEmpty_28 fl_2_20 (by assumption) (by rfl) ?_
        refine g_iloadn M_2_removeEmpty d_2_removeEmpty_31 (by first | rfl | assumption) ?_
        refine gc_N M_2_removeEmpty 0 0 [.ref (r 4), .int (nI p)] [] d_2_removeEmpty_32 cn_2_70 (by rfl) (by rfl) (Nat.le_of_ble_eq_true (by rfl)) (Nat.le_of_ble_eq_true (by rfl)) (by decide) (by decide) (by decide) (by decide) (C_9_closeGap (by decide) (by omega) g13 (fun h4 f4 e4 w4 G4 => ?_))
        have v04 := e4.keep v03 (fun q => by simp only [List.mem_cons, List.not_mem_nil, or_false] at q; rcases q with q <;> exact absurd q (s.ne _ _ (by decide) (by decide) (by decide)))
        have W4 := W3.keep e4 (fun q => by simp only [List.mem_cons, List.not_mem_nil, or_false] at q; rcases q with q <;> exact absurd q (s.ne _ _ (by decide) (by decide) (by decide))) (fun q => by simp only [List.mem_cons, List.not_mem_nil, or_false] at q; rcases q with q <;> exact absurd q (s.ne _ _ (by decide) (by decide) (by decide))) (fun q => by simp only [List.mem_cons, List.not_mem_nil, or_false] at q; rcases q with q <;> exact absurd q (s.ne _ _ (by decide) (by decide) (by decide)))
        have c14 := e4.keep c13 (fun q => by simp only [List.mem_cons, List.not_mem_nil, or_false] at q; rcases q with q <;> exact absurd q (s.ne _ _ (by decide) (by decide) (by decide)))
        have N4 := nm_erase ol (by omega) g2 G4 w4
        show gG _ _ _ _ _ _ _ _ _ _
        refine g_aloadn M_2_removeEmpty d_2_removeEmpty_35 (by first | rfl | assumption) ?_
        refine g_get M_2_removeEmpty d_2_removeEmpty_36 fl_2_24 (by assumption) (by rfl) ?_
        refine g_iloadn M_2_removeEmpty d_2_removeEmpty_39 (by first | rfl | assumption) ?_
        refine gc_N M_2_removeEmpty 0 0 [.ref (r 5), .int (nI p)] [] d_2_removeEmpty_40 cn_2_70 (by rfl) (by rfl) (Nat.le_of_ble_eq_true (by rfl)) (Nat.le_of_ble_eq_true (by rfl)) (by decide) (by decide) (by decide) (by decide) (C_9_closeGap (by decide) (by omega) c14 (fun h5 f5 e5 w5 G5 => ?_))
        have N5 := nm_erase cl (by omega) c2 G5 w5
        show gG _ _ _ _ _ _ _ _ _ _
        have t := ((e2.trans e3 (fun x hx => Or.inl (sub3 x hx))).trans e4 (fun x hx => Or.inl (by rw [List.mem_singleton.mp hx]; exact mr 4 (by decide)))).trans e5 (fun x hx => Or.inl (by rw [List.mem_singleton.mp hx]; exact mr 5 (by decide)))
        refine next h5 (by simpa using t) ⟨?_, fun x hx9 => ?_⟩ _ H0 H1
        · rw [← ek, hL_er]
          exact ⟨e5.keep v04 (fun q => by simp only [List.mem_cons, List.not_mem_nil, or_false] at q; rcases q with q <;> exact absurd q (s.ne _ _ (by decide) (by decide) (by decide))), W4.keep e5 (fun q => by simp only [List.mem_cons, List.not_mem_nil, or_false] at q; rcases q with q <;> exact absurd q (s.ne _ _ (by decide) (by decide) (by decide))) (fun q => by simp only [List.mem_cons, List.not_mem_nil, or_false] at q; rcases q with q <;> exact absurd q (s.ne _ _ (by decide) (by decide) (by decide))) (fun q => by simp only [List.mem_cons, List.not_mem_nil, or_false] at q; rcases q with q <;> exact absurd q (s.ne _ _ (by decide) (by decide) (by decide))), N4.keep e5 (fun q => by simp only [List.mem_cons, List.not_mem_nil, or_false] at q; rcases q with q <;> exact absurd q (s.ne _ _ (by decide) (by decide) (by decide))), N5, by simp only [List.length_eraseIdx]; rw [l1], by simp only [List.length_eraseIdx]; rw [l2]⟩
        · rw [← ek] at hx9
          exact D2.2 x (List.mem_of_mem_eraseIdx hx9)
  exact loop v.length (Nat.le_refl _) h _ (gExt.refl.weak (by simp)) (by unfold reU; rw [List.take_length, List.drop_length]; simpa using D) rfl rfl
/-- the oldest coins of a noun are taken -/
def tkO (n : Nat) : Nat → Hn_ → Hn_
  | _, [] => []
  | m, x :: t => if x.2.1 = n then (x.1, x.2.1, x.2.2 - min m x.2.2) :: tkO n (m - min m x.2.2) t else x :: tkO n m t
def lfO (n : Nat) : Nat → Hn_ → Nat
  | m, [] => m
  | m, x :: t => if x.2.1 = n then lfO n (m - min m x.2.2) t else lfO n m t
theorem tkO_app {n : Nat} {a b : Hn_} : ∀ m, tkO n m (a ++ b) = tkO n m a ++ tkO n (lfO n m a) b := by
  induction a with
  | nil => intro m; rfl
  | cons x t ih =>
    intro m
    simp only [List.cons_append, tkO, lfO]
    split <;> rw [ih] <;> rfl
theorem lfO_app {n : Nat} {a b : Hn_} : ∀ m, lfO n m (a ++ b) = lfO n (lfO n m a) b := by
  induction a with
  | nil => intro m; rfl
  | cons x t ih =>
    intro m
    simp only [List.cons_append, lfO]
    split <;> rw [ih]
theorem tkO_len {n : Nat} {a : Hn_} : ∀ m, (tkO n m a).length = a.length := by
  induction a with
  | nil => intro m; rfl
  | cons x t ih =>
    intro m
    simp only [tkO]
    split <;> simp [ih]
theorem lfO_le {n : Nat} {a : Hn_} : ∀ m, lfO n m a ≤ m := by
  induction a with
  | nil => intro m; exact Nat.le_refl _
  | cons x t ih =>
    intro m
    simp only [lfO]
    split
    · exact Nat.le_trans (ih _) (Nat.sub_le _ _)
    · exact ih _

set_option maxHeartbeats 4000000 in
set_option maxRecDepth 100000 in
theorem C_2_takeOldest {r : Nat → Nat} {v : Hn_} {h : Hp_} {Q : Ot_ → Hp_ → Prop} {n c : Nat} (s : sepR r 6) (D : heN h r v) (hn : n < 2 ^ 30) (hc : c < 2 ^ 30) (k : ∀ h', gExt h h' ((List.range 6).map r) [] → heN h' r ((tkO n c v).filter nzH) → Q (.inl none) h') : gG 4 170 0 0 M_2_takeOldest 0 (lv_args 0 [.ref (r 0), .int (nI n), .int (nI c)]) [] h Q := by
  have vl := D.le
  have Dv := D.2
  have mr : ∀ k, k < 6 → r k ∈ (List.range 6).map r := fun k hk => List.mem_map.mpr ⟨k, List.mem_range.mpr hk, rfl⟩
  refine g_iloadn M_2_takeOldest d_2_takeOldest_0 (by first | rfl | assumption) ?_
  refine g_istoren M_2_takeOldest d_2_takeOldest_1 (by decide) (by first | rfl | (simp only [gc]; simp [*])) ?_
  refine g_iconst M_2_takeOldest (v := nI 0) d_2_takeOldest_2 (by decide) ?_
  refine g_istore M_2_takeOldest d_2_takeOldest_3 (by decide) (by first | rfl | (simp only [gc]; simp [*])) ?_
  have loop : ∀ t p, p + t = v.length → ∀ (h2 : Hp_) (lv : List (Nat × Value)), gExt h h2 ((List.range 6).map r) [] → heN h2 r (tkO n c (v.take p) ++ v.drop p) → gl lv 0 = some (.ref (r 0)) → gl lv 1 = some (.int (nI n)) → gl lv 2 = some (.int (nI c)) → gl lv 3 = some (.int (nI (lfO n c (v.take p)))) → gl lv 4 = some (.int (nI p)) → gG 4 170 0 0 M_2_takeOldest 5 lv [] h2 Q := by
    intro t
    induction t with
    | zero =>
      intro p hp h2 lv e2 D2 H0 H1 H2 H3 H4
      have l9 : (tkO n c (v.take p) ++ v.drop p).length = v.length := by rw [List.length_append, tkO_len, List.length_take, List.length_drop]; omega
      have D3 : heN h2 r (tkO n c v) := by rw [List.take_of_length_le (by omega), List.drop_eq_nil_of_le (by omega), List.append_nil] at D2; exact D2
      refine g_iload M_2_takeOldest d_2_takeOldest_5 (by first | rfl | assumption) ?_
      refine g_aloadn M_2_takeOldest d_2_takeOldest_7 (by first | rfl | assumption) ?_
      refine gc_V M_2_takeOldest 0 0 [] [.int (nI p)] d_2_takeOldest_8 cv_2_39 D2.1.1 (by rfl) (by rfl) (Nat.le_of_ble_eq_true (by rfl)) (Nat.le_of_ble_eq_true (by rfl)) (by decide) (by decide) (by decide) (by decide) (C_2_count D2.1 ?_)
      rw [hL_l.1, l9]
      show gG _ _ _ _ _ _ _ _ _ _
      refine g_icmp_ge M_2_takeOldest (tgt := 56) d_2_takeOldest_11 (by decide) (fun _ => ?_) (fun c9 => absurd (nI_le (by omega) (by omega)) c9)
      refine g_aloadn M_2_takeOldest d_2_takeOldest_56 (by first | rfl | assumption) ?_
      refine gc_V M_2_takeOldest 0 0 [] [] d_2_takeOldest_57 cv_2_63 D3.1.1 (by rfl) (by rfl) (Nat.le_of_ble_eq_true (by rfl)) (Nat.le_of_ble_eq_true (by rfl)) (by decide) (by decide) (by decide) (by decide) (C_2_removeEmpty s D3 (fun h3 e3 D4 => ?_))
      show gG _ _ _ _ _ _ _ _ _ _
      exact g_vret M_2_takeOldest d_2_takeOldest_60 rfl (k h3 (by simpa using e2.trans e3 (fun x hx => Or.inl hx)) D4)
    | succ t ih =>
      intro p hp h2 lv e2 D2 H0 H1 H2 H3 H4
      have l9 : (tkO n c (v.take p) ++ v.drop p).length = v.length := by rw [List.length_append, tkO_len, List.length_take, List.length_drop]; omega
      have hlen : (tkO n c (v.take p)).length = p := by rw [tkO_len, List.length_take]; omega
      have ex : hx (tkO n c (v.take p) ++ v.drop p) p = hx v p := by rw [hn_drop (by omega), hx_mid hlen]
      have xb := Dv _ (hx_mem (show p < v.length by omega))
      have lb := lfO_le (n := n) (a := v.take p) c
      refine g_iload M_2_takeOldest d_2_takeOldest_5 (by first | rfl | assumption) ?_
      refine g_aloadn M_2_takeOldest d_2_takeOldest_7 (by first | rfl | assumption) ?_
      refine gc_V M_2_takeOldest 0 0 [] [.int (nI p)] d_2_takeOldest_8 cv_2_39 D2.1.1 (by rfl) (by rfl) (Nat.le_of_ble_eq_true (by rfl)) (Nat.le_of_ble_eq_true (by rfl)) (by decide) (by decide) (by decide) (by decide) (C_2_count D2.1 ?_)
      rw [hL_l.1, l9]
      show gG _ _ _ _ _ _ _ _ _ _
      refine g_icmp_ge M_2_takeOldest (tgt := 56) d_2_takeOldest_11 (by decide) (fun c9 => absurd c9 (nI_ge (by omega) (by omega))) (fun _ => ?_)
      refine g_aloadn M_2_takeOldest d_2_takeOldest_14 (by first | rfl | assumption) ?_
      refine g_iload M_2_takeOldest d_2_takeOldest_15 (by first | rfl | assumption) ?_
      refine gc_V M_2_takeOldest 0 0 [.int (nI p)] [] d_2_takeOldest_17 cv_2_40 D2.1.1 (by rfl) (by rfl) (Nat.le_of_ble_eq_true (by rfl)) (Nat.le_of_ble_eq_true (by rfl)) (by decide) (by decide) (by decide) (by decide) (C_2_ownerOf D2 (by omega) ?_)
      rw [ex]
      show gG _ _ _ _ _ _ _ _ _ _
      refine g_iloadn M_2_takeOldest d_2_takeOldest_20 (by first | rfl | assumption) ?_
      refine g_icmp_ne M_2_takeOldest (tgt := 50) d_2_takeOldest_21 (by decide) (fun c9 => ?_) (fun c9 => ?_)
      · have no : ¬ (hx v p).2.1 = n := fun z => c9 (by rw [z])
        have e5 : tkO n c (v.take (p + 1)) ++ v.drop (p + 1) = tkO n c (v.take p) ++ v.drop p := by
          rw [hn_snoc (by omega), tkO_app, hn_drop (show p < v.length by omega), List.append_assoc]
          simp only [tkO]
          rw [if_neg no]
          rfl
        have e6 : lfO n c (v.take (p + 1)) = lfO n c (v.take p) := by
          rw [hn_snoc (by omega), lfO_app]
          simp only [lfO]
          rw [if_neg no]
        refine g_iinc M_2_takeOldest (v := nI (p + 1)) d_2_takeOldest_50 H4 (by decide) (by first | rfl | (simp only [gc]; simp [*])) (nI_add p 1) ?_
        refine g_goto M_2_takeOldest (tgt := 5) d_2_takeOldest_53 (by decide) ?_
        exact ih (p + 1) (by omega) h2 _ e2 (by rw [e5]; exact D2) H0 H1 H2 (by rw [e6]; exact H3) rfl
      have yes : (hx v p).2.1 = n := (nI_eq (by omega) (by omega)).mp c9
      generalize hlf : lfO n c (v.take p) = lf at *
      have e5 : tkO n c (v.take (p + 1)) ++ v.drop (p + 1) = hset (tkO n c (v.take p) ++ v.drop p) p ((hx v p).2.2 - min lf (hx v p).2.2) := by
        unfold hset
        rw [ex]
        rw [hn_snoc (by omega), tkO_app, hlf, hn_drop (show p < v.length by omega), set_mid hlen, List.append_assoc]
        simp only [tkO]
        rw [if_pos yes]
        rfl
      have e6 : lfO n c (v.take (p + 1)) = lf - min lf (hx v p).2.2 := by
        rw [hn_snoc (by omega), lfO_app, hlf]
        simp only [lfO]
        rw [if_pos yes]
      refine g_iloadn M_2_takeOldest d_2_takeOldest_24 (by first | rfl | assumption) ?_
      refine g_aloadn M_2_takeOldest d_2_takeOldest_25 (by first | rfl | assumption) ?_
      refine g_iload M_2_takeOldest d_2_takeOldest_26 (by first | rfl | assumption) ?_
      refine gc_V M_2_takeOldest 0 0 [.int (nI p)] [_] d_2_takeOldest_28 cv_2_47 D2.1.1 (by rfl) (by rfl) (Nat.le_of_ble_eq_true (by rfl)) (Nat.le_of_ble_eq_true (by rfl)) (by decide) (by decide) (by decide) (by decide) (C_2_coinsIn D2 (by omega) ?_)
      rw [ex]
      show gG _ _ _ _ _ _ _ _ _ _
      refine g_min M_2_takeOldest d_2_takeOldest_31 mm_2_54 mm_min_s mm_i mm_min_c (Nat.le_of_ble_eq_true (by rfl)) (Nat.le_of_ble_eq_true (by rfl)) ?_
      have em : (if nI (hx v p).2.2 < nI lf then nI (hx v p).2.2 else nI lf) = nI (min lf (hx v p).2.2) := by
        by_cases q : (hx v p).2.2 < lf
        · rw [if_pos (nI_lt q (by omega)), Nat.min_eq_right (by omega)]
        · rw [if_neg (nI_nlt (by omega) (by omega)), Nat.min_eq_left (by omega)]
      rw [em]
      refine g_istore M_2_takeOldest d_2_takeOldest_34 (by decide) (by first | rfl | (simp only [gc]; simp [*])) ?_
      refine g_aloadn M_2_takeOldest d_2_takeOldest_36 (by first | rfl | assumption) ?_
      refine g_iload M_2_takeOldest d_2_takeOldest_37 (by first | rfl | assumption) ?_
      refine g_iload M_2_takeOldest d_2_takeOldest_39 (by first | rfl | assumption) ?_
      refine g_ineg M_2_takeOldest d_2_takeOldest_41 ?_
      refine gc_V M_2_takeOldest 0 0 [.int (nI p), .int (-nI (min lf (hx v p).2.2))] [] d_2_takeOldest_42 cv_2_60 D2.1.1 (by rfl) (by rfl) (Nat.le_of_ble_eq_true (by rfl)) (Nat.le_of_ble_eq_true (by rfl)) (by decide) (by decide) (by decide) (by decide) (C_2_enlarge (c := (hx v p).2.2 - min lf (hx v p).2.2) s D2 (by omega) (by omega) (by rw [ex, ← Int32.sub_eq_add_neg, nI_sub (Nat.min_le_right _ _)]) (fun h3 e3 D3 => ?_))
      show gG _ _ _ _ _ _ _ _ _ _
      refine g_iloadn M_2_takeOldest d_2_takeOldest_45 (by first | rfl | assumption) ?_
      refine g_iload M_2_takeOldest d_2_takeOldest_46 (by first | rfl | assumption) ?_
      refine g_isub M_2_takeOldest d_2_takeOldest_48 ?_
      rw [nI_sub (Nat.min_le_left _ _)]
      refine g_istoren M_2_takeOldest d_2_takeOldest_49 (by decide) (gc_i (i := 2) (x := nI c) H2) ?_
      refine g_iinc M_2_takeOldest (v := nI (p + 1)) d_2_takeOldest_50 H4 (by decide) (by first | rfl | (simp only [gc]; simp [*])) (nI_add p 1) ?_
      refine g_goto M_2_takeOldest (tgt := 5) d_2_takeOldest_53 (by decide) ?_
      exact ih (p + 1) (by omega) h3 _ (by simpa using e2.trans e3 (fun x hx => Or.inl (by rw [List.mem_singleton.mp hx]; exact mr 5 (by decide)))) (by rw [e5]; exact D3) H0 H1 H2 (by rw [e6]; rfl) rfl
  exact loop v.length 0 (by omega) h _ (gExt.refl.weak (by simp)) (by simpa [tkO] using D) rfl rfl rfl rfl rfl
