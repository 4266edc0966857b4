/-! ===== the reference as made: its calls ===== -/
def mE (q : Nat → Nat) (t at' kd rl ik tl : Int32) : List Value := [.ref (q 1), .ref (q 2), .ref (q 3), .int rl, .ref (q 4), .int ik, .int t, .ref (q 5), .ref (q 6), .int tl, .int at', .int kd, .int (nI 0), .ref (q 7), .ref (q 8), .int (nI 0), .int (nI 0), .ref (q 9), .ref (q 10), .int (nI 0)]
theorem mOut.of {q : Nat → Nat} {h h' : Hp_} {t : Int32} {S A : List Nat} (z : ∃ fs, h' (q 0) = some (.inr (10, fs)) ∧ fs[6]? = some (.int t)) (e : gExt h h' S A) (hS : ∀ x ∈ S, ∃ j, j < 11 ∧ x = q j) : mOut q h h' t := ⟨z, fun y v hv n => e.keep hv (fun m => by
  obtain ⟨j, h1, h2⟩ := hS y m
  exact n j h1 h2)⟩
theorem mOut.of1 {q : Nat → Nat} {h h' : Hp_} {t : Int32} {A : List Nat} (z : ∃ fs, h' (q 0) = some (.inr (10, fs)) ∧ fs[6]? = some (.int t)) (e : gExt h h' [q 0] A) : mOut q h h' t := mOut.of z e (fun x hx => ⟨0, by decide, List.mem_singleton.mp hx⟩)
theorem q2S {q : Nat → Nat} {i j : Nat} (hi : i < 11) (hj : j < 11) : ∀ x ∈ [q i, q j], ∃ k, k < 11 ∧ x = q k := by
  intro x hx
  simp only [List.mem_cons, List.not_mem_nil, or_false] at hx
  rcases hx with z | z
  · exact ⟨i, hi, z⟩
  · exact ⟨j, hj, z⟩
theorem q3S {q : Nat → Nat} {i j l : Nat} (hi : i < 11) (hj : j < 11) (hl : l < 11) : ∀ x ∈ [q i, q j, q l], ∃ k, k < 11 ∧ x = q k := by
  intro x hx
  simp only [List.mem_cons, List.not_mem_nil, or_false] at hx
  rcases hx with z | z | z
  · exact ⟨i, hi, z⟩
  · exact ⟨j, hj, z⟩
  · exact ⟨l, hl, z⟩
theorem i64_0 {x : Int32} {lo hi : Int64} (hl : lo = 0) (hh : hi = 0) (a : lo ≤ x.toInt64) (b : x.toInt64 ≤ hi) : x = 0 := by
  subst hl hh
  rw [Int64.le_iff_toInt_le] at a b
  have e0 : (0 : Int64).toInt = 0 := by decide
  have e1 : (0 : Int32).toInt = 0 := by decide
  rw [Int32.toInt_toInt64] at a b
  apply Int32.toInt_inj.mp
  omega

set_option maxHeartbeats 4000000 in
set_option maxRecDepth 100000 in
theorem C_10_in {v lo hi : Int64} {h : Hp_} {Q : Ot_ → Hp_ → Prop} (kt : lo ≤ v → v ≤ hi → Q (.inl (some (.int 1))) h) (kf : ¬ (lo ≤ v ∧ v ≤ hi) → Q (.inl (some (.int 0))) h) : gG 1 60 0 0 M_10_in 0 (lv_args 0 [.long v, .long lo, .long hi]) [] h Q := by
  have out : ¬ (lo ≤ v ∧ v ≤ hi) → gG 1 60 0 0 M_10_in 17 (lv_args 0 [.long v, .long lo, .long hi]) [] h Q := by
    intro n
    refine g_iconst M_10_in (v := nI 0) d_10_in_17 (by decide) ?_
    exact g_iret M_10_in d_10_in_18 rfl (by decide) (kf n)
  refine g_lloadn M_10_in d_10_in_0 (by first | rfl | assumption) ?_
  refine g_lloadn M_10_in d_10_in_1 (by first | rfl | assumption) ?_
  refine g_lcmp M_10_in d_10_in_2 ?_
  refine g_if_lt M_10_in (tgt := 17) d_10_in_3 (by decide) (fun c => out (fun z => ?_)) (fun c => ?_)
  · exact absurd z.1 (Int64.not_le.mpr ((lg_cmp_lt _ _).mp c))
  refine g_lloadn M_10_in d_10_in_6 (by first | rfl | assumption) ?_
  refine g_lload M_10_in d_10_in_7 (by first | rfl | assumption) ?_
  refine g_lcmp M_10_in d_10_in_9 ?_
  refine g_if_gt M_10_in (tgt := 17) d_10_in_10 (by decide) (fun d => out (fun z => ?_)) (fun d => ?_)
  · exact absurd z.2 (Int64.not_le.mpr ((lg_cmp_gt _ _).mp d))
  refine g_iconst M_10_in (v := nI 1) d_10_in_13 (by decide) ?_
  refine g_goto M_10_in (tgt := 18) d_10_in_14 (by decide) ?_
  exact g_iret M_10_in d_10_in_18 rfl (by decide) (kt (Int64.not_lt.mp (fun z => c ((lg_cmp_lt _ _).mpr z))) (Int64.not_lt.mp (fun z => d ((lg_cmp_gt _ _).mpr z))))
set_option maxHeartbeats 4000000 in
set_option maxRecDepth 100000 in
theorem C_10_isNoun0 {a p : Nat} {fs : List Value} {f : Nat → Int32} {x : Int32} {h : Hp_} {Q : Ot_ → Hp_ → Prop} (h0 : h a = some (.inr (10, fs))) (hf : fs[0]? = some (.ref p)) (h1 : h p = some (.inl (false, .int, (1676, .inl f)))) (hz : f 2 = 0) (k : Q (.inl (some (.int 0))) h) : gG 2 100 0 0 M_10_isNoun 0 (lv_args 0 [.ref a, .int x]) [] h Q := by
  have hz2 : f (nI 2).toNatClampNeg = 0 := by rw [nI_cl (by decide)]; exact hz
  refine g_iloadn M_10_isNoun d_10_isNoun_0 (by first | rfl | assumption) ?_
  refine g_i2l M_10_isNoun d_10_isNoun_1 ?_
  refine g_lconst M_10_isNoun d_10_isNoun_2 ?_
  refine g_aloadn M_10_isNoun d_10_isNoun_3 (by first | rfl | assumption) ?_
  refine g_get M_10_isNoun d_10_isNoun_4 fl_10_7 h0 hf ?_
  refine g_iconst M_10_isNoun (v := nI 2) d_10_isNoun_7 (by decide) ?_
  refine g_iaload M_10_isNoun d_10_isNoun_8 h1 (vp_in_nI (by decide) (by decide)) ?_
  rw [hz2]
  refine g_i2l M_10_isNoun d_10_isNoun_9 ?_
  refine g_lconst M_10_isNoun d_10_isNoun_10 ?_
  refine g_lsub M_10_isNoun d_10_isNoun_11 ?_
  refine gc_S M_10_isNoun 0 0 [.long _, .long _, .long _] [] d_10_isNoun_12 cs_10_47 rfl (by rfl) (by rfl) (Nat.le_of_ble_eq_true (by rfl)) (Nat.le_of_ble_eq_true (by rfl)) (by decide) (by decide) (by decide) (by decide) (C_10_in (fun a b => absurd (Int64.le_trans a b) (by decide)) (fun _ => ?_))
  show gG _ _ _ _ _ _ _ _ _ _
  exact g_iret M_10_isNoun d_10_isNoun_15 rfl (by decide) k
set_option maxHeartbeats 4000000 in
set_option maxRecDepth 100000 in
theorem C_10_isDie1 {a p : Nat} {fs : List Value} {f : Nat → Int32} {x : Int32} {h : Hp_} {Q : Ot_ → Hp_ → Prop} (h0 : h a = some (.inr (10, fs))) (hf : fs[0]? = some (.ref p)) (h1 : h p = some (.inl (false, .int, (1676, .inl f)))) (hz : f 0 = 1) (kt : x = 0 → Q (.inl (some (.int 1))) h) (kf : x ≠ 0 → Q (.inl (some (.int 0))) h) : gG 2 100 0 0 M_10_isDie 0 (lv_args 0 [.ref a, .int x]) [] h Q := by
  have hz2 : f (nI 0).toNatClampNeg = 1 := by rw [nI_cl (by decide)]; exact hz
  refine g_iloadn M_10_isDie d_10_isDie_0 (by first | rfl | assumption) ?_
  refine g_i2l M_10_isDie d_10_isDie_1 ?_
  refine g_lconst M_10_isDie d_10_isDie_2 ?_
  refine g_aloadn M_10_isDie d_10_isDie_3 (by first | rfl | assumption) ?_
  refine g_get M_10_isDie d_10_isDie_4 fl_10_7 h0 hf ?_
  refine g_iconst M_10_isDie (v := nI 0) d_10_isDie_7 (by decide) ?_
  refine g_iaload M_10_isDie d_10_isDie_8 h1 (vp_in_nI (by decide) (by decide)) ?_
  rw [hz2]
  refine g_i2l M_10_isDie d_10_isDie_9 ?_
  refine g_lconst M_10_isDie d_10_isDie_10 ?_
  refine g_lsub M_10_isDie d_10_isDie_11 ?_
  refine gc_S M_10_isDie 0 0 [.long _, .long _, .long _] [] d_10_isDie_12 cs_10_47 rfl (by rfl) (by rfl) (Nat.le_of_ble_eq_true (by rfl)) (Nat.le_of_ble_eq_true (by rfl)) (by decide) (by decide) (by decide) (by decide) (C_10_in (fun a b => ?_) (fun z => ?_))
  · exact g_iret M_10_isDie d_10_isDie_15 rfl (by decide) (kt (i64_0 (by decide) (by decide) a b))
  · exact g_iret M_10_isDie d_10_isDie_15 rfl (by decide) (kf (fun e => by subst e; exact z (by decide)))
set_option maxHeartbeats 4000000 in
set_option maxRecDepth 100000 in
theorem C_10_fails {a : Nat} {fs : List Value} {t : Int32} {h : Hp_} {Q : Ot_ → Hp_ → Prop} (h0 : h a = some (.inr (10, fs))) (hl : 7 ≤ fs.length) (k : ∀ h', (∃ fs, h' a = some (.inr (10, fs)) ∧ fs[6]? = some (.int t)) → gExt h h' [a] [] → Q (.inl (some (.int 0))) h') : gG 1 60 0 0 M_10_fails 0 (lv_args 0 [.ref a, .int t]) [] h Q := by
  refine g_aloadn M_10_fails d_10_fails_0 (by first | rfl | assumption) ?_
  refine g_iloadn M_10_fails d_10_fails_1 (by first | rfl | assumption) ?_
  refine e_put M_10_fails d_10_fails_2 pt_10_40 h0 (by rfl) (by rfl) (fun h1 v1 e1 => ?_)
  refine g_iconst M_10_fails (v := nI 0) d_10_fails_5 (by decide) ?_
  exact g_iret M_10_fails d_10_fails_6 rfl rfl (k h1 ⟨_, v1, List.getElem?_set_self hl⟩ e1)
set_option maxHeartbeats 4000000 in
set_option maxRecDepth 100000 in
theorem C_10_told {a : Nat} {fs : List Value} {v : Int32} {h : Hp_} {Q : Ot_ → Hp_ → Prop} (h0 : h a = some (.inr (10, fs))) (hl : 7 ≤ fs.length) (k : ∀ h', (∃ fs, h' a = some (.inr (10, fs)) ∧ fs[6]? = some (.int (nI 0))) → gExt h h' [a] [] → Q (.inl (some (.int v))) h') : gG 1 60 0 0 M_10_told 0 (lv_args 0 [.ref a, .int v]) [] h Q := by
  refine g_aloadn M_10_told d_10_told_0 (by first | rfl | assumption) ?_
  refine g_iconst M_10_told (v := nI 0) d_10_told_1 (by decide) ?_
  refine e_put M_10_told d_10_told_2 pt_10_40 h0 (by rfl) (by rfl) (fun h1 v1 e1 => ?_)
  refine g_iloadn M_10_told d_10_told_5 (by first | rfl | assumption) ?_
  exact g_iret M_10_told d_10_told_6 rfl rfl (k h1 ⟨_, v1, List.getElem?_set_self hl⟩ e1)
set_option maxHeartbeats 4000000 in
set_option maxRecDepth 100000 in
theorem C_10_thrown {a : Nat} {fs : List Value} {t : Int32} {h : Hp_} {Q : Ot_ → Hp_ → Prop} (h0 : h a = some (.inr (10, fs))) (hf : fs[6]? = some (.int t)) (k : Q (.inl (some (.int t))) h) : gG 1 60 0 0 M_10_thrown 0 (lv_args 0 [.ref a]) [] h Q := by
  refine g_aloadn M_10_thrown d_10_thrown_0 (by first | rfl | assumption) ?_
  refine g_get M_10_thrown d_10_thrown_1 fl_10_40 h0 hf ?_
  exact g_iret M_10_thrown d_10_thrown_4 rfl rfl k
set_option maxHeartbeats 4000000 in
set_option maxRecDepth 100000 in
theorem Y_strike {q : Nat → Nat} {h : Hp_} {Q : Ot_ → Hp_ → Prop} {x y : Int32} (H : mdR h q) (k : ∀ h', mOut q h h' (nI 1) → Q (.inl (some (.int 0))) h') : gG 4 200 0 0 M_10_strike 0 (lv_args 0 [.ref (q 0), .int x, .int y]) [] h Q := by
  obtain ⟨s, a0, a1, ⟨f3, a3⟩, ⟨f4, a4⟩, ⟨f6, a6⟩, f7, a7⟩ := id H
  refine g_aloadn M_10_strike d_10_strike_0 (by first | rfl | assumption) ?_
  refine g_iloadn M_10_strike d_10_strike_1 (by first | rfl | assumption) ?_
  refine gc_V M_10_strike 0 0 [.int x] [] d_10_strike_2 cv_10_92 a0 (by rfl) (by rfl) (Nat.le_of_ble_eq_true (by rfl)) (Nat.le_of_ble_eq_true (by rfl)) (by decide) (by decide) (by decide) (by decide) (C_10_isNoun0 a0 (by rfl) a1 (by decide) ?_)
  show gG _ _ _ _ _ _ _ _ _ _
  refine g_if_ne M_10_strike (tgt := 14) d_10_strike_5 (by decide) (fun c => absurd rfl c) (fun _ => ?_)
  refine g_aloadn M_10_strike d_10_strike_8 (by first | rfl | assumption) ?_
  refine g_iconst M_10_strike (v := nI 1) d_10_strike_9 (by decide) ?_
  refine gc_V M_10_strike 0 0 [.int (nI 1)] [] d_10_strike_10 cv_10_95 a0 (by rfl) (by rfl) (Nat.le_of_ble_eq_true (by rfl)) (Nat.le_of_ble_eq_true (by rfl)) (by decide) (by decide) (by decide) (by decide) (C_10_fails a0 (Nat.le_of_ble_eq_true (by rfl)) (fun h9 z9 e9 => ?_))
  show gG _ _ _ _ _ _ _ _ _ _
  exact g_iret M_10_strike d_10_strike_13 rfl (by first | rfl | decide) (k h9 (mOut.of1 z9 e9))
set_option maxHeartbeats 4000000 in
set_option maxRecDepth 100000 in
theorem Y_melt {q : Nat → Nat} {h : Hp_} {Q : Ot_ → Hp_ → Prop} {x y : Int32} (H : mdR h q) (k : ∀ h', mOut q h h' (nI 1) → Q (.inl (some (.int 0))) h') : gG 4 200 0 0 M_10_melt 0 (lv_args 0 [.ref (q 0), .int x, .int y]) [] h Q := by
  obtain ⟨s, a0, a1, ⟨f3, a3⟩, ⟨f4, a4⟩, ⟨f6, a6⟩, f7, a7⟩ := id H
  refine g_aloadn M_10_melt d_10_melt_0 (by first | rfl | assumption) ?_
  refine g_iloadn M_10_melt d_10_melt_1 (by first | rfl | assumption) ?_
  refine gc_V M_10_melt 0 0 [.int x] [] d_10_melt_2 cv_10_92 a0 (by rfl) (by rfl) (Nat.le_of_ble_eq_true (by rfl)) (Nat.le_of_ble_eq_true (by rfl)) (by decide) (by decide) (by decide) (by decide) (C_10_isNoun0 a0 (by rfl) a1 (by decide) ?_)
  show gG _ _ _ _ _ _ _ _ _ _
  refine g_if_ne M_10_melt (tgt := 14) d_10_melt_5 (by decide) (fun c => absurd rfl c) (fun _ => ?_)
  refine g_aloadn M_10_melt d_10_melt_8 (by first | rfl | assumption) ?_
  refine g_iconst M_10_melt (v := nI 1) d_10_melt_9 (by decide) ?_
  refine gc_V M_10_melt 0 0 [.int (nI 1)] [] d_10_melt_10 cv_10_95 a0 (by rfl) (by rfl) (Nat.le_of_ble_eq_true (by rfl)) (Nat.le_of_ble_eq_true (by rfl)) (by decide) (by decide) (by decide) (by decide) (C_10_fails a0 (Nat.le_of_ble_eq_true (by rfl)) (fun h9 z9 e9 => ?_))
  show gG _ _ _ _ _ _ _ _ _ _
  exact g_iret M_10_melt d_10_melt_13 rfl (by first | rfl | decide) (k h9 (mOut.of1 z9 e9))
set_option maxHeartbeats 4000000 in
set_option maxRecDepth 100000 in
theorem Y_pluralLetters {q : Nat → Nat} {h : Hp_} {Q : Ot_ → Hp_ → Prop} {x : Int32} (H : mdR h q) (k : ∀ h', mOut q h h' (nI 1) → Q (.inl (some (.int 0))) h') : gG 4 200 0 0 M_10_pluralLetters 0 (lv_args 0 [.ref (q 0), .int x]) [] h Q := by
  obtain ⟨s, a0, a1, ⟨f3, a3⟩, ⟨f4, a4⟩, ⟨f6, a6⟩, f7, a7⟩ := id H
  refine g_aloadn M_10_pluralLetters d_10_pluralLetters_0 (by first | rfl | assumption) ?_
  refine g_iloadn M_10_pluralLetters d_10_pluralLetters_1 (by first | rfl | assumption) ?_
  refine gc_V M_10_pluralLetters 0 0 [.int x] [] d_10_pluralLetters_2 cv_10_92 a0 (by rfl) (by rfl) (Nat.le_of_ble_eq_true (by rfl)) (Nat.le_of_ble_eq_true (by rfl)) (by decide) (by decide) (by decide) (by decide) (C_10_isNoun0 a0 (by rfl) a1 (by decide) ?_)
  show gG _ _ _ _ _ _ _ _ _ _
  refine g_if_ne M_10_pluralLetters (tgt := 14) d_10_pluralLetters_5 (by decide) (fun c => absurd rfl c) (fun _ => ?_)
  refine g_aloadn M_10_pluralLetters d_10_pluralLetters_8 (by first | rfl | assumption) ?_
  refine g_iconst M_10_pluralLetters (v := nI 1) d_10_pluralLetters_9 (by decide) ?_
  refine gc_V M_10_pluralLetters 0 0 [.int (nI 1)] [] d_10_pluralLetters_10 cv_10_95 a0 (by rfl) (by rfl) (Nat.le_of_ble_eq_true (by rfl)) (Nat.le_of_ble_eq_true (by rfl)) (by decide) (by decide) (by decide) (by decide) (C_10_fails a0 (Nat.le_of_ble_eq_true (by rfl)) (fun h9 z9 e9 => ?_))
  show gG _ _ _ _ _ _ _ _ _ _
  exact g_iret M_10_pluralLetters d_10_pluralLetters_13 rfl (by first | rfl | decide) (k h9 (mOut.of1 z9 e9))
set_option maxHeartbeats 4000000 in
set_option maxRecDepth 100000 in
theorem Y_dieFor {q : Nat → Nat} {h : Hp_} {Q : Ot_ → Hp_ → Prop} {x : Int32} (H : mdR h q) (k : ∀ h', mOut q h h' (nI 1) → Q (.inl (some (.int 0))) h') : gG 4 200 0 0 M_10_dieFor 0 (lv_args 0 [.ref (q 0), .int x]) [] h Q := by
  obtain ⟨s, a0, a1, ⟨f3, a3⟩, ⟨f4, a4⟩, ⟨f6, a6⟩, f7, a7⟩ := id H
  refine g_aloadn M_10_dieFor d_10_dieFor_0 (by first | rfl | assumption) ?_
  refine g_iloadn M_10_dieFor d_10_dieFor_1 (by first | rfl | assumption) ?_
  refine gc_V M_10_dieFor 0 0 [.int x] [] d_10_dieFor_2 cv_10_92 a0 (by rfl) (by rfl) (Nat.le_of_ble_eq_true (by rfl)) (Nat.le_of_ble_eq_true (by rfl)) (by decide) (by decide) (by decide) (by decide) (C_10_isNoun0 a0 (by rfl) a1 (by decide) ?_)
  show gG _ _ _ _ _ _ _ _ _ _
  refine g_if_ne M_10_dieFor (tgt := 14) d_10_dieFor_5 (by decide) (fun c => absurd rfl c) (fun _ => ?_)
  refine g_aloadn M_10_dieFor d_10_dieFor_8 (by first | rfl | assumption) ?_
  refine g_iconst M_10_dieFor (v := nI 1) d_10_dieFor_9 (by decide) ?_
  refine gc_V M_10_dieFor 0 0 [.int (nI 1)] [] d_10_dieFor_10 cv_10_95 a0 (by rfl) (by rfl) (Nat.le_of_ble_eq_true (by rfl)) (Nat.le_of_ble_eq_true (by rfl)) (by decide) (by decide) (by decide) (by decide) (C_10_fails a0 (Nat.le_of_ble_eq_true (by rfl)) (fun h9 z9 e9 => ?_))
  show gG _ _ _ _ _ _ _ _ _ _
  exact g_iret M_10_dieFor d_10_dieFor_13 rfl (by first | rfl | decide) (k h9 (mOut.of1 z9 e9))
set_option maxHeartbeats 4000000 in
set_option maxRecDepth 100000 in
theorem Y_lettersOf {q : Nat → Nat} {h : Hp_} {Q : Ot_ → Hp_ → Prop} {x : Int32} (H : mdR h q) (k : ∀ h', mOut q h h' (nI 1) → Q (.inl (some (.int 0))) h') : gG 4 200 0 0 M_10_lettersOf 0 (lv_args 0 [.ref (q 0), .int x]) [] h Q := by
  obtain ⟨s, a0, a1, ⟨f3, a3⟩, ⟨f4, a4⟩, ⟨f6, a6⟩, f7, a7⟩ := id H
  refine g_aloadn M_10_lettersOf d_10_lettersOf_0 (by first | rfl | assumption) ?_
  refine g_iloadn M_10_lettersOf d_10_lettersOf_1 (by first | rfl | assumption) ?_
  refine gc_V M_10_lettersOf 0 0 [.int x] [] d_10_lettersOf_2 cv_10_92 a0 (by rfl) (by rfl) (Nat.le_of_ble_eq_true (by rfl)) (Nat.le_of_ble_eq_true (by rfl)) (by decide) (by decide) (by decide) (by decide) (C_10_isNoun0 a0 (by rfl) a1 (by decide) ?_)
  show gG _ _ _ _ _ _ _ _ _ _
  refine g_if_eq M_10_lettersOf (tgt := 28) d_10_lettersOf_5 (by decide) (fun _ => ?_) (fun c => absurd rfl c)
  refine g_aloadn M_10_lettersOf d_10_lettersOf_28 (by first | rfl | assumption) ?_
  refine g_iconst M_10_lettersOf (v := nI 1) d_10_lettersOf_29 (by decide) ?_
  refine gc_V M_10_lettersOf 0 0 [.int (nI 1)] [] d_10_lettersOf_30 cv_10_95 a0 (by rfl) (by rfl) (Nat.le_of_ble_eq_true (by rfl)) (Nat.le_of_ble_eq_true (by rfl)) (by decide) (by decide) (by decide) (by decide) (C_10_fails a0 (Nat.le_of_ble_eq_true (by rfl)) (fun h9 z9 e9 => ?_))
  show gG _ _ _ _ _ _ _ _ _ _
  exact g_iret M_10_lettersOf d_10_lettersOf_33 rfl (by first | rfl | decide) (k h9 (mOut.of1 z9 e9))
set_option maxHeartbeats 4000000 in
set_option maxRecDepth 100000 in
theorem Y_coinsOf {q : Nat → Nat} {h : Hp_} {Q : Ot_ → Hp_ → Prop} {x : Int32} (H : mdR h q) (k : ∀ h', mOut q h h' (nI 1) → Q (.inl (some (.int 0))) h') : gG 4 200 0 0 M_10_coinsOf 0 (lv_args 0 [.ref (q 0), .int x]) [] h Q := by
  obtain ⟨s, a0, a1, ⟨f3, a3⟩, ⟨f4, a4⟩, ⟨f6, a6⟩, f7, a7⟩ := id H
  refine g_aloadn M_10_coinsOf d_10_coinsOf_0 (by first | rfl | assumption) ?_
  refine g_iloadn M_10_coinsOf d_10_coinsOf_1 (by first | rfl | assumption) ?_
  refine gc_V M_10_coinsOf 0 0 [.int x] [] d_10_coinsOf_2 cv_10_92 a0 (by rfl) (by rfl) (Nat.le_of_ble_eq_true (by rfl)) (Nat.le_of_ble_eq_true (by rfl)) (by decide) (by decide) (by decide) (by decide) (C_10_isNoun0 a0 (by rfl) a1 (by decide) ?_)
  show gG _ _ _ _ _ _ _ _ _ _
  refine g_if_eq M_10_coinsOf (tgt := 20) d_10_coinsOf_5 (by decide) (fun _ => ?_) (fun c => absurd rfl c)
  refine g_aloadn M_10_coinsOf d_10_coinsOf_20 (by first | rfl | assumption) ?_
  refine g_iconst M_10_coinsOf (v := nI 1) d_10_coinsOf_21 (by decide) ?_
  refine gc_V M_10_coinsOf 0 0 [.int (nI 1)] [] d_10_coinsOf_22 cv_10_95 a0 (by rfl) (by rfl) (Nat.le_of_ble_eq_true (by rfl)) (Nat.le_of_ble_eq_true (by rfl)) (by decide) (by decide) (by decide) (by decide) (C_10_fails a0 (Nat.le_of_ble_eq_true (by rfl)) (fun h9 z9 e9 => ?_))
  show gG _ _ _ _ _ _ _ _ _ _
  exact g_iret M_10_coinsOf d_10_coinsOf_25 rfl (by first | rfl | decide) (k h9 (mOut.of1 z9 e9))
set_option maxHeartbeats 4000000 in
set_option maxRecDepth 100000 in
theorem Y_pluralLetter {q : Nat → Nat} {h : Hp_} {Q : Ot_ → Hp_ → Prop} {x y : Int32} (H : mdR h q) (k : ∀ h', mOut q h h' (nI 1) → Q (.inl (some (.int 97))) h') : gG 4 200 0 0 M_10_pluralLetter 0 (lv_args 0 [.ref (q 0), .int x, .int y]) [] h Q := by
  obtain ⟨s, a0, a1, ⟨f3, a3⟩, ⟨f4, a4⟩, ⟨f6, a6⟩, f7, a7⟩ := id H
  refine g_aloadn M_10_pluralLetter d_10_pluralLetter_0 (by first | rfl | assumption) ?_
  refine g_iconst M_10_pluralLetter (v := nI 1) d_10_pluralLetter_1 (by decide) ?_
  refine e_put M_10_pluralLetter d_10_pluralLetter_2 pt_10_40 a0 (by rfl) (by rfl) (fun h1 v1 e1 => ?_)
  have b1 := e1.keep a1 (by simpa using s.ne 1 0 (by decide) (by decide) (by decide))
  refine g_aloadn M_10_pluralLetter d_10_pluralLetter_5 (by first | rfl | assumption) ?_
  refine g_iloadn M_10_pluralLetter d_10_pluralLetter_6 (by first | rfl | assumption) ?_
  refine gc_V M_10_pluralLetter 0 0 [.int x] [] d_10_pluralLetter_7 cv_10_92 v1 (by rfl) (by rfl) (Nat.le_of_ble_eq_true (by rfl)) (Nat.le_of_ble_eq_true (by rfl)) (by decide) (by decide) (by decide) (by decide) (C_10_isNoun0 v1 (by rfl) b1 (by decide) ?_)
  show gG _ _ _ _ _ _ _ _ _ _
  refine g_if_ne M_10_pluralLetter (tgt := 16) d_10_pluralLetter_10 (by decide) (fun c => absurd rfl c) (fun _ => ?_)
  refine g_bipush M_10_pluralLetter (v := nI 97) d_10_pluralLetter_13 (by decide) ?_
  exact g_iret M_10_pluralLetter d_10_pluralLetter_15 rfl (by first | rfl | decide) (k h1 (mOut.of1 ⟨_, v1, rfl⟩ e1))
set_option maxHeartbeats 4000000 in
set_option maxRecDepth 100000 in
theorem Y_countedLetter {q : Nat → Nat} {h : Hp_} {Q : Ot_ → Hp_ → Prop} {x y z : Int32} (H : mdR h q) (k : ∀ h', mOut q h h' (nI 1) → Q (.inl (some (.int 97))) h') : gG 4 200 0 0 M_10_countedLetter 0 (lv_args 0 [.ref (q 0), .int x, .int y, .int z]) [] h Q := by
  obtain ⟨s, a0, a1, ⟨f3, a3⟩, ⟨f4, a4⟩, ⟨f6, a6⟩, f7, a7⟩ := id H
  refine g_aloadn M_10_countedLetter d_10_countedLetter_0 (by first | rfl | assumption) ?_
  refine g_aloadn M_10_countedLetter d_10_countedLetter_1 (by first | rfl | assumption) ?_
  refine g_iloadn M_10_countedLetter d_10_countedLetter_2 (by first | rfl | assumption) ?_
  refine gc_V M_10_countedLetter 0 0 [.int x] [.ref (q 0)] d_10_countedLetter_3 cv_10_92 a0 (by rfl) (by rfl) (Nat.le_of_ble_eq_true (by rfl)) (Nat.le_of_ble_eq_true (by rfl)) (by decide) (by decide) (by decide) (by decide) (C_10_isNoun0 a0 (by rfl) a1 (by decide) ?_)
  show gG _ _ _ _ _ _ _ _ _ _
  refine g_if_ne M_10_countedLetter (tgt := 13) d_10_countedLetter_6 (by decide) (fun c => absurd rfl c) (fun _ => ?_)
  refine g_iconst M_10_countedLetter (v := nI 1) d_10_countedLetter_9 (by decide) ?_
  refine g_goto M_10_countedLetter (tgt := 30) d_10_countedLetter_10 (by decide) ?_
  refine e_put M_10_countedLetter d_10_countedLetter_30 pt_10_40 a0 (by rfl) (by rfl) (fun h1 v1 e1 => ?_)
  refine g_aloadn M_10_countedLetter d_10_countedLetter_33 (by first | rfl | assumption) ?_
  refine g_get M_10_countedLetter d_10_countedLetter_34 fl_10_40 (by assumption) (by rfl) ?_
  refine g_if_eq M_10_countedLetter (tgt := 43) d_10_countedLetter_37 (by decide) (fun c => absurd c (by decide)) (fun _ => ?_)
  refine g_bipush M_10_countedLetter (v := nI 97) d_10_countedLetter_40 (by decide) ?_
  exact g_iret M_10_countedLetter d_10_countedLetter_42 rfl (by first | rfl | decide) (k h1 (mOut.of1 ⟨_, v1, rfl⟩ e1))
set_option maxHeartbeats 4000000 in
set_option maxRecDepth 100000 in
theorem Y_isIrregular {q : Nat → Nat} {h : Hp_} {Q : Ot_ → Hp_ → Prop} {x : Int32} (H : mdR h q) (k : ∀ h', mOut q h h' (nI 1) → Q (.inl (some (.int (nI 0)))) h') : gG 4 200 0 0 M_10_isIrregular 0 (lv_args 0 [.ref (q 0), .int x]) [] h Q := by
  obtain ⟨s, a0, a1, ⟨f3, a3⟩, ⟨f4, a4⟩, ⟨f6, a6⟩, f7, a7⟩ := id H
  refine g_aloadn M_10_isIrregular d_10_isIrregular_0 (by first | rfl | assumption) ?_
  refine g_aloadn M_10_isIrregular d_10_isIrregular_1 (by first | rfl | assumption) ?_
  refine g_iloadn M_10_isIrregular d_10_isIrregular_2 (by first | rfl | assumption) ?_
  refine gc_V M_10_isIrregular 0 0 [.int x] [.ref (q 0)] d_10_isIrregular_3 cv_10_92 a0 (by rfl) (by rfl) (Nat.le_of_ble_eq_true (by rfl)) (Nat.le_of_ble_eq_true (by rfl)) (by decide) (by decide) (by decide) (by decide) (C_10_isNoun0 a0 (by rfl) a1 (by decide) ?_)
  show gG _ _ _ _ _ _ _ _ _ _
  refine g_if_eq M_10_isIrregular (tgt := 13) d_10_isIrregular_6 (by decide) (fun _ => ?_) (fun c => absurd rfl c)
  refine g_iconst M_10_isIrregular (v := nI 1) d_10_isIrregular_13 (by decide) ?_
  refine e_put M_10_isIrregular d_10_isIrregular_14 pt_10_40 a0 (by rfl) (by rfl) (fun h1 v1 e1 => ?_)
  refine g_aloadn M_10_isIrregular d_10_isIrregular_17 (by first | rfl | assumption) ?_
  refine g_get M_10_isIrregular d_10_isIrregular_18 fl_10_40 (by assumption) (by rfl) ?_
  refine g_if_ne M_10_isIrregular (tgt := 48) d_10_isIrregular_21 (by decide) (fun _ => ?_) (fun c => absurd c (by decide))
  refine g_iconst M_10_isIrregular (v := nI 0) d_10_isIrregular_48 (by decide) ?_
  exact g_iret M_10_isIrregular d_10_isIrregular_49 rfl (by first | rfl | decide) (k h1 (mOut.of1 ⟨_, v1, rfl⟩ e1))
set_option maxHeartbeats 4000000 in
set_option maxRecDepth 100000 in
theorem Y_dropDie {q : Nat → Nat} {h : Hp_} {Q : Ot_ → Hp_ → Prop} {x : Int32} (H : mdR h q) (k0 : x = 0 → ∀ h', mOut q h h' (nI 2) → Q (.inl (some (.int 0))) h') (k : x ≠ 0 → ∀ h', mOut q h h' (nI 1) → Q (.inl (some (.int 0))) h') : gG 4 200 0 0 M_10_dropDie 0 (lv_args 0 [.ref (q 0), .int x]) [] h Q := by
  obtain ⟨s, a0, a1, ⟨f3, a3⟩, ⟨f4, a4⟩, ⟨f6, a6⟩, f7, a7⟩ := id H
  refine g_aloadn M_10_dropDie d_10_dropDie_0 (by first | rfl | assumption) ?_
  refine g_iloadn M_10_dropDie d_10_dropDie_1 (by first | rfl | assumption) ?_
  refine gc_V M_10_dropDie 0 0 [.int x] [] d_10_dropDie_2 cv_10_117 a0 (by rfl) (by rfl) (Nat.le_of_ble_eq_true (by rfl)) (Nat.le_of_ble_eq_true (by rfl)) (by decide) (by decide) (by decide) (by decide) (C_10_isDie1 a0 (by rfl) a1 (by decide) (fun e => ?_) (fun e => ?_))
  · show gG _ _ _ _ _ _ _ _ _ _
    refine g_if_ne M_10_dropDie (tgt := 14) d_10_dropDie_5 (by decide) (fun _ => ?_) (fun c => absurd c (by decide))
    refine g_iloadn M_10_dropDie d_10_dropDie_14 (by first | rfl | assumption) ?_
    refine g_if_ne M_10_dropDie (tgt := 24) d_10_dropDie_15 (by decide) (fun c => absurd e c) (fun _ => ?_)
    refine g_aloadn M_10_dropDie d_10_dropDie_18 (by first | rfl | assumption) ?_
    refine g_iconst M_10_dropDie (v := nI 2) d_10_dropDie_19 (by decide) ?_
    refine gc_V M_10_dropDie 0 0 [.int (nI 2)] [] d_10_dropDie_20 cv_10_95 a0 (by rfl) (by rfl) (Nat.le_of_ble_eq_true (by rfl)) (Nat.le_of_ble_eq_true (by rfl)) (by decide) (by decide) (by decide) (by decide) (C_10_fails a0 (Nat.le_of_ble_eq_true (by rfl)) (fun h9 z9 e9 => ?_))
    show gG _ _ _ _ _ _ _ _ _ _
    exact g_iret M_10_dropDie d_10_dropDie_23 rfl (by first | rfl | decide) (k0 e h9 (mOut.of1 z9 e9))
  · show gG _ _ _ _ _ _ _ _ _ _
    refine g_if_ne M_10_dropDie (tgt := 14) d_10_dropDie_5 (by decide) (fun c => absurd rfl c) (fun _ => ?_)
    refine g_aloadn M_10_dropDie d_10_dropDie_8 (by first | rfl | assumption) ?_
    refine g_iconst M_10_dropDie (v := nI 1) d_10_dropDie_9 (by decide) ?_
    refine gc_V M_10_dropDie 0 0 [.int (nI 1)] [] d_10_dropDie_10 cv_10_95 a0 (by rfl) (by rfl) (Nat.le_of_ble_eq_true (by rfl)) (Nat.le_of_ble_eq_true (by rfl)) (by decide) (by decide) (by decide) (by decide) (C_10_fails a0 (Nat.le_of_ble_eq_true (by rfl)) (fun h9 z9 e9 => ?_))
    show gG _ _ _ _ _ _ _ _ _ _
    exact g_iret M_10_dropDie d_10_dropDie_13 rfl (by first | rfl | decide) (k e h9 (mOut.of1 z9 e9))
set_option maxHeartbeats 4000000 in
set_option maxRecDepth 100000 in
theorem Y_fitsOf {q : Nat → Nat} {h : Hp_} {Q : Ot_ → Hp_ → Prop} {x : Int32} (H : mdR h q) (k0 : x = 0 → ∀ h', mOut q h h' (nI 0) → Q (.inl (some (.int (nI 0)))) h') (k : x ≠ 0 → ∀ h', mOut q h h' (nI 1) → Q (.inl (some (.int 0))) h') : gG 4 200 0 0 M_10_fitsOf 0 (lv_args 0 [.ref (q 0), .int x]) [] h Q := by
  obtain ⟨s, a0, a1, ⟨f3, a3⟩, ⟨f4, a4⟩, ⟨f6, a6⟩, f7, a7⟩ := id H
  refine g_aloadn M_10_fitsOf d_10_fitsOf_0 (by first | rfl | assumption) ?_
  refine g_iloadn M_10_fitsOf d_10_fitsOf_1 (by first | rfl | assumption) ?_
  refine gc_V M_10_fitsOf 0 0 [.int x] [] d_10_fitsOf_2 cv_10_117 a0 (by rfl) (by rfl) (Nat.le_of_ble_eq_true (by rfl)) (Nat.le_of_ble_eq_true (by rfl)) (by decide) (by decide) (by decide) (by decide) (C_10_isDie1 a0 (by rfl) a1 (by decide) (fun e => ?_) (fun e => ?_))
  · show gG _ _ _ _ _ _ _ _ _ _
    refine g_if_ne M_10_fitsOf (tgt := 14) d_10_fitsOf_5 (by decide) (fun _ => ?_) (fun c => absurd c (by decide))
    refine g_aloadn M_10_fitsOf d_10_fitsOf_14 (by first | rfl | assumption) ?_
    refine g_iconst M_10_fitsOf (v := nI 0) d_10_fitsOf_15 (by decide) ?_
    refine e_put M_10_fitsOf d_10_fitsOf_16 pt_10_40 a0 (by rfl) (by rfl) (fun h1 v1 e1 => ?_)
    have b1 := e1.keep a1 (by simpa using s.ne 1 0 (by decide) (by decide) (by decide))
    refine g_iconst M_10_fitsOf (v := nI 0) d_10_fitsOf_19 (by decide) ?_
    refine g_istoren M_10_fitsOf d_10_fitsOf_20 (by decide) (by first | rfl | (simp only [gc]; simp [*])) ?_
    refine g_iconst M_10_fitsOf (v := nI 0) d_10_fitsOf_21 (by decide) ?_
    refine g_istoren M_10_fitsOf d_10_fitsOf_22 (by decide) (by first | rfl | (simp only [gc]; simp [*])) ?_
    refine g_iloadn M_10_fitsOf d_10_fitsOf_23 (by first | rfl | assumption) ?_
    refine g_aloadn M_10_fitsOf d_10_fitsOf_24 (by first | rfl | assumption) ?_
    refine g_get M_10_fitsOf d_10_fitsOf_25 fl_10_7 (by assumption) (by rfl) ?_
    refine g_iconst M_10_fitsOf (v := nI 2) d_10_fitsOf_28 (by decide) ?_
    refine g_iaload M_10_fitsOf d_10_fitsOf_29 b1 (vp_in_nI (by decide) (by decide)) ?_
    refine g_icmp_ge M_10_fitsOf (tgt := 67) d_10_fitsOf_30 (by decide) (fun _ => ?_) (fun c => absurd (by decide) c)
    refine g_iloadn M_10_fitsOf d_10_fitsOf_67 (by first | rfl | assumption) ?_
    exact g_iret M_10_fitsOf d_10_fitsOf_68 rfl (by first | rfl | decide) (k0 e h1 (mOut.of1 ⟨_, v1, rfl⟩ e1))
  · show gG _ _ _ _ _ _ _ _ _ _
    refine g_if_ne M_10_fitsOf (tgt := 14) d_10_fitsOf_5 (by decide) (fun c => absurd rfl c) (fun _ => ?_)
    refine g_aloadn M_10_fitsOf d_10_fitsOf_8 (by first | rfl | assumption) ?_
    refine g_iconst M_10_fitsOf (v := nI 1) d_10_fitsOf_9 (by decide) ?_
    refine gc_V M_10_fitsOf 0 0 [.int (nI 1)] [] d_10_fitsOf_10 cv_10_95 a0 (by rfl) (by rfl) (Nat.le_of_ble_eq_true (by rfl)) (Nat.le_of_ble_eq_true (by rfl)) (by decide) (by decide) (by decide) (by decide) (C_10_fails a0 (Nat.le_of_ble_eq_true (by rfl)) (fun h9 z9 e9 => ?_))
    show gG _ _ _ _ _ _ _ _ _ _
    exact g_iret M_10_fitsOf d_10_fitsOf_13 rfl (by first | rfl | decide) (k e h9 (mOut.of1 z9 e9))
set_option maxHeartbeats 4000000 in
set_option maxRecDepth 100000 in
theorem Y_dropIrregular {q : Nat → Nat} {h : Hp_} {Q : Ot_ → Hp_ → Prop} (H : mdR h q) (k : ∀ h', mOut q h h' (nI 1) → Q (.inl (some (.int 0))) h') : gG 4 200 0 0 M_10_dropIrregular 0 (lv_args 0 [.ref (q 0)]) [] h Q := by
  obtain ⟨s, a0, a1, ⟨f3, a3⟩, ⟨f4, a4⟩, ⟨f6, a6⟩, f7, a7⟩ := id H
  refine g_aloadn M_10_dropIrregular d_10_dropIrregular_0 (by first | rfl | assumption) ?_
  refine g_get M_10_dropIrregular d_10_dropIrregular_1 fl_10_7 (by assumption) (by rfl) ?_
  refine g_iconst M_10_dropIrregular (v := nI 1) d_10_dropIrregular_4 (by decide) ?_
  refine g_iaload M_10_dropIrregular d_10_dropIrregular_5 a1 (vp_in_nI (by decide) (by decide)) ?_
  refine g_if_ne M_10_dropIrregular (tgt := 15) d_10_dropIrregular_6 (by decide) (fun c => absurd (by decide) c) (fun _ => ?_)
  refine g_aloadn M_10_dropIrregular d_10_dropIrregular_9 (by first | rfl | assumption) ?_
  refine g_iconst M_10_dropIrregular (v := nI 1) d_10_dropIrregular_10 (by decide) ?_
  refine gc_V M_10_dropIrregular 0 0 [.int (nI 1)] [] d_10_dropIrregular_11 cv_10_95 a0 (by rfl) (by rfl) (Nat.le_of_ble_eq_true (by rfl)) (Nat.le_of_ble_eq_true (by rfl)) (by decide) (by decide) (by decide) (by decide) (C_10_fails a0 (Nat.le_of_ble_eq_true (by rfl)) (fun h9 z9 e9 => ?_))
  show gG _ _ _ _ _ _ _ _ _ _
  exact g_iret M_10_dropIrregular d_10_dropIrregular_14 rfl (by first | rfl | decide) (k h9 (mOut.of1 z9 e9))
set_option maxHeartbeats 4000000 in
set_option maxRecDepth 100000 in
theorem Y_undo {q : Nat → Nat} {h : Hp_} {Q : Ot_ → Hp_ → Prop} (H : mdR h q) (k : ∀ h', mOut q h h' (nI 1) → Q (.inl (some (.int 0))) h') : gG 4 200 0 0 M_10_undo 0 (lv_args 0 [.ref (q 0)]) [] h Q := by
  obtain ⟨s, a0, a1, ⟨f3, a3⟩, ⟨f4, a4⟩, ⟨f6, a6⟩, f7, a7⟩ := id H
  refine g_aloadn M_10_undo d_10_undo_0 (by first | rfl | assumption) ?_
  refine g_get M_10_undo d_10_undo_1 fl_10_44 (by assumption) (by rfl) ?_
  refine g_if_ne M_10_undo (tgt := 13) d_10_undo_4 (by decide) (fun c => absurd rfl c) (fun _ => ?_)
  refine g_aloadn M_10_undo d_10_undo_7 (by first | rfl | assumption) ?_
  refine g_iconst M_10_undo (v := nI 1) d_10_undo_8 (by decide) ?_
  refine gc_V M_10_undo 0 0 [.int (nI 1)] [] d_10_undo_9 cv_10_95 a0 (by rfl) (by rfl) (Nat.le_of_ble_eq_true (by rfl)) (Nat.le_of_ble_eq_true (by rfl)) (by decide) (by decide) (by decide) (by decide) (C_10_fails a0 (Nat.le_of_ble_eq_true (by rfl)) (fun h9 z9 e9 => ?_))
  show gG _ _ _ _ _ _ _ _ _ _
  exact g_iret M_10_undo d_10_undo_12 rfl (by first | rfl | decide) (k h9 (mOut.of1 z9 e9))
set_option maxHeartbeats 4000000 in
set_option maxRecDepth 100000 in
theorem Y_restoreSnapshot {q : Nat → Nat} {h : Hp_} {Q : Ot_ → Hp_ → Prop} (H : mdR h q) (k : ∀ h', mOut q h h' (nI 1) → Q (.inl (some (.int 0))) h') : gG 4 200 0 0 M_10_restoreSnapshot 0 (lv_args 0 [.ref (q 0)]) [] h Q := by
  obtain ⟨s, a0, a1, ⟨f3, a3⟩, ⟨f4, a4⟩, ⟨f6, a6⟩, f7, a7⟩ := id H
  refine g_aloadn M_10_restoreSnapshot d_10_restoreSnapshot_0 (by first | rfl | assumption) ?_
  refine g_get M_10_restoreSnapshot d_10_restoreSnapshot_1 fl_10_171 (by assumption) (by rfl) ?_
  refine g_if_ne M_10_restoreSnapshot (tgt := 13) d_10_restoreSnapshot_4 (by decide) (fun c => absurd rfl c) (fun _ => ?_)
  refine g_aloadn M_10_restoreSnapshot d_10_restoreSnapshot_7 (by first | rfl | assumption) ?_
  refine g_iconst M_10_restoreSnapshot (v := nI 1) d_10_restoreSnapshot_8 (by decide) ?_
  refine gc_V M_10_restoreSnapshot 0 0 [.int (nI 1)] [] d_10_restoreSnapshot_9 cv_10_95 a0 (by rfl) (by rfl) (Nat.le_of_ble_eq_true (by rfl)) (Nat.le_of_ble_eq_true (by rfl)) (by decide) (by decide) (by decide) (by decide) (C_10_fails a0 (Nat.le_of_ble_eq_true (by rfl)) (fun h9 z9 e9 => ?_))
  show gG _ _ _ _ _ _ _ _ _ _
  exact g_iret M_10_restoreSnapshot d_10_restoreSnapshot_12 rfl (by first | rfl | decide) (k h9 (mOut.of1 z9 e9))
set_option maxHeartbeats 4000000 in
set_option maxRecDepth 100000 in
theorem C_10_isHere0 {a : Nat} {fs : List Value} {x y : Int32} {h : Hp_} {Q : Ot_ → Hp_ → Prop} (h0 : h a = some (.inr (10, fs))) (h1 : fs[10]? = some (.int (nI 0))) (h2 : fs[9]? = some (.int (nI 0))) (k : Q (.inl (some (.int 0))) h) : gG 1 60 0 0 M_10_isHere 0 (lv_args 0 [.ref a, .int x, .int y]) [] h Q := by
  refine g_aloadn M_10_isHere d_10_isHere_0 (by first | rfl | assumption) ?_
  refine g_get M_10_isHere d_10_isHere_1 fl_10_123 h0 h1 ?_
  refine g_aloadn M_10_isHere d_10_isHere_4 (by first | rfl | assumption) ?_
  refine g_get M_10_isHere d_10_isHere_5 fl_10_120 h0 h2 ?_
  refine g_icmp_ge M_10_isHere (tgt := 35) d_10_isHere_8 (by decide) (fun _ => ?_) (fun c => absurd (by decide) c)
  refine g_iconst M_10_isHere (v := nI 0) d_10_isHere_35 (by decide) ?_
  exact g_iret M_10_isHere d_10_isHere_36 rfl (by decide) k
set_option maxHeartbeats 4000000 in
set_option maxRecDepth 100000 in
theorem C_10_takesOne0 {q : Nat → Nat} {h : Hp_} {Q : Ot_ → Hp_ → Prop} {t kd rl ik : Int32} {x : Int32} (h0 : h (q 0) = some (.inr (10, mE q t (nI 0) kd rl ik (nI 0)))) (k : ∀ h', gExt h h' [q 0] [] → h' (q 0) = some (.inr (10, mE q t (nI 0) kd rl ik (nI 0))) → Q (.inl (some (.int 0))) h') : gG 2 100 0 0 M_10_takesOne 0 (lv_args 0 [.ref (q 0), .int x]) [] h Q := by
  refine g_aloadn M_10_takesOne d_10_takesOne_0 (by first | rfl | assumption) ?_
  refine g_iloadn M_10_takesOne d_10_takesOne_1 (by first | rfl | assumption) ?_
  refine g_iloadn M_10_takesOne d_10_takesOne_2 (by first | rfl | assumption) ?_
  refine gc_V M_10_takesOne 0 0 [.int x, .int x] [] d_10_takesOne_3 cv_10_126 h0 (by rfl) (by rfl) (Nat.le_of_ble_eq_true (by rfl)) (Nat.le_of_ble_eq_true (by rfl)) (by decide) (by decide) (by decide) (by decide) (C_10_isHere0 h0 rfl rfl ?_)
  show gG _ _ _ _ _ _ _ _ _ _
  refine g_istoren M_10_takesOne d_10_takesOne_6 (by decide) (by first | rfl | (simp only [gc]; simp [*])) ?_
  refine g_aloadn M_10_takesOne d_10_takesOne_7 (by first | rfl | assumption) ?_
  refine g_dup M_10_takesOne d_10_takesOne_8 (by rfl) ?_
  refine g_get M_10_takesOne d_10_takesOne_9 fl_10_123 (by assumption) (by rfl) ?_
  refine g_iloadn M_10_takesOne d_10_takesOne_12 (by first | rfl | assumption) ?_
  refine g_if_eq M_10_takesOne (tgt := 20) d_10_takesOne_13 (by decide) (fun _ => ?_) (fun c => absurd rfl c)
  refine g_iconst M_10_takesOne (v := nI 0) d_10_takesOne_20 (by decide) ?_
  refine g_iadd M_10_takesOne d_10_takesOne_21 ?_
  refine e_put M_10_takesOne d_10_takesOne_22 pt_10_123 h0 (by rfl) (by rfl) (fun h1 v1 e1 => ?_)
  refine g_iloadn M_10_takesOne d_10_takesOne_25 (by first | rfl | assumption) ?_
  exact g_iret M_10_takesOne d_10_takesOne_26 rfl (by decide) (k h1 e1 v1)
set_option maxHeartbeats 4000000 in
set_option maxRecDepth 100000 in
theorem C_10_readsLetters0 {q : Nat → Nat} {h : Hp_} {Q : Ot_ → Hp_ → Prop} {t kd rl ik : Int32} {b : Nat} {n : Int32} {f : Nat → Int32} (hn : nI 0 < n) (hb : b ≠ q 0) (h0 : h (q 0) = some (.inr (10, mE q t (nI 0) kd rl ik (nI 0)))) (h1 : h b = some (.inl (false, .int, (17, .inl f)))) (k : ∀ h', gExt h h' [b] [] → Q (.inl (some (.int (nI 0)))) h') : gG 2 100 0 0 M_10_readsLetters 0 (lv_args 0 [.ref (q 0), .ref b, .int n]) [] h Q := by
  refine g_aloadn M_10_readsLetters d_10_readsLetters_0 (by first | rfl | assumption) ?_
  refine g_iconst M_10_readsLetters (v := nI 0) d_10_readsLetters_1 (by decide) ?_
  refine g_iconst M_10_readsLetters (v := nI 0) d_10_readsLetters_2 (by decide) ?_
  refine e_ias M_10_readsLetters d_10_readsLetters_3 h1 (vp_in_nI (by decide) (by decide)) (fun h2 v2 e2 => ?_)
  have u2 := e2.keep h0 (by simpa using hb.symm)
  refine g_aloadn M_10_readsLetters d_10_readsLetters_4 (by first | rfl | assumption) ?_
  refine g_iconst M_10_readsLetters (v := nI 0) d_10_readsLetters_5 (by decide) ?_
  refine g_iaload M_10_readsLetters d_10_readsLetters_6 v2 (vp_in_nI (by decide) (by decide)) ?_
  rw [show upd f (nI 0).toNatClampNeg (nI 0) (nI 0).toNatClampNeg = nI 0 from if_pos rfl]
  refine g_iloadn M_10_readsLetters d_10_readsLetters_7 (by first | rfl | assumption) ?_
  refine g_icmp_ge M_10_readsLetters (tgt := 59) d_10_readsLetters_8 (by decide) (fun c => absurd hn (Int32.not_lt.mpr c)) (fun _ => ?_)
  refine g_aloadn M_10_readsLetters d_10_readsLetters_11 (by first | rfl | assumption) ?_
  refine g_bipush M_10_readsLetters (v := nI 97) d_10_readsLetters_12 (by decide) ?_
  refine g_bipush M_10_readsLetters (v := nI 122) d_10_readsLetters_14 (by decide) ?_
  refine gc_V M_10_readsLetters 0 0 [.int (nI 97), .int (nI 122)] [] d_10_readsLetters_16 cv_10_126 u2 (by rfl) (by rfl) (Nat.le_of_ble_eq_true (by rfl)) (Nat.le_of_ble_eq_true (by rfl)) (by decide) (by decide) (by decide) (by decide) (C_10_isHere0 u2 rfl rfl ?_)
  show gG _ _ _ _ _ _ _ _ _ _
  refine g_if_eq M_10_readsLetters (tgt := 59) d_10_readsLetters_19 (by decide) (fun _ => ?_) (fun c => absurd rfl c)
  refine g_aloadn M_10_readsLetters d_10_readsLetters_59 (by first | rfl | assumption) ?_
  refine g_iconst M_10_readsLetters (v := nI 0) d_10_readsLetters_60 (by decide) ?_
  refine g_iaload M_10_readsLetters d_10_readsLetters_61 v2 (vp_in_nI (by decide) (by decide)) ?_
  rw [show upd f (nI 0).toNatClampNeg (nI 0) (nI 0).toNatClampNeg = nI 0 from if_pos rfl]
  exact g_iret M_10_readsLetters d_10_readsLetters_62 rfl rfl (k h2 e2)
set_option maxHeartbeats 4000000 in
set_option maxRecDepth 100000 in
theorem C_10_readsOrder0 {q : Nat → Nat} {h : Hp_} {Q : Ot_ → Hp_ → Prop} {t kd rl ik : Int32} {f : Nat → Int32} (s : sepR q 11) (h0 : h (q 0) = some (.inr (10, mE q t (nI 0) kd rl ik (nI 0)))) (h1 : h (q 7) = some (.inl (false, .int, (17, .inl f)))) (k : ∀ h', gExt h h' [q 0, q 7] [] → h' (q 0) = some (.inr (10, mE q t (nI 0) (nI 0) rl ik (nI 0))) → Q (.inl (some (.int 0))) h') : gG 3 130 0 0 M_10_readsOrder 0 (lv_args 0 [.ref (q 0)]) [] h Q := by
  refine g_aloadn M_10_readsOrder d_10_readsOrder_0 (by first | rfl | assumption) ?_
  refine g_bipush M_10_readsOrder (v := nI 42) d_10_readsOrder_1 (by decide) ?_
  refine gc_V M_10_readsOrder 0 0 [.int (nI 42)] [] d_10_readsOrder_3 cv_10_130 h0 (by rfl) (by rfl) (Nat.le_of_ble_eq_true (by rfl)) (Nat.le_of_ble_eq_true (by rfl)) (by decide) (by decide) (by decide) (by decide) (C_10_takesOne0 h0 (fun h2 e2 v2 => ?_))
  have b2 := e2.keep h1 (by simpa using s.ne 7 0 (by decide) (by decide) (by decide))
  show gG _ _ _ _ _ _ _ _ _ _
  refine g_if_eq M_10_readsOrder (tgt := 82) d_10_readsOrder_6 (by decide) (fun _ => ?_) (fun c => absurd rfl c)
  refine g_aloadn M_10_readsOrder d_10_readsOrder_82 (by first | rfl | assumption) ?_
  refine g_iconst M_10_readsOrder (v := nI 0) d_10_readsOrder_83 (by decide) ?_
  refine e_put M_10_readsOrder d_10_readsOrder_84 pt_10_133 v2 (by rfl) (by rfl) (fun h3 v3 e3 => ?_)
  have v3 : h3 (q 0) = some (.inr (10, mE q t (nI 0) (nI 0) rl ik (nI 0))) := v3
  have b3 := e3.keep b2 (by simpa using s.ne 7 0 (by decide) (by decide) (by decide))
  refine g_aloadn M_10_readsOrder d_10_readsOrder_87 (by first | rfl | assumption) ?_
  refine g_aloadn M_10_readsOrder d_10_readsOrder_88 (by first | rfl | assumption) ?_
  refine g_get M_10_readsOrder d_10_readsOrder_89 fl_10_28 v3 (by rfl) ?_
  refine g_bipush M_10_readsOrder (v := nI 12) d_10_readsOrder_92 (by decide) ?_
  refine gc_V M_10_readsOrder 0 0 [.ref (q 7), .int (nI 12)] [] d_10_readsOrder_94 cv_10_139 v3 (by rfl) (by rfl) (Nat.le_of_ble_eq_true (by rfl)) (Nat.le_of_ble_eq_true (by rfl)) (by decide) (by decide) (by decide) (by decide) (C_10_readsLetters0 (by decide) (s.ne 7 0 (by decide) (by decide) (by decide)) v3 b3 (fun h4 e4 => ?_))
  have v4 := e4.keep v3 (by simpa using s.ne 0 7 (by decide) (by decide) (by decide))
  show gG _ _ _ _ _ _ _ _ _ _
  refine g_if_ne M_10_readsOrder (tgt := 102) d_10_readsOrder_97 (by decide) (fun c => absurd rfl c) (fun _ => ?_)
  refine g_iconst M_10_readsOrder (v := nI 0) d_10_readsOrder_100 (by decide) ?_
  exact g_iret M_10_readsOrder d_10_readsOrder_101 rfl (by decide) (k h4 (by simpa using (((e2.weak (S' := [q 0, q 7]) (by simp)).trans e3 (by simp)).trans e4 (by simp))) v4)
set_option maxHeartbeats 4000000 in
set_option maxRecDepth 100000 in
theorem C_10_errorOfText0 {q : Nat → Nat} {h : Hp_} {Q : Ot_ → Hp_ → Prop} {t kd rl ik : Int32} {a1 : Int32} {f : Nat → Int32} (s : sepR q 11) (h0 : h (q 0) = some (.inr (10, mE q t a1 kd rl ik (nI 0)))) (h1 : h (q 7) = some (.inl (false, .int, (17, .inl f)))) (k : ∀ h', gExt h h' [q 0, q 7] [] → h' (q 0) = some (.inr (10, mE q t (nI 0) (nI 0) rl ik (nI 0))) → Q (.inl (some (.int (nI 0)))) h') : gG 4 160 0 0 M_10_errorOfText 0 (lv_args 0 [.ref (q 0)]) [] h Q := by
  refine g_aloadn M_10_errorOfText d_10_errorOfText_0 (by first | rfl | assumption) ?_
  refine g_iconst M_10_errorOfText (v := nI 0) d_10_errorOfText_1 (by decide) ?_
  refine e_put M_10_errorOfText d_10_errorOfText_2 pt_10_123 h0 (by rfl) (by rfl) (fun h2 v2 e2 => ?_)
  have v2 : h2 (q 0) = some (.inr (10, mE q t (nI 0) kd rl ik (nI 0))) := v2
  have b2 := e2.keep h1 (by simpa using s.ne 7 0 (by decide) (by decide) (by decide))
  refine g_iconst M_10_errorOfText (v := nI 1) d_10_errorOfText_5 (by decide) ?_
  refine g_istoren M_10_errorOfText d_10_errorOfText_6 (by decide) (by first | rfl | (simp only [gc]; simp [*])) ?_
  refine g_iloadn M_10_errorOfText d_10_errorOfText_7 (by first | rfl | assumption) ?_
  refine g_if_eq M_10_errorOfText (tgt := 33) d_10_errorOfText_8 (by decide) (fun c => absurd c (by decide)) (fun _ => ?_)
  refine g_aloadn M_10_errorOfText d_10_errorOfText_11 (by first | rfl | assumption) ?_
  refine gc_V M_10_errorOfText 0 0 [] [] d_10_errorOfText_12 cv_10_142 v2 (by rfl) (by rfl) (Nat.le_of_ble_eq_true (by rfl)) (Nat.le_of_ble_eq_true (by rfl)) (by decide) (by decide) (by decide) (by decide) (C_10_readsOrder0 s v2 b2 (fun h3 e3 v3 => ?_))
  show gG _ _ _ _ _ _ _ _ _ _
  refine g_if_ne M_10_errorOfText (tgt := 23) d_10_errorOfText_15 (by decide) (fun c => absurd rfl c) (fun _ => ?_)
  refine g_aloadn M_10_errorOfText d_10_errorOfText_18 (by first | rfl | assumption) ?_
  refine g_get M_10_errorOfText d_10_errorOfText_19 fl_10_123 v3 (by rfl) ?_
  exact g_iret M_10_errorOfText d_10_errorOfText_22 rfl rfl (k h3 (by simpa using ((e2.weak (S' := [q 0, q 7]) (by simp)).trans e3 (by simp))) v3)
set_option maxHeartbeats 4000000 in
set_option maxRecDepth 100000 in
theorem C_10_isWord0 {q : Nat → Nat} {h : Hp_} {Q : Ot_ → Hp_ → Prop} {t kd rl ik : Int32} {a1 : Int32} {f : Nat → Int32} (s : sepR q 11) (h0 : h (q 0) = some (.inr (10, mE q t a1 kd rl ik (nI 0)))) (h1 : h (q 7) = some (.inl (false, .int, (17, .inl f)))) (k : ∀ h', gExt h h' [q 0, q 7] [] → h' (q 0) = some (.inr (10, mE q t (nI 0) kd rl ik (nI 0))) → Q (.inl (some (.int 0))) h') : gG 4 160 0 0 M_10_isWord 0 (lv_args 0 [.ref (q 0)]) [] h Q := by
  refine g_aloadn M_10_isWord d_10_isWord_0 (by first | rfl | assumption) ?_
  refine g_iconst M_10_isWord (v := nI 0) d_10_isWord_1 (by decide) ?_
  refine e_put M_10_isWord d_10_isWord_2 pt_10_123 h0 (by rfl) (by rfl) (fun h2 v2 e2 => ?_)
  have v2 : h2 (q 0) = some (.inr (10, mE q t (nI 0) kd rl ik (nI 0))) := v2
  have b2 := e2.keep h1 (by simpa using s.ne 7 0 (by decide) (by decide) (by decide))
  refine g_aloadn M_10_isWord d_10_isWord_5 (by first | rfl | assumption) ?_
  refine g_aloadn M_10_isWord d_10_isWord_6 (by first | rfl | assumption) ?_
  refine g_get M_10_isWord d_10_isWord_7 fl_10_28 v2 (by rfl) ?_
  refine g_bipush M_10_isWord (v := nI 12) d_10_isWord_10 (by decide) ?_
  refine gc_V M_10_isWord 0 0 [.ref (q 7), .int (nI 12)] [] d_10_isWord_12 cv_10_139 v2 (by rfl) (by rfl) (Nat.le_of_ble_eq_true (by rfl)) (Nat.le_of_ble_eq_true (by rfl)) (by decide) (by decide) (by decide) (by decide) (C_10_readsLetters0 (by decide) (s.ne 7 0 (by decide) (by decide) (by decide)) v2 b2 (fun h4 e4 => ?_))
  have v4 := e4.keep v2 (by simpa using s.ne 0 7 (by decide) (by decide) (by decide))
  show gG _ _ _ _ _ _ _ _ _ _
  refine g_if_le M_10_isWord (tgt := 33) d_10_isWord_15 (by decide) (fun _ => ?_) (fun c => absurd (by decide) c)
  refine g_iconst M_10_isWord (v := nI 0) d_10_isWord_33 (by decide) ?_
  exact g_iret M_10_isWord d_10_isWord_34 rfl (by decide) (k h4 (by simpa using ((e2.weak (S' := [q 0, q 7]) (by simp)).trans e4 (by simp))) v4)
set_option maxHeartbeats 4000000 in
set_option maxRecDepth 100000 in
theorem Y_textError {q : Nat → Nat} {h : Hp_} {Q : Ot_ → Hp_ → Prop} (H : mdR h q) (k : ∀ h', mOut q h h' (nI 0) → Q (.inl (some (.int (nI 0)))) h') : gG 6 200 0 0 M_10_textError 0 (lv_args 0 [.ref (q 0)]) [] h Q := by
  obtain ⟨s, a0, a1, ⟨f3, a3⟩, ⟨f4, a4⟩, ⟨f6, a6⟩, f7, a7⟩ := id H
  refine g_aloadn M_10_textError d_10_textError_0 (by first | rfl | assumption) ?_
  refine g_aloadn M_10_textError d_10_textError_1 (by first | rfl | assumption) ?_
  refine gc_V M_10_textError 0 0 [] [.ref (q 0)] d_10_textError_2 cv_10_146 a0 (by rfl) (by rfl) (Nat.le_of_ble_eq_true (by rfl)) (Nat.le_of_ble_eq_true (by rfl)) (by decide) (by decide) (by decide) (by decide) (C_10_errorOfText0 s (show h (q 0) = some (.inr (10, mE q (nI 0) (nI 0) (nI 0) (nI 0) (nI 0) (nI 0))) from a0) a7 (fun h1 e1 v1 => ?_))
  show gG _ _ _ _ _ _ _ _ _ _
  refine gc_V M_10_textError 0 0 [.int (nI 0)] [] d_10_textError_5 cv_10_149 v1 (by rfl) (by rfl) (Nat.le_of_ble_eq_true (by rfl)) (Nat.le_of_ble_eq_true (by rfl)) (by decide) (by decide) (by decide) (by decide) (C_10_told v1 (Nat.le_of_ble_eq_true (by rfl)) (fun h9 z9 e9 => ?_))
  show gG _ _ _ _ _ _ _ _ _ _
  exact g_iret M_10_textError d_10_textError_8 rfl (by first | rfl | decide) (k h9 (mOut.of z9 (e1.trans e9 (by simp)) (q2S (by decide) (by decide))))
set_option maxHeartbeats 4000000 in
set_option maxRecDepth 100000 in
theorem Y_impossibleOrder {q : Nat → Nat} {h : Hp_} {Q : Ot_ → Hp_ → Prop} (H : mdR h q) (k : ∀ h', mOut q h h' (nI 1) → Q (.inl (some (.int 0))) h') : gG 6 200 0 0 M_10_impossibleOrder 0 (lv_args 0 [.ref (q 0)]) [] h Q := by
  obtain ⟨s, a0, a1, ⟨f3, a3⟩, ⟨f4, a4⟩, ⟨f6, a6⟩, f7, a7⟩ := id H
  refine g_aloadn M_10_impossibleOrder d_10_impossibleOrder_0 (by first | rfl | assumption) ?_
  refine gc_V M_10_impossibleOrder 0 0 [] [] d_10_impossibleOrder_1 cv_10_146 a0 (by rfl) (by rfl) (Nat.le_of_ble_eq_true (by rfl)) (Nat.le_of_ble_eq_true (by rfl)) (by decide) (by decide) (by decide) (by decide) (C_10_errorOfText0 s (show h (q 0) = some (.inr (10, mE q (nI 0) (nI 0) (nI 0) (nI 0) (nI 0) (nI 0))) from a0) a7 (fun h1 e1 v1 => ?_))
  show gG _ _ _ _ _ _ _ _ _ _
  refine g_iconst M_10_impossibleOrder (v := -1) d_10_impossibleOrder_4 (by decide) ?_
  refine g_icmp_eq M_10_impossibleOrder (tgt := 14) d_10_impossibleOrder_5 (by decide) (fun c => absurd c (by decide)) (fun _ => ?_)
  refine g_aloadn M_10_impossibleOrder d_10_impossibleOrder_8 (by first | rfl | assumption) ?_
  refine g_iconst M_10_impossibleOrder (v := nI 1) d_10_impossibleOrder_9 (by decide) ?_
  refine gc_V M_10_impossibleOrder 0 0 [.int (nI 1)] [] d_10_impossibleOrder_10 cv_10_95 v1 (by rfl) (by rfl) (Nat.le_of_ble_eq_true (by rfl)) (Nat.le_of_ble_eq_true (by rfl)) (by decide) (by decide) (by decide) (by decide) (C_10_fails v1 (Nat.le_of_ble_eq_true (by rfl)) (fun h9 z9 e9 => ?_))
  show gG _ _ _ _ _ _ _ _ _ _
  exact g_iret M_10_impossibleOrder d_10_impossibleOrder_13 rfl (by first | rfl | decide) (k h9 (mOut.of z9 (e1.trans e9 (by simp)) (q2S (by decide) (by decide))))
set_option maxHeartbeats 4000000 in
set_option maxRecDepth 100000 in
theorem Y_carryOut {q : Nat → Nat} {h : Hp_} {Q : Ot_ → Hp_ → Prop} (H : mdR h q) (k : ∀ h', mOut q h h' (nI 1) → Q (.inl (some (.int 0))) h') : gG 6 200 0 0 M_10_carryOut 0 (lv_args 0 [.ref (q 0)]) [] h Q := by
  obtain ⟨s, a0, a1, ⟨f3, a3⟩, ⟨f4, a4⟩, ⟨f6, a6⟩, f7, a7⟩ := id H
  refine g_aloadn M_10_carryOut d_10_carryOut_0 (by first | rfl | assumption) ?_
  refine gc_V M_10_carryOut 0 0 [] [] d_10_carryOut_1 cv_10_146 a0 (by rfl) (by rfl) (Nat.le_of_ble_eq_true (by rfl)) (Nat.le_of_ble_eq_true (by rfl)) (by decide) (by decide) (by decide) (by decide) (C_10_errorOfText0 s (show h (q 0) = some (.inr (10, mE q (nI 0) (nI 0) (nI 0) (nI 0) (nI 0) (nI 0))) from a0) a7 (fun h1 e1 v1 => ?_))
  show gG _ _ _ _ _ _ _ _ _ _
  refine g_iconst M_10_carryOut (v := -1) d_10_carryOut_4 (by decide) ?_
  refine g_icmp_eq M_10_carryOut (tgt := 14) d_10_carryOut_5 (by decide) (fun c => absurd c (by decide)) (fun _ => ?_)
  refine g_aloadn M_10_carryOut d_10_carryOut_8 (by first | rfl | assumption) ?_
  refine g_iconst M_10_carryOut (v := nI 1) d_10_carryOut_9 (by decide) ?_
  refine gc_V M_10_carryOut 0 0 [.int (nI 1)] [] d_10_carryOut_10 cv_10_95 v1 (by rfl) (by rfl) (Nat.le_of_ble_eq_true (by rfl)) (Nat.le_of_ble_eq_true (by rfl)) (by decide) (by decide) (by decide) (by decide) (C_10_fails v1 (Nat.le_of_ble_eq_true (by rfl)) (fun h9 z9 e9 => ?_))
  show gG _ _ _ _ _ _ _ _ _ _
  exact g_iret M_10_carryOut d_10_carryOut_13 rfl (by first | rfl | decide) (k h9 (mOut.of z9 (e1.trans e9 (by simp)) (q2S (by decide) (by decide))))
set_option maxHeartbeats 4000000 in
set_option maxRecDepth 100000 in
theorem Y_recalls {q : Nat → Nat} {h : Hp_} {Q : Ot_ → Hp_ → Prop} (H : mdR h q) (k : ∀ h', mOut q h h' (nI 1) → Q (.inl (some (.int 0))) h') : gG 5 200 0 0 M_10_recalls 0 (lv_args 0 [.ref (q 0)]) [] h Q := by
  obtain ⟨s, a0, a1, ⟨f3, a3⟩, ⟨f4, a4⟩, ⟨f6, a6⟩, f7, a7⟩ := id H
  refine g_aloadn M_10_recalls d_10_recalls_0 (by first | rfl | assumption) ?_
  refine gc_V M_10_recalls 0 0 [] [] d_10_recalls_1 cv_10_180 a0 (by rfl) (by rfl) (Nat.le_of_ble_eq_true (by rfl)) (Nat.le_of_ble_eq_true (by rfl)) (by decide) (by decide) (by decide) (by decide) (C_10_isWord0 s (show h (q 0) = some (.inr (10, mE q (nI 0) (nI 0) (nI 0) (nI 0) (nI 0) (nI 0))) from a0) a7 (fun h1 e1 v1 => ?_))
  show gG _ _ _ _ _ _ _ _ _ _
  refine g_if_ne M_10_recalls (tgt := 13) d_10_recalls_4 (by decide) (fun c => absurd rfl c) (fun _ => ?_)
  refine g_aloadn M_10_recalls d_10_recalls_7 (by first | rfl | assumption) ?_
  refine g_iconst M_10_recalls (v := nI 1) d_10_recalls_8 (by decide) ?_
  refine gc_V M_10_recalls 0 0 [.int (nI 1)] [] d_10_recalls_9 cv_10_95 v1 (by rfl) (by rfl) (Nat.le_of_ble_eq_true (by rfl)) (Nat.le_of_ble_eq_true (by rfl)) (by decide) (by decide) (by decide) (by decide) (C_10_fails v1 (Nat.le_of_ble_eq_true (by rfl)) (fun h9 z9 e9 => ?_))
  show gG _ _ _ _ _ _ _ _ _ _
  exact g_iret M_10_recalls d_10_recalls_12 rfl (by first | rfl | decide) (k h9 (mOut.of z9 (e1.trans e9 (by simp)) (q2S (by decide) (by decide))))
set_option maxHeartbeats 4000000 in
set_option maxRecDepth 100000 in
theorem Y_possibleNouns {q : Nat → Nat} {h : Hp_} {Q : Ot_ → Hp_ → Prop} (H : mdR h q) (k : ∀ h', mOut q h h' (nI 1) → Q (.inl (some (.int 0))) h') : gG 5 200 0 0 M_10_possibleNouns 0 (lv_args 0 [.ref (q 0)]) [] h Q := by
  obtain ⟨s, a0, a1, ⟨f3, a3⟩, ⟨f4, a4⟩, ⟨f6, a6⟩, f7, a7⟩ := id H
  refine g_aloadn M_10_possibleNouns d_10_possibleNouns_0 (by first | rfl | assumption) ?_
  refine gc_V M_10_possibleNouns 0 0 [] [] d_10_possibleNouns_1 cv_10_180 a0 (by rfl) (by rfl) (Nat.le_of_ble_eq_true (by rfl)) (Nat.le_of_ble_eq_true (by rfl)) (by decide) (by decide) (by decide) (by decide) (C_10_isWord0 s (show h (q 0) = some (.inr (10, mE q (nI 0) (nI 0) (nI 0) (nI 0) (nI 0) (nI 0))) from a0) a7 (fun h1 e1 v1 => ?_))
  show gG _ _ _ _ _ _ _ _ _ _
  refine g_if_ne M_10_possibleNouns (tgt := 13) d_10_possibleNouns_4 (by decide) (fun c => absurd rfl c) (fun _ => ?_)
  refine g_aloadn M_10_possibleNouns d_10_possibleNouns_7 (by first | rfl | assumption) ?_
  refine g_iconst M_10_possibleNouns (v := nI 1) d_10_possibleNouns_8 (by decide) ?_
  refine gc_V M_10_possibleNouns 0 0 [.int (nI 1)] [] d_10_possibleNouns_9 cv_10_95 v1 (by rfl) (by rfl) (Nat.le_of_ble_eq_true (by rfl)) (Nat.le_of_ble_eq_true (by rfl)) (by decide) (by decide) (by decide) (by decide) (C_10_fails v1 (Nat.le_of_ble_eq_true (by rfl)) (fun h9 z9 e9 => ?_))
  show gG _ _ _ _ _ _ _ _ _ _
  exact g_iret M_10_possibleNouns d_10_possibleNouns_12 rfl (by first | rfl | decide) (k h9 (mOut.of z9 (e1.trans e9 (by simp)) (q2S (by decide) (by decide))))
set_option maxHeartbeats 4000000 in
set_option maxRecDepth 100000 in
theorem Y_recallByStriking {q : Nat → Nat} {h : Hp_} {Q : Ot_ → Hp_ → Prop} (H : mdR h q) (k : ∀ h', mOut q h h' (nI 1) → Q (.inl (some (.int 0))) h') : gG 6 230 0 0 M_10_recallByStriking 0 (lv_args 0 [.ref (q 0)]) [] h Q := by
  obtain ⟨s, a0, a1, ⟨f3, a3⟩, ⟨f4, a4⟩, ⟨f6, a6⟩, f7, a7⟩ := id H
  refine g_aloadn M_10_recallByStriking d_10_recallByStriking_0 (by first | rfl | assumption) ?_
  refine gc_V M_10_recallByStriking 0 0 [] [] d_10_recallByStriking_1 cv_10_183 a0 (by rfl) (by rfl) (Nat.le_of_ble_eq_true (by rfl)) (Nat.le_of_ble_eq_true (by rfl)) (by decide) (by decide) (by decide) (by decide) (Y_recalls H (fun h1 e1 => ?_))
  show gG _ _ _ _ _ _ _ _ _ _
  exact g_iret M_10_recallByStriking d_10_recallByStriking_4 rfl (by first | rfl | decide) (k h1 e1)
set_option maxHeartbeats 4000000 in
set_option maxRecDepth 100000 in
theorem Y_recallByReversing {q : Nat → Nat} {h : Hp_} {Q : Ot_ → Hp_ → Prop} (H : mdR h q) (k : ∀ h', mOut q h h' (nI 1) → Q (.inl (some (.int 0))) h') : gG 6 230 0 0 M_10_recallByReversing 0 (lv_args 0 [.ref (q 0)]) [] h Q := by
  obtain ⟨s, a0, a1, ⟨f3, a3⟩, ⟨f4, a4⟩, ⟨f6, a6⟩, f7, a7⟩ := id H
  refine g_aloadn M_10_recallByReversing d_10_recallByReversing_0 (by first | rfl | assumption) ?_
  refine gc_V M_10_recallByReversing 0 0 [] [] d_10_recallByReversing_1 cv_10_183 a0 (by rfl) (by rfl) (Nat.le_of_ble_eq_true (by rfl)) (Nat.le_of_ble_eq_true (by rfl)) (by decide) (by decide) (by decide) (by decide) (Y_recalls H (fun h1 e1 => ?_))
  show gG _ _ _ _ _ _ _ _ _ _
  exact g_iret M_10_recallByReversing d_10_recallByReversing_4 rfl (by first | rfl | decide) (k h1 e1)
set_option maxHeartbeats 4000000 in
set_option maxRecDepth 100000 in
theorem Y_type {q : Nat → Nat} {h : Hp_} {Q : Ot_ → Hp_ → Prop} {c : Int32} (H : mdR h q) (k : ∀ h', mOut q h h' (nI 0) → Q (.inl (some (.int (nI 1)))) h') : gG 4 200 0 0 M_10_type 0 (lv_args 0 [.ref (q 0), .int c]) [] h Q := by
  obtain ⟨s, a0, a1, ⟨f3, a3⟩, ⟨f4, a4⟩, ⟨f6, a6⟩, f7, a7⟩ := id H
  refine g_aloadn M_10_type d_10_type_0 (by first | rfl | assumption) ?_
  refine g_get M_10_type d_10_type_1 fl_10_120 (by assumption) (by rfl) ?_
  refine g_bipush M_10_type (v := nI 60) d_10_type_4 (by decide) ?_
  refine g_icmp_ne M_10_type (tgt := 15) d_10_type_6 (by decide) (fun _ => ?_) (fun c => absurd c (by decide))
  refine g_aloadn M_10_type d_10_type_15 (by first | rfl | assumption) ?_
  refine g_iconst M_10_type (v := nI 0) d_10_type_16 (by decide) ?_
  refine e_put M_10_type d_10_type_17 pt_10_40 a0 (by rfl) (by rfl) (fun h1 v1 e1 => ?_)
  have b6 := e1.keep a6 (by simpa using s.ne 6 0 (by decide) (by decide) (by decide))
  refine g_aloadn M_10_type d_10_type_20 (by first | rfl | assumption) ?_
  refine g_get M_10_type d_10_type_21 fl_10_25 (by assumption) (by rfl) ?_
  refine g_aloadn M_10_type d_10_type_24 (by first | rfl | assumption) ?_
  refine g_get M_10_type d_10_type_25 fl_10_120 (by assumption) (by rfl) ?_
  refine g_iloadn M_10_type d_10_type_28 (by first | rfl | assumption) ?_
  refine e_ias M_10_type d_10_type_29 b6 (vp_in_nI (by decide) (by decide)) (fun h2 v2 e2 => ?_)
  have u2 := e2.keep v1 (by simpa using s.ne 0 6 (by decide) (by decide) (by decide))
  refine g_aloadn M_10_type d_10_type_30 (by first | rfl | assumption) ?_
  refine g_dup M_10_type d_10_type_31 (by rfl) ?_
  refine g_get M_10_type d_10_type_32 fl_10_120 (by assumption) (by rfl) ?_
  refine g_iconst M_10_type (v := nI 1) d_10_type_35 (by decide) ?_
  refine g_iadd M_10_type d_10_type_36 ?_
  refine e_put M_10_type d_10_type_37 pt_10_120 u2 (by rfl) (by rfl) (fun h3 v3 e3 => ?_)
  refine g_aloadn M_10_type d_10_type_40 (by first | rfl | assumption) ?_
  refine g_get M_10_type d_10_type_41 fl_10_120 (by assumption) (by rfl) ?_
  exact g_iret M_10_type d_10_type_44 rfl (by first | rfl | decide) (k h3 (mOut.of ⟨_, v3, rfl⟩ (((e1.weak (S' := [q 0, q 6]) (by simp)).trans e2 (by simp)).trans e3 (by simp)) (q2S (by decide) (by decide))))
set_option maxHeartbeats 4000000 in
set_option maxRecDepth 100000 in
theorem Y_clearText {q : Nat → Nat} {h : Hp_} {Q : Ot_ → Hp_ → Prop} (H : mdR h q) (k : ∀ h', mOut q h h' (nI 0) → Q (.inl (some (.int (nI 0)))) h') : gG 4 200 0 0 M_10_clearText 0 (lv_args 0 [.ref (q 0)]) [] h Q := by
  obtain ⟨s, a0, a1, ⟨f3, a3⟩, ⟨f4, a4⟩, ⟨f6, a6⟩, f7, a7⟩ := id H
  refine g_aloadn M_10_clearText d_10_clearText_0 (by first | rfl | assumption) ?_
  refine g_iconst M_10_clearText (v := nI 0) d_10_clearText_1 (by decide) ?_
  refine e_put M_10_clearText d_10_clearText_2 pt_10_40 a0 (by rfl) (by rfl) (fun h1 v1 e1 => ?_)
  refine g_aloadn M_10_clearText d_10_clearText_5 (by first | rfl | assumption) ?_
  refine g_get M_10_clearText d_10_clearText_6 fl_10_120 (by assumption) (by rfl) ?_
  refine g_istoren M_10_clearText d_10_clearText_9 (by decide) (by first | rfl | (simp only [gc]; simp [*])) ?_
  refine g_aloadn M_10_clearText d_10_clearText_10 (by first | rfl | assumption) ?_
  refine g_iconst M_10_clearText (v := nI 0) d_10_clearText_11 (by decide) ?_
  refine e_put M_10_clearText d_10_clearText_12 pt_10_120 v1 (by rfl) (by rfl) (fun h2 v2 e2 => ?_)
  refine g_iloadn M_10_clearText d_10_clearText_15 (by first | rfl | assumption) ?_
  exact g_iret M_10_clearText d_10_clearText_16 rfl (by first | rfl | decide) (k h2 (mOut.of1 ⟨_, v2, rfl⟩ (e1.trans e2 (by simp))))
set_option maxHeartbeats 4000000 in
set_option maxRecDepth 100000 in
theorem Y_nouns {q : Nat → Nat} {h : Hp_} {Q : Ot_ → Hp_ → Prop} (H : mdR h q) (k : ∀ h', mOut q h h' (nI 0) → Q (.inl (some (.int (nI 0)))) h') : gG 4 200 0 0 M_10_nouns 0 (lv_args 0 [.ref (q 0)]) [] h Q := by
  obtain ⟨s, a0, a1, ⟨f3, a3⟩, ⟨f4, a4⟩, ⟨f6, a6⟩, f7, a7⟩ := id H
  refine g_aloadn M_10_nouns d_10_nouns_0 (by first | rfl | assumption) ?_
  refine g_aloadn M_10_nouns d_10_nouns_1 (by first | rfl | assumption) ?_
  refine g_get M_10_nouns d_10_nouns_2 fl_10_7 (by assumption) (by rfl) ?_
  refine g_iconst M_10_nouns (v := nI 2) d_10_nouns_5 (by decide) ?_
  refine g_iaload M_10_nouns d_10_nouns_6 a1 (vp_in_nI (by decide) (by decide)) ?_
  refine gc_V M_10_nouns 0 0 [.int (mF (nI 2).toNatClampNeg)] [] d_10_nouns_7 cv_10_149 a0 (by rfl) (by rfl) (Nat.le_of_ble_eq_true (by rfl)) (Nat.le_of_ble_eq_true (by rfl)) (by decide) (by decide) (by decide) (by decide) (C_10_told a0 (Nat.le_of_ble_eq_true (by rfl)) (fun h9 z9 e9 => ?_))
  show gG _ _ _ _ _ _ _ _ _ _
  exact g_iret M_10_nouns d_10_nouns_10 rfl (by first | rfl | decide) (k h9 (mOut.of1 z9 e9))
set_option maxHeartbeats 4000000 in
set_option maxRecDepth 100000 in
theorem Y_dies {q : Nat → Nat} {h : Hp_} {Q : Ot_ → Hp_ → Prop} (H : mdR h q) (k : ∀ h', mOut q h h' (nI 0) → Q (.inl (some (.int (nI 1)))) h') : gG 4 200 0 0 M_10_dies 0 (lv_args 0 [.ref (q 0)]) [] h Q := by
  obtain ⟨s, a0, a1, ⟨f3, a3⟩, ⟨f4, a4⟩, ⟨f6, a6⟩, f7, a7⟩ := id H
  refine g_aloadn M_10_dies d_10_dies_0 (by first | rfl | assumption) ?_
  refine g_aloadn M_10_dies d_10_dies_1 (by first | rfl | assumption) ?_
  refine g_get M_10_dies d_10_dies_2 fl_10_7 (by assumption) (by rfl) ?_
  refine g_iconst M_10_dies (v := nI 0) d_10_dies_5 (by decide) ?_
  refine g_iaload M_10_dies d_10_dies_6 a1 (vp_in_nI (by decide) (by decide)) ?_
  refine gc_V M_10_dies 0 0 [.int (mF (nI 0).toNatClampNeg)] [] d_10_dies_7 cv_10_149 a0 (by rfl) (by rfl) (Nat.le_of_ble_eq_true (by rfl)) (Nat.le_of_ble_eq_true (by rfl)) (by decide) (by decide) (by decide) (by decide) (C_10_told a0 (Nat.le_of_ble_eq_true (by rfl)) (fun h9 z9 e9 => ?_))
  show gG _ _ _ _ _ _ _ _ _ _
  exact g_iret M_10_dies d_10_dies_10 rfl (by first | rfl | decide) (k h9 (mOut.of1 z9 e9))
set_option maxHeartbeats 4000000 in
set_option maxRecDepth 100000 in
theorem Y_irregulars {q : Nat → Nat} {h : Hp_} {Q : Ot_ → Hp_ → Prop} (H : mdR h q) (k : ∀ h', mOut q h h' (nI 0) → Q (.inl (some (.int (nI 0)))) h') : gG 4 200 0 0 M_10_irregulars 0 (lv_args 0 [.ref (q 0)]) [] h Q := by
  obtain ⟨s, a0, a1, ⟨f3, a3⟩, ⟨f4, a4⟩, ⟨f6, a6⟩, f7, a7⟩ := id H
  refine g_aloadn M_10_irregulars d_10_irregulars_0 (by first | rfl | assumption) ?_
  refine g_aloadn M_10_irregulars d_10_irregulars_1 (by first | rfl | assumption) ?_
  refine g_get M_10_irregulars d_10_irregulars_2 fl_10_7 (by assumption) (by rfl) ?_
  refine g_iconst M_10_irregulars (v := nI 1) d_10_irregulars_5 (by decide) ?_
  refine g_iaload M_10_irregulars d_10_irregulars_6 a1 (vp_in_nI (by decide) (by decide)) ?_
  refine gc_V M_10_irregulars 0 0 [.int (mF (nI 1).toNatClampNeg)] [] d_10_irregulars_7 cv_10_149 a0 (by rfl) (by rfl) (Nat.le_of_ble_eq_true (by rfl)) (Nat.le_of_ble_eq_true (by rfl)) (by decide) (by decide) (by decide) (by decide) (C_10_told a0 (Nat.le_of_ble_eq_true (by rfl)) (fun h9 z9 e9 => ?_))
  show gG _ _ _ _ _ _ _ _ _ _
  exact g_iret M_10_irregulars d_10_irregulars_10 rfl (by first | rfl | decide) (k h9 (mOut.of1 z9 e9))
set_option maxHeartbeats 4000000 in
set_option maxRecDepth 100000 in
theorem Y_heaps {q : Nat → Nat} {h : Hp_} {Q : Ot_ → Hp_ → Prop} (H : mdR h q) (k : ∀ h', mOut q h h' (nI 0) → Q (.inl (some (.int (nI 0)))) h') : gG 4 200 0 0 M_10_heaps 0 (lv_args 0 [.ref (q 0)]) [] h Q := by
  obtain ⟨s, a0, a1, ⟨f3, a3⟩, ⟨f4, a4⟩, ⟨f6, a6⟩, f7, a7⟩ := id H
  refine g_aloadn M_10_heaps d_10_heaps_0 (by first | rfl | assumption) ?_
  refine g_aloadn M_10_heaps d_10_heaps_1 (by first | rfl | assumption) ?_
  refine g_get M_10_heaps d_10_heaps_2 fl_10_7 (by assumption) (by rfl) ?_
  refine g_iconst M_10_heaps (v := nI 3) d_10_heaps_5 (by decide) ?_
  refine g_iaload M_10_heaps d_10_heaps_6 a1 (vp_in_nI (by decide) (by decide)) ?_
  refine gc_V M_10_heaps 0 0 [.int (mF (nI 3).toNatClampNeg)] [] d_10_heaps_7 cv_10_149 a0 (by rfl) (by rfl) (Nat.le_of_ble_eq_true (by rfl)) (Nat.le_of_ble_eq_true (by rfl)) (by decide) (by decide) (by decide) (by decide) (C_10_told a0 (Nat.le_of_ble_eq_true (by rfl)) (fun h9 z9 e9 => ?_))
  show gG _ _ _ _ _ _ _ _ _ _
  exact g_iret M_10_heaps d_10_heaps_10 rfl (by first | rfl | decide) (k h9 (mOut.of1 z9 e9))
set_option maxHeartbeats 4000000 in
set_option maxRecDepth 100000 in
theorem Y_recordedStates {q : Nat → Nat} {h : Hp_} {Q : Ot_ → Hp_ → Prop} (H : mdR h q) (k : ∀ h', mOut q h h' (nI 0) → Q (.inl (some (.int (nI 0)))) h') : gG 4 200 0 0 M_10_recordedStates 0 (lv_args 0 [.ref (q 0)]) [] h Q := by
  obtain ⟨s, a0, a1, ⟨f3, a3⟩, ⟨f4, a4⟩, ⟨f6, a6⟩, f7, a7⟩ := id H
  refine g_aloadn M_10_recordedStates d_10_recordedStates_0 (by first | rfl | assumption) ?_
  refine g_aloadn M_10_recordedStates d_10_recordedStates_1 (by first | rfl | assumption) ?_
  refine g_get M_10_recordedStates d_10_recordedStates_2 fl_10_44 (by assumption) (by rfl) ?_
  refine gc_V M_10_recordedStates 0 0 [.int (nI 0)] [] d_10_recordedStates_5 cv_10_149 a0 (by rfl) (by rfl) (Nat.le_of_ble_eq_true (by rfl)) (Nat.le_of_ble_eq_true (by rfl)) (by decide) (by decide) (by decide) (by decide) (C_10_told a0 (Nat.le_of_ble_eq_true (by rfl)) (fun h9 z9 e9 => ?_))
  show gG _ _ _ _ _ _ _ _ _ _
  exact g_iret M_10_recordedStates d_10_recordedStates_8 rfl (by first | rfl | decide) (k h9 (mOut.of1 z9 e9))
set_option maxHeartbeats 4000000 in
set_option maxRecDepth 100000 in
theorem Y_coinsByAccounts {q : Nat → Nat} {h : Hp_} {Q : Ot_ → Hp_ → Prop} (H : mdR h q) (k : ∀ h', mOut q h h' (nI 0) → Q (.inl (some (.int (nI 0)))) h') : gG 4 200 0 0 M_10_coinsByAccounts 0 (lv_args 0 [.ref (q 0)]) [] h Q := by
  obtain ⟨s, a0, a1, ⟨f3, a3⟩, ⟨f4, a4⟩, ⟨f6, a6⟩, f7, a7⟩ := id H
  refine g_aloadn M_10_coinsByAccounts d_10_coinsByAccounts_0 (by first | rfl | assumption) ?_
  refine g_aloadn M_10_coinsByAccounts d_10_coinsByAccounts_1 (by first | rfl | assumption) ?_
  refine g_get M_10_coinsByAccounts d_10_coinsByAccounts_2 fl_10_7 (by assumption) (by rfl) ?_
  refine g_iconst M_10_coinsByAccounts (v := nI 4) d_10_coinsByAccounts_5 (by decide) ?_
  refine g_iaload M_10_coinsByAccounts d_10_coinsByAccounts_6 a1 (vp_in_nI (by decide) (by decide)) ?_
  refine g_aloadn M_10_coinsByAccounts d_10_coinsByAccounts_7 (by first | rfl | assumption) ?_
  refine g_get M_10_coinsByAccounts d_10_coinsByAccounts_8 fl_10_7 (by assumption) (by rfl) ?_
  refine g_iconst M_10_coinsByAccounts (v := nI 5) d_10_coinsByAccounts_11 (by decide) ?_
  refine g_iaload M_10_coinsByAccounts d_10_coinsByAccounts_12 a1 (vp_in_nI (by decide) (by decide)) ?_
  refine g_isub M_10_coinsByAccounts d_10_coinsByAccounts_13 ?_
  refine gc_V M_10_coinsByAccounts 0 0 [.int (mF (nI 4).toNatClampNeg - mF (nI 5).toNatClampNeg)] [] d_10_coinsByAccounts_14 cv_10_149 a0 (by rfl) (by rfl) (Nat.le_of_ble_eq_true (by rfl)) (Nat.le_of_ble_eq_true (by rfl)) (by decide) (by decide) (by decide) (by decide) (C_10_told a0 (Nat.le_of_ble_eq_true (by rfl)) (fun h9 z9 e9 => ?_))
  show gG _ _ _ _ _ _ _ _ _ _
  exact g_iret M_10_coinsByAccounts d_10_coinsByAccounts_17 rfl (by first | rfl | decide) (k h9 (mOut.of1 z9 e9))
set_option maxHeartbeats 4000000 in
set_option maxRecDepth 100000 in
theorem C_10_stale0 {a p : Nat} {fs : List Value} {f : Nat → Int32} {h : Hp_} {Q : Ot_ → Hp_ → Prop} (h0 : h a = some (.inr (10, fs))) (hf : fs[0]? = some (.ref p)) (h1 : h p = some (.inl (false, .int, (1676, .inl f)))) (hz : f 3 = 0) (k : Q (.inl (some (.int (nI 0)))) h) : gG 2 100 0 0 M_10_stale 0 (lv_args 0 [.ref a]) [] h Q := by
  have hz2 : f (nI 3).toNatClampNeg = 0 := by rw [nI_cl (by decide)]; exact hz
  refine g_iconst M_10_stale (v := nI 0) d_10_stale_0 (by decide) ?_
  refine g_istoren M_10_stale d_10_stale_1 (by decide) (by first | rfl | (simp only [gc]; simp [*])) ?_
  refine g_iconst M_10_stale (v := nI 0) d_10_stale_2 (by decide) ?_
  refine g_istoren M_10_stale d_10_stale_3 (by decide) (by first | rfl | (simp only [gc]; simp [*])) ?_
  refine g_iloadn M_10_stale d_10_stale_4 (by first | rfl | assumption) ?_
  refine g_aloadn M_10_stale d_10_stale_5 (by first | rfl | assumption) ?_
  refine g_get M_10_stale d_10_stale_6 fl_10_7 h0 hf ?_
  refine g_iconst M_10_stale (v := nI 3) d_10_stale_9 (by decide) ?_
  refine g_iaload M_10_stale d_10_stale_10 h1 (vp_in_nI (by decide) (by decide)) ?_
  rw [hz2]
  refine g_icmp_ge M_10_stale (tgt := 50) d_10_stale_11 (by decide) (fun _ => ?_) (fun c => absurd (by decide) c)
  refine g_iloadn M_10_stale d_10_stale_50 (by first | rfl | assumption) ?_
  exact g_iret M_10_stale d_10_stale_51 rfl rfl k
set_option maxHeartbeats 4000000 in
set_option maxRecDepth 100000 in
theorem C_10_coins0 {a p : Nat} {fs : List Value} {f : Nat → Int32} {x : Int32} {h : Hp_} {Q : Ot_ → Hp_ → Prop} (h0 : h a = some (.inr (10, fs))) (hf : fs[0]? = some (.ref p)) (h1 : h p = some (.inl (false, .int, (1676, .inl f)))) (hz : f 3 = 0) (k : Q (.inl (some (.int (nI 0)))) h) : gG 2 100 0 0 M_10_coins 0 (lv_args 0 [.ref a, .int x]) [] h Q := by
  have hz2 : f (nI 3).toNatClampNeg = 0 := by rw [nI_cl (by decide)]; exact hz
  refine g_iconst M_10_coins (v := nI 0) d_10_coins_0 (by decide) ?_
  refine g_istoren M_10_coins d_10_coins_1 (by decide) (by first | rfl | (simp only [gc]; simp [*])) ?_
  refine g_iconst M_10_coins (v := nI 0) d_10_coins_2 (by decide) ?_
  refine g_istoren M_10_coins d_10_coins_3 (by decide) (by first | rfl | (simp only [gc]; simp [*])) ?_
  refine g_iloadn M_10_coins d_10_coins_4 (by first | rfl | assumption) ?_
  refine g_aloadn M_10_coins d_10_coins_5 (by first | rfl | assumption) ?_
  refine g_get M_10_coins d_10_coins_6 fl_10_7 h0 hf ?_
  refine g_iconst M_10_coins (v := nI 3) d_10_coins_9 (by decide) ?_
  refine g_iaload M_10_coins d_10_coins_10 h1 (vp_in_nI (by decide) (by decide)) ?_
  rw [hz2]
  refine g_icmp_ge M_10_coins (tgt := 64) d_10_coins_11 (by decide) (fun _ => ?_) (fun c => absurd (by decide) c)
  refine g_iloadn M_10_coins d_10_coins_64 (by first | rfl | assumption) ?_
  exact g_iret M_10_coins d_10_coins_65 rfl rfl k
set_option maxHeartbeats 4000000 in
set_option maxRecDepth 100000 in
theorem Y_staleCoins {q : Nat → Nat} {h : Hp_} {Q : Ot_ → Hp_ → Prop} (H : mdR h q) (k : ∀ h', mOut q h h' (nI 0) → Q (.inl (some (.int (nI 0)))) h') : gG 4 200 0 0 M_10_staleCoins 0 (lv_args 0 [.ref (q 0)]) [] h Q := by
  obtain ⟨s, a0, a1, ⟨f3, a3⟩, ⟨f4, a4⟩, ⟨f6, a6⟩, f7, a7⟩ := id H
  refine g_aloadn M_10_staleCoins d_10_staleCoins_0 (by first | rfl | assumption) ?_
  refine g_aloadn M_10_staleCoins d_10_staleCoins_1 (by first | rfl | assumption) ?_
  refine gc_V M_10_staleCoins 0 0 [] [.ref (q 0)] d_10_staleCoins_2 cv_10_113 a0 (by rfl) (by rfl) (Nat.le_of_ble_eq_true (by rfl)) (Nat.le_of_ble_eq_true (by rfl)) (by decide) (by decide) (by decide) (by decide) (C_10_stale0 a0 (by rfl) a1 (by decide) ?_)
  show gG _ _ _ _ _ _ _ _ _ _
  refine gc_V M_10_staleCoins 0 0 [.int (nI 0)] [] d_10_staleCoins_5 cv_10_149 a0 (by rfl) (by rfl) (Nat.le_of_ble_eq_true (by rfl)) (Nat.le_of_ble_eq_true (by rfl)) (by decide) (by decide) (by decide) (by decide) (C_10_told a0 (Nat.le_of_ble_eq_true (by rfl)) (fun h9 z9 e9 => ?_))
  show gG _ _ _ _ _ _ _ _ _ _
  exact g_iret M_10_staleCoins d_10_staleCoins_8 rfl (by first | rfl | decide) (k h9 (mOut.of1 z9 e9))
set_option maxHeartbeats 4000000 in
set_option maxRecDepth 100000 in
theorem Y_coinsByHeaps {q : Nat → Nat} {h : Hp_} {Q : Ot_ → Hp_ → Prop} (H : mdR h q) (k : ∀ h', mOut q h h' (nI 0) → Q (.inl (some (.int (nI 0)))) h') : gG 4 200 0 0 M_10_coinsByHeaps 0 (lv_args 0 [.ref (q 0)]) [] h Q := by
  obtain ⟨s, a0, a1, ⟨f3, a3⟩, ⟨f4, a4⟩, ⟨f6, a6⟩, f7, a7⟩ := id H
  refine g_aloadn M_10_coinsByHeaps d_10_coinsByHeaps_0 (by first | rfl | assumption) ?_
  refine g_aloadn M_10_coinsByHeaps d_10_coinsByHeaps_1 (by first | rfl | assumption) ?_
  refine g_iconst M_10_coinsByHeaps (v := -1) d_10_coinsByHeaps_2 (by decide) ?_
  refine gc_V M_10_coinsByHeaps 0 0 [.int (-1)] [.ref (q 0)] d_10_coinsByHeaps_3 cv_10_107 a0 (by rfl) (by rfl) (Nat.le_of_ble_eq_true (by rfl)) (Nat.le_of_ble_eq_true (by rfl)) (by decide) (by decide) (by decide) (by decide) (C_10_coins0 a0 (by rfl) a1 (by decide) ?_)
  show gG _ _ _ _ _ _ _ _ _ _
  refine gc_V M_10_coinsByHeaps 0 0 [.int (nI 0)] [] d_10_coinsByHeaps_6 cv_10_149 a0 (by rfl) (by rfl) (Nat.le_of_ble_eq_true (by rfl)) (Nat.le_of_ble_eq_true (by rfl)) (by decide) (by decide) (by decide) (by decide) (C_10_told a0 (Nat.le_of_ble_eq_true (by rfl)) (fun h9 z9 e9 => ?_))
  show gG _ _ _ _ _ _ _ _ _ _
  exact g_iret M_10_coinsByHeaps d_10_coinsByHeaps_9 rfl (by first | rfl | decide) (k h9 (mOut.of1 z9 e9))
set_option maxHeartbeats 4000000 in
set_option maxRecDepth 100000 in
theorem Y_ambiguousNouns {q : Nat → Nat} {h : Hp_} {Q : Ot_ → Hp_ → Prop} (H : mdR h q) (k : ∀ h', mOut q h h' (nI 0) → Q (.inl (some (.int (nI 0)))) h') : gG 4 200 0 0 M_10_ambiguousNouns 0 (lv_args 0 [.ref (q 0)]) [] h Q := by
  obtain ⟨s, a0, a1, ⟨f3, a3⟩, ⟨f4, a4⟩, ⟨f6, a6⟩, f7, a7⟩ := id H
  refine g_aloadn M_10_ambiguousNouns d_10_ambiguousNouns_0 (by first | rfl | assumption) ?_
  refine g_iconst M_10_ambiguousNouns (v := nI 0) d_10_ambiguousNouns_1 (by decide) ?_
  refine e_put M_10_ambiguousNouns d_10_ambiguousNouns_2 pt_10_40 a0 (by rfl) (by rfl) (fun h1 v1 e1 => ?_)
  have b1 := e1.keep a1 (by simpa using s.ne 1 0 (by decide) (by decide) (by decide))
  refine g_iconst M_10_ambiguousNouns (v := nI 0) d_10_ambiguousNouns_5 (by decide) ?_
  refine g_istoren M_10_ambiguousNouns d_10_ambiguousNouns_6 (by decide) (by first | rfl | (simp only [gc]; simp [*])) ?_
  refine g_iconst M_10_ambiguousNouns (v := nI 0) d_10_ambiguousNouns_7 (by decide) ?_
  refine g_istoren M_10_ambiguousNouns d_10_ambiguousNouns_8 (by decide) (by first | rfl | (simp only [gc]; simp [*])) ?_
  refine g_iloadn M_10_ambiguousNouns d_10_ambiguousNouns_9 (by first | rfl | assumption) ?_
  refine g_aloadn M_10_ambiguousNouns d_10_ambiguousNouns_10 (by first | rfl | assumption) ?_
  refine g_get M_10_ambiguousNouns d_10_ambiguousNouns_11 fl_10_7 (by assumption) (by rfl) ?_
  refine g_iconst M_10_ambiguousNouns (v := nI 2) d_10_ambiguousNouns_14 (by decide) ?_
  refine g_iaload M_10_ambiguousNouns d_10_ambiguousNouns_15 b1 (vp_in_nI (by decide) (by decide)) ?_
  refine g_icmp_ge M_10_ambiguousNouns (tgt := 115) d_10_ambiguousNouns_16 (by decide) (fun _ => ?_) (fun c => absurd (by decide) c)
  refine g_iloadn M_10_ambiguousNouns d_10_ambiguousNouns_115 (by first | rfl | assumption) ?_
  exact g_iret M_10_ambiguousNouns d_10_ambiguousNouns_116 rfl (by first | rfl | decide) (k h1 (mOut.of1 ⟨_, v1, rfl⟩ e1))
set_option maxHeartbeats 4000000 in
set_option maxRecDepth 100000 in
theorem Y_takeSnapshot {q : Nat → Nat} {h : Hp_} {Q : Ot_ → Hp_ → Prop} (H : mdR h q) (k : ∀ h', mOut q h h' (nI 0) → Q (.inl (some (.int (nI 0)))) h') : gG 4 200 0 0 M_10_takeSnapshot 0 (lv_args 0 [.ref (q 0)]) [] h Q := by
  obtain ⟨s, a0, a1, ⟨f3, a3⟩, ⟨f4, a4⟩, ⟨f6, a6⟩, f7, a7⟩ := id H
  refine g_iconst M_10_takeSnapshot (v := nI 0) d_10_takeSnapshot_0 (by decide) ?_
  refine g_istoren M_10_takeSnapshot d_10_takeSnapshot_1 (by decide) (by first | rfl | (simp only [gc]; simp [*])) ?_
  have loop : ∀ n p, p + n = 1676 → ∀ (h2 : Hp_) (lv : List (Nat × Value)), gExt h h2 [q 4] [] → (∃ f, h2 (q 4) = some (.inl (false, .int, (1676, .inl f)))) → gl lv 0 = some (.ref (q 0)) → gl lv 1 = some (.int (nI p)) → gG 4 200 0 0 M_10_takeSnapshot 2 lv [] h2 Q := by
    intro n
    induction n with
    | zero =>
      intro p hp h2 lv e2 w2 H0 H1
      have u2 := e2.keep a0 (by simpa using s.ne 0 4 (by decide) (by decide) (by decide))
      have u1 := e2.keep a1 (by simpa using s.ne 1 4 (by decide) (by decide) (by decide))
      refine g_iloadn M_10_takeSnapshot d_10_takeSnapshot_2 (by first | rfl | assumption) ?_
      refine g_sipush M_10_takeSnapshot (v := nI 1676) d_10_takeSnapshot_3 (by decide) ?_
      refine g_icmp_ge M_10_takeSnapshot (tgt := 27) d_10_takeSnapshot_6 (by decide) (fun _ => ?_) (fun c => absurd (nI_le (by omega) (by omega)) c)
      refine g_aloadn M_10_takeSnapshot d_10_takeSnapshot_27 (by first | rfl | assumption) ?_
      refine g_iconst M_10_takeSnapshot (v := nI 1) d_10_takeSnapshot_28 (by decide) ?_
      refine e_put M_10_takeSnapshot d_10_takeSnapshot_29 pt_10_171 u2 (by rfl) (by rfl) (fun h3 v3 e3 => ?_)
      have u3 := e3.keep u1 (by simpa using s.ne 1 0 (by decide) (by decide) (by decide))
      refine g_aloadn M_10_takeSnapshot d_10_takeSnapshot_32 (by first | rfl | assumption) ?_
      refine g_aloadn M_10_takeSnapshot d_10_takeSnapshot_33 (by first | rfl | assumption) ?_
      refine g_get M_10_takeSnapshot d_10_takeSnapshot_34 fl_10_7 (by assumption) (by rfl) ?_
      refine g_iconst M_10_takeSnapshot (v := nI 2) d_10_takeSnapshot_37 (by decide) ?_
      refine g_iaload M_10_takeSnapshot d_10_takeSnapshot_38 u3 (vp_in_nI (by decide) (by decide)) ?_
      refine gc_V M_10_takeSnapshot 0 0 [.int (mF (nI 2).toNatClampNeg)] [] d_10_takeSnapshot_39 cv_10_149 v3 (by rfl) (by rfl) (Nat.le_of_ble_eq_true (by rfl)) (Nat.le_of_ble_eq_true (by rfl)) (by decide) (by decide) (by decide) (by decide) (C_10_told v3 (Nat.le_of_ble_eq_true (by rfl)) (fun h9 z9 e9 => ?_))
      show gG _ _ _ _ _ _ _ _ _ _
      exact g_iret M_10_takeSnapshot d_10_takeSnapshot_42 rfl (by first | rfl | decide) (k h9 (mOut.of z9 (((e2.weak (S' := [q 0, q 4]) (by simp)).trans e3 (by simp)).trans e9 (by simp)) (q2S (by decide) (by decide))))
    | succ n ih =>
      intro p hp h2 lv e2 ⟨f2, w2⟩ H0 H1
      have u2 := e2.keep a0 (by simpa using s.ne 0 4 (by decide) (by decide) (by decide))
      have u1 := e2.keep a1 (by simpa using s.ne 1 4 (by decide) (by decide) (by decide))
      refine g_iloadn M_10_takeSnapshot d_10_takeSnapshot_2 (by first | rfl | assumption) ?_
      refine g_sipush M_10_takeSnapshot (v := nI 1676) d_10_takeSnapshot_3 (by decide) ?_
      refine g_icmp_ge M_10_takeSnapshot (tgt := 27) d_10_takeSnapshot_6 (by decide) (fun c => absurd c (nI_ge (by omega) (by omega))) (fun _ => ?_)
      refine g_aloadn M_10_takeSnapshot d_10_takeSnapshot_9 (by first | rfl | assumption) ?_
      refine g_get M_10_takeSnapshot d_10_takeSnapshot_10 fl_10_19 (by assumption) (by rfl) ?_
      refine g_iloadn M_10_takeSnapshot d_10_takeSnapshot_13 (by first | rfl | assumption) ?_
      refine g_aloadn M_10_takeSnapshot d_10_takeSnapshot_14 (by first | rfl | assumption) ?_
      refine g_get M_10_takeSnapshot d_10_takeSnapshot_15 fl_10_7 (by assumption) (by rfl) ?_
      refine g_iloadn M_10_takeSnapshot d_10_takeSnapshot_18 (by first | rfl | assumption) ?_
      refine g_iaload M_10_takeSnapshot d_10_takeSnapshot_19 u1 (vp_in_nI (by omega) (by decide)) ?_
      refine e_ias M_10_takeSnapshot d_10_takeSnapshot_20 w2 (vp_in_nI (by omega) (by decide)) (fun h3 v3 e3 => ?_)
      refine g_iinc M_10_takeSnapshot (v := nI (p + 1)) d_10_takeSnapshot_21 H1 (by decide) (by first | rfl | (simp only [gc]; simp [*])) (nI_add p 1) ?_
      refine g_goto M_10_takeSnapshot (tgt := 2) d_10_takeSnapshot_24 (by decide) ?_
      exact ih (p + 1) (by omega) h3 _ (by simpa using e2.trans e3 (by simp)) ⟨_, v3⟩ H0 rfl
  exact loop 1676 0 (by decide) h _ (gExt.refl.weak (by simp)) ⟨_, a4⟩ rfl rfl
set_option maxHeartbeats 4000000 in
set_option maxRecDepth 100000 in
theorem C_10_records0 {q : Nat → Nat} {h : Hp_} {Q : Ot_ → Hp_ → Prop} (H : mdR h q) (k : ∀ h', gExt h h' [q 0, q 3] [] → h' (q 0) = some (.inr (10, mE q (nI 0) (nI 0) (nI 0) (nI 1) (nI 0) (nI 0))) → Q (.inl none) h') : gG 2 100 0 0 M_10_records 0 (lv_args 0 [.ref (q 0)]) [] h Q := by
  obtain ⟨s, a0, a1, ⟨f3, a3⟩, ⟨f4, a4⟩, ⟨f6, a6⟩, f7, a7⟩ := id H
  refine g_aloadn M_10_records d_10_records_0 (by first | rfl | assumption) ?_
  refine g_iconst M_10_records (v := nI 0) d_10_records_1 (by decide) ?_
  refine e_put M_10_records d_10_records_2 pt_10_40 a0 (by rfl) (by rfl) (fun h1 v1 e1 => ?_)
  have v1 : h1 (q 0) = some (.inr (10, mE q (nI 0) (nI 0) (nI 0) (nI 0) (nI 0) (nI 0))) := v1
  have b1 := e1.keep a1 (by simpa using s.ne 1 0 (by decide) (by decide) (by decide))
  have b3 := e1.keep a3 (by simpa using s.ne 3 0 (by decide) (by decide) (by decide))
  refine g_aloadn M_10_records d_10_records_5 (by first | rfl | assumption) ?_
  refine g_get M_10_records d_10_records_6 fl_10_44 v1 (by rfl) ?_
  refine g_iconst M_10_records (v := nI 4) d_10_records_9 (by decide) ?_
  refine g_icmp_ne M_10_records (tgt := 54) d_10_records_10 (by decide) (fun _ => ?_) (fun c => absurd c (by decide))
  refine g_iconst M_10_records (v := nI 0) d_10_records_54 (by decide) ?_
  refine g_istoren M_10_records d_10_records_55 (by decide) (by first | rfl | (simp only [gc]; simp [*])) ?_
  have loop : ∀ n p, p + n = 1676 → ∀ (h2 : Hp_) (lv : List (Nat × Value)), gExt h1 h2 [q 3] [] → (∃ f, h2 (q 3) = some (.inl (false, .int, (6704, .inl f)))) → gl lv 0 = some (.ref (q 0)) → gl lv 1 = some (.int (nI p)) → gG 2 100 0 0 M_10_records 56 lv [] h2 Q := by
    intro n
    induction n with
    | zero =>
      intro p hp h2 lv e2 w2 H0 H1
      have u2 := e2.keep v1 (by simpa using s.ne 0 3 (by decide) (by decide) (by decide))
      refine g_iloadn M_10_records d_10_records_56 (by first | rfl | assumption) ?_
      refine g_sipush M_10_records (v := nI 1676) d_10_records_57 (by decide) ?_
      refine g_icmp_ge M_10_records (tgt := 90) d_10_records_60 (by decide) (fun _ => ?_) (fun c => absurd (nI_le (by omega) (by omega)) c)
      refine g_aloadn M_10_records d_10_records_90 (by first | rfl | assumption) ?_
      refine g_dup M_10_records d_10_records_91 (by rfl) ?_
      refine g_get M_10_records d_10_records_92 fl_10_44 u2 (by rfl) ?_
      refine g_iconst M_10_records (v := nI 1) d_10_records_95 (by decide) ?_
      refine g_iadd M_10_records d_10_records_96 ?_
      refine e_put M_10_records d_10_records_97 pt_10_44 u2 (by rfl) (by rfl) (fun h3 v3 e3 => ?_)
      exact g_vret M_10_records d_10_records_100 rfl (k h3 (by simpa using (((e1.weak (S' := [q 0, q 3]) (by simp)).trans e2 (by simp)).trans e3 (by simp))) v3)
    | succ n ih =>
      intro p hp h2 lv e2 ⟨f2, w2⟩ H0 H1
      have u2 := e2.keep v1 (by simpa using s.ne 0 3 (by decide) (by decide) (by decide))
      have u1 := e2.keep b1 (by simpa using s.ne 1 3 (by decide) (by decide) (by decide))
      have ix : nI 1676 * nI 0 + nI p = nI p := by
        rw [show nI 0 = 0 from rfl, Int32.mul_zero, Int32.zero_add]
      refine g_iloadn M_10_records d_10_records_56 (by first | rfl | assumption) ?_
      refine g_sipush M_10_records (v := nI 1676) d_10_records_57 (by decide) ?_
      refine g_icmp_ge M_10_records (tgt := 90) d_10_records_60 (by decide) (fun c => absurd c (nI_ge (by omega) (by omega))) (fun _ => ?_)
      refine g_aloadn M_10_records d_10_records_63 (by first | rfl | assumption) ?_
      refine g_get M_10_records d_10_records_64 fl_10_16 u2 (by rfl) ?_
      refine g_sipush M_10_records (v := nI 1676) d_10_records_67 (by decide) ?_
      refine g_aloadn M_10_records d_10_records_70 (by first | rfl | assumption) ?_
      refine g_get M_10_records d_10_records_71 fl_10_44 u2 (by rfl) ?_
      refine g_imul M_10_records d_10_records_74 ?_
      refine g_iloadn M_10_records d_10_records_75 (by first | rfl | assumption) ?_
      refine g_iadd M_10_records d_10_records_76 ?_
      rw [ix]
      refine g_aloadn M_10_records d_10_records_77 (by first | rfl | assumption) ?_
      refine g_get M_10_records d_10_records_78 fl_10_7 u2 (by rfl) ?_
      refine g_iloadn M_10_records d_10_records_81 (by first | rfl | assumption) ?_
      refine g_iaload M_10_records d_10_records_82 u1 (vp_in_nI (by omega) (by decide)) ?_
      refine e_ias M_10_records d_10_records_83 w2 (vp_in_nI (by omega) (by decide)) (fun h3 v3 e3 => ?_)
      refine g_iinc M_10_records (v := nI (p + 1)) d_10_records_84 H1 (by decide) (by first | rfl | (simp only [gc]; simp [*])) (nI_add p 1) ?_
      refine g_goto M_10_records (tgt := 56) d_10_records_87 (by decide) ?_
      exact ih (p + 1) (by omega) h3 _ (by simpa using e2.trans e3 (by simp)) ⟨_, v3⟩ H0 rfl
  exact loop 1676 0 (by decide) h1 _ (gExt.refl.weak (by simp)) ⟨_, b3⟩ rfl rfl
set_option maxHeartbeats 4000000 in
set_option maxRecDepth 100000 in
theorem C_10_closes0 {a p : Nat} {fs : List Value} {f : Nat → Int32} {h : Hp_} {Q : Ot_ → Hp_ → Prop} (hne : a ≠ p) (h0 : h a = some (.inr (10, fs))) (hf : fs[0]? = some (.ref p)) (h1 : h p = some (.inl (false, .int, (1676, .inl f)))) (hz : f 3 = 0) (k : ∀ h', gExt h h' [p] [] → Q (.inl none) h') : gG 2 100 0 0 M_10_closes 0 (lv_args 0 [.ref a]) [] h Q := by
  have hz2 : f (nI 3).toNatClampNeg = 0 := by rw [nI_cl (by decide)]; exact hz
  refine g_iconst M_10_closes (v := nI 0) d_10_closes_0 (by decide) ?_
  refine g_istoren M_10_closes d_10_closes_1 (by decide) (by first | rfl | (simp only [gc]; simp [*])) ?_
  refine g_iconst M_10_closes (v := nI 0) d_10_closes_2 (by decide) ?_
  refine g_istoren M_10_closes d_10_closes_3 (by decide) (by first | rfl | (simp only [gc]; simp [*])) ?_
  refine g_iloadn M_10_closes d_10_closes_4 (by first | rfl | assumption) ?_
  refine g_aloadn M_10_closes d_10_closes_5 (by first | rfl | assumption) ?_
  refine g_get M_10_closes d_10_closes_6 fl_10_7 h0 hf ?_
  refine g_iconst M_10_closes (v := nI 3) d_10_closes_9 (by decide) ?_
  refine g_iaload M_10_closes d_10_closes_10 h1 (vp_in_nI (by decide) (by decide)) ?_
  rw [hz2]
  refine g_icmp_ge M_10_closes (tgt := 85) d_10_closes_11 (by decide) (fun _ => ?_) (fun c => absurd (by decide) c)
  refine g_bipush M_10_closes (v := nI 19) d_10_closes_85 (by decide) ?_
  refine g_iloadn M_10_closes d_10_closes_87 (by first | rfl | assumption) ?_
  refine g_imul M_10_closes d_10_closes_88 ?_
  refine g_top M_10_closes (y := .int (nI 0)) (by decide) ?_
  refine g_istoren M_10_closes d_10_closes_89 (by decide) (by first | rfl | (simp only [gc]; simp [*])) ?_
  have loop : ∀ n j, j + n = 570 → ∀ (h2 : Hp_) (lv : List (Nat × Value)), gExt h h2 [p] [] → (∃ f, h2 p = some (.inl (false, .int, (1676, .inl f)))) → gl lv 0 = some (.ref a) → gl lv 1 = some (.int (nI 0)) → gl lv 2 = some (.int (nI j)) → gG 2 100 0 0 M_10_closes 90 lv [] h2 Q := by
    intro n
    induction n with
    | zero =>
      intro j hj h2 lv e2 ⟨f2, w2⟩ H0 H1 H2
      have u2 := e2.keep h0 (by simpa using hne)
      refine g_iloadn M_10_closes d_10_closes_90 (by first | rfl | assumption) ?_
      refine g_sipush M_10_closes (v := nI 570) d_10_closes_91 (by decide) ?_
      refine g_icmp_ge M_10_closes (tgt := 114) d_10_closes_94 (by decide) (fun _ => ?_) (fun c => absurd (nI_le (by omega) (by omega)) c)
      refine g_aloadn M_10_closes d_10_closes_114 (by first | rfl | assumption) ?_
      refine g_get M_10_closes d_10_closes_115 fl_10_7 u2 hf ?_
      refine g_iconst M_10_closes (v := nI 3) d_10_closes_118 (by decide) ?_
      refine g_iloadn M_10_closes d_10_closes_119 (by first | rfl | assumption) ?_
      refine e_ias M_10_closes d_10_closes_120 w2 (vp_in_nI (by decide) (by decide)) (fun h3 v3 e3 => ?_)
      exact g_vret M_10_closes d_10_closes_121 rfl (k h3 (by simpa using (e2.trans e3 (by simp))))
    | succ n ih =>
      intro j hj h2 lv e2 ⟨f2, w2⟩ H0 H1 H2
      have u2 := e2.keep h0 (by simpa using hne)
      refine g_iloadn M_10_closes d_10_closes_90 (by first | rfl | assumption) ?_
      refine g_sipush M_10_closes (v := nI 570) d_10_closes_91 (by decide) ?_
      refine g_icmp_ge M_10_closes (tgt := 114) d_10_closes_94 (by decide) (fun c => absurd c (nI_ge (by omega) (by omega))) (fun _ => ?_)
      refine g_aloadn M_10_closes d_10_closes_97 (by first | rfl | assumption) ?_
      refine g_get M_10_closes d_10_closes_98 fl_10_7 u2 hf ?_
      refine g_sipush M_10_closes (v := nI 1106) d_10_closes_101 (by decide) ?_
      refine g_iloadn M_10_closes d_10_closes_104 (by first | rfl | assumption) ?_
      refine g_iadd M_10_closes d_10_closes_105 ?_
      rw [nI_add]
      refine g_iconst M_10_closes (v := nI 0) d_10_closes_106 (by decide) ?_
      refine e_ias M_10_closes d_10_closes_107 w2 (vp_in_nI (by omega) (by decide)) (fun h3 v3 e3 => ?_)
      refine g_iinc M_10_closes (v := nI (j + 1)) d_10_closes_108 H2 (by decide) (by first | rfl | (simp only [gc]; simp [*])) (nI_add j 1) ?_
      refine g_goto M_10_closes (tgt := 90) d_10_closes_111 (by decide) ?_
      exact ih (j + 1) (by omega) h3 _ (by simpa using e2.trans e3 (by simp)) ⟨_, v3⟩ H0 H1 rfl
  exact loop 570 0 (by decide) h _ (gExt.refl.weak (by simp)) ⟨_, h1⟩ rfl rfl rfl
set_option maxHeartbeats 4000000 in
set_option maxRecDepth 100000 in
theorem Y_meltStale {q : Nat → Nat} {h : Hp_} {Q : Ot_ → Hp_ → Prop} (H : mdR h q) (k : ∀ h', mOut q h h' (nI 0) → Q (.inl (some (.int (nI 0)))) h') : gG 4 200 0 0 M_10_meltStale 0 (lv_args 0 [.ref (q 0)]) [] h Q := by
  obtain ⟨s, a0, a1, ⟨f3, a3⟩, ⟨f4, a4⟩, ⟨f6, a6⟩, f7, a7⟩ := id H
  refine g_aloadn M_10_meltStale d_10_meltStale_0 (by first | rfl | assumption) ?_
  refine gc_V M_10_meltStale 0 0 [] [] d_10_meltStale_1 cv_10_104 a0 (by rfl) (by rfl) (Nat.le_of_ble_eq_true (by rfl)) (Nat.le_of_ble_eq_true (by rfl)) (by decide) (by decide) (by decide) (by decide) (C_10_records0 H (fun h1 e1 v1 => ?_))
  have b1 := e1.keep a1 (by simpa using ⟨s.ne 1 0 (by decide) (by decide) (by decide), s.ne 1 3 (by decide) (by decide) (by decide)⟩)
  show gG _ _ _ _ _ _ _ _ _ _
  refine g_aloadn M_10_meltStale d_10_meltStale_4 (by first | rfl | assumption) ?_
  refine gc_V M_10_meltStale 0 0 [] [] d_10_meltStale_5 cv_10_113 v1 (by rfl) (by rfl) (Nat.le_of_ble_eq_true (by rfl)) (Nat.le_of_ble_eq_true (by rfl)) (by decide) (by decide) (by decide) (by decide) (C_10_stale0 v1 (by rfl) b1 (by decide) ?_)
  show gG _ _ _ _ _ _ _ _ _ _
  refine g_istoren M_10_meltStale d_10_meltStale_8 (by decide) (by first | rfl | (simp only [gc]; simp [*])) ?_
  refine g_iconst M_10_meltStale (v := nI 0) d_10_meltStale_9 (by decide) ?_
  refine g_istoren M_10_meltStale d_10_meltStale_10 (by decide) (by first | rfl | (simp only [gc]; simp [*])) ?_
  refine g_iloadn M_10_meltStale d_10_meltStale_11 (by first | rfl | assumption) ?_
  refine g_aloadn M_10_meltStale d_10_meltStale_12 (by first | rfl | assumption) ?_
  refine g_get M_10_meltStale d_10_meltStale_13 fl_10_7 v1 (by rfl) ?_
  refine g_iconst M_10_meltStale (v := nI 3) d_10_meltStale_16 (by decide) ?_
  refine g_iaload M_10_meltStale d_10_meltStale_17 b1 (vp_in_nI (by decide) (by decide)) ?_
  refine g_icmp_ge M_10_meltStale (tgt := 69) d_10_meltStale_18 (by decide) (fun _ => ?_) (fun c => absurd (by decide) c)
  refine g_aloadn M_10_meltStale d_10_meltStale_69 (by first | rfl | assumption) ?_
  refine g_get M_10_meltStale d_10_meltStale_70 fl_10_7 v1 (by rfl) ?_
  refine g_iconst M_10_meltStale (v := nI 5) d_10_meltStale_73 (by decide) ?_
  refine g_dup2 M_10_meltStale d_10_meltStale_74 (by rfl) (by rfl) ?_
  refine g_iaload M_10_meltStale d_10_meltStale_75 b1 (vp_in_nI (by decide) (by decide)) ?_
  refine g_iloadn M_10_meltStale d_10_meltStale_76 (by first | rfl | assumption) ?_
  refine g_iadd M_10_meltStale d_10_meltStale_77 ?_
  refine e_ias M_10_meltStale d_10_meltStale_78 b1 (vp_in_nI (by decide) (by decide)) (fun h2 v2 e2 => ?_)
  have u2 := e2.keep v1 (by simpa using s.ne 0 1 (by decide) (by decide) (by decide))
  refine g_aloadn M_10_meltStale d_10_meltStale_79 (by first | rfl | assumption) ?_
  refine gc_V M_10_meltStale 0 0 [] [] d_10_meltStale_80 cv_10_110 u2 (by rfl) (by rfl) (Nat.le_of_ble_eq_true (by rfl)) (Nat.le_of_ble_eq_true (by rfl)) (by decide) (by decide) (by decide) (by decide) (C_10_closes0 (s.ne 0 1 (by decide) (by decide) (by decide)) u2 (by rfl) v2 (by decide) (fun h3 e3 => ?_))
  have u3 := e3.keep u2 (by simpa using s.ne 0 1 (by decide) (by decide) (by decide))
  show gG _ _ _ _ _ _ _ _ _ _
  refine g_iloadn M_10_meltStale d_10_meltStale_83 (by first | rfl | assumption) ?_
  exact g_iret M_10_meltStale d_10_meltStale_84 rfl (by first | rfl | decide) (k h3 (mOut.of ⟨_, u3, rfl⟩ (((e1.weak (S' := [q 0, q 3, q 1]) (fun x hx => by simp at hx ⊢; rcases hx with z | z <;> simp [z])).trans e2 (by simp)).trans e3 (by simp)) (q3S (by decide) (by decide) (by decide))))
