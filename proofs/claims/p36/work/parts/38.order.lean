/-! ===== an order, read out of a text without ';' ===== -/
abbrev Or_ : Type := Int32 × Int32 × Int32 × List Nat × List Nat
def orT (h : Hp_) (a f lf s ls : Nat) (x : Or_) : Prop := orR h a f lf s ls x.1 x.2.1 x.2.2.1 x.2.2.2.1 x.2.2.2.2
def oStep (x : Or_) (c : Nat) : Or_ :=
  if sml c = true then (if x.2.2.1 = 0 then (x.1, x.2.1, x.2.2.1, x.2.2.2.1 ++ [c], x.2.2.2.2) else (x.1, x.2.1, x.2.2.1, x.2.2.2.1, x.2.2.2.2 ++ [c]))
  else if c = 42 then (nI 2, x.2) else if c = 33 then (x.1, nI 1, x.2.2) else if c = 63 then (x.1, nI 2, x.2.2)
  else if c = 62 then (x.1, x.2.1, nI 1, x.2.2.2) else if c = 61 then (nI 1, x.2.1, nI 1, x.2.2.2) else x
def o0 : Or_ := (nI 0, nI 0, nI 0, [], [])
def oRun (x : Or_) (tx : List Nat) : Or_ := tx.foldl oStep x
def oLen (x : Or_) : Nat := x.2.2.2.1.length + x.2.2.2.2.length
theorem oStep_len {x : Or_} {c : Nat} : oLen (oStep x c) ≤ oLen x + 1 := by
  unfold oStep oLen
  repeat' split
  all_goals simp <;> omega
theorem oRun_len {tx : List Nat} : ∀ {x : Or_}, oLen (oRun x tx) ≤ oLen x + tx.length := by
  induction tx with
  | nil => exact fun {x} => Nat.le_refl _
  | cons c r ih =>
    intro x
    have h1 := ih (x := oStep x c)
    have h2 := oStep_len (x := x) (c := c)
    show oLen (oRun (oStep x c) r) ≤ oLen x + (r.length + 1)
    omega
theorem oRun_snoc {tx : List Nat} {p : Nat} {x : Or_} (h : p < tx.length) : oRun x (tx.take (p + 1)) = oStep (oRun x (tx.take p)) (tx.getD p 0) := by
  rw [← take_snoc h]
  unfold oRun
  rw [List.foldl_append]
  rfl
set_option maxHeartbeats 4000000 in
set_option maxRecDepth 100000 in
theorem C_4_clear {a f lf s ls : Nat} {x : Or_} {h : Hp_} {Q : Ot_ → Hp_ → Prop} (nd : [a, f, lf, s, ls].Nodup) (O : orT h a f lf s ls x) (k : ∀ h', gExt h h' [a, f, lf, s, ls] [] → orT h' a f lf s ls o0 → Q (.inl none) h') : gG 2 90 0 0 M_4_clear 0 (lv_args 0 [.ref a]) [] h Q := by
  obtain ⟨⟨nf, nlf, ns, nls⟩, ⟨f1, f2, f3⟩, ⟨l1, l2⟩, s1⟩ : (a ≠ f ∧ a ≠ lf ∧ a ≠ s ∧ a ≠ ls) ∧ (f ≠ lf ∧ f ≠ s ∧ f ≠ ls) ∧ (lf ≠ s ∧ lf ≠ ls) ∧ s ≠ ls := by simpa using nd
  obtain ⟨O0, F, S⟩ := id O
  refine g_aloadn M_4_clear d_4_clear_0 (by first | rfl | assumption) ?_
  refine g_iconst M_4_clear (v := nI 0) d_4_clear_1 (by decide) ?_
  refine e_put M_4_clear d_4_clear_2 pt_4_19 O0 (by rfl) (by rfl) (fun h1 v1 e1 => ?_)
  refine g_aloadn M_4_clear d_4_clear_5 (by first | rfl | assumption) ?_
  refine g_iconst M_4_clear (v := nI 0) d_4_clear_6 (by decide) ?_
  refine e_put M_4_clear d_4_clear_7 pt_4_25 v1 (by rfl) (by rfl) (fun h2 v2 e2 => ?_)
  refine g_aloadn M_4_clear d_4_clear_10 (by first | rfl | assumption) ?_
  refine g_iconst M_4_clear (v := nI 0) d_4_clear_11 (by decide) ?_
  refine e_put M_4_clear d_4_clear_12 pt_4_28 v2 (by rfl) (by rfl) (fun h3 v3 e3 => ?_)
  have e03 := (e1.t e2).t e3
  have F3 := F.keep e03 (by simpa using nf.symm) (by simpa using nlf.symm)
  have S3 := S.keep e03 (by simpa using ns.symm) (by simpa using nls.symm)
  refine g_aloadn M_4_clear d_4_clear_15 (by first | rfl | assumption) ?_
  refine g_get M_4_clear d_4_clear_16 fl_4_10 (by assumption) (by rfl) ?_
  refine gc_V M_4_clear 0 0 [] _ d_4_clear_19 cv_4_32 F3.2.1 (by rfl) (by rfl) (Nat.le_of_ble_eq_true (by rfl)) (Nat.le_of_ble_eq_true (by rfl)) (by decide) (by decide) (by decide) (by decide) (C_7_clear f1.symm F3 (fun h4 e4 F4 => ?_))
  have v4 := e4.keep v3 (by simpa using nf)
  have S4 := S3.keep e4 (by simpa using f2.symm) (by simpa using f3.symm)
  show gG _ _ _ _ _ _ _ _ _ _
  refine g_aloadn M_4_clear d_4_clear_22 (by first | rfl | assumption) ?_
  refine g_get M_4_clear d_4_clear_23 fl_4_16 (by assumption) (by rfl) ?_
  refine gc_V M_4_clear 0 0 [] _ d_4_clear_26 cv_4_32 S4.2.1 (by rfl) (by rfl) (Nat.le_of_ble_eq_true (by rfl)) (Nat.le_of_ble_eq_true (by rfl)) (by decide) (by decide) (by decide) (by decide) (C_7_clear s1.symm S4 (fun h5 e5 S5 => ?_))
  have v5 := e5.keep v4 (by simpa using ns)
  have F5 := F4.keep e5 (by simpa using f2) (by simpa using l1)
  have t1 := e03.weak (S' := [a, f, lf, s, ls]) (by simp)
  have t2 := e4.weak (S' := [a, f, lf, s, ls]) (by simp)
  have t3 := e5.weak (S' := [a, f, lf, s, ls]) (by simp)
  show gG _ _ _ _ _ _ _ _ _ _
  exact g_vret M_4_clear d_4_clear_29 rfl (k h5 ((t1.t t2).t t3) ⟨v5, F5, S5⟩)
set_option maxHeartbeats 4000000 in
set_option maxRecDepth 100000 in
theorem C_4_takeLetter {c : Nat} {a f lf s ls : Nat} {x : Or_} {h : Hp_} {Q : Ot_ → Hp_ → Prop} (nd : [a, f, lf, s, ls].Nodup) (O : orT h a f lf s ls x) (hc : c < 65536) (hl : oLen x < 16) (sm : sml c = true) (k : ∀ h', gExt h h' [a, f, lf, s, ls] [] → orT h' a f lf s ls (oStep x c) → Q (.inl none) h') : gG 2 90 0 0 M_4_takeLetter 0 (lv_args 0 [.ref a, .int (nI c)]) [] h Q := by
  obtain ⟨⟨nf, nlf, ns, nls⟩, ⟨f1, f2, f3⟩, ⟨l1, l2⟩, s1⟩ : (a ≠ f ∧ a ≠ lf ∧ a ≠ s ∧ a ≠ ls) ∧ (f ≠ lf ∧ f ≠ s ∧ f ≠ ls) ∧ (lf ≠ s ∧ lf ≠ ls) ∧ s ≠ ls := by simpa using nd
  obtain ⟨O0, F, S⟩ := id O
  by_cases z : x.2.2.1 = 0
  · refine g_aloadn M_4_takeLetter d_4_takeLetter_0 (by first | rfl | assumption) ?_
    refine g_get M_4_takeLetter d_4_takeLetter_1 fl_4_28 (by assumption) (by rfl) ?_
    refine g_if_eq M_4_takeLetter (tgt := 18) d_4_takeLetter_4 (by decide) (fun _ => ?_) (fun c9 => False.elim (c9 z))
    refine g_aloadn M_4_takeLetter d_4_takeLetter_18 (by first | rfl | assumption) ?_
    refine g_get M_4_takeLetter d_4_takeLetter_19 fl_4_10 (by assumption) (by rfl) ?_
    refine g_iloadn M_4_takeLetter d_4_takeLetter_22 (by first | rfl | assumption) ?_
    refine gc_V M_4_takeLetter 0 0 [_] _ d_4_takeLetter_23 cv_4_45 F.2.1 (by rfl) (by rfl) (Nat.le_of_ble_eq_true (by rfl)) (Nat.le_of_ble_eq_true (by rfl)) (by decide) (by decide) (by decide) (by decide) (C_7_append F (by unfold oLen at hl; omega) hc f1 (fun h1 e1 F1 => ?_))
    have v1 := e1.keep O0 (by simpa using ⟨nf, nlf⟩)
    have S1 := S.keep e1 (by simpa using ⟨f2.symm, l1.symm⟩) (by simpa using ⟨f3.symm, l2.symm⟩)
    show gG _ _ _ _ _ _ _ _ _ _
    exact g_vret M_4_takeLetter d_4_takeLetter_26 rfl (k h1 (e1.weak (by simp)) (by unfold oStep; rw [if_pos sm, if_pos z]; exact ⟨v1, F1, S1⟩))
  · refine g_aloadn M_4_takeLetter d_4_takeLetter_0 (by first | rfl | assumption) ?_
    refine g_get M_4_takeLetter d_4_takeLetter_1 fl_4_28 (by assumption) (by rfl) ?_
    refine g_if_eq M_4_takeLetter (tgt := 18) d_4_takeLetter_4 (by decide) (fun c9 => False.elim (z c9)) (fun _ => ?_)
    refine g_aloadn M_4_takeLetter d_4_takeLetter_7 (by first | rfl | assumption) ?_
    refine g_get M_4_takeLetter d_4_takeLetter_8 fl_4_16 (by assumption) (by rfl) ?_
    refine g_iloadn M_4_takeLetter d_4_takeLetter_11 (by first | rfl | assumption) ?_
    refine gc_V M_4_takeLetter 0 0 [_] _ d_4_takeLetter_12 cv_4_45 S.2.1 (by rfl) (by rfl) (Nat.le_of_ble_eq_true (by rfl)) (Nat.le_of_ble_eq_true (by rfl)) (by decide) (by decide) (by decide) (by decide) (C_7_append S (by unfold oLen at hl; omega) hc s1 (fun h1 e1 S1 => ?_))
    have v1 := e1.keep O0 (by simpa using ⟨ns, nls⟩)
    have F1 := F.keep e1 (by simpa using ⟨f2, f3⟩) (by simpa using ⟨l1, l2⟩)
    show gG _ _ _ _ _ _ _ _ _ _
    refine g_goto M_4_takeLetter (tgt := 26) d_4_takeLetter_15 (by decide) ?_
    exact g_vret M_4_takeLetter d_4_takeLetter_26 rfl (k h1 (e1.weak (by simp)) (by unfold oStep; rw [if_pos sm, if_neg z]; exact ⟨v1, F1, S1⟩))
set_option maxHeartbeats 4000000 in
set_option maxRecDepth 100000 in
theorem C_4_take {c : Nat} {a f lf s ls : Nat} {x : Or_} {h : Hp_} {Q : Ot_ → Hp_ → Prop} (nd : [a, f, lf, s, ls].Nodup) (O : orT h a f lf s ls x) (hc : c < 65536) (hl : oLen x < 16) (k : ∀ h', gExt h h' [a, f, lf, s, ls] [] → orT h' a f lf s ls (oStep x c) → Q (.inl none) h') : gG 3 130 0 0 M_4_take 0 (lv_args 0 [.ref a, .int (nI c)]) [] h Q := by
  obtain ⟨⟨nf, nlf, ns, nls⟩, ⟨f1, f2, f3⟩, ⟨l1, l2⟩, s1⟩ : (a ≠ f ∧ a ≠ lf ∧ a ≠ s ∧ a ≠ ls) ∧ (f ≠ lf ∧ f ≠ s ∧ f ≠ ls) ∧ (lf ≠ s ∧ lf ≠ ls) ∧ s ≠ ls := by simpa using nd
  obtain ⟨O0, F, S⟩ := id O
  refine g_iloadn M_4_take d_4_take_0 (by first | rfl | assumption) ?_
  refine gc_N M_4_take 0 0 [_] _ d_4_take_1 cn_4_35 (by rfl) (by rfl) (Nat.le_of_ble_eq_true (by rfl)) (Nat.le_of_ble_eq_true (by rfl)) (by decide) (by decide) (by decide) (by decide) (C_9_isSmallLetter hc ?_)
  show gG _ _ _ _ _ _ _ _ _ _
  cases sm : sml c with
  | true =>
    refine g_if_eq M_4_take (tgt := 15) d_4_take_4 (by decide) (fun c9 => absurd c9 (by decide)) (fun _ => ?_)
    refine g_aloadn M_4_take d_4_take_7 (by first | rfl | assumption) ?_
    refine g_iloadn M_4_take d_4_take_8 (by first | rfl | assumption) ?_
    refine gc_V M_4_take 0 0 [_] _ d_4_take_9 cv_4_41 O0 (by rfl) (by rfl) (Nat.le_of_ble_eq_true (by rfl)) (Nat.le_of_ble_eq_true (by rfl)) (by decide) (by decide) (by decide) (by decide) (C_4_takeLetter nd O hc hl sm (fun h1 e1 O1 => ?_))
    show gG _ _ _ _ _ _ _ _ _ _
    refine g_goto M_4_take (tgt := 87) d_4_take_12 (by decide) ?_
    exact g_vret M_4_take d_4_take_87 rfl (k h1 e1 O1)
  | false =>
    have us : ∀ {A B : Or_}, (if sml c = true then A else B) = B := fun {A B} => if_neg (by rw [sm]; decide)
    refine g_if_eq M_4_take (tgt := 15) d_4_take_4 (by decide) (fun _ => ?_) (fun c9 => absurd rfl c9)
    by_cases z42 : c = 42
    · refine g_iloadn M_4_take d_4_take_15 (by first | rfl | assumption) ?_
      refine g_bipush M_4_take (v := nI 42) d_4_take_16 (by decide) ?_
      refine g_icmp_ne M_4_take (tgt := 29) d_4_take_18 (by decide) (fun c9 => False.elim (c9 (by rw [z42]))) (fun _ => ?_)
      refine g_aloadn M_4_take d_4_take_21 (by first | rfl | assumption) ?_
      refine g_iconst M_4_take (v := nI 2) d_4_take_22 (by decide) ?_
      refine e_put M_4_take d_4_take_23 pt_4_19 O0 (by rfl) (by rfl) (fun h1 v1 e1 => ?_)
      have F1 := F.keep e1 (by simpa using nf.symm) (by simpa using nlf.symm)
      have S1 := S.keep e1 (by simpa using ns.symm) (by simpa using nls.symm)
      refine g_goto M_4_take (tgt := 87) d_4_take_26 (by decide) ?_
      exact g_vret M_4_take d_4_take_87 rfl (k h1 (e1.weak (by simp)) (by unfold oStep; rw [us, if_pos z42]; exact ⟨v1, F1, S1⟩))
    refine g_iloadn M_4_take d_4_take_15 (by first | rfl | assumption) ?_
    refine g_bipush M_4_take (v := nI 42) d_4_take_16 (by decide) ?_
    refine g_icmp_ne M_4_take (tgt := 29) d_4_take_18 (by decide) (fun _ => ?_) (fun c9 => absurd ((nI_eq (by omega) (by decide)).mp c9) z42)
    by_cases z33 : c = 33
    · refine g_iloadn M_4_take d_4_take_29 (by first | rfl | assumption) ?_
      refine g_bipush M_4_take (v := nI 33) d_4_take_30 (by decide) ?_
      refine g_icmp_ne M_4_take (tgt := 43) d_4_take_32 (by decide) (fun c9 => False.elim (c9 (by rw [z33]))) (fun _ => ?_)
      refine g_aloadn M_4_take d_4_take_35 (by first | rfl | assumption) ?_
      refine g_iconst M_4_take (v := nI 1) d_4_take_36 (by decide) ?_
      refine e_put M_4_take d_4_take_37 pt_4_25 O0 (by rfl) (by rfl) (fun h1 v1 e1 => ?_)
      have F1 := F.keep e1 (by simpa using nf.symm) (by simpa using nlf.symm)
      have S1 := S.keep e1 (by simpa using ns.symm) (by simpa using nls.symm)
      refine g_goto M_4_take (tgt := 87) d_4_take_40 (by decide) ?_
      exact g_vret M_4_take d_4_take_87 rfl (k h1 (e1.weak (by simp)) (by unfold oStep; rw [us, if_neg z42, if_pos z33]; exact ⟨v1, F1, S1⟩))
    refine g_iloadn M_4_take d_4_take_29 (by first | rfl | assumption) ?_
    refine g_bipush M_4_take (v := nI 33) d_4_take_30 (by decide) ?_
    refine g_icmp_ne M_4_take (tgt := 43) d_4_take_32 (by decide) (fun _ => ?_) (fun c9 => absurd ((nI_eq (by omega) (by decide)).mp c9) z33)
    by_cases z63 : c = 63
    · refine g_iloadn M_4_take d_4_take_43 (by first | rfl | assumption) ?_
      refine g_bipush M_4_take (v := nI 63) d_4_take_44 (by decide) ?_
      refine g_icmp_ne M_4_take (tgt := 57) d_4_take_46 (by decide) (fun c9 => False.elim (c9 (by rw [z63]))) (fun _ => ?_)
      refine g_aloadn M_4_take d_4_take_49 (by first | rfl | assumption) ?_
      refine g_iconst M_4_take (v := nI 2) d_4_take_50 (by decide) ?_
      refine e_put M_4_take d_4_take_51 pt_4_25 O0 (by rfl) (by rfl) (fun h1 v1 e1 => ?_)
      have F1 := F.keep e1 (by simpa using nf.symm) (by simpa using nlf.symm)
      have S1 := S.keep e1 (by simpa using ns.symm) (by simpa using nls.symm)
      refine g_goto M_4_take (tgt := 87) d_4_take_54 (by decide) ?_
      exact g_vret M_4_take d_4_take_87 rfl (k h1 (e1.weak (by simp)) (by unfold oStep; rw [us, if_neg z42, if_neg z33, if_pos z63]; exact ⟨v1, F1, S1⟩))
    refine g_iloadn M_4_take d_4_take_43 (by first | rfl | assumption) ?_
    refine g_bipush M_4_take (v := nI 63) d_4_take_44 (by decide) ?_
    refine g_icmp_ne M_4_take (tgt := 57) d_4_take_46 (by decide) (fun _ => ?_) (fun c9 => absurd ((nI_eq (by omega) (by decide)).mp c9) z63)
    by_cases z62 : c = 62
    · refine g_iloadn M_4_take d_4_take_57 (by first | rfl | assumption) ?_
      refine g_bipush M_4_take (v := nI 62) d_4_take_58 (by decide) ?_
      refine g_icmp_ne M_4_take (tgt := 71) d_4_take_60 (by decide) (fun c9 => False.elim (c9 (by rw [z62]))) (fun _ => ?_)
      refine g_aloadn M_4_take d_4_take_63 (by first | rfl | assumption) ?_
      refine g_iconst M_4_take (v := nI 1) d_4_take_64 (by decide) ?_
      refine e_put M_4_take d_4_take_65 pt_4_28 O0 (by rfl) (by rfl) (fun h1 v1 e1 => ?_)
      have F1 := F.keep e1 (by simpa using nf.symm) (by simpa using nlf.symm)
      have S1 := S.keep e1 (by simpa using ns.symm) (by simpa using nls.symm)
      refine g_goto M_4_take (tgt := 87) d_4_take_68 (by decide) ?_
      exact g_vret M_4_take d_4_take_87 rfl (k h1 (e1.weak (by simp)) (by unfold oStep; rw [us, if_neg z42, if_neg z33, if_neg z63, if_pos z62]; exact ⟨v1, F1, S1⟩))
    refine g_iloadn M_4_take d_4_take_57 (by first | rfl | assumption) ?_
    refine g_bipush M_4_take (v := nI 62) d_4_take_58 (by decide) ?_
    refine g_icmp_ne M_4_take (tgt := 71) d_4_take_60 (by decide) (fun _ => ?_) (fun c9 => absurd ((nI_eq (by omega) (by decide)).mp c9) z62)
    by_cases z61 : c = 61
    · refine g_iloadn M_4_take d_4_take_71 (by first | rfl | assumption) ?_
      refine g_bipush M_4_take (v := nI 61) d_4_take_72 (by decide) ?_
      refine g_icmp_ne M_4_take (tgt := 87) d_4_take_74 (by decide) (fun c9 => False.elim (c9 (by rw [z61]))) (fun _ => ?_)
      refine g_aloadn M_4_take d_4_take_77 (by first | rfl | assumption) ?_
      refine g_iconst M_4_take (v := nI 1) d_4_take_78 (by decide) ?_
      refine e_put M_4_take d_4_take_79 pt_4_19 O0 (by rfl) (by rfl) (fun h1 v1 e1 => ?_)
      refine g_aloadn M_4_take d_4_take_82 (by first | rfl | assumption) ?_
      refine g_iconst M_4_take (v := nI 1) d_4_take_83 (by decide) ?_
      refine e_put M_4_take d_4_take_84 pt_4_28 v1 (by rfl) (by rfl) (fun h2 v2 e2 => ?_)
      have F1 := F.keep (e1.t e2) (by simpa using nf.symm) (by simpa using nlf.symm)
      have S1 := S.keep (e1.t e2) (by simpa using ns.symm) (by simpa using nls.symm)
      exact g_vret M_4_take d_4_take_87 rfl (k h2 ((e1.t e2).weak (by simp)) (by unfold oStep; rw [us, if_neg z42, if_neg z33, if_neg z63, if_neg z62, if_pos z61]; exact ⟨v2, F1, S1⟩))
    refine g_iloadn M_4_take d_4_take_71 (by first | rfl | assumption) ?_
    refine g_bipush M_4_take (v := nI 61) d_4_take_72 (by decide) ?_
    refine g_icmp_ne M_4_take (tgt := 87) d_4_take_74 (by decide) (fun _ => ?_) (fun c9 => absurd ((nI_eq (by omega) (by decide)).mp c9) z61)
    exact g_vret M_4_take d_4_take_87 rfl (k h gExt.r (by unfold oStep; rw [us, if_neg z42, if_neg z33, if_neg z63, if_neg z62, if_neg z61]; exact O))
set_option maxHeartbeats 4000000 in
set_option maxRecDepth 100000 in
theorem C_5_read1 {t sg g : Nat} {tx : List Nat} {a f lf s ls : Nat} {x : Or_} {h : Hp_} {Q : Ot_ → Hp_ → Prop} (nd : [a, f, lf, s, ls].Nodup) (o : ∀ y ∈ [t, sg, g], y ∉ [a, f, lf, s, ls]) (R : txR h t sg g tx) (hl : tx.length ≤ 15) (hs : ∀ c ∈ tx, c ≠ 59) (O : orT h a f lf s ls x) (k : ∀ v h', gExt h h' [a, f, lf, s, ls] [] → txR h' t sg g tx → orT h' a f lf s ls (oRun o0 tx) → Q (.inl (some (.int v))) h') : gG 4 170 0 0 M_5_read 0 (lv_args 0 [.ref t, .int (nI 0), .ref a]) [] h Q := by
  obtain ⟨⟨tl, tc⟩, v, -, -⟩ := id R
  refine g_aloadn M_5_read d_5_read_0 (by first | rfl | assumption) ?_
  refine gc_V M_5_read 0 0 [] _ d_5_read_1 cv_5_41 O.1 (by rfl) (by rfl) (Nat.le_of_ble_eq_true (by rfl)) (Nat.le_of_ble_eq_true (by rfl)) (by decide) (by decide) (by decide) (by decide) (C_4_clear nd O (fun h0 e0 O0 => ?_))
  have R0 := R.keep e0 (o _ (by simp)) (o _ (by simp)) (o _ (by simp))
  show gG _ _ _ _ _ _ _ _ _ _
  refine g_iloadn M_5_read d_5_read_4 (by first | rfl | assumption) ?_
  refine g_istoren M_5_read d_5_read_5 (by decide) (by first | rfl | (simp only [gc]; simp [*])) ?_
  have loop : ∀ n p h1, p + n = tx.length → gExt h h1 [a, f, lf, s, ls] [] → txR h1 t sg g tx → orT h1 a f lf s ls (oRun o0 (tx.take p)) → ∀ lv : List (Nat × Value), gl lv 0 = some (.ref t) → gl lv 2 = some (.ref a) → gl lv 3 = some (.int (nI p)) → gG 4 170 0 0 M_5_read 6 lv [] h1 Q := by
    intro n
    induction n with
    | zero =>
      intro p h1 hp e1 R1 O1 lv H0 H2 H3
      obtain ⟨-, v1, -, -⟩ := id R1
      rw [List.take_of_length_le (by omega)] at O1
      refine g_iloadn M_5_read d_5_read_6 (by first | rfl | assumption) ?_
      refine g_aloadn M_5_read d_5_read_7 (by first | rfl | assumption) ?_
      refine g_get M_5_read d_5_read_8 fl_5_22 (by assumption) (by rfl) ?_
      refine g_icmp_ge M_5_read (tgt := 39) d_5_read_11 (by decide) (fun _ => ?_) (fun c9 => absurd (nI_le (by omega) (by omega)) c9)
      refine g_iloadn M_5_read d_5_read_39 (by first | rfl | assumption) ?_
      refine g_iconst M_5_read (v := nI 1) d_5_read_40 (by decide) ?_
      refine g_iadd M_5_read d_5_read_41 ?_
      exact g_iret M_5_read d_5_read_42 rfl rfl (k _ h1 e1 R1 O1)
    | succ n ih =>
      intro p h1 hp e1 R1 O1 lv H0 H2 H3
      obtain ⟨-, v1, -, -⟩ := id R1
      have ns : tx.getD p 0 ≠ 59 := by
        rw [List.getD_eq_getElem?_getD, List.getElem?_eq_getElem (show p < tx.length by omega)]
        exact hs _ (List.getElem_mem _)
      refine g_iloadn M_5_read d_5_read_6 (by first | rfl | assumption) ?_
      refine g_aloadn M_5_read d_5_read_7 (by first | rfl | assumption) ?_
      refine g_get M_5_read d_5_read_8 fl_5_22 (by assumption) (by rfl) ?_
      refine g_icmp_ge M_5_read (tgt := 39) d_5_read_11 (by decide) (fun c9 => absurd c9 (nI_ge (by omega) (by omega))) (fun _ => ?_)
      refine g_aloadn M_5_read d_5_read_14 (by first | rfl | assumption) ?_
      refine g_iloadn M_5_read d_5_read_15 (by first | rfl | assumption) ?_
      refine gc_V M_5_read 0 0 [_] _ d_5_read_16 cv_5_29 v1 (by rfl) (by rfl) (Nat.le_of_ble_eq_true (by rfl)) (Nat.le_of_ble_eq_true (by rfl)) (by decide) (by decide) (by decide) (by decide) (C_5_sign R1 (by omega) ?_)
      show gG _ _ _ _ _ _ _ _ _ _
      refine g_bipush M_5_read (v := nI 59) d_5_read_19 (by decide) ?_
      refine g_icmp_eq M_5_read (tgt := 39) d_5_read_21 (by decide) (fun c9 => False.elim (ns ((nI_eq (by have := R.lt p; omega) (by decide)).mp c9))) (fun _ => ?_)
      refine g_aloadn M_5_read d_5_read_24 (by first | rfl | assumption) ?_
      refine g_aloadn M_5_read d_5_read_25 (by first | rfl | assumption) ?_
      refine g_iloadn M_5_read d_5_read_26 (by first | rfl | assumption) ?_
      refine gc_V M_5_read 0 0 [_] [.ref a] d_5_read_27 cv_5_29 v1 (by rfl) (by rfl) (Nat.le_of_ble_eq_true (by rfl)) (Nat.le_of_ble_eq_true (by rfl)) (by decide) (by decide) (by decide) (by decide) (C_5_sign R1 (by omega) ?_)
      show gG _ _ _ _ _ _ _ _ _ _
      refine gc_V M_5_read 0 0 [_] _ d_5_read_30 cv_5_46 O1.1 (by rfl) (by rfl) (Nat.le_of_ble_eq_true (by rfl)) (Nat.le_of_ble_eq_true (by rfl)) (by decide) (by decide) (by decide) (by decide) (C_4_take nd O1 (R.lt p) (by have := oRun_len (x := o0) (tx := tx.take p); rw [List.length_take] at this; have z : oLen o0 = 0 := rfl; omega) (fun h2 e2 O2 => ?_))
      rw [← oRun_snoc (by omega)] at O2
      show gG _ _ _ _ _ _ _ _ _ _
      refine g_iinc M_5_read (v := nI (p + 1)) d_5_read_33 H3 (by decide) (by first | rfl | (simp only [gc]; simp [*])) (nI_add p 1) ?_
      refine g_goto M_5_read (tgt := 6) d_5_read_36 (by decide) ?_
      exact ih (p + 1) h2 (by omega) (e1.t e2) (R1.keep e2 (o _ (by simp)) (o _ (by simp)) (o _ (by simp))) O2 _ H0 H2 rfl
  exact loop tx.length 0 h0 (by omega) e0 R0 O0 _ rfl rfl rfl
