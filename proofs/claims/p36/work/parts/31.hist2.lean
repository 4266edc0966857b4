/-! ===== history: record, give back ===== -/
def rotB (b : Nat → Nat) (i : Nat) : Nat := if i < 3 then b (i + 1) else b 0
def recd (rc : List Sl_) (now : Sl_) : List Sl_ := (if rc.length = 4 then rc.drop 1 else rc) ++ [now]
/-- cells of the history and of its states -/
def hisS (L : Nat → Nat → Nat) (S : List Nat) : Prop := ∀ x ∈ S, ∃ i j, ((i = 0 ∧ (j = 4 ∨ j = 5)) ∨ (4 ≤ i ∧ i ≤ 7 ∧ j < 24)) ∧ x = L i j
theorem stR.obj {h : Hp_} {r : Nat → Nat} {v : Sl_} (H : stR h r v) : ∃ fs, h (r 0) = some (.inr (6, fs)) := ⟨_, H.1⟩

set_option maxHeartbeats 4000000 in
set_option maxRecDepth 100000 in
theorem C_3_moveOldest {L : Nat → Nat → Nat} {b : Nat → Nat} {rc : List Sl_} {h : Hp_} {Q : Ot_ → Hp_ → Prop} (s : sepL L) (H : hiR h L b rc) (k : ∀ h', gExt h h' [L 0 5] [] → (∃ f', h' (L 0 5) = some (.inl (false, .object "PluralMint$State", (4, .inr (.inr (.inr (.inr f')))))) ∧ ∀ i, i < 4 → f' i = some (L (4 + rotB b i) 0)) → Q (.inl none) h') : gG 1 60 0 0 M_3_moveOldestToEnd 0 (lv_args 0 [.ref (L 0 4)]) [] h Q := by
  obtain ⟨rl, q0, hb, hinj, f, q1, q2⟩ := id H
  have F0 := (q2 0 (by decide)).1
  have F1 := (q2 1 (by decide)).1
  have F2 := (q2 2 (by decide)).1
  have F3 := (q2 3 (by decide)).1
  have ob : ∀ j, j < 4 → ∃ fs, h (L (4 + b j) 0) = some (.inr (6, fs)) := fun j hj => by
    obtain ⟨_, z, hz, _⟩ := q2 j hj
    exact hz.obj
  obtain ⟨fs0, O0⟩ := ob 0 (by decide)
  obtain ⟨fs1, O1⟩ := ob 1 (by decide)
  obtain ⟨fs2, O2⟩ := ob 2 (by decide)
  obtain ⟨fs3, O3⟩ := ob 3 (by decide)
  have n45 : L 0 4 ∉ [L 0 5] := fun q => absurd (s 0 4 0 5 (ok0 (by decide)) (ok0 (by decide)) (List.mem_singleton.mp q)).2 (by decide)
  have nb : ∀ j, j < 4 → L (4 + b j) 0 ∉ [L 0 5] := fun j hj q => absurd (s _ _ 0 5 (okB (by omega) (by have := hb j hj; omega) (by decide)) (ok0 (by decide)) (List.mem_singleton.mp q)).1 (by omega)
  refine g_iconst M_3_moveOldestToEnd (v := nI 0) d_3_moveOldestToEnd_0 (by decide) ?_
  refine g_istoren M_3_moveOldestToEnd d_3_moveOldestToEnd_1 (by decide) (by first | rfl | (simp only [gc]; simp [*])) ?_
  refine g_iloadn M_3_moveOldestToEnd d_3_moveOldestToEnd_2 (by first | rfl | assumption) ?_
  refine g_aloadn M_3_moveOldestToEnd d_3_moveOldestToEnd_3 (by first | rfl | assumption) ?_
  refine g_get M_3_moveOldestToEnd d_3_moveOldestToEnd_4 fl_3_11 q0 (by rfl) ?_
  refine g_alen M_3_moveOldestToEnd d_3_moveOldestToEnd_7 q1 ?_
  refine g_iconst M_3_moveOldestToEnd (v := nI 1) d_3_moveOldestToEnd_8 (by decide) ?_
  refine g_isub M_3_moveOldestToEnd d_3_moveOldestToEnd_9 ?_
  refine g_icmp_ge M_3_moveOldestToEnd (tgt := 49) d_3_moveOldestToEnd_10 (by decide) (fun c => absurd c (by decide)) (fun _ => ?_)
  refine g_aloadn M_3_moveOldestToEnd d_3_moveOldestToEnd_13 (by first | rfl | assumption) ?_
  refine g_get M_3_moveOldestToEnd d_3_moveOldestToEnd_14 fl_3_11 q0 (by rfl) ?_
  refine g_iloadn M_3_moveOldestToEnd d_3_moveOldestToEnd_17 (by first | rfl | assumption) ?_
  refine g_aaload M_3_moveOldestToEnd d_3_moveOldestToEnd_18 (q := L (4 + b 0) 0) q1 (vp_in_nI (by decide) (by decide)) (by rw [nI_cl (by decide)]; simp [va_up, F0, F1, F2, F3]) ?_
  refine g_astoren M_3_moveOldestToEnd d_3_moveOldestToEnd_19 (by decide) (by first | rfl | (simp only [gc]; simp [*])) ?_
  refine g_aloadn M_3_moveOldestToEnd d_3_moveOldestToEnd_20 (by first | rfl | assumption) ?_
  refine g_get M_3_moveOldestToEnd d_3_moveOldestToEnd_21 fl_3_11 q0 (by rfl) ?_
  refine g_iloadn M_3_moveOldestToEnd d_3_moveOldestToEnd_24 (by first | rfl | assumption) ?_
  refine g_aloadn M_3_moveOldestToEnd d_3_moveOldestToEnd_25 (by first | rfl | assumption) ?_
  refine g_get M_3_moveOldestToEnd d_3_moveOldestToEnd_26 fl_3_11 q0 (by rfl) ?_
  refine g_iloadn M_3_moveOldestToEnd d_3_moveOldestToEnd_29 (by first | rfl | assumption) ?_
  refine g_iconst M_3_moveOldestToEnd (v := nI 1) d_3_moveOldestToEnd_30 (by decide) ?_
  refine g_iadd M_3_moveOldestToEnd d_3_moveOldestToEnd_31 ?_
  rw [nI_add]
  refine g_aaload M_3_moveOldestToEnd d_3_moveOldestToEnd_32 (q := L (4 + b 1) 0) q1 (vp_in_nI (by decide) (by decide)) (by rw [nI_cl (by decide)]; simp [va_up, F0, F1, F2, F3]) ?_
  refine e_aas M_3_moveOldestToEnd d_3_moveOldestToEnd_33 q1 O1 (by rfl) (by rfl) (vp_in_nI (by decide) (by decide)) (fun x0 w0 ex0 => ?_)
  rw [nI_cl (by decide)] at w0
  have ox0 := ex0.keep q0 n45
  have P00 := ex0.keep O0 (nb 0 (by decide))
  have P01 := ex0.keep O1 (nb 1 (by decide))
  have P02 := ex0.keep O2 (nb 2 (by decide))
  have P03 := ex0.keep O3 (nb 3 (by decide))
  refine g_aloadn M_3_moveOldestToEnd d_3_moveOldestToEnd_34 (by first | rfl | assumption) ?_
  refine g_get M_3_moveOldestToEnd d_3_moveOldestToEnd_35 fl_3_11 ox0 (by rfl) ?_
  refine g_iloadn M_3_moveOldestToEnd d_3_moveOldestToEnd_38 (by first | rfl | assumption) ?_
  refine g_iconst M_3_moveOldestToEnd (v := nI 1) d_3_moveOldestToEnd_39 (by decide) ?_
  refine g_iadd M_3_moveOldestToEnd d_3_moveOldestToEnd_40 ?_
  rw [nI_add]
  refine g_aloadn M_3_moveOldestToEnd d_3_moveOldestToEnd_41 (by first | rfl | assumption) ?_
  refine e_aas M_3_moveOldestToEnd d_3_moveOldestToEnd_42 w0 P00 (by rfl) (by rfl) (vp_in_nI (by decide) (by decide)) (fun y0 u0 ey0 => ?_)
  rw [nI_cl (by decide)] at u0
  have oy0 := ey0.keep ox0 n45
  have R00 := ey0.keep P00 (nb 0 (by decide))
  have R01 := ey0.keep P01 (nb 1 (by decide))
  have R02 := ey0.keep P02 (nb 2 (by decide))
  have R03 := ey0.keep P03 (nb 3 (by decide))
  refine g_iinc M_3_moveOldestToEnd (v := nI 1) d_3_moveOldestToEnd_43 (by rfl) (by decide) (by first | rfl | (simp only [gc]; simp [*])) (by decide) ?_
  refine g_goto M_3_moveOldestToEnd (tgt := 2) d_3_moveOldestToEnd_46 (by decide) ?_
  refine g_iloadn M_3_moveOldestToEnd d_3_moveOldestToEnd_2 (by first | rfl | assumption) ?_
  refine g_aloadn M_3_moveOldestToEnd d_3_moveOldestToEnd_3 (by first | rfl | assumption) ?_
  refine g_get M_3_moveOldestToEnd d_3_moveOldestToEnd_4 fl_3_11 oy0 (by rfl) ?_
  refine g_alen M_3_moveOldestToEnd d_3_moveOldestToEnd_7 u0 ?_
  refine g_iconst M_3_moveOldestToEnd (v := nI 1) d_3_moveOldestToEnd_8 (by decide) ?_
  refine g_isub M_3_moveOldestToEnd d_3_moveOldestToEnd_9 ?_
  refine g_icmp_ge M_3_moveOldestToEnd (tgt := 49) d_3_moveOldestToEnd_10 (by decide) (fun c => absurd c (by decide)) (fun _ => ?_)
  refine g_aloadn M_3_moveOldestToEnd d_3_moveOldestToEnd_13 (by first | rfl | assumption) ?_
  refine g_get M_3_moveOldestToEnd d_3_moveOldestToEnd_14 fl_3_11 oy0 (by rfl) ?_
  refine g_iloadn M_3_moveOldestToEnd d_3_moveOldestToEnd_17 (by first | rfl | assumption) ?_
  refine g_aaload M_3_moveOldestToEnd d_3_moveOldestToEnd_18 (q := L (4 + b 0) 0) u0 (vp_in_nI (by decide) (by decide)) (by rw [nI_cl (by decide)]; simp [va_up, F0, F1, F2, F3]) ?_
  refine g_astoren M_3_moveOldestToEnd d_3_moveOldestToEnd_19 (by decide) (by first | rfl | (simp only [gc]; simp [*])) ?_
  refine g_aloadn M_3_moveOldestToEnd d_3_moveOldestToEnd_20 (by first | rfl | assumption) ?_
  refine g_get M_3_moveOldestToEnd d_3_moveOldestToEnd_21 fl_3_11 oy0 (by rfl) ?_
  refine g_iloadn M_3_moveOldestToEnd d_3_moveOldestToEnd_24 (by first | rfl | assumption) ?_
  refine g_aloadn M_3_moveOldestToEnd d_3_moveOldestToEnd_25 (by first | rfl | assumption) ?_
  refine g_get M_3_moveOldestToEnd d_3_moveOldestToEnd_26 fl_3_11 oy0 (by rfl) ?_
  refine g_iloadn M_3_moveOldestToEnd d_3_moveOldestToEnd_29 (by first | rfl | assumption) ?_
  refine g_iconst M_3_moveOldestToEnd (v := nI 1) d_3_moveOldestToEnd_30 (by decide) ?_
  refine g_iadd M_3_moveOldestToEnd d_3_moveOldestToEnd_31 ?_
  rw [nI_add]
  refine g_aaload M_3_moveOldestToEnd d_3_moveOldestToEnd_32 (q := L (4 + b 2) 0) u0 (vp_in_nI (by decide) (by decide)) (by rw [nI_cl (by decide)]; simp [va_up, F0, F1, F2, F3]) ?_
  refine e_aas M_3_moveOldestToEnd d_3_moveOldestToEnd_33 u0 R02 (by rfl) (by rfl) (vp_in_nI (by decide) (by decide)) (fun x1 w1 ex1 => ?_)
  rw [nI_cl (by decide)] at w1
  have ox1 := ex1.keep oy0 n45
  have P10 := ex1.keep R00 (nb 0 (by decide))
  have P11 := ex1.keep R01 (nb 1 (by decide))
  have P12 := ex1.keep R02 (nb 2 (by decide))
  have P13 := ex1.keep R03 (nb 3 (by decide))
  refine g_aloadn M_3_moveOldestToEnd d_3_moveOldestToEnd_34 (by first | rfl | assumption) ?_
  refine g_get M_3_moveOldestToEnd d_3_moveOldestToEnd_35 fl_3_11 ox1 (by rfl) ?_
  refine g_iloadn M_3_moveOldestToEnd d_3_moveOldestToEnd_38 (by first | rfl | assumption) ?_
  refine g_iconst M_3_moveOldestToEnd (v := nI 1) d_3_moveOldestToEnd_39 (by decide) ?_
  refine g_iadd M_3_moveOldestToEnd d_3_moveOldestToEnd_40 ?_
  rw [nI_add]
  refine g_aloadn M_3_moveOldestToEnd d_3_moveOldestToEnd_41 (by first | rfl | assumption) ?_
  refine e_aas M_3_moveOldestToEnd d_3_moveOldestToEnd_42 w1 P10 (by rfl) (by rfl) (vp_in_nI (by decide) (by decide)) (fun y1 u1 ey1 => ?_)
  rw [nI_cl (by decide)] at u1
  have oy1 := ey1.keep ox1 n45
  have R10 := ey1.keep P10 (nb 0 (by decide))
  have R11 := ey1.keep P11 (nb 1 (by decide))
  have R12 := ey1.keep P12 (nb 2 (by decide))
  have R13 := ey1.keep P13 (nb 3 (by decide))
  refine g_iinc M_3_moveOldestToEnd (v := nI 2) d_3_moveOldestToEnd_43 (by rfl) (by decide) (by first | rfl | (simp only [gc]; simp [*])) (by decide) ?_
  refine g_goto M_3_moveOldestToEnd (tgt := 2) d_3_moveOldestToEnd_46 (by decide) ?_
  refine g_iloadn M_3_moveOldestToEnd d_3_moveOldestToEnd_2 (by first | rfl | assumption) ?_
  refine g_aloadn M_3_moveOldestToEnd d_3_moveOldestToEnd_3 (by first | rfl | assumption) ?_
  refine g_get M_3_moveOldestToEnd d_3_moveOldestToEnd_4 fl_3_11 oy1 (by rfl) ?_
  refine g_alen M_3_moveOldestToEnd d_3_moveOldestToEnd_7 u1 ?_
  refine g_iconst M_3_moveOldestToEnd (v := nI 1) d_3_moveOldestToEnd_8 (by decide) ?_
  refine g_isub M_3_moveOldestToEnd d_3_moveOldestToEnd_9 ?_
  refine g_icmp_ge M_3_moveOldestToEnd (tgt := 49) d_3_moveOldestToEnd_10 (by decide) (fun c => absurd c (by decide)) (fun _ => ?_)
  refine g_aloadn M_3_moveOldestToEnd d_3_moveOldestToEnd_13 (by first | rfl | assumption) ?_
  refine g_get M_3_moveOldestToEnd d_3_moveOldestToEnd_14 fl_3_11 oy1 (by rfl) ?_
  refine g_iloadn M_3_moveOldestToEnd d_3_moveOldestToEnd_17 (by first | rfl | assumption) ?_
  refine g_aaload M_3_moveOldestToEnd d_3_moveOldestToEnd_18 (q := L (4 + b 0) 0) u1 (vp_in_nI (by decide) (by decide)) (by rw [nI_cl (by decide)]; simp [va_up, F0, F1, F2, F3]) ?_
  refine g_astoren M_3_moveOldestToEnd d_3_moveOldestToEnd_19 (by decide) (by first | rfl | (simp only [gc]; simp [*])) ?_
  refine g_aloadn M_3_moveOldestToEnd d_3_moveOldestToEnd_20 (by first | rfl | assumption) ?_
  refine g_get M_3_moveOldestToEnd d_3_moveOldestToEnd_21 fl_3_11 oy1 (by rfl) ?_
  refine g_iloadn M_3_moveOldestToEnd d_3_moveOldestToEnd_24 (by first | rfl | assumption) ?_
  refine g_aloadn M_3_moveOldestToEnd d_3_moveOldestToEnd_25 (by first | rfl | assumption) ?_
  refine g_get M_3_moveOldestToEnd d_3_moveOldestToEnd_26 fl_3_11 oy1 (by rfl) ?_
  refine g_iloadn M_3_moveOldestToEnd d_3_moveOldestToEnd_29 (by first | rfl | assumption) ?_
  refine g_iconst M_3_moveOldestToEnd (v := nI 1) d_3_moveOldestToEnd_30 (by decide) ?_
  refine g_iadd M_3_moveOldestToEnd d_3_moveOldestToEnd_31 ?_
  rw [nI_add]
  refine g_aaload M_3_moveOldestToEnd d_3_moveOldestToEnd_32 (q := L (4 + b 3) 0) u1 (vp_in_nI (by decide) (by decide)) (by rw [nI_cl (by decide)]; simp [va_up, F0, F1, F2, F3]) ?_
  refine e_aas M_3_moveOldestToEnd d_3_moveOldestToEnd_33 u1 R13 (by rfl) (by rfl) (vp_in_nI (by decide) (by decide)) (fun x2 w2 ex2 => ?_)
  rw [nI_cl (by decide)] at w2
  have ox2 := ex2.keep oy1 n45
  have P20 := ex2.keep R10 (nb 0 (by decide))
  have P21 := ex2.keep R11 (nb 1 (by decide))
  have P22 := ex2.keep R12 (nb 2 (by decide))
  have P23 := ex2.keep R13 (nb 3 (by decide))
  refine g_aloadn M_3_moveOldestToEnd d_3_moveOldestToEnd_34 (by first | rfl | assumption) ?_
  refine g_get M_3_moveOldestToEnd d_3_moveOldestToEnd_35 fl_3_11 ox2 (by rfl) ?_
  refine g_iloadn M_3_moveOldestToEnd d_3_moveOldestToEnd_38 (by first | rfl | assumption) ?_
  refine g_iconst M_3_moveOldestToEnd (v := nI 1) d_3_moveOldestToEnd_39 (by decide) ?_
  refine g_iadd M_3_moveOldestToEnd d_3_moveOldestToEnd_40 ?_
  rw [nI_add]
  refine g_aloadn M_3_moveOldestToEnd d_3_moveOldestToEnd_41 (by first | rfl | assumption) ?_
  refine e_aas M_3_moveOldestToEnd d_3_moveOldestToEnd_42 w2 P20 (by rfl) (by rfl) (vp_in_nI (by decide) (by decide)) (fun y2 u2 ey2 => ?_)
  rw [nI_cl (by decide)] at u2
  have oy2 := ey2.keep ox2 n45
  have R20 := ey2.keep P20 (nb 0 (by decide))
  have R21 := ey2.keep P21 (nb 1 (by decide))
  have R22 := ey2.keep P22 (nb 2 (by decide))
  have R23 := ey2.keep P23 (nb 3 (by decide))
  refine g_iinc M_3_moveOldestToEnd (v := nI 3) d_3_moveOldestToEnd_43 (by rfl) (by decide) (by first | rfl | (simp only [gc]; simp [*])) (by decide) ?_
  refine g_goto M_3_moveOldestToEnd (tgt := 2) d_3_moveOldestToEnd_46 (by decide) ?_
  refine g_iloadn M_3_moveOldestToEnd d_3_moveOldestToEnd_2 (by first | rfl | assumption) ?_
  refine g_aloadn M_3_moveOldestToEnd d_3_moveOldestToEnd_3 (by first | rfl | assumption) ?_
  refine g_get M_3_moveOldestToEnd d_3_moveOldestToEnd_4 fl_3_11 oy2 (by rfl) ?_
  refine g_alen M_3_moveOldestToEnd d_3_moveOldestToEnd_7 u2 ?_
  refine g_iconst M_3_moveOldestToEnd (v := nI 1) d_3_moveOldestToEnd_8 (by decide) ?_
  refine g_isub M_3_moveOldestToEnd d_3_moveOldestToEnd_9 ?_
  refine g_icmp_ge M_3_moveOldestToEnd (tgt := 49) d_3_moveOldestToEnd_10 (by decide) (fun _ => ?_) (fun c => absurd (by decide) c)
  have t0 := ex0.trans ey0 (fun y hy => Or.inl hy)
  have t1 := (t0.trans ex1 (fun y hy => Or.inl hy)).trans ey1 (fun y hy => Or.inl hy)
  have t2 := (t1.trans ex2 (fun y hy => Or.inl hy)).trans ey2 (fun y hy => Or.inl hy)
  refine g_vret M_3_moveOldestToEnd d_3_moveOldestToEnd_49 rfl (k _ (by simpa using t2) ⟨_, u2, fun i hi => ?_⟩)
  have h4 : i = 0 ∨ i = 1 ∨ i = 2 ∨ i = 3 := by omega
  rcases h4 with rfl | rfl | rfl | rfl <;> simp [va_up, rotB]
