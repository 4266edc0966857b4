/-! ===== a step of the law: its head; strike, melt, meltStale ===== -/
def Rl (t : Nat) (X Y : Mt_) : Prop := Y.2 = mM X.2 ∧ invM t X.2
def hadF (X : Mt_) (k : Nat) : Nat := if k < X.2.1.1.length then cW k X.2.1.2.2.2.2.1 else 0
/-- the locals of a step -/
def isL (lv : List (Nat × Value)) (L L9 : Nat → Nat → Nat) (X : Mt_) (x y z : Int32) (k m : Nat) : Prop :=
  gl lv 0 = some (.ref (L 0 0)) ∧ gl lv 1 = some (.ref (L9 0 0)) ∧ gl lv 2 = some (.int x) ∧ gl lv 3 = some (.int y) ∧ gl lv 4 = some (.int z) ∧ gl lv 5 = some (.int (nI X.2.1.1.length)) ∧ gl lv 6 = some (.int (nI (sumH X.2.1.2.2.2.2.1))) ∧ gl lv 7 = some (.int (nI (sumH (X.2.1.2.2.2.2.1.filter (stl X.2.1))))) ∧
  gl lv 8 = some (.int (nI k)) ∧ gl lv 9 = some (.int (nI (hadF X k))) ∧ gl lv 10 = some (.int (nI m))
theorem coin_le {v : Hn_} {y : List Nat × Nat × Nat} (h : y ∈ v) : y.2.2 ≤ sumH v := by
  induction v with
  | nil => cases h
  | cons z t ih =>
    rw [sumH_cons]
    rcases List.mem_cons.mp h with rfl | h
    · omega
    · have := ih h; omega
theorem bnd {t : Nat} {x : Sn_} (h : invS t x) (ht : t ≤ 60) : sumH x.2.2.2.2.1 ≤ 5940 ∧ ∀ y ∈ x.2.2.2.2.1, y.2.2 + 99 < 2 ^ 30 := by
  have c := h.2.2.2.2
  unfold okCo at c
  refine ⟨by omega, fun y hy => ?_⟩
  have : y.2.2 ≤ sumH x.2.2.2.2.1 := coin_le hy
  omega
theorem bndY {t : Nat} {X Y : Mt_} (r : Y.2 = mM X.2) (h : invS t X.2.1) (ht : t ≤ 60) : ∀ y ∈ Y.2.1.2.2.2.2.1, y.2.2 + 99 < 2 ^ 30 := by
  intro y hy
  have e : Y.2.1.2.2.2.2.1 = mHn X.2.1.2.2.2.2.1 := by rw [r]
  rw [e] at hy
  obtain ⟨z, hz, rfl⟩ := List.mem_map.mp hy
  exact (bnd h ht).2 z hz
theorem rlN {X Y : Mt_} (r : Y.2 = mM X.2) : Y.2.1.1.length = X.2.1.1.length := by rw [r]; exact List.length_map ..
theorem rlD {X Y : Mt_} (r : Y.2 = mM X.2) : Y.2.1.2.2.2.1.1.length = X.2.1.2.2.2.1.1.length := by rw [r]; exact List.length_map ..
theorem rlC {X Y : Mt_} {k : Nat} (r : Y.2 = mM X.2) : cW k Y.2.1.2.2.2.2.1 = cW k X.2.1.2.2.2.2.1 := by rw [r]; exact cW_m
set_option maxHeartbeats 4000000 in
set_option maxRecDepth 100000 in
theorem S_strike {L L9 : Nat → Nat → Nat} {a9 : Nat} {v9 : Ent_} {X Y : Mt_} {h : Hp_} {Q : Ot_ → Hp_ → Prop} {lv : List (Nat × Value)} {x y z : Int32} {k m t : Nat} (T0 : tw h L L9 a9 v9 X Y) (R : Rl t X Y) (ht : t ≤ 60) (hl : isL lv L L9 X x y z k m) (hk : k ≤ X.2.1.1.length) (hm : 1 ≤ m ∧ m ≤ 99) (kk : ∀ h' X' Y', tw h' L L9 a9 v9 X' Y' → Rl (t + 1) X' Y' → Q (.inl (some (.int (nI 1)))) h') : gG 11 430 8 48 M_L_isStep 144 lv [] h Q := by
  obtain ⟨r, hI⟩ := R
  obtain ⟨H0, H1, H2, H3, H4, H5, H6, H7, H8, H9, H10⟩ := hl
  have nl := T0.1.un.2.2.2.2.2.2.1.1
  have nlY := T0.2.1.un.2.2.2.2.2.2.1.1
  have el := T0.1.un.2.2.2.2.2.2.2.2.2.2.1.le
  obtain ⟨b1, b2⟩ := bnd hI.1 ht
  refine g_aloadn M_L_isStep d_L_isStep_144 (by first | rfl | assumption) ?_
  refine g_iload M_L_isStep d_L_isStep_145 (by first | rfl | assumption) ?_
  refine g_iload M_L_isStep d_L_isStep_147 (by first | rfl | assumption) ?_
  refine gc_SH M_L_isStep 7 42 [_, _, _] _ d_L_isStep_149 cs_L_120 (by decide) (by rfl) (by rfl) (Nat.le_of_ble_eq_true (by rfl)) (Nat.le_of_ble_eq_true (by rfl)) (by decide) (by decide) (by omega) (by omega) (W_strike T0 (by omega) hm b2 (fun h1 T1 => ?_))
  show gG _ _ _ _ _ _ _ _ _ _
  refine g_istore M_L_isStep d_L_isStep_152 (by decide) (by first | rfl | (simp only [gc]; simp [*])) ?_
  refine g_iload M_L_isStep d_L_isStep_154 (by first | rfl | assumption) ?_
  refine g_aloadn M_L_isStep d_L_isStep_156 (by first | rfl | assumption) ?_
  refine g_iload M_L_isStep d_L_isStep_157 (by first | rfl | assumption) ?_
  refine g_iload M_L_isStep d_L_isStep_159 (by first | rfl | assumption) ?_
  refine gc_SH M_L_isStep 6 36 [_, _, _] _ d_L_isStep_161 cs_L_120 (by decide) (by rfl) (by rfl) (Nat.le_of_ble_eq_true (by rfl)) (Nat.le_of_ble_eq_true (by rfl)) (by decide) (by decide) (by omega) (by omega) (W_strike T1.sw (by omega) hm (bndY r hI.1 ht) (fun h2 T29 => ?_))
  have T2 := T29.sw
  show gG _ _ _ _ _ _ _ _ _ _
  obtain ⟨q1, q2⟩ := eq_strike (n := k) (m := m) r
  rw [q1]
  refine g_icmp_ne M_L_isStep (tgt := 238) d_L_isStep_164 (by decide) (fun c9 => False.elim (c9 rfl)) (fun _ => ?_)
  have inv := T2
  rcases L_strike (n := k) (m := m) hI hm.1 hm.2 with ⟨q, ea⟩ | ⟨q, q30, ea⟩ | ⟨q, x1, ea, i1, i2, i3, i4, i5⟩
  · rw [ea] at T2 q2 ⊢
    refine g_iload M_L_isStep d_L_isStep_167 (by first | rfl | assumption) ?_
    refine g_ldc M_L_isStep d_L_isStep_169 ki_L_17 ?_
    refine g_icmp_ne M_L_isStep (tgt := 184) d_L_isStep_171 (by decide) (fun c9 => False.elim (c9 rfl)) (fun _ => ?_)
    refine g_iload M_L_isStep d_L_isStep_174 (by first | rfl | assumption) ?_
    refine g_iload M_L_isStep d_L_isStep_176 (by first | rfl | assumption) ?_
    refine g_icmp_ne M_L_isStep (tgt := 238) d_L_isStep_178 (by decide) (fun c9 => False.elim (c9 (by rw [show k = X.2.1.1.length by omega]))) (fun _ => ?_)
    refine g_goto M_L_isStep (tgt := 234) d_L_isStep_181 (by decide) ?_
    refine g_iconst M_L_isStep (v := nI 1) d_L_isStep_234 (by decide) ?_
    refine g_goto M_L_isStep (tgt := 239) d_L_isStep_235 (by decide) ?_
    exact g_iret M_L_isStep d_L_isStep_239 rfl rfl (kk _ _ _ T2 ⟨q2, hI.up (Nat.le_succ t)⟩)
  · rw [ea] at T2 q2 ⊢
    refine g_iload M_L_isStep d_L_isStep_167 (by first | rfl | assumption) ?_
    refine g_ldc M_L_isStep d_L_isStep_169 ki_L_17 ?_
    refine g_icmp_ne M_L_isStep (tgt := 184) d_L_isStep_171 (by decide) (fun _ => ?_) (fun c9 => absurd (show nI 90003 = nI 90001 from c9) (by decide))
    refine g_iload M_L_isStep d_L_isStep_184 (by first | rfl | assumption) ?_
    refine g_ldc M_L_isStep d_L_isStep_186 ki_L_23 ?_
    refine g_icmp_ne M_L_isStep (tgt := 203) d_L_isStep_188 (by decide) (fun c9 => False.elim (c9 rfl)) (fun _ => ?_)
    refine g_aloadn M_L_isStep d_L_isStep_191 (by first | rfl | assumption) ?_
    refine gc_V M_L_isStep 6 36 [] _ d_L_isStep_192 cv_L_123 T2.m0 (by rfl) (by rfl) (Nat.le_of_ble_eq_true (by rfl)) (Nat.le_of_ble_eq_true (by rfl)) (by decide) (by decide) (by omega) (by omega) (C_9_heaps T2.1 ?_)
    show gG _ _ _ _ _ _ _ _ _ _
    refine g_bipush M_L_isStep (v := nI 30) d_L_isStep_195 (by decide) ?_
    refine g_icmp_ne M_L_isStep (tgt := 238) d_L_isStep_197 (by decide) (fun c9 => False.elim (c9 (by rw [show List.length X.2.1.2.2.2.2.1 = 30 by omega]))) (fun _ => ?_)
    refine g_goto M_L_isStep (tgt := 234) d_L_isStep_200 (by decide) ?_
    refine g_iconst M_L_isStep (v := nI 1) d_L_isStep_234 (by decide) ?_
    refine g_goto M_L_isStep (tgt := 239) d_L_isStep_235 (by decide) ?_
    exact g_iret M_L_isStep d_L_isStep_239 rfl rfl (kk _ _ _ T2 ⟨q2, hI.up (Nat.le_succ t)⟩)
  · rw [ea] at T2 q2 ⊢
    have ev : hadF X k = cW k X.2.1.2.2.2.2.1 := if_pos q
    rw [ev] at H9
    refine g_iload M_L_isStep d_L_isStep_167 (by first | rfl | assumption) ?_
    refine g_ldc M_L_isStep d_L_isStep_169 ki_L_17 ?_
    refine g_icmp_ne M_L_isStep (tgt := 184) d_L_isStep_171 (by decide) (fun _ => ?_) (fun c9 => absurd ((nI_eq (by omega) (by decide)).mp c9) (by omega))
    refine g_iload M_L_isStep d_L_isStep_184 (by first | rfl | assumption) ?_
    refine g_ldc M_L_isStep d_L_isStep_186 ki_L_23 ?_
    refine g_icmp_ne M_L_isStep (tgt := 203) d_L_isStep_188 (by decide) (fun _ => ?_) (fun c9 => absurd ((nI_eq (by omega) (by decide)).mp c9) (by omega))
    refine g_iload M_L_isStep d_L_isStep_203 (by first | rfl | assumption) ?_
    refine g_iload M_L_isStep d_L_isStep_205 (by first | rfl | assumption) ?_
    refine g_iload M_L_isStep d_L_isStep_207 (by first | rfl | assumption) ?_
    refine g_iadd M_L_isStep d_L_isStep_209 ?_
    rw [nI_add]
    refine g_icmp_ne M_L_isStep (tgt := 238) d_L_isStep_210 (by decide) (fun c9 => False.elim (c9 rfl)) (fun _ => ?_)
    refine g_aloadn M_L_isStep d_L_isStep_213 (by first | rfl | assumption) ?_
    refine gc_V M_L_isStep 6 36 [] _ d_L_isStep_214 cv_L_126 T2.m0 (by rfl) (by rfl) (Nat.le_of_ble_eq_true (by rfl)) (Nat.le_of_ble_eq_true (by rfl)) (by decide) (by decide) (by omega) (by omega) (C_9_coinsByAccounts T2.1 i3 ?_)
    show gG _ _ _ _ _ _ _ _ _ _
    refine g_iload M_L_isStep d_L_isStep_217 (by first | rfl | assumption) ?_
    refine g_iload M_L_isStep d_L_isStep_219 (by first | rfl | assumption) ?_
    refine g_iadd M_L_isStep d_L_isStep_221 ?_
    rw [nI_add, i4]
    refine g_icmp_ne M_L_isStep (tgt := 238) d_L_isStep_222 (by decide) (fun c9 => False.elim (c9 rfl)) (fun _ => ?_)
    refine g_aloadn M_L_isStep d_L_isStep_225 (by first | rfl | assumption) ?_
    refine gc_V M_L_isStep 6 36 [] _ d_L_isStep_226 cv_L_114 T2.m0 (by rfl) (by rfl) (Nat.le_of_ble_eq_true (by rfl)) (Nat.le_of_ble_eq_true (by rfl)) (by decide) (by decide) (by omega) (by omega) (C_9_staleCoins T2.1 (fun h3 a3 G3 => ?_))
    have T3 := T2.o a3 G3
    show gG _ _ _ _ _ _ _ _ _ _
    refine g_iload M_L_isStep d_L_isStep_229 (by first | rfl | assumption) ?_
    dsimp only
    rw [i5]
    refine g_icmp_ne M_L_isStep (tgt := 238) d_L_isStep_231 (by decide) (fun c9 => False.elim (c9 rfl)) (fun _ => ?_)
    refine g_iconst M_L_isStep (v := nI 1) d_L_isStep_234 (by decide) ?_
    refine g_goto M_L_isStep (tgt := 239) d_L_isStep_235 (by decide) ?_
    exact g_iret M_L_isStep d_L_isStep_239 rfl rfl (kk _ _ _ T3 ⟨q2, i1⟩)
set_option maxHeartbeats 4000000 in
set_option maxRecDepth 100000 in
theorem S_melt {L L9 : Nat → Nat → Nat} {a9 : Nat} {v9 : Ent_} {X Y : Mt_} {h : Hp_} {Q : Ot_ → Hp_ → Prop} {lv : List (Nat × Value)} {x y z : Int32} {k m t : Nat} (T0 : tw h L L9 a9 v9 X Y) (R : Rl t X Y) (ht : t ≤ 60) (hl : isL lv L L9 X x y z k m) (hk : k ≤ X.2.1.1.length) (hm : 1 ≤ m ∧ m ≤ 99) (kk : ∀ h' X' Y', tw h' L L9 a9 v9 X' Y' → Rl (t + 1) X' Y' → Q (.inl (some (.int (nI 1)))) h') : gG 11 430 8 48 M_L_isStep 240 lv [] h Q := by
  obtain ⟨r, hI⟩ := R
  obtain ⟨H0, H1, H2, H3, H4, H5, H6, H7, H8, H9, H10⟩ := hl
  have nl := T0.1.un.2.2.2.2.2.2.1.1
  have nlY := T0.2.1.un.2.2.2.2.2.2.1.1
  have el := T0.1.un.2.2.2.2.2.2.2.2.2.2.1.le
  obtain ⟨b1, b2⟩ := bnd hI.1 ht
  refine g_aloadn M_L_isStep d_L_isStep_240 (by first | rfl | assumption) ?_
  refine g_iload M_L_isStep d_L_isStep_241 (by first | rfl | assumption) ?_
  refine g_iload M_L_isStep d_L_isStep_243 (by first | rfl | assumption) ?_
  refine gc_SH M_L_isStep 7 42 [_, _, _] _ d_L_isStep_245 cs_L_129 (by decide) (by rfl) (by rfl) (Nat.le_of_ble_eq_true (by rfl)) (Nat.le_of_ble_eq_true (by rfl)) (by decide) (by decide) (by omega) (by omega) (W_melt T0 (by omega) hm (by have := cW_le (n := k) (v := X.2.1.2.2.2.2.1); omega) (fun h1 T1 => ?_))
  show gG _ _ _ _ _ _ _ _ _ _
  refine g_istore M_L_isStep d_L_isStep_248 (by decide) (by first | rfl | (simp only [gc]; simp [*])) ?_
  refine g_iload M_L_isStep d_L_isStep_250 (by first | rfl | assumption) ?_
  refine g_aloadn M_L_isStep d_L_isStep_252 (by first | rfl | assumption) ?_
  refine g_iload M_L_isStep d_L_isStep_253 (by first | rfl | assumption) ?_
  refine g_iload M_L_isStep d_L_isStep_255 (by first | rfl | assumption) ?_
  refine gc_SH M_L_isStep 6 36 [_, _, _] _ d_L_isStep_257 cs_L_129 (by decide) (by rfl) (by rfl) (Nat.le_of_ble_eq_true (by rfl)) (Nat.le_of_ble_eq_true (by rfl)) (by decide) (by decide) (by omega) (by omega) (W_melt T1.sw (by omega) hm (by rw [rlC r]; have := cW_le (n := k) (v := X.2.1.2.2.2.2.1); omega) (fun h2 T29 => ?_))
  have T2 := T29.sw
  show gG _ _ _ _ _ _ _ _ _ _
  obtain ⟨q1, q2⟩ := eq_melt (n := k) (m := m) r
  rw [q1]
  refine g_icmp_ne M_L_isStep (tgt := 323) d_L_isStep_260 (by decide) (fun c9 => False.elim (c9 rfl)) (fun _ => ?_)
  have cl := cW_le (n := k) (v := X.2.1.2.2.2.2.1)
  rcases L_melt (n := k) (m := m) hI with ⟨q, ea⟩ | ⟨q, q30, ea⟩ | ⟨q, x1, ea, i1, i2, i2s, i3, i4⟩
  · rw [ea] at T2 q2 ⊢
    refine g_iload M_L_isStep d_L_isStep_263 (by first | rfl | assumption) ?_
    refine g_ldc M_L_isStep d_L_isStep_265 ki_L_17 ?_
    refine g_icmp_ne M_L_isStep (tgt := 280) d_L_isStep_267 (by decide) (fun c9 => False.elim (c9 rfl)) (fun _ => ?_)
    refine g_iload M_L_isStep d_L_isStep_270 (by first | rfl | assumption) ?_
    refine g_iload M_L_isStep d_L_isStep_272 (by first | rfl | assumption) ?_
    refine g_icmp_ne M_L_isStep (tgt := 323) d_L_isStep_274 (by decide) (fun c9 => False.elim (c9 (by rw [show k = X.2.1.1.length by omega]))) (fun _ => ?_)
    refine g_goto M_L_isStep (tgt := 319) d_L_isStep_277 (by decide) ?_
    refine g_iconst M_L_isStep (v := nI 1) d_L_isStep_319 (by decide) ?_
    refine g_goto M_L_isStep (tgt := 324) d_L_isStep_320 (by decide) ?_
    exact g_iret M_L_isStep d_L_isStep_324 rfl rfl (kk _ _ _ T2 ⟨q2, hI.up (Nat.le_succ t)⟩)
  · rw [ea] at T2 q2 ⊢
    have ev : hadF X k = cW k X.2.1.2.2.2.2.1 := if_pos q
    rw [ev] at H9
    refine g_iload M_L_isStep d_L_isStep_263 (by first | rfl | assumption) ?_
    refine g_ldc M_L_isStep d_L_isStep_265 ki_L_17 ?_
    refine g_icmp_ne M_L_isStep (tgt := 280) d_L_isStep_267 (by decide) (fun _ => ?_) (fun c9 => absurd (show nI 90003 = nI 90001 from c9) (by decide))
    refine g_iload M_L_isStep d_L_isStep_280 (by first | rfl | assumption) ?_
    refine g_ldc M_L_isStep d_L_isStep_282 ki_L_23 ?_
    refine g_icmp_ne M_L_isStep (tgt := 297) d_L_isStep_284 (by decide) (fun c9 => False.elim (c9 rfl)) (fun _ => ?_)
    refine g_iload M_L_isStep d_L_isStep_287 (by first | rfl | assumption) ?_
    refine g_iload M_L_isStep d_L_isStep_289 (by first | rfl | assumption) ?_
    refine g_icmp_ge M_L_isStep (tgt := 323) d_L_isStep_291 (by decide) (fun c9 => absurd c9 (nI_ge q30 (by omega))) (fun _ => ?_)
    refine g_goto M_L_isStep (tgt := 319) d_L_isStep_294 (by decide) ?_
    refine g_iconst M_L_isStep (v := nI 1) d_L_isStep_319 (by decide) ?_
    refine g_goto M_L_isStep (tgt := 324) d_L_isStep_320 (by decide) ?_
    exact g_iret M_L_isStep d_L_isStep_324 rfl rfl (kk _ _ _ T2 ⟨q2, hI.up (Nat.le_succ t)⟩)
  · rw [ea] at T2 q2 ⊢
    have ev : hadF X k = cW k X.2.1.2.2.2.2.1 := if_pos q
    rw [ev] at H9
    refine g_iload M_L_isStep d_L_isStep_263 (by first | rfl | assumption) ?_
    refine g_ldc M_L_isStep d_L_isStep_265 ki_L_17 ?_
    refine g_icmp_ne M_L_isStep (tgt := 280) d_L_isStep_267 (by decide) (fun _ => ?_) (fun c9 => absurd ((nI_eq (by omega) (by decide)).mp c9) (by omega))
    refine g_iload M_L_isStep d_L_isStep_280 (by first | rfl | assumption) ?_
    refine g_ldc M_L_isStep d_L_isStep_282 ki_L_23 ?_
    refine g_icmp_ne M_L_isStep (tgt := 297) d_L_isStep_284 (by decide) (fun _ => ?_) (fun c9 => absurd ((nI_eq (by omega) (by decide)).mp c9) (by omega))
    refine g_iload M_L_isStep d_L_isStep_297 (by first | rfl | assumption) ?_
    refine g_iload M_L_isStep d_L_isStep_299 (by first | rfl | assumption) ?_
    refine g_iload M_L_isStep d_L_isStep_301 (by first | rfl | assumption) ?_
    refine g_isub M_L_isStep d_L_isStep_303 ?_
    rw [nI_sub i2]
    refine g_icmp_ne M_L_isStep (tgt := 323) d_L_isStep_304 (by decide) (fun c9 => False.elim (c9 rfl)) (fun _ => ?_)
    refine g_aloadn M_L_isStep d_L_isStep_307 (by first | rfl | assumption) ?_
    refine gc_V M_L_isStep 6 36 [] _ d_L_isStep_308 cv_L_126 T2.m0 (by rfl) (by rfl) (Nat.le_of_ble_eq_true (by rfl)) (Nat.le_of_ble_eq_true (by rfl)) (by decide) (by decide) (by omega) (by omega) (C_9_coinsByAccounts T2.1 i3 ?_)
    show gG _ _ _ _ _ _ _ _ _ _
    refine g_iload M_L_isStep d_L_isStep_311 (by first | rfl | assumption) ?_
    refine g_iload M_L_isStep d_L_isStep_313 (by first | rfl | assumption) ?_
    refine g_isub M_L_isStep d_L_isStep_315 ?_
    rw [nI_sub i2s, i4]
    refine g_icmp_ne M_L_isStep (tgt := 323) d_L_isStep_316 (by decide) (fun c9 => False.elim (c9 rfl)) (fun _ => ?_)
    refine g_iconst M_L_isStep (v := nI 1) d_L_isStep_319 (by decide) ?_
    refine g_goto M_L_isStep (tgt := 324) d_L_isStep_320 (by decide) ?_
    exact g_iret M_L_isStep d_L_isStep_324 rfl rfl (kk _ _ _ T2 ⟨q2, i1⟩)
set_option maxHeartbeats 4000000 in
set_option maxRecDepth 100000 in
theorem S_meltStale {L L9 : Nat → Nat → Nat} {a9 : Nat} {v9 : Ent_} {X Y : Mt_} {h : Hp_} {Q : Ot_ → Hp_ → Prop} {lv : List (Nat × Value)} {x y z : Int32} {k m t : Nat} (T0 : tw h L L9 a9 v9 X Y) (R : Rl t X Y) (ht : t ≤ 60) (hl : isL lv L L9 X x y z k m) (hk : k ≤ X.2.1.1.length) (hm : 1 ≤ m ∧ m ≤ 99) (kk : ∀ h' X' Y', tw h' L L9 a9 v9 X' Y' → Rl (t + 1) X' Y' → Q (.inl (some (.int (nI 1)))) h') : gG 11 430 8 48 M_L_isStep 325 lv [] h Q := by
  obtain ⟨r, hI⟩ := R
  obtain ⟨H0, H1, H2, H3, H4, H5, H6, H7, H8, H9, H10⟩ := hl
  have nl := T0.1.un.2.2.2.2.2.2.1.1
  have nlY := T0.2.1.un.2.2.2.2.2.2.1.1
  have el := T0.1.un.2.2.2.2.2.2.2.2.2.2.1.le
  obtain ⟨b1, b2⟩ := bnd hI.1 ht
  refine g_aloadn M_L_isStep d_L_isStep_325 (by first | rfl | assumption) ?_
  refine gc_V M_L_isStep 8 48 [] _ d_L_isStep_326 cv_L_131 T0.m0 (by rfl) (by rfl) (Nat.le_of_ble_eq_true (by rfl)) (Nat.le_of_ble_eq_true (by rfl)) (by decide) (by decide) (by omega) (by omega) (C_9_meltStale T0.1 (fun h1 a1 G1 => ?_))
  have T1 := T0.o a1 G1
  show gG _ _ _ _ _ _ _ _ _ _
  refine g_istore M_L_isStep d_L_isStep_329 (by decide) (by first | rfl | (simp only [gc]; simp [*])) ?_
  refine g_iload M_L_isStep d_L_isStep_331 (by first | rfl | assumption) ?_
  refine g_aloadn M_L_isStep d_L_isStep_333 (by first | rfl | assumption) ?_
  refine gc_V M_L_isStep 8 48 [] _ d_L_isStep_334 cv_L_131 T1.sw.m0 (by rfl) (by rfl) (Nat.le_of_ble_eq_true (by rfl)) (Nat.le_of_ble_eq_true (by rfl)) (by decide) (by decide) (by omega) (by omega) (C_9_meltStale T1.2.1 (fun h2 a2 G2 => ?_))
  have T2 := (T1.sw.o a2 G2).sw
  show gG _ _ _ _ _ _ _ _ _ _
  have q1 : sumH (Y.2.1.2.2.2.2.1.filter (stl Y.2.1)) = sumH (X.2.1.2.2.2.2.1.filter (stl X.2.1)) := by
    rw [r, show (mM X.2).1.2.2.2.2.1.filter (stl (mM X.2).1) = mHn (X.2.1.2.2.2.2.1.filter (stl X.2.1)) from stF_m, sumH_m]
  rw [q1]
  obtain ⟨m1, m2, m3⟩ := mz_ok hI.1
  refine g_icmp_ne M_L_isStep (tgt := 370) d_L_isStep_337 (by decide) (fun c9 => False.elim (c9 rfl)) (fun _ => ?_)
  refine g_iload M_L_isStep d_L_isStep_340 (by first | rfl | assumption) ?_
  refine g_iload M_L_isStep d_L_isStep_342 (by first | rfl | assumption) ?_
  refine g_icmp_ne M_L_isStep (tgt := 370) d_L_isStep_344 (by decide) (fun c9 => False.elim (c9 rfl)) (fun _ => ?_)
  refine g_aloadn M_L_isStep d_L_isStep_347 (by first | rfl | assumption) ?_
  refine gc_V M_L_isStep 8 48 [] _ d_L_isStep_348 cv_L_114 T2.m0 (by rfl) (by rfl) (Nat.le_of_ble_eq_true (by rfl)) (Nat.le_of_ble_eq_true (by rfl)) (by decide) (by decide) (by omega) (by omega) (C_9_staleCoins T2.1 (fun h3 a3 G3 => ?_))
  have T3 := T2.o a3 G3
  show gG _ _ _ _ _ _ _ _ _ _
  dsimp only
  rw [m2]
  refine g_if_ne M_L_isStep (tgt := 370) d_L_isStep_351 (by decide) (fun c9 => False.elim (c9 rfl)) (fun _ => ?_)
  refine g_aloadn M_L_isStep d_L_isStep_354 (by first | rfl | assumption) ?_
  refine gc_V M_L_isStep 8 48 [] _ d_L_isStep_355 cv_L_111 T3.m0 (by rfl) (by rfl) (Nat.le_of_ble_eq_true (by rfl)) (Nat.le_of_ble_eq_true (by rfl)) (by decide) (by decide) (by omega) (by omega) (C_9_coinsByHeaps T3.1 ?_)
  show gG _ _ _ _ _ _ _ _ _ _
  refine g_iload M_L_isStep d_L_isStep_358 (by first | rfl | assumption) ?_
  refine g_iload M_L_isStep d_L_isStep_360 (by first | rfl | assumption) ?_
  refine g_isub M_L_isStep d_L_isStep_362 ?_
  dsimp only
  rw [nI_sub (by omega), show sumH X.2.1.2.2.2.2.1 - sumH (X.2.1.2.2.2.2.1.filter (stl X.2.1)) = sumH (mzS X.2.1).2.2.2.2.1 by omega]
  refine g_icmp_ne M_L_isStep (tgt := 370) d_L_isStep_363 (by decide) (fun c9 => False.elim (c9 rfl)) (fun _ => ?_)
  have q2 : ((Y.1, mzS Y.2.1, Y.2.2.1, recN Y.2.2.2 Y.2.1) : Mt_).2 = mM ((X.1, mzS X.2.1, X.2.2.1, recN X.2.2.2 X.2.1) : Mt_).2 := by
    show (mzS Y.2.1, Y.2.2.1, recN Y.2.2.2 Y.2.1) = (mS (mzS X.2.1), X.2.2.1.map mS, (recN X.2.2.2 X.2.1).map mS)
    rw [r, ← mzS_m, ← recN_m]
  refine g_iconst M_L_isStep (v := nI 1) d_L_isStep_366 (by decide) ?_
  refine g_goto M_L_isStep (tgt := 371) d_L_isStep_367 (by decide) ?_
  exact g_iret M_L_isStep d_L_isStep_371 rfl rfl (kk _ _ _ T3 ⟨q2, L_mz hI⟩)
