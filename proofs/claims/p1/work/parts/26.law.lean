/-! ===== the law's body, from the mint and the reference as made ===== -/
def M_L_law : Mi_ := (yL_law, cL_law, 7, some .boolean, [])
abbrev SCR_ (n : Nat) (f : Nat → Int32) : Ent_ := .inl (true, .int, (n, .inl f))
def lawC (h : Hp_) (L : Nat → Nat → Nat) (q : Nat → Nat) (b o n : Nat) (f : Nat → Int32) : Prop := sepL L ∧ mtR h L id [] Nw_ none [] ∧ mdR h q ∧ h b = some (SCR_ n f) ∧ (∃ g, h o = some (OUT_ g)) ∧ (∀ i j, okL i j → b ≠ L i j ∧ o ≠ L i j ∧ ∀ k, k < 11 → q k ≠ L i j) ∧ (∀ k, k < 11 → b ≠ q k ∧ o ≠ q k) ∧ b ≠ o
/-- behind the mint's call -/
def lawD (h : Hp_) (q : Nat → Nat) (b o n : Nat) (f : Nat → Int32) : Prop := mdR h q ∧ h b = some (SCR_ n f) ∧ (∃ g, h o = some (OUT_ g)) ∧ ∀ k, k < 11 → b ≠ q k ∧ o ≠ q k
theorem lawC.chg {h h' : Hp_} {L : Nat → Nat → Nat} {q : Nat → Nat} {b o n : Nat} {f : Nat → Int32} (C : lawC h L q b o n f) (e : gChg L h h') : lawD h' q b o n f := by
  obtain ⟨_, _, c3, c4, ⟨g, c5⟩, c6, c7, _⟩ := C
  exact ⟨c3.keep (fun j v hj hv => e _ v hv (fun i k ok => (c6 i k ok).2.2 j hj)), e _ _ c4 (fun i k ok => (c6 i k ok).1), ⟨g, e _ _ c5 (fun i k ok => (c6 i k ok).2.1)⟩, c7⟩
theorem lawC.set {h h' : Hp_} {L : Nat → Nat → Nat} {q : Nat → Nat} {b o n : Nat} {f : Nat → Int32} {g' : Nat → Int64} (C : lawC h L q b o n f) (ho : h' o = some (OUT_ g')) (e : ∀ y v, h y = some v → (∀ i j, okL i j → y ≠ L i j) → y ≠ o → h' y = some v) : lawD h' q b o n f := by
  obtain ⟨_, _, c3, c4, ⟨g, c5⟩, c6, c7, c8⟩ := C
  exact ⟨c3.keep (fun j v hj hv => e _ v hv (fun i k ok => (c6 i k ok).2.2 j hj) (c7 j hj).2.symm), e _ _ c4 (fun i k ok => (c6 i k ok).1) c8, ⟨g', ho⟩, c7⟩
theorem lawD.out {h h' : Hp_} {q : Nat → Nat} {b o n : Nat} {f : Nat → Int32} {t : Int32} (C : lawD h q b o n f) (e : mOut q h h' t) : (∃ fs, h' (q 0) = some (.inr (10, fs)) ∧ fs[6]? = some (.int t)) ∧ h' b = some (SCR_ n f) := ⟨e.1, e.2 _ _ C.2.1 (fun j hj => (C.2.2.2 j hj).1)⟩
abbrev lvL (b a m o : Nat) : List (Nat × Value) := (4, .int (nI 0)) :: (3, .ref o) :: (2, .ref m) :: (1, .ref a) :: lv_args 0 [.ref b]

set_option maxHeartbeats 4000000 in
set_option maxRecDepth 100000 in
theorem E_end {lv : List (Nat × Value)} {b o fr lo kc ks : Nat} {f : Nat → Int32} {h : Hp_} {Q : Ot_ → Hp_ → Prop} (sb : h b = some (SCR_ 4 f)) (H0 : gl lv 0 = some (.ref b)) (H3 : gl lv 3 = some (.ref o)) (H4 : gl lv 4 = some (.int (nI 0))) (k : Q (.inl (some (.int 1))) h) : gG fr lo kc ks M_L_law 1446 lv [] h Q := by
  refine g_iinc M_L_law (v := nI 4) d_L_law_1446 H4 (by decide) (by first | rfl | (simp only [gc]; simp [*])) (by decide) ?_
  refine g_goto M_L_law (tgt := 23) d_L_law_1449 (by decide) ?_
  refine g_iload M_L_law d_L_law_23 (by first | rfl | assumption) ?_
  refine g_aloadn M_L_law d_L_law_25 (by first | rfl | assumption) ?_
  refine g_alen M_L_law d_L_law_26 (by assumption) ?_
  refine g_iconst M_L_law (v := nI 4) d_L_law_27 (by decide) ?_
  refine g_isub M_L_law d_L_law_28 ?_
  refine g_icmp_gt M_L_law (tgt := 1452) d_L_law_29 (by decide) (fun _ => ?_) (fun c => absurd (by decide) c)
  refine g_iconst M_L_law (v := nI 1) d_L_law_1452 (by decide) ?_
  exact g_iret M_L_law d_L_law_1453 rfl (by decide) k
set_option maxHeartbeats 4000000 in
set_option maxRecDepth 100000 in
theorem B_strike {L : Nat → Nat → Nat} {q : Nat → Nat} {b o : Nat} {f : Nat → Int32} {h : Hp_} {Q : Ot_ → Hp_ → Prop} (C : lawC h L q b o 4 f) (k : ∀ h', Q (.inl (some (.int 1))) h') : gG 9 330 2 12 M_L_law 184 (lvL b (L 0 0) (q 0) o) [] h Q := by
  obtain ⟨s, H, Y, sb, ⟨g, ho⟩, c6, c7, c8⟩ := id C
  refine g_aloadn M_L_law d_L_law_184 (by first | rfl | assumption) ?_
  refine g_aloadn M_L_law d_L_law_185 (by first | rfl | assumption) ?_
  refine g_iload M_L_law d_L_law_186 (by first | rfl | assumption) ?_
  refine g_iconst M_L_law (v := nI 1) d_L_law_188 (by decide) ?_
  refine g_iadd M_L_law d_L_law_189 ?_
  refine g_top M_L_law (y := .int (nI 1)) (by decide) ?_
  refine g_iaload M_L_law d_L_law_190 sb (vp_in_nI (by decide) (by decide)) ?_
  refine g_aloadn M_L_law d_L_law_191 (by first | rfl | assumption) ?_
  refine g_iload M_L_law d_L_law_192 (by first | rfl | assumption) ?_
  refine g_iconst M_L_law (v := nI 2) d_L_law_194 (by decide) ?_
  refine g_iadd M_L_law d_L_law_195 ?_
  refine g_top M_L_law (y := .int (nI 2)) (by decide) ?_
  refine g_iaload M_L_law d_L_law_196 sb (vp_in_nI (by decide) (by decide)) ?_
  refine g_aloadn M_L_law d_L_law_197 (by first | rfl | assumption) ?_
  refine gc_SH M_L_law 0 0 [.ref (L 0 0), .int (f (nI 1).toNatClampNeg), .int (f (nI 2).toNatClampNeg), .ref o] [] d_L_law_198 cs_L_86 (by decide) (by rfl) (by rfl) (Nat.le_of_ble_eq_true (by rfl)) (Nat.le_of_ble_eq_true (by rfl)) (by decide) (by decide) (by decide) (by decide) (W_strike s H (fun h1 e1 => ?_))
  have D := C.chg e1
  show gG _ _ _ _ _ _ _ _ _ _
  refine g_istore M_L_law d_L_law_201 (by decide) (by first | rfl | (simp only [gc]; simp [*])) ?_
  refine g_aloadn M_L_law d_L_law_203 (by first | rfl | assumption) ?_
  refine g_aloadn M_L_law d_L_law_204 (by first | rfl | assumption) ?_
  refine g_iload M_L_law d_L_law_205 (by first | rfl | assumption) ?_
  refine g_iconst M_L_law (v := nI 1) d_L_law_207 (by decide) ?_
  refine g_iadd M_L_law d_L_law_208 ?_
  refine g_top M_L_law (y := .int (nI 1)) (by decide) ?_
  refine g_iaload M_L_law d_L_law_209 D.2.1 (vp_in_nI (by decide) (by decide)) ?_
  refine g_aloadn M_L_law d_L_law_210 (by first | rfl | assumption) ?_
  refine g_iload M_L_law d_L_law_211 (by first | rfl | assumption) ?_
  refine g_iconst M_L_law (v := nI 2) d_L_law_213 (by decide) ?_
  refine g_iadd M_L_law d_L_law_214 ?_
  refine g_top M_L_law (y := .int (nI 2)) (by decide) ?_
  refine g_iaload M_L_law d_L_law_215 D.2.1 (vp_in_nI (by decide) (by decide)) ?_
  refine gc_V M_L_law 0 0 [.int (f (nI 1).toNatClampNeg), .int (f (nI 2).toNatClampNeg)] [] d_L_law_216 cv_L_91 D.1.2.1 (by rfl) (by rfl) (Nat.le_of_ble_eq_true (by rfl)) (Nat.le_of_ble_eq_true (by rfl)) (by decide) (by decide) (by decide) (by decide) (Y_strike D.1 (fun h2 e2 => ?_))
  obtain ⟨⟨fs2, Z1, Z2⟩, sb2⟩ := D.out e2
  show gG _ _ _ _ _ _ _ _ _ _
  refine g_istore M_L_law d_L_law_219 (by decide) (by first | rfl | (simp only [gc]; simp [*])) ?_
  refine g_aloadn M_L_law d_L_law_221 (by first | rfl | assumption) ?_
  refine gc_V M_L_law 0 0 [] [] d_L_law_222 cv_L_92 Z1 (by rfl) (by rfl) (Nat.le_of_ble_eq_true (by rfl)) (Nat.le_of_ble_eq_true (by rfl)) (by decide) (by decide) (by decide) (by decide) (C_10_thrown Z1 Z2 ?_)
  show gG _ _ _ _ _ _ _ _ _ _
  refine g_iload M_L_law d_L_law_225 (by first | rfl | assumption) ?_
  refine g_icmp_eq M_L_law (tgt := 232) d_L_law_227 (by decide) (fun _ => ?_) (fun c => absurd rfl c)
  refine g_iload M_L_law d_L_law_232 (by first | rfl | assumption) ?_
  refine g_if_ne M_L_law (tgt := 249) d_L_law_234 (by decide) (fun _ => ?_) (fun c => absurd c (by decide))
  refine g_goto M_L_law (tgt := 1446) d_L_law_249 (by decide) ?_
  exact E_end sb2 rfl rfl rfl (k _)
set_option maxHeartbeats 4000000 in
set_option maxRecDepth 100000 in
theorem B_melt {L : Nat → Nat → Nat} {q : Nat → Nat} {b o : Nat} {f : Nat → Int32} {h : Hp_} {Q : Ot_ → Hp_ → Prop} (C : lawC h L q b o 4 f) (k : ∀ h', Q (.inl (some (.int 1))) h') : gG 9 330 2 12 M_L_law 252 (lvL b (L 0 0) (q 0) o) [] h Q := by
  obtain ⟨s, H, Y, sb, ⟨g, ho⟩, c6, c7, c8⟩ := id C
  refine g_aloadn M_L_law d_L_law_252 (by first | rfl | assumption) ?_
  refine g_aloadn M_L_law d_L_law_253 (by first | rfl | assumption) ?_
  refine g_iload M_L_law d_L_law_254 (by first | rfl | assumption) ?_
  refine g_iconst M_L_law (v := nI 1) d_L_law_256 (by decide) ?_
  refine g_iadd M_L_law d_L_law_257 ?_
  refine g_top M_L_law (y := .int (nI 1)) (by decide) ?_
  refine g_iaload M_L_law d_L_law_258 sb (vp_in_nI (by decide) (by decide)) ?_
  refine g_aloadn M_L_law d_L_law_259 (by first | rfl | assumption) ?_
  refine g_iload M_L_law d_L_law_260 (by first | rfl | assumption) ?_
  refine g_iconst M_L_law (v := nI 2) d_L_law_262 (by decide) ?_
  refine g_iadd M_L_law d_L_law_263 ?_
  refine g_top M_L_law (y := .int (nI 2)) (by decide) ?_
  refine g_iaload M_L_law d_L_law_264 sb (vp_in_nI (by decide) (by decide)) ?_
  refine g_aloadn M_L_law d_L_law_265 (by first | rfl | assumption) ?_
  refine gc_SH M_L_law 0 0 [.ref (L 0 0), .int (f (nI 1).toNatClampNeg), .int (f (nI 2).toNatClampNeg), .ref o] [] d_L_law_266 cs_L_95 (by decide) (by rfl) (by rfl) (Nat.le_of_ble_eq_true (by rfl)) (Nat.le_of_ble_eq_true (by rfl)) (by decide) (by decide) (by decide) (by decide) (W_melt s H (fun h1 e1 => ?_))
  have D := C.chg e1
  show gG _ _ _ _ _ _ _ _ _ _
  refine g_istore M_L_law d_L_law_269 (by decide) (by first | rfl | (simp only [gc]; simp [*])) ?_
  refine g_aloadn M_L_law d_L_law_271 (by first | rfl | assumption) ?_
  refine g_aloadn M_L_law d_L_law_272 (by first | rfl | assumption) ?_
  refine g_iload M_L_law d_L_law_273 (by first | rfl | assumption) ?_
  refine g_iconst M_L_law (v := nI 1) d_L_law_275 (by decide) ?_
  refine g_iadd M_L_law d_L_law_276 ?_
  refine g_top M_L_law (y := .int (nI 1)) (by decide) ?_
  refine g_iaload M_L_law d_L_law_277 D.2.1 (vp_in_nI (by decide) (by decide)) ?_
  refine g_aloadn M_L_law d_L_law_278 (by first | rfl | assumption) ?_
  refine g_iload M_L_law d_L_law_279 (by first | rfl | assumption) ?_
  refine g_iconst M_L_law (v := nI 2) d_L_law_281 (by decide) ?_
  refine g_iadd M_L_law d_L_law_282 ?_
  refine g_top M_L_law (y := .int (nI 2)) (by decide) ?_
  refine g_iaload M_L_law d_L_law_283 D.2.1 (vp_in_nI (by decide) (by decide)) ?_
  refine gc_V M_L_law 0 0 [.int (f (nI 1).toNatClampNeg), .int (f (nI 2).toNatClampNeg)] [] d_L_law_284 cv_L_97 D.1.2.1 (by rfl) (by rfl) (Nat.le_of_ble_eq_true (by rfl)) (Nat.le_of_ble_eq_true (by rfl)) (by decide) (by decide) (by decide) (by decide) (Y_melt D.1 (fun h2 e2 => ?_))
  obtain ⟨⟨fs2, Z1, Z2⟩, sb2⟩ := D.out e2
  show gG _ _ _ _ _ _ _ _ _ _
  refine g_istore M_L_law d_L_law_287 (by decide) (by first | rfl | (simp only [gc]; simp [*])) ?_
  refine g_aloadn M_L_law d_L_law_289 (by first | rfl | assumption) ?_
  refine gc_V M_L_law 0 0 [] [] d_L_law_290 cv_L_92 Z1 (by rfl) (by rfl) (Nat.le_of_ble_eq_true (by rfl)) (Nat.le_of_ble_eq_true (by rfl)) (by decide) (by decide) (by decide) (by decide) (C_10_thrown Z1 Z2 ?_)
  show gG _ _ _ _ _ _ _ _ _ _
  refine g_iload M_L_law d_L_law_293 (by first | rfl | assumption) ?_
  refine g_icmp_eq M_L_law (tgt := 300) d_L_law_295 (by decide) (fun _ => ?_) (fun c => absurd rfl c)
  refine g_iload M_L_law d_L_law_300 (by first | rfl | assumption) ?_
  refine g_if_ne M_L_law (tgt := 317) d_L_law_302 (by decide) (fun _ => ?_) (fun c => absurd c (by decide))
  refine g_goto M_L_law (tgt := 1446) d_L_law_317 (by decide) ?_
  exact E_end sb2 rfl rfl rfl (k _)
set_option maxHeartbeats 4000000 in
set_option maxRecDepth 100000 in
theorem B_meltStale {L : Nat → Nat → Nat} {q : Nat → Nat} {b o : Nat} {f : Nat → Int32} {h : Hp_} {Q : Ot_ → Hp_ → Prop} (C : lawC h L q b o 4 f) (k : ∀ h', Q (.inl (some (.int 1))) h') : gG 9 330 2 12 M_L_law 320 (lvL b (L 0 0) (q 0) o) [] h Q := by
  obtain ⟨s, H, Y, sb, ⟨g, ho⟩, c6, c7, c8⟩ := id C
  refine g_aloadn M_L_law d_L_law_320 (by first | rfl | assumption) ?_
  refine gc_V M_L_law 0 0 [] [] d_L_law_321 cv_L_98 H.1 (by rfl) (by rfl) (Nat.le_of_ble_eq_true (by rfl)) (Nat.le_of_ble_eq_true (by rfl)) (by decide) (by decide) (by decide) (by decide) (F_meltStale s H (fun h1 e1 => ?_))
  have D := C.chg e1
  show gG _ _ _ _ _ _ _ _ _ _
  refine g_aloadn M_L_law d_L_law_324 (by first | rfl | assumption) ?_
  refine gc_V M_L_law 0 0 [] [_] d_L_law_325 cv_L_101 D.1.2.1 (by rfl) (by rfl) (Nat.le_of_ble_eq_true (by rfl)) (Nat.le_of_ble_eq_true (by rfl)) (by decide) (by decide) (by decide) (by decide) (Y_meltStale D.1 (fun h2 e2 => ?_))
  have sb2 := (D.out e2).2
  show gG _ _ _ _ _ _ _ _ _ _
  refine g_icmp_eq M_L_law (tgt := 1446) d_L_law_328 (by decide) (fun _ => ?_) (fun c => absurd rfl c)
  exact E_end sb2 rfl rfl rfl (k _)
set_option maxHeartbeats 4000000 in
set_option maxRecDepth 100000 in
theorem B_dropDie {L : Nat → Nat → Nat} {q : Nat → Nat} {b o : Nat} {f : Nat → Int32} {h : Hp_} {Q : Ot_ → Hp_ → Prop} (C : lawC h L q b o 4 f) (k : ∀ h', Q (.inl (some (.int 1))) h') : gG 9 330 2 12 M_L_law 333 (lvL b (L 0 0) (q 0) o) [] h Q := by
  obtain ⟨s, H, Y, sb, ⟨g, ho⟩, c6, c7, c8⟩ := id C
  refine g_aloadn M_L_law d_L_law_333 (by first | rfl | assumption) ?_
  refine g_aloadn M_L_law d_L_law_334 (by first | rfl | assumption) ?_
  refine g_iload M_L_law d_L_law_335 (by first | rfl | assumption) ?_
  refine g_iconst M_L_law (v := nI 1) d_L_law_337 (by decide) ?_
  refine g_iadd M_L_law d_L_law_338 ?_
  refine g_top M_L_law (y := .int (nI 1)) (by decide) ?_
  refine g_iaload M_L_law d_L_law_339 sb (vp_in_nI (by decide) (by decide)) ?_
  refine g_aloadn M_L_law d_L_law_340 (by first | rfl | assumption) ?_
  refine gc_SH M_L_law 0 0 [.ref (L 0 0), .int (f (nI 1).toNatClampNeg), .ref o] [] d_L_law_341 cs_L_102 (by decide) (by rfl) (by rfl) (Nat.le_of_ble_eq_true (by rfl)) (Nat.le_of_ble_eq_true (by rfl)) (by decide) (by decide) (by decide) (by decide) (W_dropDie H (fun e => ?_) (fun e => ?_))
  · have D := C.chg gChg.rfl'
    show gG _ _ _ _ _ _ _ _ _ _
    refine g_istore M_L_law d_L_law_344 (by decide) (by first | rfl | (simp only [gc]; simp [*])) ?_
    refine g_aloadn M_L_law d_L_law_346 (by first | rfl | assumption) ?_
    refine g_aloadn M_L_law d_L_law_347 (by first | rfl | assumption) ?_
    refine g_iload M_L_law d_L_law_348 (by first | rfl | assumption) ?_
    refine g_iconst M_L_law (v := nI 1) d_L_law_350 (by decide) ?_
    refine g_iadd M_L_law d_L_law_351 ?_
    refine g_top M_L_law (y := .int (nI 1)) (by decide) ?_
    refine g_iaload M_L_law d_L_law_352 D.2.1 (vp_in_nI (by decide) (by decide)) ?_
    refine gc_V M_L_law 0 0 [.int (f (nI 1).toNatClampNeg)] [] d_L_law_353 cv_L_105 D.1.2.1 (by rfl) (by rfl) (Nat.le_of_ble_eq_true (by rfl)) (Nat.le_of_ble_eq_true (by rfl)) (by decide) (by decide) (by decide) (by decide) (Y_dropDie D.1 (fun _ h2 e2 => ?_) (fun z => absurd e z))
    obtain ⟨⟨fs2, Z1, Z2⟩, sb2⟩ := D.out e2
    show gG _ _ _ _ _ _ _ _ _ _
    refine g_istore M_L_law d_L_law_356 (by decide) (by first | rfl | (simp only [gc]; simp [*])) ?_
    refine g_aloadn M_L_law d_L_law_358 (by first | rfl | assumption) ?_
    refine gc_V M_L_law 0 0 [] [] d_L_law_359 cv_L_92 Z1 (by rfl) (by rfl) (Nat.le_of_ble_eq_true (by rfl)) (Nat.le_of_ble_eq_true (by rfl)) (by decide) (by decide) (by decide) (by decide) (C_10_thrown Z1 Z2 ?_)
    show gG _ _ _ _ _ _ _ _ _ _
    refine g_iload M_L_law d_L_law_362 (by first | rfl | assumption) ?_
    refine g_icmp_eq M_L_law (tgt := 369) d_L_law_364 (by decide) (fun _ => ?_) (fun c => absurd rfl c)
    refine g_iload M_L_law d_L_law_369 (by first | rfl | assumption) ?_
    refine g_if_ne M_L_law (tgt := 386) d_L_law_371 (by decide) (fun _ => ?_) (fun c => absurd c (by decide))
    refine g_goto M_L_law (tgt := 1446) d_L_law_386 (by decide) ?_
    exact E_end sb2 rfl rfl rfl (k _)
  · have D := C.chg gChg.rfl'
    show gG _ _ _ _ _ _ _ _ _ _
    refine g_istore M_L_law d_L_law_344 (by decide) (by first | rfl | (simp only [gc]; simp [*])) ?_
    refine g_aloadn M_L_law d_L_law_346 (by first | rfl | assumption) ?_
    refine g_aloadn M_L_law d_L_law_347 (by first | rfl | assumption) ?_
    refine g_iload M_L_law d_L_law_348 (by first | rfl | assumption) ?_
    refine g_iconst M_L_law (v := nI 1) d_L_law_350 (by decide) ?_
    refine g_iadd M_L_law d_L_law_351 ?_
    refine g_top M_L_law (y := .int (nI 1)) (by decide) ?_
    refine g_iaload M_L_law d_L_law_352 D.2.1 (vp_in_nI (by decide) (by decide)) ?_
    refine gc_V M_L_law 0 0 [.int (f (nI 1).toNatClampNeg)] [] d_L_law_353 cv_L_105 D.1.2.1 (by rfl) (by rfl) (Nat.le_of_ble_eq_true (by rfl)) (Nat.le_of_ble_eq_true (by rfl)) (by decide) (by decide) (by decide) (by decide) (Y_dropDie D.1 (fun z => absurd z e) (fun _ h2 e2 => ?_))
    obtain ⟨⟨fs2, Z1, Z2⟩, sb2⟩ := D.out e2
    show gG _ _ _ _ _ _ _ _ _ _
    refine g_istore M_L_law d_L_law_356 (by decide) (by first | rfl | (simp only [gc]; simp [*])) ?_
    refine g_aloadn M_L_law d_L_law_358 (by first | rfl | assumption) ?_
    refine gc_V M_L_law 0 0 [] [] d_L_law_359 cv_L_92 Z1 (by rfl) (by rfl) (Nat.le_of_ble_eq_true (by rfl)) (Nat.le_of_ble_eq_true (by rfl)) (by decide) (by decide) (by decide) (by decide) (C_10_thrown Z1 Z2 ?_)
    show gG _ _ _ _ _ _ _ _ _ _
    refine g_iload M_L_law d_L_law_362 (by first | rfl | assumption) ?_
    refine g_icmp_eq M_L_law (tgt := 369) d_L_law_364 (by decide) (fun _ => ?_) (fun c => absurd rfl c)
    refine g_iload M_L_law d_L_law_369 (by first | rfl | assumption) ?_
    refine g_if_ne M_L_law (tgt := 386) d_L_law_371 (by decide) (fun _ => ?_) (fun c => absurd c (by decide))
    refine g_goto M_L_law (tgt := 1446) d_L_law_386 (by decide) ?_
    exact E_end sb2 rfl rfl rfl (k _)
set_option maxHeartbeats 4000000 in
set_option maxRecDepth 100000 in
theorem B_dropIrregular {L : Nat → Nat → Nat} {q : Nat → Nat} {b o : Nat} {f : Nat → Int32} {h : Hp_} {Q : Ot_ → Hp_ → Prop} (C : lawC h L q b o 4 f) (k : ∀ h', Q (.inl (some (.int 1))) h') : gG 9 330 2 12 M_L_law 389 (lvL b (L 0 0) (q 0) o) [] h Q := by
  obtain ⟨s, H, Y, sb, ⟨g, ho⟩, c6, c7, c8⟩ := id C
  refine g_aloadn M_L_law d_L_law_389 (by first | rfl | assumption) ?_
  refine g_aloadn M_L_law d_L_law_390 (by first | rfl | assumption) ?_
  refine gc_SH M_L_law 0 0 [.ref (L 0 0), .ref o] [] d_L_law_391 cs_L_106 (by decide) (by rfl) (by rfl) (Nat.le_of_ble_eq_true (by rfl)) (Nat.le_of_ble_eq_true (by rfl)) (by decide) (by decide) (by decide) (by decide) (W_dropIrregular s H (fun h1 e1 => ?_))
  have D := C.chg e1
  show gG _ _ _ _ _ _ _ _ _ _
  refine g_istore M_L_law d_L_law_394 (by decide) (by first | rfl | (simp only [gc]; simp [*])) ?_
  refine g_aloadn M_L_law d_L_law_396 (by first | rfl | assumption) ?_
  refine gc_V M_L_law 0 0 [] [] d_L_law_397 cv_L_109 D.1.2.1 (by rfl) (by rfl) (Nat.le_of_ble_eq_true (by rfl)) (Nat.le_of_ble_eq_true (by rfl)) (by decide) (by decide) (by decide) (by decide) (Y_dropIrregular D.1 (fun h2 e2 => ?_))
  obtain ⟨⟨fs2, Z1, Z2⟩, sb2⟩ := D.out e2
  show gG _ _ _ _ _ _ _ _ _ _
  refine g_istore M_L_law d_L_law_400 (by decide) (by first | rfl | (simp only [gc]; simp [*])) ?_
  refine g_aloadn M_L_law d_L_law_402 (by first | rfl | assumption) ?_
  refine gc_V M_L_law 0 0 [] [] d_L_law_403 cv_L_92 Z1 (by rfl) (by rfl) (Nat.le_of_ble_eq_true (by rfl)) (Nat.le_of_ble_eq_true (by rfl)) (by decide) (by decide) (by decide) (by decide) (C_10_thrown Z1 Z2 ?_)
  show gG _ _ _ _ _ _ _ _ _ _
  refine g_iload M_L_law d_L_law_406 (by first | rfl | assumption) ?_
  refine g_icmp_eq M_L_law (tgt := 413) d_L_law_408 (by decide) (fun _ => ?_) (fun c => absurd rfl c)
  refine g_iload M_L_law d_L_law_413 (by first | rfl | assumption) ?_
  refine g_if_ne M_L_law (tgt := 430) d_L_law_415 (by decide) (fun _ => ?_) (fun c => absurd c (by decide))
  refine g_goto M_L_law (tgt := 1446) d_L_law_430 (by decide) ?_
  exact E_end sb2 rfl rfl rfl (k _)
set_option maxHeartbeats 4000000 in
set_option maxRecDepth 100000 in
theorem B_type {L : Nat → Nat → Nat} {q : Nat → Nat} {b o : Nat} {f : Nat → Int32} {h : Hp_} {Q : Ot_ → Hp_ → Prop} (C : lawC h L q b o 4 f) (k : ∀ h', Q (.inl (some (.int 1))) h') : gG 9 330 2 12 M_L_law 433 (lvL b (L 0 0) (q 0) o) [] h Q := by
  obtain ⟨s, H, Y, sb, ⟨g, ho⟩, c6, c7, c8⟩ := id C
  obtain ⟨c, hc, ec⟩ := i2c_nI (f (nI 1).toNatClampNeg)
  refine g_aloadn M_L_law d_L_law_433 (by first | rfl | assumption) ?_
  refine g_aloadn M_L_law d_L_law_434 (by first | rfl | assumption) ?_
  refine g_iload M_L_law d_L_law_435 (by first | rfl | assumption) ?_
  refine g_iconst M_L_law (v := nI 1) d_L_law_437 (by decide) ?_
  refine g_iadd M_L_law d_L_law_438 ?_
  refine g_top M_L_law (y := .int (nI 1)) (by decide) ?_
  refine g_iaload M_L_law d_L_law_439 sb (vp_in_nI (by decide) (by decide)) ?_
  refine g_i2c M_L_law d_L_law_440 ?_
  rw [ec]
  refine g_aloadn M_L_law d_L_law_441 (by first | rfl | assumption) ?_
  refine gc_SH M_L_law 0 0 [.ref (L 0 0), .int (nI c), .ref o] [] d_L_law_442 cs_L_110 (by decide) (by rfl) (by rfl) (Nat.le_of_ble_eq_true (by rfl)) (Nat.le_of_ble_eq_true (by rfl)) (by decide) (by decide) (by decide) (by decide) (W_type hc s H ho (fun i j ok => (c6 i j ok).2.1) (fun h1 g1 o1 ge1 e1 => ?_))
  have D := C.set o1 e1
  show gG _ _ _ _ _ _ _ _ _ _
  refine g_istore M_L_law d_L_law_445 (by decide) (by first | rfl | (simp only [gc]; simp [*])) ?_
  refine g_aloadn M_L_law d_L_law_447 (by first | rfl | assumption) ?_
  refine g_aloadn M_L_law d_L_law_448 (by first | rfl | assumption) ?_
  refine g_iload M_L_law d_L_law_449 (by first | rfl | assumption) ?_
  refine g_iconst M_L_law (v := nI 1) d_L_law_451 (by decide) ?_
  refine g_iadd M_L_law d_L_law_452 ?_
  refine g_top M_L_law (y := .int (nI 1)) (by decide) ?_
  refine g_iaload M_L_law d_L_law_453 D.2.1 (vp_in_nI (by decide) (by decide)) ?_
  refine g_i2c M_L_law d_L_law_454 ?_
  rw [ec]
  refine gc_V M_L_law 0 0 [.int (nI c)] [] d_L_law_455 cv_L_113 D.1.2.1 (by rfl) (by rfl) (Nat.le_of_ble_eq_true (by rfl)) (Nat.le_of_ble_eq_true (by rfl)) (by decide) (by decide) (by decide) (by decide) (Y_type D.1 (fun h2 e2 => ?_))
  obtain ⟨⟨fs2, Z1, Z2⟩, sb2⟩ := D.out e2
  have o2 := e2.2 _ _ o1 (fun j hj => (D.2.2.2 j hj).2)
  have LE : g1 (nI 0).toNatClampNeg = (nI 1).toInt64 := ge1
  show gG _ _ _ _ _ _ _ _ _ _
  refine g_istore M_L_law d_L_law_458 (by decide) (by first | rfl | (simp only [gc]; simp [*])) ?_
  refine g_aloadn M_L_law d_L_law_460 (by first | rfl | assumption) ?_
  refine gc_V M_L_law 0 0 [] [] d_L_law_461 cv_L_92 Z1 (by rfl) (by rfl) (Nat.le_of_ble_eq_true (by rfl)) (Nat.le_of_ble_eq_true (by rfl)) (by decide) (by decide) (by decide) (by decide) (C_10_thrown Z1 Z2 ?_)
  show gG _ _ _ _ _ _ _ _ _ _
  refine g_iload M_L_law d_L_law_464 (by first | rfl | assumption) ?_
  refine g_icmp_eq M_L_law (tgt := 471) d_L_law_466 (by decide) (fun _ => ?_) (fun c => absurd rfl c)
  refine g_iload M_L_law d_L_law_471 (by first | rfl | assumption) ?_
  refine g_if_ne M_L_law (tgt := 488) d_L_law_473 (by decide) (fun c => absurd rfl c) (fun _ => ?_)
  refine g_aloadn M_L_law d_L_law_476 (by first | rfl | assumption) ?_
  refine g_iconst M_L_law (v := nI 0) d_L_law_477 (by decide) ?_
  refine g_laload M_L_law d_L_law_478 o2 (vp_in_nI (by decide) (by decide)) ?_
  refine g_iload M_L_law d_L_law_479 (by first | rfl | assumption) ?_
  refine g_i2l M_L_law d_L_law_481 ?_
  refine g_lcmp M_L_law d_L_law_482 ?_
  refine g_if_eq M_L_law (tgt := 488) d_L_law_483 (by decide) (fun _ => ?_) (fun c => absurd ((lg_cmp_eq _ _).mpr LE) c)
  refine g_goto M_L_law (tgt := 1446) d_L_law_488 (by decide) ?_
  exact E_end sb2 rfl rfl rfl (k _)
set_option maxHeartbeats 4000000 in
set_option maxRecDepth 100000 in
theorem B_clearText {L : Nat → Nat → Nat} {q : Nat → Nat} {b o : Nat} {f : Nat → Int32} {h : Hp_} {Q : Ot_ → Hp_ → Prop} (C : lawC h L q b o 4 f) (k : ∀ h', Q (.inl (some (.int 1))) h') : gG 9 330 2 12 M_L_law 491 (lvL b (L 0 0) (q 0) o) [] h Q := by
  obtain ⟨s, H, Y, sb, ⟨g, ho⟩, c6, c7, c8⟩ := id C
  refine g_aloadn M_L_law d_L_law_491 (by first | rfl | assumption) ?_
  refine gc_V M_L_law 0 0 [] [] d_L_law_492 cv_L_114 H.1 (by rfl) (by rfl) (Nat.le_of_ble_eq_true (by rfl)) (Nat.le_of_ble_eq_true (by rfl)) (by decide) (by decide) (by decide) (by decide) (F_clearText s H (fun h1 e1 => ?_))
  have D := C.chg e1
  show gG _ _ _ _ _ _ _ _ _ _
  refine g_aloadn M_L_law d_L_law_495 (by first | rfl | assumption) ?_
  refine gc_V M_L_law 0 0 [] [_] d_L_law_496 cv_L_117 D.1.2.1 (by rfl) (by rfl) (Nat.le_of_ble_eq_true (by rfl)) (Nat.le_of_ble_eq_true (by rfl)) (by decide) (by decide) (by decide) (by decide) (Y_clearText D.1 (fun h2 e2 => ?_))
  have sb2 := (D.out e2).2
  show gG _ _ _ _ _ _ _ _ _ _
  refine g_icmp_eq M_L_law (tgt := 1446) d_L_law_499 (by decide) (fun _ => ?_) (fun c => absurd rfl c)
  exact E_end sb2 rfl rfl rfl (k _)
set_option maxHeartbeats 4000000 in
set_option maxRecDepth 100000 in
theorem B_textError {L : Nat → Nat → Nat} {q : Nat → Nat} {b o : Nat} {f : Nat → Int32} {h : Hp_} {Q : Ot_ → Hp_ → Prop} (C : lawC h L q b o 4 f) (k : ∀ h', Q (.inl (some (.int 1))) h') : gG 9 330 2 12 M_L_law 504 (lvL b (L 0 0) (q 0) o) [] h Q := by
  obtain ⟨s, H, Y, sb, ⟨g, ho⟩, c6, c7, c8⟩ := id C
  refine g_aloadn M_L_law d_L_law_504 (by first | rfl | assumption) ?_
  refine gc_V M_L_law 0 0 [] [] d_L_law_505 cv_L_118 H.1 (by rfl) (by rfl) (Nat.le_of_ble_eq_true (by rfl)) (Nat.le_of_ble_eq_true (by rfl)) (by decide) (by decide) (by decide) (by decide) (F_textError s H (fun h1 e1 => ?_))
  have D := C.chg e1
  show gG _ _ _ _ _ _ _ _ _ _
  refine g_aloadn M_L_law d_L_law_508 (by first | rfl | assumption) ?_
  refine gc_V M_L_law 0 0 [] [_] d_L_law_509 cv_L_121 D.1.2.1 (by rfl) (by rfl) (Nat.le_of_ble_eq_true (by rfl)) (Nat.le_of_ble_eq_true (by rfl)) (by decide) (by decide) (by decide) (by decide) (Y_textError D.1 (fun h2 e2 => ?_))
  have sb2 := (D.out e2).2
  show gG _ _ _ _ _ _ _ _ _ _
  refine g_icmp_eq M_L_law (tgt := 1446) d_L_law_512 (by decide) (fun _ => ?_) (fun c => absurd rfl c)
  exact E_end sb2 rfl rfl rfl (k _)
set_option maxHeartbeats 4000000 in
set_option maxRecDepth 100000 in
theorem B_impossibleOrder {L : Nat → Nat → Nat} {q : Nat → Nat} {b o : Nat} {f : Nat → Int32} {h : Hp_} {Q : Ot_ → Hp_ → Prop} (C : lawC h L q b o 4 f) (k : ∀ h', Q (.inl (some (.int 1))) h') : gG 9 330 2 12 M_L_law 517 (lvL b (L 0 0) (q 0) o) [] h Q := by
  obtain ⟨s, H, Y, sb, ⟨g, ho⟩, c6, c7, c8⟩ := id C
  refine g_aloadn M_L_law d_L_law_517 (by first | rfl | assumption) ?_
  refine g_aloadn M_L_law d_L_law_518 (by first | rfl | assumption) ?_
  refine gc_SH M_L_law 0 0 [.ref (L 0 0), .ref o] [] d_L_law_519 cs_L_122 (by decide) (by rfl) (by rfl) (Nat.le_of_ble_eq_true (by rfl)) (Nat.le_of_ble_eq_true (by rfl)) (by decide) (by decide) (by decide) (by decide) (W_impossibleOrder s H (fun h1 e1 => ?_))
  have D := C.chg e1
  show gG _ _ _ _ _ _ _ _ _ _
  refine g_istore M_L_law d_L_law_522 (by decide) (by first | rfl | (simp only [gc]; simp [*])) ?_
  refine g_aloadn M_L_law d_L_law_524 (by first | rfl | assumption) ?_
  refine gc_V M_L_law 0 0 [] [] d_L_law_525 cv_L_124 D.1.2.1 (by rfl) (by rfl) (Nat.le_of_ble_eq_true (by rfl)) (Nat.le_of_ble_eq_true (by rfl)) (by decide) (by decide) (by decide) (by decide) (Y_impossibleOrder D.1 (fun h2 e2 => ?_))
  obtain ⟨⟨fs2, Z1, Z2⟩, sb2⟩ := D.out e2
  show gG _ _ _ _ _ _ _ _ _ _
  refine g_istore M_L_law d_L_law_528 (by decide) (by first | rfl | (simp only [gc]; simp [*])) ?_
  refine g_aloadn M_L_law d_L_law_530 (by first | rfl | assumption) ?_
  refine gc_V M_L_law 0 0 [] [] d_L_law_531 cv_L_92 Z1 (by rfl) (by rfl) (Nat.le_of_ble_eq_true (by rfl)) (Nat.le_of_ble_eq_true (by rfl)) (by decide) (by decide) (by decide) (by decide) (C_10_thrown Z1 Z2 ?_)
  show gG _ _ _ _ _ _ _ _ _ _
  refine g_iload M_L_law d_L_law_534 (by first | rfl | assumption) ?_
  refine g_icmp_eq M_L_law (tgt := 541) d_L_law_536 (by decide) (fun _ => ?_) (fun c => absurd rfl c)
  refine g_iload M_L_law d_L_law_541 (by first | rfl | assumption) ?_
  refine g_if_ne M_L_law (tgt := 558) d_L_law_543 (by decide) (fun _ => ?_) (fun c => absurd c (by decide))
  refine g_goto M_L_law (tgt := 1446) d_L_law_558 (by decide) ?_
  exact E_end sb2 rfl rfl rfl (k _)
set_option maxHeartbeats 4000000 in
set_option maxRecDepth 100000 in
theorem B_carryOut {L : Nat → Nat → Nat} {q : Nat → Nat} {b o : Nat} {f : Nat → Int32} {h : Hp_} {Q : Ot_ → Hp_ → Prop} (C : lawC h L q b o 4 f) (k : ∀ h', Q (.inl (some (.int 1))) h') : gG 9 330 2 12 M_L_law 561 (lvL b (L 0 0) (q 0) o) [] h Q := by
  obtain ⟨s, H, Y, sb, ⟨g, ho⟩, c6, c7, c8⟩ := id C
  refine g_aloadn M_L_law d_L_law_561 (by first | rfl | assumption) ?_
  refine g_aloadn M_L_law d_L_law_562 (by first | rfl | assumption) ?_
  refine gc_SH M_L_law 0 0 [.ref (L 0 0), .ref o] [] d_L_law_563 cs_L_125 (by decide) (by rfl) (by rfl) (Nat.le_of_ble_eq_true (by rfl)) (Nat.le_of_ble_eq_true (by rfl)) (by decide) (by decide) (by decide) (by decide) (W_carryOut s H (fun h1 e1 => ?_))
  have D := C.chg e1
  show gG _ _ _ _ _ _ _ _ _ _
  refine g_istore M_L_law d_L_law_566 (by decide) (by first | rfl | (simp only [gc]; simp [*])) ?_
  refine g_aloadn M_L_law d_L_law_568 (by first | rfl | assumption) ?_
  refine gc_V M_L_law 0 0 [] [] d_L_law_569 cv_L_127 D.1.2.1 (by rfl) (by rfl) (Nat.le_of_ble_eq_true (by rfl)) (Nat.le_of_ble_eq_true (by rfl)) (by decide) (by decide) (by decide) (by decide) (Y_carryOut D.1 (fun h2 e2 => ?_))
  obtain ⟨⟨fs2, Z1, Z2⟩, sb2⟩ := D.out e2
  show gG _ _ _ _ _ _ _ _ _ _
  refine g_istore M_L_law d_L_law_572 (by decide) (by first | rfl | (simp only [gc]; simp [*])) ?_
  refine g_aloadn M_L_law d_L_law_574 (by first | rfl | assumption) ?_
  refine gc_V M_L_law 0 0 [] [] d_L_law_575 cv_L_92 Z1 (by rfl) (by rfl) (Nat.le_of_ble_eq_true (by rfl)) (Nat.le_of_ble_eq_true (by rfl)) (by decide) (by decide) (by decide) (by decide) (C_10_thrown Z1 Z2 ?_)
  show gG _ _ _ _ _ _ _ _ _ _
  refine g_iload M_L_law d_L_law_578 (by first | rfl | assumption) ?_
  refine g_icmp_eq M_L_law (tgt := 585) d_L_law_580 (by decide) (fun _ => ?_) (fun c => absurd rfl c)
  refine g_iload M_L_law d_L_law_585 (by first | rfl | assumption) ?_
  refine g_if_ne M_L_law (tgt := 602) d_L_law_587 (by decide) (fun _ => ?_) (fun c => absurd c (by decide))
  refine g_goto M_L_law (tgt := 1446) d_L_law_602 (by decide) ?_
  exact E_end sb2 rfl rfl rfl (k _)
set_option maxHeartbeats 4000000 in
set_option maxRecDepth 100000 in
theorem B_undo {L : Nat → Nat → Nat} {q : Nat → Nat} {b o : Nat} {f : Nat → Int32} {h : Hp_} {Q : Ot_ → Hp_ → Prop} (C : lawC h L q b o 4 f) (k : ∀ h', Q (.inl (some (.int 1))) h') : gG 9 330 2 12 M_L_law 605 (lvL b (L 0 0) (q 0) o) [] h Q := by
  obtain ⟨s, H, Y, sb, ⟨g, ho⟩, c6, c7, c8⟩ := id C
  refine g_aloadn M_L_law d_L_law_605 (by first | rfl | assumption) ?_
  refine g_aloadn M_L_law d_L_law_606 (by first | rfl | assumption) ?_
  refine gc_SH M_L_law 0 0 [.ref (L 0 0), .ref o] [] d_L_law_607 cs_L_128 (by decide) (by rfl) (by rfl) (Nat.le_of_ble_eq_true (by rfl)) (Nat.le_of_ble_eq_true (by rfl)) (by decide) (by decide) (by decide) (by decide) (W_undo s H (fun h1 e1 => ?_))
  have D := C.chg e1
  show gG _ _ _ _ _ _ _ _ _ _
  refine g_istore M_L_law d_L_law_610 (by decide) (by first | rfl | (simp only [gc]; simp [*])) ?_
  refine g_aloadn M_L_law d_L_law_612 (by first | rfl | assumption) ?_
  refine gc_V M_L_law 0 0 [] [] d_L_law_613 cv_L_130 D.1.2.1 (by rfl) (by rfl) (Nat.le_of_ble_eq_true (by rfl)) (Nat.le_of_ble_eq_true (by rfl)) (by decide) (by decide) (by decide) (by decide) (Y_undo D.1 (fun h2 e2 => ?_))
  obtain ⟨⟨fs2, Z1, Z2⟩, sb2⟩ := D.out e2
  show gG _ _ _ _ _ _ _ _ _ _
  refine g_istore M_L_law d_L_law_616 (by decide) (by first | rfl | (simp only [gc]; simp [*])) ?_
  refine g_aloadn M_L_law d_L_law_618 (by first | rfl | assumption) ?_
  refine gc_V M_L_law 0 0 [] [] d_L_law_619 cv_L_92 Z1 (by rfl) (by rfl) (Nat.le_of_ble_eq_true (by rfl)) (Nat.le_of_ble_eq_true (by rfl)) (by decide) (by decide) (by decide) (by decide) (C_10_thrown Z1 Z2 ?_)
  show gG _ _ _ _ _ _ _ _ _ _
  refine g_iload M_L_law d_L_law_622 (by first | rfl | assumption) ?_
  refine g_icmp_eq M_L_law (tgt := 629) d_L_law_624 (by decide) (fun _ => ?_) (fun c => absurd rfl c)
  refine g_iload M_L_law d_L_law_629 (by first | rfl | assumption) ?_
  refine g_if_ne M_L_law (tgt := 646) d_L_law_631 (by decide) (fun _ => ?_) (fun c => absurd c (by decide))
  refine g_goto M_L_law (tgt := 1446) d_L_law_646 (by decide) ?_
  exact E_end sb2 rfl rfl rfl (k _)
set_option maxHeartbeats 4000000 in
set_option maxRecDepth 100000 in
theorem B_takeSnapshot {L : Nat → Nat → Nat} {q : Nat → Nat} {b o : Nat} {f : Nat → Int32} {h : Hp_} {Q : Ot_ → Hp_ → Prop} (C : lawC h L q b o 4 f) (k : ∀ h', Q (.inl (some (.int 1))) h') : gG 9 330 2 12 M_L_law 649 (lvL b (L 0 0) (q 0) o) [] h Q := by
  obtain ⟨s, H, Y, sb, ⟨g, ho⟩, c6, c7, c8⟩ := id C
  refine g_aloadn M_L_law d_L_law_649 (by first | rfl | assumption) ?_
  refine gc_V M_L_law 0 0 [] [] d_L_law_650 cv_L_131 H.1 (by rfl) (by rfl) (Nat.le_of_ble_eq_true (by rfl)) (Nat.le_of_ble_eq_true (by rfl)) (by decide) (by decide) (by decide) (by decide) (F_takeSnapshot s H (fun h1 e1 => ?_))
  have D := C.chg e1
  show gG _ _ _ _ _ _ _ _ _ _
  refine g_aloadn M_L_law d_L_law_653 (by first | rfl | assumption) ?_
  refine gc_V M_L_law 0 0 [] [_] d_L_law_654 cv_L_134 D.1.2.1 (by rfl) (by rfl) (Nat.le_of_ble_eq_true (by rfl)) (Nat.le_of_ble_eq_true (by rfl)) (by decide) (by decide) (by decide) (by decide) (Y_takeSnapshot D.1 (fun h2 e2 => ?_))
  have sb2 := (D.out e2).2
  show gG _ _ _ _ _ _ _ _ _ _
  refine g_icmp_eq M_L_law (tgt := 1446) d_L_law_657 (by decide) (fun _ => ?_) (fun c => absurd rfl c)
  exact E_end sb2 rfl rfl rfl (k _)
set_option maxHeartbeats 4000000 in
set_option maxRecDepth 100000 in
theorem B_restoreSnapshot {L : Nat → Nat → Nat} {q : Nat → Nat} {b o : Nat} {f : Nat → Int32} {h : Hp_} {Q : Ot_ → Hp_ → Prop} (C : lawC h L q b o 4 f) (k : ∀ h', Q (.inl (some (.int 1))) h') : gG 9 330 2 12 M_L_law 662 (lvL b (L 0 0) (q 0) o) [] h Q := by
  obtain ⟨s, H, Y, sb, ⟨g, ho⟩, c6, c7, c8⟩ := id C
  refine g_aloadn M_L_law d_L_law_662 (by first | rfl | assumption) ?_
  refine g_aloadn M_L_law d_L_law_663 (by first | rfl | assumption) ?_
  refine gc_SH M_L_law 0 0 [.ref (L 0 0), .ref o] [] d_L_law_664 cs_L_135 (by decide) (by rfl) (by rfl) (Nat.le_of_ble_eq_true (by rfl)) (Nat.le_of_ble_eq_true (by rfl)) (by decide) (by decide) (by decide) (by decide) (W_restoreSnapshot s H (fun h1 e1 => ?_))
  have D := C.chg e1
  show gG _ _ _ _ _ _ _ _ _ _
  refine g_istore M_L_law d_L_law_667 (by decide) (by first | rfl | (simp only [gc]; simp [*])) ?_
  refine g_aloadn M_L_law d_L_law_669 (by first | rfl | assumption) ?_
  refine gc_V M_L_law 0 0 [] [] d_L_law_670 cv_L_137 D.1.2.1 (by rfl) (by rfl) (Nat.le_of_ble_eq_true (by rfl)) (Nat.le_of_ble_eq_true (by rfl)) (by decide) (by decide) (by decide) (by decide) (Y_restoreSnapshot D.1 (fun h2 e2 => ?_))
  obtain ⟨⟨fs2, Z1, Z2⟩, sb2⟩ := D.out e2
  show gG _ _ _ _ _ _ _ _ _ _
  refine g_istore M_L_law d_L_law_673 (by decide) (by first | rfl | (simp only [gc]; simp [*])) ?_
  refine g_aloadn M_L_law d_L_law_675 (by first | rfl | assumption) ?_
  refine gc_V M_L_law 0 0 [] [] d_L_law_676 cv_L_92 Z1 (by rfl) (by rfl) (Nat.le_of_ble_eq_true (by rfl)) (Nat.le_of_ble_eq_true (by rfl)) (by decide) (by decide) (by decide) (by decide) (C_10_thrown Z1 Z2 ?_)
  show gG _ _ _ _ _ _ _ _ _ _
  refine g_iload M_L_law d_L_law_679 (by first | rfl | assumption) ?_
  refine g_icmp_eq M_L_law (tgt := 686) d_L_law_681 (by decide) (fun _ => ?_) (fun c => absurd rfl c)
  refine g_iload M_L_law d_L_law_686 (by first | rfl | assumption) ?_
  refine g_if_ne M_L_law (tgt := 703) d_L_law_688 (by decide) (fun _ => ?_) (fun c => absurd c (by decide))
  refine g_goto M_L_law (tgt := 1446) d_L_law_703 (by decide) ?_
  exact E_end sb2 rfl rfl rfl (k _)
set_option maxHeartbeats 4000000 in
set_option maxRecDepth 100000 in
theorem B_nouns {L : Nat → Nat → Nat} {q : Nat → Nat} {b o : Nat} {f : Nat → Int32} {h : Hp_} {Q : Ot_ → Hp_ → Prop} (C : lawC h L q b o 4 f) (k : ∀ h', Q (.inl (some (.int 1))) h') : gG 9 330 2 12 M_L_law 706 (lvL b (L 0 0) (q 0) o) [] h Q := by
  obtain ⟨s, H, Y, sb, ⟨g, ho⟩, c6, c7, c8⟩ := id C
  refine g_aloadn M_L_law d_L_law_706 (by first | rfl | assumption) ?_
  refine gc_V M_L_law 0 0 [] [] d_L_law_707 cv_L_138 H.1 (by rfl) (by rfl) (Nat.le_of_ble_eq_true (by rfl)) (Nat.le_of_ble_eq_true (by rfl)) (by decide) (by decide) (by decide) (by decide) (F_nouns H ?_)
  have D := C.chg gChg.rfl'
  show gG _ _ _ _ _ _ _ _ _ _
  refine g_aloadn M_L_law d_L_law_710 (by first | rfl | assumption) ?_
  refine gc_V M_L_law 0 0 [] [_] d_L_law_711 cv_L_141 D.1.2.1 (by rfl) (by rfl) (Nat.le_of_ble_eq_true (by rfl)) (Nat.le_of_ble_eq_true (by rfl)) (by decide) (by decide) (by decide) (by decide) (Y_nouns D.1 (fun h2 e2 => ?_))
  have sb2 := (D.out e2).2
  show gG _ _ _ _ _ _ _ _ _ _
  refine g_icmp_eq M_L_law (tgt := 1446) d_L_law_714 (by decide) (fun _ => ?_) (fun c => absurd rfl c)
  exact E_end sb2 rfl rfl rfl (k _)
set_option maxHeartbeats 4000000 in
set_option maxRecDepth 100000 in
theorem B_lettersOf {L : Nat → Nat → Nat} {q : Nat → Nat} {b o : Nat} {f : Nat → Int32} {h : Hp_} {Q : Ot_ → Hp_ → Prop} (C : lawC h L q b o 4 f) (k : ∀ h', Q (.inl (some (.int 1))) h') : gG 9 330 2 12 M_L_law 719 (lvL b (L 0 0) (q 0) o) [] h Q := by
  obtain ⟨s, H, Y, sb, ⟨g, ho⟩, c6, c7, c8⟩ := id C
  refine g_aloadn M_L_law d_L_law_719 (by first | rfl | assumption) ?_
  refine g_aloadn M_L_law d_L_law_720 (by first | rfl | assumption) ?_
  refine g_iload M_L_law d_L_law_721 (by first | rfl | assumption) ?_
  refine g_iconst M_L_law (v := nI 1) d_L_law_723 (by decide) ?_
  refine g_iadd M_L_law d_L_law_724 ?_
  refine g_top M_L_law (y := .int (nI 1)) (by decide) ?_
  refine g_iaload M_L_law d_L_law_725 sb (vp_in_nI (by decide) (by decide)) ?_
  refine g_aloadn M_L_law d_L_law_726 (by first | rfl | assumption) ?_
  refine gc_SH M_L_law 0 0 [.ref (L 0 0), .int (f (nI 1).toNatClampNeg), .ref o] [] d_L_law_727 cs_L_142 (by decide) (by rfl) (by rfl) (Nat.le_of_ble_eq_true (by rfl)) (Nat.le_of_ble_eq_true (by rfl)) (by decide) (by decide) (by decide) (by decide) (W_lettersOf s H (fun h1 e1 => ?_))
  have D := C.chg e1
  show gG _ _ _ _ _ _ _ _ _ _
  refine g_istore M_L_law d_L_law_730 (by decide) (by first | rfl | (simp only [gc]; simp [*])) ?_
  refine g_aloadn M_L_law d_L_law_732 (by first | rfl | assumption) ?_
  refine g_aloadn M_L_law d_L_law_733 (by first | rfl | assumption) ?_
  refine g_iload M_L_law d_L_law_734 (by first | rfl | assumption) ?_
  refine g_iconst M_L_law (v := nI 1) d_L_law_736 (by decide) ?_
  refine g_iadd M_L_law d_L_law_737 ?_
  refine g_top M_L_law (y := .int (nI 1)) (by decide) ?_
  refine g_iaload M_L_law d_L_law_738 D.2.1 (vp_in_nI (by decide) (by decide)) ?_
  refine gc_V M_L_law 0 0 [.int (f (nI 1).toNatClampNeg)] [] d_L_law_739 cv_L_144 D.1.2.1 (by rfl) (by rfl) (Nat.le_of_ble_eq_true (by rfl)) (Nat.le_of_ble_eq_true (by rfl)) (by decide) (by decide) (by decide) (by decide) (Y_lettersOf D.1 (fun h2 e2 => ?_))
  obtain ⟨⟨fs2, Z1, Z2⟩, sb2⟩ := D.out e2
  show gG _ _ _ _ _ _ _ _ _ _
  refine g_istore M_L_law d_L_law_742 (by decide) (by first | rfl | (simp only [gc]; simp [*])) ?_
  refine g_aloadn M_L_law d_L_law_744 (by first | rfl | assumption) ?_
  refine gc_V M_L_law 0 0 [] [] d_L_law_745 cv_L_92 Z1 (by rfl) (by rfl) (Nat.le_of_ble_eq_true (by rfl)) (Nat.le_of_ble_eq_true (by rfl)) (by decide) (by decide) (by decide) (by decide) (C_10_thrown Z1 Z2 ?_)
  show gG _ _ _ _ _ _ _ _ _ _
  refine g_iload M_L_law d_L_law_748 (by first | rfl | assumption) ?_
  refine g_icmp_eq M_L_law (tgt := 755) d_L_law_750 (by decide) (fun _ => ?_) (fun c => absurd rfl c)
  refine g_iload M_L_law d_L_law_755 (by first | rfl | assumption) ?_
  refine g_if_ne M_L_law (tgt := 772) d_L_law_757 (by decide) (fun _ => ?_) (fun c => absurd c (by decide))
  refine g_goto M_L_law (tgt := 1446) d_L_law_772 (by decide) ?_
  exact E_end sb2 rfl rfl rfl (k _)
set_option maxHeartbeats 4000000 in
set_option maxRecDepth 100000 in
theorem B_pluralLetters {L : Nat → Nat → Nat} {q : Nat → Nat} {b o : Nat} {f : Nat → Int32} {h : Hp_} {Q : Ot_ → Hp_ → Prop} (C : lawC h L q b o 4 f) (k : ∀ h', Q (.inl (some (.int 1))) h') : gG 9 330 2 12 M_L_law 775 (lvL b (L 0 0) (q 0) o) [] h Q := by
  obtain ⟨s, H, Y, sb, ⟨g, ho⟩, c6, c7, c8⟩ := id C
  refine g_aloadn M_L_law d_L_law_775 (by first | rfl | assumption) ?_
  refine g_aloadn M_L_law d_L_law_776 (by first | rfl | assumption) ?_
  refine g_iload M_L_law d_L_law_777 (by first | rfl | assumption) ?_
  refine g_iconst M_L_law (v := nI 1) d_L_law_779 (by decide) ?_
  refine g_iadd M_L_law d_L_law_780 ?_
  refine g_top M_L_law (y := .int (nI 1)) (by decide) ?_
  refine g_iaload M_L_law d_L_law_781 sb (vp_in_nI (by decide) (by decide)) ?_
  refine g_aloadn M_L_law d_L_law_782 (by first | rfl | assumption) ?_
  refine gc_SH M_L_law 0 0 [.ref (L 0 0), .int (f (nI 1).toNatClampNeg), .ref o] [] d_L_law_783 cs_L_145 (by decide) (by rfl) (by rfl) (Nat.le_of_ble_eq_true (by rfl)) (Nat.le_of_ble_eq_true (by rfl)) (by decide) (by decide) (by decide) (by decide) (W_pluralLetters s H (fun h1 e1 => ?_))
  have D := C.chg e1
  show gG _ _ _ _ _ _ _ _ _ _
  refine g_istore M_L_law d_L_law_786 (by decide) (by first | rfl | (simp only [gc]; simp [*])) ?_
  refine g_aloadn M_L_law d_L_law_788 (by first | rfl | assumption) ?_
  refine g_aloadn M_L_law d_L_law_789 (by first | rfl | assumption) ?_
  refine g_iload M_L_law d_L_law_790 (by first | rfl | assumption) ?_
  refine g_iconst M_L_law (v := nI 1) d_L_law_792 (by decide) ?_
  refine g_iadd M_L_law d_L_law_793 ?_
  refine g_top M_L_law (y := .int (nI 1)) (by decide) ?_
  refine g_iaload M_L_law d_L_law_794 D.2.1 (vp_in_nI (by decide) (by decide)) ?_
  refine gc_V M_L_law 0 0 [.int (f (nI 1).toNatClampNeg)] [] d_L_law_795 cv_L_147 D.1.2.1 (by rfl) (by rfl) (Nat.le_of_ble_eq_true (by rfl)) (Nat.le_of_ble_eq_true (by rfl)) (by decide) (by decide) (by decide) (by decide) (Y_pluralLetters D.1 (fun h2 e2 => ?_))
  obtain ⟨⟨fs2, Z1, Z2⟩, sb2⟩ := D.out e2
  show gG _ _ _ _ _ _ _ _ _ _
  refine g_istore M_L_law d_L_law_798 (by decide) (by first | rfl | (simp only [gc]; simp [*])) ?_
  refine g_aloadn M_L_law d_L_law_800 (by first | rfl | assumption) ?_
  refine gc_V M_L_law 0 0 [] [] d_L_law_801 cv_L_92 Z1 (by rfl) (by rfl) (Nat.le_of_ble_eq_true (by rfl)) (Nat.le_of_ble_eq_true (by rfl)) (by decide) (by decide) (by decide) (by decide) (C_10_thrown Z1 Z2 ?_)
  show gG _ _ _ _ _ _ _ _ _ _
  refine g_iload M_L_law d_L_law_804 (by first | rfl | assumption) ?_
  refine g_icmp_eq M_L_law (tgt := 811) d_L_law_806 (by decide) (fun _ => ?_) (fun c => absurd rfl c)
  refine g_iload M_L_law d_L_law_811 (by first | rfl | assumption) ?_
  refine g_if_ne M_L_law (tgt := 828) d_L_law_813 (by decide) (fun _ => ?_) (fun c => absurd c (by decide))
  refine g_goto M_L_law (tgt := 1446) d_L_law_828 (by decide) ?_
  exact E_end sb2 rfl rfl rfl (k _)
set_option maxHeartbeats 4000000 in
set_option maxRecDepth 100000 in
theorem B_pluralLetter {L : Nat → Nat → Nat} {q : Nat → Nat} {b o : Nat} {f : Nat → Int32} {h : Hp_} {Q : Ot_ → Hp_ → Prop} (C : lawC h L q b o 4 f) (k : ∀ h', Q (.inl (some (.int 1))) h') : gG 9 330 2 12 M_L_law 831 (lvL b (L 0 0) (q 0) o) [] h Q := by
  obtain ⟨s, H, Y, sb, ⟨g, ho⟩, c6, c7, c8⟩ := id C
  refine g_aloadn M_L_law d_L_law_831 (by first | rfl | assumption) ?_
  refine g_aloadn M_L_law d_L_law_832 (by first | rfl | assumption) ?_
  refine g_iload M_L_law d_L_law_833 (by first | rfl | assumption) ?_
  refine g_iconst M_L_law (v := nI 1) d_L_law_835 (by decide) ?_
  refine g_iadd M_L_law d_L_law_836 ?_
  refine g_top M_L_law (y := .int (nI 1)) (by decide) ?_
  refine g_iaload M_L_law d_L_law_837 sb (vp_in_nI (by decide) (by decide)) ?_
  refine g_aloadn M_L_law d_L_law_838 (by first | rfl | assumption) ?_
  refine g_iload M_L_law d_L_law_839 (by first | rfl | assumption) ?_
  refine g_iconst M_L_law (v := nI 2) d_L_law_841 (by decide) ?_
  refine g_iadd M_L_law d_L_law_842 ?_
  refine g_top M_L_law (y := .int (nI 2)) (by decide) ?_
  refine g_iaload M_L_law d_L_law_843 sb (vp_in_nI (by decide) (by decide)) ?_
  refine g_aloadn M_L_law d_L_law_844 (by first | rfl | assumption) ?_
  refine gc_SH M_L_law 0 0 [.ref (L 0 0), .int (f (nI 1).toNatClampNeg), .int (f (nI 2).toNatClampNeg), .ref o] [] d_L_law_845 cs_L_148 (by decide) (by rfl) (by rfl) (Nat.le_of_ble_eq_true (by rfl)) (Nat.le_of_ble_eq_true (by rfl)) (by decide) (by decide) (by decide) (by decide) (W_pluralLetter s H (fun h1 e1 => ?_))
  have D := C.chg e1
  show gG _ _ _ _ _ _ _ _ _ _
  refine g_istore M_L_law d_L_law_848 (by decide) (by first | rfl | (simp only [gc]; simp [*])) ?_
  refine g_aloadn M_L_law d_L_law_850 (by first | rfl | assumption) ?_
  refine g_aloadn M_L_law d_L_law_851 (by first | rfl | assumption) ?_
  refine g_iload M_L_law d_L_law_852 (by first | rfl | assumption) ?_
  refine g_iconst M_L_law (v := nI 1) d_L_law_854 (by decide) ?_
  refine g_iadd M_L_law d_L_law_855 ?_
  refine g_top M_L_law (y := .int (nI 1)) (by decide) ?_
  refine g_iaload M_L_law d_L_law_856 D.2.1 (vp_in_nI (by decide) (by decide)) ?_
  refine g_aloadn M_L_law d_L_law_857 (by first | rfl | assumption) ?_
  refine g_iload M_L_law d_L_law_858 (by first | rfl | assumption) ?_
  refine g_iconst M_L_law (v := nI 2) d_L_law_860 (by decide) ?_
  refine g_iadd M_L_law d_L_law_861 ?_
  refine g_top M_L_law (y := .int (nI 2)) (by decide) ?_
  refine g_iaload M_L_law d_L_law_862 D.2.1 (vp_in_nI (by decide) (by decide)) ?_
  refine gc_V M_L_law 0 0 [.int (f (nI 1).toNatClampNeg), .int (f (nI 2).toNatClampNeg)] [] d_L_law_863 cv_L_150 D.1.2.1 (by rfl) (by rfl) (Nat.le_of_ble_eq_true (by rfl)) (Nat.le_of_ble_eq_true (by rfl)) (by decide) (by decide) (by decide) (by decide) (Y_pluralLetter D.1 (fun h2 e2 => ?_))
  obtain ⟨⟨fs2, Z1, Z2⟩, sb2⟩ := D.out e2
  show gG _ _ _ _ _ _ _ _ _ _
  refine g_istore M_L_law d_L_law_866 (by decide) (by first | rfl | (simp only [gc]; simp [*])) ?_
  refine g_aloadn M_L_law d_L_law_868 (by first | rfl | assumption) ?_
  refine gc_V M_L_law 0 0 [] [] d_L_law_869 cv_L_92 Z1 (by rfl) (by rfl) (Nat.le_of_ble_eq_true (by rfl)) (Nat.le_of_ble_eq_true (by rfl)) (by decide) (by decide) (by decide) (by decide) (C_10_thrown Z1 Z2 ?_)
  show gG _ _ _ _ _ _ _ _ _ _
  refine g_iload M_L_law d_L_law_872 (by first | rfl | assumption) ?_
  refine g_icmp_eq M_L_law (tgt := 879) d_L_law_874 (by decide) (fun _ => ?_) (fun c => absurd rfl c)
  refine g_iload M_L_law d_L_law_879 (by first | rfl | assumption) ?_
  refine g_if_ne M_L_law (tgt := 896) d_L_law_881 (by decide) (fun _ => ?_) (fun c => absurd c (by decide))
  refine g_goto M_L_law (tgt := 1446) d_L_law_896 (by decide) ?_
  exact E_end sb2 rfl rfl rfl (k _)
set_option maxHeartbeats 4000000 in
set_option maxRecDepth 100000 in
theorem B_countedLetter {L : Nat → Nat → Nat} {q : Nat → Nat} {b o : Nat} {f : Nat → Int32} {h : Hp_} {Q : Ot_ → Hp_ → Prop} (C : lawC h L q b o 4 f) (k : ∀ h', Q (.inl (some (.int 1))) h') : gG 9 330 2 12 M_L_law 899 (lvL b (L 0 0) (q 0) o) [] h Q := by
  obtain ⟨s, H, Y, sb, ⟨g, ho⟩, c6, c7, c8⟩ := id C
  refine g_aloadn M_L_law d_L_law_899 (by first | rfl | assumption) ?_
  refine g_aloadn M_L_law d_L_law_900 (by first | rfl | assumption) ?_
  refine g_iload M_L_law d_L_law_901 (by first | rfl | assumption) ?_
  refine g_iconst M_L_law (v := nI 1) d_L_law_903 (by decide) ?_
  refine g_iadd M_L_law d_L_law_904 ?_
  refine g_top M_L_law (y := .int (nI 1)) (by decide) ?_
  refine g_iaload M_L_law d_L_law_905 sb (vp_in_nI (by decide) (by decide)) ?_
  refine g_aloadn M_L_law d_L_law_906 (by first | rfl | assumption) ?_
  refine g_iload M_L_law d_L_law_907 (by first | rfl | assumption) ?_
  refine g_iconst M_L_law (v := nI 2) d_L_law_909 (by decide) ?_
  refine g_iadd M_L_law d_L_law_910 ?_
  refine g_top M_L_law (y := .int (nI 2)) (by decide) ?_
  refine g_iaload M_L_law d_L_law_911 sb (vp_in_nI (by decide) (by decide)) ?_
  refine g_aloadn M_L_law d_L_law_912 (by first | rfl | assumption) ?_
  refine g_iload M_L_law d_L_law_913 (by first | rfl | assumption) ?_
  refine g_iconst M_L_law (v := nI 3) d_L_law_915 (by decide) ?_
  refine g_iadd M_L_law d_L_law_916 ?_
  refine g_top M_L_law (y := .int (nI 3)) (by decide) ?_
  refine g_iaload M_L_law d_L_law_917 sb (vp_in_nI (by decide) (by decide)) ?_
  refine g_aloadn M_L_law d_L_law_918 (by first | rfl | assumption) ?_
  refine gc_SH M_L_law 0 0 [.ref (L 0 0), .int (f (nI 1).toNatClampNeg), .int (f (nI 2).toNatClampNeg), .int (f (nI 3).toNatClampNeg), .ref o] [] d_L_law_919 cs_L_151 (by decide) (by rfl) (by rfl) (Nat.le_of_ble_eq_true (by rfl)) (Nat.le_of_ble_eq_true (by rfl)) (by decide) (by decide) (by decide) (by decide) (W_countedLetter s H (fun h1 e1 => ?_))
  have D := C.chg e1
  show gG _ _ _ _ _ _ _ _ _ _
  refine g_istore M_L_law d_L_law_922 (by decide) (by first | rfl | (simp only [gc]; simp [*])) ?_
  refine g_aloadn M_L_law d_L_law_924 (by first | rfl | assumption) ?_
  refine g_aloadn M_L_law d_L_law_925 (by first | rfl | assumption) ?_
  refine g_iload M_L_law d_L_law_926 (by first | rfl | assumption) ?_
  refine g_iconst M_L_law (v := nI 1) d_L_law_928 (by decide) ?_
  refine g_iadd M_L_law d_L_law_929 ?_
  refine g_top M_L_law (y := .int (nI 1)) (by decide) ?_
  refine g_iaload M_L_law d_L_law_930 D.2.1 (vp_in_nI (by decide) (by decide)) ?_
  refine g_aloadn M_L_law d_L_law_931 (by first | rfl | assumption) ?_
  refine g_iload M_L_law d_L_law_932 (by first | rfl | assumption) ?_
  refine g_iconst M_L_law (v := nI 2) d_L_law_934 (by decide) ?_
  refine g_iadd M_L_law d_L_law_935 ?_
  refine g_top M_L_law (y := .int (nI 2)) (by decide) ?_
  refine g_iaload M_L_law d_L_law_936 D.2.1 (vp_in_nI (by decide) (by decide)) ?_
  refine g_aloadn M_L_law d_L_law_937 (by first | rfl | assumption) ?_
  refine g_iload M_L_law d_L_law_938 (by first | rfl | assumption) ?_
  refine g_iconst M_L_law (v := nI 3) d_L_law_940 (by decide) ?_
  refine g_iadd M_L_law d_L_law_941 ?_
  refine g_top M_L_law (y := .int (nI 3)) (by decide) ?_
  refine g_iaload M_L_law d_L_law_942 D.2.1 (vp_in_nI (by decide) (by decide)) ?_
  refine gc_V M_L_law 0 0 [.int (f (nI 1).toNatClampNeg), .int (f (nI 2).toNatClampNeg), .int (f (nI 3).toNatClampNeg)] [] d_L_law_943 cv_L_154 D.1.2.1 (by rfl) (by rfl) (Nat.le_of_ble_eq_true (by rfl)) (Nat.le_of_ble_eq_true (by rfl)) (by decide) (by decide) (by decide) (by decide) (Y_countedLetter D.1 (fun h2 e2 => ?_))
  obtain ⟨⟨fs2, Z1, Z2⟩, sb2⟩ := D.out e2
  show gG _ _ _ _ _ _ _ _ _ _
  refine g_istore M_L_law d_L_law_946 (by decide) (by first | rfl | (simp only [gc]; simp [*])) ?_
  refine g_aloadn M_L_law d_L_law_948 (by first | rfl | assumption) ?_
  refine gc_V M_L_law 0 0 [] [] d_L_law_949 cv_L_92 Z1 (by rfl) (by rfl) (Nat.le_of_ble_eq_true (by rfl)) (Nat.le_of_ble_eq_true (by rfl)) (by decide) (by decide) (by decide) (by decide) (C_10_thrown Z1 Z2 ?_)
  show gG _ _ _ _ _ _ _ _ _ _
  refine g_iload M_L_law d_L_law_952 (by first | rfl | assumption) ?_
  refine g_icmp_eq M_L_law (tgt := 959) d_L_law_954 (by decide) (fun _ => ?_) (fun c => absurd rfl c)
  refine g_iload M_L_law d_L_law_959 (by first | rfl | assumption) ?_
  refine g_if_ne M_L_law (tgt := 976) d_L_law_961 (by decide) (fun _ => ?_) (fun c => absurd c (by decide))
  refine g_goto M_L_law (tgt := 1446) d_L_law_976 (by decide) ?_
  exact E_end sb2 rfl rfl rfl (k _)
set_option maxHeartbeats 4000000 in
set_option maxRecDepth 100000 in
theorem B_isIrregular {L : Nat → Nat → Nat} {q : Nat → Nat} {b o : Nat} {f : Nat → Int32} {h : Hp_} {Q : Ot_ → Hp_ → Prop} (C : lawC h L q b o 4 f) (k : ∀ h', Q (.inl (some (.int 1))) h') : gG 9 330 2 12 M_L_law 979 (lvL b (L 0 0) (q 0) o) [] h Q := by
  obtain ⟨s, H, Y, sb, ⟨g, ho⟩, c6, c7, c8⟩ := id C
  refine g_aloadn M_L_law d_L_law_979 (by first | rfl | assumption) ?_
  refine g_aloadn M_L_law d_L_law_980 (by first | rfl | assumption) ?_
  refine g_iload M_L_law d_L_law_981 (by first | rfl | assumption) ?_
  refine g_iconst M_L_law (v := nI 1) d_L_law_983 (by decide) ?_
  refine g_iadd M_L_law d_L_law_984 ?_
  refine g_top M_L_law (y := .int (nI 1)) (by decide) ?_
  refine g_iaload M_L_law d_L_law_985 sb (vp_in_nI (by decide) (by decide)) ?_
  refine g_aloadn M_L_law d_L_law_986 (by first | rfl | assumption) ?_
  refine gc_SH M_L_law 0 0 [.ref (L 0 0), .int (f (nI 1).toNatClampNeg), .ref o] [] d_L_law_987 cs_L_155 (by decide) (by rfl) (by rfl) (Nat.le_of_ble_eq_true (by rfl)) (Nat.le_of_ble_eq_true (by rfl)) (by decide) (by decide) (by decide) (by decide) (W_isIrregular s H (fun h1 e1 => ?_))
  have D := C.chg e1
  show gG _ _ _ _ _ _ _ _ _ _
  refine g_istore M_L_law d_L_law_990 (by decide) (by first | rfl | (simp only [gc]; simp [*])) ?_
  refine g_aloadn M_L_law d_L_law_992 (by first | rfl | assumption) ?_
  refine g_aloadn M_L_law d_L_law_993 (by first | rfl | assumption) ?_
  refine g_iload M_L_law d_L_law_994 (by first | rfl | assumption) ?_
  refine g_iconst M_L_law (v := nI 1) d_L_law_996 (by decide) ?_
  refine g_iadd M_L_law d_L_law_997 ?_
  refine g_top M_L_law (y := .int (nI 1)) (by decide) ?_
  refine g_iaload M_L_law d_L_law_998 D.2.1 (vp_in_nI (by decide) (by decide)) ?_
  refine gc_V M_L_law 0 0 [.int (f (nI 1).toNatClampNeg)] [] d_L_law_999 cv_L_157 D.1.2.1 (by rfl) (by rfl) (Nat.le_of_ble_eq_true (by rfl)) (Nat.le_of_ble_eq_true (by rfl)) (by decide) (by decide) (by decide) (by decide) (Y_isIrregular D.1 (fun h2 e2 => ?_))
  obtain ⟨⟨fs2, Z1, Z2⟩, sb2⟩ := D.out e2
  show gG _ _ _ _ _ _ _ _ _ _
  refine g_istore M_L_law d_L_law_1002 (by decide) (by first | rfl | (simp only [gc]; simp [*])) ?_
  refine g_aloadn M_L_law d_L_law_1004 (by first | rfl | assumption) ?_
  refine gc_V M_L_law 0 0 [] [] d_L_law_1005 cv_L_92 Z1 (by rfl) (by rfl) (Nat.le_of_ble_eq_true (by rfl)) (Nat.le_of_ble_eq_true (by rfl)) (by decide) (by decide) (by decide) (by decide) (C_10_thrown Z1 Z2 ?_)
  show gG _ _ _ _ _ _ _ _ _ _
  refine g_iload M_L_law d_L_law_1008 (by first | rfl | assumption) ?_
  refine g_icmp_eq M_L_law (tgt := 1015) d_L_law_1010 (by decide) (fun _ => ?_) (fun c => absurd rfl c)
  refine g_iload M_L_law d_L_law_1015 (by first | rfl | assumption) ?_
  refine g_if_ne M_L_law (tgt := 1039) d_L_law_1017 (by decide) (fun _ => ?_) (fun c => absurd c (by decide))
  refine g_goto M_L_law (tgt := 1446) d_L_law_1039 (by decide) ?_
  exact E_end sb2 rfl rfl rfl (k _)
set_option maxHeartbeats 4000000 in
set_option maxRecDepth 100000 in
theorem B_dieFor {L : Nat → Nat → Nat} {q : Nat → Nat} {b o : Nat} {f : Nat → Int32} {h : Hp_} {Q : Ot_ → Hp_ → Prop} (C : lawC h L q b o 4 f) (k : ∀ h', Q (.inl (some (.int 1))) h') : gG 9 330 2 12 M_L_law 1042 (lvL b (L 0 0) (q 0) o) [] h Q := by
  obtain ⟨s, H, Y, sb, ⟨g, ho⟩, c6, c7, c8⟩ := id C
  refine g_aloadn M_L_law d_L_law_1042 (by first | rfl | assumption) ?_
  refine g_aloadn M_L_law d_L_law_1043 (by first | rfl | assumption) ?_
  refine g_iload M_L_law d_L_law_1044 (by first | rfl | assumption) ?_
  refine g_iconst M_L_law (v := nI 1) d_L_law_1046 (by decide) ?_
  refine g_iadd M_L_law d_L_law_1047 ?_
  refine g_top M_L_law (y := .int (nI 1)) (by decide) ?_
  refine g_iaload M_L_law d_L_law_1048 sb (vp_in_nI (by decide) (by decide)) ?_
  refine g_aloadn M_L_law d_L_law_1049 (by first | rfl | assumption) ?_
  refine gc_SH M_L_law 0 0 [.ref (L 0 0), .int (f (nI 1).toNatClampNeg), .ref o] [] d_L_law_1050 cs_L_158 (by decide) (by rfl) (by rfl) (Nat.le_of_ble_eq_true (by rfl)) (Nat.le_of_ble_eq_true (by rfl)) (by decide) (by decide) (by decide) (by decide) (W_dieFor s H (fun h1 e1 => ?_))
  have D := C.chg e1
  show gG _ _ _ _ _ _ _ _ _ _
  refine g_istore M_L_law d_L_law_1053 (by decide) (by first | rfl | (simp only [gc]; simp [*])) ?_
  refine g_aloadn M_L_law d_L_law_1055 (by first | rfl | assumption) ?_
  refine g_aloadn M_L_law d_L_law_1056 (by first | rfl | assumption) ?_
  refine g_iload M_L_law d_L_law_1057 (by first | rfl | assumption) ?_
  refine g_iconst M_L_law (v := nI 1) d_L_law_1059 (by decide) ?_
  refine g_iadd M_L_law d_L_law_1060 ?_
  refine g_top M_L_law (y := .int (nI 1)) (by decide) ?_
  refine g_iaload M_L_law d_L_law_1061 D.2.1 (vp_in_nI (by decide) (by decide)) ?_
  refine gc_V M_L_law 0 0 [.int (f (nI 1).toNatClampNeg)] [] d_L_law_1062 cv_L_160 D.1.2.1 (by rfl) (by rfl) (Nat.le_of_ble_eq_true (by rfl)) (Nat.le_of_ble_eq_true (by rfl)) (by decide) (by decide) (by decide) (by decide) (Y_dieFor D.1 (fun h2 e2 => ?_))
  obtain ⟨⟨fs2, Z1, Z2⟩, sb2⟩ := D.out e2
  show gG _ _ _ _ _ _ _ _ _ _
  refine g_istore M_L_law d_L_law_1065 (by decide) (by first | rfl | (simp only [gc]; simp [*])) ?_
  refine g_aloadn M_L_law d_L_law_1067 (by first | rfl | assumption) ?_
  refine gc_V M_L_law 0 0 [] [] d_L_law_1068 cv_L_92 Z1 (by rfl) (by rfl) (Nat.le_of_ble_eq_true (by rfl)) (Nat.le_of_ble_eq_true (by rfl)) (by decide) (by decide) (by decide) (by decide) (C_10_thrown Z1 Z2 ?_)
  show gG _ _ _ _ _ _ _ _ _ _
  refine g_iload M_L_law d_L_law_1071 (by first | rfl | assumption) ?_
  refine g_icmp_eq M_L_law (tgt := 1078) d_L_law_1073 (by decide) (fun _ => ?_) (fun c => absurd rfl c)
  refine g_iload M_L_law d_L_law_1078 (by first | rfl | assumption) ?_
  refine g_if_ne M_L_law (tgt := 1095) d_L_law_1080 (by decide) (fun _ => ?_) (fun c => absurd c (by decide))
  refine g_goto M_L_law (tgt := 1446) d_L_law_1095 (by decide) ?_
  exact E_end sb2 rfl rfl rfl (k _)
set_option maxHeartbeats 4000000 in
set_option maxRecDepth 100000 in
theorem B_ambiguousNouns {L : Nat → Nat → Nat} {q : Nat → Nat} {b o : Nat} {f : Nat → Int32} {h : Hp_} {Q : Ot_ → Hp_ → Prop} (C : lawC h L q b o 4 f) (k : ∀ h', Q (.inl (some (.int 1))) h') : gG 9 330 2 12 M_L_law 1098 (lvL b (L 0 0) (q 0) o) [] h Q := by
  obtain ⟨s, H, Y, sb, ⟨g, ho⟩, c6, c7, c8⟩ := id C
  refine g_aloadn M_L_law d_L_law_1098 (by first | rfl | assumption) ?_
  refine gc_V M_L_law 0 0 [] [] d_L_law_1099 cv_L_161 H.1 (by rfl) (by rfl) (Nat.le_of_ble_eq_true (by rfl)) (Nat.le_of_ble_eq_true (by rfl)) (by decide) (by decide) (by decide) (by decide) (F_ambiguousNouns s H (fun h1 e1 => ?_))
  have D := C.chg e1
  show gG _ _ _ _ _ _ _ _ _ _
  refine g_aloadn M_L_law d_L_law_1102 (by first | rfl | assumption) ?_
  refine gc_V M_L_law 0 0 [] [_] d_L_law_1103 cv_L_164 D.1.2.1 (by rfl) (by rfl) (Nat.le_of_ble_eq_true (by rfl)) (Nat.le_of_ble_eq_true (by rfl)) (by decide) (by decide) (by decide) (by decide) (Y_ambiguousNouns D.1 (fun h2 e2 => ?_))
  have sb2 := (D.out e2).2
  show gG _ _ _ _ _ _ _ _ _ _
  refine g_icmp_eq M_L_law (tgt := 1446) d_L_law_1106 (by decide) (fun _ => ?_) (fun c => absurd rfl c)
  exact E_end sb2 rfl rfl rfl (k _)
set_option maxHeartbeats 4000000 in
set_option maxRecDepth 100000 in
theorem B_recallByStriking {L : Nat → Nat → Nat} {q : Nat → Nat} {b o : Nat} {f : Nat → Int32} {h : Hp_} {Q : Ot_ → Hp_ → Prop} (C : lawC h L q b o 4 f) (k : ∀ h', Q (.inl (some (.int 1))) h') : gG 9 330 2 12 M_L_law 1111 (lvL b (L 0 0) (q 0) o) [] h Q := by
  obtain ⟨s, H, Y, sb, ⟨g, ho⟩, c6, c7, c8⟩ := id C
  refine g_aloadn M_L_law d_L_law_1111 (by first | rfl | assumption) ?_
  refine g_aloadn M_L_law d_L_law_1112 (by first | rfl | assumption) ?_
  refine gc_SH M_L_law 0 0 [.ref (L 0 0), .ref o] [] d_L_law_1113 cs_L_165 (by decide) (by rfl) (by rfl) (Nat.le_of_ble_eq_true (by rfl)) (Nat.le_of_ble_eq_true (by rfl)) (by decide) (by decide) (by decide) (by decide) (W_recallByStriking s H (fun h1 e1 => ?_))
  have D := C.chg e1
  show gG _ _ _ _ _ _ _ _ _ _
  refine g_istore M_L_law d_L_law_1116 (by decide) (by first | rfl | (simp only [gc]; simp [*])) ?_
  refine g_aloadn M_L_law d_L_law_1118 (by first | rfl | assumption) ?_
  refine gc_V M_L_law 0 0 [] [] d_L_law_1119 cv_L_167 D.1.2.1 (by rfl) (by rfl) (Nat.le_of_ble_eq_true (by rfl)) (Nat.le_of_ble_eq_true (by rfl)) (by decide) (by decide) (by decide) (by decide) (Y_recallByStriking D.1 (fun h2 e2 => ?_))
  obtain ⟨⟨fs2, Z1, Z2⟩, sb2⟩ := D.out e2
  show gG _ _ _ _ _ _ _ _ _ _
  refine g_istore M_L_law d_L_law_1122 (by decide) (by first | rfl | (simp only [gc]; simp [*])) ?_
  refine g_aloadn M_L_law d_L_law_1124 (by first | rfl | assumption) ?_
  refine gc_V M_L_law 0 0 [] [] d_L_law_1125 cv_L_92 Z1 (by rfl) (by rfl) (Nat.le_of_ble_eq_true (by rfl)) (Nat.le_of_ble_eq_true (by rfl)) (by decide) (by decide) (by decide) (by decide) (C_10_thrown Z1 Z2 ?_)
  show gG _ _ _ _ _ _ _ _ _ _
  refine g_iload M_L_law d_L_law_1128 (by first | rfl | assumption) ?_
  refine g_icmp_eq M_L_law (tgt := 1135) d_L_law_1130 (by decide) (fun _ => ?_) (fun c => absurd rfl c)
  refine g_iload M_L_law d_L_law_1135 (by first | rfl | assumption) ?_
  refine g_if_ne M_L_law (tgt := 1152) d_L_law_1137 (by decide) (fun _ => ?_) (fun c => absurd c (by decide))
  refine g_goto M_L_law (tgt := 1446) d_L_law_1152 (by decide) ?_
  exact E_end sb2 rfl rfl rfl (k _)
set_option maxHeartbeats 4000000 in
set_option maxRecDepth 100000 in
theorem B_recallByReversing {L : Nat → Nat → Nat} {q : Nat → Nat} {b o : Nat} {f : Nat → Int32} {h : Hp_} {Q : Ot_ → Hp_ → Prop} (C : lawC h L q b o 4 f) (k : ∀ h', Q (.inl (some (.int 1))) h') : gG 9 330 2 12 M_L_law 1155 (lvL b (L 0 0) (q 0) o) [] h Q := by
  obtain ⟨s, H, Y, sb, ⟨g, ho⟩, c6, c7, c8⟩ := id C
  refine g_aloadn M_L_law d_L_law_1155 (by first | rfl | assumption) ?_
  refine g_aloadn M_L_law d_L_law_1156 (by first | rfl | assumption) ?_
  refine gc_SH M_L_law 0 0 [.ref (L 0 0), .ref o] [] d_L_law_1157 cs_L_168 (by decide) (by rfl) (by rfl) (Nat.le_of_ble_eq_true (by rfl)) (Nat.le_of_ble_eq_true (by rfl)) (by decide) (by decide) (by decide) (by decide) (W_recallByReversing s H (fun h1 e1 => ?_))
  have D := C.chg e1
  show gG _ _ _ _ _ _ _ _ _ _
  refine g_istore M_L_law d_L_law_1160 (by decide) (by first | rfl | (simp only [gc]; simp [*])) ?_
  refine g_aloadn M_L_law d_L_law_1162 (by first | rfl | assumption) ?_
  refine gc_V M_L_law 0 0 [] [] d_L_law_1163 cv_L_170 D.1.2.1 (by rfl) (by rfl) (Nat.le_of_ble_eq_true (by rfl)) (Nat.le_of_ble_eq_true (by rfl)) (by decide) (by decide) (by decide) (by decide) (Y_recallByReversing D.1 (fun h2 e2 => ?_))
  obtain ⟨⟨fs2, Z1, Z2⟩, sb2⟩ := D.out e2
  show gG _ _ _ _ _ _ _ _ _ _
  refine g_istore M_L_law d_L_law_1166 (by decide) (by first | rfl | (simp only [gc]; simp [*])) ?_
  refine g_aloadn M_L_law d_L_law_1168 (by first | rfl | assumption) ?_
  refine gc_V M_L_law 0 0 [] [] d_L_law_1169 cv_L_92 Z1 (by rfl) (by rfl) (Nat.le_of_ble_eq_true (by rfl)) (Nat.le_of_ble_eq_true (by rfl)) (by decide) (by decide) (by decide) (by decide) (C_10_thrown Z1 Z2 ?_)
  show gG _ _ _ _ _ _ _ _ _ _
  refine g_iload M_L_law d_L_law_1172 (by first | rfl | assumption) ?_
  refine g_icmp_eq M_L_law (tgt := 1179) d_L_law_1174 (by decide) (fun _ => ?_) (fun c => absurd rfl c)
  refine g_iload M_L_law d_L_law_1179 (by first | rfl | assumption) ?_
  refine g_if_ne M_L_law (tgt := 1196) d_L_law_1181 (by decide) (fun _ => ?_) (fun c => absurd c (by decide))
  refine g_goto M_L_law (tgt := 1446) d_L_law_1196 (by decide) ?_
  exact E_end sb2 rfl rfl rfl (k _)
set_option maxHeartbeats 4000000 in
set_option maxRecDepth 100000 in
theorem B_possibleNouns {L : Nat → Nat → Nat} {q : Nat → Nat} {b o : Nat} {f : Nat → Int32} {h : Hp_} {Q : Ot_ → Hp_ → Prop} (C : lawC h L q b o 4 f) (k : ∀ h', Q (.inl (some (.int 1))) h') : gG 9 330 2 12 M_L_law 1199 (lvL b (L 0 0) (q 0) o) [] h Q := by
  obtain ⟨s, H, Y, sb, ⟨g, ho⟩, c6, c7, c8⟩ := id C
  refine g_aloadn M_L_law d_L_law_1199 (by first | rfl | assumption) ?_
  refine g_aloadn M_L_law d_L_law_1200 (by first | rfl | assumption) ?_
  refine gc_SH M_L_law 0 0 [.ref (L 0 0), .ref o] [] d_L_law_1201 cs_L_171 (by decide) (by rfl) (by rfl) (Nat.le_of_ble_eq_true (by rfl)) (Nat.le_of_ble_eq_true (by rfl)) (by decide) (by decide) (by decide) (by decide) (W_possibleNouns s H (fun h1 e1 => ?_))
  have D := C.chg e1
  show gG _ _ _ _ _ _ _ _ _ _
  refine g_istore M_L_law d_L_law_1204 (by decide) (by first | rfl | (simp only [gc]; simp [*])) ?_
  refine g_aloadn M_L_law d_L_law_1206 (by first | rfl | assumption) ?_
  refine gc_V M_L_law 0 0 [] [] d_L_law_1207 cv_L_173 D.1.2.1 (by rfl) (by rfl) (Nat.le_of_ble_eq_true (by rfl)) (Nat.le_of_ble_eq_true (by rfl)) (by decide) (by decide) (by decide) (by decide) (Y_possibleNouns D.1 (fun h2 e2 => ?_))
  obtain ⟨⟨fs2, Z1, Z2⟩, sb2⟩ := D.out e2
  show gG _ _ _ _ _ _ _ _ _ _
  refine g_istore M_L_law d_L_law_1210 (by decide) (by first | rfl | (simp only [gc]; simp [*])) ?_
  refine g_aloadn M_L_law d_L_law_1212 (by first | rfl | assumption) ?_
  refine gc_V M_L_law 0 0 [] [] d_L_law_1213 cv_L_92 Z1 (by rfl) (by rfl) (Nat.le_of_ble_eq_true (by rfl)) (Nat.le_of_ble_eq_true (by rfl)) (by decide) (by decide) (by decide) (by decide) (C_10_thrown Z1 Z2 ?_)
  show gG _ _ _ _ _ _ _ _ _ _
  refine g_iload M_L_law d_L_law_1216 (by first | rfl | assumption) ?_
  refine g_icmp_eq M_L_law (tgt := 1223) d_L_law_1218 (by decide) (fun _ => ?_) (fun c => absurd rfl c)
  refine g_iload M_L_law d_L_law_1223 (by first | rfl | assumption) ?_
  refine g_if_ne M_L_law (tgt := 1240) d_L_law_1225 (by decide) (fun _ => ?_) (fun c => absurd c (by decide))
  refine g_goto M_L_law (tgt := 1446) d_L_law_1240 (by decide) ?_
  exact E_end sb2 rfl rfl rfl (k _)
set_option maxHeartbeats 4000000 in
set_option maxRecDepth 100000 in
theorem B_dies {L : Nat → Nat → Nat} {q : Nat → Nat} {b o : Nat} {f : Nat → Int32} {h : Hp_} {Q : Ot_ → Hp_ → Prop} (C : lawC h L q b o 4 f) (k : ∀ h', Q (.inl (some (.int 1))) h') : gG 9 330 2 12 M_L_law 1243 (lvL b (L 0 0) (q 0) o) [] h Q := by
  obtain ⟨s, H, Y, sb, ⟨g, ho⟩, c6, c7, c8⟩ := id C
  refine g_aloadn M_L_law d_L_law_1243 (by first | rfl | assumption) ?_
  refine gc_V M_L_law 0 0 [] [] d_L_law_1244 cv_L_174 H.1 (by rfl) (by rfl) (Nat.le_of_ble_eq_true (by rfl)) (Nat.le_of_ble_eq_true (by rfl)) (by decide) (by decide) (by decide) (by decide) (F_dies H ?_)
  have D := C.chg gChg.rfl'
  show gG _ _ _ _ _ _ _ _ _ _
  refine g_aloadn M_L_law d_L_law_1247 (by first | rfl | assumption) ?_
  refine gc_V M_L_law 0 0 [] [_] d_L_law_1248 cv_L_177 D.1.2.1 (by rfl) (by rfl) (Nat.le_of_ble_eq_true (by rfl)) (Nat.le_of_ble_eq_true (by rfl)) (by decide) (by decide) (by decide) (by decide) (Y_dies D.1 (fun h2 e2 => ?_))
  have sb2 := (D.out e2).2
  show gG _ _ _ _ _ _ _ _ _ _
  refine g_icmp_eq M_L_law (tgt := 1446) d_L_law_1251 (by decide) (fun _ => ?_) (fun c => absurd rfl c)
  exact E_end sb2 rfl rfl rfl (k _)
set_option maxHeartbeats 4000000 in
set_option maxRecDepth 100000 in
theorem B_irregulars {L : Nat → Nat → Nat} {q : Nat → Nat} {b o : Nat} {f : Nat → Int32} {h : Hp_} {Q : Ot_ → Hp_ → Prop} (C : lawC h L q b o 4 f) (k : ∀ h', Q (.inl (some (.int 1))) h') : gG 9 330 2 12 M_L_law 1256 (lvL b (L 0 0) (q 0) o) [] h Q := by
  obtain ⟨s, H, Y, sb, ⟨g, ho⟩, c6, c7, c8⟩ := id C
  refine g_aloadn M_L_law d_L_law_1256 (by first | rfl | assumption) ?_
  refine gc_V M_L_law 0 0 [] [] d_L_law_1257 cv_L_178 H.1 (by rfl) (by rfl) (Nat.le_of_ble_eq_true (by rfl)) (Nat.le_of_ble_eq_true (by rfl)) (by decide) (by decide) (by decide) (by decide) (F_irregulars H ?_)
  have D := C.chg gChg.rfl'
  show gG _ _ _ _ _ _ _ _ _ _
  refine g_aloadn M_L_law d_L_law_1260 (by first | rfl | assumption) ?_
  refine gc_V M_L_law 0 0 [] [_] d_L_law_1261 cv_L_181 D.1.2.1 (by rfl) (by rfl) (Nat.le_of_ble_eq_true (by rfl)) (Nat.le_of_ble_eq_true (by rfl)) (by decide) (by decide) (by decide) (by decide) (Y_irregulars D.1 (fun h2 e2 => ?_))
  have sb2 := (D.out e2).2
  show gG _ _ _ _ _ _ _ _ _ _
  refine g_icmp_eq M_L_law (tgt := 1446) d_L_law_1264 (by decide) (fun _ => ?_) (fun c => absurd rfl c)
  exact E_end sb2 rfl rfl rfl (k _)
set_option maxHeartbeats 4000000 in
set_option maxRecDepth 100000 in
theorem B_fitsOf {L : Nat → Nat → Nat} {q : Nat → Nat} {b o : Nat} {f : Nat → Int32} {h : Hp_} {Q : Ot_ → Hp_ → Prop} (C : lawC h L q b o 4 f) (k : ∀ h', Q (.inl (some (.int 1))) h') : gG 9 330 2 12 M_L_law 1269 (lvL b (L 0 0) (q 0) o) [] h Q := by
  obtain ⟨s, H, Y, sb, ⟨g, ho⟩, c6, c7, c8⟩ := id C
  refine g_aloadn M_L_law d_L_law_1269 (by first | rfl | assumption) ?_
  refine g_aloadn M_L_law d_L_law_1270 (by first | rfl | assumption) ?_
  refine g_iload M_L_law d_L_law_1271 (by first | rfl | assumption) ?_
  refine g_iconst M_L_law (v := nI 1) d_L_law_1273 (by decide) ?_
  refine g_iadd M_L_law d_L_law_1274 ?_
  refine g_top M_L_law (y := .int (nI 1)) (by decide) ?_
  refine g_iaload M_L_law d_L_law_1275 sb (vp_in_nI (by decide) (by decide)) ?_
  refine g_aloadn M_L_law d_L_law_1276 (by first | rfl | assumption) ?_
  refine gc_SH M_L_law 0 0 [.ref (L 0 0), .int (f (nI 1).toNatClampNeg), .ref o] [] d_L_law_1277 cs_L_182 (by decide) (by rfl) (by rfl) (Nat.le_of_ble_eq_true (by rfl)) (Nat.le_of_ble_eq_true (by rfl)) (by decide) (by decide) (by decide) (by decide) (W_fitsOf H ho (fun e h1 g1 o1 ge1 e1 => ?_) (fun e => ?_))
  · have D := C.set o1 e1
    show gG _ _ _ _ _ _ _ _ _ _
    refine g_istore M_L_law d_L_law_1280 (by decide) (by first | rfl | (simp only [gc]; simp [*])) ?_
    refine g_aloadn M_L_law d_L_law_1282 (by first | rfl | assumption) ?_
    refine g_aloadn M_L_law d_L_law_1283 (by first | rfl | assumption) ?_
    refine g_iload M_L_law d_L_law_1284 (by first | rfl | assumption) ?_
    refine g_iconst M_L_law (v := nI 1) d_L_law_1286 (by decide) ?_
    refine g_iadd M_L_law d_L_law_1287 ?_
    refine g_top M_L_law (y := .int (nI 1)) (by decide) ?_
    refine g_iaload M_L_law d_L_law_1288 D.2.1 (vp_in_nI (by decide) (by decide)) ?_
    refine gc_V M_L_law 0 0 [.int (f (nI 1).toNatClampNeg)] [] d_L_law_1289 cv_L_184 D.1.2.1 (by rfl) (by rfl) (Nat.le_of_ble_eq_true (by rfl)) (Nat.le_of_ble_eq_true (by rfl)) (by decide) (by decide) (by decide) (by decide) (Y_fitsOf D.1 (fun _ h2 e2 => ?_) (fun z => absurd e z))
    obtain ⟨⟨fs2, Z1, Z2⟩, sb2⟩ := D.out e2
    have o2 := e2.2 _ _ o1 (fun j hj => (D.2.2.2 j hj).2)
    have LE : g1 (nI 0).toNatClampNeg = (nI 0).toInt64 := ge1
    show gG _ _ _ _ _ _ _ _ _ _
    refine g_istore M_L_law d_L_law_1292 (by decide) (by first | rfl | (simp only [gc]; simp [*])) ?_
    refine g_aloadn M_L_law d_L_law_1294 (by first | rfl | assumption) ?_
    refine gc_V M_L_law 0 0 [] [] d_L_law_1295 cv_L_92 Z1 (by rfl) (by rfl) (Nat.le_of_ble_eq_true (by rfl)) (Nat.le_of_ble_eq_true (by rfl)) (by decide) (by decide) (by decide) (by decide) (C_10_thrown Z1 Z2 ?_)
    show gG _ _ _ _ _ _ _ _ _ _
    refine g_iload M_L_law d_L_law_1298 (by first | rfl | assumption) ?_
    refine g_icmp_eq M_L_law (tgt := 1305) d_L_law_1300 (by decide) (fun _ => ?_) (fun c => absurd rfl c)
    refine g_iload M_L_law d_L_law_1305 (by first | rfl | assumption) ?_
    refine g_if_ne M_L_law (tgt := 1322) d_L_law_1307 (by decide) (fun c => absurd rfl c) (fun _ => ?_)
    refine g_aloadn M_L_law d_L_law_1310 (by first | rfl | assumption) ?_
    refine g_iconst M_L_law (v := nI 0) d_L_law_1311 (by decide) ?_
    refine g_laload M_L_law d_L_law_1312 o2 (vp_in_nI (by decide) (by decide)) ?_
    refine g_iload M_L_law d_L_law_1313 (by first | rfl | assumption) ?_
    refine g_i2l M_L_law d_L_law_1315 ?_
    refine g_lcmp M_L_law d_L_law_1316 ?_
    refine g_if_eq M_L_law (tgt := 1322) d_L_law_1317 (by decide) (fun _ => ?_) (fun c => absurd ((lg_cmp_eq _ _).mpr LE) c)
    refine g_goto M_L_law (tgt := 1446) d_L_law_1322 (by decide) ?_
    exact E_end sb2 rfl rfl rfl (k _)
  · have D := C.chg gChg.rfl'
    show gG _ _ _ _ _ _ _ _ _ _
    refine g_istore M_L_law d_L_law_1280 (by decide) (by first | rfl | (simp only [gc]; simp [*])) ?_
    refine g_aloadn M_L_law d_L_law_1282 (by first | rfl | assumption) ?_
    refine g_aloadn M_L_law d_L_law_1283 (by first | rfl | assumption) ?_
    refine g_iload M_L_law d_L_law_1284 (by first | rfl | assumption) ?_
    refine g_iconst M_L_law (v := nI 1) d_L_law_1286 (by decide) ?_
    refine g_iadd M_L_law d_L_law_1287 ?_
    refine g_top M_L_law (y := .int (nI 1)) (by decide) ?_
    refine g_iaload M_L_law d_L_law_1288 D.2.1 (vp_in_nI (by decide) (by decide)) ?_
    refine gc_V M_L_law 0 0 [.int (f (nI 1).toNatClampNeg)] [] d_L_law_1289 cv_L_184 D.1.2.1 (by rfl) (by rfl) (Nat.le_of_ble_eq_true (by rfl)) (Nat.le_of_ble_eq_true (by rfl)) (by decide) (by decide) (by decide) (by decide) (Y_fitsOf D.1 (fun z => absurd z e) (fun _ h2 e2 => ?_))
    obtain ⟨⟨fs2, Z1, Z2⟩, sb2⟩ := D.out e2
    show gG _ _ _ _ _ _ _ _ _ _
    refine g_istore M_L_law d_L_law_1292 (by decide) (by first | rfl | (simp only [gc]; simp [*])) ?_
    refine g_aloadn M_L_law d_L_law_1294 (by first | rfl | assumption) ?_
    refine gc_V M_L_law 0 0 [] [] d_L_law_1295 cv_L_92 Z1 (by rfl) (by rfl) (Nat.le_of_ble_eq_true (by rfl)) (Nat.le_of_ble_eq_true (by rfl)) (by decide) (by decide) (by decide) (by decide) (C_10_thrown Z1 Z2 ?_)
    show gG _ _ _ _ _ _ _ _ _ _
    refine g_iload M_L_law d_L_law_1298 (by first | rfl | assumption) ?_
    refine g_icmp_eq M_L_law (tgt := 1305) d_L_law_1300 (by decide) (fun _ => ?_) (fun c => absurd rfl c)
    refine g_iload M_L_law d_L_law_1305 (by first | rfl | assumption) ?_
    refine g_if_ne M_L_law (tgt := 1322) d_L_law_1307 (by decide) (fun _ => ?_) (fun c => absurd c (by decide))
    refine g_goto M_L_law (tgt := 1446) d_L_law_1322 (by decide) ?_
    exact E_end sb2 rfl rfl rfl (k _)
set_option maxHeartbeats 4000000 in
set_option maxRecDepth 100000 in
theorem B_coinsOf {L : Nat → Nat → Nat} {q : Nat → Nat} {b o : Nat} {f : Nat → Int32} {h : Hp_} {Q : Ot_ → Hp_ → Prop} (C : lawC h L q b o 4 f) (k : ∀ h', Q (.inl (some (.int 1))) h') : gG 9 330 2 12 M_L_law 1325 (lvL b (L 0 0) (q 0) o) [] h Q := by
  obtain ⟨s, H, Y, sb, ⟨g, ho⟩, c6, c7, c8⟩ := id C
  refine g_aloadn M_L_law d_L_law_1325 (by first | rfl | assumption) ?_
  refine g_aloadn M_L_law d_L_law_1326 (by first | rfl | assumption) ?_
  refine g_iload M_L_law d_L_law_1327 (by first | rfl | assumption) ?_
  refine g_iconst M_L_law (v := nI 1) d_L_law_1329 (by decide) ?_
  refine g_iadd M_L_law d_L_law_1330 ?_
  refine g_top M_L_law (y := .int (nI 1)) (by decide) ?_
  refine g_iaload M_L_law d_L_law_1331 sb (vp_in_nI (by decide) (by decide)) ?_
  refine g_aloadn M_L_law d_L_law_1332 (by first | rfl | assumption) ?_
  refine gc_SH M_L_law 0 0 [.ref (L 0 0), .int (f (nI 1).toNatClampNeg), .ref o] [] d_L_law_1333 cs_L_185 (by decide) (by rfl) (by rfl) (Nat.le_of_ble_eq_true (by rfl)) (Nat.le_of_ble_eq_true (by rfl)) (by decide) (by decide) (by decide) (by decide) (W_coinsOf s H (fun h1 e1 => ?_))
  have D := C.chg e1
  show gG _ _ _ _ _ _ _ _ _ _
  refine g_istore M_L_law d_L_law_1336 (by decide) (by first | rfl | (simp only [gc]; simp [*])) ?_
  refine g_aloadn M_L_law d_L_law_1338 (by first | rfl | assumption) ?_
  refine g_aloadn M_L_law d_L_law_1339 (by first | rfl | assumption) ?_
  refine g_iload M_L_law d_L_law_1340 (by first | rfl | assumption) ?_
  refine g_iconst M_L_law (v := nI 1) d_L_law_1342 (by decide) ?_
  refine g_iadd M_L_law d_L_law_1343 ?_
  refine g_top M_L_law (y := .int (nI 1)) (by decide) ?_
  refine g_iaload M_L_law d_L_law_1344 D.2.1 (vp_in_nI (by decide) (by decide)) ?_
  refine gc_V M_L_law 0 0 [.int (f (nI 1).toNatClampNeg)] [] d_L_law_1345 cv_L_187 D.1.2.1 (by rfl) (by rfl) (Nat.le_of_ble_eq_true (by rfl)) (Nat.le_of_ble_eq_true (by rfl)) (by decide) (by decide) (by decide) (by decide) (Y_coinsOf D.1 (fun h2 e2 => ?_))
  obtain ⟨⟨fs2, Z1, Z2⟩, sb2⟩ := D.out e2
  show gG _ _ _ _ _ _ _ _ _ _
  refine g_istore M_L_law d_L_law_1348 (by decide) (by first | rfl | (simp only [gc]; simp [*])) ?_
  refine g_aloadn M_L_law d_L_law_1350 (by first | rfl | assumption) ?_
  refine gc_V M_L_law 0 0 [] [] d_L_law_1351 cv_L_92 Z1 (by rfl) (by rfl) (Nat.le_of_ble_eq_true (by rfl)) (Nat.le_of_ble_eq_true (by rfl)) (by decide) (by decide) (by decide) (by decide) (C_10_thrown Z1 Z2 ?_)
  show gG _ _ _ _ _ _ _ _ _ _
  refine g_iload M_L_law d_L_law_1354 (by first | rfl | assumption) ?_
  refine g_icmp_eq M_L_law (tgt := 1361) d_L_law_1356 (by decide) (fun _ => ?_) (fun c => absurd rfl c)
  refine g_iload M_L_law d_L_law_1361 (by first | rfl | assumption) ?_
  refine g_if_ne M_L_law (tgt := 1378) d_L_law_1363 (by decide) (fun _ => ?_) (fun c => absurd c (by decide))
  refine g_goto M_L_law (tgt := 1446) d_L_law_1378 (by decide) ?_
  exact E_end sb2 rfl rfl rfl (k _)
set_option maxHeartbeats 4000000 in
set_option maxRecDepth 100000 in
theorem B_heaps {L : Nat → Nat → Nat} {q : Nat → Nat} {b o : Nat} {f : Nat → Int32} {h : Hp_} {Q : Ot_ → Hp_ → Prop} (C : lawC h L q b o 4 f) (k : ∀ h', Q (.inl (some (.int 1))) h') : gG 9 330 2 12 M_L_law 1381 (lvL b (L 0 0) (q 0) o) [] h Q := by
  obtain ⟨s, H, Y, sb, ⟨g, ho⟩, c6, c7, c8⟩ := id C
  refine g_aloadn M_L_law d_L_law_1381 (by first | rfl | assumption) ?_
  refine gc_V M_L_law 0 0 [] [] d_L_law_1382 cv_L_188 H.1 (by rfl) (by rfl) (Nat.le_of_ble_eq_true (by rfl)) (Nat.le_of_ble_eq_true (by rfl)) (by decide) (by decide) (by decide) (by decide) (F_heaps H ?_)
  have D := C.chg gChg.rfl'
  show gG _ _ _ _ _ _ _ _ _ _
  refine g_aloadn M_L_law d_L_law_1385 (by first | rfl | assumption) ?_
  refine gc_V M_L_law 0 0 [] [_] d_L_law_1386 cv_L_191 D.1.2.1 (by rfl) (by rfl) (Nat.le_of_ble_eq_true (by rfl)) (Nat.le_of_ble_eq_true (by rfl)) (by decide) (by decide) (by decide) (by decide) (Y_heaps D.1 (fun h2 e2 => ?_))
  have sb2 := (D.out e2).2
  show gG _ _ _ _ _ _ _ _ _ _
  refine g_icmp_eq M_L_law (tgt := 1446) d_L_law_1389 (by decide) (fun _ => ?_) (fun c => absurd rfl c)
  exact E_end sb2 rfl rfl rfl (k _)
set_option maxHeartbeats 4000000 in
set_option maxRecDepth 100000 in
theorem B_staleCoins {L : Nat → Nat → Nat} {q : Nat → Nat} {b o : Nat} {f : Nat → Int32} {h : Hp_} {Q : Ot_ → Hp_ → Prop} (C : lawC h L q b o 4 f) (k : ∀ h', Q (.inl (some (.int 1))) h') : gG 9 330 2 12 M_L_law 1394 (lvL b (L 0 0) (q 0) o) [] h Q := by
  obtain ⟨s, H, Y, sb, ⟨g, ho⟩, c6, c7, c8⟩ := id C
  refine g_aloadn M_L_law d_L_law_1394 (by first | rfl | assumption) ?_
  refine gc_V M_L_law 0 0 [] [] d_L_law_1395 cv_L_192 H.1 (by rfl) (by rfl) (Nat.le_of_ble_eq_true (by rfl)) (Nat.le_of_ble_eq_true (by rfl)) (by decide) (by decide) (by decide) (by decide) (F_staleCoins H ?_)
  have D := C.chg gChg.rfl'
  show gG _ _ _ _ _ _ _ _ _ _
  refine g_aloadn M_L_law d_L_law_1398 (by first | rfl | assumption) ?_
  refine gc_V M_L_law 0 0 [] [_] d_L_law_1399 cv_L_195 D.1.2.1 (by rfl) (by rfl) (Nat.le_of_ble_eq_true (by rfl)) (Nat.le_of_ble_eq_true (by rfl)) (by decide) (by decide) (by decide) (by decide) (Y_staleCoins D.1 (fun h2 e2 => ?_))
  have sb2 := (D.out e2).2
  show gG _ _ _ _ _ _ _ _ _ _
  refine g_icmp_eq M_L_law (tgt := 1446) d_L_law_1402 (by decide) (fun _ => ?_) (fun c => absurd rfl c)
  exact E_end sb2 rfl rfl rfl (k _)
set_option maxHeartbeats 4000000 in
set_option maxRecDepth 100000 in
theorem B_coinsByHeaps {L : Nat → Nat → Nat} {q : Nat → Nat} {b o : Nat} {f : Nat → Int32} {h : Hp_} {Q : Ot_ → Hp_ → Prop} (C : lawC h L q b o 4 f) (k : ∀ h', Q (.inl (some (.int 1))) h') : gG 9 330 2 12 M_L_law 1407 (lvL b (L 0 0) (q 0) o) [] h Q := by
  obtain ⟨s, H, Y, sb, ⟨g, ho⟩, c6, c7, c8⟩ := id C
  refine g_aloadn M_L_law d_L_law_1407 (by first | rfl | assumption) ?_
  refine gc_V M_L_law 0 0 [] [] d_L_law_1408 cv_L_196 H.1 (by rfl) (by rfl) (Nat.le_of_ble_eq_true (by rfl)) (Nat.le_of_ble_eq_true (by rfl)) (by decide) (by decide) (by decide) (by decide) (F_coinsByHeaps H ?_)
  have D := C.chg gChg.rfl'
  show gG _ _ _ _ _ _ _ _ _ _
  refine g_aloadn M_L_law d_L_law_1411 (by first | rfl | assumption) ?_
  refine gc_V M_L_law 0 0 [] [_] d_L_law_1412 cv_L_199 D.1.2.1 (by rfl) (by rfl) (Nat.le_of_ble_eq_true (by rfl)) (Nat.le_of_ble_eq_true (by rfl)) (by decide) (by decide) (by decide) (by decide) (Y_coinsByHeaps D.1 (fun h2 e2 => ?_))
  have sb2 := (D.out e2).2
  show gG _ _ _ _ _ _ _ _ _ _
  refine g_icmp_eq M_L_law (tgt := 1446) d_L_law_1415 (by decide) (fun _ => ?_) (fun c => absurd rfl c)
  exact E_end sb2 rfl rfl rfl (k _)
set_option maxHeartbeats 4000000 in
set_option maxRecDepth 100000 in
theorem B_coinsByAccounts {L : Nat → Nat → Nat} {q : Nat → Nat} {b o : Nat} {f : Nat → Int32} {h : Hp_} {Q : Ot_ → Hp_ → Prop} (C : lawC h L q b o 4 f) (k : ∀ h', Q (.inl (some (.int 1))) h') : gG 9 330 2 12 M_L_law 1420 (lvL b (L 0 0) (q 0) o) [] h Q := by
  obtain ⟨s, H, Y, sb, ⟨g, ho⟩, c6, c7, c8⟩ := id C
  refine g_aloadn M_L_law d_L_law_1420 (by first | rfl | assumption) ?_
  refine gc_V M_L_law 0 0 [] [] d_L_law_1421 cv_L_200 H.1 (by rfl) (by rfl) (Nat.le_of_ble_eq_true (by rfl)) (Nat.le_of_ble_eq_true (by rfl)) (by decide) (by decide) (by decide) (by decide) (F_coinsByAccounts H ?_)
  have D := C.chg gChg.rfl'
  show gG _ _ _ _ _ _ _ _ _ _
  refine g_aloadn M_L_law d_L_law_1424 (by first | rfl | assumption) ?_
  refine gc_V M_L_law 0 0 [] [_] d_L_law_1425 cv_L_203 D.1.2.1 (by rfl) (by rfl) (Nat.le_of_ble_eq_true (by rfl)) (Nat.le_of_ble_eq_true (by rfl)) (by decide) (by decide) (by decide) (by decide) (Y_coinsByAccounts D.1 (fun h2 e2 => ?_))
  have sb2 := (D.out e2).2
  show gG _ _ _ _ _ _ _ _ _ _
  refine g_icmp_eq M_L_law (tgt := 1446) d_L_law_1428 (by decide) (fun _ => ?_) (fun c => absurd rfl c)
  exact E_end sb2 rfl rfl rfl (k _)
set_option maxHeartbeats 4000000 in
set_option maxRecDepth 100000 in
theorem B_recordedStates {L : Nat → Nat → Nat} {q : Nat → Nat} {b o : Nat} {f : Nat → Int32} {h : Hp_} {Q : Ot_ → Hp_ → Prop} (C : lawC h L q b o 4 f) (k : ∀ h', Q (.inl (some (.int 1))) h') : gG 9 330 2 12 M_L_law 1433 (lvL b (L 0 0) (q 0) o) [] h Q := by
  obtain ⟨s, H, Y, sb, ⟨g, ho⟩, c6, c7, c8⟩ := id C
  refine g_aloadn M_L_law d_L_law_1433 (by first | rfl | assumption) ?_
  refine gc_V M_L_law 0 0 [] [] d_L_law_1434 cv_L_204 H.1 (by rfl) (by rfl) (Nat.le_of_ble_eq_true (by rfl)) (Nat.le_of_ble_eq_true (by rfl)) (by decide) (by decide) (by decide) (by decide) (F_recordedStates H ?_)
  have D := C.chg gChg.rfl'
  show gG _ _ _ _ _ _ _ _ _ _
  refine g_aloadn M_L_law d_L_law_1437 (by first | rfl | assumption) ?_
  refine gc_V M_L_law 0 0 [] [_] d_L_law_1438 cv_L_207 D.1.2.1 (by rfl) (by rfl) (Nat.le_of_ble_eq_true (by rfl)) (Nat.le_of_ble_eq_true (by rfl)) (by decide) (by decide) (by decide) (by decide) (Y_recordedStates D.1 (fun h2 e2 => ?_))
  have sb2 := (D.out e2).2
  show gG _ _ _ _ _ _ _ _ _ _
  refine g_icmp_eq M_L_law (tgt := 1446) d_L_law_1441 (by decide) (fun _ => ?_) (fun c => absurd rfl c)
  exact E_end sb2 rfl rfl rfl (k _)
