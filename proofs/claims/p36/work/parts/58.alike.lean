/-! ===== the law's areAlike ===== -/
theorem rlI {X Y : Mt_} (r : Y.2 = mM X.2) : Y.2.1.2.1.length = X.2.1.2.1.length := by rw [r]; exact List.length_map ..
theorem rlH {X Y : Mt_} (r : Y.2 = mM X.2) : Y.2.1.2.2.2.2.1.length = X.2.1.2.2.2.2.1.length := by rw [r]; exact List.length_map ..
theorem rlS {X Y : Mt_} (r : Y.2 = mM X.2) : sumH (Y.2.1.2.2.2.2.1.filter (stl Y.2.1)) = sumH (X.2.1.2.2.2.2.1.filter (stl X.2.1)) := by
  rw [r, show (mM X.2).1.2.2.2.2.1.filter (stl (mM X.2).1) = mHn (X.2.1.2.2.2.2.1.filter (stl X.2.1)) from stF_m, sumH_m]
theorem rlAc {X Y : Mt_} (r : Y.2 = mM X.2) : Y.2.1.2.2.2.2.2 = X.2.1.2.2.2.2.2 := by rw [r]
theorem rlA {X Y : Mt_} (r : Y.2 = mM X.2) : ambF (plA Y.2.1) = ambF (plA X.2.1) := by rw [r, show plA (mM X.2).1 = (plA X.2.1).map mWs from plA_m, ambF_m]
theorem rlR {X Y : Mt_} (r : Y.2 = mM X.2) : Y.2.2.2.length = X.2.2.2.length := by rw [r]; exact List.length_map ..
theorem rlW {X Y : Mt_} {k : Nat} (r : Y.2 = mM X.2) : Y.2.1.1.getD k [] = mWs (X.2.1.1.getD k []) := by rw [r]; exact mL_get
theorem rlL {X Y : Mt_} {k : Nat} (r : Y.2 = mM X.2) : (Y.2.1.1.getD k []).length = (X.2.1.1.getD k []).length := by rw [rlW r]; exact List.length_map ..
theorem rlF {X Y : Mt_} {k : Nat} (r : Y.2 = mM X.2) : irF Y.2.1 k = irF X.2.1 k := by rw [r]; exact irF_m
theorem rlDf {X Y : Mt_} {k : Nat} (r : Y.2 = mM X.2) : dfN Y.2.1 k = dfN X.2.1 k := by rw [r]; exact dfN_m
theorem rlP {X Y : Mt_} {k : Nat} (r : Y.2 = mM X.2) : plN Y.2.1 k = mWs (plN X.2.1 k) := by rw [r]; exact plN_m
theorem rlPl {X Y : Mt_} {k : Nat} (r : Y.2 = mM X.2) : (plN Y.2.1 k).length = (plN X.2.1 k).length := by rw [rlP r]; exact List.length_map ..
theorem rlFit {X Y : Mt_} {d : Nat} (r : Y.2 = mM X.2) : Y.2.1.1.countP (fun w => fitD Y.2.1.2.2.2.1 d w) = X.2.1.1.countP (fun w => fitD X.2.1.2.2.2.1 d w) := by rw [r]; exact fits_m
set_option maxHeartbeats 4000000 in
set_option maxRecDepth 100000 in
theorem W_areAlike {L L9 : Nat → Nat → Nat} {a9 : Nat} {v9 : Ent_} {X Y : Mt_} {h : Hp_} {Q : Ot_ → Hp_ → Prop} {t : Nat} (T0 : tw h L L9 a9 v9 X Y) (R : Rl t X Y) (ht : t ≤ 60) (k : ∀ h', Q (.inl (some (.int (nI 1)))) h') : gG 10 400 120 720 M_L_areAlike 0 (lv_args 0 [.ref (L 0 0), .ref (L9 0 0)]) [] h Q := by
  obtain ⟨r, hM⟩ := R
  have hI := hM.1
  have nl := T0.1.un.2.2.2.2.2.2.1.1
  have dl := T0.1.un.2.2.2.2.2.2.2.2.2.1.2.1.1
  have ca := okCo_acc hI.2.2.2.2
  have loop3 : ∀ n p tx ty h1, p + n = X.2.1.2.2.2.1.1.length → tw h1 L L9 a9 v9 (tx, X.2) (ty, Y.2) → ∀ lv : List (Nat × Value), gl lv 0 = some (.ref (L 0 0)) → gl lv 1 = some (.ref (L9 0 0)) → gl lv 2 = some (.int (nI X.2.1.1.length)) → gl lv 3 = some (.int (nI 1)) → gl lv 4 = some (.int (nI p)) → gG 10 400 0 0 M_L_areAlike 372 lv [] h1 Q := by
    intro n
    induction n with
    | zero =>
      intro p tx ty h1 hp T1 lv H0 H1 H2 H3 H4
      refine g_iload M_L_areAlike d_L_areAlike_372 (by first | rfl | assumption) ?_
      refine g_aloadn M_L_areAlike d_L_areAlike_374 (by first | rfl | assumption) ?_
      refine gc_V M_L_areAlike 0 0 [] _ d_L_areAlike_375 cv_L_134 T1.m0 (by rfl) (by rfl) (Nat.le_of_ble_eq_true (by rfl)) (Nat.le_of_ble_eq_true (by rfl)) (by decide) (by decide) (by omega) (by omega) (C_9_dies T1.1 ?_)
      show gG _ _ _ _ _ _ _ _ _ _
      refine g_icmp_ge M_L_areAlike (tgt := 412) d_L_areAlike_378 (by decide) (fun _ => ?_) (fun c9 => absurd (nI_le (show X.2.1.2.2.2.1.1.length ≤ p by omega) (show p < 2 ^ 31 by omega)) c9)
      refine g_iloadn M_L_areAlike d_L_areAlike_412 (by first | rfl | assumption) ?_
      exact g_iret M_L_areAlike d_L_areAlike_413 rfl rfl (k h1)
    | succ n ih =>
      intro p tx ty h1 hp T1 lv H0 H1 H2 H3 H4
      refine g_iload M_L_areAlike d_L_areAlike_372 (by first | rfl | assumption) ?_
      refine g_aloadn M_L_areAlike d_L_areAlike_374 (by first | rfl | assumption) ?_
      refine gc_V M_L_areAlike 0 0 [] _ d_L_areAlike_375 cv_L_134 T1.m0 (by rfl) (by rfl) (Nat.le_of_ble_eq_true (by rfl)) (Nat.le_of_ble_eq_true (by rfl)) (by decide) (by decide) (by omega) (by omega) (C_9_dies T1.1 ?_)
      show gG _ _ _ _ _ _ _ _ _ _
      refine g_icmp_ge M_L_areAlike (tgt := 412) d_L_areAlike_378 (by decide) (fun c9 => absurd c9 (nI_ge (show p < X.2.1.2.2.2.1.1.length by omega) (show X.2.1.2.2.2.1.1.length < 2 ^ 31 by omega))) (fun _ => ?_)
      refine g_iloadn M_L_areAlike d_L_areAlike_381 (by first | rfl | assumption) ?_
      refine g_if_eq M_L_areAlike (tgt := 404) d_L_areAlike_382 (by decide) (fun c9 => absurd c9 (by decide)) (fun _ => ?_)
      refine g_aloadn M_L_areAlike d_L_areAlike_385 (by first | rfl | assumption) ?_
      refine g_iload M_L_areAlike d_L_areAlike_386 (by first | rfl | assumption) ?_
      refine gc_SH M_L_areAlike 0 0 [_, _] _ d_L_areAlike_388 cs_L_197 (by decide) (by rfl) (by rfl) (Nat.le_of_ble_eq_true (by rfl)) (Nat.le_of_ble_eq_true (by rfl)) (by decide) (by decide) (by omega) (by omega) (W_fitsOf T1 (show p < X.2.1.2.2.2.1.1.length by omega) (fun h2 T2 => ?_))
      show gG _ _ _ _ _ _ _ _ _ _
      refine g_aloadn M_L_areAlike d_L_areAlike_391 (by first | rfl | assumption) ?_
      refine g_iload M_L_areAlike d_L_areAlike_392 (by first | rfl | assumption) ?_
      refine gc_SH M_L_areAlike 0 0 [_, _] _ d_L_areAlike_394 cs_L_197 (by decide) (by rfl) (by rfl) (Nat.le_of_ble_eq_true (by rfl)) (Nat.le_of_ble_eq_true (by rfl)) (by decide) (by decide) (by omega) (by omega) (W_fitsOf T2.sw (show p < Y.2.1.2.2.2.1.1.length by rw [rlD r]; omega) (fun h3 T39 => ?_))
      have T3 := T39.sw
      show gG _ _ _ _ _ _ _ _ _ _
      refine g_icmp_ne M_L_areAlike (tgt := 404) d_L_areAlike_397 (by decide) (fun c9 => False.elim (c9 (congrArg nI (rlFit r).symm))) (fun _ => ?_)
      refine g_iconst M_L_areAlike (v := nI 1) d_L_areAlike_400 (by decide) ?_
      refine g_goto M_L_areAlike (tgt := 405) d_L_areAlike_401 (by decide) ?_
      refine g_istoren M_L_areAlike d_L_areAlike_405 (by decide) (gc_i H2) ?_
      refine g_iinc M_L_areAlike (v := nI (p + 1)) d_L_areAlike_406 H4 (by decide) (gc_i (x := nI 1) rfl) (nI_add p 1) ?_
      refine g_goto M_L_areAlike (tgt := 372) d_L_areAlike_409 (by decide) ?_
      exact ih (p + 1) _ _ h3 (by omega) T3 _ H0 H1 H2 rfl rfl
  have loop : ∀ n p tx ty h1, p + n = X.2.1.1.length → tw h1 L L9 a9 v9 (tx, X.2) (ty, Y.2) → ∀ lv : List (Nat × Value), gl lv 0 = some (.ref (L 0 0)) → gl lv 1 = some (.ref (L9 0 0)) → gl lv 2 = some (.int (nI X.2.1.1.length)) → gl lv 3 = some (.int (nI 1)) → gl lv 4 = some (.int (nI p)) → gG 10 400 (n * 6) (n * 36) M_L_areAlike 99 lv [] h1 Q := by
    intro n
    induction n with
    | zero =>
      intro p tx ty h1 hp T1 lv H0 H1 H2 H3 H4
      refine gG_room (fr' := 10) (lo' := 400) (kc' := 0) (ks' := 0) (Nat.le_refl _) (Nat.le_refl _) (Nat.zero_le _) (Nat.zero_le _) ?_
      refine g_iload M_L_areAlike d_L_areAlike_99 (by first | rfl | assumption) ?_
      refine g_iloadn M_L_areAlike d_L_areAlike_101 (by first | rfl | assumption) ?_
      refine g_icmp_ge M_L_areAlike (tgt := 369) d_L_areAlike_102 (by decide) (fun _ => ?_) (fun c9 => absurd (nI_le (show X.2.1.1.length ≤ p by omega) (show p < 2 ^ 31 by omega)) c9)
      refine g_iconst M_L_areAlike (v := nI 0) d_L_areAlike_369 (by decide) ?_
      refine g_istore M_L_areAlike d_L_areAlike_370 (by decide) (gc_i H3) ?_
      exact loop3 X.2.1.2.2.2.1.1.length 0 _ _ h1 (by omega) T1 _ H0 H1 H2 H3 rfl
    | succ n ih =>
      intro p tx ty h1 hp T1 lv H0 H1 H2 H3 H4
      have pk : p < X.2.1.1.length := by omega
      have nb := hI.1 _ (getL_mem pk)
      refine gG_room (fr' := 10) (lo' := 400) (kc' := n * 6 + 6) (ks' := n * 36 + 36) (Nat.le_refl _) (Nat.le_refl _) (by omega) (by omega) ?_
      have fin : ∀ h6, tw h6 L L9 a9 v9 ((plN X.2.1 p), X.2) (mWs (plN X.2.1 p), Y.2) → ∀ lv : List (Nat × Value), gl lv 0 = some (.ref (L 0 0)) → gl lv 1 = some (.ref (L9 0 0)) → gl lv 2 = some (.int (nI X.2.1.1.length)) → gl lv 3 = some (.int (nI 1)) → gl lv 4 = some (.int (nI p)) → gG 10 400 (n * 6 + 6) (n * 36 + 36) M_L_areAlike 320 lv [] h6 Q := by
        intro h6 T6 lv H0 H1 H2 H3 H4
        refine g_iloadn M_L_areAlike d_L_areAlike_320 (by first | rfl | assumption) ?_
        refine g_if_eq M_L_areAlike (tgt := 361) d_L_areAlike_321 (by decide) (fun c9 => absurd c9 (by decide)) (fun _ => ?_)
        refine g_aloadn M_L_areAlike d_L_areAlike_324 (by first | rfl | assumption) ?_
        refine gc_SH M_L_areAlike (n * 6 + 5) (n * 36 + 30) [_] _ d_L_areAlike_325 cs_L_188 (by decide) (by rfl) (by rfl) (Nat.le_of_ble_eq_true (by rfl)) (Nat.le_of_ble_eq_true (by rfl)) (by decide) (by decide) (by omega) (by omega) (W_recall T6  (fun h7 T7 => ?_))
        show gG _ _ _ _ _ _ _ _ _ _
        refine g_aloadn M_L_areAlike d_L_areAlike_328 (by first | rfl | assumption) ?_
        refine gc_SH M_L_areAlike (n * 6 + 4) (n * 36 + 24) [_] _ d_L_areAlike_329 cs_L_191 (by decide) (by rfl) (by rfl) (Nat.le_of_ble_eq_true (by rfl)) (Nat.le_of_ble_eq_true (by rfl)) (by decide) (by decide) (by omega) (by omega) (W_reversed T7.sw  (fun h8 T89 => ?_))
        have T8 := T89.sw
        show gG _ _ _ _ _ _ _ _ _ _
        refine g_icmp_ne M_L_areAlike (tgt := 361) d_L_areAlike_332 (by decide) (fun c9 => False.elim (c9 ((eq_rev (X := ((plN X.2.1 p), X.2)) (Y := (mWs (plN X.2.1 p), Y.2)) r rfl).trans (vRev_eq (X := ((plN X.2.1 p), X.2)) hI)).symm)) (fun _ => ?_)
        refine g_aloadn M_L_areAlike d_L_areAlike_335 (by first | rfl | assumption) ?_
        refine gc_SH M_L_areAlike (n * 6 + 3) (n * 36 + 18) [_] _ d_L_areAlike_336 cs_L_191 (by decide) (by rfl) (by rfl) (Nat.le_of_ble_eq_true (by rfl)) (Nat.le_of_ble_eq_true (by rfl)) (by decide) (by decide) (by omega) (by omega) (W_reversed T8  (fun h9 T9 => ?_))
        show gG _ _ _ _ _ _ _ _ _ _
        refine g_aloadn M_L_areAlike d_L_areAlike_339 (by first | rfl | assumption) ?_
        refine gc_SH M_L_areAlike (n * 6 + 2) (n * 36 + 12) [_] _ d_L_areAlike_340 cs_L_188 (by decide) (by rfl) (by rfl) (Nat.le_of_ble_eq_true (by rfl)) (Nat.le_of_ble_eq_true (by rfl)) (by decide) (by decide) (by omega) (by omega) (W_recall T9.sw  (fun h10 T109 => ?_))
        have T10 := T109.sw
        show gG _ _ _ _ _ _ _ _ _ _
        refine g_icmp_ne M_L_areAlike (tgt := 361) d_L_areAlike_343 (by decide) (fun c9 => False.elim (c9 ((vRev_eq (X := ((plN X.2.1 p), X.2)) hI).trans (eq_recall (X := ((plN X.2.1 p), X.2)) (Y := (mWs (plN X.2.1 p), Y.2)) r rfl).symm))) (fun _ => ?_)
        refine g_aloadn M_L_areAlike d_L_areAlike_346 (by first | rfl | assumption) ?_
        refine gc_SH M_L_areAlike (n * 6 + 1) (n * 36 + 6) [_] _ d_L_areAlike_347 cs_L_194 (by decide) (by rfl) (by rfl) (Nat.le_of_ble_eq_true (by rfl)) (Nat.le_of_ble_eq_true (by rfl)) (by decide) (by decide) (by omega) (by omega) (W_possible T10  (fun h11 T11 => ?_))
        show gG _ _ _ _ _ _ _ _ _ _
        refine g_aloadn M_L_areAlike d_L_areAlike_350 (by first | rfl | assumption) ?_
        refine gc_SH M_L_areAlike (n * 6 + 0) (n * 36 + 0) [_] _ d_L_areAlike_351 cs_L_194 (by decide) (by rfl) (by rfl) (Nat.le_of_ble_eq_true (by rfl)) (Nat.le_of_ble_eq_true (by rfl)) (by decide) (by decide) (by omega) (by omega) (W_possible T11.sw  (fun h12 T129 => ?_))
        have T12 := T129.sw
        show gG _ _ _ _ _ _ _ _ _ _
        refine g_icmp_ne M_L_areAlike (tgt := 361) d_L_areAlike_354 (by decide) (fun c9 => False.elim (c9 (eq_pos (X := ((plN X.2.1 p), X.2)) (Y := (mWs (plN X.2.1 p), Y.2)) r rfl).symm)) (fun _ => ?_)
        refine g_iconst M_L_areAlike (v := nI 1) d_L_areAlike_357 (by decide) ?_
        refine g_goto M_L_areAlike (tgt := 362) d_L_areAlike_358 (by decide) ?_
        refine g_istoren M_L_areAlike d_L_areAlike_362 (by decide) (gc_i H2) ?_
        refine g_iinc M_L_areAlike (v := nI (p + 1)) d_L_areAlike_363 H4 (by decide) (gc_i (x := nI 1) rfl) (nI_add p 1) ?_
        refine g_goto M_L_areAlike (tgt := 99) d_L_areAlike_366 (by decide) ?_
        exact ih (p + 1) _ _ h12 (by omega) T12 _ H0 H1 H2 rfl rfl
      have inner2 : ∀ m j h5, j + m = (plN X.2.1 p).length → tw h5 L L9 a9 v9 ((plN X.2.1 p).take j, X.2) (mWs ((plN X.2.1 p).take j), Y.2) → ∀ lv : List (Nat × Value), gl lv 0 = some (.ref (L 0 0)) → gl lv 1 = some (.ref (L9 0 0)) → gl lv 2 = some (.int (nI X.2.1.1.length)) → gl lv 3 = some (.int (nI 1)) → gl lv 4 = some (.int (nI p)) → gl lv 5 = some (.int (nI j)) → gG 10 400 (n * 6 + 6) (n * 36 + 36) M_L_areAlike 255 lv [] h5 Q := by
        intro m
        induction m with
        | zero =>
          intro j h5 hj T5 lv H0 H1 H2 H3 H4 H5
          refine g_iload M_L_areAlike d_L_areAlike_255 (by first | rfl | assumption) ?_
          refine g_aloadn M_L_areAlike d_L_areAlike_257 (by first | rfl | assumption) ?_
          refine g_iload M_L_areAlike d_L_areAlike_258 (by first | rfl | assumption) ?_
          refine gc_SH M_L_areAlike (n * 6 + 6) (n * 36 + 36) [_, _] _ d_L_areAlike_260 cs_L_179 (by decide) (by rfl) (by rfl) (Nat.le_of_ble_eq_true (by rfl)) (Nat.le_of_ble_eq_true (by rfl)) (by decide) (by decide) (by omega) (by omega) (W_pluralLetters T5 pk (fun h6 T6 p6 => ?_))
          show gG _ _ _ _ _ _ _ _ _ _
          refine g_icmp_ge M_L_areAlike (tgt := 320) d_L_areAlike_263 (by decide) (fun _ => ?_) (fun c9 => absurd (nI_le (show (plN X.2.1 p).length ≤ j by omega) (show j < 2 ^ 31 by have : (plN X.2.1 p).length ≤ 16 := p6; omega)) c9)
          rw [List.take_of_length_le (by omega)] at T6
          exact fin h6 T6 _ H0 H1 H2 H3 H4
        | succ m ih9 =>
          intro j h5 hj T5 lv H0 H1 H2 H3 H4 H5
          refine g_iload M_L_areAlike d_L_areAlike_255 (by first | rfl | assumption) ?_
          refine g_aloadn M_L_areAlike d_L_areAlike_257 (by first | rfl | assumption) ?_
          refine g_iload M_L_areAlike d_L_areAlike_258 (by first | rfl | assumption) ?_
          refine gc_SH M_L_areAlike (n * 6 + 6) (n * 36 + 36) [_, _] _ d_L_areAlike_260 cs_L_179 (by decide) (by rfl) (by rfl) (Nat.le_of_ble_eq_true (by rfl)) (Nat.le_of_ble_eq_true (by rfl)) (by decide) (by decide) (by omega) (by omega) (W_pluralLetters T5 pk (fun h6 T6 p6 => ?_))
          show gG _ _ _ _ _ _ _ _ _ _
          replace p6 : (plN X.2.1 p).length ≤ 16 := p6
          refine g_icmp_ge M_L_areAlike (tgt := 320) d_L_areAlike_263 (by decide) (fun c9 => absurd c9 (nI_ge (show j < (plN X.2.1 p).length by omega) (show (plN X.2.1 p).length < 2 ^ 31 by omega))) (fun _ => ?_)
          refine g_iloadn M_L_areAlike d_L_areAlike_266 (by first | rfl | assumption) ?_
          refine g_if_eq M_L_areAlike (tgt := 312) d_L_areAlike_267 (by decide) (fun c9 => absurd c9 (by decide)) (fun _ => ?_)
          refine g_aloadn M_L_areAlike d_L_areAlike_270 (by first | rfl | assumption) ?_
          refine g_iload M_L_areAlike d_L_areAlike_271 (by first | rfl | assumption) ?_
          refine g_iload M_L_areAlike d_L_areAlike_273 (by first | rfl | assumption) ?_
          refine gc_SH M_L_areAlike (n * 6 + 6) (n * 36 + 36) [_, _, _] _ d_L_areAlike_275 cs_L_185 (by decide) (by rfl) (by rfl) (Nat.le_of_ble_eq_true (by rfl)) (Nat.le_of_ble_eq_true (by rfl)) (by decide) (by decide) (by omega) (by omega) (W_letter T6 pk (show j < (plN X.2.1 p).length by omega) (fun h7 T7 c7 => ?_))
          show gG _ _ _ _ _ _ _ _ _ _
          refine gc_S M_L_areAlike (n * 6 + 6) (n * 36 + 36) [_] _ d_L_areAlike_278 cs_L_92 (by rfl) (by rfl) (by rfl) (Nat.le_of_ble_eq_true (by rfl)) (Nat.le_of_ble_eq_true (by rfl)) (by decide) (by decide) (by omega) (by omega) (W_other c7 ?_)
          show gG _ _ _ _ _ _ _ _ _ _
          refine g_aloadn M_L_areAlike d_L_areAlike_281 (by first | rfl | assumption) ?_
          refine g_iload M_L_areAlike d_L_areAlike_282 (by first | rfl | assumption) ?_
          refine g_iload M_L_areAlike d_L_areAlike_284 (by first | rfl | assumption) ?_
          refine gc_SH M_L_areAlike (n * 6 + 6) (n * 36 + 36) [_, _, _] _ d_L_areAlike_286 cs_L_185 (by decide) (by rfl) (by rfl) (Nat.le_of_ble_eq_true (by rfl)) (Nat.le_of_ble_eq_true (by rfl)) (by decide) (by decide) (by omega) (by omega) (W_letter T7.sw (show p < Y.2.1.1.length by rw [rlN r]; exact pk) (show j < (plN Y.2.1 p).length by rw [rlPl r]; omega) (fun h8 T89 c8 => ?_))
          have T8 := T89.sw
          show gG _ _ _ _ _ _ _ _ _ _
          refine g_icmp_ne M_L_areAlike (tgt := 312) d_L_areAlike_289 (by decide) (fun c9 => False.elim (c9 (congrArg nI (show sg ((plN X.2.1 p).getD j 0) = (plN Y.2.1 p).getD j 0 by rw [rlP r]; exact mW_get.symm)))) (fun _ => ?_)
          refine g_aloadn M_L_areAlike d_L_areAlike_292 (by first | rfl | assumption) ?_
          refine g_aloadn M_L_areAlike d_L_areAlike_293 (by first | rfl | assumption) ?_
          refine g_aloadn M_L_areAlike d_L_areAlike_294 (by first | rfl | assumption) ?_
          refine g_iload M_L_areAlike d_L_areAlike_295 (by first | rfl | assumption) ?_
          refine g_iload M_L_areAlike d_L_areAlike_297 (by first | rfl | assumption) ?_
          refine gc_SH M_L_areAlike (n * 6 + 6) (n * 36 + 36) [_, _, _] _ d_L_areAlike_299 cs_L_185 (by decide) (by rfl) (by rfl) (Nat.le_of_ble_eq_true (by rfl)) (Nat.le_of_ble_eq_true (by rfl)) (by decide) (by decide) (by omega) (by omega) (W_letter T8 pk (show j < (plN X.2.1 p).length by omega) (fun h9 T9 c9w => ?_))
          show gG _ _ _ _ _ _ _ _ _ _
          refine gc_S M_L_areAlike (n * 6 + 6) (n * 36 + 36) [_, _, _] _ d_L_areAlike_302 cs_L_101 (by rfl) (by rfl) (by rfl) (Nat.le_of_ble_eq_true (by rfl)) (Nat.le_of_ble_eq_true (by rfl)) (by decide) (by decide) (by omega) (by omega) (W_both T9 (show ((plN X.2.1 p).take j).length < 60 by rw [List.length_take]; omega) (show (mWs ((plN X.2.1 p).take j)).length = ((plN X.2.1 p).take j).length from mW_len) c9w (fun h10 T10 => ?_))
          show gG _ _ _ _ _ _ _ _ _ _
          refine g_if_eq M_L_areAlike (tgt := 312) d_L_areAlike_305 (by decide) (fun c9 => absurd c9 (by decide)) (fun _ => ?_)
          refine g_iconst M_L_areAlike (v := nI 1) d_L_areAlike_308 (by decide) ?_
          refine g_goto M_L_areAlike (tgt := 313) d_L_areAlike_309 (by decide) ?_
          refine g_istoren M_L_areAlike d_L_areAlike_313 (by decide) (gc_i H2) ?_
          refine g_iinc M_L_areAlike (v := nI (j + 1)) d_L_areAlike_314 H5 (by decide) (gc_i H4) (nI_add j 1) ?_
          refine g_goto M_L_areAlike (tgt := 255) d_L_areAlike_317 (by decide) ?_
          have T11 : tw h10 L L9 a9 v9 ((plN X.2.1 p).take (j + 1), X.2) (mWs ((plN X.2.1 p).take (j + 1)), Y.2) := by
            rw [← take_snoc (by omega), ← mW_one]
            exact T10
          exact ih9 (j + 1) h10 (by omega) T11 _ H0 H1 H2 rfl H4 rfl
      have inner1 : ∀ m j h5, j + m = (X.2.1.1.getD p []).length → tw h5 L L9 a9 v9 ([], X.2) ([], Y.2) → ∀ lv : List (Nat × Value), gl lv 0 = some (.ref (L 0 0)) → gl lv 1 = some (.ref (L9 0 0)) → gl lv 2 = some (.int (nI X.2.1.1.length)) → gl lv 3 = some (.int (nI 1)) → gl lv 4 = some (.int (nI p)) → gl lv 5 = some (.int (nI j)) → gG 10 400 (n * 6 + 6) (n * 36 + 36) M_L_areAlike 201 lv [] h5 Q := by
        intro m
        induction m with
        | zero =>
          intro j h5 hj T5 lv H0 H1 H2 H3 H4 H5
          refine g_iload M_L_areAlike d_L_areAlike_201 (by first | rfl | assumption) ?_
          refine g_aloadn M_L_areAlike d_L_areAlike_203 (by first | rfl | assumption) ?_
          refine g_iload M_L_areAlike d_L_areAlike_204 (by first | rfl | assumption) ?_
          refine gc_SH M_L_areAlike (n * 6 + 6) (n * 36 + 36) [_, _] _ d_L_areAlike_206 cs_L_172 (by decide) (by rfl) (by rfl) (Nat.le_of_ble_eq_true (by rfl)) (Nat.le_of_ble_eq_true (by rfl)) (by decide) (by decide) (by omega) (by omega) (W_letters T5 pk (fun h6 T6 => ?_))
          show gG _ _ _ _ _ _ _ _ _ _
          refine g_icmp_ge M_L_areAlike (tgt := 252) d_L_areAlike_209 (by decide) (fun _ => ?_) (fun c9 => absurd (nI_le (show (X.2.1.1.getD p []).length ≤ j by omega) (show j < 2 ^ 31 by omega)) c9)
          refine g_iconst M_L_areAlike (v := nI 0) d_L_areAlike_252 (by decide) ?_
          refine g_istore M_L_areAlike d_L_areAlike_253 (by decide) (gc_i H4) ?_
          exact inner2 (plN X.2.1 p).length 0 h6 (by omega) T6 _ H0 H1 H2 H3 H4 rfl
        | succ m ih9 =>
          intro j h5 hj T5 lv H0 H1 H2 H3 H4 H5
          refine g_iload M_L_areAlike d_L_areAlike_201 (by first | rfl | assumption) ?_
          refine g_aloadn M_L_areAlike d_L_areAlike_203 (by first | rfl | assumption) ?_
          refine g_iload M_L_areAlike d_L_areAlike_204 (by first | rfl | assumption) ?_
          refine gc_SH M_L_areAlike (n * 6 + 6) (n * 36 + 36) [_, _] _ d_L_areAlike_206 cs_L_172 (by decide) (by rfl) (by rfl) (Nat.le_of_ble_eq_true (by rfl)) (Nat.le_of_ble_eq_true (by rfl)) (by decide) (by decide) (by omega) (by omega) (W_letters T5 pk (fun h6 T6 => ?_))
          show gG _ _ _ _ _ _ _ _ _ _
          refine g_icmp_ge M_L_areAlike (tgt := 252) d_L_areAlike_209 (by decide) (fun c9 => absurd c9 (nI_ge (show j < (X.2.1.1.getD p []).length by omega) (show (X.2.1.1.getD p []).length < 2 ^ 31 by omega))) (fun _ => ?_)
          refine g_iloadn M_L_areAlike d_L_areAlike_212 (by first | rfl | assumption) ?_
          refine g_if_eq M_L_areAlike (tgt := 244) d_L_areAlike_213 (by decide) (fun c9 => absurd c9 (by decide)) (fun _ => ?_)
          refine g_aloadn M_L_areAlike d_L_areAlike_216 (by first | rfl | assumption) ?_
          refine g_iload M_L_areAlike d_L_areAlike_217 (by first | rfl | assumption) ?_
          refine g_iconst M_L_areAlike (v := nI 1) d_L_areAlike_219 (by decide) ?_
          refine g_iload M_L_areAlike d_L_areAlike_220 (by first | rfl | assumption) ?_
          refine gc_SH M_L_areAlike (n * 6 + 6) (n * 36 + 36) [_, _, _, _] _ d_L_areAlike_222 cs_L_181 (by decide) (by rfl) (by rfl) (Nat.le_of_ble_eq_true (by rfl)) (Nat.le_of_ble_eq_true (by rfl)) (by decide) (by decide) (by omega) (by omega) (W_counted1 T6 pk (show j < (X.2.1.1.getD p []).length by omega) (fun h7 T7 c7 => ?_))
          show gG _ _ _ _ _ _ _ _ _ _
          refine gc_S M_L_areAlike (n * 6 + 6) (n * 36 + 36) [_] _ d_L_areAlike_225 cs_L_92 (by rfl) (by rfl) (by rfl) (Nat.le_of_ble_eq_true (by rfl)) (Nat.le_of_ble_eq_true (by rfl)) (by decide) (by decide) (by omega) (by omega) (W_other c7 ?_)
          show gG _ _ _ _ _ _ _ _ _ _
          refine g_aloadn M_L_areAlike d_L_areAlike_228 (by first | rfl | assumption) ?_
          refine g_iload M_L_areAlike d_L_areAlike_229 (by first | rfl | assumption) ?_
          refine g_iconst M_L_areAlike (v := nI 1) d_L_areAlike_231 (by decide) ?_
          refine g_iload M_L_areAlike d_L_areAlike_232 (by first | rfl | assumption) ?_
          refine gc_SH M_L_areAlike (n * 6 + 6) (n * 36 + 36) [_, _, _, _] _ d_L_areAlike_234 cs_L_181 (by decide) (by rfl) (by rfl) (Nat.le_of_ble_eq_true (by rfl)) (Nat.le_of_ble_eq_true (by rfl)) (by decide) (by decide) (by omega) (by omega) (W_counted1 T7.sw (show p < Y.2.1.1.length by rw [rlN r]; exact pk) (show j < (Y.2.1.1.getD p []).length by rw [rlL r]; omega) (fun h8 T89 c8 => ?_))
          have T8 := T89.sw
          show gG _ _ _ _ _ _ _ _ _ _
          refine g_icmp_ne M_L_areAlike (tgt := 244) d_L_areAlike_237 (by decide) (fun c9 => False.elim (c9 (congrArg nI (show sg ((X.2.1.1.getD p []).getD j 0) = (Y.2.1.1.getD p []).getD j 0 by rw [rlW r]; exact mW_get.symm)))) (fun _ => ?_)
          refine g_iconst M_L_areAlike (v := nI 1) d_L_areAlike_240 (by decide) ?_
          refine g_goto M_L_areAlike (tgt := 245) d_L_areAlike_241 (by decide) ?_
          refine g_istoren M_L_areAlike d_L_areAlike_245 (by decide) (gc_i H2) ?_
          refine g_iinc M_L_areAlike (v := nI (j + 1)) d_L_areAlike_246 H5 (by decide) (gc_i H4) (nI_add j 1) ?_
          refine g_goto M_L_areAlike (tgt := 201) d_L_areAlike_249 (by decide) ?_
          exact ih9 (j + 1) h8 (by omega) T8 _ H0 H1 H2 rfl H4 rfl
      refine g_iload M_L_areAlike d_L_areAlike_99 (by first | rfl | assumption) ?_
      refine g_iloadn M_L_areAlike d_L_areAlike_101 (by first | rfl | assumption) ?_
      refine g_icmp_ge M_L_areAlike (tgt := 369) d_L_areAlike_102 (by decide) (fun c9 => absurd c9 (nI_ge (show p < X.2.1.1.length by omega) (by omega))) (fun _ => ?_)
      refine g_iloadn M_L_areAlike d_L_areAlike_105 (by first | rfl | assumption) ?_
      refine g_if_eq M_L_areAlike (tgt := 196) d_L_areAlike_106 (by decide) (fun c9 => absurd c9 (by decide)) (fun _ => ?_)
      refine g_aloadn M_L_areAlike d_L_areAlike_109 (by first | rfl | assumption) ?_
      refine g_iload M_L_areAlike d_L_areAlike_110 (by first | rfl | assumption) ?_
      refine gc_SH M_L_areAlike (n * 6 + 6) (n * 36 + 36) [_, _] _ d_L_areAlike_112 cs_L_172 (by decide) (by rfl) (by rfl) (Nat.le_of_ble_eq_true (by rfl)) (Nat.le_of_ble_eq_true (by rfl)) (by decide) (by decide) (by omega) (by omega) (W_letters T1 pk (fun h2 T2 => ?_))
      show gG _ _ _ _ _ _ _ _ _ _
      refine g_aloadn M_L_areAlike d_L_areAlike_115 (by first | rfl | assumption) ?_
      refine g_iload M_L_areAlike d_L_areAlike_116 (by first | rfl | assumption) ?_
      refine gc_SH M_L_areAlike (n * 6 + 6) (n * 36 + 36) [_, _] _ d_L_areAlike_118 cs_L_172 (by decide) (by rfl) (by rfl) (Nat.le_of_ble_eq_true (by rfl)) (Nat.le_of_ble_eq_true (by rfl)) (by decide) (by decide) (by omega) (by omega) (W_letters T2.sw (show p < Y.2.1.1.length by rw [rlN r]; exact pk) (fun h3 T39 => ?_))
      have T3 := T39.sw
      show gG _ _ _ _ _ _ _ _ _ _
      refine g_icmp_ne M_L_areAlike (tgt := 196) d_L_areAlike_121 (by decide) (fun c9 => False.elim (c9 (congrArg nI (rlL r).symm))) (fun _ => ?_)
      refine g_aloadn M_L_areAlike d_L_areAlike_124 (by first | rfl | assumption) ?_
      refine g_iload M_L_areAlike d_L_areAlike_125 (by first | rfl | assumption) ?_
      refine gc_SH M_L_areAlike (n * 6 + 6) (n * 36 + 36) [_, _] _ d_L_areAlike_127 cs_L_117 (by decide) (by rfl) (by rfl) (Nat.le_of_ble_eq_true (by rfl)) (Nat.le_of_ble_eq_true (by rfl)) (by decide) (by decide) (by omega) (by omega) (W_coins T3 pk (fun h4 T4 => ?_))
      show gG _ _ _ _ _ _ _ _ _ _
      refine g_aloadn M_L_areAlike d_L_areAlike_130 (by first | rfl | assumption) ?_
      refine g_iload M_L_areAlike d_L_areAlike_131 (by first | rfl | assumption) ?_
      refine gc_SH M_L_areAlike (n * 6 + 6) (n * 36 + 36) [_, _] _ d_L_areAlike_133 cs_L_117 (by decide) (by rfl) (by rfl) (Nat.le_of_ble_eq_true (by rfl)) (Nat.le_of_ble_eq_true (by rfl)) (by decide) (by decide) (by omega) (by omega) (W_coins T4.sw (show p < Y.2.1.1.length by rw [rlN r]; exact pk) (fun h5 T59 => ?_))
      have T5 := T59.sw
      show gG _ _ _ _ _ _ _ _ _ _
      refine g_icmp_ne M_L_areAlike (tgt := 196) d_L_areAlike_136 (by decide) (fun c9 => False.elim (c9 (congrArg nI (rlC r).symm))) (fun _ => ?_)
      refine g_aloadn M_L_areAlike d_L_areAlike_139 (by first | rfl | assumption) ?_
      refine g_iload M_L_areAlike d_L_areAlike_140 (by first | rfl | assumption) ?_
      refine gc_SH M_L_areAlike (n * 6 + 6) (n * 36 + 36) [_, _] _ d_L_areAlike_142 cs_L_175 (by decide) (by rfl) (by rfl) (Nat.le_of_ble_eq_true (by rfl)) (Nat.le_of_ble_eq_true (by rfl)) (by decide) (by decide) (by omega) (by omega) (W_isIrregular T5 pk (fun h6 T6 => ?_))
      show gG _ _ _ _ _ _ _ _ _ _
      refine g_aloadn M_L_areAlike d_L_areAlike_145 (by first | rfl | assumption) ?_
      refine g_iload M_L_areAlike d_L_areAlike_146 (by first | rfl | assumption) ?_
      refine gc_SH M_L_areAlike (n * 6 + 6) (n * 36 + 36) [_, _] _ d_L_areAlike_148 cs_L_175 (by decide) (by rfl) (by rfl) (Nat.le_of_ble_eq_true (by rfl)) (Nat.le_of_ble_eq_true (by rfl)) (by decide) (by decide) (by omega) (by omega) (W_isIrregular T6.sw (show p < Y.2.1.1.length by rw [rlN r]; exact pk) (fun h7 T79 => ?_))
      have T7 := T79.sw
      show gG _ _ _ _ _ _ _ _ _ _
      refine g_icmp_ne M_L_areAlike (tgt := 196) d_L_areAlike_151 (by decide) (fun c9 => False.elim (c9 (congrArg (fun o => bI (Option.isSome o)) (rlF r).symm))) (fun _ => ?_)
      refine g_aloadn M_L_areAlike d_L_areAlike_154 (by first | rfl | assumption) ?_
      refine g_iload M_L_areAlike d_L_areAlike_155 (by first | rfl | assumption) ?_
      refine gc_SH M_L_areAlike (n * 6 + 6) (n * 36 + 36) [_, _] _ d_L_areAlike_157 cs_L_177 (by decide) (by rfl) (by rfl) (Nat.le_of_ble_eq_true (by rfl)) (Nat.le_of_ble_eq_true (by rfl)) (by decide) (by decide) (by omega) (by omega) (W_dieFor T7 pk (fun h8 T8 => ?_))
      show gG _ _ _ _ _ _ _ _ _ _
      refine g_aloadn M_L_areAlike d_L_areAlike_160 (by first | rfl | assumption) ?_
      refine g_iload M_L_areAlike d_L_areAlike_161 (by first | rfl | assumption) ?_
      refine gc_SH M_L_areAlike (n * 6 + 6) (n * 36 + 36) [_, _] _ d_L_areAlike_163 cs_L_177 (by decide) (by rfl) (by rfl) (Nat.le_of_ble_eq_true (by rfl)) (Nat.le_of_ble_eq_true (by rfl)) (by decide) (by decide) (by omega) (by omega) (W_dieFor T8.sw (show p < Y.2.1.1.length by rw [rlN r]; exact pk) (fun h9 T99 => ?_))
      have T9 := T99.sw
      show gG _ _ _ _ _ _ _ _ _ _
      refine g_icmp_ne M_L_areAlike (tgt := 196) d_L_areAlike_166 (by decide) (fun c9 => False.elim (c9 (rlDf r).symm)) (fun _ => ?_)
      refine g_aloadn M_L_areAlike d_L_areAlike_169 (by first | rfl | assumption) ?_
      refine g_iload M_L_areAlike d_L_areAlike_170 (by first | rfl | assumption) ?_
      refine gc_SH M_L_areAlike (n * 6 + 6) (n * 36 + 36) [_, _] _ d_L_areAlike_172 cs_L_179 (by decide) (by rfl) (by rfl) (Nat.le_of_ble_eq_true (by rfl)) (Nat.le_of_ble_eq_true (by rfl)) (by decide) (by decide) (by omega) (by omega) (W_pluralLetters T9 pk (fun h10 T10 p9 => ?_))
      show gG _ _ _ _ _ _ _ _ _ _
      refine g_aloadn M_L_areAlike d_L_areAlike_175 (by first | rfl | assumption) ?_
      refine g_iload M_L_areAlike d_L_areAlike_176 (by first | rfl | assumption) ?_
      refine gc_SH M_L_areAlike (n * 6 + 6) (n * 36 + 36) [_, _] _ d_L_areAlike_178 cs_L_179 (by decide) (by rfl) (by rfl) (Nat.le_of_ble_eq_true (by rfl)) (Nat.le_of_ble_eq_true (by rfl)) (by decide) (by decide) (by omega) (by omega) (W_pluralLetters T10.sw (show p < Y.2.1.1.length by rw [rlN r]; exact pk) (fun h11 T119 p10 => ?_))
      have T11 := T119.sw
      show gG _ _ _ _ _ _ _ _ _ _
      refine g_icmp_ne M_L_areAlike (tgt := 196) d_L_areAlike_181 (by decide) (fun c9 => False.elim (c9 (congrArg nI (rlPl r).symm))) (fun _ => ?_)
      refine g_aloadn M_L_areAlike d_L_areAlike_184 (by first | rfl | assumption) ?_
      refine g_aloadn M_L_areAlike d_L_areAlike_185 (by first | rfl | assumption) ?_
      refine gc_S M_L_areAlike (n * 6 + 6) (n * 36 + 36) [_, _] _ d_L_areAlike_186 cs_L_142 (by rfl) (by rfl) (by rfl) (Nat.le_of_ble_eq_true (by rfl)) (Nat.le_of_ble_eq_true (by rfl)) (by decide) (by decide) (by omega) (by omega) (W_empty T11  (fun h12 T12 => ?_))
      show gG _ _ _ _ _ _ _ _ _ _
      refine g_if_eq M_L_areAlike (tgt := 196) d_L_areAlike_189 (by decide) (fun c9 => absurd c9 (by decide)) (fun _ => ?_)
      refine g_iconst M_L_areAlike (v := nI 1) d_L_areAlike_192 (by decide) ?_
      refine g_goto M_L_areAlike (tgt := 197) d_L_areAlike_193 (by decide) ?_
      refine g_istoren M_L_areAlike d_L_areAlike_197 (by decide) (gc_i H2) ?_
      refine g_iconst M_L_areAlike (v := nI 0) d_L_areAlike_198 (by decide) ?_
      refine g_istore M_L_areAlike d_L_areAlike_199 (by decide) (gc_i H4) ?_
      exact inner1 (X.2.1.1.getD p []).length 0 _ (by omega) T12 _ H0 H1 H2 rfl H4 rfl
  refine g_aloadn M_L_areAlike d_L_areAlike_0 (by first | rfl | assumption) ?_
  refine gc_V M_L_areAlike 120 720 [] _ d_L_areAlike_1 cv_L_108 T0.m0 (by rfl) (by rfl) (Nat.le_of_ble_eq_true (by rfl)) (Nat.le_of_ble_eq_true (by rfl)) (by decide) (by decide) (by omega) (by omega) (C_9_nouns T0.1 ?_)
  show gG _ _ _ _ _ _ _ _ _ _
  refine g_istoren M_L_areAlike d_L_areAlike_4 (by decide) (by first | rfl | (simp only [gc]; simp [*])) ?_
  refine g_iloadn M_L_areAlike d_L_areAlike_5 (by first | rfl | assumption) ?_
  refine g_aloadn M_L_areAlike d_L_areAlike_6 (by first | rfl | assumption) ?_
  refine gc_V M_L_areAlike 120 720 [] _ d_L_areAlike_7 cv_L_108 T0.sw.m0 (by rfl) (by rfl) (Nat.le_of_ble_eq_true (by rfl)) (Nat.le_of_ble_eq_true (by rfl)) (by decide) (by decide) (by omega) (by omega) (C_9_nouns T0.2.1 ?_)
  show gG _ _ _ _ _ _ _ _ _ _
  refine g_icmp_ne M_L_areAlike (tgt := 94) d_L_areAlike_10 (by decide) (fun c9 => False.elim (c9 (congrArg nI (rlN r).symm))) (fun _ => ?_)
  refine g_aloadn M_L_areAlike d_L_areAlike_13 (by first | rfl | assumption) ?_
  refine gc_V M_L_areAlike 120 720 [] _ d_L_areAlike_14 cv_L_163 T0.m0 (by rfl) (by rfl) (Nat.le_of_ble_eq_true (by rfl)) (Nat.le_of_ble_eq_true (by rfl)) (by decide) (by decide) (by omega) (by omega) (C_9_irregulars T0.1 ?_)
  show gG _ _ _ _ _ _ _ _ _ _
  refine g_aloadn M_L_areAlike d_L_areAlike_17 (by first | rfl | assumption) ?_
  refine gc_V M_L_areAlike 120 720 [] _ d_L_areAlike_18 cv_L_163 T0.sw.m0 (by rfl) (by rfl) (Nat.le_of_ble_eq_true (by rfl)) (Nat.le_of_ble_eq_true (by rfl)) (by decide) (by decide) (by omega) (by omega) (C_9_irregulars T0.2.1 ?_)
  show gG _ _ _ _ _ _ _ _ _ _
  refine g_icmp_ne M_L_areAlike (tgt := 94) d_L_areAlike_21 (by decide) (fun c9 => False.elim (c9 (congrArg nI (rlI r).symm))) (fun _ => ?_)
  refine g_aloadn M_L_areAlike d_L_areAlike_24 (by first | rfl | assumption) ?_
  refine gc_V M_L_areAlike 120 720 [] _ d_L_areAlike_25 cv_L_134 T0.m0 (by rfl) (by rfl) (Nat.le_of_ble_eq_true (by rfl)) (Nat.le_of_ble_eq_true (by rfl)) (by decide) (by decide) (by omega) (by omega) (C_9_dies T0.1 ?_)
  show gG _ _ _ _ _ _ _ _ _ _
  refine g_aloadn M_L_areAlike d_L_areAlike_28 (by first | rfl | assumption) ?_
  refine gc_V M_L_areAlike 120 720 [] _ d_L_areAlike_29 cv_L_134 T0.sw.m0 (by rfl) (by rfl) (Nat.le_of_ble_eq_true (by rfl)) (Nat.le_of_ble_eq_true (by rfl)) (by decide) (by decide) (by omega) (by omega) (C_9_dies T0.2.1 ?_)
  show gG _ _ _ _ _ _ _ _ _ _
  refine g_icmp_ne M_L_areAlike (tgt := 94) d_L_areAlike_32 (by decide) (fun c9 => False.elim (c9 (congrArg nI (rlD r).symm))) (fun _ => ?_)
  refine g_aloadn M_L_areAlike d_L_areAlike_35 (by first | rfl | assumption) ?_
  refine gc_V M_L_areAlike 120 720 [] _ d_L_areAlike_36 cv_L_123 T0.m0 (by rfl) (by rfl) (Nat.le_of_ble_eq_true (by rfl)) (Nat.le_of_ble_eq_true (by rfl)) (by decide) (by decide) (by omega) (by omega) (C_9_heaps T0.1 ?_)
  show gG _ _ _ _ _ _ _ _ _ _
  refine g_aloadn M_L_areAlike d_L_areAlike_39 (by first | rfl | assumption) ?_
  refine gc_V M_L_areAlike 120 720 [] _ d_L_areAlike_40 cv_L_123 T0.sw.m0 (by rfl) (by rfl) (Nat.le_of_ble_eq_true (by rfl)) (Nat.le_of_ble_eq_true (by rfl)) (by decide) (by decide) (by omega) (by omega) (C_9_heaps T0.2.1 ?_)
  show gG _ _ _ _ _ _ _ _ _ _
  refine g_icmp_ne M_L_areAlike (tgt := 94) d_L_areAlike_43 (by decide) (fun c9 => False.elim (c9 (congrArg nI (rlH r).symm))) (fun _ => ?_)
  refine g_aloadn M_L_areAlike d_L_areAlike_46 (by first | rfl | assumption) ?_
  refine gc_V M_L_areAlike 120 720 [] _ d_L_areAlike_47 cv_L_114 T0.m0 (by rfl) (by rfl) (Nat.le_of_ble_eq_true (by rfl)) (Nat.le_of_ble_eq_true (by rfl)) (by decide) (by decide) (by omega) (by omega) (C_9_staleCoins T0.1 (fun h1 a1 G1 => ?_))
  have T1 := T0.o a1 G1
  show gG _ _ _ _ _ _ _ _ _ _
  refine g_aloadn M_L_areAlike d_L_areAlike_50 (by first | rfl | assumption) ?_
  refine gc_V M_L_areAlike 120 720 [] _ d_L_areAlike_51 cv_L_114 T1.sw.m0 (by rfl) (by rfl) (Nat.le_of_ble_eq_true (by rfl)) (Nat.le_of_ble_eq_true (by rfl)) (by decide) (by decide) (by omega) (by omega) (C_9_staleCoins T1.2.1 (fun h2 a2 G2 => ?_))
  have T2 := (T1.sw.o a2 G2).sw
  show gG _ _ _ _ _ _ _ _ _ _
  refine g_icmp_ne M_L_areAlike (tgt := 94) d_L_areAlike_54 (by decide) (fun c9 => False.elim (c9 (congrArg nI (rlS r).symm))) (fun _ => ?_)
  refine g_aloadn M_L_areAlike d_L_areAlike_57 (by first | rfl | assumption) ?_
  refine gc_V M_L_areAlike 120 720 [] _ d_L_areAlike_58 cv_L_111 T2.m0 (by rfl) (by rfl) (Nat.le_of_ble_eq_true (by rfl)) (Nat.le_of_ble_eq_true (by rfl)) (by decide) (by decide) (by omega) (by omega) (C_9_coinsByHeaps T2.1 ?_)
  show gG _ _ _ _ _ _ _ _ _ _
  refine g_aloadn M_L_areAlike d_L_areAlike_61 (by first | rfl | assumption) ?_
  refine gc_V M_L_areAlike 120 720 [] _ d_L_areAlike_62 cv_L_126 T2.sw.m0 (by rfl) (by rfl) (Nat.le_of_ble_eq_true (by rfl)) (Nat.le_of_ble_eq_true (by rfl)) (by decide) (by decide) (by omega) (by omega) (C_9_coinsByAccounts T2.2.1 (by rw [rlAc r]; exact ca.1) ?_)
  show gG _ _ _ _ _ _ _ _ _ _
  refine g_icmp_ne M_L_areAlike (tgt := 94) d_L_areAlike_65 (by decide) (fun c9 => False.elim (c9 (congrArg nI (show sumH X.2.1.2.2.2.2.1 = Y.2.1.2.2.2.2.2.1 - Y.2.1.2.2.2.2.2.2 by rw [rlAc r]; exact ca.2.symm)))) (fun _ => ?_)
  refine g_aloadn M_L_areAlike d_L_areAlike_68 (by first | rfl | assumption) ?_
  refine gc_V M_L_areAlike 120 720 [] _ d_L_areAlike_69 cv_L_166 T2.m0 (by rfl) (by rfl) (Nat.le_of_ble_eq_true (by rfl)) (Nat.le_of_ble_eq_true (by rfl)) (by decide) (by decide) (by omega) (by omega) (C_9_ambiguous T2.1 (fun h3 a3 G3 => ?_))
  have T3 := T2.o a3 G3
  show gG _ _ _ _ _ _ _ _ _ _
  refine g_aloadn M_L_areAlike d_L_areAlike_72 (by first | rfl | assumption) ?_
  refine gc_V M_L_areAlike 120 720 [] _ d_L_areAlike_73 cv_L_166 T3.sw.m0 (by rfl) (by rfl) (Nat.le_of_ble_eq_true (by rfl)) (Nat.le_of_ble_eq_true (by rfl)) (by decide) (by decide) (by omega) (by omega) (C_9_ambiguous T3.2.1 (fun h4 a4 G4 => ?_))
  have T4 := (T3.sw.o a4 G4).sw
  show gG _ _ _ _ _ _ _ _ _ _
  refine g_icmp_ne M_L_areAlike (tgt := 94) d_L_areAlike_76 (by decide) (fun c9 => False.elim (c9 (congrArg nI (rlA r).symm))) (fun _ => ?_)
  refine g_aloadn M_L_areAlike d_L_areAlike_79 (by first | rfl | assumption) ?_
  refine gc_V M_L_areAlike 120 720 [] _ d_L_areAlike_80 cv_L_169 T4.m0 (by rfl) (by rfl) (Nat.le_of_ble_eq_true (by rfl)) (Nat.le_of_ble_eq_true (by rfl)) (by decide) (by decide) (by omega) (by omega) (C_9_recordedStates T4.1 ?_)
  show gG _ _ _ _ _ _ _ _ _ _
  refine g_aloadn M_L_areAlike d_L_areAlike_83 (by first | rfl | assumption) ?_
  refine gc_V M_L_areAlike 120 720 [] _ d_L_areAlike_84 cv_L_169 T4.sw.m0 (by rfl) (by rfl) (Nat.le_of_ble_eq_true (by rfl)) (Nat.le_of_ble_eq_true (by rfl)) (by decide) (by decide) (by omega) (by omega) (C_9_recordedStates T4.2.1 ?_)
  show gG _ _ _ _ _ _ _ _ _ _
  refine g_icmp_ne M_L_areAlike (tgt := 94) d_L_areAlike_87 (by decide) (fun c9 => False.elim (c9 (congrArg nI (rlR r).symm))) (fun _ => ?_)
  refine g_iconst M_L_areAlike (v := nI 1) d_L_areAlike_90 (by decide) ?_
  refine g_goto M_L_areAlike (tgt := 95) d_L_areAlike_91 (by decide) ?_
  refine g_istoren M_L_areAlike d_L_areAlike_95 (by decide) (by first | rfl | (simp only [gc]; simp [*])) ?_
  refine g_iconst M_L_areAlike (v := nI 0) d_L_areAlike_96 (by decide) ?_
  refine g_istore M_L_areAlike d_L_areAlike_97 (by decide) (by first | rfl | (simp only [gc]; simp [*])) ?_
  exact gG_room (Nat.le_refl _) (Nat.le_refl _) (by omega) (by omega) (loop X.2.1.1.length 0 _ _ _ (by omega) T4 _ rfl rfl rfl rfl rfl)
