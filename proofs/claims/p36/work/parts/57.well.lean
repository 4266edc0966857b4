/-! ===== the law's isWell ===== -/
theorem okCo_acc {t : Nat} {v : Hn_} {a b : Nat} (h : okCo t v a b) : b ≤ a ∧ a - b = sumH v := by
  unfold okCo at h
  omega
theorem oriF_len {x : Sn_} {u : List Nat} : (oriF x u).length ≤ x.2.1.length + x.2.2.2.1.1.length := oriD_len
theorem ambF_le {ws : List (List Nat)} : ambF ws ≤ ws.length := List.countP_le_length
theorem dfN_neg {x : Sn_} {n : Nat} (h : x.2.2.2.1.1.length ≤ 12) (h0 : 0 < x.2.2.2.1.1.length) : (irF x n).isSome = true → dfN x n = -1 := by
  intro q
  unfold dfN
  cases e : irF x n with
  | none => rw [e] at q; cases q
  | some i => rfl
theorem dfN_pos {x : Sn_} {n : Nat} (h : x.2.2.2.1.1.length ≤ 12) (h0 : 0 < x.2.2.2.1.1.length) : (irF x n).isSome = false → ∃ d, d < 12 ∧ dfN x n = nI d := by
  intro q
  unfold dfN
  cases e : irF x n with
  | none => exact ⟨_, Nat.lt_of_lt_of_le (chD_lt h0) h, rfl⟩
  | some i => rw [e] at q; cases q
set_option maxHeartbeats 4000000 in
set_option maxRecDepth 100000 in
theorem W_isWell {L L9 : Nat → Nat → Nat} {a9 : Nat} {v9 : Ent_} {X Y : Mt_} {h : Hp_} {Q : Ot_ → Hp_ → Prop} {t : Nat} (T0 : tw h L L9 a9 v9 X Y) (hI : invS t X.2.1) (ht : t ≤ 60) (k : ∀ h' tx, tw h' L L9 a9 v9 (tx, X.2) Y → Q (.inl (some (.int (nI 1)))) h') : gG 9 370 120 720 M_L_isWell 0 (lv_args 0 [.ref (L 0 0)]) [] h Q := by
  have nl := T0.1.un.2.2.2.2.2.2.1.1
  have il := T0.1.un.2.2.2.2.2.2.2.1.1
  have el := T0.1.un.2.2.2.2.2.2.2.2.2.2.1.le
  have dl := T0.1.un.2.2.2.2.2.2.2.2.2.1.2.1.1
  have d0 := hI.2.2.1.1
  have ca := okCo_acc hI.2.2.2.2
  obtain ⟨b1, b2⟩ := bnd hI ht
  have am : ambF (plA X.2.1) ≤ 20 := Nat.le_trans ambF_le (by unfold plA; rw [List.length_map, List.length_range]; exact nl)
  have loop : ∀ n p tx h1, p + n = X.2.1.1.length → tw h1 L L9 a9 v9 (tx, X.2) Y → ∀ lv : List (Nat × Value), gl lv 0 = some (.ref (L 0 0)) → gl lv 1 = some (.int (nI (sumN X.2.1.2.2.2.2.1 p))) → gl lv 2 = some (.int (nI (regN X.2.1 p))) → gl lv 3 = some (.int (nI 1)) → gl lv 4 = some (.int (nI p)) → gG 9 370 (n * 6) (n * 36) M_L_isWell 63 lv [] h1 Q := by
    intro n
    induction n with
    | zero =>
      intro p tx h1 hp T1 lv H0 H1 H2 H3 H4
      have ep : p = X.2.1.1.length := by omega
      subst ep
      refine gG_room (Nat.le_refl _) (Nat.le_refl _) (Nat.zero_le _) (Nat.zero_le _) (fr' := 9) (lo' := 370) (kc' := 0) (ks' := 0) ?_
      refine g_iload M_L_isWell d_L_isWell_63 (by first | rfl | assumption) ?_
      refine g_aloadn M_L_isWell d_L_isWell_65 (by first | rfl | assumption) ?_
      refine gc_V M_L_isWell 0 0 [] _ d_L_isWell_66 cv_L_108 T1.m0 (by rfl) (by rfl) (Nat.le_of_ble_eq_true (by rfl)) (Nat.le_of_ble_eq_true (by rfl)) (by decide) (by decide) (by omega) (by omega) (C_9_nouns T1.1 ?_)
      show gG _ _ _ _ _ _ _ _ _ _
      try dsimp only
      refine g_icmp_ge M_L_isWell (tgt := 300) d_L_isWell_69 (by decide) (fun _ => ?_) (fun c9 => absurd (nI_le (Nat.le_refl _) (show X.2.1.1.length < 2 ^ 31 by omega)) c9)
      refine g_iloadn M_L_isWell d_L_isWell_300 (by first | rfl | assumption) ?_
      refine g_if_eq M_L_isWell (tgt := 351) d_L_isWell_301 (by decide) (fun c9 => absurd c9 (by decide)) (fun _ => ?_)
      refine g_iloadn M_L_isWell d_L_isWell_304 (by first | rfl | assumption) ?_
      refine g_aloadn M_L_isWell d_L_isWell_305 (by first | rfl | assumption) ?_
      refine gc_V M_L_isWell 0 0 [] _ d_L_isWell_306 cv_L_111 T1.m0 (by rfl) (by rfl) (Nat.le_of_ble_eq_true (by rfl)) (Nat.le_of_ble_eq_true (by rfl)) (by decide) (by decide) (by omega) (by omega) (C_9_coinsByHeaps T1.1 ?_)
      show gG _ _ _ _ _ _ _ _ _ _
      try dsimp only
      rw [sumN_all hI.2.2.2.1]
      refine g_icmp_ne M_L_isWell (tgt := 351) d_L_isWell_309 (by decide) (fun c9 => False.elim (c9 rfl)) (fun _ => ?_)
      refine g_aloadn M_L_isWell d_L_isWell_312 (by first | rfl | assumption) ?_
      refine g_iconst M_L_isWell (v := nI 0) d_L_isWell_313 (by decide) ?_
      refine gc_SH M_L_isWell 0 0 [_, _] _ d_L_isWell_314 cs_L_197 (by decide) (by rfl) (by rfl) (Nat.le_of_ble_eq_true (by rfl)) (Nat.le_of_ble_eq_true (by rfl)) (by decide) (by decide) (by omega) (by omega) (W_fitsOf T1 d0 (fun h2 T2 => ?_))
      show gG _ _ _ _ _ _ _ _ _ _
      try dsimp only
      rw [fit0 hI]
      refine g_aloadn M_L_isWell d_L_isWell_317 (by first | rfl | assumption) ?_
      refine gc_V M_L_isWell 0 0 [] _ d_L_isWell_318 cv_L_108 T2.m0 (by rfl) (by rfl) (Nat.le_of_ble_eq_true (by rfl)) (Nat.le_of_ble_eq_true (by rfl)) (by decide) (by decide) (by omega) (by omega) (C_9_nouns T2.1 ?_)
      show gG _ _ _ _ _ _ _ _ _ _
      try dsimp only
      refine g_icmp_ne M_L_isWell (tgt := 351) d_L_isWell_321 (by decide) (fun c9 => False.elim (c9 rfl)) (fun _ => ?_)
      refine g_aloadn M_L_isWell d_L_isWell_324 (by first | rfl | assumption) ?_
      refine gc_V M_L_isWell 0 0 [] _ d_L_isWell_325 cv_L_166 T2.m0 (by rfl) (by rfl) (Nat.le_of_ble_eq_true (by rfl)) (Nat.le_of_ble_eq_true (by rfl)) (by decide) (by decide) (by omega) (by omega) (C_9_ambiguous T2.1 (fun h3 a3 G3 => ?_))
      have T3 := T2.o a3 G3
      show gG _ _ _ _ _ _ _ _ _ _
      try dsimp only
      refine g_iconst M_L_isWell (v := nI 1) d_L_isWell_328 (by decide) ?_
      refine g_icmp_eq M_L_isWell (tgt := 351) d_L_isWell_329 (by decide) (fun c9 => absurd ((nI_eq (show ambF (plA X.2.1) < 2 ^ 31 by omega) (by decide)).mp c9) amb_ne) (fun _ => ?_)
      refine g_aloadn M_L_isWell d_L_isWell_332 (by first | rfl | assumption) ?_
      refine gc_V M_L_isWell 0 0 [] _ d_L_isWell_333 cv_L_163 T3.m0 (by rfl) (by rfl) (Nat.le_of_ble_eq_true (by rfl)) (Nat.le_of_ble_eq_true (by rfl)) (by decide) (by decide) (by omega) (by omega) (C_9_irregulars T3.1 ?_)
      show gG _ _ _ _ _ _ _ _ _ _
      try dsimp only
      by_cases ir : X.2.1.2.1.length = 0
      · rw [show List.length (X.2.1.2.1) = 0 from ir]
        refine g_if_gt M_L_isWell (tgt := 347) d_L_isWell_336 (by decide) (fun c9 => absurd c9 (by decide)) (fun _ => ?_)
        refine g_iloadn M_L_isWell d_L_isWell_339 (by first | rfl | assumption) ?_
        refine g_aloadn M_L_isWell d_L_isWell_340 (by first | rfl | assumption) ?_
        refine gc_V M_L_isWell 0 0 [] _ d_L_isWell_341 cv_L_108 T3.m0 (by rfl) (by rfl) (Nat.le_of_ble_eq_true (by rfl)) (Nat.le_of_ble_eq_true (by rfl)) (by decide) (by decide) (by omega) (by omega) (C_9_nouns T3.1 ?_)
        show gG _ _ _ _ _ _ _ _ _ _
        try dsimp only
        rw [regN_all ir]
        refine g_icmp_ne M_L_isWell (tgt := 351) d_L_isWell_344 (by decide) (fun c9 => False.elim (c9 rfl)) (fun _ => ?_)
        refine g_iconst M_L_isWell (v := nI 1) d_L_isWell_347 (by decide) ?_
        refine g_goto M_L_isWell (tgt := 352) d_L_isWell_348 (by decide) ?_
        exact g_iret M_L_isWell d_L_isWell_352 rfl rfl (k _ _ T3)
      refine g_if_gt M_L_isWell (tgt := 347) d_L_isWell_336 (by decide) (fun _ => ?_) (fun c9 => absurd (show nI 0 < nI X.2.1.2.1.length from nI_lt (by omega) (by omega)) c9)
      refine g_iconst M_L_isWell (v := nI 1) d_L_isWell_347 (by decide) ?_
      refine g_goto M_L_isWell (tgt := 352) d_L_isWell_348 (by decide) ?_
      exact g_iret M_L_isWell d_L_isWell_352 rfl rfl (k _ _ T3)
    | succ n ih =>
      intro p tx h1 hp T1 lv H0 H1 H2 H3 H4
      have pk : p < X.2.1.1.length := by omega
      have nb := hI.1 _ (getL_mem pk)
      have pp := pl_pos (n := p) hI
      refine gG_room (fr' := 9) (lo' := 370) (kc' := n * 6 + 6) (ks' := n * 36 + 36) (Nat.le_refl _) (Nat.le_refl _) (by omega) (by omega) ?_
      have fin : ∀ h6, tw h6 L L9 a9 v9 ((plN X.2.1 p), X.2) Y → ∀ lv : List (Nat × Value), gl lv 0 = some (.ref (L 0 0)) → gl lv 1 = some (.int (nI (sumN X.2.1.2.2.2.2.1 (p + 1)))) → gl lv 2 = some (.int (nI (regN X.2.1 (p + 1)))) → gl lv 3 = some (.int (nI 1)) → gl lv 4 = some (.int (nI p)) → gG 9 370 (n * 6 + 6) (n * 36 + 36) M_L_isWell 240 lv [] h6 Q := by
        intro h6 T6 lv H0 H1 H2 H3 H4
        refine g_iloadn M_L_isWell d_L_isWell_240 (by first | rfl | assumption) ?_
        refine g_if_eq M_L_isWell (tgt := 292) d_L_isWell_241 (by decide) (fun c9 => absurd c9 (by decide)) (fun _ => ?_)
        refine g_aloadn M_L_isWell d_L_isWell_244 (by first | rfl | assumption) ?_
        refine gc_SH M_L_isWell (n * 6 + 5) (n * 36 + 30) [_] _ d_L_isWell_245 cs_L_188 (by decide) (by rfl) (by rfl) (Nat.le_of_ble_eq_true (by rfl)) (Nat.le_of_ble_eq_true (by rfl)) (by decide) (by decide) (by omega) (by omega) (W_recall T6  (fun h7 T7 => ?_))
        show gG _ _ _ _ _ _ _ _ _ _
        try dsimp only
        refine g_aloadn M_L_isWell d_L_isWell_248 (by first | rfl | assumption) ?_
        refine gc_SH M_L_isWell (n * 6 + 4) (n * 36 + 24) [_] _ d_L_isWell_249 cs_L_191 (by decide) (by rfl) (by rfl) (Nat.le_of_ble_eq_true (by rfl)) (Nat.le_of_ble_eq_true (by rfl)) (by decide) (by decide) (by omega) (by omega) (W_reversed T7  (fun h8 T8 => ?_))
        show gG _ _ _ _ _ _ _ _ _ _
        try dsimp only
        rw [vRev_eq (X := ((plN X.2.1 p), X.2)) hI]
        refine g_icmp_ne M_L_isWell (tgt := 292) d_L_isWell_252 (by decide) (fun c9 => False.elim (c9 rfl)) (fun _ => ?_)
        refine g_aloadn M_L_isWell d_L_isWell_255 (by first | rfl | assumption) ?_
        refine gc_SH M_L_isWell (n * 6 + 3) (n * 36 + 18) [_] _ d_L_isWell_256 cs_L_188 (by decide) (by rfl) (by rfl) (Nat.le_of_ble_eq_true (by rfl)) (Nat.le_of_ble_eq_true (by rfl)) (by decide) (by decide) (by omega) (by omega) (W_recall T8  (fun h9 T9 => ?_))
        show gG _ _ _ _ _ _ _ _ _ _
        try dsimp only
        have vr : vRecall ((plN X.2.1 p), X.2) = if wdT (plN X.2.1 p) = true then oI (rsF X.2.1 (plN X.2.1 p)) else nI 90001 := rfl
        have vp : vPos ((plN X.2.1 p), X.2) = if wdT (plN X.2.1 p) = true then nI (oriF X.2.1 (plN X.2.1 p)).length else nI 90001 := rfl
        by_cases wd : wdT (plN X.2.1 p) = true
        · rw [if_pos wd] at vr vp
          obtain ⟨⟨i, ei, li⟩, fo⟩ := found_k hI pk
          rw [ei] at vr
          replace vr : vRecall (plN X.2.1 p, X.2) = nI i := vr
          rw [vr]
          refine g_ldc M_L_isWell d_L_isWell_259 ki_L_17 ?_
          refine g_icmp_eq M_L_isWell (tgt := 288) d_L_isWell_261 (by decide) (fun c9 => absurd ((nI_eq (by omega) (by decide)).mp c9) (by omega)) (fun _ => ?_)
          refine g_aloadn M_L_isWell d_L_isWell_264 (by first | rfl | assumption) ?_
          refine gc_SH M_L_isWell (n * 6 + 2) (n * 36 + 12) [_] _ d_L_isWell_265 cs_L_188 (by decide) (by rfl) (by rfl) (Nat.le_of_ble_eq_true (by rfl)) (Nat.le_of_ble_eq_true (by rfl)) (by decide) (by decide) (by omega) (by omega) (W_recall T9  (fun h10 T10 => ?_))
          show gG _ _ _ _ _ _ _ _ _ _
          try dsimp only
          rw [vr]
          refine g_if_lt M_L_isWell (tgt := 292) d_L_isWell_268 (by decide) (fun c9 => absurd c9 (nI_pos (by omega))) (fun _ => ?_)
          refine g_aloadn M_L_isWell d_L_isWell_271 (by first | rfl | assumption) ?_
          refine gc_SH M_L_isWell (n * 6 + 1) (n * 36 + 6) [_] _ d_L_isWell_272 cs_L_188 (by decide) (by rfl) (by rfl) (Nat.le_of_ble_eq_true (by rfl)) (Nat.le_of_ble_eq_true (by rfl)) (by decide) (by decide) (by omega) (by omega) (W_recall T10  (fun h11 T11 => ?_))
          show gG _ _ _ _ _ _ _ _ _ _
          try dsimp only
          rw [vr]
          refine g_iload M_L_isWell d_L_isWell_275 (by first | rfl | assumption) ?_
          refine g_icmp_gt M_L_isWell (tgt := 292) d_L_isWell_277 (by decide) (fun c9 => absurd c9 (nI_nlt li (by omega))) (fun _ => ?_)
          refine g_aloadn M_L_isWell d_L_isWell_280 (by first | rfl | assumption) ?_
          refine gc_SH M_L_isWell (n * 6 + 0) (n * 36 + 0) [_] _ d_L_isWell_281 cs_L_194 (by decide) (by rfl) (by rfl) (Nat.le_of_ble_eq_true (by rfl)) (Nat.le_of_ble_eq_true (by rfl)) (by decide) (by decide) (by omega) (by omega) (W_possible T11  (fun h12 T12 => ?_))
          show gG _ _ _ _ _ _ _ _ _ _
          try dsimp only
          rw [vp]
          refine g_iconst M_L_isWell (v := nI 1) d_L_isWell_284 (by decide) ?_
          refine g_icmp_lt M_L_isWell (tgt := 292) d_L_isWell_285 (by decide) (fun c9 => absurd c9 (nI_nlt fo (by have := oriF_len (x := X.2.1) (u := plN X.2.1 p); omega))) (fun _ => ?_)
          refine g_iconst M_L_isWell (v := nI 1) d_L_isWell_288 (by decide) ?_
          refine g_goto M_L_isWell (tgt := 293) d_L_isWell_289 (by decide) ?_
          refine g_istoren M_L_isWell d_L_isWell_293 (by decide) (gc_i H2) ?_
          refine g_iinc M_L_isWell (v := nI (p + 1)) d_L_isWell_294 H4 (by decide) (gc_i (x := nI 1) rfl) (nI_add p 1) ?_
          refine g_goto M_L_isWell (tgt := 63) d_L_isWell_297 (by decide) ?_
          exact ih (p + 1) _ h12 (by omega) T12 _ H0 H1 H2 rfl rfl
        rw [if_neg wd] at vr
        rw [vr]
        refine g_ldc M_L_isWell d_L_isWell_259 ki_L_17 ?_
        refine g_icmp_eq M_L_isWell (tgt := 288) d_L_isWell_261 (by decide) (fun _ => ?_) (fun c9 => absurd rfl c9)
        refine g_iconst M_L_isWell (v := nI 1) d_L_isWell_288 (by decide) ?_
        refine g_goto M_L_isWell (tgt := 293) d_L_isWell_289 (by decide) ?_
        refine g_istoren M_L_isWell d_L_isWell_293 (by decide) (gc_i H2) ?_
        refine g_iinc M_L_isWell (v := nI (p + 1)) d_L_isWell_294 H4 (by decide) (gc_i (x := nI 1) rfl) (nI_add p 1) ?_
        refine g_goto M_L_isWell (tgt := 63) d_L_isWell_297 (by decide) ?_
        exact gG_room (Nat.le_refl _) (Nat.le_refl _) (Nat.le_add_right _ _) (Nat.le_add_right _ _) (ih (p + 1) _ h9 (by omega) T9 _ H0 H1 H2 rfl rfl)
      have inner : ∀ m j h5, j + m = (plN X.2.1 p).length → tw h5 L L9 a9 v9 ((plN X.2.1 p).take j, X.2) Y → ∀ lv : List (Nat × Value), gl lv 0 = some (.ref (L 0 0)) → gl lv 1 = some (.int (nI (sumN X.2.1.2.2.2.2.1 (p + 1)))) → gl lv 2 = some (.int (nI (regN X.2.1 (p + 1)))) → gl lv 3 = some (.int (nI 1)) → gl lv 4 = some (.int (nI p)) → gl lv 5 = some (.int (nI j)) → gG 9 370 (n * 6 + 6) (n * 36 + 36) M_L_isWell 193 lv [] h5 Q := by
        intro m
        induction m with
        | zero =>
          intro j h5 hj T5 lv H0 H1 H2 H3 H4 H5
          refine g_iload M_L_isWell d_L_isWell_193 (by first | rfl | assumption) ?_
          refine g_aloadn M_L_isWell d_L_isWell_195 (by first | rfl | assumption) ?_
          refine g_iload M_L_isWell d_L_isWell_196 (by first | rfl | assumption) ?_
          refine gc_SH M_L_isWell (n * 6 + 6) (n * 36 + 36) [_, _] _ d_L_isWell_198 cs_L_179 (by decide) (by rfl) (by rfl) (Nat.le_of_ble_eq_true (by rfl)) (Nat.le_of_ble_eq_true (by rfl)) (by decide) (by decide) (by omega) (by omega) (W_pluralLetters T5 pk (fun h6 T6 p6 => ?_))
          show gG _ _ _ _ _ _ _ _ _ _
          try dsimp only
          refine g_icmp_ge M_L_isWell (tgt := 240) d_L_isWell_201 (by decide) (fun _ => ?_) (fun c9 => absurd (nI_le (by show (plN X.2.1 p).length ≤ j; omega) (show j < 2 ^ 31 by have : (plN X.2.1 p).length ≤ 16 := p6; omega)) c9)
          rw [List.take_of_length_le (by omega)] at T6
          exact fin h6 T6 _ H0 H1 H2 H3 H4
        | succ m ih9 =>
          intro j h5 hj T5 lv H0 H1 H2 H3 H4 H5
          refine g_iload M_L_isWell d_L_isWell_193 (by first | rfl | assumption) ?_
          refine g_aloadn M_L_isWell d_L_isWell_195 (by first | rfl | assumption) ?_
          refine g_iload M_L_isWell d_L_isWell_196 (by first | rfl | assumption) ?_
          refine gc_SH M_L_isWell (n * 6 + 6) (n * 36 + 36) [_, _] _ d_L_isWell_198 cs_L_179 (by decide) (by rfl) (by rfl) (Nat.le_of_ble_eq_true (by rfl)) (Nat.le_of_ble_eq_true (by rfl)) (by decide) (by decide) (by omega) (by omega) (W_pluralLetters T5 pk (fun h6 T6 p6 => ?_))
          show gG _ _ _ _ _ _ _ _ _ _
          try dsimp only
          refine g_icmp_ge M_L_isWell (tgt := 240) d_L_isWell_201 (by decide) (fun c9 => absurd c9 (nI_ge (by show j < (plN X.2.1 p).length; omega) (by show (plN X.2.1 p).length < 2 ^ 31; have : (plN X.2.1 p).length ≤ 16 := p6; omega))) (fun _ => ?_)
          refine g_iloadn M_L_isWell d_L_isWell_204 (by first | rfl | assumption) ?_
          refine g_if_eq M_L_isWell (tgt := 232) d_L_isWell_205 (by decide) (fun c9 => absurd c9 (by decide)) (fun _ => ?_)
          refine g_aloadn M_L_isWell d_L_isWell_208 (by first | rfl | assumption) ?_
          refine g_aloadn M_L_isWell d_L_isWell_209 (by first | rfl | assumption) ?_
          refine g_iload M_L_isWell d_L_isWell_210 (by first | rfl | assumption) ?_
          refine g_iconst M_L_isWell (v := nI 0) d_L_isWell_212 (by decide) ?_
          refine g_iload M_L_isWell d_L_isWell_213 (by first | rfl | assumption) ?_
          refine gc_SH M_L_isWell (n * 6 + 6) (n * 36 + 36) [_, _, _, _] _ d_L_isWell_215 cs_L_181 (by decide) (by rfl) (by rfl) (Nat.le_of_ble_eq_true (by rfl)) (Nat.le_of_ble_eq_true (by rfl)) (by decide) (by decide) (by omega) (by omega) (W_counted0 T6 pk (by show j < (plN X.2.1 p).length; omega) (fun h7 T7 c7 => ?_))
          show gG _ _ _ _ _ _ _ _ _ _
          try dsimp only
          refine gc_SH M_L_isWell (n * 6 + 6) (n * 36 + 36) [_, _] _ d_L_isWell_218 cs_L_87 (by decide) (by rfl) (by rfl) (Nat.le_of_ble_eq_true (by rfl)) (Nat.le_of_ble_eq_true (by rfl)) (by decide) (by decide) (by omega) (by omega) (W_type T7 (by show ((plN X.2.1 p).take j).length < 60; rw [List.length_take]; have : (plN X.2.1 p).length ≤ 16 := p6; omega) c7 (fun h8 T8 => ?_))
          show gG _ _ _ _ _ _ _ _ _ _
          try dsimp only
          refine g_iload M_L_isWell d_L_isWell_221 (by first | rfl | assumption) ?_
          refine g_iconst M_L_isWell (v := nI 1) d_L_isWell_223 (by decide) ?_
          refine g_iadd M_L_isWell d_L_isWell_224 ?_
          rw [nI_add, show ((plN X.2.1 p).take j).length = j by rw [List.length_take]; omega]
          refine g_icmp_ne M_L_isWell (tgt := 232) d_L_isWell_225 (by decide) (fun c9 => False.elim (c9 rfl)) (fun _ => ?_)
          refine g_iconst M_L_isWell (v := nI 1) d_L_isWell_228 (by decide) ?_
          refine g_goto M_L_isWell (tgt := 233) d_L_isWell_229 (by decide) ?_
          refine g_istoren M_L_isWell d_L_isWell_233 (by decide) (gc_i H2) ?_
          refine g_iinc M_L_isWell (v := nI (j + 1)) d_L_isWell_234 H5 (by decide) (gc_i H4) (nI_add j 1) ?_
          refine g_goto M_L_isWell (tgt := 193) d_L_isWell_237 (by decide) ?_
          exact ih9 (j + 1) h8 (by omega) (by rw [← take_snoc (by omega)]; exact T8) _ H0 H1 H2 rfl H4 rfl
      have go2 : ∀ h4, tw h4 L L9 a9 v9 (tx, X.2) Y → ∀ lv : List (Nat × Value), gl lv 0 = some (.ref (L 0 0)) → gl lv 1 = some (.int (nI (sumN X.2.1.2.2.2.2.1 (p + 1)))) → gl lv 2 = some (.int (nI (regN X.2.1 (p + 1)))) → gl lv 3 = some (.int (nI 1)) → gl lv 4 = some (.int (nI p)) → gG 9 370 (n * 6 + 6) (n * 36 + 36) M_L_isWell 135 lv [] h4 Q := by
        intro h4 T4 lv H0 H1 H2 H3 H4
        refine g_aloadn M_L_isWell d_L_isWell_135 (by first | rfl | assumption) ?_
        refine g_iload M_L_isWell d_L_isWell_136 (by first | rfl | assumption) ?_
        refine gc_SH M_L_isWell (n * 6 + 6) (n * 36 + 36) [_, _] _ d_L_isWell_138 cs_L_172 (by decide) (by rfl) (by rfl) (Nat.le_of_ble_eq_true (by rfl)) (Nat.le_of_ble_eq_true (by rfl)) (by decide) (by decide) (by omega) (by omega) (W_letters T4 pk (fun h5 T5 => ?_))
        show gG _ _ _ _ _ _ _ _ _ _
        try dsimp only
        refine g_iconst M_L_isWell (v := nI 1) d_L_isWell_141 (by decide) ?_
        refine g_icmp_lt M_L_isWell (tgt := 188) d_L_isWell_142 (by decide) (fun c9 => absurd c9 (nI_nlt nb.1 (show (X.2.1.1.getD p []).length < 2 ^ 31 by omega))) (fun _ => ?_)
        refine g_aloadn M_L_isWell d_L_isWell_145 (by first | rfl | assumption) ?_
        refine g_iload M_L_isWell d_L_isWell_146 (by first | rfl | assumption) ?_
        refine gc_SH M_L_isWell (n * 6 + 6) (n * 36 + 36) [_, _] _ d_L_isWell_148 cs_L_172 (by decide) (by rfl) (by rfl) (Nat.le_of_ble_eq_true (by rfl)) (Nat.le_of_ble_eq_true (by rfl)) (by decide) (by decide) (by omega) (by omega) (W_letters T5 pk (fun h6 T6 => ?_))
        show gG _ _ _ _ _ _ _ _ _ _
        try dsimp only
        refine g_bipush M_L_isWell (v := nI 12) d_L_isWell_151 (by decide) ?_
        refine g_icmp_gt M_L_isWell (tgt := 188) d_L_isWell_153 (by decide) (fun c9 => absurd (show nI 12 < nI _ from c9) (nI_nlt nb.2 (by omega))) (fun _ => ?_)
        refine g_aloadn M_L_isWell d_L_isWell_156 (by first | rfl | assumption) ?_
        refine g_iload M_L_isWell d_L_isWell_157 (by first | rfl | assumption) ?_
        refine gc_SH M_L_isWell (n * 6 + 6) (n * 36 + 36) [_, _] _ d_L_isWell_159 cs_L_179 (by decide) (by rfl) (by rfl) (Nat.le_of_ble_eq_true (by rfl)) (Nat.le_of_ble_eq_true (by rfl)) (by decide) (by decide) (by omega) (by omega) (W_pluralLetters T6 pk (fun h7 T7 p7 => ?_))
        show gG _ _ _ _ _ _ _ _ _ _
        try dsimp only
        refine g_iconst M_L_isWell (v := nI 1) d_L_isWell_162 (by decide) ?_
        refine g_icmp_lt M_L_isWell (tgt := 188) d_L_isWell_163 (by decide) (fun c9 => absurd c9 (nI_nlt pp (show (plN X.2.1 p).length < 2 ^ 31 by have : (plN X.2.1 p).length ≤ 16 := p7; omega))) (fun _ => ?_)
        refine g_aloadn M_L_isWell d_L_isWell_166 (by first | rfl | assumption) ?_
        refine g_iload M_L_isWell d_L_isWell_167 (by first | rfl | assumption) ?_
        refine gc_SH M_L_isWell (n * 6 + 6) (n * 36 + 36) [_, _] _ d_L_isWell_169 cs_L_179 (by decide) (by rfl) (by rfl) (Nat.le_of_ble_eq_true (by rfl)) (Nat.le_of_ble_eq_true (by rfl)) (by decide) (by decide) (by omega) (by omega) (W_pluralLetters T7 pk (fun h8 T8 p8 => ?_))
        show gG _ _ _ _ _ _ _ _ _ _
        try dsimp only
        refine g_bipush M_L_isWell (v := nI 16) d_L_isWell_172 (by decide) ?_
        refine g_icmp_gt M_L_isWell (tgt := 188) d_L_isWell_174 (by decide) (fun c9 => absurd (show nI 16 < nI _ from c9) (nI_nlt p8 (by omega))) (fun _ => ?_)
        refine g_aloadn M_L_isWell d_L_isWell_177 (by first | rfl | assumption) ?_
        refine gc_V M_L_isWell (n * 6 + 6) (n * 36 + 36) [] _ d_L_isWell_178 cv_L_105 T8.m0 (by rfl) (by rfl) (Nat.le_of_ble_eq_true (by rfl)) (Nat.le_of_ble_eq_true (by rfl)) (by decide) (by decide) (by omega) (by omega) (C_9_clearText T8.1 (fun h9 a9 G9 => ?_))
        have T9 := T8.o a9 G9
        show gG _ _ _ _ _ _ _ _ _ _
        try dsimp only
        refine g_if_lt M_L_isWell (tgt := 188) d_L_isWell_181 (by decide) (fun c9 => absurd c9 (nI_pos (show tx.length < 2 ^ 31 by have : tx.length ≤ 60 := T4.1.un.2.2.2.1.1.1; omega))) (fun _ => ?_)
        refine g_iconst M_L_isWell (v := nI 1) d_L_isWell_184 (by decide) ?_
        refine g_goto M_L_isWell (tgt := 189) d_L_isWell_185 (by decide) ?_
        refine g_istoren M_L_isWell d_L_isWell_189 (by decide) (by first | rfl | (simp only [gc]; simp [*])) ?_
        refine g_iconst M_L_isWell (v := nI 0) d_L_isWell_190 (by decide) ?_
        refine g_istore M_L_isWell d_L_isWell_191 (by decide) (gc_i H4) ?_
        exact inner (plN X.2.1 p).length 0 h9 (by omega) T9 _ H0 H1 H2 rfl H4 rfl
      refine g_iload M_L_isWell d_L_isWell_63 (by first | rfl | assumption) ?_
      refine g_aloadn M_L_isWell d_L_isWell_65 (by first | rfl | assumption) ?_
      refine gc_V M_L_isWell (n * 6 + 6) (n * 36 + 36) [] _ d_L_isWell_66 cv_L_108 T1.m0 (by rfl) (by rfl) (Nat.le_of_ble_eq_true (by rfl)) (Nat.le_of_ble_eq_true (by rfl)) (by decide) (by decide) (by omega) (by omega) (C_9_nouns T1.1 ?_)
      show gG _ _ _ _ _ _ _ _ _ _
      try dsimp only
      refine g_icmp_ge M_L_isWell (tgt := 300) d_L_isWell_69 (by decide) (fun c9 => absurd c9 (nI_ge (by show p < X.2.1.1.length; omega) (by omega))) (fun _ => ?_)
      refine g_iloadn M_L_isWell d_L_isWell_72 (by first | rfl | assumption) ?_
      refine g_aloadn M_L_isWell d_L_isWell_73 (by first | rfl | assumption) ?_
      refine g_iload M_L_isWell d_L_isWell_74 (by first | rfl | assumption) ?_
      refine gc_SH M_L_isWell (n * 6 + 6) (n * 36 + 36) [_, _] _ d_L_isWell_76 cs_L_117 (by decide) (by rfl) (by rfl) (Nat.le_of_ble_eq_true (by rfl)) (Nat.le_of_ble_eq_true (by rfl)) (by decide) (by decide) (by omega) (by omega) (W_coins0 T1 pk ?_)
      show gG _ _ _ _ _ _ _ _ _ _
      try dsimp only
      refine g_iadd M_L_isWell d_L_isWell_79 ?_
      rw [nI_add]
      refine g_istoren M_L_isWell d_L_isWell_80 (by decide) (by first | rfl | (simp only [gc]; simp [*])) ?_
      refine g_iloadn M_L_isWell d_L_isWell_81 (by first | rfl | assumption) ?_
      refine g_aloadn M_L_isWell d_L_isWell_82 (by first | rfl | assumption) ?_
      refine g_iload M_L_isWell d_L_isWell_83 (by first | rfl | assumption) ?_
      refine gc_SH M_L_isWell (n * 6 + 6) (n * 36 + 36) [_, _] _ d_L_isWell_85 cs_L_175 (by decide) (by rfl) (by rfl) (Nat.le_of_ble_eq_true (by rfl)) (Nat.le_of_ble_eq_true (by rfl)) (by decide) (by decide) (by omega) (by omega) (W_isIrregular T1 pk (fun h2 T2 => ?_))
      show gG _ _ _ _ _ _ _ _ _ _
      try dsimp only
      refine g_iconst M_L_isWell (v := nI 1) d_L_isWell_88 (by decide) ?_
      have rg : regN X.2.1 (p + 1) = regN X.2.1 p + if (irF X.2.1 p).isSome = true then 0 else 1 := rfl
      have go : ∀ lv : List (Nat × Value), gl lv 0 = some (.ref (L 0 0)) → gl lv 1 = some (.int (nI (sumN X.2.1.2.2.2.2.1 (p + 1)))) → gl lv 2 = some (.int (nI (regN X.2.1 (p + 1)))) → gl lv 3 = some (.int (nI 1)) → gl lv 4 = some (.int (nI p)) → gG 9 370 (n * 6 + 6) (n * 36 + 36) M_L_isWell 99 lv [] h2 Q := by
        intro lv H0 H1 H2 H3 H4
        refine g_iloadn M_L_isWell d_L_isWell_99 (by first | rfl | assumption) ?_
        refine g_if_eq M_L_isWell (tgt := 188) d_L_isWell_100 (by decide) (fun c9 => absurd c9 (by decide)) (fun _ => ?_)
        refine g_aloadn M_L_isWell d_L_isWell_103 (by first | rfl | assumption) ?_
        refine g_iload M_L_isWell d_L_isWell_104 (by first | rfl | assumption) ?_
        refine gc_SH M_L_isWell (n * 6 + 6) (n * 36 + 36) [_, _] _ d_L_isWell_106 cs_L_177 (by decide) (by rfl) (by rfl) (Nat.le_of_ble_eq_true (by rfl)) (Nat.le_of_ble_eq_true (by rfl)) (by decide) (by decide) (by omega) (by omega) (W_dieFor T2 pk (fun h3 T3 => ?_))
        show gG _ _ _ _ _ _ _ _ _ _
        try dsimp only
        cases ei : (irF X.2.1 p).isSome with
        | true =>
          rw [dfN_neg dl d0 ei]
          refine g_if_ge M_L_isWell (tgt := 116) d_L_isWell_109 (by decide) (fun c9 => absurd c9 (by decide)) (fun _ => ?_)
          refine g_iconst M_L_isWell (v := nI 1) d_L_isWell_112 (by decide) ?_
          refine g_goto M_L_isWell (tgt := 117) d_L_isWell_113 (by decide) ?_
          refine g_aloadn M_L_isWell d_L_isWell_117 (by first | rfl | assumption) ?_
          refine g_iload M_L_isWell d_L_isWell_118 (by first | rfl | assumption) ?_
          refine gc_SH M_L_isWell (n * 6 + 6) (n * 36 + 36) [_, _] _ d_L_isWell_120 cs_L_175 (by decide) (by rfl) (by rfl) (Nat.le_of_ble_eq_true (by rfl)) (Nat.le_of_ble_eq_true (by rfl)) (by decide) (by decide) (by omega) (by omega) (W_isIrregular T3 pk (fun h4 T4 => ?_))
          show gG _ _ _ _ _ _ _ _ _ _
          try dsimp only
          rw [show (irF (X.2.1) p).isSome = true from ei]
          refine g_iconst M_L_isWell (v := nI 1) d_L_isWell_123 (by decide) ?_
          refine g_icmp_ne M_L_isWell (tgt := 131) d_L_isWell_124 (by decide) (fun c9 => False.elim (c9 rfl)) (fun _ => ?_)
          refine g_iconst M_L_isWell (v := nI 1) d_L_isWell_127 (by decide) ?_
          refine g_goto M_L_isWell (tgt := 132) d_L_isWell_128 (by decide) ?_
          refine g_icmp_ne M_L_isWell (tgt := 188) d_L_isWell_132 (by decide) (fun c9 => False.elim (c9 rfl)) (fun _ => ?_)
          exact go2 h4 T4 _ H0 H1 H2 H3 H4
        | false =>
          obtain ⟨d9, hd9, ed9⟩ := dfN_pos (n := p) dl d0 ei
          rw [show dfN (X.2.1) p = nI d9 from ed9]
          refine g_if_ge M_L_isWell (tgt := 116) d_L_isWell_109 (by decide) (fun _ => ?_) (fun c9 => absurd (show nI 0 ≤ nI d9 from nI_le (Nat.zero_le _) (by omega)) c9)
          refine g_iconst M_L_isWell (v := nI 0) d_L_isWell_116 (by decide) ?_
          refine g_aloadn M_L_isWell d_L_isWell_117 (by first | rfl | assumption) ?_
          refine g_iload M_L_isWell d_L_isWell_118 (by first | rfl | assumption) ?_
          refine gc_SH M_L_isWell (n * 6 + 6) (n * 36 + 36) [_, _] _ d_L_isWell_120 cs_L_175 (by decide) (by rfl) (by rfl) (Nat.le_of_ble_eq_true (by rfl)) (Nat.le_of_ble_eq_true (by rfl)) (by decide) (by decide) (by omega) (by omega) (W_isIrregular T3 pk (fun h4 T4 => ?_))
          show gG _ _ _ _ _ _ _ _ _ _
          try dsimp only
          rw [show (irF (X.2.1) p).isSome = false from ei]
          refine g_iconst M_L_isWell (v := nI 1) d_L_isWell_123 (by decide) ?_
          refine g_icmp_ne M_L_isWell (tgt := 131) d_L_isWell_124 (by decide) (fun _ => ?_) (fun c9 => absurd c9 (by decide))
          refine g_iconst M_L_isWell (v := nI 0) d_L_isWell_131 (by decide) ?_
          refine g_icmp_ne M_L_isWell (tgt := 188) d_L_isWell_132 (by decide) (fun c9 => False.elim (c9 rfl)) (fun _ => ?_)
          exact go2 h4 T4 _ H0 H1 H2 H3 H4
      cases ei : (irF X.2.1 p).isSome with
      | true =>
        refine g_icmp_ne M_L_isWell (tgt := 96) d_L_isWell_89 (by decide) (fun c9 => False.elim (c9 (by decide))) (fun _ => ?_)
        refine g_iconst M_L_isWell (v := nI 0) d_L_isWell_92 (by decide) ?_
        refine g_goto M_L_isWell (tgt := 97) d_L_isWell_93 (by decide) ?_
        refine g_iadd M_L_isWell d_L_isWell_97 ?_
        rw [nI_add]
        refine g_istoren M_L_isWell d_L_isWell_98 (by decide) (gc_i (x := nI (sumN X.2.1.2.2.2.2.1 p + cW p X.2.1.2.2.2.2.1)) rfl) ?_
        exact go _ H0 rfl (by rw [rg, ei]; rfl) H3 H4
      | false =>
        refine g_icmp_ne M_L_isWell (tgt := 96) d_L_isWell_89 (by decide) (fun _ => ?_) (fun c9 => absurd c9 (by decide))
        refine g_iconst M_L_isWell (v := nI 1) d_L_isWell_96 (by decide) ?_
        refine g_iadd M_L_isWell d_L_isWell_97 ?_
        rw [nI_add]
        refine g_istoren M_L_isWell d_L_isWell_98 (by decide) (gc_i (x := nI (sumN X.2.1.2.2.2.2.1 p + cW p X.2.1.2.2.2.2.1)) rfl) ?_
        exact go _ H0 rfl (by rw [rg, ei]; rfl) H3 H4
  refine g_iconst M_L_isWell (v := nI 0) d_L_isWell_0 (by decide) ?_
  refine g_istoren M_L_isWell d_L_isWell_1 (by decide) (by first | rfl | (simp only [gc]; simp [*])) ?_
  refine g_iconst M_L_isWell (v := nI 0) d_L_isWell_2 (by decide) ?_
  refine g_istoren M_L_isWell d_L_isWell_3 (by decide) (by first | rfl | (simp only [gc]; simp [*])) ?_
  refine g_aloadn M_L_isWell d_L_isWell_4 (by first | rfl | assumption) ?_
  refine gc_V M_L_isWell 120 720 [] _ d_L_isWell_5 cv_L_111 T0.m0 (by rfl) (by rfl) (Nat.le_of_ble_eq_true (by rfl)) (Nat.le_of_ble_eq_true (by rfl)) (by decide) (by decide) (by omega) (by omega) (C_9_coinsByHeaps T0.1 ?_)
  show gG _ _ _ _ _ _ _ _ _ _
  try dsimp only
  refine g_aloadn M_L_isWell d_L_isWell_8 (by first | rfl | assumption) ?_
  refine gc_V M_L_isWell 120 720 [] _ d_L_isWell_9 cv_L_126 T0.m0 (by rfl) (by rfl) (Nat.le_of_ble_eq_true (by rfl)) (Nat.le_of_ble_eq_true (by rfl)) (by decide) (by decide) (by omega) (by omega) (C_9_coinsByAccounts T0.1 ca.1 ?_)
  show gG _ _ _ _ _ _ _ _ _ _
  try dsimp only
  rw [ca.2]
  refine g_icmp_ne M_L_isWell (tgt := 58) d_L_isWell_12 (by decide) (fun c9 => False.elim (c9 rfl)) (fun _ => ?_)
  refine g_aloadn M_L_isWell d_L_isWell_15 (by first | rfl | assumption) ?_
  refine gc_V M_L_isWell 120 720 [] _ d_L_isWell_16 cv_L_114 T0.m0 (by rfl) (by rfl) (Nat.le_of_ble_eq_true (by rfl)) (Nat.le_of_ble_eq_true (by rfl)) (by decide) (by decide) (by omega) (by omega) (C_9_staleCoins T0.1 (fun h1 a1 G1 => ?_))
  have T1 := T0.o a1 G1
  show gG _ _ _ _ _ _ _ _ _ _
  try dsimp only
  refine g_aloadn M_L_isWell d_L_isWell_19 (by first | rfl | assumption) ?_
  refine gc_V M_L_isWell 120 720 [] _ d_L_isWell_20 cv_L_111 T1.m0 (by rfl) (by rfl) (Nat.le_of_ble_eq_true (by rfl)) (Nat.le_of_ble_eq_true (by rfl)) (by decide) (by decide) (by omega) (by omega) (C_9_coinsByHeaps T1.1 ?_)
  show gG _ _ _ _ _ _ _ _ _ _
  try dsimp only
  refine g_icmp_gt M_L_isWell (tgt := 58) d_L_isWell_23 (by decide) (fun c9 => absurd c9 (nI_nlt sumF_le (by omega))) (fun _ => ?_)
  refine g_aloadn M_L_isWell d_L_isWell_26 (by first | rfl | assumption) ?_
  refine gc_V M_L_isWell 120 720 [] _ d_L_isWell_27 cv_L_123 T1.m0 (by rfl) (by rfl) (Nat.le_of_ble_eq_true (by rfl)) (Nat.le_of_ble_eq_true (by rfl)) (by decide) (by decide) (by omega) (by omega) (C_9_heaps T1.1 ?_)
  show gG _ _ _ _ _ _ _ _ _ _
  try dsimp only
  refine g_bipush M_L_isWell (v := nI 30) d_L_isWell_30 (by decide) ?_
  refine g_icmp_gt M_L_isWell (tgt := 58) d_L_isWell_32 (by decide) (fun c9 => absurd (show nI 30 < nI _ from c9) (nI_nlt el (by omega))) (fun _ => ?_)
  refine g_aloadn M_L_isWell d_L_isWell_35 (by first | rfl | assumption) ?_
  refine gc_V M_L_isWell 120 720 [] _ d_L_isWell_36 cv_L_123 T1.m0 (by rfl) (by rfl) (Nat.le_of_ble_eq_true (by rfl)) (Nat.le_of_ble_eq_true (by rfl)) (by decide) (by decide) (by omega) (by omega) (C_9_heaps T1.1 ?_)
  show gG _ _ _ _ _ _ _ _ _ _
  try dsimp only
  refine g_aloadn M_L_isWell d_L_isWell_39 (by first | rfl | assumption) ?_
  refine gc_V M_L_isWell 120 720 [] _ d_L_isWell_40 cv_L_111 T1.m0 (by rfl) (by rfl) (Nat.le_of_ble_eq_true (by rfl)) (Nat.le_of_ble_eq_true (by rfl)) (by decide) (by decide) (by omega) (by omega) (C_9_coinsByHeaps T1.1 ?_)
  show gG _ _ _ _ _ _ _ _ _ _
  try dsimp only
  refine g_icmp_gt M_L_isWell (tgt := 58) d_L_isWell_43 (by decide) (fun c9 => absurd c9 (nI_nlt (sumH_len hI.2.2.2.1) (by omega))) (fun _ => ?_)
  refine g_aloadn M_L_isWell d_L_isWell_46 (by first | rfl | assumption) ?_
  refine gc_V M_L_isWell 120 720 [] _ d_L_isWell_47 cv_L_134 T1.m0 (by rfl) (by rfl) (Nat.le_of_ble_eq_true (by rfl)) (Nat.le_of_ble_eq_true (by rfl)) (by decide) (by decide) (by omega) (by omega) (C_9_dies T1.1 ?_)
  show gG _ _ _ _ _ _ _ _ _ _
  try dsimp only
  refine g_iconst M_L_isWell (v := nI 1) d_L_isWell_50 (by decide) ?_
  refine g_icmp_lt M_L_isWell (tgt := 58) d_L_isWell_51 (by decide) (fun c9 => absurd c9 (nI_nlt d0 (by omega))) (fun _ => ?_)
  refine g_iconst M_L_isWell (v := nI 1) d_L_isWell_54 (by decide) ?_
  refine g_goto M_L_isWell (tgt := 59) d_L_isWell_55 (by decide) ?_
  refine g_istoren M_L_isWell d_L_isWell_59 (by decide) (by first | rfl | (simp only [gc]; simp [*])) ?_
  refine g_iconst M_L_isWell (v := nI 0) d_L_isWell_60 (by decide) ?_
  refine g_istore M_L_isWell d_L_isWell_61 (by decide) (by first | rfl | (simp only [gc]; simp [*])) ?_
  exact gG_room (Nat.le_refl _) (Nat.le_refl _) (by omega) (by omega) (loop X.2.1.1.length 0 _ h1 (by omega) T1 _ rfl rfl rfl rfl rfl)
