/-! ===== the law ===== -/
def M_L_law : Mi_ := (yL_law, cL_law, 5, some .boolean, [])
abbrev SCR_ (n : Nat) (f : Nat → Int32) : Ent_ := .inl (true, .int, (n, .inl f))
def S0_ : Sn_ := ([], [], [], ([[]], [[115]], [0]), [], 0, 0)
def X0_ : Mt_ := ([], S0_, none, [])
theorem okN0 : okN S0_ := ⟨fun y hy => (nomatch hy), by decide⟩
theorem mtN0 {h : Hp_} {L : Nat → Nat → Nat} (s : sepL L) (H : mtR h L id [] Nw_ none []) : mtN h L X0_ := ⟨s, id, H, okN0, fun z hz => (nomatch hz), fun z hz => (nomatch hz)⟩
theorem inv0 : invS 0 S0_ := by
  refine ⟨fun w hw => (nomatch hw), ⟨List.nodup_nil, rfl, fun w hw => (nomatch hw)⟩, ⟨by decide, rfl, rfl, rfl, rfl, fun w hw => ?_⟩, fun y hy => (nomatch hy), rfl, Nat.le_refl _⟩
  rw [List.mem_singleton.mp hw]
  exact fun e => (nomatch e)
theorem Rl0 : Rl 0 X0_ X0_ := ⟨rfl, inv0, fun z hz => (nomatch hz), fun z hz => (nomatch hz)⟩
set_option maxHeartbeats 4000000 in
set_option maxRecDepth 100000 in
theorem B_loop {L L9 : Nat → Nat → Nat} {b N : Nat} {f : Nat → Int32} {Q : Ot_ → Hp_ → Prop} (hN : N < 2 ^ 31) (k : ∀ h', Q (.inl (some (.int (nI 1)))) h') : ∀ n p h1 X Y, p + n = 60 → tw h1 L L9 b (SCR_ N f) X Y → Rl p X Y → ∀ lv : List (Nat × Value), gl lv 0 = some (.ref b) → gl lv 1 = some (.ref (L 0 0)) → gl lv 2 = some (.ref (L9 0 0)) → gl lv 3 = some (.int (nI 1)) → gl lv 4 = some (.int (nI p)) → gG 12 470 (n * 128 + 240) (n * 768 + 1440) M_L_law 21 lv [] h1 Q := by
    intro n
    induction n with
    | zero =>
      intro p h1 X Y hp T1 R lv H0 H1 H2 H3 H4
      refine gG_room (fr' := 12) (lo' := 470) (kc' := 240) (ks' := 1440) (Nat.le_refl _) (Nat.le_refl _) (by omega) (by omega) ?_
      refine g_iload M_L_law d_L_law_21 (by first | rfl | assumption) ?_
      refine g_bipush M_L_law (v := nI 60) d_L_law_23 (by decide) ?_
      refine g_icmp_ge M_L_law (tgt := 97) d_L_law_25 (by decide) (fun _ => ?_) (fun c9 => absurd (by rw [show p = 60 by omega]; decide) c9)
      refine g_iloadn M_L_law d_L_law_97 (by first | rfl | assumption) ?_
      refine g_if_eq M_L_law (tgt := 134) d_L_law_98 (by decide) (fun c9 => absurd c9 (by decide)) (fun _ => ?_)
      refine g_aloadn M_L_law d_L_law_101 (by first | rfl | assumption) ?_
      refine gc_S M_L_law 120 720 [_] _ d_L_law_102 cs_L_207 (by rfl) (by rfl) (by rfl) (Nat.le_of_ble_eq_true (by rfl)) (Nat.le_of_ble_eq_true (by rfl)) (by decide) (by decide) (by omega) (by omega) (W_isWell T1 R.2.1 (by omega) (fun h2 tx2 T2 => ?_))
      show gG _ _ _ _ _ _ _ _ _ _
      refine g_if_eq M_L_law (tgt := 134) d_L_law_105 (by decide) (fun c9 => absurd c9 (by decide)) (fun _ => ?_)
      refine g_aloadn M_L_law d_L_law_108 (by first | rfl | assumption) ?_
      refine gc_V M_L_law 120 720 [] _ d_L_law_109 cv_L_105 T2.m0 (by rfl) (by rfl) (Nat.le_of_ble_eq_true (by rfl)) (Nat.le_of_ble_eq_true (by rfl)) (by decide) (by decide) (by omega) (by omega) (C_9_clearText T2.1 (fun h3 a3 G3 => ?_))
      have T3 := T2.o a3 G3
      show gG _ _ _ _ _ _ _ _ _ _
      refine g_if_lt M_L_law (tgt := 134) d_L_law_112 (by decide) (fun c9 => absurd c9 (nI_pos (Nat.lt_of_le_of_lt (T2.1.un.2.2.2.1.1.1) (by decide)))) (fun _ => ?_)
      refine g_aloadn M_L_law d_L_law_115 (by first | rfl | assumption) ?_
      refine gc_V M_L_law 120 720 [] _ d_L_law_116 cv_L_105 T3.sw.m0 (by rfl) (by rfl) (Nat.le_of_ble_eq_true (by rfl)) (Nat.le_of_ble_eq_true (by rfl)) (by decide) (by decide) (by omega) (by omega) (C_9_clearText T3.2.1 (fun h4 a4 G4 => ?_))
      have T4 := (T3.sw.o a4 G4).sw
      show gG _ _ _ _ _ _ _ _ _ _
      refine g_if_lt M_L_law (tgt := 134) d_L_law_119 (by decide) (fun c9 => absurd c9 (nI_pos (Nat.lt_of_le_of_lt (T3.2.1.un.2.2.2.1.1.1) (by decide)))) (fun _ => ?_)
      refine g_aloadn M_L_law d_L_law_122 (by first | rfl | assumption) ?_
      refine g_aloadn M_L_law d_L_law_123 (by first | rfl | assumption) ?_
      refine gc_S M_L_law 0 0 [_, _] _ d_L_law_124 cs_L_211 (by rfl) (by rfl) (by rfl) (Nat.le_of_ble_eq_true (by rfl)) (Nat.le_of_ble_eq_true (by rfl)) (by decide) (by decide) (by omega) (by omega) (W_areAlike T4 (t := p) R (by omega) (fun h5 => ?_))
      show gG _ _ _ _ _ _ _ _ _ _
      refine g_if_eq M_L_law (tgt := 134) d_L_law_127 (by decide) (fun c9 => absurd c9 (by decide)) (fun _ => ?_)
      refine g_iconst M_L_law (v := nI 1) d_L_law_130 (by decide) ?_
      refine g_goto M_L_law (tgt := 135) d_L_law_131 (by decide) ?_
      exact g_iret M_L_law d_L_law_135 rfl rfl (k h5)
    | succ n ih =>
      intro p h1 X Y hp T1 R lv H0 H1 H2 H3 H4
      refine gG_room (fr' := 12) (lo' := 470) (kc' := n * 128 + 368) (ks' := n * 768 + 2208) (Nat.le_refl _) (Nat.le_refl _) (by omega) (by omega) ?_
      refine g_iload M_L_law d_L_law_21 (by first | rfl | assumption) ?_
      refine g_bipush M_L_law (v := nI 60) d_L_law_23 (by decide) ?_
      refine g_icmp_ge M_L_law (tgt := 97) d_L_law_25 (by decide) (fun c9 => absurd c9 (nI_ge (by omega) (by decide))) (fun _ => ?_)
      refine g_iloadn M_L_law d_L_law_28 (by first | rfl | assumption) ?_
      refine g_if_eq M_L_law (tgt := 97) d_L_law_29 (by decide) (fun c9 => absurd c9 (by decide)) (fun _ => ?_)
      refine g_aloadn M_L_law d_L_law_32 (by first | rfl | assumption) ?_
      refine g_aloadn M_L_law d_L_law_33 (by first | rfl | assumption) ?_
      refine g_aloadn M_L_law d_L_law_34 (by first | rfl | assumption) ?_
      refine g_iload M_L_law d_L_law_35 (by first | rfl | assumption) ?_
      refine gc_S M_L_law (n * 128 + 368) (n * 768 + 2208) [_, _] _ d_L_law_37 cs_L_200 (by rfl) (by rfl) (by rfl) (Nat.le_of_ble_eq_true (by rfl)) (Nat.le_of_ble_eq_true (by rfl)) (by decide) (by decide) (by omega) (by omega) (W_cell T1.2.2.2.2.1 hN (by omega) (fun x1 => ?_))
      show gG _ _ _ _ _ _ _ _ _ _
      refine g_aloadn M_L_law d_L_law_40 (by first | rfl | assumption) ?_
      refine g_iload M_L_law d_L_law_41 (by first | rfl | assumption) ?_
      refine g_iconst M_L_law (v := nI 1) d_L_law_43 (by decide) ?_
      refine g_iadd M_L_law d_L_law_44 ?_
      rw [nI_add]
      refine gc_S M_L_law (n * 128 + 368) (n * 768 + 2208) [_, _] _ d_L_law_45 cs_L_200 (by rfl) (by rfl) (by rfl) (Nat.le_of_ble_eq_true (by rfl)) (Nat.le_of_ble_eq_true (by rfl)) (by decide) (by decide) (by omega) (by omega) (W_cell T1.2.2.2.2.1 hN (by omega) (fun x2 => ?_))
      show gG _ _ _ _ _ _ _ _ _ _
      refine g_iconst M_L_law (v := nI 2) d_L_law_48 (by decide) ?_
      refine g_ishr M_L_law d_L_law_49 ?_
      refine gc_S M_L_law (n * 128 + 360) (n * 768 + 2160) [_, _, _, _] _ d_L_law_50 cs_L_204 (by rfl) (by rfl) (by rfl) (Nat.le_of_ble_eq_true (by rfl)) (Nat.le_of_ble_eq_true (by rfl)) (by decide) (by decide) (by omega) (by omega) (W_isStep T1 R (by omega) (fun h2 X2 Y2 T2 R2 => ?_))
      show gG _ _ _ _ _ _ _ _ _ _
      refine g_if_eq M_L_law (tgt := 89) d_L_law_53 (by decide) (fun c9 => absurd c9 (by decide)) (fun _ => ?_)
      refine g_iload M_L_law d_L_law_56 (by first | rfl | assumption) ?_
      refine g_bipush M_L_law (v := nI 6) d_L_law_58 (by decide) ?_
      refine g_irem M_L_law d_L_law_60 (nI_ne0 (by decide) (by decide)) ?_
      rw [pk_rem (by omega) (by decide) (by decide)]
      by_cases m6 : p % 6 = 0
      rotate_left
      · refine g_if_gt M_L_law (tgt := 85) d_L_law_61 (by decide) (fun _ => ?_) (fun c9 => absurd (show nI 0 < nI (p % 6) from nI_lt (by omega) (by omega)) c9)
        refine g_iconst M_L_law (v := nI 1) d_L_law_85 (by decide) ?_
        refine g_goto M_L_law (tgt := 90) d_L_law_86 (by decide) ?_
        refine g_istoren M_L_law d_L_law_90 (by decide) (gc_r H2) ?_
        refine g_iinc M_L_law (v := nI (p + 1)) d_L_law_91 H4 (by decide) (gc_i (x := nI 1) rfl) (nI_add p 1) ?_
        refine g_goto M_L_law (tgt := 21) d_L_law_94 (by decide) ?_
        exact gG_room (Nat.le_refl _) (Nat.le_refl _) (by omega) (by omega) (ih (p + 1) _ _ _ (by omega) T2 R2 _ H0 H1 H2 rfl rfl)
      rw [m6]
      refine g_if_gt M_L_law (tgt := 85) d_L_law_61 (by decide) (fun c9 => absurd c9 (by decide)) (fun _ => ?_)
      refine g_aloadn M_L_law d_L_law_64 (by first | rfl | assumption) ?_
      refine gc_S M_L_law (n * 128 + 240) (n * 768 + 1440) [_] _ d_L_law_65 cs_L_207 (by rfl) (by rfl) (by rfl) (Nat.le_of_ble_eq_true (by rfl)) (Nat.le_of_ble_eq_true (by rfl)) (by decide) (by decide) (by omega) (by omega) (W_isWell T2 R2.2.1 (by omega) (fun h3 tx3 T3 => ?_))
      show gG _ _ _ _ _ _ _ _ _ _
      refine g_if_eq M_L_law (tgt := 89) d_L_law_68 (by decide) (fun c9 => absurd c9 (by decide)) (fun _ => ?_)
      refine g_aloadn M_L_law d_L_law_71 (by first | rfl | assumption) ?_
      refine gc_V M_L_law (n * 128 + 240) (n * 768 + 1440) [] _ d_L_law_72 cv_L_105 T3.sw.m0 (by rfl) (by rfl) (Nat.le_of_ble_eq_true (by rfl)) (Nat.le_of_ble_eq_true (by rfl)) (by decide) (by decide) (by omega) (by omega) (C_9_clearText T3.2.1 (fun h4 a4 G4 => ?_))
      have T4 := (T3.sw.o a4 G4).sw
      show gG _ _ _ _ _ _ _ _ _ _
      refine g_if_lt M_L_law (tgt := 89) d_L_law_75 (by decide) (fun c9 => absurd c9 (nI_pos (Nat.lt_of_le_of_lt (T3.2.1.un.2.2.2.1.1.1) (by decide)))) (fun _ => ?_)
      refine g_aloadn M_L_law d_L_law_78 (by first | rfl | assumption) ?_
      refine gc_V M_L_law (n * 128 + 240) (n * 768 + 1440) [] _ d_L_law_79 cv_L_105 T4.m0 (by rfl) (by rfl) (Nat.le_of_ble_eq_true (by rfl)) (Nat.le_of_ble_eq_true (by rfl)) (by decide) (by decide) (by omega) (by omega) (C_9_clearText T4.1 (fun h5 a5 G5 => ?_))
      have T5 := T4.o a5 G5
      show gG _ _ _ _ _ _ _ _ _ _
      refine g_if_lt M_L_law (tgt := 89) d_L_law_82 (by decide) (fun c9 => absurd c9 (nI_pos (Nat.lt_of_le_of_lt (T4.1.un.2.2.2.1.1.1) (by decide)))) (fun _ => ?_)
      refine g_iconst M_L_law (v := nI 1) d_L_law_85 (by decide) ?_
      refine g_goto M_L_law (tgt := 90) d_L_law_86 (by decide) ?_
      refine g_istoren M_L_law d_L_law_90 (by decide) (gc_r H2) ?_
      refine g_iinc M_L_law (v := nI (p + 1)) d_L_law_91 H4 (by decide) (gc_i (x := nI 1) rfl) (nI_add p 1) ?_
      refine g_goto M_L_law (tgt := 21) d_L_law_94 (by decide) ?_
      exact gG_room (Nat.le_refl _) (Nat.le_refl _) (by omega) (by omega) (ih (p + 1) _ _ _ (by omega) T5 R2 _ H0 H1 H2 rfl rfl)
set_option maxHeartbeats 4000000 in
set_option maxRecDepth 100000 in
theorem B_law {b N : Nat} {f : Nat → Int32} {h : Hp_} {Q : Ot_ → Hp_ → Prop} (hN : N < 2 ^ 31) (sb : h b = some (SCR_ N f)) (k : ∀ h', Q (.inl (some (.int (nI 1)))) h') : gG 12 470 8310 66842 M_L_law 0 (lv_args 0 [.ref b]) [] h Q := by
  refine e_new M_L_law (kc' := 8309) (ks' := 66830) (N := 12) d_L_law_0 nw_L_10 rfl (by decide) (by decide) (fun a h1 u1 e1 => ?_)
  have nba : b ≠ a := e1.fresh sb (List.mem_singleton.mpr rfl)
  have sb1 := e1.keep sb (by simp)
  refine g_dup M_L_law d_L_law_3 (by rfl) ?_
  refine gc_I M_L_law 8115 57181 [] [.ref a] d_L_law_4 ci_L_199 (by rfl) (by rfl) (Nat.le_of_ble_eq_true (by rfl)) (Nat.le_of_ble_eq_true (by rfl)) (by decide) (by decide) (by decide) (by decide) (C_9_init u1 (fun L A2 h2 sL La LA e2 H2 => ?_))
  have sb2 := e2.keep sb1 (by simpa using nba)
  have nbL : ∀ i j, okL i j → b ≠ L i j := fun i j ok => by
    rcases LA i j ok with z | z
    · rw [z]; exact nba
    · exact e2.fresh sb1 z
  have inL : ∀ i j, okL i j → h2 (L i j) ≠ none := fun i j ok => by
    rcases LA i j ok with z | z
    · rw [z, ← La, H2.1]; exact fun y => by cases y
    · exact (e2.2.1 _ z).2
  show gG _ _ _ _ _ _ _ _ _ _
  refine g_astoren M_L_law d_L_law_7 (by decide) (by first | rfl | (simp only [gc]; simp [*])) ?_
  refine e_new M_L_law (kc' := 8114) (ks' := 57169) (N := 12) d_L_law_8 nw_L_10 rfl (by decide) (by decide) (fun m h3 u3 e3 => ?_)
  have hm : h2 m = none := (e3.2.1 m (List.mem_singleton.mpr rfl)).1
  have nbm : b ≠ m := e3.fresh sb2 (List.mem_singleton.mpr rfl)
  have sb3 := e3.keep sb2 (by simp)
  have H3 := H2.keep e3 (fun i j ok => by simp)
  have nLm : ∀ i j, okL i j → L i j ≠ m := fun i j ok q => inL i j ok (by rw [q]; exact hm)
  refine g_dup M_L_law d_L_law_11 (by rfl) ?_
  refine gc_I M_L_law 7920 47520 [] [.ref m] d_L_law_12 ci_L_199 (by rfl) (by rfl) (Nat.le_of_ble_eq_true (by rfl)) (Nat.le_of_ble_eq_true (by rfl)) (by decide) (by decide) (by decide) (by decide) (C_9_init u3 (fun L9 A4 h4 sL9 L9m LA9 e4 H4 => ?_))
  have sb4 := e4.keep sb3 (by simpa using nbm)
  have H5 := H3.keep e4 (fun i j ok q => nLm i j ok (List.mem_singleton.mp q))
  have in3 : ∀ i j, okL i j → h3 (L i j) ≠ none := fun i j ok => e3.2.2.1 _ (inL i j ok)
  have dis : disL L L9 := fun i j i' j' ok ok' q => by
    rcases LA9 i' j' ok' with z | z
    · exact nLm i j ok (q.trans z)
    · exact in3 i j ok (by rw [q]; exact (e4.2.1 _ z).1)
  have nbL9 : ∀ i j, okL i j → b ≠ L9 i j := fun i j ok => by
    rcases LA9 i j ok with z | z
    · rw [z]; exact nbm
    · exact e4.fresh sb3 z
  have T : tw h4 L L9 b (SCR_ N f) X0_ X0_ := ⟨mtN0 sL H5, mtN0 sL9 H4, dis, fun i j i' j' ok ok' q => dis i' j' i j ok' ok q.symm, sb4, fun q => by
    obtain ⟨i, j, ok, z⟩ := aL_of q
    exact nbL i j ok z, fun q => by
    obtain ⟨i, j, ok, z⟩ := aL_of q
    exact nbL9 i j ok z⟩
  show gG _ _ _ _ _ _ _ _ _ _
  refine g_astoren M_L_law d_L_law_15 (by decide) (by first | rfl | (simp only [gc]; simp [*])) ?_
  refine g_iconst M_L_law (v := nI 1) d_L_law_16 (by decide) ?_
  refine g_istoren M_L_law d_L_law_17 (by decide) (by first | rfl | (simp only [gc]; simp [*])) ?_
  refine g_iconst M_L_law (v := nI 0) d_L_law_18 (by decide) ?_
  refine g_istore M_L_law d_L_law_19 (by decide) (by first | rfl | (simp only [gc]; simp [*])) ?_
  exact B_loop hN k 60 0 h4 X0_ X0_ rfl T Rl0 _ rfl (by rw [La]; rfl) (by rw [L9m]; rfl) rfl rfl
