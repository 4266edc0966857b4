/-! ===== the law's body from its entry ===== -/
theorem mtR.keep {h h' : Hp_} {S A : List Nat} {L : Nat → Nat → Nat} {b : Nat → Nat} {tx : List Nat} {now : Sl_} {snap : Option Sl_} {rc : List Sl_} (H : mtR h L b tx now snap rc) (e : gExt h h' S A) (n : ∀ i j, okL i j → L i j ∉ S) : mtR h' L b tx now snap rc := by
  obtain ⟨k1, k2, k3, ⟨s4, k4, k4'⟩, ⟨s5, k5⟩, k6, k7⟩ := H
  have z : ∀ j, j < 23 → L 0 j ∉ S := fun j hj => n 0 j (ok0 hj)
  have w : ∀ i j, 1 ≤ i → i ≤ 7 → j < 24 → L i j ∉ S := fun i j h1 h2 hj => n i j (okB h1 h2 hj)
  exact ⟨e.keep k1 (z 0 (by decide)), k2.keep e (z 1 (by decide)) (z 2 (by decide)) (z 3 (by decide)), k3.keep e (fun j hj => w 1 j (by decide) (by decide) hj), ⟨s4, k4.keep e (fun j hj => w 2 j (by decide) (by decide) hj), k4'⟩, ⟨s5, k5.keep e (fun j hj => w 3 j (by decide) (by decide) hj)⟩, k6.keep e (z 4 (by decide)) (z 5 (by decide)) (fun i j hi hj => w (4 + i) j (by omega) (by omega) hj), k7.keep e (fun j _ hj => z j hj)⟩
theorem ne_of_none {h : Hp_} {x y : Nat} (hx : h x ≠ none) (hy : h y = none) : x ≠ y := fun e => hx (by rw [e]; exact hy)
theorem lt4 {L : Nat} (h : L < 4) : nI L - nI 4 < nI 0 := by
  have h4 : L = 0 ∨ L = 1 ∨ L = 2 ∨ L = 3 := by omega
  rcases h4 with rfl | rfl | rfl | rfl <;> decide
theorem sw_case {v : Int32} (h : ¬ (v.toInt < 0 ∨ 32 < v.toInt)) : ∃ n, n < 33 ∧ v = nI n := by
  refine ⟨v.toInt.toNat, by omega, ?_⟩
  apply Int32.toInt_inj.mp
  unfold nI
  rw [Int32.toInt_ofNat_of_lt (by omega)]
  omega

set_option maxHeartbeats 4000000 in
set_option maxRecDepth 100000 in
theorem B_sw {L : Nat → Nat → Nat} {q : Nat → Nat} {b o : Nat} {f : Nat → Int32} {h : Hp_} {Q : Ot_ → Hp_ → Prop} (C : lawC h L q b o 4 f) (k : ∀ h', Q (.inl (some (.int 1))) h') : ∀ n, n < 33 → gG 9 330 2 12 M_L_law 39 (lvL b (L 0 0) (q 0) o) [.int (nI n)] h Q
  | 0, _ => g_tableIn M_L_law (tgt := 184) d_L_law_39 (by decide) (by decide) (by rfl) (by decide) (B_strike C k)
  | 1, _ => g_tableIn M_L_law (tgt := 252) d_L_law_39 (by decide) (by decide) (by rfl) (by decide) (B_melt C k)
  | 2, _ => g_tableIn M_L_law (tgt := 320) d_L_law_39 (by decide) (by decide) (by rfl) (by decide) (B_meltStale C k)
  | 3, _ => g_tableIn M_L_law (tgt := 333) d_L_law_39 (by decide) (by decide) (by rfl) (by decide) (B_dropDie C k)
  | 4, _ => g_tableIn M_L_law (tgt := 389) d_L_law_39 (by decide) (by decide) (by rfl) (by decide) (B_dropIrregular C k)
  | 5, _ => g_tableIn M_L_law (tgt := 433) d_L_law_39 (by decide) (by decide) (by rfl) (by decide) (B_type C k)
  | 6, _ => g_tableIn M_L_law (tgt := 491) d_L_law_39 (by decide) (by decide) (by rfl) (by decide) (B_clearText C k)
  | 7, _ => g_tableIn M_L_law (tgt := 504) d_L_law_39 (by decide) (by decide) (by rfl) (by decide) (B_textError C k)
  | 8, _ => g_tableIn M_L_law (tgt := 517) d_L_law_39 (by decide) (by decide) (by rfl) (by decide) (B_impossibleOrder C k)
  | 9, _ => g_tableIn M_L_law (tgt := 561) d_L_law_39 (by decide) (by decide) (by rfl) (by decide) (B_carryOut C k)
  | 10, _ => g_tableIn M_L_law (tgt := 605) d_L_law_39 (by decide) (by decide) (by rfl) (by decide) (B_undo C k)
  | 11, _ => g_tableIn M_L_law (tgt := 649) d_L_law_39 (by decide) (by decide) (by rfl) (by decide) (B_takeSnapshot C k)
  | 12, _ => g_tableIn M_L_law (tgt := 662) d_L_law_39 (by decide) (by decide) (by rfl) (by decide) (B_restoreSnapshot C k)
  | 13, _ => g_tableIn M_L_law (tgt := 706) d_L_law_39 (by decide) (by decide) (by rfl) (by decide) (B_nouns C k)
  | 14, _ => g_tableIn M_L_law (tgt := 719) d_L_law_39 (by decide) (by decide) (by rfl) (by decide) (B_lettersOf C k)
  | 15, _ => g_tableIn M_L_law (tgt := 775) d_L_law_39 (by decide) (by decide) (by rfl) (by decide) (B_pluralLetters C k)
  | 16, _ => g_tableIn M_L_law (tgt := 831) d_L_law_39 (by decide) (by decide) (by rfl) (by decide) (B_pluralLetter C k)
  | 17, _ => g_tableIn M_L_law (tgt := 899) d_L_law_39 (by decide) (by decide) (by rfl) (by decide) (B_countedLetter C k)
  | 18, _ => g_tableIn M_L_law (tgt := 979) d_L_law_39 (by decide) (by decide) (by rfl) (by decide) (B_isIrregular C k)
  | 19, _ => g_tableIn M_L_law (tgt := 1042) d_L_law_39 (by decide) (by decide) (by rfl) (by decide) (B_dieFor C k)
  | 20, _ => g_tableIn M_L_law (tgt := 1098) d_L_law_39 (by decide) (by decide) (by rfl) (by decide) (B_ambiguousNouns C k)
  | 21, _ => g_tableIn M_L_law (tgt := 1111) d_L_law_39 (by decide) (by decide) (by rfl) (by decide) (B_recallByStriking C k)
  | 22, _ => g_tableIn M_L_law (tgt := 1155) d_L_law_39 (by decide) (by decide) (by rfl) (by decide) (B_recallByReversing C k)
  | 23, _ => g_tableIn M_L_law (tgt := 1199) d_L_law_39 (by decide) (by decide) (by rfl) (by decide) (B_possibleNouns C k)
  | 24, _ => g_tableIn M_L_law (tgt := 1243) d_L_law_39 (by decide) (by decide) (by rfl) (by decide) (B_dies C k)
  | 25, _ => g_tableIn M_L_law (tgt := 1256) d_L_law_39 (by decide) (by decide) (by rfl) (by decide) (B_irregulars C k)
  | 26, _ => g_tableIn M_L_law (tgt := 1269) d_L_law_39 (by decide) (by decide) (by rfl) (by decide) (B_fitsOf C k)
  | 27, _ => g_tableIn M_L_law (tgt := 1325) d_L_law_39 (by decide) (by decide) (by rfl) (by decide) (B_coinsOf C k)
  | 28, _ => g_tableIn M_L_law (tgt := 1381) d_L_law_39 (by decide) (by decide) (by rfl) (by decide) (B_heaps C k)
  | 29, _ => g_tableIn M_L_law (tgt := 1394) d_L_law_39 (by decide) (by decide) (by rfl) (by decide) (B_staleCoins C k)
  | 30, _ => g_tableIn M_L_law (tgt := 1407) d_L_law_39 (by decide) (by decide) (by rfl) (by decide) (B_coinsByHeaps C k)
  | 31, _ => g_tableIn M_L_law (tgt := 1420) d_L_law_39 (by decide) (by decide) (by rfl) (by decide) (B_coinsByAccounts C k)
  | 32, _ => g_tableIn M_L_law (tgt := 1433) d_L_law_39 (by decide) (by decide) (by rfl) (by decide) (B_recordedStates C k)
  | n + 33, h => absurd h (by omega)
set_option maxHeartbeats 4000000 in
set_option maxRecDepth 100000 in
theorem B_calls {L : Nat → Nat → Nat} {q : Nat → Nat} {b o : Nat} {f : Nat → Int32} {h : Hp_} {Q : Ot_ → Hp_ → Prop} (C : lawC h L q b o 4 f) (k : ∀ h', Q (.inl (some (.int 1))) h') : gG 9 330 2 12 M_L_law 32 (lvL b (L 0 0) (q 0) o) [] h Q := by
  have sb := C.2.2.2.1
  refine g_aloadn M_L_law d_L_law_32 (by first | rfl | assumption) ?_
  refine g_iload M_L_law d_L_law_33 (by first | rfl | assumption) ?_
  refine g_iaload M_L_law d_L_law_35 sb (vp_in_nI (by decide) (by decide)) ?_
  refine g_bipush M_L_law (v := nI 63) d_L_law_36 (by decide) ?_
  refine g_iand M_L_law d_L_law_38 ?_
  by_cases z : (f (nI 0).toNatClampNeg &&& nI 63).toInt < 0 ∨ 32 < (f (nI 0).toNatClampNeg &&& nI 63).toInt
  · exact g_tableOut M_L_law (tgt := 1446) d_L_law_39 z (by decide) (E_end sb rfl rfl rfl (k _))
  · obtain ⟨n, hn, e⟩ := sw_case z
    rw [e]
    exact B_sw C k n hn
set_option maxHeartbeats 4000000 in
set_option maxRecDepth 100000 in
theorem B_law {b n : Nat} {f : Nat → Int32} {h : Hp_} {Q : Ot_ → Hp_ → Prop} (hn : n ≤ 4) (sb : h b = some (SCR_ n f)) (k : ∀ h', Q (.inl (some (.int 1))) h') : gG 9 330 209 21928 M_L_law 0 (lv_args 0 [.ref b]) [] h Q := by
  refine e_new M_L_law (kc' := 208) (ks' := 21916) (N := 12) d_L_law_0 nw_L_8 rfl (by decide) (by decide) (fun a h1 u1 e1 => ?_)
  have nba : b ≠ a := e1.fresh sb (List.mem_singleton.mpr rfl)
  have sb1 := e1.keep sb (by simp)
  refine g_dup M_L_law d_L_law_3 (by rfl) ?_
  refine gc_I M_L_law 14 12267 [] [.ref a] d_L_law_4 ci_L_82 (by rfl) (by rfl) (Nat.le_of_ble_eq_true (by rfl)) (Nat.le_of_ble_eq_true (by rfl)) (by decide) (by decide) (by decide) (by decide) (C_9_init u1 (fun L A2 h2 sL La LA e2 H2 => ?_))
  have sb2 := e2.keep sb1 (by simpa using nba)
  have nbL : ∀ i j, okL i j → b ≠ L i j := fun i j ok => by
    rcases LA i j ok with z | z
    · rw [z]; exact nba
    · exact e2.fresh sb1 z
  have inL : ∀ i j, okL i j → h2 (L i j) ≠ none := fun i j ok => by
    rcases LA i j ok with z | z
    · rw [z, ← La, H2.1]; exact fun y => by cases y
    · exact (e2.2.1 _ z).2
  show gG _ _ _ _ _ _ _ _ _ _
  refine g_astoren M_L_law d_L_law_7 (by decide) (by first | rfl | (simp only [gc]; simp [*])) ?_
  refine e_new M_L_law (kc' := 13) (ks' := 12247) (N := 20) d_L_law_8 nw_L_83 rfl (by decide) (by decide) (fun m h3 u3 e3 => ?_)
  have hm : h2 m = none := (e3.2.1 m (List.mem_singleton.mpr rfl)).1
  have sb3 := e3.keep sb2 (by simp)
  have H3 := H2.keep e3 (fun i j _ => by simp)
  have nbm : b ≠ m := e3.fresh sb2 (List.mem_singleton.mpr rfl)
  have inL3 : ∀ i j, okL i j → h3 (L i j) ≠ none := fun i j ok => e3.2.2.1 _ (inL i j ok)
  refine g_dup M_L_law d_L_law_11 (by rfl) ?_
  refine gc_I M_L_law 3 13 [] [.ref m] d_L_law_12 ci_L_85 (by rfl) (by rfl) (Nat.le_of_ble_eq_true (by rfl)) (Nat.le_of_ble_eq_true (by rfl)) (by decide) (by decide) (by decide) (by decide) (C_10_init u3 (fun q A4 h4 qm qA e4 Y4 => ?_))
  have sb4 := e4.keep sb3 (by simpa using nbm)
  have H4 := H3.keep e4 (fun i j ok => by simpa using ne_of_none (inL i j ok) hm)
  have inL4 : ∀ i j, okL i j → h4 (L i j) ≠ none := fun i j ok => e4.2.2.1 _ (inL3 i j ok)
  have nqL : ∀ k, k < 11 → ∀ i j, okL i j → q k ≠ L i j := fun k hk i j ok => by
    rcases Nat.eq_zero_or_pos k with z | z
    · rw [z, qm]; exact (ne_of_none (inL i j ok) hm).symm
    · exact (ne_of_none (inL3 i j ok) (e4.2.1 _ (qA k z hk)).1).symm
  have nbq : ∀ k, k < 11 → b ≠ q k := fun k hk => by
    rcases Nat.eq_zero_or_pos k with z | z
    · rw [z, qm]; exact nbm
    · exact e4.fresh sb3 (qA k z hk)
  have inq : ∀ k, k < 11 → h4 (q k) ≠ none := fun k hk => by
    rcases Nat.eq_zero_or_pos k with z | z
    · rw [z, Y4.2.1]; exact fun y => by cases y
    · exact (e4.2.1 _ (qA k z hk)).2
  show gG _ _ _ _ _ _ _ _ _ _
  refine g_astoren M_L_law d_L_law_15 (by decide) (by first | rfl | (simp only [gc]; simp [*])) ?_
  refine g_iconst M_L_law (v := nI 1) d_L_law_16 (by decide) ?_
  refine g_newarray M_L_law (kc' := 2) (ks' := 12) (N := 1) d_L_law_17 (by rfl) ak_long (Or.inr (Or.inr rfl)) (by decide) (by rw [nI_cl (by decide)]) (by decide) (by decide) (by decide) (fun o ho => ?_)
  have e5 : gExt h4 (gu h4 o (.inl (false, .long, gZ .long 1))) [] [o] := gExt.new ho
  have sb5 := e5.keep sb4 (by simp)
  have H5 := H4.keep e5 (fun i j _ => by simp)
  have Y5 := Y4.keep (fun j v _ hv => e5.keep hv (by simp))
  refine g_astoren M_L_law d_L_law_19 (by decide) (by first | rfl | (simp only [gc]; simp [*])) ?_
  refine g_iconst M_L_law (v := nI 0) d_L_law_20 (by decide) ?_
  refine g_istore M_L_law d_L_law_21 (by decide) (by first | rfl | (simp only [gc]; simp [*])) ?_
  refine g_iload M_L_law d_L_law_23 (by first | rfl | assumption) ?_
  refine g_aloadn M_L_law d_L_law_25 (by first | rfl | assumption) ?_
  refine g_alen M_L_law d_L_law_26 sb5 ?_
  refine g_iconst M_L_law (v := nI 4) d_L_law_27 (by decide) ?_
  refine g_isub M_L_law d_L_law_28 ?_
  refine g_icmp_gt M_L_law (tgt := 1452) d_L_law_29 (by decide) (fun _ => ?_) (fun c => ?_)
  · refine g_iconst M_L_law (v := nI 1) d_L_law_1452 (by decide) ?_
    exact g_iret M_L_law d_L_law_1453 rfl (by decide) (k _)
  · have h4n : n = 4 := by
      rcases Nat.lt_or_ge n 4 with z | z
      · exact absurd (lt4 z) c
      · omega
    subst h4n
    have C : lawC (gu h4 o (.inl (false, .long, gZ .long 1))) L q b o 4 f := ⟨sL, H5, Y5, sb5, ⟨_, gu_same⟩, fun i j ok => ⟨nbL i j ok, (ne_of_none (inL4 i j ok) ho).symm, fun k hk => nqL k hk i j ok⟩, fun k hk => ⟨nbq k hk, (ne_of_none (inq k hk) ho).symm⟩, fun z => by rw [← z, sb4] at ho; cases ho⟩
    have G := B_calls C k
    rw [La, qm] at G
    exact G
