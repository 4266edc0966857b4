/-! ===== the history, made ===== -/
def stB (h : Hp_) (B : List Nat) (v : Sl_) : Prop := B.length = 24 ∧ stR h (fun k => B.getD k 0) v
theorem getD_mem {B : List Nat} {k : Nat} (hk : k < B.length) : B.getD k 0 ∈ B := by
  rw [List.getD_eq_getElem?_getD, List.getElem?_eq_getElem hk]
  exact List.getElem_mem hk
theorem stB.keep {h h' : Hp_} {S A B : List Nat} {v : Sl_} (H : stB h B v) (e : gExt h h' S A) (hs : ∀ x ∈ B, x ∉ S) : stB h' B v := ⟨H.1, H.2.keep e (fun k hk => hs _ (getD_mem (by rw [H.1]; exact hk)))⟩
theorem stB.of {h : Hp_} {a : Nat} {A : List Nat} (hl : A.length = 23) (H : stA h (fun k => (a :: A).getD k 0) st0) : stB h (a :: A) N0_ := ⟨by simp [hl], H.toR⟩
set_option maxHeartbeats 4000000 in
set_option maxRecDepth 100000 in
theorem C_3_init {a : Nat} {h : Hp_} {Q : Ot_ → Hp_ → Prop} (h0 : h a = some (.inr (3, [.null, .int 0]))) (k : ∀ arr B1 B2 B3 B4 h' f, gExt h h' [a] ([arr] ++ (B1 ++ (B2 ++ (B3 ++ B4)))) → h' a = some (.inr (3, [.ref arr, .int 0])) → h' arr = some (.inl (false, .object "PluralMint$State", (4, .inr (.inr (.inr (.inr f)))))) → f 0 = some (B1.getD 0 0) → f 1 = some (B2.getD 0 0) → f 2 = some (B3.getD 0 0) → f 3 = some (B4.getD 0 0) → stB h' B1 N0_ → stB h' B2 N0_ → stB h' B3 N0_ → stB h' B4 N0_ → Q (.inl none) h') : gG 4 200 97 5040 M_3_init 0 (lv_args 0 [.ref a]) [] h Q := by
  refine g_aloadn M_3_init d_3_init_0 (by first | rfl | assumption) ?_
  refine g_objInit M_3_init d_3_init_1 oi_3_3 oi_i oi_c (Nat.le_of_ble_eq_true (by rfl)) (Nat.le_of_ble_eq_true (by rfl)) ?_
  refine g_aloadn M_3_init d_3_init_4 (by first | rfl | assumption) ?_
  refine g_iconst M_3_init (v := nI 4) d_3_init_5 (by decide) ?_
  refine e_newA M_3_init (kc' := 96) (ks' := 5036) (N := 4) d_3_init_6 aw_3_9 ao_6 (by decide) (by decide) (by decide) (by decide) (by decide) (fun arr g0 w0 e0 => ?_)
  refine e_putF M_3_init d_3_init_9 pf_3_11 rfl (e0.keep h0 (by simp)) (by rfl) (by rfl) (fun g1 v0 e1 => ?_)
  have na : arr ≠ a := e0.new_ne h0 (List.mem_singleton.mpr rfl)
  have w0 := e1.keep w0 (by simpa using na)
  refine g_iconst M_3_init (v := nI 0) d_3_init_12 (by decide) ?_
  refine g_istoren M_3_init d_3_init_13 (by decide) (by first | rfl | (simp only [gc]; simp [*])) ?_
  refine g_iloadn M_3_init d_3_init_14 (by first | rfl | assumption) ?_
  refine g_aloadn M_3_init d_3_init_15 (by first | rfl | assumption) ?_
  refine g_get M_3_init d_3_init_16 fl_3_11 (by assumption) (by rfl) ?_
  refine g_alen M_3_init d_3_init_19 (by assumption) ?_
  refine g_icmp_ge M_3_init (tgt := 42) d_3_init_20 (by decide) (fun c9 => absurd c9 (by decide)) (fun _ => ?_)
  refine g_aloadn M_3_init d_3_init_23 (by first | rfl | assumption) ?_
  refine g_get M_3_init d_3_init_24 fl_3_11 (by assumption) (by rfl) ?_
  refine g_iloadn M_3_init d_3_init_27 (by first | rfl | assumption) ?_
  refine e_new M_3_init (kc' := 95) (ks' := 5029) (N := 7) d_3_init_28 nw_3_9 rfl (by decide) (by decide) (fun q0 x0 u0 ea0 => ?_)
  have v0a := ea0.keep v0 (by simp)
  have w0a := ea0.keep w0 (by simp)
  refine g_dup M_3_init d_3_init_31 (by rfl) ?_
  refine gc_I M_3_init 72 3777 [] [.ref q0, .int (nI 0), .ref arr] d_3_init_32 ci_3_17 (by rfl) (by rfl) (Nat.le_of_ble_eq_true (by rfl)) (Nat.le_of_ble_eq_true (by rfl)) (by decide) (by decide) (by decide) (by decide) (C_6_init u0 (fun A0 y0 hl0 eb0 s0 => ?_))
  have v0b := eb0.keep v0a (by simpa using ea0.fresh v0 (List.mem_singleton.mpr rfl))
  have w0b := eb0.keep w0a (by simpa using ea0.fresh w0 (List.mem_singleton.mpr rfl))
  have b0 := stB.of hl0 s0
  show gG _ _ _ _ _ _ _ _ _ _
  refine e_aas M_3_init d_3_init_35 w0b s0.1 (by rfl) (by rfl) (vp_in_nI (by decide) (by decide)) (fun z0 w1 ec0 => ?_)
  rw [nI_cl (by decide)] at w1
  have v1 := ec0.keep v0b (by simpa using na.symm)
  refine g_iinc M_3_init (v := nI 1) d_3_init_36 (by rfl) (by decide) (by rfl) (by decide) ?_
  refine g_goto M_3_init (tgt := 14) d_3_init_39 (by decide) ?_
  refine g_iloadn M_3_init d_3_init_14 (by first | rfl | assumption) ?_
  refine g_aloadn M_3_init d_3_init_15 (by first | rfl | assumption) ?_
  refine g_get M_3_init d_3_init_16 fl_3_11 (by assumption) (by rfl) ?_
  refine g_alen M_3_init d_3_init_19 (by assumption) ?_
  refine g_icmp_ge M_3_init (tgt := 42) d_3_init_20 (by decide) (fun c9 => absurd c9 (by decide)) (fun _ => ?_)
  refine g_aloadn M_3_init d_3_init_23 (by first | rfl | assumption) ?_
  refine g_get M_3_init d_3_init_24 fl_3_11 (by assumption) (by rfl) ?_
  refine g_iloadn M_3_init d_3_init_27 (by first | rfl | assumption) ?_
  refine e_new M_3_init (kc' := 71) (ks' := 3770) (N := 7) d_3_init_28 nw_3_9 rfl (by decide) (by decide) (fun q1 x1 u1 ea1 => ?_)
  have v1a := ea1.keep v1 (by simp)
  have w1a := ea1.keep w1 (by simp)
  refine g_dup M_3_init d_3_init_31 (by rfl) ?_
  refine gc_I M_3_init 48 2518 [] [.ref q1, .int (nI 1), .ref arr] d_3_init_32 ci_3_17 (by rfl) (by rfl) (Nat.le_of_ble_eq_true (by rfl)) (Nat.le_of_ble_eq_true (by rfl)) (by decide) (by decide) (by decide) (by decide) (C_6_init u1 (fun A1 y1 hl1 eb1 s1 => ?_))
  have v1b := eb1.keep v1a (by simpa using ea1.fresh v1 (List.mem_singleton.mpr rfl))
  have w1b := eb1.keep w1a (by simpa using ea1.fresh w1 (List.mem_singleton.mpr rfl))
  have b1 := stB.of hl1 s1
  show gG _ _ _ _ _ _ _ _ _ _
  refine e_aas M_3_init d_3_init_35 w1b s1.1 (by rfl) (by rfl) (vp_in_nI (by decide) (by decide)) (fun z1 w2 ec1 => ?_)
  rw [nI_cl (by decide)] at w2
  have v2 := ec1.keep v1b (by simpa using na.symm)
  refine g_iinc M_3_init (v := nI 2) d_3_init_36 (by rfl) (by decide) (by rfl) (by decide) ?_
  refine g_goto M_3_init (tgt := 14) d_3_init_39 (by decide) ?_
  refine g_iloadn M_3_init d_3_init_14 (by first | rfl | assumption) ?_
  refine g_aloadn M_3_init d_3_init_15 (by first | rfl | assumption) ?_
  refine g_get M_3_init d_3_init_16 fl_3_11 (by assumption) (by rfl) ?_
  refine g_alen M_3_init d_3_init_19 (by assumption) ?_
  refine g_icmp_ge M_3_init (tgt := 42) d_3_init_20 (by decide) (fun c9 => absurd c9 (by decide)) (fun _ => ?_)
  refine g_aloadn M_3_init d_3_init_23 (by first | rfl | assumption) ?_
  refine g_get M_3_init d_3_init_24 fl_3_11 (by assumption) (by rfl) ?_
  refine g_iloadn M_3_init d_3_init_27 (by first | rfl | assumption) ?_
  refine e_new M_3_init (kc' := 47) (ks' := 2511) (N := 7) d_3_init_28 nw_3_9 rfl (by decide) (by decide) (fun q2 x2 u2 ea2 => ?_)
  have v2a := ea2.keep v2 (by simp)
  have w2a := ea2.keep w2 (by simp)
  refine g_dup M_3_init d_3_init_31 (by rfl) ?_
  refine gc_I M_3_init 24 1259 [] [.ref q2, .int (nI 2), .ref arr] d_3_init_32 ci_3_17 (by rfl) (by rfl) (Nat.le_of_ble_eq_true (by rfl)) (Nat.le_of_ble_eq_true (by rfl)) (by decide) (by decide) (by decide) (by decide) (C_6_init u2 (fun A2 y2 hl2 eb2 s2 => ?_))
  have v2b := eb2.keep v2a (by simpa using ea2.fresh v2 (List.mem_singleton.mpr rfl))
  have w2b := eb2.keep w2a (by simpa using ea2.fresh w2 (List.mem_singleton.mpr rfl))
  have b2 := stB.of hl2 s2
  show gG _ _ _ _ _ _ _ _ _ _
  refine e_aas M_3_init d_3_init_35 w2b s2.1 (by rfl) (by rfl) (vp_in_nI (by decide) (by decide)) (fun z2 w3 ec2 => ?_)
  rw [nI_cl (by decide)] at w3
  have v3 := ec2.keep v2b (by simpa using na.symm)
  refine g_iinc M_3_init (v := nI 3) d_3_init_36 (by rfl) (by decide) (by rfl) (by decide) ?_
  refine g_goto M_3_init (tgt := 14) d_3_init_39 (by decide) ?_
  refine g_iloadn M_3_init d_3_init_14 (by first | rfl | assumption) ?_
  refine g_aloadn M_3_init d_3_init_15 (by first | rfl | assumption) ?_
  refine g_get M_3_init d_3_init_16 fl_3_11 (by assumption) (by rfl) ?_
  refine g_alen M_3_init d_3_init_19 (by assumption) ?_
  refine g_icmp_ge M_3_init (tgt := 42) d_3_init_20 (by decide) (fun c9 => absurd c9 (by decide)) (fun _ => ?_)
  refine g_aloadn M_3_init d_3_init_23 (by first | rfl | assumption) ?_
  refine g_get M_3_init d_3_init_24 fl_3_11 (by assumption) (by rfl) ?_
  refine g_iloadn M_3_init d_3_init_27 (by first | rfl | assumption) ?_
  refine e_new M_3_init (kc' := 23) (ks' := 1252) (N := 7) d_3_init_28 nw_3_9 rfl (by decide) (by decide) (fun q3 x3 u3 ea3 => ?_)
  have v3a := ea3.keep v3 (by simp)
  have w3a := ea3.keep w3 (by simp)
  refine g_dup M_3_init d_3_init_31 (by rfl) ?_
  refine gc_I M_3_init 0 0 [] [.ref q3, .int (nI 3), .ref arr] d_3_init_32 ci_3_17 (by rfl) (by rfl) (Nat.le_of_ble_eq_true (by rfl)) (Nat.le_of_ble_eq_true (by rfl)) (by decide) (by decide) (by decide) (by decide) (C_6_init u3 (fun A3 y3 hl3 eb3 s3 => ?_))
  have v3b := eb3.keep v3a (by simpa using ea3.fresh v3 (List.mem_singleton.mpr rfl))
  have w3b := eb3.keep w3a (by simpa using ea3.fresh w3 (List.mem_singleton.mpr rfl))
  have b3 := stB.of hl3 s3
  show gG _ _ _ _ _ _ _ _ _ _
  refine e_aas M_3_init d_3_init_35 w3b s3.1 (by rfl) (by rfl) (vp_in_nI (by decide) (by decide)) (fun z3 w4 ec3 => ?_)
  rw [nI_cl (by decide)] at w4
  have v4 := ec3.keep v3b (by simpa using na.symm)
  refine g_iinc M_3_init (v := nI 4) d_3_init_36 (by rfl) (by decide) (by rfl) (by decide) ?_
  refine g_goto M_3_init (tgt := 14) d_3_init_39 (by decide) ?_
  refine g_iloadn M_3_init d_3_init_14 (by first | rfl | assumption) ?_
  refine g_aloadn M_3_init d_3_init_15 (by first | rfl | assumption) ?_
  refine g_get M_3_init d_3_init_16 fl_3_11 (by assumption) (by rfl) ?_
  refine g_alen M_3_init d_3_init_19 (by assumption) ?_
  refine g_icmp_ge M_3_init (tgt := 42) d_3_init_20 (by decide) (fun _ => ?_) (fun c9 => absurd (show nI 4 ≤ nI 4 by decide) c9)
  have r3 := ec3.weak (S' := [arr]) (fun x hx => hx)
  have r2 := (((ec2.weak (S' := [arr]) (fun x hx => hx)).trans ea3 (by simp)).trans eb3 (by simp)).trans r3 (by simp)
  have r1 := (((ec1.weak (S' := [arr]) (fun x hx => hx)).trans ea2 (by simp)).trans eb2 (by simp)).trans r2 (by simp)
  have r0 := (((ec0.weak (S' := [arr]) (fun x hx => hx)).trans ea1 (by simp)).trans eb1 (by simp)).trans r1 (by simp)
  have T := (((e0.weak (S' := [a]) (by simp)).trans e1 (by simp)).trans ea0 (by simp)).trans eb0 (by simp)
  have T2 := T.trans r0 (by simp)
  have nar : ∀ (i : Nat) (hx hy : Hp_) (S A : List Nat) (q : Nat), True := fun _ _ _ _ _ _ => trivial
  have nb0 : ∀ x ∈ q0 :: A0, x ∉ [arr] := by
    intro x hx
    rcases List.mem_cons.mp hx with rfl | hx
    · exact ea0.mem_ne w0 (List.mem_singleton.mpr rfl)
    · exact eb0.mem_ne w0a hx
  have nb1 : ∀ x ∈ q1 :: A1, x ∉ [arr] := by
    intro x hx
    rcases List.mem_cons.mp hx with rfl | hx
    · exact ea1.mem_ne w1 (List.mem_singleton.mpr rfl)
    · exact eb1.mem_ne w1a hx
  have nb2 : ∀ x ∈ q2 :: A2, x ∉ [arr] := by
    intro x hx
    rcases List.mem_cons.mp hx with rfl | hx
    · exact ea2.mem_ne w2 (List.mem_singleton.mpr rfl)
    · exact eb2.mem_ne w2a hx
  have nb3 : ∀ x ∈ q3 :: A3, x ∉ [arr] := by
    intro x hx
    rcases List.mem_cons.mp hx with rfl | hx
    · exact ea3.mem_ne w3 (List.mem_singleton.mpr rfl)
    · exact eb3.mem_ne w3a hx
  refine g_vret M_3_init d_3_init_42 rfl (k arr (q0 :: A0) (q1 :: A1) (q2 :: A2) (q3 :: A3) z3 _ (by simpa using T2) v4 w4 rfl rfl rfl rfl (b0.keep r0 nb0) (b1.keep r1 nb1) (b2.keep r2 nb2) (b3.keep r3 nb3))
