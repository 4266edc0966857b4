/-! ===== history: give back ===== -/
set_option maxHeartbeats 4000000 in
set_option maxRecDepth 100000 in
theorem C_3_giveBack {L : Nat → Nat → Nat} {b : Nat → Nat} {rc : List Sl_} {now z9 : Sl_} {h : Hp_} {Q : Ot_ → Hp_ → Prop} (s : sepL L) (H : hiR h L b (rc ++ [z9])) (N : stR h (L 1) now) (k : ∀ h', gExt h h' ((List.range 24).map (L 1) ++ [L 0 4]) [] → hiR h' L b rc → stR h' (L 1) z9 → Q (.inl none) h') : gG 5 220 0 0 M_3_giveBack 0 (lv_args 0 [.ref (L 0 4), .ref (L 1 0)]) [] h Q := by
  obtain ⟨rl, q0, hb, hinj, f, q1, q2⟩ := id H
  have ll : (rc ++ [z9]).length = rc.length + 1 := by rw [List.length_append]; rfl
  rw [ll] at rl q0
  obtain ⟨f0, zs, Z, vz⟩ := q2 rc.length (by omega)
  have bp := hb rc.length (by omega)
  have ez : zs = z9 := by
    rw [vz (by omega), List.getD_eq_getElem?_getD, List.getElem?_append_right (Nat.le_refl _), Nat.sub_self]
    rfl
  subst ez
  refine g_aloadn M_3_giveBack d_3_giveBack_0 (by first | rfl | assumption) ?_
  refine g_get M_3_giveBack d_3_giveBack_1 fl_3_18 (by assumption) (by rfl) ?_
  refine g_iconst M_3_giveBack (v := nI 1) d_3_giveBack_4 (by decide) ?_
  refine g_isub M_3_giveBack d_3_giveBack_5 ?_
  rw [nI_sub (by omega), show rc.length + 1 - 1 = rc.length from rfl]
  refine g_istoren M_3_giveBack d_3_giveBack_6 (by decide) (by first | rfl | (simp only [gc]; simp [*])) ?_
  refine g_iloadn M_3_giveBack d_3_giveBack_7 (by first | rfl | assumption) ?_
  refine g_if_lt M_3_giveBack (tgt := 44) d_3_giveBack_8 (by decide) (fun c => absurd c (nI_pos (by omega))) (fun _ => ?_)
  refine g_iloadn M_3_giveBack d_3_giveBack_11 (by first | rfl | assumption) ?_
  refine g_aloadn M_3_giveBack d_3_giveBack_12 (by first | rfl | assumption) ?_
  refine g_get M_3_giveBack d_3_giveBack_13 fl_3_11 (by assumption) (by rfl) ?_
  refine g_alen M_3_giveBack d_3_giveBack_16 (by assumption) ?_
  refine g_icmp_ge M_3_giveBack (tgt := 44) d_3_giveBack_17 (by decide) (fun c => absurd c (nI_ge (by omega) (by decide))) (fun _ => ?_)
  refine g_aloadn M_3_giveBack d_3_giveBack_20 (by first | rfl | assumption) ?_
  refine g_get M_3_giveBack d_3_giveBack_21 fl_3_11 (by assumption) (by rfl) ?_
  refine g_iloadn M_3_giveBack d_3_giveBack_24 (by first | rfl | assumption) ?_
  refine g_aaload M_3_giveBack d_3_giveBack_25 q1 (vp_in_nI (by omega) (by decide)) (by rw [nI_cl (by omega)]; exact f0) ?_
  refine g_ifnull M_3_giveBack d_3_giveBack_26 ?_
  refine g_aloadn M_3_giveBack d_3_giveBack_29 (by first | rfl | assumption) ?_
  refine g_aloadn M_3_giveBack d_3_giveBack_30 (by first | rfl | assumption) ?_
  refine g_get M_3_giveBack d_3_giveBack_31 fl_3_11 (by assumption) (by rfl) ?_
  refine g_iloadn M_3_giveBack d_3_giveBack_34 (by first | rfl | assumption) ?_
  refine g_aaload M_3_giveBack d_3_giveBack_35 q1 (vp_in_nI (by omega) (by decide)) (by rw [nI_cl (by omega)]; exact f0) ?_
  refine gc_V M_3_giveBack 0 0 [.ref (L (4 + b rc.length) 0)] [] d_3_giveBack_36 cv_3_25 N.1 (by rfl) (by rfl) (Nat.le_of_ble_eq_true (by rfl)) (Nat.le_of_ble_eq_true (by rfl)) (by decide) (by decide) (by decide) (by decide) (C_6_copyFrom (s.r (by decide) (by decide)) (s.off (by omega) (by omega) (by decide) (by decide) (by omega)) Z N (fun h1 e1 S3 => ?_))
  have nB : ∀ i j, okL i j → i ≠ 1 → L i j ∉ (List.range 24).map (L 1) := fun i j ok n => notin_map (fun q hq e => n (s _ _ _ _ ok (okB (by decide) (by decide) hq) e).1)
  have q01 := e1.keep q0 (nB 0 4 (ok0 (by decide)) (by decide))
  have q11 := e1.keep q1 (nB 0 5 (ok0 (by decide)) (by decide))
  show gG _ _ _ _ _ _ _ _ _ _
  refine g_aloadn M_3_giveBack d_3_giveBack_39 (by first | rfl | assumption) ?_
  refine g_iloadn M_3_giveBack d_3_giveBack_40 (by first | rfl | assumption) ?_
  refine e_put M_3_giveBack d_3_giveBack_41 pt_3_18 q01 (by rfl) (by rfl) (fun h2 q02 e2 => ?_)
  have n4 : ∀ i j, okL i j → ¬ (i = 0 ∧ j = 4) → L i j ∉ [L 0 4] := fun i j ok n q => n (s _ _ _ _ ok (ok0 (by decide)) (List.mem_singleton.mp q))
  have t := (e1.weak (S' := (List.range 24).map (L 1) ++ [L 0 4]) (fun y hy => List.mem_append.mpr (Or.inl hy))).trans e2 (fun y hy => Or.inl (List.mem_append.mpr (Or.inr hy)))
  refine g_vret M_3_giveBack d_3_giveBack_44 rfl (k h2 (by simpa using t) ⟨by omega, q02, hb, hinj, f, e2.keep q11 (n4 0 5 (ok0 (by decide)) (by omega)), fun i hi => ?_⟩ (S3.keep e2 (fun j hj => n4 _ _ (okB (by decide) (by decide) hj) (by omega))))
  obtain ⟨fi, zi, Zi, vi⟩ := q2 i hi
  have bi := hb i hi
  refine ⟨fi, zi, (Zi.keep e1 (fun j hj => nB _ _ (okB (by omega) (by omega) hj) (by omega))).keep e2 (fun j hj => n4 _ _ (okB (by omega) (by omega) hj) (by omega)), fun hl => ?_⟩
  rw [vi (by omega), List.getD_eq_getElem?_getD, List.getD_eq_getElem?_getD, List.getElem?_append_left hl]
