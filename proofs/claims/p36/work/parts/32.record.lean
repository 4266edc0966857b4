/-! ===== history: record ===== -/
set_option maxHeartbeats 4000000 in
set_option maxRecDepth 100000 in
theorem C_3_rectail {L : Nat → Nat → Nat} {b : Nat → Nat} {rc : List Sl_} {now : Sl_} {h : Hp_} {Q : Ot_ → Hp_ → Prop} (s : sepL L) (H : hiR h L b rc) (hp : rc.length < 4) (N : stR h (L 1) now) (lv : List (Nat × Value)) (H0 : gl lv 0 = some (.ref (L 0 4))) (H1 : gl lv 1 = some (.ref (L 1 0))) (k : ∀ h' S, gExt h h' S [] → hisS L S → hiR h' L b (rc ++ [now]) → Q (.inl none) h') : gG 5 220 0 0 M_3_record 27 lv [] h Q := by
  obtain ⟨rl, q0, hb, hinj, f, q1, q2⟩ := id H
  obtain ⟨f0, zs, Z, -⟩ := q2 rc.length hp
  have bp := hb rc.length hp
  refine g_aloadn M_3_record d_3_record_27 (by first | rfl | assumption) ?_
  refine g_get M_3_record d_3_record_28 fl_3_18 (by assumption) (by rfl) ?_
  refine g_if_lt M_3_record (tgt := 81) d_3_record_31 (by decide) (fun c => absurd c (nI_pos (by omega))) (fun _ => ?_)
  refine g_aloadn M_3_record d_3_record_34 (by first | rfl | assumption) ?_
  refine g_get M_3_record d_3_record_35 fl_3_18 (by assumption) (by rfl) ?_
  refine g_aloadn M_3_record d_3_record_38 (by first | rfl | assumption) ?_
  refine g_get M_3_record d_3_record_39 fl_3_11 (by assumption) (by rfl) ?_
  refine g_alen M_3_record d_3_record_42 (by assumption) ?_
  refine g_icmp_ge M_3_record (tgt := 81) d_3_record_43 (by decide) (fun c => absurd c (nI_ge hp (by decide))) (fun _ => ?_)
  refine g_aloadn M_3_record d_3_record_46 (by first | rfl | assumption) ?_
  refine g_get M_3_record d_3_record_47 fl_3_11 (by assumption) (by rfl) ?_
  refine g_aloadn M_3_record d_3_record_50 (by first | rfl | assumption) ?_
  refine g_get M_3_record d_3_record_51 fl_3_18 (by assumption) (by rfl) ?_
  refine g_aaload M_3_record d_3_record_54 q1 (vp_in_nI (by omega) (by decide)) (by rw [nI_cl (by omega)]; exact f0) ?_
  refine g_ifnull M_3_record d_3_record_55 ?_
  refine g_aloadn M_3_record d_3_record_58 (by first | rfl | assumption) ?_
  refine g_get M_3_record d_3_record_59 fl_3_11 (by assumption) (by rfl) ?_
  refine g_aloadn M_3_record d_3_record_62 (by first | rfl | assumption) ?_
  refine g_get M_3_record d_3_record_63 fl_3_18 (by assumption) (by rfl) ?_
  refine g_aaload M_3_record d_3_record_66 q1 (vp_in_nI (by omega) (by decide)) (by rw [nI_cl (by omega)]; exact f0) ?_
  refine g_aloadn M_3_record d_3_record_67 (by first | rfl | assumption) ?_
  refine gc_V M_3_record 0 0 [.ref (L 1 0)] [] d_3_record_68 cv_3_25 Z.1 (by rfl) (by rfl) (Nat.le_of_ble_eq_true (by rfl)) (Nat.le_of_ble_eq_true (by rfl)) (by decide) (by decide) (by decide) (by decide) (C_6_copyFrom (s.r (by omega) (by omega)) (s.off (by decide) (by decide) (by omega) (by omega) (by omega)) N Z (fun h1 e1 S3 => ?_))
  have nB : ∀ i j, okL i j → i ≠ 4 + b rc.length → L i j ∉ (List.range 24).map (L (4 + b rc.length)) := fun i j ok n => notin_map (fun q hq e => n (s _ _ _ _ ok (okB (by omega) (by omega) hq) e).1)
  have q01 := e1.keep q0 (nB 0 4 (ok0 (by decide)) (by omega))
  have q11 := e1.keep q1 (nB 0 5 (ok0 (by decide)) (by omega))
  show gG _ _ _ _ _ _ _ _ _ _
  refine g_aloadn M_3_record d_3_record_71 (by first | rfl | assumption) ?_
  refine g_dup M_3_record d_3_record_72 (by rfl) ?_
  refine g_get M_3_record d_3_record_73 fl_3_18 (by assumption) (by rfl) ?_
  refine g_iconst M_3_record (v := nI 1) d_3_record_76 (by decide) ?_
  refine g_iadd M_3_record d_3_record_77 ?_
  rw [nI_add]
  refine e_put M_3_record d_3_record_78 pt_3_18 q01 (by rfl) (by rfl) (fun h2 q02 e2 => ?_)
  have n4 : ∀ i j, okL i j → ¬ (i = 0 ∧ j = 4) → L i j ∉ [L 0 4] := fun i j ok n q => n (s _ _ _ _ ok (ok0 (by decide)) (List.mem_singleton.mp q))
  have t := (e1.weak (S' := (List.range 24).map (L (4 + b rc.length)) ++ [L 0 4]) (fun y hy => List.mem_append.mpr (Or.inl hy))).trans e2 (fun y hy => Or.inl (List.mem_append.mpr (Or.inr hy)))
  refine g_vret M_3_record d_3_record_81 rfl (k h2 _ (by simpa using t) (fun y hy => ?_) ⟨by rw [List.length_append]; exact hp, by rw [List.length_append]; exact q02, hb, hinj, f, e2.keep q11 (n4 0 5 (ok0 (by decide)) (by omega)), fun i hi => ⟨(q2 i hi).1, ?_⟩⟩)
  · have hy' : y ∈ (List.range 24).map (L (4 + b rc.length)) ++ [L 0 4] := by simpa using hy
    rcases List.mem_append.mp hy' with z | z
    · obtain ⟨j, hj, rfl⟩ := List.mem_map.mp z
      exact ⟨4 + b rc.length, j, Or.inr ⟨by omega, by omega, List.mem_range.mp hj⟩, rfl⟩
    · exact ⟨0, 4, Or.inl ⟨rfl, Or.inl rfl⟩, List.mem_singleton.mp z⟩
  · by_cases e : i = rc.length
    · subst e
      refine ⟨now, S3.keep e2 (fun j hj => n4 _ _ (okB (by omega) (by omega) hj) (by omega)), fun _ => ?_⟩
      rw [List.getD_eq_getElem?_getD, List.getElem?_append_right (Nat.le_refl _), Nat.sub_self]
      rfl
    · obtain ⟨-, zi, Zi, vi⟩ := q2 i hi
      have nbi : b i ≠ b rc.length := fun z => e (hinj _ _ hi hp z)
      have bi := hb i hi
      refine ⟨zi, (Zi.keep e1 (fun j hj => nB _ _ (okB (by omega) (by omega) hj) (by omega))).keep e2 (fun j hj => n4 _ _ (okB (by omega) (by omega) hj) (by omega)), fun hl => ?_⟩
      rw [List.length_append] at hl
      have hl2 : i < rc.length := by
        have : i < rc.length + 1 := hl
        omega
      rw [vi hl2, List.getD_eq_getElem?_getD, List.getD_eq_getElem?_getD, List.getElem?_append_left hl2]
set_option maxHeartbeats 4000000 in
set_option maxRecDepth 100000 in
theorem C_3_record {L : Nat → Nat → Nat} {b : Nat → Nat} {rc : List Sl_} {now : Sl_} {h : Hp_} {Q : Ot_ → Hp_ → Prop} (s : sepL L) (H : hiR h L b rc) (N : stR h (L 1) now) (k : ∀ h' b' S, gExt h h' S [] → hisS L S → hiR h' L b' (recd rc now) → Q (.inl none) h') : gG 5 220 0 0 M_3_record 0 (lv_args 0 [.ref (L 0 4), .ref (L 1 0)]) [] h Q := by
  obtain ⟨rl, q0, hb, hinj, f, q1, q2⟩ := id H
  refine g_aloadn M_3_record d_3_record_0 (by first | rfl | assumption) ?_
  refine g_get M_3_record d_3_record_1 fl_3_18 (by assumption) (by rfl) ?_
  refine g_aloadn M_3_record d_3_record_4 (by first | rfl | assumption) ?_
  refine g_get M_3_record d_3_record_5 fl_3_11 (by assumption) (by rfl) ?_
  refine g_alen M_3_record d_3_record_8 (by assumption) ?_
  by_cases hp : rc.length = 4
  rotate_left
  · refine g_icmp_lt M_3_record (tgt := 27) d_3_record_9 (by decide) (fun _ => ?_) (fun c => absurd (nI_lt (by omega) (by decide)) c)
    exact C_3_rectail s H (by omega) N _ rfl rfl (fun h' S e hs R => k h' b S e hs (by unfold recd; rw [if_neg hp]; exact R))
  refine g_icmp_lt M_3_record (tgt := 27) d_3_record_9 (by decide) (fun c => absurd c (by rw [hp]; decide)) (fun _ => ?_)
  refine g_aloadn M_3_record d_3_record_12 (by first | rfl | assumption) ?_
  refine gc_V M_3_record 0 0 [] [] d_3_record_13 cv_3_22 q0 (by rfl) (by rfl) (Nat.le_of_ble_eq_true (by rfl)) (Nat.le_of_ble_eq_true (by rfl)) (by decide) (by decide) (by decide) (by decide) (C_3_moveOldest s H (fun h1 e1 ⟨f1, w1, F1⟩ => ?_))
  have n5 : ∀ i j, okL i j → ¬ (i = 0 ∧ j = 5) → L i j ∉ [L 0 5] := fun i j ok n q => n (s _ _ _ _ ok (ok0 (by decide)) (List.mem_singleton.mp q))
  have n4 : ∀ i j, okL i j → ¬ (i = 0 ∧ j = 4) → L i j ∉ [L 0 4] := fun i j ok n q => n (s _ _ _ _ ok (ok0 (by decide)) (List.mem_singleton.mp q))
  have q01 := e1.keep q0 (n5 0 4 (ok0 (by decide)) (by omega))
  show gG _ _ _ _ _ _ _ _ _ _
  refine g_aloadn M_3_record d_3_record_16 (by first | rfl | assumption) ?_
  refine g_aloadn M_3_record d_3_record_17 (by first | rfl | assumption) ?_
  refine g_get M_3_record d_3_record_18 fl_3_11 (by assumption) (by rfl) ?_
  refine g_alen M_3_record d_3_record_21 (by assumption) ?_
  refine g_iconst M_3_record (v := nI 1) d_3_record_22 (by decide) ?_
  refine g_isub M_3_record d_3_record_23 ?_
  rw [nI_sub (by decide)]
  refine e_put M_3_record d_3_record_24 pt_3_18 q01 (by rfl) (by rfl) (fun h2 q02 e2 => ?_)
  have t := (e1.weak (S' := [L 0 5, L 0 4]) (by simp)).trans e2 (by simp)
  have rb : ∀ i, i < 4 → rotB b i < 4 := fun i hi => by unfold rotB; split <;> exact hb _ (by omega)
  have hd : (rc.drop 1).length = 3 := by rw [List.length_drop]; omega
  have H2 : hiR h2 L (rotB b) (rc.drop 1) := by
    refine ⟨by omega, by rw [hd]; exact q02, rb, fun i j hi hj e => ?_, f1, e2.keep w1 (n4 0 5 (ok0 (by decide)) (by omega)), fun i hi => ⟨F1 i hi, ?_⟩⟩
    · unfold rotB at e
      split at e <;> split at e
      · have := hinj _ _ (by omega) (by omega) e; omega
      · have := hinj _ _ (by omega) (by omega) e; omega
      · have := hinj _ _ (by omega) (by omega) e; omega
      · omega
    · have K : ∀ z v, z < 4 → stR h (L (4 + b z)) v → stR h2 (L (4 + b z)) v := fun z v hz Z => (Z.keep e1 (fun j hj => n5 _ _ (okB (by omega) (by have := hb z hz; omega) hj) (by omega))).keep e2 (fun j hj => n4 _ _ (okB (by omega) (by have := hb z hz; omega) hj) (by omega))
      unfold rotB
      split
      · obtain ⟨-, zi, Zi, vi⟩ := q2 (i + 1) (by omega)
        refine ⟨zi, K _ _ (by omega) Zi, fun hl => ?_⟩
        rw [vi (by omega), List.getD_eq_getElem?_getD, List.getD_eq_getElem?_getD, List.getElem?_drop, Nat.add_comm]
      · obtain ⟨-, zi, Zi, vi⟩ := q2 0 (by omega)
        exact ⟨zi, K _ _ (by omega) Zi, fun hl => by omega⟩
  have N2 := (N.keep e1 (fun j hj => n5 _ _ (okB (by decide) (by decide) hj) (by omega))).keep e2 (fun j hj => n4 _ _ (okB (by decide) (by decide) hj) (by omega))
  refine C_3_rectail s H2 (by omega) N2 _ rfl rfl (fun h' S e hs R => ?_)
  have t2 := (t.weak (S' := [L 0 5, L 0 4] ++ S) (fun y hy => List.mem_append.mpr (Or.inl hy))).trans e (fun y hy => Or.inl (List.mem_append.mpr (Or.inr hy)))
  refine k h' (rotB b) _ (by simpa using t2) (fun y hy => ?_) (by unfold recd; rw [if_pos hp]; exact R)
  have hy' : y ∈ [L 0 5, L 0 4] ++ S := by simpa using hy
  rcases List.mem_append.mp hy' with z | z
  · simp only [List.mem_cons, List.not_mem_nil, or_false] at z
    rcases z with z | z
    · exact ⟨0, 5, Or.inl ⟨rfl, Or.inr rfl⟩, z⟩
    · exact ⟨0, 4, Or.inl ⟨rfl, Or.inl rfl⟩, z⟩
  · exact hs y z
