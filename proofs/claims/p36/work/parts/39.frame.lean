/-! ===== a mint in plain numbers; what a call may change of it ===== -/
/-- text, now, snapshot, recorded states -/
abbrev Mt_ : Type := List Nat × Sn_ × Option Sn_ × List Sn_
def okN (x : Sn_) : Prop := (∀ y ∈ x.2.2.2.2.1, y.2.1 < 2 ^ 30 ∧ y.2.2 < 2 ^ 30) ∧ 0 < x.2.2.2.1.1.length
def mtN (h : Hp_) (L : Nat → Nat → Nat) (X : Mt_) : Prop := sepL L ∧ ∃ b, mtR h L b X.1 (sL X.2.1) (X.2.2.1.map sL) (X.2.2.2.map sL) ∧ okN X.2.1 ∧ (∀ z, X.2.2.1 = some z → okN z) ∧ ∀ z ∈ X.2.2.2, okN z
def aL (L : Nat → Nat → Nat) : List Nat := (List.range 23).map (L 0) ++ ((List.range 7).map (fun i => (List.range 24).map (L (i + 1)))).flatten
theorem aL_mem {L : Nat → Nat → Nat} {i j : Nat} (o : okL i j) : L i j ∈ aL L := by
  unfold aL
  rcases o with ⟨rfl, hj⟩ | ⟨h1, h2, hj⟩
  · exact List.mem_append.mpr (Or.inl (List.mem_map.mpr ⟨j, List.mem_range.mpr hj, rfl⟩))
  · refine List.mem_append.mpr (Or.inr (List.mem_flatten.mpr ⟨_, List.mem_map.mpr ⟨i - 1, List.mem_range.mpr (by omega), rfl⟩, List.mem_map.mpr ⟨j, List.mem_range.mpr hj, ?_⟩⟩))
    rw [show i - 1 + 1 = i by omega]
theorem aL_of {L : Nat → Nat → Nat} {y : Nat} (h : y ∈ aL L) : ∃ i j, okL i j ∧ y = L i j := by
  unfold aL at h
  rcases List.mem_append.mp h with h | h
  · obtain ⟨j, hj, rfl⟩ := List.mem_map.mp h
    exact ⟨0, j, ok0 (List.mem_range.mp hj), rfl⟩
  · obtain ⟨l, hl, hy⟩ := List.mem_flatten.mp h
    obtain ⟨i, hi, rfl⟩ := List.mem_map.mp hl
    obtain ⟨j, hj, rfl⟩ := List.mem_map.mp hy
    exact ⟨i + 1, j, okB (by omega) (by have := List.mem_range.mp hi; omega) (List.mem_range.mp hj), rfl⟩
theorem gExt.aL1 {L : Nat → Nat → Nat} {h h' : Hp_} {A : List Nat} {i j : Nat} (e : gExt h h' [L i j] A) (o : okL i j) : gExt h h' (aL L) A := e.weak (fun x hx => by rw [List.mem_singleton.mp hx]; exact aL_mem o)
theorem gExt.aLw {L : Nat → Nat → Nat} {h h' : Hp_} {S A : List Nat} (e : gExt h h' S A) (hS : ∀ y ∈ S, ∃ i j, okL i j ∧ y = L i j) : gExt h h' (aL L) A := e.weak (fun x hx => by obtain ⟨i, j, o, rfl⟩ := hS x hx; exact aL_mem o)
theorem gExt.aLb {L : Nat → Nat → Nat} {h h' : Hp_} {A : List Nat} {i : Nat} (e : gExt h h' ((List.range 24).map (L i)) A) (h1 : 1 ≤ i) (h2 : i ≤ 7) : gExt h h' (aL L) A := e.aLw (fun y hy => by
  obtain ⟨j, hj, rfl⟩ := List.mem_map.mp hy
  exact ⟨i, j, okB h1 h2 (List.mem_range.mp hj), rfl⟩)
theorem aL2 {L : Nat → Nat → Nat} {y i j i' j' : Nat} (o : okL i j) (o' : okL i' j') (h : y ∈ [L i j, L i' j']) : ∃ i j, okL i j ∧ y = L i j := by
  simp only [List.mem_cons, List.not_mem_nil, or_false] at h
  rcases h with rfl | rfl
  · exact ⟨i, j, o, rfl⟩
  · exact ⟨i', j', o', rfl⟩
theorem aL3 {L : Nat → Nat → Nat} {y i j i' j' i2 j2 : Nat} (o : okL i j) (o' : okL i' j') (o2 : okL i2 j2) (h : y ∈ [L i j, L i' j', L i2 j2]) : ∃ i j, okL i j ∧ y = L i j := by
  simp only [List.mem_cons, List.not_mem_nil, or_false] at h
  rcases h with rfl | rfl | rfl
  · exact ⟨i, j, o, rfl⟩
  · exact ⟨i', j', o', rfl⟩
  · exact ⟨i2, j2, o2, rfl⟩
theorem mtR.keep {h h' : Hp_} {S A : List Nat} {L : Nat → Nat → Nat} {b : Nat → Nat} {tx : List Nat} {now : Sl_} {snap : Option Sl_} {rc : List Sl_} (H : mtR h L b tx now snap rc) (e : gExt h h' S A) (n : ∀ i j, okL i j → L i j ∉ S) : mtR h' L b tx now snap rc := by
  obtain ⟨k1, k2, k3, ⟨s4, k4, k4'⟩, ⟨s5, k5⟩, k6, k7⟩ := H
  have z : ∀ j, j < 23 → L 0 j ∉ S := fun j hj => n 0 j (ok0 hj)
  have w : ∀ i j, 1 ≤ i → i ≤ 7 → j < 24 → L i j ∉ S := fun i j h1 h2 hj => n i j (okB h1 h2 hj)
  exact ⟨e.keep k1 (z 0 (by decide)), k2.keep e (z 1 (by decide)) (z 2 (by decide)) (z 3 (by decide)), k3.keep e (fun j hj => w 1 j (by decide) (by decide) hj), ⟨s4, k4.keep e (fun j hj => w 2 j (by decide) (by decide) hj), k4'⟩, ⟨s5, k5.keep e (fun j hj => w 3 j (by decide) (by decide) hj)⟩, k6.keep e (z 4 (by decide)) (z 5 (by decide)) (fun i j hi hj => w (4 + i) j (by omega) (by omega) hj), k7.keep e (fun j _ hj => z j hj)⟩
/-- another mint's cells -/
def disL (L L' : Nat → Nat → Nat) : Prop := ∀ i j i' j', okL i j → okL i' j' → L i j ≠ L' i' j'
theorem mtN.other {h h' : Hp_} {L L' : Nat → Nat → Nat} {X : Mt_} (H : mtN h L' X) (d : disL L L') (e : gExt h h' (aL L) []) : mtN h' L' X := by
  obtain ⟨s, b, H, k⟩ := H
  refine ⟨s, b, H.keep e (fun i j o hy => ?_), k⟩
  obtain ⟨i', j', o', q⟩ := aL_of hy
  exact d _ _ _ _ o' o q.symm

set_option maxHeartbeats 4000000 in
set_option maxRecDepth 100000 in
theorem mtN.w11 {h h' : Hp_} {L : Nat → Nat → Nat} {X : Mt_} {w : List Nat} (HH : mtN h L X) (e : gExt h h' [L 0 11, L 0 12] []) (W : wdR h' (L 0 11) (L 0 12) w) : mtN h' L X := by
  obtain ⟨s, b, H, ok1, ok2, ok3⟩ := HH
  have hS : ∀ y ∈ [L 0 11, L 0 12], ∃ i j, okL i j ∧ (i = 0 ∧ (j = 11 ∨ j = 12)) ∧ y = L i j := by
    intro y hy
    simp only [List.mem_cons, List.not_mem_nil, or_false] at hy
    rcases hy with rfl | rfl <;> exact ⟨0, _, ok0 (by decide), ⟨rfl, by decide⟩, rfl⟩
  have off : ∀ i j, okL i j → ¬ (i = 0 ∧ (j = 11 ∨ j = 12)) → L i j ∉ [L 0 11, L 0 12] := by
    intro i j ok n hy
    obtain ⟨i', j', ok', p', q⟩ := hS _ hy
    obtain ⟨rfl, rfl⟩ := s _ _ _ _ ok ok' q
    exact n p'
  obtain ⟨k1, k2, k3, ⟨s4, k4, k4'⟩, ⟨s5, k5⟩, k6, ⟨kd, cd, is2, w1, w2, a1⟩, ⟨z11, a11⟩, ⟨z13, a13⟩, ⟨z15, a15⟩, ⟨z17, a17⟩, z20, a20⟩ := H
  exact ⟨s, b, ⟨e.keep k1 (off 0 0 (ok0 (by decide)) (by omega)), k2.keep e (off 0 1 (ok0 (by decide)) (by omega)) (off 0 2 (ok0 (by decide)) (by omega)) (off 0 3 (ok0 (by decide)) (by omega)), k3.keep e (fun j hj => off 1 j (okB (by decide) (by decide) hj) (by omega)), ⟨s4, k4.keep e (fun j hj => off 2 j (okB (by decide) (by decide) hj) (by omega)), k4'⟩, ⟨s5, k5.keep e (fun j hj => off 3 j (okB (by decide) (by decide) hj) (by omega))⟩, k6.keep e (off 0 4 (ok0 (by decide)) (by omega)) (off 0 5 (ok0 (by decide)) (by omega)) (fun i j hi hj => off (4 + i) j (okB (by omega) (by omega) hj) (by omega)), ⟨kd, cd, is2, w1, w2, a1.keep e (off 0 6 (ok0 (by decide)) (by omega)) (off 0 7 (ok0 (by decide)) (by omega)) (off 0 8 (ok0 (by decide)) (by omega)) (off 0 9 (ok0 (by decide)) (by omega)) (off 0 10 (ok0 (by decide)) (by omega))⟩, ⟨_, W⟩, ⟨_, a13.keep e (off 0 13 (ok0 (by decide)) (by omega)) (off 0 14 (ok0 (by decide)) (by omega))⟩, ⟨_, a15.keep e (off 0 15 (ok0 (by decide)) (by omega)) (off 0 16 (ok0 (by decide)) (by omega))⟩, ⟨_, a17.keep e (off 0 17 (ok0 (by decide)) (by omega)) (off 0 18 (ok0 (by decide)) (by omega)) (off 0 19 (ok0 (by decide)) (by omega))⟩, ⟨_, a20.keep e (off 0 20 (ok0 (by decide)) (by omega)) (off 0 21 (ok0 (by decide)) (by omega)) (off 0 22 (ok0 (by decide)) (by omega))⟩⟩, ok1, ok2, ok3⟩
set_option maxHeartbeats 4000000 in
set_option maxRecDepth 100000 in
theorem mtN.w13 {h h' : Hp_} {L : Nat → Nat → Nat} {X : Mt_} {w : List Nat} (HH : mtN h L X) (e : gExt h h' [L 0 13, L 0 14] []) (W : wdR h' (L 0 13) (L 0 14) w) : mtN h' L X := by
  obtain ⟨s, b, H, ok1, ok2, ok3⟩ := HH
  have hS : ∀ y ∈ [L 0 13, L 0 14], ∃ i j, okL i j ∧ (i = 0 ∧ (j = 13 ∨ j = 14)) ∧ y = L i j := by
    intro y hy
    simp only [List.mem_cons, List.not_mem_nil, or_false] at hy
    rcases hy with rfl | rfl <;> exact ⟨0, _, ok0 (by decide), ⟨rfl, by decide⟩, rfl⟩
  have off : ∀ i j, okL i j → ¬ (i = 0 ∧ (j = 13 ∨ j = 14)) → L i j ∉ [L 0 13, L 0 14] := by
    intro i j ok n hy
    obtain ⟨i', j', ok', p', q⟩ := hS _ hy
    obtain ⟨rfl, rfl⟩ := s _ _ _ _ ok ok' q
    exact n p'
  obtain ⟨k1, k2, k3, ⟨s4, k4, k4'⟩, ⟨s5, k5⟩, k6, ⟨kd, cd, is2, w1, w2, a1⟩, ⟨z11, a11⟩, ⟨z13, a13⟩, ⟨z15, a15⟩, ⟨z17, a17⟩, z20, a20⟩ := H
  exact ⟨s, b, ⟨e.keep k1 (off 0 0 (ok0 (by decide)) (by omega)), k2.keep e (off 0 1 (ok0 (by decide)) (by omega)) (off 0 2 (ok0 (by decide)) (by omega)) (off 0 3 (ok0 (by decide)) (by omega)), k3.keep e (fun j hj => off 1 j (okB (by decide) (by decide) hj) (by omega)), ⟨s4, k4.keep e (fun j hj => off 2 j (okB (by decide) (by decide) hj) (by omega)), k4'⟩, ⟨s5, k5.keep e (fun j hj => off 3 j (okB (by decide) (by decide) hj) (by omega))⟩, k6.keep e (off 0 4 (ok0 (by decide)) (by omega)) (off 0 5 (ok0 (by decide)) (by omega)) (fun i j hi hj => off (4 + i) j (okB (by omega) (by omega) hj) (by omega)), ⟨kd, cd, is2, w1, w2, a1.keep e (off 0 6 (ok0 (by decide)) (by omega)) (off 0 7 (ok0 (by decide)) (by omega)) (off 0 8 (ok0 (by decide)) (by omega)) (off 0 9 (ok0 (by decide)) (by omega)) (off 0 10 (ok0 (by decide)) (by omega))⟩, ⟨_, a11.keep e (off 0 11 (ok0 (by decide)) (by omega)) (off 0 12 (ok0 (by decide)) (by omega))⟩, ⟨_, W⟩, ⟨_, a15.keep e (off 0 15 (ok0 (by decide)) (by omega)) (off 0 16 (ok0 (by decide)) (by omega))⟩, ⟨_, a17.keep e (off 0 17 (ok0 (by decide)) (by omega)) (off 0 18 (ok0 (by decide)) (by omega)) (off 0 19 (ok0 (by decide)) (by omega))⟩, ⟨_, a20.keep e (off 0 20 (ok0 (by decide)) (by omega)) (off 0 21 (ok0 (by decide)) (by omega)) (off 0 22 (ok0 (by decide)) (by omega))⟩⟩, ok1, ok2, ok3⟩
set_option maxHeartbeats 4000000 in
set_option maxRecDepth 100000 in
theorem mtN.w15 {h h' : Hp_} {L : Nat → Nat → Nat} {X : Mt_} {w : List Nat} (HH : mtN h L X) (e : gExt h h' [L 0 15, L 0 16] []) (W : wdR h' (L 0 15) (L 0 16) w) : mtN h' L X := by
  obtain ⟨s, b, H, ok1, ok2, ok3⟩ := HH
  have hS : ∀ y ∈ [L 0 15, L 0 16], ∃ i j, okL i j ∧ (i = 0 ∧ (j = 15 ∨ j = 16)) ∧ y = L i j := by
    intro y hy
    simp only [List.mem_cons, List.not_mem_nil, or_false] at hy
    rcases hy with rfl | rfl <;> exact ⟨0, _, ok0 (by decide), ⟨rfl, by decide⟩, rfl⟩
  have off : ∀ i j, okL i j → ¬ (i = 0 ∧ (j = 15 ∨ j = 16)) → L i j ∉ [L 0 15, L 0 16] := by
    intro i j ok n hy
    obtain ⟨i', j', ok', p', q⟩ := hS _ hy
    obtain ⟨rfl, rfl⟩ := s _ _ _ _ ok ok' q
    exact n p'
  obtain ⟨k1, k2, k3, ⟨s4, k4, k4'⟩, ⟨s5, k5⟩, k6, ⟨kd, cd, is2, w1, w2, a1⟩, ⟨z11, a11⟩, ⟨z13, a13⟩, ⟨z15, a15⟩, ⟨z17, a17⟩, z20, a20⟩ := H
  exact ⟨s, b, ⟨e.keep k1 (off 0 0 (ok0 (by decide)) (by omega)), k2.keep e (off 0 1 (ok0 (by decide)) (by omega)) (off 0 2 (ok0 (by decide)) (by omega)) (off 0 3 (ok0 (by decide)) (by omega)), k3.keep e (fun j hj => off 1 j (okB (by decide) (by decide) hj) (by omega)), ⟨s4, k4.keep e (fun j hj => off 2 j (okB (by decide) (by decide) hj) (by omega)), k4'⟩, ⟨s5, k5.keep e (fun j hj => off 3 j (okB (by decide) (by decide) hj) (by omega))⟩, k6.keep e (off 0 4 (ok0 (by decide)) (by omega)) (off 0 5 (ok0 (by decide)) (by omega)) (fun i j hi hj => off (4 + i) j (okB (by omega) (by omega) hj) (by omega)), ⟨kd, cd, is2, w1, w2, a1.keep e (off 0 6 (ok0 (by decide)) (by omega)) (off 0 7 (ok0 (by decide)) (by omega)) (off 0 8 (ok0 (by decide)) (by omega)) (off 0 9 (ok0 (by decide)) (by omega)) (off 0 10 (ok0 (by decide)) (by omega))⟩, ⟨_, a11.keep e (off 0 11 (ok0 (by decide)) (by omega)) (off 0 12 (ok0 (by decide)) (by omega))⟩, ⟨_, a13.keep e (off 0 13 (ok0 (by decide)) (by omega)) (off 0 14 (ok0 (by decide)) (by omega))⟩, ⟨_, W⟩, ⟨_, a17.keep e (off 0 17 (ok0 (by decide)) (by omega)) (off 0 18 (ok0 (by decide)) (by omega)) (off 0 19 (ok0 (by decide)) (by omega))⟩, ⟨_, a20.keep e (off 0 20 (ok0 (by decide)) (by omega)) (off 0 21 (ok0 (by decide)) (by omega)) (off 0 22 (ok0 (by decide)) (by omega))⟩⟩, ok1, ok2, ok3⟩
set_option maxHeartbeats 4000000 in
set_option maxRecDepth 100000 in
theorem mtN.ws17 {h h' : Hp_} {L : Nat → Nat → Nat} {X : Mt_} {w : List (List Nat)} (HH : mtN h L X) (e : gExt h h' [L 0 17, L 0 18, L 0 19] []) (W : wsR h' (L 0 17) (L 0 18) (L 0 19) 20 16 w) : mtN h' L X := by
  obtain ⟨s, b, H, ok1, ok2, ok3⟩ := HH
  have hS : ∀ y ∈ [L 0 17, L 0 18, L 0 19], ∃ i j, okL i j ∧ (i = 0 ∧ (j = 17 ∨ j = 18 ∨ j = 19)) ∧ y = L i j := by
    intro y hy
    simp only [List.mem_cons, List.not_mem_nil, or_false] at hy
    rcases hy with rfl | rfl | rfl <;> exact ⟨0, _, ok0 (by decide), ⟨rfl, by decide⟩, rfl⟩
  have off : ∀ i j, okL i j → ¬ (i = 0 ∧ (j = 17 ∨ j = 18 ∨ j = 19)) → L i j ∉ [L 0 17, L 0 18, L 0 19] := by
    intro i j ok n hy
    obtain ⟨i', j', ok', p', q⟩ := hS _ hy
    obtain ⟨rfl, rfl⟩ := s _ _ _ _ ok ok' q
    exact n p'
  obtain ⟨k1, k2, k3, ⟨s4, k4, k4'⟩, ⟨s5, k5⟩, k6, ⟨kd, cd, is2, w1, w2, a1⟩, ⟨z11, a11⟩, ⟨z13, a13⟩, ⟨z15, a15⟩, ⟨z17, a17⟩, z20, a20⟩ := H
  exact ⟨s, b, ⟨e.keep k1 (off 0 0 (ok0 (by decide)) (by omega)), k2.keep e (off 0 1 (ok0 (by decide)) (by omega)) (off 0 2 (ok0 (by decide)) (by omega)) (off 0 3 (ok0 (by decide)) (by omega)), k3.keep e (fun j hj => off 1 j (okB (by decide) (by decide) hj) (by omega)), ⟨s4, k4.keep e (fun j hj => off 2 j (okB (by decide) (by decide) hj) (by omega)), k4'⟩, ⟨s5, k5.keep e (fun j hj => off 3 j (okB (by decide) (by decide) hj) (by omega))⟩, k6.keep e (off 0 4 (ok0 (by decide)) (by omega)) (off 0 5 (ok0 (by decide)) (by omega)) (fun i j hi hj => off (4 + i) j (okB (by omega) (by omega) hj) (by omega)), ⟨kd, cd, is2, w1, w2, a1.keep e (off 0 6 (ok0 (by decide)) (by omega)) (off 0 7 (ok0 (by decide)) (by omega)) (off 0 8 (ok0 (by decide)) (by omega)) (off 0 9 (ok0 (by decide)) (by omega)) (off 0 10 (ok0 (by decide)) (by omega))⟩, ⟨_, a11.keep e (off 0 11 (ok0 (by decide)) (by omega)) (off 0 12 (ok0 (by decide)) (by omega))⟩, ⟨_, a13.keep e (off 0 13 (ok0 (by decide)) (by omega)) (off 0 14 (ok0 (by decide)) (by omega))⟩, ⟨_, a15.keep e (off 0 15 (ok0 (by decide)) (by omega)) (off 0 16 (ok0 (by decide)) (by omega))⟩, ⟨_, W⟩, ⟨_, a20.keep e (off 0 20 (ok0 (by decide)) (by omega)) (off 0 21 (ok0 (by decide)) (by omega)) (off 0 22 (ok0 (by decide)) (by omega))⟩⟩, ok1, ok2, ok3⟩
set_option maxHeartbeats 4000000 in
set_option maxRecDepth 100000 in
theorem mtN.ws20 {h h' : Hp_} {L : Nat → Nat → Nat} {X : Mt_} {w : List (List Nat)} (HH : mtN h L X) (e : gExt h h' [L 0 20, L 0 21, L 0 22] []) (W : wsR h' (L 0 20) (L 0 21) (L 0 22) 22 12 w) : mtN h' L X := by
  obtain ⟨s, b, H, ok1, ok2, ok3⟩ := HH
  have hS : ∀ y ∈ [L 0 20, L 0 21, L 0 22], ∃ i j, okL i j ∧ (i = 0 ∧ (j = 20 ∨ j = 21 ∨ j = 22)) ∧ y = L i j := by
    intro y hy
    simp only [List.mem_cons, List.not_mem_nil, or_false] at hy
    rcases hy with rfl | rfl | rfl <;> exact ⟨0, _, ok0 (by decide), ⟨rfl, by decide⟩, rfl⟩
  have off : ∀ i j, okL i j → ¬ (i = 0 ∧ (j = 20 ∨ j = 21 ∨ j = 22)) → L i j ∉ [L 0 20, L 0 21, L 0 22] := by
    intro i j ok n hy
    obtain ⟨i', j', ok', p', q⟩ := hS _ hy
    obtain ⟨rfl, rfl⟩ := s _ _ _ _ ok ok' q
    exact n p'
  obtain ⟨k1, k2, k3, ⟨s4, k4, k4'⟩, ⟨s5, k5⟩, k6, ⟨kd, cd, is2, w1, w2, a1⟩, ⟨z11, a11⟩, ⟨z13, a13⟩, ⟨z15, a15⟩, ⟨z17, a17⟩, z20, a20⟩ := H
  exact ⟨s, b, ⟨e.keep k1 (off 0 0 (ok0 (by decide)) (by omega)), k2.keep e (off 0 1 (ok0 (by decide)) (by omega)) (off 0 2 (ok0 (by decide)) (by omega)) (off 0 3 (ok0 (by decide)) (by omega)), k3.keep e (fun j hj => off 1 j (okB (by decide) (by decide) hj) (by omega)), ⟨s4, k4.keep e (fun j hj => off 2 j (okB (by decide) (by decide) hj) (by omega)), k4'⟩, ⟨s5, k5.keep e (fun j hj => off 3 j (okB (by decide) (by decide) hj) (by omega))⟩, k6.keep e (off 0 4 (ok0 (by decide)) (by omega)) (off 0 5 (ok0 (by decide)) (by omega)) (fun i j hi hj => off (4 + i) j (okB (by omega) (by omega) hj) (by omega)), ⟨kd, cd, is2, w1, w2, a1.keep e (off 0 6 (ok0 (by decide)) (by omega)) (off 0 7 (ok0 (by decide)) (by omega)) (off 0 8 (ok0 (by decide)) (by omega)) (off 0 9 (ok0 (by decide)) (by omega)) (off 0 10 (ok0 (by decide)) (by omega))⟩, ⟨_, a11.keep e (off 0 11 (ok0 (by decide)) (by omega)) (off 0 12 (ok0 (by decide)) (by omega))⟩, ⟨_, a13.keep e (off 0 13 (ok0 (by decide)) (by omega)) (off 0 14 (ok0 (by decide)) (by omega))⟩, ⟨_, a15.keep e (off 0 15 (ok0 (by decide)) (by omega)) (off 0 16 (ok0 (by decide)) (by omega))⟩, ⟨_, a17.keep e (off 0 17 (ok0 (by decide)) (by omega)) (off 0 18 (ok0 (by decide)) (by omega)) (off 0 19 (ok0 (by decide)) (by omega))⟩, ⟨_, W⟩⟩, ok1, ok2, ok3⟩
set_option maxHeartbeats 4000000 in
set_option maxRecDepth 100000 in
theorem mtN.ord {h h' : Hp_} {L : Nat → Nat → Nat} {X : Mt_} {x : Or_} (HH : mtN h L X) (e : gExt h h' [L 0 6, L 0 7, L 0 8, L 0 9, L 0 10] []) (W : orT h' (L 0 6) (L 0 7) (L 0 8) (L 0 9) (L 0 10) x) : mtN h' L X := by
  obtain ⟨s, b, H, ok1, ok2, ok3⟩ := HH
  have hS : ∀ y ∈ [L 0 6, L 0 7, L 0 8, L 0 9, L 0 10], ∃ i j, okL i j ∧ (i = 0 ∧ (j = 6 ∨ j = 7 ∨ j = 8 ∨ j = 9 ∨ j = 10)) ∧ y = L i j := by
    intro y hy
    simp only [List.mem_cons, List.not_mem_nil, or_false] at hy
    rcases hy with rfl | rfl | rfl | rfl | rfl <;> exact ⟨0, _, ok0 (by decide), ⟨rfl, by decide⟩, rfl⟩
  have off : ∀ i j, okL i j → ¬ (i = 0 ∧ (j = 6 ∨ j = 7 ∨ j = 8 ∨ j = 9 ∨ j = 10)) → L i j ∉ [L 0 6, L 0 7, L 0 8, L 0 9, L 0 10] := by
    intro i j ok n hy
    obtain ⟨i', j', ok', p', q⟩ := hS _ hy
    obtain ⟨rfl, rfl⟩ := s _ _ _ _ ok ok' q
    exact n p'
  obtain ⟨k1, k2, k3, ⟨s4, k4, k4'⟩, ⟨s5, k5⟩, k6, ⟨kd, cd, is2, w1, w2, a1⟩, ⟨z11, a11⟩, ⟨z13, a13⟩, ⟨z15, a15⟩, ⟨z17, a17⟩, z20, a20⟩ := H
  exact ⟨s, b, ⟨e.keep k1 (off 0 0 (ok0 (by decide)) (by omega)), k2.keep e (off 0 1 (ok0 (by decide)) (by omega)) (off 0 2 (ok0 (by decide)) (by omega)) (off 0 3 (ok0 (by decide)) (by omega)), k3.keep e (fun j hj => off 1 j (okB (by decide) (by decide) hj) (by omega)), ⟨s4, k4.keep e (fun j hj => off 2 j (okB (by decide) (by decide) hj) (by omega)), k4'⟩, ⟨s5, k5.keep e (fun j hj => off 3 j (okB (by decide) (by decide) hj) (by omega))⟩, k6.keep e (off 0 4 (ok0 (by decide)) (by omega)) (off 0 5 (ok0 (by decide)) (by omega)) (fun i j hi hj => off (4 + i) j (okB (by omega) (by omega) hj) (by omega)), ⟨_, _, _, _, _, W⟩, ⟨_, a11.keep e (off 0 11 (ok0 (by decide)) (by omega)) (off 0 12 (ok0 (by decide)) (by omega))⟩, ⟨_, a13.keep e (off 0 13 (ok0 (by decide)) (by omega)) (off 0 14 (ok0 (by decide)) (by omega))⟩, ⟨_, a15.keep e (off 0 15 (ok0 (by decide)) (by omega)) (off 0 16 (ok0 (by decide)) (by omega))⟩, ⟨_, a17.keep e (off 0 17 (ok0 (by decide)) (by omega)) (off 0 18 (ok0 (by decide)) (by omega)) (off 0 19 (ok0 (by decide)) (by omega))⟩, ⟨_, a20.keep e (off 0 20 (ok0 (by decide)) (by omega)) (off 0 21 (ok0 (by decide)) (by omega)) (off 0 22 (ok0 (by decide)) (by omega))⟩⟩, ok1, ok2, ok3⟩
set_option maxHeartbeats 4000000 in
set_option maxRecDepth 100000 in
theorem mtN.tx {h h' : Hp_} {L : Nat → Nat → Nat} {X : Mt_} {tx : List Nat} (HH : mtN h L X) (e : gExt h h' [L 0 1, L 0 2, L 0 3] []) (W : txR h' (L 0 1) (L 0 2) (L 0 3) tx) : mtN h' L (tx, X.2) := by
  obtain ⟨s, b, H, ok1, ok2, ok3⟩ := HH
  have hS : ∀ y ∈ [L 0 1, L 0 2, L 0 3], ∃ i j, okL i j ∧ (i = 0 ∧ (j = 1 ∨ j = 2 ∨ j = 3)) ∧ y = L i j := by
    intro y hy
    simp only [List.mem_cons, List.not_mem_nil, or_false] at hy
    rcases hy with rfl | rfl | rfl <;> exact ⟨0, _, ok0 (by decide), ⟨rfl, by decide⟩, rfl⟩
  have off : ∀ i j, okL i j → ¬ (i = 0 ∧ (j = 1 ∨ j = 2 ∨ j = 3)) → L i j ∉ [L 0 1, L 0 2, L 0 3] := by
    intro i j ok n hy
    obtain ⟨i', j', ok', p', q⟩ := hS _ hy
    obtain ⟨rfl, rfl⟩ := s _ _ _ _ ok ok' q
    exact n p'
  obtain ⟨k1, k2, k3, ⟨s4, k4, k4'⟩, ⟨s5, k5⟩, k6, ⟨kd, cd, is2, w1, w2, a1⟩, ⟨z11, a11⟩, ⟨z13, a13⟩, ⟨z15, a15⟩, ⟨z17, a17⟩, z20, a20⟩ := H
  exact ⟨s, b, ⟨e.keep k1 (off 0 0 (ok0 (by decide)) (by omega)), W, k3.keep e (fun j hj => off 1 j (okB (by decide) (by decide) hj) (by omega)), ⟨s4, k4.keep e (fun j hj => off 2 j (okB (by decide) (by decide) hj) (by omega)), k4'⟩, ⟨s5, k5.keep e (fun j hj => off 3 j (okB (by decide) (by decide) hj) (by omega))⟩, k6.keep e (off 0 4 (ok0 (by decide)) (by omega)) (off 0 5 (ok0 (by decide)) (by omega)) (fun i j hi hj => off (4 + i) j (okB (by omega) (by omega) hj) (by omega)), ⟨kd, cd, is2, w1, w2, a1.keep e (off 0 6 (ok0 (by decide)) (by omega)) (off 0 7 (ok0 (by decide)) (by omega)) (off 0 8 (ok0 (by decide)) (by omega)) (off 0 9 (ok0 (by decide)) (by omega)) (off 0 10 (ok0 (by decide)) (by omega))⟩, ⟨_, a11.keep e (off 0 11 (ok0 (by decide)) (by omega)) (off 0 12 (ok0 (by decide)) (by omega))⟩, ⟨_, a13.keep e (off 0 13 (ok0 (by decide)) (by omega)) (off 0 14 (ok0 (by decide)) (by omega))⟩, ⟨_, a15.keep e (off 0 15 (ok0 (by decide)) (by omega)) (off 0 16 (ok0 (by decide)) (by omega))⟩, ⟨_, a17.keep e (off 0 17 (ok0 (by decide)) (by omega)) (off 0 18 (ok0 (by decide)) (by omega)) (off 0 19 (ok0 (by decide)) (by omega))⟩, ⟨_, a20.keep e (off 0 20 (ok0 (by decide)) (by omega)) (off 0 21 (ok0 (by decide)) (by omega)) (off 0 22 (ok0 (by decide)) (by omega))⟩⟩, ok1, ok2, ok3⟩
set_option maxHeartbeats 4000000 in
set_option maxRecDepth 100000 in
theorem mtN.now {h h' : Hp_} {L : Nat → Nat → Nat} {X : Mt_} {x : Sn_} (HH : mtN h L X) (e : gExt h h' ((List.range 24).map (L 1)) []) (W : stR h' (L 1) (sL x)) (ok : okN x) : mtN h' L (X.1, x, X.2.2) := by
  obtain ⟨s, b, H, ok1, ok2, ok3⟩ := HH
  have hS : ∀ y ∈ ((List.range 24).map (L 1)), ∃ i j, okL i j ∧ (i = 1) ∧ y = L i j := by
    intro y hy
    obtain ⟨j, hj, rfl⟩ := List.mem_map.mp hy
    exact ⟨1, j, okB (by decide) (by decide) (List.mem_range.mp hj), rfl, rfl⟩
  have off : ∀ i j, okL i j → ¬ (i = 1) → L i j ∉ ((List.range 24).map (L 1)) := by
    intro i j ok n hy
    obtain ⟨i', j', ok', p', q⟩ := hS _ hy
    obtain ⟨rfl, rfl⟩ := s _ _ _ _ ok ok' q
    exact n p'
  obtain ⟨k1, k2, k3, ⟨s4, k4, k4'⟩, ⟨s5, k5⟩, k6, ⟨kd, cd, is2, w1, w2, a1⟩, ⟨z11, a11⟩, ⟨z13, a13⟩, ⟨z15, a15⟩, ⟨z17, a17⟩, z20, a20⟩ := H
  exact ⟨s, b, ⟨e.keep k1 (off 0 0 (ok0 (by decide)) (by omega)), k2.keep e (off 0 1 (ok0 (by decide)) (by omega)) (off 0 2 (ok0 (by decide)) (by omega)) (off 0 3 (ok0 (by decide)) (by omega)), W, ⟨s4, k4.keep e (fun j hj => off 2 j (okB (by decide) (by decide) hj) (by omega)), k4'⟩, ⟨s5, k5.keep e (fun j hj => off 3 j (okB (by decide) (by decide) hj) (by omega))⟩, k6.keep e (off 0 4 (ok0 (by decide)) (by omega)) (off 0 5 (ok0 (by decide)) (by omega)) (fun i j hi hj => off (4 + i) j (okB (by omega) (by omega) hj) (by omega)), ⟨kd, cd, is2, w1, w2, a1.keep e (off 0 6 (ok0 (by decide)) (by omega)) (off 0 7 (ok0 (by decide)) (by omega)) (off 0 8 (ok0 (by decide)) (by omega)) (off 0 9 (ok0 (by decide)) (by omega)) (off 0 10 (ok0 (by decide)) (by omega))⟩, ⟨_, a11.keep e (off 0 11 (ok0 (by decide)) (by omega)) (off 0 12 (ok0 (by decide)) (by omega))⟩, ⟨_, a13.keep e (off 0 13 (ok0 (by decide)) (by omega)) (off 0 14 (ok0 (by decide)) (by omega))⟩, ⟨_, a15.keep e (off 0 15 (ok0 (by decide)) (by omega)) (off 0 16 (ok0 (by decide)) (by omega))⟩, ⟨_, a17.keep e (off 0 17 (ok0 (by decide)) (by omega)) (off 0 18 (ok0 (by decide)) (by omega)) (off 0 19 (ok0 (by decide)) (by omega))⟩, ⟨_, a20.keep e (off 0 20 (ok0 (by decide)) (by omega)) (off 0 21 (ok0 (by decide)) (by omega)) (off 0 22 (ok0 (by decide)) (by omega))⟩⟩, ok, ok2, ok3⟩
set_option maxHeartbeats 4000000 in
set_option maxRecDepth 100000 in
theorem mtN.tri {h h' : Hp_} {L : Nat → Nat → Nat} {X : Mt_} {x : Sl_} (HH : mtN h L X) (e : gExt h h' ((List.range 24).map (L 3)) []) (W : stR h' (L 3) x) : mtN h' L X := by
  obtain ⟨s, b, H, ok1, ok2, ok3⟩ := HH
  have hS : ∀ y ∈ ((List.range 24).map (L 3)), ∃ i j, okL i j ∧ (i = 3) ∧ y = L i j := by
    intro y hy
    obtain ⟨j, hj, rfl⟩ := List.mem_map.mp hy
    exact ⟨3, j, okB (by decide) (by decide) (List.mem_range.mp hj), rfl, rfl⟩
  have off : ∀ i j, okL i j → ¬ (i = 3) → L i j ∉ ((List.range 24).map (L 3)) := by
    intro i j ok n hy
    obtain ⟨i', j', ok', p', q⟩ := hS _ hy
    obtain ⟨rfl, rfl⟩ := s _ _ _ _ ok ok' q
    exact n p'
  obtain ⟨k1, k2, k3, ⟨s4, k4, k4'⟩, ⟨s5, k5⟩, k6, ⟨kd, cd, is2, w1, w2, a1⟩, ⟨z11, a11⟩, ⟨z13, a13⟩, ⟨z15, a15⟩, ⟨z17, a17⟩, z20, a20⟩ := H
  exact ⟨s, b, ⟨e.keep k1 (off 0 0 (ok0 (by decide)) (by omega)), k2.keep e (off 0 1 (ok0 (by decide)) (by omega)) (off 0 2 (ok0 (by decide)) (by omega)) (off 0 3 (ok0 (by decide)) (by omega)), k3.keep e (fun j hj => off 1 j (okB (by decide) (by decide) hj) (by omega)), ⟨s4, k4.keep e (fun j hj => off 2 j (okB (by decide) (by decide) hj) (by omega)), k4'⟩, ⟨_, W⟩, k6.keep e (off 0 4 (ok0 (by decide)) (by omega)) (off 0 5 (ok0 (by decide)) (by omega)) (fun i j hi hj => off (4 + i) j (okB (by omega) (by omega) hj) (by omega)), ⟨kd, cd, is2, w1, w2, a1.keep e (off 0 6 (ok0 (by decide)) (by omega)) (off 0 7 (ok0 (by decide)) (by omega)) (off 0 8 (ok0 (by decide)) (by omega)) (off 0 9 (ok0 (by decide)) (by omega)) (off 0 10 (ok0 (by decide)) (by omega))⟩, ⟨_, a11.keep e (off 0 11 (ok0 (by decide)) (by omega)) (off 0 12 (ok0 (by decide)) (by omega))⟩, ⟨_, a13.keep e (off 0 13 (ok0 (by decide)) (by omega)) (off 0 14 (ok0 (by decide)) (by omega))⟩, ⟨_, a15.keep e (off 0 15 (ok0 (by decide)) (by omega)) (off 0 16 (ok0 (by decide)) (by omega))⟩, ⟨_, a17.keep e (off 0 17 (ok0 (by decide)) (by omega)) (off 0 18 (ok0 (by decide)) (by omega)) (off 0 19 (ok0 (by decide)) (by omega))⟩, ⟨_, a20.keep e (off 0 20 (ok0 (by decide)) (by omega)) (off 0 21 (ok0 (by decide)) (by omega)) (off 0 22 (ok0 (by decide)) (by omega))⟩⟩, ok1, ok2, ok3⟩
set_option maxHeartbeats 4000000 in
set_option maxRecDepth 100000 in
theorem mtN.hist {h h' : Hp_} {L : Nat → Nat → Nat} {X : Mt_} {S : List Nat} {b' : Nat → Nat} {rc : List Sn_} (HH : mtN h L X) (e : gExt h h' S []) (hS0 : hisS L S) (W : hiR h' L b' (rc.map sL)) (okr : ∀ z ∈ rc, okN z) : mtN h' L (X.1, X.2.1, X.2.2.1, rc) := by
  obtain ⟨s, b, H, ok1, ok2, ok3⟩ := HH
  have off : ∀ i j, okL i j → ¬ ((i = 0 ∧ (j = 4 ∨ j = 5)) ∨ (4 ≤ i ∧ i ≤ 7 ∧ j < 24)) → L i j ∉ S := by
    intro i j ok n hy
    obtain ⟨i', j', p', q⟩ := hS0 _ hy
    have ok' : okL i' j' := by
      rcases p' with ⟨rfl, p | p⟩ | ⟨p1, p2, p3⟩
      · exact ok0 (by omega)
      · exact ok0 (by omega)
      · exact okB (by omega) p2 p3
    obtain ⟨rfl, rfl⟩ := s _ _ _ _ ok ok' q
    exact n p'
  obtain ⟨k1, k2, k3, ⟨s4, k4, k4'⟩, ⟨s5, k5⟩, k6, ⟨kd, cd, is2, w1, w2, a1⟩, ⟨z11, a11⟩, ⟨z13, a13⟩, ⟨z15, a15⟩, ⟨z17, a17⟩, z20, a20⟩ := H
  exact ⟨s, b', ⟨e.keep k1 (off 0 0 (ok0 (by decide)) (by omega)), k2.keep e (off 0 1 (ok0 (by decide)) (by omega)) (off 0 2 (ok0 (by decide)) (by omega)) (off 0 3 (ok0 (by decide)) (by omega)), k3.keep e (fun j hj => off 1 j (okB (by decide) (by decide) hj) (by omega)), ⟨s4, k4.keep e (fun j hj => off 2 j (okB (by decide) (by decide) hj) (by omega)), k4'⟩, ⟨s5, k5.keep e (fun j hj => off 3 j (okB (by decide) (by decide) hj) (by omega))⟩, W, ⟨kd, cd, is2, w1, w2, a1.keep e (off 0 6 (ok0 (by decide)) (by omega)) (off 0 7 (ok0 (by decide)) (by omega)) (off 0 8 (ok0 (by decide)) (by omega)) (off 0 9 (ok0 (by decide)) (by omega)) (off 0 10 (ok0 (by decide)) (by omega))⟩, ⟨_, a11.keep e (off 0 11 (ok0 (by decide)) (by omega)) (off 0 12 (ok0 (by decide)) (by omega))⟩, ⟨_, a13.keep e (off 0 13 (ok0 (by decide)) (by omega)) (off 0 14 (ok0 (by decide)) (by omega))⟩, ⟨_, a15.keep e (off 0 15 (ok0 (by decide)) (by omega)) (off 0 16 (ok0 (by decide)) (by omega))⟩, ⟨_, a17.keep e (off 0 17 (ok0 (by decide)) (by omega)) (off 0 18 (ok0 (by decide)) (by omega)) (off 0 19 (ok0 (by decide)) (by omega))⟩, ⟨_, a20.keep e (off 0 20 (ok0 (by decide)) (by omega)) (off 0 21 (ok0 (by decide)) (by omega)) (off 0 22 (ok0 (by decide)) (by omega))⟩⟩, ok1, ok2, okr⟩
set_option maxHeartbeats 4000000 in
set_option maxRecDepth 100000 in
theorem mtN.back {h h' : Hp_} {L : Nat → Nat → Nat} {X : Mt_} {x : Sn_} {rc : List Sn_} {b9 : Nat → Nat} (HH : mtN h L X) (e : gExt h h' ((List.range 24).map (L 1) ++ [L 0 4]) []) (W : stR h' (L 1) (sL x)) (ok : okN x) (V : hiR h' L b9 (rc.map sL)) (okr : ∀ z ∈ rc, okN z) : mtN h' L (X.1, x, X.2.2.1, rc) := by
  obtain ⟨s, b, H, ok1, ok2, ok3⟩ := HH
  have hS : ∀ y ∈ ((List.range 24).map (L 1) ++ [L 0 4]), ∃ i j, okL i j ∧ (i = 1 ∨ (i = 0 ∧ j = 4)) ∧ y = L i j := by
    intro y hy
    rcases List.mem_append.mp hy with hy | hy
    · obtain ⟨j, hj, rfl⟩ := List.mem_map.mp hy
      exact ⟨1, j, okB (by decide) (by decide) (List.mem_range.mp hj), Or.inl rfl, rfl⟩
    · rw [List.mem_singleton.mp hy]
      exact ⟨0, 4, ok0 (by decide), Or.inr ⟨rfl, rfl⟩, rfl⟩
  have off : ∀ i j, okL i j → ¬ (i = 1 ∨ (i = 0 ∧ j = 4)) → L i j ∉ ((List.range 24).map (L 1) ++ [L 0 4]) := by
    intro i j ok n hy
    obtain ⟨i', j', ok', p', q⟩ := hS _ hy
    obtain ⟨rfl, rfl⟩ := s _ _ _ _ ok ok' q
    exact n p'
  obtain ⟨k1, k2, k3, ⟨s4, k4, k4'⟩, ⟨s5, k5⟩, k6, ⟨kd, cd, is2, w1, w2, a1⟩, ⟨z11, a11⟩, ⟨z13, a13⟩, ⟨z15, a15⟩, ⟨z17, a17⟩, z20, a20⟩ := H
  exact ⟨s, b9, ⟨e.keep k1 (off 0 0 (ok0 (by decide)) (by omega)), k2.keep e (off 0 1 (ok0 (by decide)) (by omega)) (off 0 2 (ok0 (by decide)) (by omega)) (off 0 3 (ok0 (by decide)) (by omega)), W, ⟨s4, k4.keep e (fun j hj => off 2 j (okB (by decide) (by decide) hj) (by omega)), k4'⟩, ⟨s5, k5.keep e (fun j hj => off 3 j (okB (by decide) (by decide) hj) (by omega))⟩, V, ⟨kd, cd, is2, w1, w2, a1.keep e (off 0 6 (ok0 (by decide)) (by omega)) (off 0 7 (ok0 (by decide)) (by omega)) (off 0 8 (ok0 (by decide)) (by omega)) (off 0 9 (ok0 (by decide)) (by omega)) (off 0 10 (ok0 (by decide)) (by omega))⟩, ⟨_, a11.keep e (off 0 11 (ok0 (by decide)) (by omega)) (off 0 12 (ok0 (by decide)) (by omega))⟩, ⟨_, a13.keep e (off 0 13 (ok0 (by decide)) (by omega)) (off 0 14 (ok0 (by decide)) (by omega))⟩, ⟨_, a15.keep e (off 0 15 (ok0 (by decide)) (by omega)) (off 0 16 (ok0 (by decide)) (by omega))⟩, ⟨_, a17.keep e (off 0 17 (ok0 (by decide)) (by omega)) (off 0 18 (ok0 (by decide)) (by omega)) (off 0 19 (ok0 (by decide)) (by omega))⟩, ⟨_, a20.keep e (off 0 20 (ok0 (by decide)) (by omega)) (off 0 21 (ok0 (by decide)) (by omega)) (off 0 22 (ok0 (by decide)) (by omega))⟩⟩, ok, ok2, okr⟩
set_option maxHeartbeats 4000000 in
set_option maxRecDepth 100000 in
theorem mtN.snap {h h' : Hp_} {L : Nat → Nat → Nat} {X : Mt_} {x : Sn_} (HH : mtN h L X) (e : gExt h h' ((List.range 24).map (L 2) ++ [L 0 0]) []) (W : stR h' (L 2) (sL x)) (ok : okN x) (V : h' (L 0 0) = some (.inr (9, [.ref (L 0 1), .ref (L 1 0), .ref (L 2 0), .int (nI 1), .ref (L 0 4), .ref (L 3 0), .ref (L 0 6), .ref (L 0 11), .ref (L 0 13), .ref (L 0 15), .ref (L 0 17), .ref (L 0 20)]))) : mtN h' L (X.1, X.2.1, some x, X.2.2.2) := by
  obtain ⟨s, b, H, ok1, ok2, ok3⟩ := HH
  have hS : ∀ y ∈ ((List.range 24).map (L 2) ++ [L 0 0]), ∃ i j, okL i j ∧ (i = 2 ∨ (i = 0 ∧ j = 0)) ∧ y = L i j := by
    intro y hy
    rcases List.mem_append.mp hy with hy | hy
    · obtain ⟨j, hj, rfl⟩ := List.mem_map.mp hy
      exact ⟨2, j, okB (by decide) (by decide) (List.mem_range.mp hj), Or.inl rfl, rfl⟩
    · rw [List.mem_singleton.mp hy]
      exact ⟨0, 0, ok0 (by decide), Or.inr ⟨rfl, rfl⟩, rfl⟩
  have off : ∀ i j, okL i j → ¬ (i = 2 ∨ (i = 0 ∧ j = 0)) → L i j ∉ ((List.range 24).map (L 2) ++ [L 0 0]) := by
    intro i j ok n hy
    obtain ⟨i', j', ok', p', q⟩ := hS _ hy
    obtain ⟨rfl, rfl⟩ := s _ _ _ _ ok ok' q
    exact n p'
  obtain ⟨k1, k2, k3, ⟨s4, k4, k4'⟩, ⟨s5, k5⟩, k6, ⟨kd, cd, is2, w1, w2, a1⟩, ⟨z11, a11⟩, ⟨z13, a13⟩, ⟨z15, a15⟩, ⟨z17, a17⟩, z20, a20⟩ := H
  exact ⟨s, b, ⟨V, k2.keep e (off 0 1 (ok0 (by decide)) (by omega)) (off 0 2 (ok0 (by decide)) (by omega)) (off 0 3 (ok0 (by decide)) (by omega)), k3.keep e (fun j hj => off 1 j (okB (by decide) (by decide) hj) (by omega)), ⟨sL x, W, fun z hz => Option.some.inj hz⟩, ⟨s5, k5.keep e (fun j hj => off 3 j (okB (by decide) (by decide) hj) (by omega))⟩, k6.keep e (off 0 4 (ok0 (by decide)) (by omega)) (off 0 5 (ok0 (by decide)) (by omega)) (fun i j hi hj => off (4 + i) j (okB (by omega) (by omega) hj) (by omega)), ⟨kd, cd, is2, w1, w2, a1.keep e (off 0 6 (ok0 (by decide)) (by omega)) (off 0 7 (ok0 (by decide)) (by omega)) (off 0 8 (ok0 (by decide)) (by omega)) (off 0 9 (ok0 (by decide)) (by omega)) (off 0 10 (ok0 (by decide)) (by omega))⟩, ⟨_, a11.keep e (off 0 11 (ok0 (by decide)) (by omega)) (off 0 12 (ok0 (by decide)) (by omega))⟩, ⟨_, a13.keep e (off 0 13 (ok0 (by decide)) (by omega)) (off 0 14 (ok0 (by decide)) (by omega))⟩, ⟨_, a15.keep e (off 0 15 (ok0 (by decide)) (by omega)) (off 0 16 (ok0 (by decide)) (by omega))⟩, ⟨_, a17.keep e (off 0 17 (ok0 (by decide)) (by omega)) (off 0 18 (ok0 (by decide)) (by omega)) (off 0 19 (ok0 (by decide)) (by omega))⟩, ⟨_, a20.keep e (off 0 20 (ok0 (by decide)) (by omega)) (off 0 21 (ok0 (by decide)) (by omega)) (off 0 22 (ok0 (by decide)) (by omega))⟩⟩, ok1, (fun z hz => by cases hz; exact ok), ok3⟩
