/-! ===== heaps that grow, and what lies in them ===== -/
def gExt (h h' : Hp_) (S A : List Nat) : Prop := A.Nodup ∧ (∀ x ∈ A, h x = none ∧ h' x ≠ none) ∧ (∀ q, h q ≠ none → h' q ≠ none) ∧ ∀ q, q ∉ S → h q ≠ none → h' q = h q
theorem gExt.refl {h : Hp_} : gExt h h [] [] := ⟨List.nodup_nil, fun x hx => (nomatch hx), fun _ q => q, fun _ _ _ => rfl⟩
theorem gExt.trans {h h1 h2 : Hp_} {S S1 A B : List Nat} (e1 : gExt h h1 S A) (e2 : gExt h1 h2 S1 B) (hs : ∀ x ∈ S1, x ∈ S ∨ x ∈ A) : gExt h h2 S (A ++ B) := by
  obtain ⟨a1, a2, a3, a4⟩ := e1
  obtain ⟨b1, b2, b3, b4⟩ := e2
  refine ⟨?_, ?_, fun q hq => b3 q (a3 q hq), ?_⟩
  · rw [List.nodup_append]
    exact ⟨a1, b1, fun x hx y hy e => (a2 x hx).2 (by rw [e]; exact (b2 y hy).1)⟩
  · intro x hx
    rcases List.mem_append.mp hx with hx | hx
    · exact ⟨(a2 x hx).1, b3 x (a2 x hx).2⟩
    · refine ⟨?_, (b2 x hx).2⟩
      cases hh : h x with
      | none => rfl
      | some e => exact absurd (b2 x hx).1 (a3 x (by rw [hh]; exact fun z => by cases z))
  · intro q hq hn
    rw [b4 q (fun hx => ?_) (a3 q hn), a4 q hq hn]
    rcases hs q hx with hx | hx
    · exact hq hx
    · exact hn (a2 q hx).1
theorem gExt.new {h : Hp_} {q : Nat} {e : Ent_} (hq : h q = none) : gExt h (gu h q e) [] [q] := by
  refine ⟨by simp, fun x hx => ?_, fun x hx => ?_, fun x _ hx => ?_⟩
  · rw [List.mem_singleton.mp hx]
    exact ⟨hq, by rw [gu_same]; exact fun z => by cases z⟩
  · by_cases n : x = q
    · rw [n, gu_same]; exact fun z => by cases z
    · rw [gu_ne n]; exact hx
  · exact gu_ne (fun n => hx (by rw [n]; exact hq))
theorem gExt.put {h : Hp_} {a : Nat} {e e0 : Ent_} (ha : h a = some e0) : gExt h (gu h a e) [a] [] := by
  refine ⟨List.nodup_nil, fun x hx => (nomatch hx), fun x hx => ?_, fun x hs _ => ?_⟩
  · by_cases n : x = a
    · rw [n, gu_same]; exact fun z => by cases z
    · rw [gu_ne n]; exact hx
  · exact gu_ne (fun n => hs (by rw [n]; exact List.mem_singleton.mpr rfl))
theorem gExt.weak {h h' : Hp_} {S S' A : List Nat} (e : gExt h h' S A) (hs : ∀ x ∈ S, x ∈ S') : gExt h h' S' A := ⟨e.1, e.2.1, e.2.2.1, fun q hq hn => e.2.2.2 q (fun z => hq (hs q z)) hn⟩
theorem gExt.keep {h h' : Hp_} {S A : List Nat} {x : Nat} {v : Ent_} (e : gExt h h' S A) (hx : h x = some v) (hs : x ∉ S) : h' x = some v := by rw [e.2.2.2 x hs (by rw [hx]; exact fun z => by cases z)]; exact hx
theorem gExt.fresh {h h' : Hp_} {S A : List Nat} {x y : Nat} {v : Ent_} (e : gExt h h' S A) (hx : h x = some v) (hy : y ∈ A) : x ≠ y := fun n => by rw [n, (e.2.1 y hy).1] at hx; cases hx
/-- an array of numbers, as far as it reaches -/
def arA (h : Hp_) (a : Nat) (ty : FieldType) (n : Nat) (f : Nat → Int32) : Prop := ∃ f', h a = some (.inl (false, ty, (n, .inl f'))) ∧ ∀ j, j < n → f' j = f j
theorem arA.keep {h h' : Hp_} {S A : List Nat} {a n : Nat} {ty : FieldType} {f : Nat → Int32} (H : arA h a ty n f) (e : gExt h h' S A) (hs : a ∉ S) : arA h' a ty n f := by
  obtain ⟨f', h1, h2⟩ := H
  exact ⟨f', e.keep h1 hs, h2⟩
theorem arA.at {h : Hp_} {a n : Nat} {ty : FieldType} {f : Nat → Int32} (H : h a = some (.inl (false, ty, (n, .inl f)))) : arA h a ty n f := ⟨f, H, fun _ _ => rfl⟩
/-- letters, lengths, count -/
abbrev W3_ : Type := (Nat → Int32) × (Nat → Int32) × Int32
def wsA (h : Hp_) (a la na rows width : Nat) (w : W3_) : Prop := h a = some (.inr (8, [.int (nI width), .ref la, .ref na, .int w.2.2])) ∧ arA h la .char (rows * width) w.1 ∧ arA h na .int rows w.2.1
theorem wsA.keep {h h' : Hp_} {S A : List Nat} {a la na rows width : Nat} {w : W3_} (H : wsA h a la na rows width w) (e : gExt h h' S A) (h1 : a ∉ S) (h2 : la ∉ S) (h3 : na ∉ S) : wsA h' a la na rows width w := ⟨e.keep H.1 h1, H.2.1.keep e h2, H.2.2.keep e h3⟩
def w30 : W3_ := (fun _ => 0, fun _ => 0, 0)
theorem nI_cl {n : Nat} (h : n < 2 ^ 31) : (nI n).toNatClampNeg = n := nI_clamp h
theorem gk_of {fr lo kc ks pc : Nat} {M : Mi_} {lv : List (Nat × Value)} {h : Hp_} {Q : Ot_ → Hp_ → Prop} {E : String} {h' : Hp_} (hh : M.2.2.2.2 = []) (hq : Q (.inr E) h') : gGX fr lo kc ks M pc lv E h' Q := gx_out hh hq
