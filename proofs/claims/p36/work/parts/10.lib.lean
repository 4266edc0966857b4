/-! ===== heaps that grow, and what lies in them ===== -/
def gExt (h h' : Hp_) (S A : List Nat) : Prop := A.Nodup ∧ (∀ x ∈ A, h x = none ∧ h' x ≠ none) ∧ (∀ q, h q ≠ none → h' q ≠ none) ∧ ∀ q, q ∉ S → h q ≠ none → h' q = h q
theorem gExt.refl {h : Hp_} : gExt h h [] [] := ⟨List.nodup_nil, fun x hx => (nomatch hx), fun _ q => q, fun _ _ _ => rfl⟩
theorem gExt.trans {h h1 h2 : Hp_} {S S1 A B : List Nat} (e1 : gExt h h1 S A) (e2 : gExt h1 h2 S1 B) (hs : ∀ x ∈ S1, x ∈ S ∨ x ∈ A) : gExt h h2 S (A ++ B) := by
  obtain ⟨a1, a2, a3, a4⟩ := e1
  obtain ⟨b1, b2, b3, b4⟩ := e2
  refine ⟨?_, ?_, fun q hq => b3 q (a3 q hq), ?_⟩
  · rw [List.nodup_append]
    exact ⟨a1, b1, fun x hx y hy e => (a2 x hx).2 (by rw [e]; exact (b2 y hy).1)⟩
  · intro x hx
    rcases List.mem_append.mp hx with hx | hx
    · exact ⟨(a2 x hx).1, b3 x (a2 x hx).2⟩
    · refine ⟨?_, (b2 x hx).2⟩
      cases hh : h x with
      | none => rfl
      | some e => exact absurd (b2 x hx).1 (a3 x (by rw [hh]; exact fun z => by cases z))
  · intro q hq hn
    rw [b4 q (fun hx => ?_) (a3 q hn), a4 q hq hn]
    rcases hs q hx with hx | hx
    · exact hq hx
    · exact hn (a2 q hx).1
theorem gExt.new {h : Hp_} {q : Nat} {e : Ent_} (hq : h q = none) : gExt h (gu h q e) [] [q] := by
  refine ⟨by simp, fun x hx => ?_, fun x hx => ?_, fun x _ hx => ?_⟩
  · rw [List.mem_singleton.mp hx]
    exact ⟨hq, by rw [gu_same]; exact fun z => by cases z⟩
  · by_cases n : x = q
    · rw [n, gu_same]; exact fun z => by cases z
    · rw [gu_ne n]; exact hx
  · exact gu_ne (fun n => hx (by rw [n]; exact hq))
theorem gExt.put {h : Hp_} {a : Nat} {e e0 : Ent_} (ha : h a = some e0) : gExt h (gu h a e) [a] [] := by
  refine ⟨List.nodup_nil, fun x hx => (nomatch hx), fun x hx => ?_, fun x hs _ => ?_⟩
  · by_cases n : x = a
    · rw [n, gu_same]; exact fun z => by cases z
    · rw [gu_ne n]; exact hx
  · exact gu_ne (fun n => hs (by rw [n]; exact List.mem_singleton.mpr rfl))
theorem gExt.weak {h h' : Hp_} {S S' A : List Nat} (e : gExt h h' S A) (hs : ∀ x ∈ S, x ∈ S') : gExt h h' S' A := ⟨e.1, e.2.1, e.2.2.1, fun q hq hn => e.2.2.2 q (fun z => hq (hs q z)) hn⟩
theorem gExt.keep {h h' : Hp_} {S A : List Nat} {x : Nat} {v : Ent_} (e : gExt h h' S A) (hx : h x = some v) (hs : x ∉ S) : h' x = some v := by rw [e.2.2.2 x hs (by rw [hx]; exact fun z => by cases z)]; exact hx
theorem gExt.fresh {h h' : Hp_} {S A : List Nat} {x y : Nat} {v : Ent_} (e : gExt h h' S A) (hx : h x = some v) (hy : y ∈ A) : x ≠ y := fun n => by rw [n, (e.2.1 y hy).1] at hx; cases hx
/-- an array of numbers, as far as it reaches -/
def arA (h : Hp_) (a : Nat) (ty : FieldType) (n : Nat) (f : Nat → Int32) : Prop := ∃ f', h a = some (.inl (false, ty, (n, .inl f'))) ∧ ∀ j, j < n → f' j = f j
theorem arA.keep {h h' : Hp_} {S A : List Nat} {a n : Nat} {ty : FieldType} {f : Nat → Int32} (H : arA h a ty n f) (e : gExt h h' S A) (hs : a ∉ S) : arA h' a ty n f := by
  obtain ⟨f', h1, h2⟩ := H
  exact ⟨f', e.keep h1 hs, h2⟩
theorem arA.at {h : Hp_} {a n : Nat} {ty : FieldType} {f : Nat → Int32} (H : h a = some (.inl (false, ty, (n, .inl f)))) : arA h a ty n f := ⟨f, H, fun _ _ => rfl⟩
/-- letters, lengths, count -/
abbrev W3_ : Type := (Nat → Int32) × (Nat → Int32) × Int32
def wsA (h : Hp_) (a la na rows width : Nat) (w : W3_) : Prop := h a = some (.inr (8, [.int (nI width), .ref la, .ref na, .int w.2.2])) ∧ arA h la .char (rows * width) w.1 ∧ arA h na .int rows w.2.1
theorem wsA.keep {h h' : Hp_} {S A : List Nat} {a la na rows width : Nat} {w : W3_} (H : wsA h a la na rows width w) (e : gExt h h' S A) (h1 : a ∉ S) (h2 : la ∉ S) (h3 : na ∉ S) : wsA h' a la na rows width w := ⟨e.keep H.1 h1, H.2.1.keep e h2, H.2.2.keep e h3⟩
def w30 : W3_ := (fun _ => 0, fun _ => 0, 0)
theorem nI_cl {n : Nat} (h : n < 2 ^ 31) : (nI n).toNatClampNeg = n := nI_clamp h
theorem gk_of {fr lo kc ks pc : Nat} {M : Mi_} {lv : List (Nat × Value)} {h : Hp_} {Q : Ot_ → Hp_ → Prop} {E : String} {h' : Hp_} (hh : M.2.2.2.2 = []) (hq : Q (.inr E) h') : gGX fr lo kc ks M pc lv E h' Q := gx_out M hh hq
/-! the rows that change the heap, each with the new heap under a name of its own -/
section GE
variable {fr lo kc ks pc : Nat} (M : Mi_) {lv : List (Nat × Value)} {st : List Value} {h : Hp_} {Q : Ot_ → Hp_ → Prop}
theorem e_put {idx ci k a : Nat} {fs : List Value} {v : Value} {t : FieldType} (d : decode M.2.1 pc = .ok (.putfield idx, 3)) (f : gPt M.1.cls idx ci k t) (hh : h a = some (.inr (ci, fs))) (hn : narrow t v = v) (hft : fits t v = true) (kk : ∀ h', h' a = some (.inr (ci, fs.set k v)) → gExt h h' [a] [] → gG fr lo kc ks M (pc + 3) lv st h' Q) : gG fr lo kc ks M pc lv (v :: .ref a :: st) h Q :=
  g_put M d f hh hn hft (kk _ gu_same (gExt.put hh))
theorem e_putF {idx ci k a : Nat} {fs : List Value} {v : Value} {t : FieldType} (d : decode M.2.1 pc = .ok (.putfield idx, 3)) (f : gPf M.1.cls idx ci k t) (hin : M.1.name = "<init>") (hh : h a = some (.inr (ci, fs))) (hn : narrow t v = v) (hft : fits t v = true) (kk : ∀ h', h' a = some (.inr (ci, fs.set k v)) → gExt h h' [a] [] → gG fr lo kc ks M (pc + 3) lv st h' Q) : gG fr lo kc ks M pc lv (v :: .ref a :: st) h Q :=
  g_putF M d f hin hh hn hft (kk _ gu_same (gExt.put hh))
theorem e_new {idx ci kc' ks' N : Nat} {fs : List Value} (d : decode M.2.1 pc = .ok (.new idx, 3)) (f : gNw M.1.cls idx ci fs) (hN : fs.length = N) (hkc : 1 + kc' ≤ kc) (hks : N + ks' ≤ ks) (kk : ∀ q h', h' q = some (.inr (ci, fs)) → gExt h h' [] [q] → gG fr lo kc' ks' M (pc + 3) lv (.ref q :: st) h' Q) : gG fr lo kc ks M pc lv st h Q :=
  g_new M d f hN hkc hks (fun q hq => kk q _ gu_same (gExt.new hq))
theorem e_newI {n : Int32} {N kc' ks' : Nat} (d : decode M.2.1 pc = .ok (.newarray .int, 2)) (hn : ¬ n < 0) (hN : n.toNatClampNeg = N) (hb8 : N ≤ 67108864) (hkc : 1 + kc' ≤ kc) (hks : N + ks' ≤ ks) (kk : ∀ q h', h' q = some (.inl (false, .int, (N, .inl (fun _ => 0)))) → gExt h h' [] [q] → gG fr lo kc' ks' M (pc + 2) lv (.ref q :: st) h' Q) : gG fr lo kc ks M pc lv (.int n :: st) h Q :=
  g_newarray M (ty := .int) d rfl ak_int (Or.inl rfl) hn hN hb8 hkc hks (fun q hq => kk q _ gu_same (gExt.new hq))
theorem e_newC {n : Int32} {N kc' ks' : Nat} (d : decode M.2.1 pc = .ok (.newarray .char, 2)) (hn : ¬ n < 0) (hN : n.toNatClampNeg = N) (hb8 : N ≤ 67108864) (hkc : 1 + kc' ≤ kc) (hks : N + ks' ≤ ks) (kk : ∀ q h', h' q = some (.inl (false, .char, (N, .inl (fun _ => 0)))) → gExt h h' [] [q] → gG fr lo kc' ks' M (pc + 2) lv (.ref q :: st) h' Q) : gG fr lo kc ks M pc lv (.int n :: st) h Q :=
  g_newarray M (ty := .char) d rfl ak_char (Or.inr (Or.inl rfl)) hn hN hb8 hkc hks (fun q hq => kk q _ gu_same (gExt.new hq))
theorem e_newA {idx : Nat} {E : String} {n : Int32} {N kc' ks' : Nat} (d : decode M.2.1 pc = .ok (.anewarray idx, 3)) (hw : Cond.classLink M.1.cls idx E ∈ gAll) (ho : Cond.arrayOver (.object E) ∈ gOth) (hn : ¬ n < 0) (hN : n.toNatClampNeg = N) (hb8 : N ≤ 67108864) (hkc : 1 + kc' ≤ kc) (hks : N + ks' ≤ ks) (kk : ∀ q h', h' q = some (.inl (false, .object E, (N, .inr (.inr (.inr (.inr (fun _ => none))))))) → gExt h h' [] [q] → gG fr lo kc' ks' M (pc + 3) lv (.ref q :: st) h' Q) : gG fr lo kc ks M pc lv (.int n :: st) h Q :=
  g_anewarray M d hw ho hn hN hb8 hkc hks (fun q hq => kk q _ gu_same (gExt.new hq))
theorem e_ias {a n : Nat} {f : Nat → Int32} {i x : Int32} (d : decode M.2.1 pc = .ok (.iastore, 1)) (hh : h a = some (.inl (false, .int, (n, .inl f)))) (hin : vp_in i n) (kk : ∀ h', h' a = some (.inl (false, .int, (n, .inl (upd f i.toNatClampNeg x)))) → gExt h h' [a] [] → gG fr lo kc ks M (pc + 1) lv st h' Q) : gG fr lo kc ks M pc lv (.int x :: .int i :: .ref a :: st) h Q :=
  g_iastore M d hh hin (kk _ gu_same (gExt.put hh))
theorem e_cas {a n : Nat} {f : Nat → Int32} {i x : Int32} (d : decode M.2.1 pc = .ok (.castore, 1)) (hh : h a = some (.inl (false, .char, (n, .inl f)))) (hin : vp_in i n) (hx : narrow .char (.int x) = .int x) (kk : ∀ h', h' a = some (.inl (false, .char, (n, .inl (upd f i.toNatClampNeg x)))) → gExt h h' [a] [] → gG fr lo kc ks M (pc + 1) lv st h' Q) : gG fr lo kc ks M pc lv (.int x :: .int i :: .ref a :: st) h Q :=
  g_castore M d hh hin hx (kk _ gu_same (gExt.put hh))
theorem e_aas {a n v ci : Nat} {E : String} {f : Nat → Option Nat} {i : Int32} {vs : List Value} {r : vw_C} (d : decode M.2.1 pc = .ok (.aastore, 1)) (hh : h a = some (.inl (false, .object E, (n, .inr (.inr (.inr (.inr f))))))) (hv : h v = some (.inr (ci, vs))) (hc : gCl[ci]? = some r) (hE : r.1 = E) (hin : vp_in i n) (kk : ∀ h', h' a = some (.inl (false, .object E, (n, .inr (.inr (.inr (.inr (va_up f i.toNatClampNeg (some v)))))))) → gExt h h' [a] [] → gG fr lo kc ks M (pc + 1) lv st h' Q) : gG fr lo kc ks M pc lv (.ref v :: .int i :: .ref a :: st) h Q :=
  g_aastore M d hh hv hc hE hin (kk _ gu_same (gExt.put hh))
theorem e_copy {idx a0 a n0 n1 : Nat} {ty : FieldType} {f g : Nat → Int32} {sp dp n : Int32} (d : decode M.2.1 pc = .ok (.invokestatic idx, 3)) (hw1 : Cond.methodLink M.1.cls idx arraycopyName ∈ gAll)
    (h0 : h a0 = some (.inl (false, ty, (n0, .inl f)))) (h1 : h a = some (.inl (false, ty, (n1, .inl g)))) (hprim : refKind ty = false) (s1 : ¬ sp < 0) (s2 : ¬ dp < 0) (s3 : ¬ n < 0) (s4 : sp.toNatClampNeg + n.toNatClampNeg ≤ n0) (s5 : dp.toNatClampNeg + n.toNatClampNeg ≤ n1) (hfit : ∀ i, i < n.toNatClampNeg → fits ty (.int (f (sp.toNatClampNeg + i))) = true)
    (hfr : 1 ≤ fr) (hlo : (st.map fun v => v.category).sum + (nativeFrameWords "java/lang/System" "arraycopy" 5 + 11) ≤ lo)
    (kk : ∀ h', h' a = some (.inl (false, ty, (n1, .inl (va_cpy f g sp.toNatClampNeg dp.toNatClampNeg n.toNatClampNeg)))) → gExt h h' [a] [] → gG fr lo kc ks M (pc + 3) lv st h' Q) : gG fr lo kc ks M pc lv (.int n :: .int dp :: .ref a :: .int sp :: .ref a0 :: st) h Q :=
  g_copy M d hw1 ac_n ac_s ac_i h0 h1 hprim s1 s2 s3 s4 s5 hfit hfr hlo (kk _ gu_same (gExt.put h1))
end GE
theorem gExt.new_ne {h h' : Hp_} {S A : List Nat} {x y : Nat} {v : Ent_} (e : gExt h h' S A) (hx : h x = some v) (hy : y ∈ A) : y ≠ x := fun n => e.fresh hx hy n.symm
/-- a Word: letters (16), length -/
def wdA (h : Hp_) (a la : Nat) (f : Nat → Int32) (n : Int32) : Prop := h a = some (.inr (7, [.ref la, .int n])) ∧ arA h la .char 16 f
theorem wdA.keep {h h' : Hp_} {S A : List Nat} {a la : Nat} {f : Nat → Int32} {n : Int32} (H : wdA h a la f n) (e : gExt h h' S A) (h1 : a ∉ S) (h2 : la ∉ S) : wdA h' a la f n := ⟨e.keep H.1 h1, H.2.keep e h2⟩
abbrev Di_ : Type := W3_ × W3_ × (Nat → Int32)
def diA (h : Hp_) (a e le ne d ld nd c : Nat) (v : Di_) : Prop := h a = some (.inr (0, [.ref e, .ref d, .ref c])) ∧ wsA h e le ne 12 4 v.1 ∧ wsA h d ld nd 12 4 v.2.1 ∧ arA h c .int 12 v.2.2
abbrev He_ : Type := W3_ × (Nat → Int32) × (Nat → Int32)
def heA (h : Hp_) (a m lm nm o c : Nat) (v : He_) : Prop := h a = some (.inr (2, [.ref m, .ref o, .ref c])) ∧ wsA h m lm nm 30 16 v.1 ∧ arA h o .int 30 v.2.1 ∧ arA h c .int 30 v.2.2
theorem diA.keep {h h' : Hp_} {S A : List Nat} {a e le ne d ld nd c : Nat} {v : Di_} (H : diA h a e le ne d ld nd c v) (x : gExt h h' S A) (hs : ∀ q ∈ [a, e, le, ne, d, ld, nd, c], q ∉ S) : diA h' a e le ne d ld nd c v :=
  ⟨x.keep H.1 (hs _ (by simp)), H.2.1.keep x (hs _ (by simp)) (hs _ (by simp)) (hs _ (by simp)), H.2.2.1.keep x (hs _ (by simp)) (hs _ (by simp)) (hs _ (by simp)), H.2.2.2.keep x (hs _ (by simp))⟩
theorem heA.keep {h h' : Hp_} {S A : List Nat} {a m lm nm o c : Nat} {v : He_} (H : heA h a m lm nm o c v) (x : gExt h h' S A) (hs : ∀ q ∈ [a, m, lm, nm, o, c], q ∉ S) : heA h' a m lm nm o c v :=
  ⟨x.keep H.1 (hs _ (by simp)), H.2.1.keep x (hs _ (by simp)) (hs _ (by simp)) (hs _ (by simp)), H.2.2.1.keep x (hs _ (by simp)), H.2.2.2.keep x (hs _ (by simp))⟩
def di0 : Di_ := (w30, w30, fun _ => 0)
def he0 : He_ := (w30, fun _ => 0, fun _ => 0)
/-- a State: its 24 cells by a map of places; nouns, irregular words, their plurals, dies, heaps, struck, melted -/
abbrev St_ : Type := W3_ × W3_ × W3_ × Di_ × He_ × Int32 × Int32
def stA (h : Hp_) (r : Nat → Nat) (v : St_) : Prop :=
  h (r 0) = some (.inr (6, [.ref (r 1), .ref (r 4), .ref (r 7), .ref (r 10), .ref (r 18), .int v.2.2.2.2.2.1, .int v.2.2.2.2.2.2])) ∧ wsA h (r 1) (r 2) (r 3) 20 12 v.1 ∧ wsA h (r 4) (r 5) (r 6) 10 12 v.2.1 ∧ wsA h (r 7) (r 8) (r 9) 10 12 v.2.2.1 ∧
  diA h (r 10) (r 11) (r 12) (r 13) (r 14) (r 15) (r 16) (r 17) v.2.2.2.1 ∧ heA h (r 18) (r 19) (r 20) (r 21) (r 22) (r 23) v.2.2.2.2.1
def st0 : St_ := (w30, w30, w30, di0, he0, 0, 0)
theorem stA.keep {h h' : Hp_} {S A : List Nat} {r : Nat → Nat} {v : St_} (H : stA h r v) (x : gExt h h' S A) (hs : ∀ k, k < 24 → r k ∉ S) : stA h' r v := by
  obtain ⟨h1, h2, h3, h4, h5, h6⟩ := H
  refine ⟨x.keep h1 (hs _ (by decide)), h2.keep x (hs _ (by decide)) (hs _ (by decide)) (hs _ (by decide)), h3.keep x (hs _ (by decide)) (hs _ (by decide)) (hs _ (by decide)), h4.keep x (hs _ (by decide)) (hs _ (by decide)) (hs _ (by decide)), h5.keep x (fun q hq => ?_), h6.keep x (fun q hq => ?_)⟩
  · simp only [List.mem_cons, List.not_mem_nil, or_false] at hq
    rcases hq with rfl | rfl | rfl | rfl | rfl | rfl | rfl | rfl <;> exact hs _ (by decide)
  · simp only [List.mem_cons, List.not_mem_nil, or_false] at hq
    rcases hq with rfl | rfl | rfl | rfl | rfl | rfl <;> exact hs _ (by decide)
theorem gExt.mem_ne {h h' : Hp_} {S A : List Nat} {a x : Nat} {v : Ent_} (e : gExt h h' S A) (ha : h a = some v) (hx : x ∈ A) : x ∉ [a] := by
  rw [List.mem_singleton]
  exact e.new_ne ha hx
theorem gExt.trans1 {h h1 h2 : Hp_} {S S1 A B : List Nat} (e1 : gExt h h1 S A) (e2 : gExt h1 h2 S1 B) (hs : S1.all (fun x => decide (x ∈ S ++ A)) = true) : gExt h h2 S (A ++ B) := e1.trans e2 (fun x hx => List.mem_append.mp (by simpa using List.all_eq_true.mp hs x hx))
