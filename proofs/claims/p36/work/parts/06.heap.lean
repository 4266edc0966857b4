/-! ===== rows of the abstract machine: fields, arrays, new ===== -/
def gu (h : Hp_) (q : Nat) (e : Ent_) : Hp_ := fun x => if x = q then some e else h x
theorem gu_same {h : Hp_} {q : Nat} {e : Ent_} : gu h q e q = some e := by unfold gu; rw [if_pos rfl]
theorem gu_ne {h : Hp_} {q x : Nat} {e : Ent_} (n : x ≠ q) : gu h q e x = h x := by unfold gu; rw [if_neg n]
theorem gC_hx {l : Launch} {D : va_G} {B : Nat} {p : Program} {R : Room} {s : State} {m : MethodId} {args : Array Value} {meth : Method} {c : Code} {cells slots mc ms fr lo kc ks : Nat} {M : Mi_} (C : gC l D B p R s m args meth c cells slots mc ms fr lo kc ks M) : p.tables.exec = Jvm.exec := C.1
theorem gC_own {l : Launch} {D : va_G} {B : Nat} {p : Program} {R : Room} {s : State} {m : MethodId} {args : Array Value} {meth : Method} {c : Code} {cells slots mc ms fr lo kc ks : Nat} {M : Mi_} (C : gC l D B p R s m args meth c cells slots mc ms fr lo kc ks M) : s.vm.findClass M.1.cls = some m.cls := C.2.2.2.2.1
theorem gC_ts {l : Launch} {D : va_G} {B : Nat} {p : Program} {R : Room} {s : State} {m : MethodId} {args : Array Value} {meth : Method} {c : Code} {cells slots mc ms fr lo kc ks : Nat} {M : Mi_} (C : gC l D B p R s m args meth c cells slots mc ms fr lo kc ks M) : ∀ w ∈ gAll, w.before args s = true := C.2.2.2.2.2.1
theorem gC_E {l : Launch} {D : va_G} {B : Nat} {p : Program} {R : Room} {s : State} {m : MethodId} {args : Array Value} {meth : Method} {c : Code} {cells slots mc ms fr lo kc ks : Nat} {M : Mi_} (C : gC l D B p R s m args meth c cells slots mc ms fr lo kc ks M) : gE D B s s.heap := C.2.2.2.2.2.2.2.2.2.2.1
theorem gC_B {l : Launch} {D : va_G} {B : Nat} {p : Program} {R : Room} {s : State} {m : MethodId} {args : Array Value} {meth : Method} {c : Code} {cells slots mc ms fr lo kc ks : Nat} {M : Mi_} (C : gC l D B p R s m args meth c cells slots mc ms fr lo kc ks M) : B ≤ s.heap.size := C.2.2.2.2.2.2.2.2.2.2.2.1
theorem gC_oth {l : Launch} {D : va_G} {B : Nat} {p : Program} {R : Room} {s : State} {m : MethodId} {args : Array Value} {meth : Method} {c : Code} {cells slots mc ms fr lo kc ks : Nat} {M : Mi_} (C : gC l D B p R s m args meth c cells slots mc ms fr lo kc ks M) {w : Cond} (hw : w ∈ gOth) : w.before args s = true := gOth_use (List.mem_filter.mp hw).2 ((gC_E C).2.2.2.2.1 w hw)
theorem gW_set {D : va_G} {B : Nat} {s : State} {h : Hp_} {H H1 : Heap} {q : Nat} {e : Ent_} (hW : gW D B s h H) (he : gEn D B s q e H1) (hz : H1.size = H.size) (hq : ∀ x : Nat, x ≠ q → H1[x]? = H[x]?) : gW D B s (gu h q e) H1 := by
  refine ⟨by rw [hz]; exact hW.1, fun x e' hx => ?_⟩
  by_cases n : x = q
  · subst n
    rw [gu_same] at hx
    cases hx
    exact he
  · rw [gu_ne n] at hx
    exact gEn_kept (hW.2 x e' hx) (hq x n)
theorem gW_push {D : va_G} {B : Nat} {s : State} {h : Hp_} {H H1 : Heap} {e : Ent_} (hW : gW D B s h H) (he : gEn D B s H.size e H1) (hz : H1.size = H.size + 1) (hq : ∀ x : Nat, x < H.size → H1[x]? = H[x]?) : gW D B s (gu h H.size e) H1 := by
  refine ⟨by rw [hz]; exact Nat.le_succ_of_le hW.1, fun x e' hx => ?_⟩
  by_cases n : x = H.size
  · subst n
    rw [gu_same] at hx
    cases hx
    exact he
  · rw [gu_ne n] at hx
    exact gEn_kept (hW.2 x e' hx) (hq x (gEn_lt (hW.2 x e' hx)))
theorem gW_fresh {D : va_G} {B : Nat} {s : State} {h : Hp_} {H : Heap} (hW : gW D B s h H) : h H.size = none := by
  cases hh : h H.size with
  | none => rfl
  | some e => exact absurd (gEn_lt (hW.2 _ _ hh)) (Nat.lt_irrefl _)
/-- a class whose fields the tables tell -/
def gCok (r : vw_C) (ty : Nat → FieldType) : Prop := (∀ w ∈ u_ws r.1 r.2.1 r.2.2, w ∈ gAll) ∧ (∀ k, k < r.2.2 → parseFieldDescriptor (r.2.1 k).2.2.1 = some (ty k)) ∧ ∀ a, a < r.2.2 → ∀ b, b < r.2.2 → a ≠ b → (r.2.1 a).2.1 ≠ (r.2.1 b).2.1
/-- a field's link: of class own, at idx: field k of class ci -/
def gFl (own : String) (idx ci k : Nat) : Prop := ∃ (r : vw_C) (ty : Nat → FieldType), gCl[ci]? = some r ∧ gCok r ty ∧ k < r.2.2 ∧ (Cond.fieldLink own idx (r.2.1 k).1 (r.2.1 k).2.1 (r.2.1 k).2.2.1 ∈ gAll ∨ ∃ host, Cond.fieldLinkNest own idx (r.2.1 k).1 (r.2.1 k).2.1 (r.2.1 k).2.2.1 host ∈ gOth)
/-- .. one that may be written, of type t -/
def gPt (own : String) (idx ci k : Nat) (t : FieldType) : Prop := ∃ (r : vw_C) (ty : Nat → FieldType), gCl[ci]? = some r ∧ gCok r ty ∧ k < r.2.2 ∧ ty k = t ∧ (r.2.1 k).2.2.2 = false ∧ (Cond.fieldLink own idx (r.2.1 k).1 (r.2.1 k).2.1 (r.2.1 k).2.2.1 ∈ gAll ∨ ∃ host, Cond.fieldLinkNest own idx (r.2.1 k).1 (r.2.1 k).2.1 (r.2.1 k).2.2.1 host ∈ gOth)
/-- .. a final one, by its own constructor -/
def gPf (own : String) (idx ci k : Nat) (t : FieldType) : Prop := ∃ (r : vw_C) (ty : Nat → FieldType), gCl[ci]? = some r ∧ gCok r ty ∧ k < r.2.2 ∧ ty k = t ∧ (r.2.1 k).2.2.2 = true ∧ (r.2.1 k).1 = own ∧ Cond.fieldLink own idx (r.2.1 k).1 (r.2.1 k).2.1 (r.2.1 k).2.2.1 ∈ gAll
section GHEAP
variable {fr lo kc ks pc : Nat} (M : Mi_) {lv : List (Nat × Value)} {st : List Value} {h : Hp_} {Q : Ot_ → Hp_ → Prop}
theorem g_get {idx ci k a : Nat} {fs : List Value} {v : Value} (d : decode M.2.1 pc = .ok (.getfield idx, 3)) (f : gFl M.1.cls idx ci k) (hh : h a = some (.inr (ci, fs))) (hv : fs[k]? = some v) (kk : gG fr lo kc ks M (pc + 3) lv (v :: st) h Q) : gG fr lo kc ks M pc lv (.ref a :: st) h Q := by
  intro l D B p e R s m args below meth c H locs cells slots mc ms ls C hW hS hL
  obtain ⟨hB, r, hr, hlen, hob⟩ := hW.2 a _ hh
  obtain ⟨r', ty, hr', ⟨hok1, hok2, hok3⟩, hk, hl⟩ := f
  cases hr.symm.trans hr'
  have hP : va_P D gCl [(a, .inr (ci, fs))] H := by
    intro j q hq
    have hz : j < 1 := (List.getElem?_eq_some_iff.mp hq).1
    rw [show j = 0 by omega] at hq
    cases hq
    exact ⟨r, hr, hob⟩
  obtain ⟨C0, T, N⟩ := r
  rcases hl with hl | ⟨host, hl⟩
  · exact va_get (D := D) (cl := gCl) (tys := []) (gC_hx C) C.2.1 (gC_ts C) hok1 (gC_own C) (gC_E C).1 hP 0 rfl hr k hk (gC_ts C _ hl) (fun _ h9 => h9) hv d (kk C hW hS hL)
  · exact va_getN (D := D) (cl := gCl) (tys := []) (gC_hx C) C.2.1 (gC_ts C) hok1 (gC_own C) (gC_E C).1 hP 0 rfl hr k hk (gC_oth C hl) (fun _ h9 => h9) hv d (kk C hW hS hL)
theorem g_put {idx ci k a : Nat} {fs : List Value} {v : Value} {t : FieldType} (d : decode M.2.1 pc = .ok (.putfield idx, 3)) (f : gPt M.1.cls idx ci k t) (hh : h a = some (.inr (ci, fs))) (hn : narrow t v = v) (hft : fits t v = true) (kk : gG fr lo kc ks M (pc + 3) lv st (gu h a (.inr (ci, fs.set k v))) Q) : gG fr lo kc ks M pc lv (v :: .ref a :: st) h Q := by
  intro l D B p e R s m args below meth c H locs cells slots mc ms ls C hW hS hL
  obtain ⟨hB, r, hr, hlen, hob⟩ := hW.2 a _ hh
  obtain ⟨r', ty, hr', ⟨hok1, hok2, hok3⟩, hk, ht, hfin, hl⟩ := f
  cases hr.symm.trans hr'
  obtain ⟨C0, T, N⟩ := r
  have hts := gC_ts C
  have hK : va_K D gCl [] s := (gC_E C).1
  have hap := va_apart (own := M.1.cls) hts hok1 ty hok2 hok3 hK hr
  obtain ⟨cell, q1, q2, q3, q4⟩ := hob
  obtain ⟨hSl, hfc, kC, hkC, hkind⟩ := hK.1 ci _ hr
  obtain ⟨cf, kf, fi, f, hi, hsl⟩ := hSl k hk
  have hlay := hts _ (hok1 _ (u_in_lay hk))
  unfold u_lay at hlay
  rw [if_neg (by show ¬ (T k).2.2.2 = true; rw [show (T k).2.2.2 = false from hfin]; decide)] at hlay
  have hst := (u_facts hfc hkC (u_lays hts hok1 hk) hi).1
  have h6 := u_store hfc hkC hkind hlay hi (hok2 k hk) (by rw [ht]; exact hn) (by rw [ht]; exact hft)
  have fin : ∀ H' : Heap, H'[a]? = some (cell.setSlot f.slot v) → H'.size = H.size → (∀ q, q ≠ a → H'[q]? = H[q]?) → W p l e R s m args below meth c H' (locs ++ [⟨a, f.slot⟩]) cells slots (vx_MQ below (gQ Q D B) (gX Q D B) args s mc ms (fun q => B ≤ q)) (F0 m (pc + 3) ls st) := by
    intro H' e1 e2 e3
    rw [hsl] at e1
    refine kk C (gW_set hW ⟨hB, (C0, T, N), hr, by rw [List.length_set]; exact hlen, t_OB.to (V := updV (vp_V fs) k v) ⟨_, e1, q2, q3, t_set q4 hap hk v⟩ (fun j _ => vp_updV_set (by rw [hlen]; exact hk) v j)⟩ e2 e3) (hS.put e2 e3 hB) hL
  rcases hl with hl | ⟨host, hl⟩
  · exact W.putK (gC_hx C) C.2.1 (f := f) ⟨gC_own C, hts _ hl, ⟨_, _, _, hi⟩, hst⟩ (by rw [q2]; exact h6) q1 q3 (by rw [hsl]; exact k2_hasslot (q4 k hk)) rfl rfl d fin
  · exact va_WputK (gC_hx C) C.2.1 (f := f) (gC_own C) (gC_oth C hl) hi hst (by rw [q2]; exact h6) q1 q3 (by rw [hsl]; exact k2_hasslot (q4 k hk)) rfl rfl d fin
theorem g_putF {idx ci k a : Nat} {fs : List Value} {v : Value} {t : FieldType} (d : decode M.2.1 pc = .ok (.putfield idx, 3)) (f : gPf M.1.cls idx ci k t) (hin : M.1.name = "<init>") (hh : h a = some (.inr (ci, fs))) (hn : narrow t v = v) (hft : fits t v = true) (kk : gG fr lo kc ks M (pc + 3) lv st (gu h a (.inr (ci, fs.set k v))) Q) : gG fr lo kc ks M pc lv (v :: .ref a :: st) h Q := by
  intro l D B p e R s m args below meth c H locs cells slots mc ms ls C hW hS hL
  obtain ⟨hB, r, hr, hlen, hob⟩ := hW.2 a _ hh
  obtain ⟨r', ty, hr', ⟨hok1, hok2, hok3⟩, hk, ht, hfin, hdecl, hl⟩ := f
  cases hr.symm.trans hr'
  obtain ⟨C0, T, N⟩ := r
  have hts := gC_ts C
  have hK : va_K D gCl [] s := (gC_E C).1
  have hap := va_apart (own := M.1.cls) hts hok1 ty hok2 hok3 hK hr
  obtain ⟨cell, q1, q2, q3, q4⟩ := hob
  obtain ⟨hSl, hfc, kC, hkC, hkind⟩ := hK.1 ci _ hr
  obtain ⟨cf, kf, fi, f, hi, hsl⟩ := hSl k hk
  have hlay := hts _ (hok1 _ (u_in_lay hk))
  unfold u_lay at hlay
  rw [if_pos (show (T k).2.2.2 = true from hfin)] at hlay
  have hst := (u_facts hfc hkC (u_lays hts hok1 hk) hi).1
  have hcf : m.cls = cf := by
    obtain ⟨_, _, c', _, _, _, -, -, hf', -, -, -, hown2, -⟩ := Cond.laysFinal_spec hlay
    have e1 : c' = cf := by have := hi.symm.trans hf'; simp at this; exact this.1.symm
    rw [show (T k).1 = M.1.cls from hdecl] at hown2
    rw [← e1]; exact Option.some.inj ((gC_own C).symm.trans hown2)
  have h6 := u_fits hfc hkC hkind (Or.inr hlay) hi (hok2 k hk) (by rw [ht]; exact hn) (by rw [ht]; exact hft)
  have hnm : meth.name = "<init>" := C.2.2.2.2.2.2.2.1.trans hin
  refine W.putFinK (gC_hx C) C.2.1 (gC_own C) (hts _ hl) hi hst hcf hnm (by rw [q2]; exact h6) q1 q3 (by rw [hsl]; exact k2_hasslot (q4 k hk)) rfl rfl d fun H' e1 e2 e3 => ?_
  rw [hsl] at e1 ⊢
  exact kk C (gW_set hW ⟨hB, (C0, T, N), hr, by rw [List.length_set]; exact hlen, t_OB.to (V := updV (vp_V fs) k v) ⟨_, e1, q2, q3, t_set q4 hap hk v⟩ (fun j _ => vp_updV_set (by rw [hlen]; exact hk) v j)⟩ e2 e3) (hS.put e2 e3 hB) hL
/-- a class that is made at idx of class own -/
def gNw (own : String) (idx ci : Nat) (fs : List Value) : Prop := ∃ (r : vw_C) (ty : Nat → FieldType), gCl[ci]? = some r ∧ gCok r ty ∧ fs.length = r.2.2 ∧ (∀ j, j < r.2.2 → defaultValue (ty j) = vp_V fs j) ∧ Cond.classLink own idx r.1 ∈ gAll ∧ Cond.instantiable r.1 r.2.2 ∈ gAll ∧ Cond.initialized r.1 ∈ gAll
theorem gC_pushed {l : Launch} {D : va_G} {B : Nat} {p : Program} {R : Room} {s : State} {m : MethodId} {args : Array Value} {meth : Method} {c : Code} {cells slots mc ms fr lo kc ks kc' ks' N : Nat} {M : Mi_} (C : gC l D B p R s m args meth c cells slots mc ms fr lo kc ks M) (h1 : 1 + kc' ≤ kc) (h2 : N + ks' ≤ ks) : gC l D B p R s m args meth c (cells + 1) (slots + N) mc ms fr lo kc' ks' M ∧ cells + 1 ≤ R.cells ∧ slots + N ≤ R.slots := by
  obtain ⟨c1, c2, c3, c4, c5, c6, c7, c8, c9, c10, c11, c12, c13, c14, c15, c16, c17, c18⟩ := C
  exact ⟨⟨c1, c2, c3, c4, c5, c6, c7, c8, c9, c10, c11, c12, c13, c14, by omega, by omega, c17, c18⟩, by omega, by omega⟩
theorem gS_push {B : Nat} {s : State} {H H1 : Heap} {locs : List Loc} (hB : B ≤ s.heap.size) (hS : va_S (fun q => B ≤ q) s.heap H locs) (hz : H1.size = H.size + 1) (hq : ∀ x : Nat, x < H.size → H1[x]? = H[x]?) : va_S (fun q => B ≤ q) s.heap H1 locs :=
  ⟨Nat.le_trans hS.1 (by omega), fun x h1 h2 => (hq x (Nat.lt_of_lt_of_le h1 hS.1)).trans (hS.2.1 x h1 h2), hS.2.2⟩
theorem g_new {idx ci kc' ks' N : Nat} {fs : List Value} (d : decode M.2.1 pc = .ok (.new idx, 3)) (f : gNw M.1.cls idx ci fs) (hN : fs.length = N) (hkc : 1 + kc' ≤ kc) (hks : N + ks' ≤ ks) (kk : ∀ q : Nat, h q = none → gG fr lo kc' ks' M (pc + 3) lv (.ref q :: st) (gu h q (.inr (ci, fs))) Q) : gG fr lo kc ks M pc lv st h Q := by
  intro l D B p e R s m args below meth c H locs cells slots mc ms ls C hW hS hL
  obtain ⟨⟨C0, T, N9⟩, ty, hr, ⟨hok1, hok2, hok3⟩, hlen, hdef, hl1, hl2, hl3⟩ := f
  have hN9 : N9 = N := hlen.symm.trans hN
  subst hN9
  obtain ⟨C', b1, b2⟩ := gC_pushed C hkc hks
  have hts := gC_ts C
  have hKn := (gC_E C).1.1 ci _ hr
  refine W.newcK (gC_hx C) C.2.1 (gC_own C) (hts _ hl1) (hts _ hl2) (hts _ hl3) rfl d b1 b2 hKn.2.1 rfl fun H1 kC hkC e1 z1 o1 => ?_
  exact kk H.size (gW_fresh hW) C' (gW_push hW ⟨hW.1, (C0, T, N9), hr, hlen, (u_born ty hts hok1 hKn hkC e1 hok2).to hdef⟩ z1 o1) (gS_push (gC_B C) hS z1 o1) hL
/-- the array whose elements are all the default of its type -/
def gZ (ty : FieldType) (N : Nat) : vp_A := match ty with
  | .long => (N, .inr (.inl (fun _ => 0)))
  | _ => (N, .inl (fun _ => 0))
theorem g_newarray {at' : ArrayType} {ty : FieldType} {n : Int32} {N kc' ks' : Nat} (d : decode M.2.1 pc = .ok (.newarray at', 2)) (hty : newarray.typeOf at' = ty) (hw : Cond.arrayClass ty ∈ gAll) (h4 : ty = .int ∨ ty = .char ∨ ty = .long) (hn : ¬ n < 0) (hN : n.toNatClampNeg = N) (hb8 : N ≤ 67108864) (hkc : 1 + kc' ≤ kc) (hks : N + ks' ≤ ks) (kk : ∀ q : Nat, h q = none → gG fr lo kc' ks' M (pc + 2) lv (.ref q :: st) (gu h q (.inl (false, ty, gZ ty N))) Q) : gG fr lo kc ks M pc lv (.int n :: st) h Q := by
  intro l D B p e R s m args below meth c H locs cells slots mc ms ls C hW hS hL
  obtain ⟨C', b1, b2⟩ := gC_pushed C hkc hks
  have hts := gC_ts C
  subst hty
  refine va_newaK (gC_hx C) C.2.1 (hts _ hw) rfl d rfl hn hN (by rcases h4 with h4 | h4 | h4 <;> rw [h4] <;> simp only [componentBytes] <;> omega) b1 b2 rfl fun H1 cA e1 z1 o1 hAr hNm => ?_
  refine kk H.size (gW_fresh hW) C' (gW_push hW ⟨hW.1, cA, ?_, hAr, ?_⟩ z1 o1) (gS_push (gC_B C) hS z1 o1) hL
  · rw [e1]
    rcases h4 with h4 | h4 | h4 <;> rw [h4] <;> rfl
  · rcases h4 with h4 | h4 | h4 <;> rw [h4] at hNm ⊢ <;> exact hNm
end GHEAP
