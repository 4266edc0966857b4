/-! ===== rows of the abstract machine: arrays ===== -/
section GARR
variable {fr lo kc ks pc : Nat} (M : Mi_) {lv : List (Nat × Value)} {st : List Value} {h : Hp_} {Q : Ot_ → Hp_ → Prop}
theorem g_iaload {a n : Nat} {b : Bool} {f : Nat → Int32} {i : Int32} (d : decode M.2.1 pc = .ok (.iaload, 1)) (hh : h a = some (.inl (b, .int, (n, .inl f)))) (hin : vp_in i n) (kk : gG fr lo kc ks M (pc + 1) lv (.int (f i.toNatClampNeg) :: st) h Q) : gG fr lo kc ks M pc lv (.int i :: .ref a :: st) h Q := by
  intro l D B p e R s m args below meth c H locs cells slots mc ms ls C hW hS hL
  have hlt : i.toNatClampNeg < n := Nat.not_le.mp fun q => hin (Or.inr q)
  have hen := hW.2 a _ hh
  cases b with
  | true =>
    obtain ⟨-, -, f', hf, scr, h1, h2, h3, h4, h5⟩ := hen
    cases hf
    exact W.iald (v := .int (f i.toNatClampNeg)) (gC_hx C) C.2.1 h1 h2 h3 (by rw [h4]; exact hin) (h5 _ hlt) rfl rfl d (kk C hW hS hL)
  | false =>
    obtain ⟨-, cA, h1, h2, h3⟩ := hen
    exact W.iald (v := .int (f i.toNatClampNeg)) (gC_hx C) C.2.1 h1 (h2 n (fun j => .int (f j))) (fun q => by cases q) (by show ¬ (i < 0 ∨ (arrV _ _ _).slots.size ≤ _); rw [arrV_size]; exact hin) (by show (arrV _ _ _).slots[_]? = _; rw [arrV_read _ _ hlt]) rfl rfl d (kk C hW hS hL)
theorem g_caload {a n : Nat} {f : Nat → Int32} {i : Int32} (d : decode M.2.1 pc = .ok (.caload, 1)) (hh : h a = some (.inl (false, .char, (n, .inl f)))) (hin : vp_in i n) (kk : gG fr lo kc ks M (pc + 1) lv (.int (f i.toNatClampNeg) :: st) h Q) : gG fr lo kc ks M pc lv (.int i :: .ref a :: st) h Q := by
  intro l D B p e R s m args below meth c H locs cells slots mc ms ls C hW hS hL
  have hlt : i.toNatClampNeg < n := Nat.not_le.mp fun q => hin (Or.inr q)
  obtain ⟨-, cA, h1, h2, h3⟩ := hW.2 a _ hh
  exact W.cald (v := .int (f i.toNatClampNeg)) (gC_hx C) C.2.1 h1 (h2 n (fun j => .int (f j))) (fun q => by cases q) (by show ¬ (i < 0 ∨ (arrV _ _ _).slots.size ≤ _); rw [arrV_size]; exact hin) (by show (arrV _ _ _).slots[_]? = _; rw [arrV_read _ _ hlt]) rfl rfl d (kk C hW hS hL)
theorem g_laload {a n : Nat} {f : Nat → Int64} {i : Int32} (d : decode M.2.1 pc = .ok (.laload, 1)) (hh : h a = some (.inl (false, .long, (n, .inr (.inl f))))) (hin : vp_in i n) (kk : gG fr lo kc ks M (pc + 1) lv (.long (f i.toNatClampNeg) :: st) h Q) : gG fr lo kc ks M pc lv (.int i :: .ref a :: st) h Q := by
  intro l D B p e R s m args below meth c H locs cells slots mc ms ls C hW hS hL
  have hlt : i.toNatClampNeg < n := Nat.not_le.mp fun q => hin (Or.inr q)
  obtain ⟨-, cA, h1, h2, h3⟩ := hW.2 a _ hh
  exact W.lald (v := .long (f i.toNatClampNeg)) (gC_hx C) C.2.1 h1 (h2 n (fun j => .long (f j))) (fun q => by cases q) (by show ¬ (i < 0 ∨ (arrV _ _ _).slots.size ≤ _); rw [arrV_size]; exact hin) (by show (arrV _ _ _).slots[_]? = _; rw [arrV_read _ _ hlt]) rfl rfl d (kk C hW hS hL)
theorem g_aaload {a n q : Nat} {E : String} {f : Nat → Option Nat} {i : Int32} (d : decode M.2.1 pc = .ok (.aaload, 1)) (hh : h a = some (.inl (false, .object E, (n, .inr (.inr (.inr (.inr f))))))) (hin : vp_in i n) (hq : f i.toNatClampNeg = some q) (kk : gG fr lo kc ks M (pc + 1) lv (.ref q :: st) h Q) : gG fr lo kc ks M pc lv (.int i :: .ref a :: st) h Q := by
  intro l D B p e R s m args below meth c H locs cells slots mc ms ls C hW hS hL
  have hlt : i.toNatClampNeg < n := Nat.not_le.mp fun q => hin (Or.inr q)
  obtain ⟨-, cA, h1, h2, h3⟩ := hW.2 a _ hh
  exact W.aald (v := .ref q) (ty := .object E) (gC_hx C) C.2.1 h1 (h2 n (fun j => va_rf (f j))) rfl (fun q => by cases q) (by show ¬ (i < 0 ∨ (arrV _ _ _).slots.size ≤ _); rw [arrV_size]; exact hin) (by show (arrV _ _ _).slots[_]? = _; rw [arrV_read _ _ hlt, hq]; rfl) rfl rfl d (kk C hW hS hL)
theorem g_alen {a n : Nat} {b : Bool} {ty : FieldType} {z : (Nat → Int32) ⊕ (Nat → Int64) ⊕ (Nat → UInt32) ⊕ (Nat → UInt64) ⊕ (Nat → Option Nat)} (d : decode M.2.1 pc = .ok (.arraylength, 1)) (hh : h a = some (.inl (b, ty, (n, z)))) (kk : gG fr lo kc ks M (pc + 1) lv (.int (nI n) :: st) h Q) : gG fr lo kc ks M pc lv (.ref a :: st) h Q := by
  intro l D B p e R s m args below meth c H locs cells slots mc ms ls C hW hS hL
  have hen := hW.2 a _ hh
  cases b with
  | true =>
    obtain ⟨-, -, f', hf, scr, h1, h2, h3, h4, h5⟩ := hen
    exact W.alen (n := nI n) (gC_hx C) C.2.1 h1 h2 (by rw [h4]; rfl) rfl rfl d (kk C hW hS hL)
  | false =>
    obtain ⟨-, cA, h1, h2, h3⟩ := hen
    have hv : ∃ F : Nat → Value, vp_cell cA (n, z) = arrV cA n F := by
      rcases z with z | z | z | z | z
      · exact ⟨fun j => .int (z j), rfl⟩
      · exact ⟨fun j => .long (z j), rfl⟩
      · exact ⟨fun j => .float (z j), rfl⟩
      · exact ⟨fun j => .double (z j), rfl⟩
      · exact ⟨fun j => va_rf (z j), rfl⟩
    obtain ⟨F, hF⟩ := hv
    rw [hF] at h1
    exact W.alen (n := nI n) (gC_hx C) C.2.1 h1 (h2 n F) (by rw [arrV_size]; rfl) rfl rfl d (kk C hW hS hL)
theorem g_iastore {a n : Nat} {f : Nat → Int32} {i x : Int32} (d : decode M.2.1 pc = .ok (.iastore, 1)) (hh : h a = some (.inl (false, .int, (n, .inl f)))) (hin : vp_in i n) (kk : gG fr lo kc ks M (pc + 1) lv st (gu h a (.inl (false, .int, (n, .inl (upd f i.toNatClampNeg x))))) Q) : gG fr lo kc ks M pc lv (.int x :: .int i :: .ref a :: st) h Q := by
  intro l D B p e R s m args below meth c H locs cells slots mc ms ls C hW hS hL
  obtain ⟨hB, cA, h1, h2, h3⟩ := hW.2 a _ hh
  refine W.iast (gC_hx C) C.2.1 h1 (h2 n (fun j => .int (f j))) (fun q => by cases q) (by show ¬ (i < 0 ∨ (arrV _ _ _).slots.size ≤ _); rw [arrV_size]; exact hin) rfl rfl d fun H1 e1 z1 o1 => ?_
  refine kk C (gW_set hW ⟨hB, cA, ?_, h2, h3⟩ z1 o1) (hS.put z1 o1 hB) hL
  rw [e1, vp_cell_i, vp_cell_i, arrV_store]
  congr 2
  funext q
  by_cases hq : q = i.toNatClampNeg
  · subst hq
    simp [updV, upd]
  · simp [updV, upd, hq]
theorem g_castore {a n : Nat} {f : Nat → Int32} {i x : Int32} (d : decode M.2.1 pc = .ok (.castore, 1)) (hh : h a = some (.inl (false, .char, (n, .inl f)))) (hin : vp_in i n) (hx : narrow .char (.int x) = .int x) (kk : gG fr lo kc ks M (pc + 1) lv st (gu h a (.inl (false, .char, (n, .inl (upd f i.toNatClampNeg x))))) Q) : gG fr lo kc ks M pc lv (.int x :: .int i :: .ref a :: st) h Q := by
  intro l D B p e R s m args below meth c H locs cells slots mc ms ls C hW hS hL
  obtain ⟨hB, cA, h1, h2, h3⟩ := hW.2 a _ hh
  refine W.cast (gC_hx C) C.2.1 h1 (h2 n (fun j => .int (f j))) (fun q => by cases q) (by show ¬ (i < 0 ∨ (arrV _ _ _).slots.size ≤ _); rw [arrV_size]; exact hin) rfl rfl d fun H1 e1 z1 o1 => ?_
  refine kk C (gW_set hW ⟨hB, cA, ?_, h2, h3⟩ z1 o1) (hS.put z1 o1 hB) hL
  rw [e1, hx, vp_cell_i, vp_cell_i, arrV_store]
  congr 2
  funext q
  by_cases hq : q = i.toNatClampNeg
  · subst hq
    simp [updV, upd]
  · simp [updV, upd, hq]
theorem g_lastore {a n : Nat} {f : Nat → Int64} {i : Int32} {x : Int64} (d : decode M.2.1 pc = .ok (.lastore, 1)) (hh : h a = some (.inl (false, .long, (n, .inr (.inl f))))) (hin : vp_in i n) (kk : gG fr lo kc ks M (pc + 1) lv st (gu h a (.inl (false, .long, (n, .inr (.inl (vp_updL f i.toNatClampNeg x)))))) Q) : gG fr lo kc ks M pc lv (.long x :: .int i :: .ref a :: st) h Q := by
  intro l D B p e R s m args below meth c H locs cells slots mc ms ls C hW hS hL
  obtain ⟨hB, cA, h1, h2, h3⟩ := hW.2 a _ hh
  refine W.last (gC_hx C) C.2.1 h1 (h2 n (fun j => .long (f j))) (fun q => by cases q) (by show ¬ (i < 0 ∨ (arrV _ _ _).slots.size ≤ _); rw [arrV_size]; exact hin) rfl rfl d fun H1 e1 z1 o1 => ?_
  refine kk C (gW_set hW ⟨hB, cA, ?_, h2, h3⟩ z1 o1) (hS.put z1 o1 hB) hL
  rw [e1]
  show some ((arrV cA n (fun j => .long (f j))).setSlot _ _) = some (arrV cA n (fun j => .long (vp_updL f i.toNatClampNeg x j)))
  rw [arrV_store]
  congr 2
  funext q
  by_cases hq : q = i.toNatClampNeg
  · subst hq
    simp [updV, vp_updL]
  · simp [updV, vp_updL, hq]
theorem g_aastore {a n v ci : Nat} {E : String} {f : Nat → Option Nat} {i : Int32} {vs : List Value} {r : vw_C} (d : decode M.2.1 pc = .ok (.aastore, 1)) (hh : h a = some (.inl (false, .object E, (n, .inr (.inr (.inr (.inr f))))))) (hv : h v = some (.inr (ci, vs))) (hc : gCl[ci]? = some r) (hE : r.1 = E) (hin : vp_in i n) (kk : gG fr lo kc ks M (pc + 1) lv st (gu h a (.inl (false, .object E, (n, .inr (.inr (.inr (.inr (va_up f i.toNatClampNeg (some v))))))))) Q) : gG fr lo kc ks M pc lv (.ref v :: .int i :: .ref a :: st) h Q := by
  intro l D B p e R s m args below meth c H locs cells slots mc ms ls C hW hS hL
  subst hE
  have hlt : i.toNatClampNeg < n := Nat.not_le.mp fun q => hin (Or.inr q)
  have h0 : ¬ i < 0 := fun q => hin (Or.inl q)
  obtain ⟨hB, cA, h1, h2, h3⟩ := hW.2 a _ hh
  obtain ⟨hBv, r', hr', hlen, cellV, g1, g2, g3, -⟩ := hW.2 v _ hv
  cases hc.symm.trans hr'
  have hcls := ((gC_E C).1.1 ci r hc).2
  obtain ⟨kA, comp, k1, k2, k3, k4⟩ := id h3
  have hcomp : comp = D.1 ci := Option.some.inj (k3.symm.trans hcls.1)
  subst hcomp
  obtain ⟨kC, hkC, -⟩ := id hcls.2
  refine W.aast (gC_hx C) C.2.1 h1 (fun q h => by cases h) (fun h => by cases h) k1 k2 rfl hkC ⟨h0, by show _ < (arrV _ _ _).slots.size; rw [arrV_size]; exact hlt⟩ g1 (fun q h => by rw [g3] at h; cases h) (by rw [g2]; exact hkC) (by rw [g2]; exact va_assign hcls) rfl rfl d fun H1 e1 z1 o1 => ?_
  refine kk C (gW_set hW ⟨hB, cA, ?_, h2, h3⟩ z1 o1) (hS.put z1 o1 hB) hL
  rw [e1, vp_cell_q, vp_cell_q, arrV_store]
  congr 2
  funext q
  by_cases hq : q = i.toNatClampNeg
  · subst hq
    simp [updV, va_up, va_rf]
  · simp [updV, va_up, hq]
theorem g_anewarray {idx : Nat} {E : String} {n : Int32} {N kc' ks' : Nat} (d : decode M.2.1 pc = .ok (.anewarray idx, 3)) (hw : Cond.classLink M.1.cls idx E ∈ gAll) (ho : Cond.arrayOver (.object E) ∈ gOth) (hn : ¬ n < 0) (hN : n.toNatClampNeg = N) (hb8 : N ≤ 67108864) (hkc : 1 + kc' ≤ kc) (hks : N + ks' ≤ ks) (kk : ∀ q : Nat, h q = none → gG fr lo kc' ks' M (pc + 3) lv (.ref q :: st) (gu h q (.inl (false, .object E, (N, .inr (.inr (.inr (.inr (fun _ => none)))))))) Q) : gG fr lo kc ks M pc lv (.int n :: st) h Q := by
  intro l D B p e R s m args below meth c H locs cells slots mc ms ls C hW hS hL
  obtain ⟨C', b1, b2⟩ := gC_pushed C hkc hks
  subst hN
  refine W.anew (gC_hx C) C.2.1 (gC_own C) (gC_ts C _ hw) (gC_oth C ho) rfl d rfl hn (by omega) b1 b2 fun cA kA comp f1 f2 f3 f4 => ?_
  generalize hH1 : H.push ({ cls := cA, slots := Array.replicate n.toNatClampNeg .null, vm := .none } : Cell) = H1
  have z1 : H1.size = H.size + 1 := by rw [← hH1, Array.size_push]
  have e1 : H1[H.size]? = some (arrV cA n.toNatClampNeg (fun _ => .null)) := by rw [← hH1, Array.getElem?_push_size, ← arrV_new]
  have o1 : ∀ q : Nat, q < H.size → H1[q]? = H[q]? := fun q hq => by rw [← hH1, Array.getElem?_push, if_neg (Nat.ne_of_lt hq)]
  have hAr : ArrOfT s cA (.object E) := fun N z => ⟨(fun k h => by cases h), kA, f2, comp, f3⟩
  exact kk H.size (gW_fresh hW) C' (gW_push hW ⟨hW.1, cA, e1, hAr, kA, comp, f2, f3, f4, f1⟩ z1 o1) (gS_push (gC_B C) hS z1 o1) hL
/-- System.arraycopy between two arrays of ints, or of chars -/
theorem g_copy {idx a0 a n0 n1 : Nat} {ty : FieldType} {f g : Nat → Int32} {sp dp n : Int32} (d : decode M.2.1 pc = .ok (.invokestatic idx, 3)) (hw1 : Cond.methodLink M.1.cls idx arraycopyName ∈ gAll) (hw2 : Cond.native arraycopyName ∈ gAll) (hw3 : Cond.static arraycopyName ∈ gAll) (hw4 : Cond.initialized "java/lang/System" ∈ gAll)
    (h0 : h a0 = some (.inl (false, ty, (n0, .inl f)))) (h1 : h a = some (.inl (false, ty, (n1, .inl g)))) (hprim : refKind ty = false) (s1 : ¬ sp < 0) (s2 : ¬ dp < 0) (s3 : ¬ n < 0) (s4 : sp.toNatClampNeg + n.toNatClampNeg ≤ n0) (s5 : dp.toNatClampNeg + n.toNatClampNeg ≤ n1) (hfit : ∀ i, i < n.toNatClampNeg → fits ty (.int (f (sp.toNatClampNeg + i))) = true)
    (hfr : 1 ≤ fr) (hlo : (st.map fun v => v.category).sum + (nativeFrameWords "java/lang/System" "arraycopy" 5 + 11) ≤ lo)
    (kk : gG fr lo kc ks M (pc + 3) lv st (gu h a (.inl (false, ty, (n1, .inl (va_cpy f g sp.toNatClampNeg dp.toNatClampNeg n.toNatClampNeg))))) Q) : gG fr lo kc ks M pc lv (.int n :: .int dp :: .ref a :: .int sp :: .ref a0 :: st) h Q := by
  intro l D B p e R s m args below meth c H locs cells slots mc ms ls C hW hS hL
  have nn : ∀ z : Int32, ¬ z < 0 → z.toInt = (z.toNatClampNeg : Int) := by
    intro z hz
    have hz0 : (0 : Int) ≤ z.toInt := by
      have := Int32.not_lt.mp hz
      simpa using Int32.le_iff_toInt_le.mp this
    show z.toInt = ((z.toInt.toNat : Nat) : Int)
    omega
  obtain ⟨-, c0, hc0, t0, -⟩ := hW.2 a0 _ h0
  obtain ⟨hB, c1, hc1, t1, t1'⟩ := hW.2 a _ h1
  have hts := gC_ts C
  have hfrR : fr ≤ R.frames := C.2.2.2.2.2.2.2.2.2.2.2.2.1
  have hloR : lo ≤ R.locals := C.2.2.2.2.2.2.2.2.2.2.2.2.2.1
  have hml : c.maxLocals = ls.size := C.2.2.2.1.trans hL.1.symm
  intro T hT X
  obtain ⟨-, k0, hk0, cm0, hkk0⟩ := t0 n0 (fun j => .int (f j))
  obtain ⟨-, k1, hk1, cm1, hkk1⟩ := id (t1 n1 (fun j => .int (g j)))
  obtain ⟨vm', X', step⟩ := X.arraycopy (gC_hx C) (gC_own C) (hts _ hw1) (hts _ hw2) (hts _ hw3) (hts _ hw4) (src := a0) (dst := a) (cs := vp_cell c0 (n0, .inl f)) (cd := vp_cell c1 (n1, .inl g)) (srcPos := sp) (destPos := dp) (n := n) (by rw [hT]; exact hc0) (by rw [hT]; exact hc1)
    (fun _ h => by cases h) (fun _ h => by cases h) (fun h => by cases h) (fun h => by cases h) hk0 hk1 hkk0 hkk1 (by simp [hprim]) s1 s2 s3
    (by rw [nn sp s1, nn n s3]; show ¬ _ > ((arrV c0 n0 (fun j => .int (f j))).slots.size : Int); rw [arrV_size]; omega)
    (by rw [nn dp s2, nn n s3]; show ¬ _ > ((arrV c1 n1 (fun j => .int (g j))).slots.size : Int); rw [arrV_size]; omega)
    (fun vm₁ _ i hi => by
      have e : (vp_cell c0 (n0, .inl f)).slots.getD (sp.toNatClampNeg + i) .null = .int (f (sp.toNatClampNeg + i)) := by
        show (arrV c0 n0 (fun j => .int (f j))).slots.getD _ _ = _
        rw [Array.getD_eq_getD_getElem?, arrV_read _ _ (by omega)]
        rfl
      refine ⟨?_, ?_⟩
      · rw [e]
        exact hfit i hi
      · rw [e]
        exact trivial)
    (g := F0 m pc ls (.int n :: .int dp :: .ref a :: .int sp :: .ref a0 :: st)) rfl (by rw [hml]) (rest := st) rfl (by rw [C.2.1]; exact d) (by omega) (by show 2 * 0 + _ + _ ≤ _; omega)
  have e1 : copied (vp_cell c0 (n0, .inl f)) (vp_cell c1 (n1, .inl g)) sp dp n = vp_cell c1 (n1, .inl (va_cpy f g sp.toNatClampNeg dp.toNatClampNeg n.toNatClampNeg)) := va_copied (fun z => .int z) c0 c1 f g s4
  rw [e1] at X' step
  have hl : a < H.size := (Array.getElem?_eq_some_iff.mp hc1).1
  have hheap : ((T.setVm vm').setCell a (vp_cell c1 (n1, .inl (va_cpy f g sp.toNatClampNeg dp.toNatClampNeg n.toNatClampNeg)))).heap = H.setIfInBounds a (vp_cell c1 (n1, .inl (va_cpy f g sp.toNatClampNeg dp.toNatClampNeg n.toNatClampNeg))) := by rw [← hT]; rfl
  have oq : ∀ q : Nat, q ≠ a → (H.setIfInBounds a (vp_cell c1 (n1, .inl (va_cpy f g sp.toNatClampNeg dp.toNatClampNeg n.toNatClampNeg))))[q]? = H[q]? := fun q hq => by simp [Array.getElem?_setIfInBounds, Ne.symm hq]
  have hz : (H.setIfInBounds a (vp_cell c1 (n1, .inl (va_cpy f g sp.toNatClampNeg dp.toNatClampNeg n.toNatClampNeg)))).size = H.size := by simp
  obtain ⟨t, a1, b1⟩ := kk C (gW_set hW ⟨hB, c1, (show (H.setIfInBounds a _)[a]? = some _ by simp [Array.getElem?_setIfInBounds, hl]), t1, t1'⟩ hz oq) ⟨by rw [hz]; exact hS.1, fun q g1 g2 => by
      rw [oq q (fun e => g2 (by rw [e]; exact hB))]
      exact hS.2.1 q g1 g2, fun q hq => by
      rcases List.mem_append.mp hq with h | h
      · exact hS.2.2 q h
      · obtain ⟨z, -, hz⟩ := List.mem_map.mp h
        rw [← hz]
        exact hB⟩ hL _ hheap X'
  exact ⟨t, step t a1, b1⟩
end GARR
