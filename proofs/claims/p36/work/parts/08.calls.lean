/-! ===== rows of the abstract machine: returns, throws, calls ===== -/
section GEND
variable {fr lo kc ks pc : Nat} (M : Mi_) {lv : List (Nat × Value)} {st : List Value} {h : Hp_} {Q : Ot_ → Hp_ → Prop}
theorem gC_wid {l : Launch} {D : va_G} {B : Nat} {p : Program} {R : Room} {s : State} {m : MethodId} {args : Array Value} {meth : Method} {c : Code} {cells slots mc ms fr lo kc ks : Nat} {M : Mi_} (C : gC l D B p R s m args meth c cells slots mc ms fr lo kc ks M) : cells ≤ mc ∧ slots ≤ ms := by
  obtain ⟨c1, c2, c3, c4, c5, c6, c7, c8, c9, c10, c11, c12, c13, c14, c15, c16, c17, c18⟩ := C
  exact ⟨by omega, by omega⟩
theorem gQ_ret {D : va_G} {B : Nat} {s : State} {H : Heap} {locs : List Loc} {args : Array Value} {v : Option Value} (hq : Q (.inl v) h) (hW : gW D B s h H) (hS : va_S (fun q => B ≤ q) s.heap H locs) (t : State) (ht : t.heap = H) (hWm : s.WarmedH t.vm) : gQ Q D B args s (.returned v) t := by
  refine ⟨⟨v, h, rfl, hq, ?_⟩, hS.F ht⟩
  rw [ht]
  exact gW_at hWm.alike hW
theorem g_iret {x : Int32} {ty : FieldType} (d : decode M.2.1 pc = .ok (.ireturn, 1)) (hr : M.2.2.2.1 = some ty) (hn : narrow ty (.int x) = .int x) (hq : Q (.inl (some (.int x))) h) : gG fr lo kc ks M pc lv [.int x] h Q := by
  intro l D B p e R s m args below meth c H locs cells slots mc ms ls C hW hS hL
  refine W.widen (gC_wid C).1 (gC_wid C).2 (vx_ret ?_)
  exact W.zret (gC_hx C) C.2.1 (C.2.2.1.trans hr) hn (fun t ht hWm => gQ_ret hq hW hS t ht hWm) hS.2.2 d C.2.2.2.2.2.2.1
theorem g_vret (d : decode M.2.1 pc = .ok (.return_, 1)) (hr : M.2.2.2.1 = none) (hq : Q (.inl none) h) : gG fr lo kc ks M pc lv [] h Q := by
  intro l D B p e R s m args below meth c H locs cells slots mc ms ls C hW hS hL
  refine W.widen (gC_wid C).1 (gC_wid C).2 (vx_ret ?_)
  exact W.vret (gC_hx C) C.2.1 (C.2.2.1.trans hr) (fun t ht hWm => gQ_ret hq hW hS t ht hWm) hS.2.2 d C.2.2.2.2.2.2.1
/-- Object's constructor -/
theorem g_objInit {idx a : Nat} (d : decode M.2.1 pc = .ok (.invokespecial idx, 3)) (hw1 : Cond.methodLink M.1.cls idx Lib.objectInit ∈ gAll) (hw2 : Cond.instanceMethod Lib.objectInit ∈ gAll) (hw3 : Cond.code Lib.objectInit ⟨#[0xb1]⟩ 1 none ∈ gAll) (hfr : 1 ≤ fr) (hlo : (st.map fun v => v.category).sum + 12 ≤ lo) (k : gG fr lo kc ks M (pc + 3) lv st h Q) : gG fr lo kc ks M pc lv (.ref a :: st) h Q := by
  intro l D B p e R s m args below meth c H locs cells slots mc ms ls C hW hS hL
  have hts := gC_ts C
  have hfrR : fr ≤ R.frames := C.2.2.2.2.2.2.2.2.2.2.2.2.1
  have hloR : lo ≤ R.locals := C.2.2.2.2.2.2.2.2.2.2.2.2.2.1
  exact W.objInit (gC_hx C) C.2.1 (gC_own C) (hts _ hw1) (hts _ hw2) (hts _ hw3) rfl (by show ls.size = _; rw [hL.1, C.2.2.2.1]) rfl d (by omega) (by show 2 * 0 + _ + 12 ≤ _; omega) (k C hW hS hL)
theorem g_max {idx : Nat} {x y : Int32} (d : decode M.2.1 pc = .ok (.invokestatic idx, 3)) (hw1 : Cond.methodLink M.1.cls idx Lib.Math.max.name ∈ gAll) (hw2 : Cond.static Lib.Math.max.name ∈ gAll) (hw3 : Cond.initialized "java/lang/Math" ∈ gAll) (hw4 : Cond.code Lib.Math.max.name Lib.Math.max.code 2 (some .int) ∈ gAll) (hfr : 1 ≤ fr) (hlo : (st.map fun v => v.category).sum + 13 ≤ lo) (k : gG fr lo kc ks M (pc + 3) lv (.int (if x < y then y else x) :: st) h Q) : gG fr lo kc ks M pc lv (.int y :: .int x :: st) h Q := by
  intro l D B p e R s m args below meth c H locs cells slots mc ms ls C hW hS hL
  have hts := gC_ts C
  have hfrR : fr ≤ R.frames := C.2.2.2.2.2.2.2.2.2.2.2.2.1
  have hloR : lo ≤ R.locals := C.2.2.2.2.2.2.2.2.2.2.2.2.2.1
  have h17 : mc ≤ R.cells := C.2.2.2.2.2.2.2.2.2.2.2.2.2.2.2.2.1
  have h18 : ms ≤ R.slots := C.2.2.2.2.2.2.2.2.2.2.2.2.2.2.2.2.2
  exact va_mmax (gC_hx C) C.2.1 (C.2.2.2.1.trans hL.1.symm) (gC_own C) (hts _ hw1) (hts _ hw2) (hts _ hw3) (hts _ hw4) (by omega) (by omega) (Nat.le_trans (gC_wid C).1 h17) (Nat.le_trans (gC_wid C).2 h18) d (k C hW hS hL)
theorem g_min {idx : Nat} {x y : Int32} (d : decode M.2.1 pc = .ok (.invokestatic idx, 3)) (hw1 : Cond.methodLink M.1.cls idx Lib.Math.min.name ∈ gAll) (hw2 : Cond.static Lib.Math.min.name ∈ gAll) (hw3 : Cond.initialized "java/lang/Math" ∈ gAll) (hw4 : Cond.code Lib.Math.min.name Lib.Math.min.code 2 (some .int) ∈ gAll) (hfr : 1 ≤ fr) (hlo : (st.map fun v => v.category).sum + 13 ≤ lo) (k : gG fr lo kc ks M (pc + 3) lv (.int (if y < x then y else x) :: st) h Q) : gG fr lo kc ks M pc lv (.int y :: .int x :: st) h Q := by
  intro l D B p e R s m args below meth c H locs cells slots mc ms ls C hW hS hL
  have hts := gC_ts C
  have hfrR : fr ≤ R.frames := C.2.2.2.2.2.2.2.2.2.2.2.2.1
  have hloR : lo ≤ R.locals := C.2.2.2.2.2.2.2.2.2.2.2.2.2.1
  have h17 : mc ≤ R.cells := C.2.2.2.2.2.2.2.2.2.2.2.2.2.2.2.2.1
  have h18 : ms ≤ R.slots := C.2.2.2.2.2.2.2.2.2.2.2.2.2.2.2.2.2
  exact va_mmin (gC_hx C) C.2.1 (C.2.2.2.1.trans hL.1.symm) (gC_own C) (hts _ hw1) (hts _ hw2) (hts _ hw3) (hts _ hw4) (by omega) (by omega) (Nat.le_trans (gC_wid C).1 h17) (Nat.le_trans (gC_wid C).2 h18) d (k C hW hS hL)
/-- 'throw new E("text")' in a method without handlers -/
def gTh (own : String) (ik is ic : Nat) (cls text : String) : Prop := Bundle.fit cls = true ∧ Cond.classLink own ik cls ∈ gAll ∧ Cond.initialized cls ∈ gAll ∧ (own, is, text) ∈ gStr ∧ (∀ w ∈ vx_atS own ic cls ["java/lang/RuntimeException", "java/lang/Exception"], w ∈ gAll ∨ w ∈ gOth) ∧ ∀ w ∈ Cond.classLink own ik cls :: Cond.initialized cls :: vx_atS own ic cls ["java/lang/RuntimeException", "java/lang/Exception"], vx_ot w = true
theorem gX_throw {D : va_G} {B : Nat} {s : State} {H : Heap} {locs : List Loc} {E : String} (hq : Q (.inr E) h) (hW : gW D B s h H) (hS : va_S (fun q => B ≤ q) s.heap H locs) (t : State) (hal : s.vm.Alike t.vm) (hz : H.size ≤ t.heap.size) (hk : ∀ q : Nat, q < H.size → t.heap[q]? = H[q]?) : gX Q D B E s t := by
  refine ⟨⟨h, hq, gW_at hal ⟨Nat.le_trans hW.1 hz, fun q e' hx => gEn_kept (hW.2 q e' hx) (hk q (gEn_lt (hW.2 q e' hx)))⟩⟩, Nat.le_trans hS.1 hz, fun q h1 h2 => (hk q (Nat.lt_of_lt_of_le h1 hS.1)).trans (hS.2.1 q h1 h2)⟩
theorem g_throw {ik is ic : Nat} {cls text : String} (f : gTh M.1.cls ik is ic cls text) (hh : M.2.2.2.2 = [])
    (d0 : decode M.2.1 pc = .ok (.new ik, 3)) (d3 : decode M.2.1 (pc + 3) = .ok (.dup, 1)) (d4 : decode M.2.1 (pc + 4) = .ok (.ldc is, 2)) (d6 : decode M.2.1 (pc + 6) = .ok (.invokespecial ic, 3)) (d9 : decode M.2.1 (pc + 9) = .ok (.athrow, 1))
    (hfr : 6 ≤ fr) (hlo : (st.map fun v => v.category).sum + 82 ≤ lo) (hkc : 1 ≤ kc) (hks : 6 ≤ ks) (hq : Q (.inr cls) h) : gG fr lo kc ks M pc lv st h Q := by
  intro l D B p e R s m args below meth c H locs cells slots mc ms ls C hW hS hL
  have hts := gC_ts C
  have hE := gC_E C
  obtain ⟨f1, f2, f3, f4, f5, f6⟩ := f
  obtain ⟨sa, hstr⟩ := hE.2.2.2.1 _ f4
  obtain ⟨c1, c2, c3, c4, c5, c6, c7, c8, c9, c10, c11, c12, c13, c14, c15, c16, c17, c18⟩ := C
  refine vx_throwS (names := ["java/lang/RuntimeException", "java/lang/Exception"]) (A := fun q => B ≤ q) c1 c2 c10 c5 f1 (by decide +kernel) (hts _ f2) (hts _ f3) hstr (fun w hw => ?_) f6 hE.2.1 hE.2.2.1 hS (hL.1.trans c4.symm) d0 d3 d4 d6 d9 ?_ (by show 2 + 3 < _; omega) (by show _ + (13 * (2 + 1) + 43) ≤ _; omega) (by omega) (by omega) c7 (fun t hal hz hk => gX_throw hq hW hS t hal hz hk) hS.2.2 (by omega) (by omega)
  · rcases f5 w hw with hg | hg
    · exact hts _ hg
    · exact gOth_use (List.mem_filter.mp hg).2 (hE.2.2.2.2.1 w hg)
  · intro x hx
    rw [c9, hh] at hx
    cases hx
theorem g_throwW {ik is ic : Nat} {cls text : String} (f : gTh M.1.cls ik is ic cls text) (hh : M.2.2.2.2 = [])
    (d0 : decode M.2.1 pc = .ok (.new ik, 3)) (d3 : decode M.2.1 (pc + 3) = .ok (.dup, 1)) (d4 : decode M.2.1 (pc + 4) = .ok (.ldc_w is, 3)) (d7 : decode M.2.1 (pc + 7) = .ok (.invokespecial ic, 3)) (d10 : decode M.2.1 (pc + 10) = .ok (.athrow, 1))
    (hfr : 6 ≤ fr) (hlo : (st.map fun v => v.category).sum + 82 ≤ lo) (hkc : 1 ≤ kc) (hks : 6 ≤ ks) (hq : Q (.inr cls) h) : gG fr lo kc ks M pc lv st h Q := by
  intro l D B p e R s m args below meth c H locs cells slots mc ms ls C hW hS hL
  have hts := gC_ts C
  have hE := gC_E C
  obtain ⟨f1, f2, f3, f4, f5, f6⟩ := f
  obtain ⟨sa, hstr⟩ := hE.2.2.2.1 _ f4
  obtain ⟨c1, c2, c3, c4, c5, c6, c7, c8, c9, c10, c11, c12, c13, c14, c15, c16, c17, c18⟩ := C
  refine vx_throwSW (names := ["java/lang/RuntimeException", "java/lang/Exception"]) (A := fun q => B ≤ q) c1 c2 c10 c5 f1 (by decide +kernel) (hts _ f2) (hts _ f3) hstr (fun w hw => ?_) f6 hE.2.1 hE.2.2.1 hS (hL.1.trans c4.symm) d0 d3 d4 d7 d10 ?_ (by show 2 + 3 < _; omega) (by show _ + (13 * (2 + 1) + 43) ≤ _; omega) (by omega) (by omega) c7 (fun t hal hz hk => gX_throw hq hW hS t hal hz hk) hS.2.2 (by omega) (by omega)
  · rcases f5 w hw with hg | hg
    · exact hts _ hg
    · exact gOth_use (List.mem_filter.mp hg).2 (hE.2.2.2.2.1 w hg)
  · intro x hx
    rw [c9, hh] at hx
    cases hx
/-- not caught here -/
theorem gx_out {E : String} (hh : M.2.2.2.2 = []) (hq : Q (.inr E) h) : gGX fr lo kc ks M pc lv E h Q := by
  intro l D B p e R s m args below meth c H locs cells slots mc ms ls rest q ce C hW hS hL hce hcv hcl
  have hwid := gC_wid C
  obtain ⟨c1, c2, c3, c4, c5, c6, c7, c8, c9, c10, c11, c12, c13, c14, c15, c16, c17, c18⟩ := C
  refine vx_out (E := E) (fun x hx => ?_) c7 hce hcv hcl (fun t ht hal => ?_) hS.2.2 hwid.1 hwid.2
  · rw [c9, hh] at hx
    cases hx
  · exact gX_throw hq hW hS t hal (by rw [ht]; exact Nat.le_refl _) (fun q _ => by rw [ht])
/-- caught: the handlers ahead are passed -/
theorem gx_catch {E : String} (pre : List (Nat × Nat × Nat × Nat)) (x : Nat × Nat × Nat × Nat) (suf : List (Nat × Nat × Nat × Nat)) (hh : M.2.2.2.2 = pre ++ x :: suf) (hpre : ∀ z ∈ pre, z.2.2.2 ≠ 0 ∧ ∃ nm, Cond.classLink M.1.cls z.2.2.2 nm ∈ gAll ∧ (E, nm) ∈ gNc) (h0 : x.2.2.2 ≠ 0) (hcov : covers ⟨x.1, x.2.1, x.2.2.1, x.2.2.2⟩ pc = true) (hl : Cond.classLink M.1.cls x.2.2.2 E ∈ gAll) (hc : Cond.castable E E ∈ gOth)
    (kk : ∀ q : Nat, gG fr lo kc ks M x.2.2.1 lv [.ref q] h Q) : gGX fr lo kc ks M pc lv E h Q := by
  intro l D B p e R s m args below meth c H locs cells slots mc ms ls rest q ce C hW hS hL hce hcv hcl
  have htb : c.exceptionTable.toList = tableOf M.2.2.2.2 := C.2.2.2.2.2.2.2.2.1
  refine vx_catch (own := M.1.cls) (name := E) (E := E) (gC_own C) (tableOf pre) ⟨x.1, x.2.1, x.2.2.1, x.2.2.2⟩ (tableOf suf) (by rw [htb, hh]; simp [tableOf]) (fun z hz => ?_) hcov h0 (gC_ts C _ hl) (gC_oth C hc) hce hcv hcl (kk q C hW hS hL)
  obtain ⟨z0, hz0, rfl⟩ := List.mem_map.mp hz
  obtain ⟨g1, nm, g2, g3⟩ := hpre z0 hz0
  exact Or.inr ⟨g1, nm, gC_ts C _ g2, (gC_E C).2.2.2.2.2 _ g3⟩
end GEND
/-! calls -/
/-- what the tables say of a callee -/
def gCl0 (M2 : Mi_) (n : Nat) : Prop := Cond.initialized M2.1.cls ∈ gAll ∧ gHead M2 ∈ gAll ∧ (M2.1.cls ≠ "java/lang/invoke/MethodHandle" ∧ M2.1.cls ≠ "java/lang/invoke/VarHandle" ∧ (parseMethodDescriptor M2.1.desc).map (fun d => d.parameters.length) = some n) ∧ plainName M2.1.cls = true
def gCV (own : String) (idx : Nat) (M2 : Mi_) (n ci : Nat) : Prop := gCl0 M2 n ∧ M2.2.2.2.2 = [] ∧ Cond.methodLink own idx M2.1 ∈ gAll ∧ Cond.instanceMethod M2.1 ∈ gAll ∧ Cond.selects M2.1.cls M2.1 M2.1 ∈ gAll ∧ ∃ r : vw_C, gCl[ci]? = some r ∧ r.1 = M2.1.cls
def gCS (own : String) (idx : Nat) (M2 : Mi_) (n : Nat) : Prop := gCl0 M2 n ∧ Cond.methodLink own idx M2.1 ∈ gAll ∧ Cond.static M2.1 ∈ gAll
def gCN (own : String) (idx : Nat) (M2 : Mi_) (n : Nat) : Prop := gCl0 M2 n ∧ M2.2.2.2.2 = [] ∧ (∃ host, Cond.methodLinkNest own idx M2.1 host ∈ gOth) ∧ Cond.static M2.1 ∈ gAll
def gCI (own : String) (idx : Nat) (M2 : Mi_) (n : Nat) : Prop := gCl0 M2 n ∧ M2.2.2.2.2 = [] ∧ M2.2.2.2.1 = none ∧ (Cond.methodLink own idx M2.1 ∈ gAll ∨ ∃ host, Cond.methodLinkNest own idx M2.1 host ∈ gOth) ∧ M2.1.name = "<init>" ∧ Cond.instanceMethod M2.1 ∈ gAll
section GCALL
variable {fr lo kc ks pc : Nat} (M : Mi_) {lv : List (Nat × Value)} {st : List Value} {h : Hp_} {Q : Ot_ → Hp_ → Prop}
variable {M2 : Mi_} {n ci b idx fr' lo' kc' ks' kc'' ks'' : Nat} {fs : List Value} {As rest : List Value} {Q2 : Ot_ → Hp_ → Prop}
theorem gC_left {l : Launch} {D : va_G} {B : Nat} {p : Program} {R : Room} {s : State} {m : MethodId} {args : Array Value} {meth : Method} {c : Code} {cells slots mc ms fr lo kc ks : Nat} {M : Mi_} (C : gC l D B p R s m args meth c cells slots mc ms fr lo kc ks M) (hkc : kc' + kc'' ≤ kc) (hks : ks' + ks'' ≤ ks) : gC l D B p R s m args meth c (cells + kc') (slots + ks') mc ms fr lo kc'' ks'' M ∧ cells + kc' ≤ R.cells ∧ slots + ks' ≤ R.slots := by
  obtain ⟨c1, c2, c3, c4, c5, c6, c7, c8, c9, c10, c11, c12, c13, c14, c15, c16, c17, c18⟩ := C
  exact ⟨⟨c1, c2, c3, c4, c5, c6, c7, c8, c9, c10, c11, c12, c13, c14, by omega, by omega, c17, c18⟩, by omega, by omega⟩
/-- behind a call: it returned, or it threw -/
theorem g_after {l : Launch} {D : va_G} {B : Nat} {p : Program} {e : Env} {R : Room} {s : State} {m : MethodId} {args : Array Value} {below : List Frame} {meth : Method} {c : Code} {H : Heap} {locs : List Loc} {cells slots mc ms : Nat} {ls : Array Slot} {av : Array Value}
    (C : gC l D B p R s m args meth c cells slots mc ms fr lo kc ks M) (hkc : kc' + kc'' ≤ kc) (hks : ks' + ks'' ≤ ks) (hS : va_S (fun q => B ≤ q) s.heap H locs) (hL : gL ls M.2.2.1 lv)
    (hr : vx_Run p l e R s m args below meth c H locs cells slots kc' ks' (F0 m pc ls st) rest (gQ Q2 D B av) (gX Q2 D B) (fun q => B ≤ q))
    (kx : ∀ E h', Q2 (.inr E) h' → gGX fr lo kc'' ks'' M pc lv E h' Q) (kk : ∀ v h', Q2 (.inl v) h' → gG fr lo kc'' ks'' M (pc + 3) lv (v.toList ++ rest) h' Q) :
    W p l e R s m args below meth c H locs cells slots (vx_MQ below (gQ Q D B) (gX Q D B) args s mc ms (fun q => B ≤ q)) (F0 m pc ls st) := by
  obtain ⟨C', -, -⟩ := gC_left C hkc hks
  intro T hT X
  rcases hr T hT X with ⟨v, st₀, t, T', L, h0, X', hLf, e1, e2, ⟨⟨v', h', hv, hq, hw⟩, hF⟩, stp⟩ | ⟨q, st₀, t, T', L, E, ce, h0, X', hLf, e1, e2, ⟨⟨h', hq, hw⟩, hF⟩, hce, hcv, hcl, stp⟩
  · cases hv
    obtain ⟨k1, k2, k3⟩ := vx_keep h0 e1 hS (fun q _ h => h) (fun q h => h) hLf hF
    have hal : s.vm.Alike t.vm := by rw [← e2]; exact X'.warmed.alike
    obtain ⟨t2, a1, b1⟩ := kk v h' hq C' (by rw [e1]; exact gW_at hal.symm hw) k3 hL T' rfl X'
    exact ⟨t2, stp t2 a1, b1⟩
  · obtain ⟨k1, k2, k3⟩ := vx_keep h0 e1 hS (fun q _ h => h) (fun q h => h) hLf hF
    have hal : s.vm.Alike t.vm := by rw [← e2]; exact X'.warmed.alike
    obtain ⟨t2, a1, b1⟩ := kx E h' hq C' (by rw [e1]; exact gW_at hal.symm hw) k3 hL (by rw [e1]; exact hce) hcv hcl T' rfl X'
    exact ⟨t2, stp.trans a1, b1⟩
theorem gAll_in {w0 : Cond} (hw0 : w0 ∈ gAll) : GoodIn gAll (w0 :: gAll) := by
  intro w hw
  rcases List.mem_cons.mp hw with rfl | hw
  · exact ⟨hw0, good_of_word (gAll_good hw0)⟩
  · exact ⟨hw, good_of_word (gAll_good hw)⟩
theorem g_callV (d : decode M.2.1 pc = .ok (.invokevirtual idx, 3)) (cw : gCV M.1.cls idx M2 n ci) (hst : st = As.reverse ++ .ref b :: rest) (hn : As.length = n) (hb : h b = some (.inr (ci, fs))) (hcat : (rest.map fun v => v.category).sum ≤ 8) (hsz : (lg_sl (.ref b :: As)).length ≤ M2.2.2.1) (hfr : fr' + 1 ≤ fr) (hlo : 8 + (M2.2.2.1 + 11) + lo' ≤ lo) (hkc : kc' + kc'' ≤ kc) (hks : ks' + ks'' ≤ ks)
    (body : gG fr' lo' kc' ks' M2 0 (lv_args 0 (.ref b :: As)) [] h Q2) (kx : ∀ E h', Q2 (.inr E) h' → gGX fr lo kc'' ks'' M pc lv E h' Q) (kk : ∀ v h', Q2 (.inl v) h' → gG fr lo kc'' ks'' M (pc + 3) lv (v.toList ++ rest) h' Q) : gG fr lo kc ks M pc lv st h Q := by
  intro l D B p e R s m args below meth c H locs cells slots mc ms ls C hW hS hL
  obtain ⟨⟨w1, w2, w3, w4⟩, hh, w5, w6, w7, r, w8, w9⟩ := cw
  obtain ⟨-, b1, b2⟩ := gC_left C hkc hks
  have hts := gC_ts C
  have hE := gC_E C
  have hfrR : fr ≤ R.frames := C.2.2.2.2.2.2.2.2.2.2.2.2.1
  have hloR : lo ≤ R.locals := C.2.2.2.2.2.2.2.2.2.2.2.2.2.1
  have hM := gMt_of (fr := fr') (lo := lo') (kc := kc') (ks := ks') (av := .ref b :: As) w4 hsz body C.2.2.2.2.2.2.2.2.2.1 D B
  obtain ⟨y, bt, mL, rt, hhs⟩ := M2
  cases hh
  obtain ⟨-, r', hr', hlen, cell, q1, q2, q3, -⟩ := hW.2 b _ hb
  cases w8.symm.trans hr'
  have hcl : s.vm.findClass y.cls = some cell.cls := by rw [q2, ← (show r.1 = y.cls from w9)]; exact (hE.1.1 ci r w8).2.1
  have hG : GoodIn gAll (wsV M.1.cls idx y.cls y (gHead (y, bt, mL, rt, []) :: gAll)) := by
    intro w hw
    unfold wsV at hw
    rcases List.mem_append.mp hw with hw | hw
    · simp only [List.mem_cons, List.not_mem_nil, or_false] at hw
      rcases hw with rfl | rfl | rfl | rfl
      · exact ⟨w5, good_of_word (gAll_good w5)⟩
      · exact ⟨w6, good_of_word (gAll_good w6)⟩
      · exact ⟨w7, good_of_word (gAll_good w7)⟩
      · exact ⟨w1, good_of_word (gAll_good w1)⟩
    · exact gAll_in w2 w hw
  refine g_after M (rest := rest) C hkc hks hS hL (vx_runV (As := As) (C := y.cls) ⟨gC_hx C, C.2.1, C.2.2.2.1, gC_own C, hts⟩ hM (cwV n hts hG rfl rfl rfl ⟨rfl, w3⟩ ⟨by show fr' + 1 ≤ _; omega, by show 8 + (mL + 11) + lo' ≤ _; have hlo2 : 8 + (mL + 11) + lo' ≤ lo := hlo; omega⟩) ⟨gP_blind, ⟨cell, q1, by rw [q3]; rfl, hcl⟩, fun U hU hWm => gP_call hE hW hS U hU hWm⟩ rfl hn hL.1 hst (lv_room hcat) (by rw [← C.2.1]; rw [C.2.1]; exact d) ⟨b1, b2⟩) kx kk
theorem g_callS (d : decode M.2.1 pc = .ok (.invokestatic idx, 3)) (cw : gCS M.1.cls idx M2 n) (hh : M2.2.2.2.2 = []) (hst : st = As.reverse ++ rest) (hn : As.length = n) (hcat : (rest.map fun v => v.category).sum ≤ 8) (hsz : (lg_sl As).length ≤ M2.2.2.1) (hfr : fr' + 1 ≤ fr) (hlo : 8 + (M2.2.2.1 + 11) + lo' ≤ lo) (hkc : kc' + kc'' ≤ kc) (hks : ks' + ks'' ≤ ks)
    (body : gG fr' lo' kc' ks' M2 0 (lv_args 0 As) [] h Q2) (kx : ∀ E h', Q2 (.inr E) h' → gGX fr lo kc'' ks'' M pc lv E h' Q) (kk : ∀ v h', Q2 (.inl v) h' → gG fr lo kc'' ks'' M (pc + 3) lv (v.toList ++ rest) h' Q) : gG fr lo kc ks M pc lv st h Q := by
  intro l D B p e R s m args below meth c H locs cells slots mc ms ls C hW hS hL
  obtain ⟨⟨w1, w2, w3, w4⟩, w5, w6⟩ := cw
  obtain ⟨-, b1, b2⟩ := gC_left C hkc hks
  have hts := gC_ts C
  have hE := gC_E C
  have hfrR : fr ≤ R.frames := C.2.2.2.2.2.2.2.2.2.2.2.2.1
  have hloR : lo ≤ R.locals := C.2.2.2.2.2.2.2.2.2.2.2.2.2.1
  have hM := gMt_of (fr := fr') (lo := lo') (kc := kc') (ks := ks') (av := As) w4 hsz body C.2.2.2.2.2.2.2.2.2.1 D B
  obtain ⟨y, bt, mL, rt, hhs⟩ := M2
  cases hh
  have hR9 : (gRm fr' lo' kc' ks').frames + 1 ≤ R.frames ∧ 8 + (mL + 11) + (gRm fr' lo' kc' ks').locals ≤ R.locals := ⟨by show fr' + 1 ≤ _; omega, by show 8 + (mL + 11) + lo' ≤ _; have hlo2 : 8 + (mL + 11) + lo' ≤ lo := hlo; omega⟩
  exact g_after M (rest := rest) C hkc hks hS hL (vx_runS (As := As) ⟨gC_hx C, C.2.1, C.2.2.2.1, gC_own C, hts⟩ hM ⟨callB_of n hts (gAll_in w2) rfl rfl rfl (hts _ w1) (hts _ w5) w3 hR9, hts _ w6⟩ ⟨gP_blind, fun U hU hWm => gP_call hE hW hS U hU hWm⟩ rfl hn hL.1 hst (lv_room hcat) d ⟨b1, b2⟩) kx kk
/-- a static method with handlers -/
theorem g_callSH (d : decode M.2.1 pc = .ok (.invokestatic idx, 3)) (cw : gCS M.1.cls idx M2 n) (hh : M2.2.2.2.2 ≠ []) (hst : st = As.reverse ++ rest) (hn : As.length = n) (hcat : (rest.map fun v => v.category).sum ≤ 8) (hsz : (lg_sl As).length ≤ M2.2.2.1) (hfr : fr' + 1 ≤ fr) (hlo : 8 + (M2.2.2.1 + 11) + lo' ≤ lo) (hkc : kc' + kc'' ≤ kc) (hks : ks' + ks'' ≤ ks)
    (body : gG fr' lo' kc' ks' M2 0 (lv_args 0 As) [] h Q2) (kx : ∀ E h', Q2 (.inr E) h' → gGX fr lo kc'' ks'' M pc lv E h' Q) (kk : ∀ v h', Q2 (.inl v) h' → gG fr lo kc'' ks'' M (pc + 3) lv (v.toList ++ rest) h' Q) : gG fr lo kc ks M pc lv st h Q := by
  intro l D B p e R s m args below meth c H locs cells slots mc ms ls C hW hS hL
  obtain ⟨⟨w1, w2, w3, w4⟩, w5, w6⟩ := cw
  obtain ⟨-, b1, b2⟩ := gC_left C hkc hks
  have hts := gC_ts C
  have hE := gC_E C
  have hfrR : fr ≤ R.frames := C.2.2.2.2.2.2.2.2.2.2.2.2.1
  have hloR : lo ≤ R.locals := C.2.2.2.2.2.2.2.2.2.2.2.2.2.1
  have hM := gMt_of (fr := fr') (lo := lo') (kc := kc') (ks := ks') (av := As) w4 hsz body C.2.2.2.2.2.2.2.2.2.1 D B
  obtain ⟨y, bt, mL, rt, hhs⟩ := M2
  cases hhs with
  | nil => exact absurd rfl hh
  | cons z zs =>
    have hG := gAll_in w2
    exact g_after M (rest := rest) C hkc hks hS hL (vx_runSX (As := As) (hh := z :: zs) (bytes := bt) (maxL := mL) (ret := rt) ⟨gC_hx C, C.2.1, C.2.2.2.1, gC_own C, hts⟩ hM ⟨⟨rfl, rfl, by show fr' + 1 ≤ _; omega, by show 8 + (mL + 11) + lo' ≤ _; have hlo2 : 8 + (mL + 11) + lo' ≤ lo := hlo; omega, pay_in hts hG, List.mem_cons_self⟩, hts _ w2, hts _ w1, ⟨w3.1, w3.2.1⟩, fun sig hs => by
      have h2 := w3.2.2
      rw [show parseMethodDescriptor y.desc = some sig from hs] at h2
      exact (Option.some.inj h2).symm, hts _ w5, hts _ w6⟩ ⟨gP_blind, fun U hU hWm => gP_call hE hW hS U hU hWm⟩ rfl hn hL.1 hst (lv_room hcat) d ⟨b1, b2⟩) kx kk
/-- a private static method of a nest mate -/
theorem g_callN (d : decode M.2.1 pc = .ok (.invokestatic idx, 3)) (cw : gCN M.1.cls idx M2 n) (hst : st = As.reverse ++ rest) (hn : As.length = n) (hcat : (rest.map fun v => v.category).sum ≤ 8) (hsz : (lg_sl As).length ≤ M2.2.2.1) (hfr : fr' + 1 ≤ fr) (hlo : 8 + (M2.2.2.1 + 11) + lo' ≤ lo) (hkc : kc' + kc'' ≤ kc) (hks : ks' + ks'' ≤ ks)
    (body : gG fr' lo' kc' ks' M2 0 (lv_args 0 As) [] h Q2) (kx : ∀ E h', Q2 (.inr E) h' → gGX fr lo kc'' ks'' M pc lv E h' Q) (kk : ∀ v h', Q2 (.inl v) h' → gG fr lo kc'' ks'' M (pc + 3) lv (v.toList ++ rest) h' Q) : gG fr lo kc ks M pc lv st h Q := by
  intro l D B p e R s m args below meth c H locs cells slots mc ms ls C hW hS hL
  obtain ⟨⟨w1, w2, w3, w4⟩, hh, ⟨host, w5⟩, w6⟩ := cw
  obtain ⟨-, b1, b2⟩ := gC_left C hkc hks
  have hts := gC_ts C
  have hE := gC_E C
  have hfrR : fr ≤ R.frames := C.2.2.2.2.2.2.2.2.2.2.2.2.1
  have hloR : lo ≤ R.locals := C.2.2.2.2.2.2.2.2.2.2.2.2.2.1
  have hM := gMt_of (fr := fr') (lo := lo') (kc := kc') (ks := ks') (av := As) w4 hsz body C.2.2.2.2.2.2.2.2.2.1 D B
  obtain ⟨y, bt, mL, rt, hhs⟩ := M2
  cases hh
  have hR9 : (gRm fr' lo' kc' ks').frames + 1 ≤ R.frames ∧ 8 + (mL + 11) + (gRm fr' lo' kc' ks').locals ≤ R.locals := ⟨by show fr' + 1 ≤ _; omega, by show 8 + (mL + 11) + lo' ≤ _; have hlo2 : 8 + (mL + 11) + lo' ≤ lo := hlo; omega⟩
  exact g_after M (rest := rest) C hkc hks hS hL (vx_runSN (As := As) ⟨gC_hx C, C.2.1, C.2.2.2.1, gC_own C, hts⟩ hM ⟨va_cnB n hts (gAll_in w2) rfl rfl rfl (hE.2.2.2.2.1 _ w5) (hts _ w1) w3 hR9, hts _ w6, trivial⟩ ⟨gP_blind, fun U hU hWm => gP_call hE hW hS U hU hWm⟩ rfl hn hL.1 hst (lv_room hcat) d ⟨b1, b2⟩) kx kk
/-- a constructor -/
theorem g_callI (d : decode M.2.1 pc = .ok (.invokespecial idx, 3)) (cw : gCI M.1.cls idx M2 n) (hst : st = As.reverse ++ .ref b :: rest) (hn : As.length = n) (hcat : (rest.map fun v => v.category).sum ≤ 8) (hsz : (lg_sl (.ref b :: As)).length ≤ M2.2.2.1) (hfr : fr' + 1 ≤ fr) (hlo : 8 + (M2.2.2.1 + 11) + lo' ≤ lo) (hkc : kc' + kc'' ≤ kc) (hks : ks' + ks'' ≤ ks)
    (body : gG fr' lo' kc' ks' M2 0 (lv_args 0 (.ref b :: As)) [] h Q2) (kx : ∀ E h', Q2 (.inr E) h' → gGX fr lo kc'' ks'' M pc lv E h' Q) (kk : ∀ v h', Q2 (.inl v) h' → gG fr lo kc'' ks'' M (pc + 3) lv (v.toList ++ rest) h' Q) : gG fr lo kc ks M pc lv st h Q := by
  intro l D B p e R s m args below meth c H locs cells slots mc ms ls C hW hS hL
  obtain ⟨⟨w1, w2, w3, w4⟩, hh, hrt, w5, w6, w7⟩ := cw
  obtain ⟨-, b1, b2⟩ := gC_left C hkc hks
  have hts := gC_ts C
  have hE := gC_E C
  have hfrR : fr ≤ R.frames := C.2.2.2.2.2.2.2.2.2.2.2.2.1
  have hloR : lo ≤ R.locals := C.2.2.2.2.2.2.2.2.2.2.2.2.2.1
  have hM := gMt_of (fr := fr') (lo := lo') (kc := kc') (ks := ks') (av := .ref b :: As) w4 hsz body C.2.2.2.2.2.2.2.2.2.1 D B
  obtain ⟨y, bt, mL, rt, hhs⟩ := M2
  cases hh
  cases hrt
  have hR9 : (gRm fr' lo' kc' ks').frames + 1 ≤ R.frames ∧ 8 + (mL + 11) + (gRm fr' lo' kc' ks').locals ≤ R.locals := ⟨by show fr' + 1 ≤ _; omega, by show 8 + (mL + 11) + lo' ≤ _; have hlo2 : 8 + (mL + 11) + lo' ≤ lo := hlo; omega⟩
  rcases w5 with w5 | ⟨host, w5⟩
  · exact g_after M (rest := rest) C hkc hks hS hL (vx_runI (As := As) ⟨gC_hx C, C.2.1, C.2.2.2.1, gC_own C, hts⟩ hM (cwI n hts (gAll_in w2) rfl rfl rfl (hts _ w1) (hts _ w5) (hts _ w7) w6 w3 hR9) ⟨gP_blind, fun U hU hWm => gP_call hE hW hS U hU hWm⟩ rfl hn hL.1 hst (lv_room hcat) d ⟨b1, b2⟩) kx kk
  · exact g_after M (rest := rest) C hkc hks hS hL (vx_runIN (As := As) ⟨gC_hx C, C.2.1, C.2.2.2.1, gC_own C, hts⟩ hM ⟨va_cnB n hts (gAll_in w2) rfl rfl rfl (hE.2.2.2.2.1 _ w5) (hts _ w1) w3 hR9, w6, hts _ w7⟩ ⟨gP_blind, fun U hU hWm => gP_call hE hW hS U hU hWm⟩ rfl hn hL.1 hst (lv_room hcat) d ⟨b1, b2⟩) kx kk
end GCALL
/-- what a call leaves to be shown -/
def gAft (fr lo kc ks : Nat) (M : Mi_) (pc : Nat) (lv : List (Nat × Value)) (rest : List Value) (Q : Ot_ → Hp_ → Prop) : Ot_ → Hp_ → Prop := fun o h' => match o with
  | .inl none => gG fr lo kc ks M (pc + 3) lv rest h' Q
  | .inl (some v) => gG fr lo kc ks M (pc + 3) lv (v :: rest) h' Q
  | .inr E => gGX fr lo kc ks M pc lv E h' Q
section TCALL
variable {fr lo kc ks pc : Nat} (M : Mi_) {lv : List (Nat × Value)} {st : List Value} {h : Hp_} {Q : Ot_ → Hp_ → Prop}
variable {M2 : Mi_} {n ci b idx fr' lo' kc' ks' : Nat} (kc'' ks'' : Nat) {fs : List Value} (As rest : List Value)
theorem gAft_v {fr lo kc ks : Nat} {M : Mi_} {pc : Nat} {lv : List (Nat × Value)} {rest : List Value} {Q : Ot_ → Hp_ → Prop} : ∀ (v : Option Value) (h' : Hp_), gAft fr lo kc ks M pc lv rest Q (.inl v) h' → gG fr lo kc ks M (pc + 3) lv (v.toList ++ rest) h' Q := by
  intro v h' k
  cases v <;> exact k
theorem gc_V (d : decode M.2.1 pc = .ok (.invokevirtual idx, 3)) (cw : gCV M.1.cls idx M2 n ci) (hb : h b = some (.inr (ci, fs))) (hst : st = As.reverse ++ .ref b :: rest) (hn : As.length = n) (hcat : (rest.map fun v => v.category).sum ≤ 8) (hsz : (lg_sl (.ref b :: As)).length ≤ M2.2.2.1) (hfr : fr' + 1 ≤ fr) (hlo : 8 + (M2.2.2.1 + 11) + lo' ≤ lo) (hkc : kc' + kc'' ≤ kc) (hks : ks' + ks'' ≤ ks)
    (body : gG fr' lo' kc' ks' M2 0 (lv_args 0 (.ref b :: As)) [] h (gAft fr lo kc'' ks'' M pc lv rest Q)) : gG fr lo kc ks M pc lv st h Q :=
  g_callV M d cw hst hn hb hcat hsz hfr hlo hkc hks body (fun _ _ k => k) gAft_v
theorem gc_S (d : decode M.2.1 pc = .ok (.invokestatic idx, 3)) (cw : gCS M.1.cls idx M2 n) (hh : M2.2.2.2.2 = []) (hst : st = As.reverse ++ rest) (hn : As.length = n) (hcat : (rest.map fun v => v.category).sum ≤ 8) (hsz : (lg_sl As).length ≤ M2.2.2.1) (hfr : fr' + 1 ≤ fr) (hlo : 8 + (M2.2.2.1 + 11) + lo' ≤ lo) (hkc : kc' + kc'' ≤ kc) (hks : ks' + ks'' ≤ ks)
    (body : gG fr' lo' kc' ks' M2 0 (lv_args 0 As) [] h (gAft fr lo kc'' ks'' M pc lv rest Q)) : gG fr lo kc ks M pc lv st h Q :=
  g_callS M d cw hh hst hn hcat hsz hfr hlo hkc hks body (fun _ _ k => k) gAft_v
theorem gc_SH (d : decode M.2.1 pc = .ok (.invokestatic idx, 3)) (cw : gCS M.1.cls idx M2 n) (hh : M2.2.2.2.2 ≠ []) (hst : st = As.reverse ++ rest) (hn : As.length = n) (hcat : (rest.map fun v => v.category).sum ≤ 8) (hsz : (lg_sl As).length ≤ M2.2.2.1) (hfr : fr' + 1 ≤ fr) (hlo : 8 + (M2.2.2.1 + 11) + lo' ≤ lo) (hkc : kc' + kc'' ≤ kc) (hks : ks' + ks'' ≤ ks)
    (body : gG fr' lo' kc' ks' M2 0 (lv_args 0 As) [] h (gAft fr lo kc'' ks'' M pc lv rest Q)) : gG fr lo kc ks M pc lv st h Q :=
  g_callSH M d cw hh hst hn hcat hsz hfr hlo hkc hks body (fun _ _ k => k) gAft_v
theorem gc_N (d : decode M.2.1 pc = .ok (.invokestatic idx, 3)) (cw : gCN M.1.cls idx M2 n) (hst : st = As.reverse ++ rest) (hn : As.length = n) (hcat : (rest.map fun v => v.category).sum ≤ 8) (hsz : (lg_sl As).length ≤ M2.2.2.1) (hfr : fr' + 1 ≤ fr) (hlo : 8 + (M2.2.2.1 + 11) + lo' ≤ lo) (hkc : kc' + kc'' ≤ kc) (hks : ks' + ks'' ≤ ks)
    (body : gG fr' lo' kc' ks' M2 0 (lv_args 0 As) [] h (gAft fr lo kc'' ks'' M pc lv rest Q)) : gG fr lo kc ks M pc lv st h Q :=
  g_callN M d cw hst hn hcat hsz hfr hlo hkc hks body (fun _ _ k => k) gAft_v
theorem gc_I (d : decode M.2.1 pc = .ok (.invokespecial idx, 3)) (cw : gCI M.1.cls idx M2 n) (hst : st = As.reverse ++ .ref b :: rest) (hn : As.length = n) (hcat : (rest.map fun v => v.category).sum ≤ 8) (hsz : (lg_sl (.ref b :: As)).length ≤ M2.2.2.1) (hfr : fr' + 1 ≤ fr) (hlo : 8 + (M2.2.2.1 + 11) + lo' ≤ lo) (hkc : kc' + kc'' ≤ kc) (hks : ks' + ks'' ≤ ks)
    (body : gG fr' lo' kc' ks' M2 0 (lv_args 0 (.ref b :: As)) [] h (gAft fr lo kc'' ks'' M pc lv rest Q)) : gG fr lo kc ks M pc lv st h Q :=
  g_callI M d cw hst hn hcat hsz hfr hlo hkc hks body (fun _ _ k => k) gAft_v
end TCALL
