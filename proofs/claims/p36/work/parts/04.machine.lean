/-! ===== the abstract machine: a method's walk over a heap that is a function, one judgement (gG), a row an instruction ===== -/
abbrev Mi_ : Type := MethodName × ByteArray × Nat × Option FieldType × List (Nat × Nat × Nat × Nat)
abbrev Ent_ : Type := (Bool × FieldType × vp_A) ⊕ (Nat × List Value)
abbrev Hp_ : Type := Nat → Option Ent_
abbrev Ot_ : Type := Option Value ⊕ String
def gAll : List Cond := lw_tbl.filter goodWord
def gOthK : Cond → Bool
  | .fieldLinkNest .. => true
  | .methodLinkNest .. => true
  | .castable .. => true
  | .declares .. => true
  | .arrayOver (.object _) => true
  | _ => false
def gOth : List Cond := lw_tbl.filter gOthK
theorem gAll_of {w : Cond} (i : Nat) (h : lw_tbl[i]? = some w) (hg : goodWord w = true) : w ∈ gAll := List.mem_filter.mpr ⟨List.mem_of_getElem? h, hg⟩
theorem gOth_of {w : Cond} (i : Nat) (h : lw_tbl[i]? = some w) (hg : gOthK w = true) : w ∈ gOth := List.mem_filter.mpr ⟨List.mem_of_getElem? h, hg⟩
theorem gAll_good {w : Cond} (h : w ∈ gAll) : goodWord w = true := (List.mem_filter.mp h).2
theorem gOth_warm {w : Cond} (h : gOthK w = true) {s U : State} (hW : s.WarmedH U.vm) (hz : va_Nw w s) : va_Nw w U := by
  cases w with
  | fieldLinkNest a b c d e f => exact va_Nw.warmF hW hz
  | methodLinkNest a b c d => exact va_Nw.warmM hW hz
  | castable a b => exact va_Nw.warmC hW hz
  | declares a => exact va_Nw.warmD hW hz
  | arrayOver ty =>
    cases ty with
    | object C => exact va_AO.moved (C := C) hW.alike hz
    | _ => simp [gOthK] at h
  | _ => simp [gOthK] at h
theorem gOth_same {w : Cond} (h : gOthK w = true) {s U : State} (hv : s.vm = U.vm) (hz : va_Nw w s) : va_Nw w U := by
  cases w with
  | fieldLinkNest a b c d e f => exact va_Nw.same rfl hv hz
  | methodLinkNest a b c d => exact va_Nw.same rfl hv hz
  | castable a b => exact va_Nw.same rfl hv hz
  | declares a => exact va_Nw.same rfl hv hz
  | arrayOver ty =>
    cases ty with
    | object C => exact va_AO.moved (C := C) (by rw [hv]; exact Vm.Alike.refl _) hz
    | _ => simp [gOthK] at h
  | _ => simp [gOthK] at h
theorem gOth_use {w : Cond} (h : gOthK w = true) {s : State} {args : Array Value} (hz : va_Nw w s) : w.before args s = true := by
  cases w with
  | fieldLinkNest a b c d e f => exact va_Nw.use rfl hz
  | methodLinkNest a b c d => exact va_Nw.use rfl hz
  | castable a b => exact va_Nw.use rfl hz
  | declares a => exact va_Nw.use rfl hz
  | arrayOver ty =>
    cases ty with
    | object C => exact va_AO.use (C := C) hz
    | _ => simp [gOthK] at h
  | _ => simp [gOthK] at h
/-- a cell: the script (read only), an array, an object of a class of gCl -/
def gEn (D : va_G) (B : Nat) (s : State) (q : Nat) (e : Ent_) (H : Heap) : Prop := match e with
  | .inl (true, ty, a) => ty = .int ∧ q < B ∧ ∃ f, a.2 = .inl f ∧ va_X q a.1 f s H
  | .inl (false, ty, a) => B ≤ q ∧ ∃ cA : ClassId, H[q]? = some (vp_cell cA a) ∧ ArrOfT s cA ty ∧ va_RA s cA ty
  | .inr (ci, fs) => B ≤ q ∧ ∃ r : vw_C, gCl[ci]? = some r ∧ fs.length = r.2.2 ∧ t_OB q (D.1 ci) r.2.2 (D.2 ci) H (vp_V fs)
def gW (D : va_G) (B : Nat) (s : State) (h : Hp_) (H : Heap) : Prop := B ≤ H.size ∧ ∀ (q : Nat) (e : Ent_), h q = some e → gEn D B s q e H
/-- what stays true of the machine's tables, and of what lies below B -/
def gE (D : va_G) (B : Nat) (U : State) (H : Heap) : Prop :=
  va_K D gCl [] U ∧ vx_Zq Bundle.tN "UNASSIGNED_STACK" Bundle.steD (fun q => B ≤ q) U H ∧ vx_Zq Bundle.tN "SUPPRESSED_SENTINEL" Bundle.listD (fun q => B ≤ q) U H ∧ (∀ q ∈ gStr, ∃ sa, vk_R q.1 q.2.1 q.2.2 sa U) ∧ (∀ w ∈ gOth, va_Nw w U) ∧ ∀ q ∈ gNc, va_Nc q.1 q.2 U
theorem gEn_at {D : va_G} {B : Nat} {s U : State} {q : Nat} {e : Ent_} {H : Heap} (hvm : s.vm.Alike U.vm) (h : gEn D B s q e H) : gEn D B U q e H := by
  rcases e with ⟨b, ty, a⟩ | ⟨ci, fs⟩
  · cases b with
    | true =>
      obtain ⟨h1, h2, f, h3, h4⟩ := h
      exact ⟨h1, h2, f, h3, va_X.moved hvm h4⟩
    | false =>
      obtain ⟨h1, cA, h2, h3, h4⟩ := h
      exact ⟨h1, cA, h2, arrOfT_moved hvm h3, h4.moved hvm⟩
  · exact h
theorem gEn_kept {D : va_G} {B : Nat} {s : State} {q : Nat} {e : Ent_} {H H1 : Heap} (h : gEn D B s q e H) (hq : H1[q]? = H[q]?) : gEn D B s q e H1 := by
  rcases e with ⟨b, ty, a⟩ | ⟨ci, fs⟩
  · cases b with
    | true =>
      obtain ⟨h1, h2, f, h3, h4⟩ := h
      exact ⟨h1, h2, f, h3, va_X.kept h4 hq⟩
    | false =>
      obtain ⟨h1, cA, h2, h3⟩ := h
      exact ⟨h1, cA, hq.trans h2, h3⟩
  · obtain ⟨h1, r, h2, h3, h4⟩ := h
    exact ⟨h1, r, h2, h3, h4.kept hq⟩
theorem gEn_lt {D : va_G} {B : Nat} {s : State} {q : Nat} {e : Ent_} {H : Heap} (h : gEn D B s q e H) : q < H.size := by
  rcases e with ⟨b, ty, a⟩ | ⟨ci, fs⟩
  · cases b with
    | true =>
      obtain ⟨h1, h2, f, h3, scr, h4, -⟩ := h
      exact (Array.getElem?_eq_some_iff.mp h4).1
    | false =>
      obtain ⟨h1, cA, h2, h3⟩ := h
      exact (Array.getElem?_eq_some_iff.mp h2).1
  · obtain ⟨h1, r, h2, h3, cell, h4, -⟩ := h
    exact (Array.getElem?_eq_some_iff.mp h4).1
theorem gW_at {D : va_G} {B : Nat} {s U : State} {h : Hp_} {H : Heap} (hvm : s.vm.Alike U.vm) (hw : gW D B s h H) : gW D B U h H := ⟨hw.1, fun q e hq => gEn_at hvm (hw.2 q e hq)⟩
theorem gE_kept {D : va_G} {B : Nat} {U : State} {H H1 : Heap} (h : gE D B U H) (hq : ∀ a : Nat, a < H.size → ¬ B ≤ a → H1[a]? = H[a]?) : gE D B U H1 := by
  obtain ⟨h1, h2, h3, h4⟩ := h
  exact ⟨h1, h2.kept hq, h3.kept hq, h4⟩
theorem gE_warm {D : va_G} {B : Nat} {s U : State} {H : Heap} (hW : s.WarmedH U.vm) (h : gE D B s H) : gE D B U H := by
  obtain ⟨h1, h2, h3, h4, h5, h6⟩ := h
  refine ⟨va_K.moved hW.alike h1, vx_Zq.moved hW.alike h2, vx_Zq.moved hW.alike h3, fun q hq => ?_, fun w hw => gOth_warm (List.mem_filter.mp hw).2 hW (h5 w hw), fun q hq => va_Nc.moved hW.alike (h6 q hq)⟩
  obtain ⟨sa, h9⟩ := h4 q hq
  exact ⟨sa, vk_R.warm hW h9⟩
theorem gE_same {D : va_G} {B : Nat} {s U : State} {H : Heap} (hv : s.vm = U.vm) (h : gE D B s H) : gE D B U H := by
  have hal : s.vm.Alike U.vm := by rw [hv]; exact Vm.Alike.refl _
  obtain ⟨h1, h2, h3, h4, h5, h6⟩ := h
  refine ⟨va_K.moved hal h1, vx_Zq.moved hal h2, vx_Zq.moved hal h3, fun q hq => ?_, fun w hw => gOth_same (List.mem_filter.mp hw).2 hv (h5 w hw), fun q hq => va_Nc.moved hal (h6 q hq)⟩
  obtain ⟨sa, h9⟩ := h4 q hq
  exact ⟨sa, vk_R.same hv.symm h9⟩
/-- how a method ends: Q of its outcome and of the heap behind it -/
def gQ (Q : Ot_ → Hp_ → Prop) (D : va_G) (B : Nat) : Array Value → State → Outcome → State → Prop := fun _ st o t => (∃ v h', o = .returned v ∧ Q (.inl v) h' ∧ gW D B t h' t.heap) ∧ va_F (fun q => B ≤ q) st t
def gX (Q : Ot_ → Hp_ → Prop) (D : va_G) (B : Nat) : String → State → State → Prop := fun E st t => (∃ h', Q (.inr E) h' ∧ gW D B t h' t.heap) ∧ va_F (fun q => B ≤ q) st t
/-- locals, the last stored first -/
def gl : List (Nat × Value) → Nat → Option Value
  | [], _ => none
  | q :: r, i => if q.1 = i then some q.2 else gl r i
def gL (ls : Array Slot) (nL : Nat) (lv : List (Nat × Value)) : Prop := ls.size = nL ∧ lv_wf ls ∧ ∀ (i : Nat) (v : Value), gl lv i = some v → ls[i]? = some (.val v)
/-- no long lies just below the place -/
def gc (lv : List (Nat × Value)) : Nat → Bool
  | 0 => true
  | i + 1 => match gl lv i with
    | some (.long _) => false
    | some (.double _) => false
    | _ => true
theorem gl_mem {lv : List (Nat × Value)} {i : Nat} {v : Value} (h : gl lv i = some v) : (i, v) ∈ lv := by
  induction lv with
  | nil => cases h
  | cons q r ih =>
    unfold gl at h
    split at h
    · rename_i e
      cases h
      subst e
      exact List.mem_cons_self
    · exact List.mem_cons_of_mem _ (ih h)
theorem gL_of {ls : Array Slot} {nL : Nat} {lv : List (Nat × Value)} (h : lv_has ls nL lv) : gL ls nL lv := ⟨h.1, h.2.1, fun i v hi => h.2.2 (i, v) (gl_mem hi)⟩
theorem gL_store {ls : Array Slot} {nL : Nat} {lv : List (Nat × Value)} {i : Nat} {v : Value} (h : gL ls nL lv) (hi : i < nL) (hv : v.category = 1) (hc : gc lv i = true) : ∃ ls', storeLocals ls i v = some ls' ∧ gL ls' nL ((i, v) :: lv) := by
  obtain ⟨h1, h2, h3⟩ := h
  obtain ⟨ls', e', s1, s2, s3⟩ := lv_store1 (l := []) ⟨h1, h2, fun q hq => by cases hq⟩ hi hv
  refine ⟨ls', e', s1, s2, fun j w hj => ?_⟩
  unfold gl at hj
  split at hj
  · rename_i e
    cases hj
    have e2 : i = j := e
    subst e2
    exact s3 (i, v) List.mem_cons_self
  · rename_i hne
    have hne2 : ¬ i = j := hne
    obtain ⟨ls2, e2, -, -, t3⟩ := lv_store1 (l := [(j, w)]) ⟨h1, h2, fun q hq => by rw [List.mem_singleton.mp hq]; exact h3 j w hj⟩ hi hv
    cases e'.symm.trans e2
    refine t3 (j, w) (List.mem_cons_of_mem _ ?_)
    refine List.mem_filter.mpr ⟨List.mem_singleton.mpr rfl, ?_⟩
    have q1 : (j == i) = false := by simp; exact fun q => hne2 q.symm
    by_cases q2 : j + 1 = i
    · subst q2
      have q3 : (w.category == 2) = false := by
        have hc2 : (match gl lv j with | some (.long _) => false | some (.double _) => false | _ => true) = true := hc
        rw [hj] at hc2
        cases w <;> first | rfl | (simp at hc2)
      simp [q1, q3]
    · have q4 : (j + 1 == i) = false := by simpa using q2
      simp [q1, q4]
theorem gL_sub {ls : Array Slot} {nL : Nat} {lv lv' : List (Nat × Value)} (h : gL ls nL lv) (hs : ∀ (i : Nat) (v : Value), gl lv' i = some v → gl lv i = some v) : gL ls nL lv' := ⟨h.1, h.2.1, fun i v hi => h.2.2 i v (hs i v hi)⟩
/-- the fixed context of a method's walk -/
def gC (l : Launch) (D : va_G) (B : Nat) (p : Program) (R : Room) (s : State) (m : MethodId) (args : Array Value) (meth : Method) (c : Code) (cells slots mc ms : Nat) (fr lo kc ks : Nat) (M : Mi_) : Prop :=
  p.tables.exec = Jvm.exec ∧ c.code = M.2.1 ∧ meth.sig.returnType = M.2.2.2.1 ∧ c.maxLocals = M.2.2.1 ∧ s.vm.findClass M.1.cls = some m.cls ∧ (∀ w ∈ gAll, w.before args s = true) ∧ meth.locks = false ∧ meth.name = M.1.name ∧ c.exceptionTable.toList = tableOf M.2.2.2.2 ∧ l.stackTraces = false ∧ gE D B s s.heap ∧ B ≤ s.heap.size ∧ fr ≤ R.frames ∧ lo ≤ R.locals ∧ cells + kc ≤ mc ∧ slots + ks ≤ ms ∧ mc ≤ R.cells ∧ ms ≤ R.slots
def gG (fr lo kc ks : Nat) (M : Mi_) (pc : Nat) (lv : List (Nat × Value)) (st : List Value) (h : Hp_) (Q : Ot_ → Hp_ → Prop) : Prop :=
  ∀ ⦃l : Launch⦄ ⦃D : va_G⦄ ⦃B : Nat⦄ ⦃p : Program⦄ ⦃e : Env⦄ ⦃R : Room⦄ ⦃s : State⦄ ⦃m : MethodId⦄ ⦃args : Array Value⦄ ⦃below : List Frame⦄ ⦃meth : Method⦄ ⦃c : Code⦄ ⦃H : Heap⦄ ⦃locs : List Loc⦄ ⦃cells slots mc ms : Nat⦄ ⦃ls : Array Slot⦄,
    gC l D B p R s m args meth c cells slots mc ms fr lo kc ks M → gW D B s h H → va_S (fun q => B ≤ q) s.heap H locs → gL ls M.2.2.1 lv →
    W p l e R s m args below meth c H locs cells slots (vx_MQ below (gQ Q D B) (gX Q D B) args s mc ms (fun q => B ≤ q)) (F0 m pc ls st)
/-- a throw on its way, seen from the method's frame -/
def gGX (fr lo kc ks : Nat) (M : Mi_) (pc : Nat) (lv : List (Nat × Value)) (E : String) (h : Hp_) (Q : Ot_ → Hp_ → Prop) : Prop :=
  ∀ ⦃l : Launch⦄ ⦃D : va_G⦄ ⦃B : Nat⦄ ⦃p : Program⦄ ⦃e : Env⦄ ⦃R : Room⦄ ⦃s : State⦄ ⦃m : MethodId⦄ ⦃args : Array Value⦄ ⦃below : List Frame⦄ ⦃meth : Method⦄ ⦃c : Code⦄ ⦃H : Heap⦄ ⦃locs : List Loc⦄ ⦃cells slots mc ms : Nat⦄ ⦃ls : Array Slot⦄ ⦃rest : List Value⦄ ⦃q : Addr⦄ ⦃ce : Cell⦄,
    gC l D B p R s m args meth c cells slots mc ms fr lo kc ks M → gW D B s h H → va_S (fun q => B ≤ q) s.heap H locs → gL ls M.2.2.1 lv → H[q]? = some ce → ce.vm = .none → s.vm.findClass E = some ce.cls →
    vx_W p l e R s m args below meth c H locs cells slots (vx_MQ below (gQ Q D B) (gX Q D B) args s mc ms (fun q => B ≤ q)) (F0 m pc ls rest) q
theorem gMQ_mono {Q Q' : Ot_ → Hp_ → Prop} (hq : ∀ o h, Q o h → Q' o h) {D : va_G} {B : Nat} {below : List Frame} {args : Array Value} {s : State} {mc ms : Nat} {free : Addr → Prop} {t : State} (h : vx_MQ below (gQ Q D B) (gX Q D B) args s mc ms free t) : vx_MQ below (gQ Q' D B) (gX Q' D B) args s mc ms free t := by
  obtain ⟨o, h1, h2, h3⟩ := h
  refine ⟨o, h1, h2, ?_⟩
  rcases h3 with ⟨⟨⟨v, h', a1, a2, a3⟩, a4⟩, h5⟩ | ⟨q, h5, E, ce, L, ⟨⟨h', b1, b2⟩, b3⟩, h6⟩
  · exact Or.inl ⟨⟨⟨v, h', a1, hq _ _ a2, a3⟩, a4⟩, h5⟩
  · exact Or.inr ⟨q, h5, E, ce, L, ⟨⟨h', hq _ _ b1, b2⟩, b3⟩, h6⟩
theorem gG_mono {fr lo kc ks : Nat} {M : Mi_} {pc : Nat} {lv : List (Nat × Value)} {st : List Value} {h : Hp_} {Q Q' : Ot_ → Hp_ → Prop} (hq : ∀ o h', Q o h' → Q' o h') (k : gG fr lo kc ks M pc lv st h Q) : gG fr lo kc ks M pc lv st h Q' := by
  intro l D B p e R s m args below meth c H locs cells slots mc ms ls C hW hS hL T hT X
  obtain ⟨t, a, b⟩ := k C hW hS hL T hT X
  exact ⟨t, a, gMQ_mono hq b⟩
theorem gC_room {l : Launch} {D : va_G} {B : Nat} {p : Program} {R : Room} {s : State} {m : MethodId} {args : Array Value} {meth : Method} {c : Code} {cells slots mc ms fr lo kc ks fr' lo' kc' ks' : Nat} {M : Mi_} (C : gC l D B p R s m args meth c cells slots mc ms fr lo kc ks M) (h1 : fr' ≤ fr) (h2 : lo' ≤ lo) (h3 : kc' ≤ kc) (h4 : ks' ≤ ks) : gC l D B p R s m args meth c cells slots mc ms fr' lo' kc' ks' M := by
  obtain ⟨c1, c2, c3, c4, c5, c6, c7, c8, c9, c10, c11, c12, c13, c14, c15, c16, c17, c18⟩ := C
  exact ⟨c1, c2, c3, c4, c5, c6, c7, c8, c9, c10, c11, c12, by omega, by omega, by omega, by omega, c17, c18⟩
theorem gG_room {fr lo kc ks fr' lo' kc' ks' : Nat} {M : Mi_} {pc : Nat} {lv : List (Nat × Value)} {st : List Value} {h : Hp_} {Q : Ot_ → Hp_ → Prop} (h1 : fr' ≤ fr) (h2 : lo' ≤ lo) (h3 : kc' ≤ kc) (h4 : ks' ≤ ks) (k : gG fr' lo' kc' ks' M pc lv st h Q) : gG fr lo kc ks M pc lv st h Q := by
  intro l D B p e R s m args below meth c H locs cells slots mc ms ls C hW hS hL
  exact k (gC_room C h1 h2 h3 h4) hW hS hL
theorem gG_lv {fr lo kc ks : Nat} {M : Mi_} {pc : Nat} {lv lv' : List (Nat × Value)} {st : List Value} {h : Hp_} {Q : Ot_ → Hp_ → Prop} (hs : ∀ (i : Nat) (v : Value), gl lv' i = some v → gl lv i = some v) (k : gG fr lo kc ks M pc lv' st h Q) : gG fr lo kc ks M pc lv st h Q := by
  intro l D B p e R s m args below meth c H locs cells slots mc ms ls C hW hS hL
  exact k C hW hS (gL_sub hL hs)
/-- the start of a method's contract -/
def gP (D : va_G) (B : Nat) (av : List Value) (h : Hp_) : Array Value → State → Prop := va_Pc av (fun U => gW D B U h U.heap ∧ gE D B U U.heap ∧ B ≤ U.heap.size)
def gHead (M : Mi_) : Cond := match M.2.2.2.2 with
  | [] => .code M.1 M.2.1 M.2.2.1 M.2.2.2.1
  | hh => .codeWith M.1 M.2.1 M.2.2.1 M.2.2.2.1 hh
def gRm (fr lo kc ks : Nat) : Room := { frames := fr, cells := kc, slots := ks, locals := lo }
def gMt (l : Launch) (D : va_G) (B : Nat) (fr lo kc ks : Nat) (M : Mi_) (av : List Value) (h : Hp_) (Q : Ot_ → Hp_ → Prop) : Prop :=
  vx_Met l M.1 (gHead M :: gAll) (gRm fr lo kc ks) (gP D B av h) (gQ Q D B) (gX Q D B) kc ks (fun q => B ≤ q)
theorem gP_blind {D : va_G} {B : Nat} {av : List Value} {h : Hp_} : FrameBlind (gP D B av h) := by
  intro a U g mk hp
  obtain ⟨h1, h2, h3, h4⟩ := hp
  have e1 : (U.calling g mk a).heap = U.heap := rfl
  have e2 : U.vm = (U.calling g mk a).vm := rfl
  refine ⟨h1, ?_, ?_, ?_⟩
  · rw [e1]; exact gW_at (by rw [← e2]; exact Vm.Alike.refl U.vm) h2
  · rw [e1]; exact gE_same e2 h3
  · rw [e1]; exact h4
theorem gP_call {D : va_G} {B : Nat} {av : List Value} {h : Hp_} {s : State} {H : Heap} {locs : List Loc} (hE : gE D B s s.heap) (hW : gW D B s h H) (hS : va_S (fun q => B ≤ q) s.heap H locs) (U : State) (hU : U.heap = H) (hWm : s.WarmedH U.vm) : gP D B av h av.toArray U := by
  refine ⟨rfl, ?_, ?_, ?_⟩
  · rw [hU]; exact gW_at hWm.alike hW
  · rw [hU]; exact gE_warm hWm (gE_kept hE hS.2.1)
  · rw [hU]; exact hW.1
theorem gMt_of {fr lo kc ks : Nat} {M : Mi_} {av : List Value} {h : Hp_} {Q : Ot_ → Hp_ → Prop} (hpl : plainName M.1.cls = true) (hsz : (lg_sl av).length ≤ M.2.2.1) (k : gG fr lo kc ks M 0 (lv_args 0 av) [] h Q) {l : Launch} (hl : l.stackTraces = false) (D : va_G) (B : Nat) : gMt l D B fr lo kc ks M av h Q := by
  have fin : ∀ (p : Program) (e : Env) (s : State) (m : MethodId) (args : Array Value) (below : List Frame) (meth : Method) (c : Code) (s₁ : State), BodyLoose p l M.1 (headSpec (gHead M :: gAll) (gRm fr lo kc ks)) M.2.1 M.2.2.1 M.2.2.2.1 e s m args below meth c s₁ → c.maxLocals = M.2.2.1 → c.exceptionTable.toList = tableOf M.2.2.2.2 → gP D B av h args s →
      W p l e (headSpec (gHead M :: gAll) (gRm fr lo kc ks)).room s m args below meth c s.heap [] 0 0 (vx_MQ below (gQ Q D B) (gX Q D B) args s kc ks (fun q => B ≤ q)) (entryFrame m args M.2.2.1) := by
    intro p e s m args below meth c s₁ Bd hml htb hP
    obtain ⟨rfl, hW, hE, hB⟩ := hP
    rw [lg_entry_eq]
    have hl9 := lv_entry av (n := M.2.2.1) hsz
    refine k (mc := kc) (ms := ks) ⟨Bd.exec, Bd.bytes, Bd.returns, hml, findClass_of_methodNamed Bd.named, fun w hw => atoms_spec (ws := gHead M :: gAll) Bd.pre w (List.mem_cons_of_mem _ hw), Bd.notSynchronized, (name_of_methodNamed Bd.named Bd.method).1, htb, hl, hE, hB, Nat.le_refl _, Nat.le_refl _, by omega, by omega, Nat.le_refl _, Nat.le_refl _⟩ hW va_S.rf (gL_of hl9)
  obtain ⟨y, bt, mL, rt, hh⟩ := M
  cases hh with
  | nil => exact vx_ofW (cc := bt) (maxL := mL) (ret := rt) hpl rfl (fun p e s m args below meth c s₁ Bd hml ht hP => fin p e s m args below meth c s₁ Bd hml (by
      have h9 : c.exceptionTable.toList = [] := by
        cases hc : c.exceptionTable.toList with
        | nil => rfl
        | cons a b => exact (ht a (by rw [hc]; exact List.mem_cons_self)).elim
      rw [h9]; rfl) hP)
  | cons z zs => exact vx_ofWH (cc := bt) (maxL := mL) (ret := rt) (hh := z :: zs) hpl rfl (fun p e s m args below meth c s₁ Bd hml hP => fin p e s m args below meth c s₁ Bd hml (vx_table (x := y) Bd (atoms_spec (ws := gHead (y, bt, mL, rt, z :: zs) :: gAll) Bd.pre _ List.mem_cons_self)) hP)
