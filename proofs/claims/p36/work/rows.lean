section
-- ===== PART A: goes FIRST, ahead of the names: the tables' words, and 'selects' of the private methods out of them =====
/-- a private method of a class that the tables say can be made, by its rows of tables_1 -/
def lw_okq (q : MethodName × Nat) : Prop := (q.1.cls ≠ "java/lang/invoke/MethodHandle" ∧ q.1.cls ≠ "java/lang/invoke/VarHandle") ∧ Cond.instantiable q.1.cls q.2 ∈ tables_1 ∧ Cond.privateMethod q.1 ∈ tables_1 ∧ Cond.instanceMethod q.1 ∈ tables_1
theorem lw_p0 : lw_okq (⟨"PluralMint$Dies", "meetsCondition", "(ILPluralMint$Word;)Z"⟩, 3) := ⟨⟨by decide +kernel, by decide +kernel⟩, List.mem_of_getElem? (i := 87) (by decide +kernel), List.mem_of_getElem? (i := 389) (by decide +kernel), List.mem_of_getElem? (i := 390) (by decide +kernel)⟩
theorem lw_p1 : lw_okq (⟨"PluralMint", "checkNoun", "(I)V"⟩, 12) := ⟨⟨by decide +kernel, by decide +kernel⟩, List.mem_of_getElem? (i := 20) (by decide +kernel), List.mem_of_getElem? (i := 425) (by decide +kernel), List.mem_of_getElem? (i := 426) (by decide +kernel)⟩
theorem lw_p2 : lw_okq (⟨"java/lang/Throwable", "fillInStackTrace", "(I)Ljava/lang/Throwable;"⟩, 6) := ⟨⟨by decide +kernel, by decide +kernel⟩, List.mem_of_getElem? (i := 467) (by decide +kernel), List.mem_of_getElem? (i := 465) (by decide +kernel), List.mem_of_getElem? (i := 466) (by decide +kernel)⟩
theorem lw_p3 : lw_okq (⟨"PluralMint$History", "moveOldestToEnd", "()V"⟩, 2) := ⟨⟨by decide +kernel, by decide +kernel⟩, List.mem_of_getElem? (i := 152) (by decide +kernel), List.mem_of_getElem? (i := 567) (by decide +kernel), List.mem_of_getElem? (i := 568) (by decide +kernel)⟩
theorem lw_p4 : lw_okq (⟨"PluralMint", "checkDie", "(I)V"⟩, 12) := ⟨⟨by decide +kernel, by decide +kernel⟩, List.mem_of_getElem? (i := 20) (by decide +kernel), List.mem_of_getElem? (i := 666) (by decide +kernel), List.mem_of_getElem? (i := 667) (by decide +kernel)⟩
theorem lw_p5 : lw_okq (⟨"PluralMint", "checkTextIsValid", "()V"⟩, 12) := ⟨⟨by decide +kernel, by decide +kernel⟩, List.mem_of_getElem? (i := 20) (by decide +kernel), List.mem_of_getElem? (i := 725) (by decide +kernel), List.mem_of_getElem? (i := 726) (by decide +kernel)⟩
theorem lw_p6 : lw_okq (⟨"PluralMint$OrderText", "sign", "(I)C"⟩, 3) := ⟨⟨by decide +kernel, by decide +kernel⟩, List.mem_of_getElem? (i := 28) (by decide +kernel), List.mem_of_getElem? (i := 737) (by decide +kernel), List.mem_of_getElem? (i := 738) (by decide +kernel)⟩
theorem lw_p7 : lw_okq (⟨"PluralMint$Grammar", "takeLetter", "()Z"⟩, 2) := ⟨⟨by decide +kernel, by decide +kernel⟩, List.mem_of_getElem? (i := 34) (by decide +kernel), List.mem_of_getElem? (i := 748) (by decide +kernel), List.mem_of_getElem? (i := 749) (by decide +kernel)⟩
theorem lw_p8 : lw_okq (⟨"PluralMint$Grammar", "partAfter", "(C)I"⟩, 2) := ⟨⟨by decide +kernel, by decide +kernel⟩, List.mem_of_getElem? (i := 34) (by decide +kernel), List.mem_of_getElem? (i := 752) (by decide +kernel), List.mem_of_getElem? (i := 753) (by decide +kernel)⟩
theorem lw_p9 : lw_okq (⟨"PluralMint", "tryOrders", "()I"⟩, 12) := ⟨⟨by decide +kernel, by decide +kernel⟩, List.mem_of_getElem? (i := 20) (by decide +kernel), List.mem_of_getElem? (i := 762) (by decide +kernel), List.mem_of_getElem? (i := 763) (by decide +kernel)⟩
theorem lw_p10 : lw_okq (⟨"PluralMint$Order", "takeLetter", "(C)V"⟩, 5) := ⟨⟨by decide +kernel, by decide +kernel⟩, List.mem_of_getElem? (i := 168) (by decide +kernel), List.mem_of_getElem? (i := 785) (by decide +kernel), List.mem_of_getElem? (i := 786) (by decide +kernel)⟩
theorem lw_p11 : lw_okq (⟨"PluralMint", "loadWantedPlural", "()V"⟩, 12) := ⟨⟨by decide +kernel, by decide +kernel⟩, List.mem_of_getElem? (i := 20) (by decide +kernel), List.mem_of_getElem? (i := 919) (by decide +kernel), List.mem_of_getElem? (i := 920) (by decide +kernel)⟩
theorem lw_p12 : lw_okq (⟨"PluralMint", "collectOrigins", "()V"⟩, 12) := ⟨⟨by decide +kernel, by decide +kernel⟩, List.mem_of_getElem? (i := 20) (by decide +kernel), List.mem_of_getElem? (i := 947) (by decide +kernel), List.mem_of_getElem? (i := 948) (by decide +kernel)⟩
def lw_privs_1 : List (MethodName × Nat) := [(⟨"PluralMint$Dies", "meetsCondition", "(ILPluralMint$Word;)Z"⟩, 3), (⟨"PluralMint", "checkNoun", "(I)V"⟩, 12), (⟨"java/lang/Throwable", "fillInStackTrace", "(I)Ljava/lang/Throwable;"⟩, 6), (⟨"PluralMint$History", "moveOldestToEnd", "()V"⟩, 2), (⟨"PluralMint", "checkDie", "(I)V"⟩, 12), (⟨"PluralMint", "checkTextIsValid", "()V"⟩, 12), (⟨"PluralMint$OrderText", "sign", "(I)C"⟩, 3), (⟨"PluralMint$Grammar", "takeLetter", "()Z"⟩, 2), (⟨"PluralMint$Grammar", "partAfter", "(C)I"⟩, 2), (⟨"PluralMint", "tryOrders", "()I"⟩, 12), (⟨"PluralMint$Order", "takeLetter", "(C)V"⟩, 5), (⟨"PluralMint", "loadWantedPlural", "()V"⟩, 12), (⟨"PluralMint", "collectOrigins", "()V"⟩, 12)]
theorem lw_r1 : ∀ q ∈ lw_privs_1, lw_okq q := List.forall_mem_cons.mpr ⟨lw_p0, List.forall_mem_cons.mpr ⟨lw_p1, List.forall_mem_cons.mpr ⟨lw_p2, List.forall_mem_cons.mpr ⟨lw_p3, List.forall_mem_cons.mpr ⟨lw_p4, List.forall_mem_cons.mpr ⟨lw_p5, List.forall_mem_cons.mpr ⟨lw_p6, List.forall_mem_cons.mpr ⟨lw_p7, List.forall_mem_cons.mpr ⟨lw_p8, List.forall_mem_cons.mpr ⟨lw_p9, List.forall_mem_cons.mpr ⟨lw_p10, List.forall_mem_cons.mpr ⟨lw_p11, List.forall_mem_cons.mpr ⟨lw_p12, fun _ h => absurd h List.not_mem_nil⟩⟩⟩⟩⟩⟩⟩⟩⟩⟩⟩⟩⟩
def lw_privs : List (MethodName × Nat) := lw_privs_1
def lw_tbl : List Cond := k2_sels lw_privs ++ tables_1
theorem lw_privs_ok : ∀ q ∈ lw_privs, lw_okq q := lw_r1
-- ===== end of PART A; then your names; then what follows =====
/-! ===== BEGIN words of one list among another's, by their places ===== -/
theorem goodIn_r {big : List Cond} (ws : List Cond) (ps : List Nat) (hp : ws = ps.filterMap (fun i => big[i]?)) (h : ws.all goodWord = true) : GoodIn big ws := by
  intro w hw
  have h1 := List.all_eq_true.mp h w hw
  rw [hp] at hw
  obtain ⟨i, -, hi⟩ := List.mem_filterMap.mp hw
  have hm : w ∈ big := by first | exact List.mem_of_getElem? hi | exact List.getElem?_mem hi
  exact ⟨hm, good_of_word h1⟩
theorem goodIn_app {big a b : List Cond} (ha : GoodIn big a) (hb : GoodIn big b) : GoodIn big (a ++ b) := fun w h => (List.mem_append.mp h).elim (ha w) (hb w)
theorem goodIn_ca {big a b : List Cond} {c : Cond} (ha : GoodIn big (c :: a)) (hb : GoodIn big b) : GoodIn big (c :: (a ++ b)) := fun w h => (List.mem_cons.mp h).elim (fun e => ha w (List.mem_cons.mpr (Or.inl e))) (fun h => (List.mem_append.mp h).elim (fun h => ha w (List.mem_cons.mpr (Or.inr h))) (hb w))
theorem goodIn_sub {big ws : List Cond} (hm : ∀ w ∈ ws, w ∈ big) (h : ws.all goodWord = true) : GoodIn big ws := fun w hw => ⟨hm w hw, good_of_word (List.all_eq_true.mp h w hw)⟩
/-! ===== END ===== -/

/-! ===== BEGIN exceptions that leave a method, and their catching by the caller (launches without stack traces) ===== -/
section VXA
/-! The laws vx_back, vx_callV, vx_callS, vx_callSW, vx_throw0, vx_throwS follow proofs of the library, with one case more: JvmDerived/Free/Laws.lean (Back.of_free), Shelf42/LK1.lean (callV, callS), Shelf/KitTraced.lean (throwNew0V, throwNewS). -/
/-- where a method has thrown q: the class by its name, the cell, what was written, the world -/
def vx_T (XC : String → State → State → Prop) (st : State) (q : Addr) (t : State) (mc ms : Nat) (free : Addr → Prop) : Prop :=
  ∃ (E : String) (ce : Cell) (L : List Loc), XC E st t ∧ t.heap[q]? = some ce ∧ ce.vm = .none ∧ st.vm.findClass E = some ce.cls ∧ st.WarmedH t.vm ∧ st.sameButNew ({ t with vm := st.vm } : State) L mc ms ∧ ∀ z ∈ L, free z.base
def vx_Q (Qc : Array Value → State → Outcome → State → Prop) (XC : String → State → State → Prop) (mc ms : Nat) (free : Addr → Prop) : Array Value → State → Outcome → State → Prop := fun a st o t =>
  (Qc a st o t ∧ ∃ L, FrameEnd st o t L mc ms ∧ ∀ q ∈ L, free q.base) ∨ ∃ q, o = .threw q ∧ vx_T XC st q t mc ms free
/-- a callee that returns or throws -/
def vx_Met (l : Launch) (y : MethodName) (ws : List Cond) (rm : Room) (Pc : Array Value → State → Prop) (Qc : Array Value → State → Outcome → State → Prop) (XC : String → State → State → Prop) (mc ms : Nat) (free : Addr → Prop) : Prop :=
  MetFree l y (headSpec ws rm) Pc (fun _ _ _ _ _ => True) (vx_Q Qc XC mc ms free)
def vx_Post (XC : String → State → State → Prop) (mc ms : Nat) (free : Addr → Prop) : Pt → Array Value → Addr → Pt → Prop := fun A a q B =>
  ∃ (g : JFrame) (mk : MethodId) (t : State) (L : List Loc) (E : String) (ce : Cell), B.U.heap = t.heap ∧ B.U.vm = t.vm ∧ XC E (A.U.calling g mk a) t ∧ t.heap[q]? = some ce ∧ ce.vm = .none ∧ A.U.vm.findClass E = some ce.cls ∧ B.locs = A.locs ++ L ∧ (∀ z ∈ L, free z.base) ∧ B.cells = A.cells + mc ∧ B.slots = A.slots + ms
def vx_Back (l : Launch) (R : Room) (p : Program) (e : Env) (below : List Frame) (s : State) (sargs : Array Value) (y : MethodName) (len W9 : Nat)
    (Pre : Pt → Array Value → Prop) (Post : Pt → Array Value → Option Value → Pt → Prop) (PostX : Pt → Array Value → Addr → Pt → Prop) : Prop :=
  ∀ (m : MethodId) (meth : Method) (c : Code) (A : Pt) (g : JFrame) (ig : Instr) (mk : MethodId) (a : Array Value),
    Stand p l e R s m sargs below meth c A.U A.locs A.cells A.slots → g.method = m → g.locals.size = c.maxLocals → decode c.code g.pc = .ok (ig, len) →
    2 * g.monitorRoom + (g.stack.map fun v => v.category).sum ≤ W9 → A.U.methodNamed? y = some mk → Pre A a →
    (∃ (v : Option Value) (B : Pt), Stand p l e R s m sargs below meth c B.U B.locs B.cells B.slots ∧ Post A a v B ∧
      Steps p.tables e below (doInvoke e (A.U.setTop g) [] mk a).1 (B.U.setTop { g with pc := g.pc + len, stack := v.toList ++ g.stack })) ∨
    (∃ (q : Addr) (B : Pt), Stand p l e R s m sargs below meth c B.U B.locs B.cells B.slots ∧ PostX A a q B ∧
      Steps p.tables e below (doInvoke e (A.U.setTop g) [] mk a).1 ((B.U.setTop g).pushFrame (.throwing q)))
section Payer
variable {l : Launch} {R : Room} {p : Program} {e : Env} {below : List Frame} {s : State} {sargs : Array Value} {y : MethodName} {len W9 : Nat}
theorem vx_back {ws : List Cond} {rm : Room} {Pc : Array Value → State → Prop} {Qc : Array Value → State → Outcome → State → Prop} {XC : String → State → State → Prop} {mc ms : Nat} {free : Addr → Prop} {bytes : ByteArray} {maxL : Nat} {ret : Option FieldType}
    (hM : vx_Met l y ws rm Pc Qc XC mc ms free) (hblind : FrameBlind Pc) (hrc : rm.cells = mc) (hrs : rm.slots = ms)
    (hframes : rm.frames + 1 ≤ R.frames) (hlocals : W9 + (maxL + 11) + rm.locals ≤ R.locals)
    (hws : ∀ w ∈ ws, ∀ a' U, s.WarmedH U.vm → w.before a' U = true) (hcode : Cond.code y bytes maxL ret ∈ ws) (hinit : ∀ a' U, s.WarmedH U.vm → (Cond.initialized y.cls).before a' U = true) :
    vx_Back l R p e below s sargs y len W9 (PreOf R mc ms Pc) (PostOf Qc mc ms free) (vx_Post XC mc ms free) := by
  intro m meth c A g ig mk a X hg hsize hdg hW hn hp
  have h1 : (headSpec ws rm).pre.before a A.U = true := atoms_intro fun w hw => hws w hw _ _ X.warmed
  have h2 : (Cond.code y bytes maxL ret).before a A.U = true := hws _ hcode _ _ X.warmed
  have h3 : (Cond.initialized y.cls).before a A.U = true := hinit _ _ X.warmed
  have h4 : A.cells + (headSpec ws rm).room.cells ≤ R.cells := by rw [show (headSpec ws rm).room.cells = mc from hrc]; exact hp.1
  have h5 : A.slots + (headSpec ws rm).room.slots ≤ R.slots := by rw [show (headSpec ws rm).room.slots = ms from hrs]; exact hp.2.1
  have hPc : Pc a (A.U.calling g mk a) := hblind _ _ _ _ hp.2.2
  obtain ⟨U, Ls, c0, s0⟩ := A
  dsimp only [Pt.U, Pt.locs, Pt.cells, Pt.slots] at h1 h2 h3 h4 h5 X hn hPc ⊢
  obtain ⟨methY, cY, hmY, hcY, -, hlY, -, -, -, -⟩ := Cond.code_spec hn h2
  obtain ⟨kY, hkY, -⟩ := className_of_methodNamed hn
  have hinitY : kY.init = .initialized := Cond.initialized_spec (findClass_of_methodNamed hn) hkY h3
  have h : At U g.method c below := by rw [hg]; exact X.here
  have hlocals9 : W9 + (maxL + 11) + (headSpec ws rm).room.locals ≤ R.locals := hlocals
  have happ : (headSpec ws rm).appliesLoose y e.platform (U.calling g mk a) = true :=
    Spec.appliesLoose_calling (g := g) h hdg hn hkY hinitY
      (X.room_calling (g := g) (R' := (headSpec ws rm).room) hsize hmY hcY hframes (by rw [hlY]; omega) h4 h5) h1
  obtain ⟨mid, hmid⟩ := h.above
  have hfr : (U.setTop g).frames = (.java g :: mid) ++ below := by rw [State.frames_setTop' g h.top, hmid]; rfl
  obtain ⟨o, s₂, hsteps, -, hend, hq⟩ := Steps.callFree hM p X.admits X.cas X.clock (acts := []) hfr happ hPc trivial
  have hq' : vx_Q Qc XC mc ms free a (U.calling g mk a) o s₂ := hq
  rw [State.frames_setTop' g h.top] at hend
  obtain ⟨g₀, hg0⟩ := Option.isSome_iff_exists.mp h.top
  obtain ⟨r, hr⟩ := State.topJava?_eq_some.mp hg0
  have hr' : (({ U with heap := s₂.heap, slotsUsed := s₂.slotsUsed } : State).setVm s₂.vm).frames = .java g₀ :: r := hr
  rcases hq' with ⟨hqc, L, hfe, hL⟩ | ⟨q, rfl, E, ce, L, hx, hce, hcv, hcl, hW₂, hsm, hL⟩
  · obtain ⟨⟨v, rfl⟩, hW₂, e2, q2, q3, q4, q5, q6⟩ := id hfe
    have e3 : s₂ = ({ (U.calling g mk a).setFrames s₂.frames with heap := s₂.heap, slotsUsed := s₂.slotsUsed } : State).setVm s₂.vm := by
      have : s₂ = ({ s₂ with vm := (U.calling g mk a).vm } : State).setVm s₂.vm := rfl
      rw [e2] at this
      exact this
    obtain ⟨c₂, i₂, len₂, hc₂, hd₂, hf₂⟩ := hend
    have hW' : U.WarmedH s₂.vm := hW₂
    have hcc : c₂ = c := by
      have h1 : s₂.code? g.method = U.code? g.method := by
        rw [State.code?_eq, State.code?_eq, hW'.alike.method?]
      exact Option.some.inj (hc₂.symm.trans (h1.trans h.code))
    subst hcc
    have hlen : len₂ = len := by rw [hdg] at hd₂; cases hd₂; rfl
    subst hlen
    have hs₂ : s₂ = (({ U with heap := s₂.heap, slotsUsed := s₂.slotsUsed } : State).setVm s₂.vm).setTop { g with pc := g.pc + len₂, stack := v.toList ++ g.stack } := by
      refine e3.trans ?_
      rw [hf₂, State.calling_eq h.top, State.setFrames_setFrames, State.setTop_of_frames _ hr', hr]
      rfl
    have hsame : U.sameButNew ({ U with heap := s₂.heap, slotsUsed := s₂.slotsUsed } : State) L mc ms := by
      refine ⟨?_, q2, q3, q4, q5, q6⟩
      obtain ⟨t, ht, -⟩ := State.frames_cons hr
      show ({ U with heap := s₂.heap, slotsUsed := s₂.slotsUsed } : State) = { U.setFrames U.frames with heap := s₂.heap, slotsUsed := s₂.slotsUsed }
      rw [State.setFrames_self ht]
    subst hg
    refine Or.inl ⟨v, ⟨(({ U with heap := s₂.heap, slotsUsed := s₂.slotsUsed } : State).setVm s₂.vm), Ls ++ L, c0 + mc, s0 + ms⟩,
      ⟨X.admits, X.cas, X.clock, X.frames, X.room, X.hears, X.method, X.code, (X.here.setHeapUsed s₂.heap s₂.slotsUsed).setVm hW'.alike, X.tail, State.WarmedH.trans X.warmed hW', X.limits, X.bytes, X.same.trans (hsame.setVm s.vm)⟩,
      ⟨g, mk, s₂, L, rfl, rfl, hqc, rfl, hL, rfl, rfl⟩, ?_⟩
    show Steps p.tables e below _ ((({ U with heap := s₂.heap, slotsUsed := s₂.slotsUsed } : State).setVm s₂.vm).setTop { g with pc := g.pc + len₂, stack := v.toList ++ g.stack })
    rw [← hs₂]
    exact hsteps
  · obtain ⟨e2, q2, q3, q4, q5, q6⟩ := id hsm
    have e3 : s₂ = ({ (U.calling g mk a).setFrames s₂.frames with heap := s₂.heap, slotsUsed := s₂.slotsUsed } : State).setVm s₂.vm := by
      have : s₂ = ({ s₂ with vm := (U.calling g mk a).vm } : State).setVm s₂.vm := rfl
      rw [e2] at this
      exact this
    have hf₂ : s₂.frames = .throwing q :: .java g :: U.frames.tail := hend
    have hW' : U.WarmedH s₂.vm := hW₂
    have hs₂ : s₂ = ((({ U with heap := s₂.heap, slotsUsed := s₂.slotsUsed } : State).setVm s₂.vm).setTop g).pushFrame (.throwing q) := by
      refine e3.trans ?_
      rw [hf₂, State.calling_eq h.top, State.setFrames_setFrames, State.pushFrame, State.frames_setTop _ hr', State.setTop_of_frames _ hr', State.setFrames_setFrames, hr]
      rfl
    have hsame : U.sameButNew ({ U with heap := s₂.heap, slotsUsed := s₂.slotsUsed } : State) L mc ms := by
      refine ⟨?_, q2, q3, q4, q5, q6⟩
      obtain ⟨t, ht, -⟩ := State.frames_cons hr
      show ({ U with heap := s₂.heap, slotsUsed := s₂.slotsUsed } : State) = { U.setFrames U.frames with heap := s₂.heap, slotsUsed := s₂.slotsUsed }
      rw [State.setFrames_self ht]
    subst hg
    refine Or.inr ⟨q, ⟨(({ U with heap := s₂.heap, slotsUsed := s₂.slotsUsed } : State).setVm s₂.vm), Ls ++ L, c0 + mc, s0 + ms⟩,
      ⟨X.admits, X.cas, X.clock, X.frames, X.room, X.hears, X.method, X.code, (X.here.setHeapUsed s₂.heap s₂.slotsUsed).setVm hW'.alike, X.tail, State.WarmedH.trans X.warmed hW', X.limits, X.bytes, X.same.trans (hsame.setVm s.vm)⟩,
      ⟨g, mk, s₂, L, E, ce, rfl, rfl, hx, hce, hcv, hcl, rfl, hL, rfl, rfl⟩, ?_⟩
    show Steps p.tables e below _ (((({ U with heap := s₂.heap, slotsUsed := s₂.slotsUsed } : State).setVm s₂.vm).setTop g).pushFrame (.throwing q))
    rw [← hs₂]
    exact hsteps
end Payer
section Calls
variable {p : Program} {l : Launch} {e : Env} {R : Room} {s : State} {m : MethodId} {args : Array Value} {below : List Frame} {meth : Method} {c : Code} {T : State} {locs : List Loc} {cells slots : Nat}
theorem vx_callV (X : Stand p l e R s m args below meth c T locs cells slots) (hexec : p.tables.exec = Jvm.exec) {own C : String} {index : Nat} {y : MethodName} {bytes : ByteArray} {maxL : Nat} {ret : Option FieldType}
    (hown : s.vm.findClass own = some m.cls) (hlink : (Cond.methodLink own index y).before args s = true) (hinst : (Cond.instanceMethod y).before args s = true) (hsel : (Cond.selects C y y).before args s = true)
    (hcode : (Cond.code y bytes maxL ret).before args s = true) (hy : y.cls ≠ "java/lang/invoke/MethodHandle" ∧ y.cls ≠ "java/lang/invoke/VarHandle")
    {W9 : Nat} {Pre : Pt → Array Value → Prop} {Post : Pt → Array Value → Option Value → Pt → Prop} {PostX : Pt → Array Value → Addr → Pt → Prop} (hK : vx_Back l R p e below s args y 3 W9 Pre Post PostX)
    {b : Addr} {cellB : Cell} (hcell : T.heap[b]? = some cellB) (hobj : cellB.vm.isStatics = false) (hcls : s.vm.findClass C = some cellB.cls)
    {g : JFrame} (hg : g.method = m) (hsize : g.locals.size = c.maxLocals) {argsL rest : List Value} (hlen : ∀ sig, parseMethodDescriptor y.desc = some sig → argsL.length = sig.parameters.length)
    (hstack : g.stack = argsL.reverse ++ .ref b :: rest) (hW : 2 * g.monitorRoom + (rest.map fun v => v.category).sum ≤ W9) (hdg : decode c.code g.pc = .ok (.invokevirtual index, 3))
    (hpre : ∀ vm₁, s.WarmedH vm₁ → Pre ⟨T.setVm vm₁, locs, cells, slots⟩ (Value.ref b :: argsL).toArray) :
    (∃ (v : Option Value) (vm₁ : Vm) (B : Pt), s.WarmedH vm₁ ∧ Stand p l e R s m args below meth c B.U B.locs B.cells B.slots ∧ Post ⟨T.setVm vm₁, locs, cells, slots⟩ (Value.ref b :: argsL).toArray v B ∧
      ∀ target, Steps p.tables e below (B.U.setTop { g with pc := g.pc + 3, stack := v.toList ++ rest }) target → Steps p.tables e below (T.setTop g) target) ∨
    (∃ (q : Addr) (vm₁ : Vm) (B : Pt), s.WarmedH vm₁ ∧ Stand p l e R s m args below meth c B.U B.locs B.cells B.slots ∧ PostX ⟨T.setVm vm₁, locs, cells, slots⟩ (Value.ref b :: argsL).toArray q B ∧
      Steps p.tables e below (T.setTop g) ((B.U.setTop { g with stack := rest }).pushFrame (.throwing q))) := by
  obtain ⟨mk, methM, hnamed, hmethM, hstM, habM⟩ := Cond.instanceMethod_spec hinst
  obtain ⟨methM', cM, hmethM', -, -, -, -, -, -, hsigM⟩ := Cond.code_spec hnamed hcode
  cases hmethM.symm.trans hmethM'
  obtain ⟨c2, r2, m2, q1, q2, q3, q4, kP, hkP, hkPi⟩ := Cond.selects_spec hsel
  cases hcls.symm.trans q1
  cases (State.methodFound?_of_named hnamed hy).symm.trans q2
  cases hnamed.symm.trans q3
  have hselP : selectMethod e.platform s.vm cellB.cls mk = .method mk := by rw [Launch.admits_selectMethod X.admits]; exact q4
  obtain ⟨vm₁, X₁, hstep₁⟩ := X.invokevirtual hexec hown hlink hnamed hmethM hstM hkP hkPi hy (a := b) (cell := cellB) hcell
    (fun z h => by rw [h] at hobj; cases hobj) hselP hmethM habM hkP hkPi (g := g) hg (argsL := argsL) (rest := rest) (hlen _ hsigM) hstack hdg
  rcases hK m meth c ⟨T.setVm vm₁, locs, cells, slots⟩ { g with stack := rest } (.invokevirtual index) mk (Value.ref b :: argsL).toArray X₁ hg hsize hdg hW (X₁.named hnamed) (hpre vm₁ X₁.warmed) with ⟨v, B, X', hpost, hsteps⟩ | ⟨q, B, X', hpost, hsteps⟩
  · exact Or.inl ⟨v, vm₁, B, X₁.warmed, X', hpost, fun target h => hstep₁ _ fun acts => by rw [doInvoke_state]; exact hsteps.trans h⟩
  · exact Or.inr ⟨q, vm₁, B, X₁.warmed, X', hpost, hstep₁ _ fun acts => by rw [doInvoke_state]; exact hsteps⟩
theorem vx_callS (X : Stand p l e R s m args below meth c T locs cells slots) (hexec : p.tables.exec = Jvm.exec) {own : String} {index : Nat} {y : MethodName} {bytes : ByteArray} {maxL : Nat} {ret : Option FieldType}
    (hown : s.vm.findClass own = some m.cls) (hlink : (Cond.methodLink own index y).before args s = true) (hstat : (Cond.static y).before args s = true) (hinit : (Cond.initialized y.cls).before args s = true)
    (hcode : (Cond.code y bytes maxL ret).before args s = true) (hy : y.cls ≠ "java/lang/invoke/MethodHandle" ∧ y.cls ≠ "java/lang/invoke/VarHandle")
    {W9 : Nat} {Pre : Pt → Array Value → Prop} {Post : Pt → Array Value → Option Value → Pt → Prop} {PostX : Pt → Array Value → Addr → Pt → Prop} (hK : vx_Back l R p e below s args y 3 W9 Pre Post PostX)
    {g : JFrame} (hg : g.method = m) (hsize : g.locals.size = c.maxLocals) {argsL rest : List Value} (hlen : ∀ sig, parseMethodDescriptor y.desc = some sig → argsL.length = sig.parameters.length)
    (hstack : g.stack = argsL.reverse ++ rest) (hW : 2 * g.monitorRoom + (rest.map fun v => v.category).sum ≤ W9) (hdg : decode c.code g.pc = .ok (.invokestatic index, 3))
    (hpre : ∀ vm₁, s.WarmedH vm₁ → Pre ⟨T.setVm vm₁, locs, cells, slots⟩ argsL.toArray) :
    (∃ (v : Option Value) (vm₁ : Vm) (B : Pt), s.WarmedH vm₁ ∧ Stand p l e R s m args below meth c B.U B.locs B.cells B.slots ∧ Post ⟨T.setVm vm₁, locs, cells, slots⟩ argsL.toArray v B ∧
      ∀ target, Steps p.tables e below (B.U.setTop { g with pc := g.pc + 3, stack := v.toList ++ rest }) target → Steps p.tables e below (T.setTop g) target) ∨
    (∃ (q : Addr) (vm₁ : Vm) (B : Pt), s.WarmedH vm₁ ∧ Stand p l e R s m args below meth c B.U B.locs B.cells B.slots ∧ PostX ⟨T.setVm vm₁, locs, cells, slots⟩ argsL.toArray q B ∧
      Steps p.tables e below (T.setTop g) ((B.U.setTop { g with stack := rest }).pushFrame (.throwing q))) := by
  obtain ⟨mk, hnamed⟩ := Cond.code_named hcode
  obtain ⟨methM, cM, hmethM, -, -, -, -, -, -, hsigM⟩ := Cond.code_spec hnamed hcode
  have hstatic : methM.isStatic = true := Cond.static_spec hnamed hmethM hstat
  obtain ⟨kP, hkP, -⟩ := className_of_methodNamed hnamed
  have hinitP : kP.init = .initialized := Cond.initialized_spec (findClass_of_methodNamed hnamed) hkP hinit
  obtain ⟨vm₁, X₁, hstep₁⟩ := X.invokestatic hexec hown hlink hnamed hmethM hstatic hkP hinitP hy (g := g) hg (argsL := argsL) (rest := rest) (hlen _ hsigM) hstack hdg
  rcases hK m meth c ⟨T.setVm vm₁, locs, cells, slots⟩ { g with stack := rest } (.invokestatic index) mk argsL.toArray X₁ hg hsize hdg hW (X₁.named hnamed) (hpre vm₁ X₁.warmed) with ⟨v, B, X', hpost, hsteps⟩ | ⟨q, B, X', hpost, hsteps⟩
  · exact Or.inl ⟨v, vm₁, B, X₁.warmed, X', hpost, fun target h => hstep₁ _ fun acts => by rw [doInvoke_state]; exact hsteps.trans h⟩
  · exact Or.inr ⟨q, vm₁, B, X₁.warmed, X', hpost, hstep₁ _ fun acts => by rw [doInvoke_state]; exact hsteps⟩
end Calls
theorem vx_cls {s : State} {T : State} {vm₁ : Vm} {E : String} {k : ClassId} (hW : s.WarmedH vm₁) (h : (T.setVm vm₁).vm.findClass E = some k) : s.vm.findClass E = some k := by
  have h1 : vm₁.findClass E = some k := h
  rw [hW.alike.findClass] at h1
  exact h1
/-- the method's frame g, with q thrown over it -/
def vx_W (p : Program) (l : Launch) (e : Env) (R : Room) (s : State) (m : MethodId) (args : Array Value) (below : List Frame) (meth : Method) (c : Code) (H : Heap) (locs : List Loc) (cells slots : Nat) (Q : State → Prop) (g : JFrame) (q : Addr) : Prop :=
  ∀ T : State, T.heap = H → Stand p l e R s m args below meth c T locs cells slots → ∃ t, Steps p.tables e below ((T.setTop g).pushFrame (.throwing q)) t ∧ Q t
def vx_Run (p : Program) (l : Launch) (e : Env) (R : Room) (s : State) (m : MethodId) (args : Array Value) (below : List Frame) (meth : Method) (c : Code) (H : Heap) (locs : List Loc) (cells slots mc ms : Nat) (g : JFrame) (rest : List Value) (Qa : State → Outcome → State → Prop) (XC : String → State → State → Prop) (free : Addr → Prop) : Prop :=
  ∀ T : State, T.heap = H → Stand p l e R s m args below meth c T locs cells slots →
    (∃ (v : Option Value) (st₀ t T' : State) (L : List Loc), st₀.heap = H ∧ Stand p l e R s m args below meth c T' (locs ++ L) (cells + mc) (slots + ms) ∧ (∀ q ∈ L, free q.base) ∧ T'.heap = t.heap ∧ T'.vm = t.vm ∧ Qa st₀ (.returned v) t ∧
      Goes p e below T g T' { g with pc := g.pc + 3, stack := v.toList ++ rest }) ∨
    (∃ (q : Addr) (st₀ t T' : State) (L : List Loc) (E : String) (ce : Cell), st₀.heap = H ∧ Stand p l e R s m args below meth c T' (locs ++ L) (cells + mc) (slots + ms) ∧ (∀ z ∈ L, free z.base) ∧ T'.heap = t.heap ∧ T'.vm = t.vm ∧ XC E st₀ t ∧ t.heap[q]? = some ce ∧ ce.vm = .none ∧ s.vm.findClass E = some ce.cls ∧
      Steps p.tables e below (T.setTop g) ((T'.setTop { g with stack := rest }).pushFrame (.throwing q)))
def vx_X {S : Type} (px : S → Prop) (B : String → S → State → Prop) (A : Nat → Prop) : String → State → State → Prop := fun E st t => ∃ u : S, px u ∧ B E u t ∧ va_F A st t
section Runs
variable {p : Program} {l : Launch} {e : Env} {R : Room} {s : State} {m : MethodId} {args : Array Value} {below : List Frame} {meth : Method} {c : Code} {H : Heap} {locs : List Loc} {cells slots : Nat}
variable {y : MethodName} {bytes cc : ByteArray} {maxL nL mc ms n index : Nat} {ret : Option FieldType} {ws : List Cond} {rm : Room} {Pc : Array Value → State → Prop} {Qc : Array Value → State → Outcome → State → Prop} {XC : String → State → State → Prop} {free : Addr → Prop} {Ts : List Cond} {own C : String} {b : Addr} {As rest : List Value} {g : JFrame}
theorem vx_callBack (cb : CallB R s args own index y bytes maxL ret ws rm mc ms n) (hM : vx_Met l y ws rm Pc Qc XC mc ms free) (hbl : FrameBlind Pc) : vx_Back l R p e below s args y 3 8 (PreOf R mc ms Pc) (PostOf Qc mc ms free) (vx_Post XC mc ms free) := by
  obtain ⟨hrc, hrs, hfr, hlo, hws, hcw, -, hini, -⟩ := cb
  exact vx_back (bytes := bytes) (maxL := maxL) (ret := ret) hM hbl hrc hrs hfr hlo hws hcw (fun a' U hW => word_at hW (Or.inl (by first | rfl | simp [Cond.onTables, Cond.keeps, Cond.steady])) hini)
theorem vx_runV (S : CallFix p m c cc nL s args Ts own) (hM : vx_Met l y ws rm Pc Qc XC mc ms free) (cw : CallW R s args own C index y bytes maxL ret ws rm mc ms n) (hp : PreV s H C b Pc As)
    (hg : g.method = m) (hn : As.length = n) (hsize : g.locals.size = nL) (hstack : g.stack = As.reverse ++ .ref b :: rest) (hW : 2 * g.monitorRoom + (rest.map fun v => v.category).sum ≤ 8) (hdg : decode cc g.pc = .ok (.invokevirtual index, 3)) (hf : cells + mc ≤ R.cells ∧ slots + ms ≤ R.slots) :
    vx_Run p l e R s m args below meth c H locs cells slots mc ms g rest (Qc (Value.ref b :: As).toArray) XC free := by
  have hK : vx_Back l R p e below s args y 3 8 (PreOf R mc ms Pc) (PostOf Qc mc ms free) (vx_Post XC mc ms free) := vx_callBack cw.1 hM hp.1
  obtain ⟨⟨-, -, -, -, -, -, hcode, -, hy, hlen, hl⟩, hin, hse⟩ := cw
  obtain ⟨hx, hb, hml, ho, -⟩ := S
  obtain ⟨-, ⟨cellB, hcB, hoB, hclB⟩, hPc⟩ := hp
  intro T hT X
  rcases vx_callV X hx (C := C) (bytes := bytes) (maxL := maxL) (ret := ret) ho hl hin hse hcode hy hK (by rw [hT]; exact hcB) hoB hclB hg (hsize.trans hml.symm) (argsL := As) (rest := rest) (fun sig h => hn.trans (hlen sig h)) hstack hW (by rw [hb]; exact hdg)
    (fun vm₁ hW₁ => ⟨hf.1, hf.2, hPc (T.setVm vm₁) hT hW₁⟩) with ⟨v, vm₁, ⟨U', l2, c2, s2⟩, hW₁, X', ⟨g', mk, t, L, e1, e2, hq, h1, hL, h2, h3⟩, st⟩ | ⟨q, vm₁, ⟨U', l2, c2, s2⟩, hW₁, X', ⟨g', mk, t, L, E, ce, e1, e2, hq, hce, hcv, hcl, h1, hL, h2, h3⟩, st⟩
  · dsimp only [Pt.U, Pt.locs, Pt.cells, Pt.slots] at X' e1 e2 h1 h2 h3 st
    subst h1; subst h2; subst h3
    exact Or.inl ⟨v, (T.setVm vm₁).calling g' mk (Value.ref b :: As).toArray, t, U', L, hT, X', hL, e1, e2, hq, st⟩
  · dsimp only [Pt.U, Pt.locs, Pt.cells, Pt.slots] at X' e1 e2 h1 h2 h3 st hcl
    subst h1; subst h2; subst h3
    exact Or.inr ⟨q, (T.setVm vm₁).calling g' mk (Value.ref b :: As).toArray, t, U', L, E, ce, hT, X', hL, e1, e2, hq, hce, hcv, vx_cls hW₁ hcl, st⟩
theorem vx_runS (S : CallFix p m c cc nL s args Ts own) (hM : vx_Met l y ws rm Pc Qc XC mc ms free) (cw : CallB R s args own index y bytes maxL ret ws rm mc ms n ∧ (Cond.static y).before args s = true) (hp : PreS s H Pc As)
    (hg : g.method = m) (hn : As.length = n) (hsize : g.locals.size = nL) (hstack : g.stack = As.reverse ++ rest) (hW : 2 * g.monitorRoom + (rest.map fun v => v.category).sum ≤ 8) (hdg : decode cc g.pc = .ok (.invokestatic index, 3)) (hf : cells + mc ≤ R.cells ∧ slots + ms ≤ R.slots) :
    vx_Run p l e R s m args below meth c H locs cells slots mc ms g rest (Qc As.toArray) XC free := by
  have hK : vx_Back l R p e below s args y 3 8 (PreOf R mc ms Pc) (PostOf Qc mc ms free) (vx_Post XC mc ms free) := vx_callBack cw.1 hM hp.1
  obtain ⟨⟨-, -, -, -, -, -, hcode, hini, hy, hlen, hl⟩, hstt⟩ := cw
  obtain ⟨hx, hb, hml, ho, -⟩ := S
  intro T hT X
  rcases vx_callS X hx (bytes := bytes) (maxL := maxL) (ret := ret) ho hl hstt hini hcode hy hK hg (hsize.trans hml.symm) (argsL := As) (rest := rest) (fun sig h => hn.trans (hlen sig h)) hstack hW (by rw [hb]; exact hdg)
    (fun vm₁ hW₁ => ⟨hf.1, hf.2, hp.2 (T.setVm vm₁) hT hW₁⟩) with ⟨v, vm₁, ⟨U', l2, c2, s2⟩, hW₁, X', ⟨g', mk, t, L, e1, e2, hq, h1, hL, h2, h3⟩, st⟩ | ⟨q, vm₁, ⟨U', l2, c2, s2⟩, hW₁, X', ⟨g', mk, t, L, E, ce, e1, e2, hq, hce, hcv, hcl, h1, hL, h2, h3⟩, st⟩
  · dsimp only [Pt.U, Pt.locs, Pt.cells, Pt.slots] at X' e1 e2 h1 h2 h3 st
    subst h1; subst h2; subst h3
    exact Or.inl ⟨v, (T.setVm vm₁).calling g' mk As.toArray, t, U', L, hT, X', hL, e1, e2, hq, st⟩
  · dsimp only [Pt.U, Pt.locs, Pt.cells, Pt.slots] at X' e1 e2 h1 h2 h3 st hcl
    subst h1; subst h2; subst h3
    exact Or.inr ⟨q, (T.setVm vm₁).calling g' mk As.toArray, t, U', L, E, ce, hT, X', hL, e1, e2, hq, hce, hcv, vx_cls hW₁ hcl, st⟩
end Runs
section Rows
variable {p : Program} {l : Launch} {e : Env} {R : Room} {s : State} {m : MethodId} {args : Array Value} {below : List Frame} {meth : Method} {c : Code} {H : Heap} {locs : List Loc} {cells slots : Nat} {Q : State → Prop}
variable {mc ms : Nat} {free : Addr → Prop} {A0 A1 : Nat → Prop} {H0 : Heap} {a : Array Value} {pc : Nat} {ls : Array Slot} {st0 rest : List Value}
theorem vx_keep {st₀ t T' : State} {L : List Loc} (h0 : st₀.heap = H) (e1 : T'.heap = t.heap) (hS : va_S A0 H0 H locs) (hA : ∀ q, q < H.size → A1 q → A0 q) (hf : ∀ q, free q → A0 q) (hL : ∀ q ∈ L, free q.base) (hF : va_F A1 st₀ t) :
    H.size ≤ T'.heap.size ∧ (∀ q : Nat, q < H.size → ¬ A1 q → T'.heap[q]? = H[q]?) ∧ va_S A0 H0 T'.heap (locs ++ L) := by
  obtain ⟨hz, hk⟩ := hF
  rw [h0] at hz hk
  exact ⟨by rw [e1]; exact hz, fun q h1 h2 => by rw [e1]; exact hk q h1 h2,
    ⟨Nat.le_trans hS.1 (by rw [e1]; exact hz), fun q h1 h2 => by rw [e1, hk q (Nat.lt_of_lt_of_le h1 hS.1) (fun z => h2 (hA q (Nat.lt_of_lt_of_le h1 hS.1) z))]; exact hS.2.1 q h1 h2, fun q hq => by
      rcases List.mem_append.mp hq with h | h
      · exact hS.2.2 q h
      · exact hf _ (hL q h)⟩⟩
theorem vx_calli {S SX : Type} {post : Int32 → S → Prop} {px : SX → Prop} {B : S → State → Prop} {BX : String → SX → State → Prop} {AX : Nat → Prop} (hr : vx_Run p l e R s m args below meth c H locs cells slots mc ms (F0 m pc ls st0) rest (va_Qi post B A1 a) (vx_X px BX AX) free) (hS : va_S A0 H0 H locs) (hA : ∀ q, q < H.size → A1 q → A0 q) (hf : ∀ q, free q → A0 q) (hAX : ∀ q, q < H.size → AX q → A0 q)
    (kx : ∀ (E : String) (ce : Cell) (q9 : Addr) (u : SX) (t : State) (H1 : Heap) (locs1 : List Loc), t.heap = H1 → s.vm.Alike t.vm → px u → BX E u t → H.size ≤ H1.size → (∀ q : Nat, q < H.size → ¬ AX q → H1[q]? = H[q]?) → va_S A0 H0 H1 locs1 → H1[q9]? = some ce → ce.vm = .none → s.vm.findClass E = some ce.cls → vx_W p l e R s m args below meth c H1 locs1 (cells + mc) (slots + ms) Q (F0 m pc ls rest) q9)
    (kk : ∀ (r : Int32) (u : S) (t : State) (H1 : Heap) (locs1 : List Loc), t.heap = H1 → s.vm.Alike t.vm → post r u → B u t → H.size ≤ H1.size → (∀ q : Nat, q < H.size → ¬ A1 q → H1[q]? = H[q]?) → va_S A0 H0 H1 locs1 → W p l e R s m args below meth c H1 locs1 (cells + mc) (slots + ms) Q (F0 m (pc + 3) ls (.int r :: rest))) : W p l e R s m args below meth c H locs cells slots Q (F0 m pc ls st0) := by
  intro T hT X
  rcases hr T hT X with ⟨v, st₀, t, T', L, h0, X', hL, e1, e2, ⟨⟨r, u, hv, hp, hb⟩, hF⟩, st⟩ | ⟨q, st₀, t, T', L, E, ce, h0, X', hL, e1, e2, ⟨u, hp, hb, hF⟩, hce, hcv, hcl, st⟩
  · cases hv
    obtain ⟨k1, k2, k3⟩ := vx_keep h0 e1 hS hA hf hL hF
    obtain ⟨t2, a1, b1⟩ := kk r u t T'.heap (locs ++ L) e1.symm (by rw [← e2]; exact X'.warmed.alike) hp hb k1 k2 k3 T' rfl X'
    exact ⟨t2, st t2 a1, b1⟩
  · obtain ⟨k1, k2, k3⟩ := vx_keep h0 e1 hS hAX hf hL hF
    obtain ⟨t2, a1, b1⟩ := kx E ce q u t T'.heap (locs ++ L) e1.symm (by rw [← e2]; exact X'.warmed.alike) hp hb k1 k2 k3 (by rw [e1]; exact hce) hcv hcl T' rfl X'
    exact ⟨t2, st.trans a1, b1⟩
theorem vx_calll {S SX : Type} {post : Int64 → S → Prop} {px : SX → Prop} {B : S → State → Prop} {BX : String → SX → State → Prop} {AX : Nat → Prop} (hr : vx_Run p l e R s m args below meth c H locs cells slots mc ms (F0 m pc ls st0) rest (va_Ql post B A1 a) (vx_X px BX AX) free) (hS : va_S A0 H0 H locs) (hA : ∀ q, q < H.size → A1 q → A0 q) (hf : ∀ q, free q → A0 q) (hAX : ∀ q, q < H.size → AX q → A0 q)
    (kx : ∀ (E : String) (ce : Cell) (q9 : Addr) (u : SX) (t : State) (H1 : Heap) (locs1 : List Loc), t.heap = H1 → s.vm.Alike t.vm → px u → BX E u t → H.size ≤ H1.size → (∀ q : Nat, q < H.size → ¬ AX q → H1[q]? = H[q]?) → va_S A0 H0 H1 locs1 → H1[q9]? = some ce → ce.vm = .none → s.vm.findClass E = some ce.cls → vx_W p l e R s m args below meth c H1 locs1 (cells + mc) (slots + ms) Q (F0 m pc ls rest) q9)
    (kk : ∀ (r : Int64) (u : S) (t : State) (H1 : Heap) (locs1 : List Loc), t.heap = H1 → s.vm.Alike t.vm → post r u → B u t → H.size ≤ H1.size → (∀ q : Nat, q < H.size → ¬ A1 q → H1[q]? = H[q]?) → va_S A0 H0 H1 locs1 → W p l e R s m args below meth c H1 locs1 (cells + mc) (slots + ms) Q (F0 m (pc + 3) ls (.long r :: rest))) : W p l e R s m args below meth c H locs cells slots Q (F0 m pc ls st0) := by
  intro T hT X
  rcases hr T hT X with ⟨v, st₀, t, T', L, h0, X', hL, e1, e2, ⟨⟨r, u, hv, hp, hb⟩, hF⟩, st⟩ | ⟨q, st₀, t, T', L, E, ce, h0, X', hL, e1, e2, ⟨u, hp, hb, hF⟩, hce, hcv, hcl, st⟩
  · cases hv
    obtain ⟨k1, k2, k3⟩ := vx_keep h0 e1 hS hA hf hL hF
    obtain ⟨t2, a1, b1⟩ := kk r u t T'.heap (locs ++ L) e1.symm (by rw [← e2]; exact X'.warmed.alike) hp hb k1 k2 k3 T' rfl X'
    exact ⟨t2, st t2 a1, b1⟩
  · obtain ⟨k1, k2, k3⟩ := vx_keep h0 e1 hS hAX hf hL hF
    obtain ⟨t2, a1, b1⟩ := kx E ce q u t T'.heap (locs ++ L) e1.symm (by rw [← e2]; exact X'.warmed.alike) hp hb k1 k2 k3 (by rw [e1]; exact hce) hcv hcl T' rfl X'
    exact ⟨t2, st.trans a1, b1⟩
theorem vx_callf {S SX : Type} {post : UInt32 → S → Prop} {px : SX → Prop} {B : S → State → Prop} {BX : String → SX → State → Prop} {AX : Nat → Prop} (hr : vx_Run p l e R s m args below meth c H locs cells slots mc ms (F0 m pc ls st0) rest (va_Qf post B A1 a) (vx_X px BX AX) free) (hS : va_S A0 H0 H locs) (hA : ∀ q, q < H.size → A1 q → A0 q) (hf : ∀ q, free q → A0 q) (hAX : ∀ q, q < H.size → AX q → A0 q)
    (kx : ∀ (E : String) (ce : Cell) (q9 : Addr) (u : SX) (t : State) (H1 : Heap) (locs1 : List Loc), t.heap = H1 → s.vm.Alike t.vm → px u → BX E u t → H.size ≤ H1.size → (∀ q : Nat, q < H.size → ¬ AX q → H1[q]? = H[q]?) → va_S A0 H0 H1 locs1 → H1[q9]? = some ce → ce.vm = .none → s.vm.findClass E = some ce.cls → vx_W p l e R s m args below meth c H1 locs1 (cells + mc) (slots + ms) Q (F0 m pc ls rest) q9)
    (kk : ∀ (r : UInt32) (u : S) (t : State) (H1 : Heap) (locs1 : List Loc), t.heap = H1 → s.vm.Alike t.vm → post r u → B u t → H.size ≤ H1.size → (∀ q : Nat, q < H.size → ¬ A1 q → H1[q]? = H[q]?) → va_S A0 H0 H1 locs1 → W p l e R s m args below meth c H1 locs1 (cells + mc) (slots + ms) Q (F0 m (pc + 3) ls (.float r :: rest))) : W p l e R s m args below meth c H locs cells slots Q (F0 m pc ls st0) := by
  intro T hT X
  rcases hr T hT X with ⟨v, st₀, t, T', L, h0, X', hL, e1, e2, ⟨⟨r, u, hv, hp, hb⟩, hF⟩, st⟩ | ⟨q, st₀, t, T', L, E, ce, h0, X', hL, e1, e2, ⟨u, hp, hb, hF⟩, hce, hcv, hcl, st⟩
  · cases hv
    obtain ⟨k1, k2, k3⟩ := vx_keep h0 e1 hS hA hf hL hF
    obtain ⟨t2, a1, b1⟩ := kk r u t T'.heap (locs ++ L) e1.symm (by rw [← e2]; exact X'.warmed.alike) hp hb k1 k2 k3 T' rfl X'
    exact ⟨t2, st t2 a1, b1⟩
  · obtain ⟨k1, k2, k3⟩ := vx_keep h0 e1 hS hAX hf hL hF
    obtain ⟨t2, a1, b1⟩ := kx E ce q u t T'.heap (locs ++ L) e1.symm (by rw [← e2]; exact X'.warmed.alike) hp hb k1 k2 k3 (by rw [e1]; exact hce) hcv hcl T' rfl X'
    exact ⟨t2, st.trans a1, b1⟩
theorem vx_calld {S SX : Type} {post : UInt64 → S → Prop} {px : SX → Prop} {B : S → State → Prop} {BX : String → SX → State → Prop} {AX : Nat → Prop} (hr : vx_Run p l e R s m args below meth c H locs cells slots mc ms (F0 m pc ls st0) rest (va_Qd post B A1 a) (vx_X px BX AX) free) (hS : va_S A0 H0 H locs) (hA : ∀ q, q < H.size → A1 q → A0 q) (hf : ∀ q, free q → A0 q) (hAX : ∀ q, q < H.size → AX q → A0 q)
    (kx : ∀ (E : String) (ce : Cell) (q9 : Addr) (u : SX) (t : State) (H1 : Heap) (locs1 : List Loc), t.heap = H1 → s.vm.Alike t.vm → px u → BX E u t → H.size ≤ H1.size → (∀ q : Nat, q < H.size → ¬ AX q → H1[q]? = H[q]?) → va_S A0 H0 H1 locs1 → H1[q9]? = some ce → ce.vm = .none → s.vm.findClass E = some ce.cls → vx_W p l e R s m args below meth c H1 locs1 (cells + mc) (slots + ms) Q (F0 m pc ls rest) q9)
    (kk : ∀ (r : UInt64) (u : S) (t : State) (H1 : Heap) (locs1 : List Loc), t.heap = H1 → s.vm.Alike t.vm → post r u → B u t → H.size ≤ H1.size → (∀ q : Nat, q < H.size → ¬ A1 q → H1[q]? = H[q]?) → va_S A0 H0 H1 locs1 → W p l e R s m args below meth c H1 locs1 (cells + mc) (slots + ms) Q (F0 m (pc + 3) ls (.double r :: rest))) : W p l e R s m args below meth c H locs cells slots Q (F0 m pc ls st0) := by
  intro T hT X
  rcases hr T hT X with ⟨v, st₀, t, T', L, h0, X', hL, e1, e2, ⟨⟨r, u, hv, hp, hb⟩, hF⟩, st⟩ | ⟨q, st₀, t, T', L, E, ce, h0, X', hL, e1, e2, ⟨u, hp, hb, hF⟩, hce, hcv, hcl, st⟩
  · cases hv
    obtain ⟨k1, k2, k3⟩ := vx_keep h0 e1 hS hA hf hL hF
    obtain ⟨t2, a1, b1⟩ := kk r u t T'.heap (locs ++ L) e1.symm (by rw [← e2]; exact X'.warmed.alike) hp hb k1 k2 k3 T' rfl X'
    exact ⟨t2, st t2 a1, b1⟩
  · obtain ⟨k1, k2, k3⟩ := vx_keep h0 e1 hS hAX hf hL hF
    obtain ⟨t2, a1, b1⟩ := kx E ce q u t T'.heap (locs ++ L) e1.symm (by rw [← e2]; exact X'.warmed.alike) hp hb k1 k2 k3 (by rw [e1]; exact hce) hcv hcl T' rfl X'
    exact ⟨t2, st.trans a1, b1⟩
theorem vx_callv {S SX : Type} {post : S → Prop} {px : SX → Prop} {B : S → State → Prop} {BX : String → SX → State → Prop} {AX : Nat → Prop} (hr : vx_Run p l e R s m args below meth c H locs cells slots mc ms (F0 m pc ls st0) rest (va_Qv post B A1 a) (vx_X px BX AX) free) (hS : va_S A0 H0 H locs) (hA : ∀ q, q < H.size → A1 q → A0 q) (hf : ∀ q, free q → A0 q) (hAX : ∀ q, q < H.size → AX q → A0 q)
    (kx : ∀ (E : String) (ce : Cell) (q9 : Addr) (u : SX) (t : State) (H1 : Heap) (locs1 : List Loc), t.heap = H1 → s.vm.Alike t.vm → px u → BX E u t → H.size ≤ H1.size → (∀ q : Nat, q < H.size → ¬ AX q → H1[q]? = H[q]?) → va_S A0 H0 H1 locs1 → H1[q9]? = some ce → ce.vm = .none → s.vm.findClass E = some ce.cls → vx_W p l e R s m args below meth c H1 locs1 (cells + mc) (slots + ms) Q (F0 m pc ls rest) q9)
    (kk : ∀ (u : S) (t : State) (H1 : Heap) (locs1 : List Loc), t.heap = H1 → s.vm.Alike t.vm → post u → B u t → H.size ≤ H1.size → (∀ q : Nat, q < H.size → ¬ A1 q → H1[q]? = H[q]?) → va_S A0 H0 H1 locs1 → W p l e R s m args below meth c H1 locs1 (cells + mc) (slots + ms) Q (F0 m (pc + 3) ls (rest))) : W p l e R s m args below meth c H locs cells slots Q (F0 m pc ls st0) := by
  intro T hT X
  rcases hr T hT X with ⟨v, st₀, t, T', L, h0, X', hL, e1, e2, ⟨⟨u, hv, hp, hb⟩, hF⟩, st⟩ | ⟨q, st₀, t, T', L, E, ce, h0, X', hL, e1, e2, ⟨u, hp, hb, hF⟩, hce, hcv, hcl, st⟩
  · cases hv
    obtain ⟨k1, k2, k3⟩ := vx_keep h0 e1 hS hA hf hL hF
    obtain ⟨t2, a1, b1⟩ := kk u t T'.heap (locs ++ L) e1.symm (by rw [← e2]; exact X'.warmed.alike) hp hb k1 k2 k3 T' rfl X'
    exact ⟨t2, st t2 a1, b1⟩
  · obtain ⟨k1, k2, k3⟩ := vx_keep h0 e1 hS hAX hf hL hF
    obtain ⟨t2, a1, b1⟩ := kx E ce q u t T'.heap (locs ++ L) e1.symm (by rw [← e2]; exact X'.warmed.alike) hp hb k1 k2 k3 (by rw [e1]; exact hce) hcv hcl T' rfl X'
    exact ⟨t2, st.trans a1, b1⟩
/-- caught by the row x of this method's table; the rows ahead don't take it -/
theorem vx_catch {own name : String} {E : String} {ce : Cell} {q : Addr} (hown : s.vm.findClass own = some m.cls) (pre : List ExceptionTableEntry) (x : ExceptionTableEntry) (suf : List ExceptionTableEntry) (hsplit : c.exceptionTable.toList = pre ++ x :: suf)
    (hpass : ∀ z ∈ pre, covers z pc = false ∨ (z.catchType ≠ 0 ∧ ∃ nm : String, (Cond.classLink own z.catchType nm).before args s = true ∧ va_Nc E nm s)) (hx : covers x pc = true) (h0 : x.catchType ≠ 0)
    (hlink : (Cond.classLink own x.catchType name).before args s = true) (hcast : (Cond.castable E name).before args s = true) (hcell : H[q]? = some ce) (hv : ce.vm = .none) (hcl : s.vm.findClass E = some ce.cls)
    (kk : W p l e R s m args below meth c H locs cells slots Q (F0 m x.handlerPc ls [.ref q])) : vx_W p l e R s m args below meth c H locs cells slots Q (F0 m pc ls rest) q := by
  intro T hT X
  have hpl : e.platform.magicAccessors = ({} : Platform).magicAccessors := by rw [X.admits.platform]
  obtain ⟨c3, c4, hc3, hc4, hasg⟩ := Cond.castable_spec hcast
  cases Option.some.inj (hc3.symm.trans hcl)
  obtain ⟨c5, hc5, hcl5⟩ := Cond.classLink_spec hown hlink e.platform hpl
  cases Option.some.inj (hc4.symm.trans hc5)
  obtain ⟨vm', X', st⟩ := X.thenCaughtThrough q (g := F0 m pc ls rest) rfl (Steps.refl _) (by rw [hT]; exact hcell) (by rw [hv]; rfl) (by obtain ⟨k9, h9, -⟩ := Vm.findClass_spec hcl; exact ⟨k9, h9⟩) pre x suf hsplit
    (fun z hz => by
      rcases hpass z hz with h | ⟨hz0, nm, hl1, hn1⟩
      · exact Or.inl h
      · obtain ⟨c6, hc6, hcl6⟩ := Cond.classLink_spec hown hl1 e.platform hpl
        obtain ⟨a8, b8, h1, h2, h3⟩ := hn1
        cases Option.some.inj (h1.symm.trans hcl)
        cases Option.some.inj (h2.symm.trans hc6)
        exact Or.inr ⟨hz0, _, hcl6, h3⟩) hx (Or.inr ⟨h0, c4, hcl5, hasg⟩)
  obtain ⟨t, a1, b1⟩ := kk (T.setVm vm') hT X'
  exact ⟨t, st.trans a1, b1⟩
end Rows
section Ends
variable {p : Program} {l : Launch} {e : Env} {R : Room} {s : State} {m : MethodId} {args : Array Value} {below : List Frame} {meth : Method} {c : Code} {H : Heap} {locs : List Loc} {cells slots : Nat} {Q : State → Prop}
variable {mc ms : Nat} {free : Addr → Prop} {A0 A1 : Nat → Prop} {H0 : Heap} {a : Array Value} {ls : Array Slot} {st0 rest : List Value}
variable {Qc : Array Value → State → Outcome → State → Prop} {XC : String → State → State → Prop}
/-- what a body that may throw owes at its end -/
def vx_MQ (below : List Frame) (Qc : Array Value → State → Outcome → State → Prop) (XC : String → State → State → Prop) (a : Array Value) (s : State) (mc ms : Nat) (free : Addr → Prop) : State → Prop := fun t =>
  ∃ o, t.status = .running ∧ Ended t below o ∧ vx_Q Qc XC mc ms free a s o t
theorem vx_ret {g : JFrame} {mc ms : Nat} (k : W p l e R s m args below meth c H locs cells slots (MQ below Qc args s mc ms free) g) : W p l e R s m args below meth c H locs cells slots (vx_MQ below Qc XC args s mc ms free) g := by
  intro T hT X
  obtain ⟨t, a1, o, b1, b2, b3, b4⟩ := k T hT X
  exact ⟨t, a1, o, b1, b2, Or.inl ⟨b3, b4⟩⟩
/-- not caught here: it goes on to the caller -/
theorem vx_widen {g : JFrame} {q : Addr} {k n : Nat} (h1 : cells ≤ k) (h2 : slots ≤ n) (kk : vx_W p l e R s m args below meth c H locs k n Q g q) : vx_W p l e R s m args below meth c H locs cells slots Q g q := fun T hT X => kk T hT (stand_widen X h1 h2)
theorem vx_out {pc : Nat} {E : String} {ce : Cell} {q : Addr} {mc ms : Nat} (hout : ∀ x ∈ c.exceptionTable.toList, covers x pc = false) (hlocks : meth.locks = false) (hcell : H[q]? = some ce) (hv : ce.vm = .none) (hcl : s.vm.findClass E = some ce.cls)
    (hx : ∀ t : State, t.heap = H → s.vm.Alike t.vm → XC E s t) (hf : ∀ z ∈ locs, free z.base) (hc : cells ≤ mc) (hs : slots ≤ ms) :
    vx_W p l e R s m args below meth c H locs cells slots (vx_MQ below Qc XC args s mc ms free) (F0 m pc ls rest) q := by
  intro T hT X
  obtain ⟨st1, hrun, hend, hW, hsm⟩ := X.leaveThrown q (g := F0 m pc ls rest) rfl rfl rfl hout hlocks
  have hcell9 : (T.setFrames (.throwing q :: below)).heap[q]? = some ce := by
    show T.heap[q]? = some ce
    rw [hT]; exact hcell
  exact ⟨_, st1, .threw q, hrun, hend, Or.inr ⟨q, rfl, E, ce, locs, hx _ hT hW.alike, hcell9, hv, hcl, hW, hsm.mono hc hs, hf⟩⟩
theorem vx_frame {U : State} {k n : Nat} (h : s.sameButNew ({ U with vm := s.vm } : State) locs k n) : s.heap.size ≤ U.heap.size ∧ ∀ q : Nat, q < s.heap.size → (∀ z ∈ locs, z.base ≠ q) → U.heap[q]? = s.heap[q]? := by
  obtain ⟨-, h2, -, -, -, h6⟩ := h
  refine ⟨h2, fun q hq hz => ?_⟩
  obtain ⟨c9, e1, e2, e3, e4⟩ := h6 q _ (Array.getElem?_eq_getElem hq)
  have hs : c9.slots = (s.heap[q]).slots := Array.ext_getElem? fun i => e4 i fun hm => hz _ hm rfl
  have h9 : c9 = s.heap[q] := by
    rw [hs] at e2
    exact e2
  have e5 : U.heap[q]? = some c9 := e1
  rw [e5, h9, Array.getElem?_eq_getElem hq]
/-- the words of a throw but the four that speak of the heap -/
def vx_no (w : Cond) : Bool := decide (w ≠ .isRef (.static Bundle.tN "UNASSIGNED_STACK" Bundle.steD)) && decide (w ≠ .isRef (.static Bundle.tN "SUPPRESSED_SENTINEL" Bundle.listD)) && decide (w ≠ .laysStatic Bundle.tN "UNASSIGNED_STACK" Bundle.steD) && decide (w ≠ .laysStatic Bundle.tN "SUPPRESSED_SENTINEL" Bundle.listD)
def vx_at0 (own : String) (ic : Nat) (X : String) (names : List String) : List Cond := (Bundle.ownAtoms0 own ic X names).filter vx_no
def vx_atS (own : String) (ic : Nat) (X : String) (names : List String) : List Cond := (Bundle.ownAtoms own ic X names).filter vx_no
/-- a word that the tables alone decide, or a good one -/
def vx_ot (w : Cond) : Bool := w.onTables || goodWord w
theorem vx_ot_at {args a' : Array Value} {s U : State} {w : Cond} (hW : s.WarmedH U.vm) (hvm : s.vm = U.vm) (hg : vx_ot w = true) (h : w.before args s = true) : w.before a' U = true := by
  simp only [vx_ot, Bool.or_eq_true] at hg
  rcases hg with hg | hg
  · exact va_tabs hg hvm h
  · exact word_at hW (good_of_word hg) h
/-- a list's words: the good ones out of the method's own list, the others by premises of their own -/
theorem vx_hat {args : Array Value} {s : State} {L B : List Cond} (h1 : ∀ w ∈ L.filter goodWord, w.before args s = true) (h2 : ∀ w ∈ L.filter (fun w => !goodWord w), w ∈ B) (h3 : ∀ w ∈ B, w.before args s = true) : ∀ w ∈ L, w.before args s = true := by
  intro w hw
  by_cases g : goodWord w = true
  · exact h1 w (List.mem_filter.mpr ⟨hw, g⟩)
  · refine h3 w (h2 w (List.mem_filter.mpr ⟨hw, ?_⟩))
    show (!goodWord w) = true
    cases hgw : goodWord w
    · rfl
    · exact absurd hgw g
theorem vx_c {args : Array Value} {s : State} {w : Cond} {B : List Cond} (h : w.before args s = true) (t : ∀ w ∈ B, w.before args s = true) : ∀ w' ∈ w :: B, w'.before args s = true := fun w' h' => (List.mem_cons.mp h').elim (fun e => by rw [e]; exact h) (t w')
theorem vx_n {args : Array Value} {s : State} : ∀ w ∈ ([] : List Cond), w.before args s = true := fun _ h => nomatch h
theorem vx_own {args : Array Value} {s : State} {L : List Cond} (h1 : ∀ w ∈ L.filter vx_no, w.before args s = true)
    (hU : (Cond.isRef (.static Bundle.tN "UNASSIGNED_STACK" Bundle.steD)).before args s = true) (hN : (Cond.isRef (.static Bundle.tN "SUPPRESSED_SENTINEL" Bundle.listD)).before args s = true)
    (lU : (Cond.laysStatic Bundle.tN "UNASSIGNED_STACK" Bundle.steD).before args s = true) (lN : (Cond.laysStatic Bundle.tN "SUPPRESSED_SENTINEL" Bundle.listD).before args s = true) : ∀ w ∈ L, w.before args s = true := by
  intro w hw
  by_cases e1 : w = .isRef (.static Bundle.tN "UNASSIGNED_STACK" Bundle.steD)
  · rw [e1]; exact hU
  · by_cases e2 : w = .isRef (.static Bundle.tN "SUPPRESSED_SENTINEL" Bundle.listD)
    · rw [e2]; exact hN
    · by_cases e3 : w = .laysStatic Bundle.tN "UNASSIGNED_STACK" Bundle.steD
      · rw [e3]; exact lU
      · by_cases e4 : w = .laysStatic Bundle.tN "SUPPRESSED_SENTINEL" Bundle.listD
        · rw [e4]; exact lN
        · exact h1 w (List.mem_filter.mpr ⟨hw, by unfold vx_no; rw [decide_eq_true e1, decide_eq_true e2, decide_eq_true e3, decide_eq_true e4]; rfl⟩)
/-- where a static field lies, its class's statics cell in H -/
def vx_L (C n d : String) (A : Nat → Prop) (U : State) (H : Heap) : Prop := ∃ (c : ClassId) (k : Class) (i : Nat) (f : Field) (a : Nat) (cell : Cell), U.vm.findClass C = some c ∧ U.fieldFound? C n d = some (c, k, i, f) ∧ f.isStatic = true ∧ k.statics = some a ∧ H[a]? = some cell ∧ cell.vm.isStatics = true ∧ cell.cls = c ∧ f.slot < cell.slots.size ∧ k.staticTypes[f.slot]? = some f.type ∧ ¬ A a
theorem vx_L.moved {C n d : String} {A : Nat → Prop} {u U : State} {H : Heap} (hvm : u.vm.Alike U.vm) (h : vx_L C n d A u H) : vx_L C n d A U H := by
  obtain ⟨c, k, i, f, a, cell, h1, h2, h3, h4, h5, h6, h7, h8, h9, h10⟩ := h
  obtain ⟨k', hi', he⟩ := State.fieldFound?_setVm hvm h2
  exact ⟨c, k', i, f, a, cell, by rw [hvm.findClass]; exact h1, hi', h3, by rw [he]; exact h4, h5, h6, h7, h8, by rw [he]; exact h9, h10⟩
theorem vx_L.kept {C n d : String} {A : Nat → Prop} {U : State} {H H1 : Heap} (h : vx_L C n d A U H) (hq : ∀ a : Nat, a < H.size → ¬ A a → H1[a]? = H[a]?) : vx_L C n d A U H1 := by
  obtain ⟨c, k, i, f, a, cell, h1, h2, h3, h4, h5, h6, h7, h8, h9, h10⟩ := h
  exact ⟨c, k, i, f, a, cell, h1, h2, h3, h4, by rw [hq a (Array.getElem?_eq_some_iff.mp h5).1 h10]; exact h5, h6, h7, h8, h9, h10⟩
theorem vx_L.narrow {C n d : String} {A B : Nat → Prop} {U : State} {H : Heap} (h : vx_L C n d A U H) (hAB : ∀ q, B q → A q) : vx_L C n d B U H := by
  obtain ⟨c, k, i, f, a, cell, h1, h2, h3, h4, h5, h6, h7, h8, h9, h10⟩ := h
  exact ⟨c, k, i, f, a, cell, h1, h2, h3, h4, h5, h6, h7, h8, h9, fun z => h10 (hAB _ z)⟩
theorem vx_L.word {C n d : String} {A : Nat → Prop} {s : State} {args : Array Value} (h : vx_L C n d A s s.heap) : (Cond.laysStatic C n d).before args s = true := by
  obtain ⟨c, k, i, f, a, cell, h1, h2, h3, h4, h5, h6, h7, h8, h9, -⟩ := h
  show (Cond.laysStatic C n d).holds args s none s [] = true
  exact Cond.laysStatic_of h1 h2 h3 h4 h5 h6 h7 h8 h9
/-- .. and what it holds: null or some reference -/
def vx_Zq (C n d : String) (A : Nat → Prop) (U : State) (H : Heap) : Prop := va_Zq C n d A U H ∧ vx_L C n d A U H
theorem vx_Zq.moved {C n d : String} {A : Nat → Prop} {u U : State} {H : Heap} (hvm : u.vm.Alike U.vm) (h : vx_Zq C n d A u H) : vx_Zq C n d A U H := ⟨va_Zq.moved hvm h.1, vx_L.moved hvm h.2⟩
theorem vx_Zq.kept {C n d : String} {A : Nat → Prop} {U : State} {H H1 : Heap} (h : vx_Zq C n d A U H) (hq : ∀ a : Nat, a < H.size → ¬ A a → H1[a]? = H[a]?) : vx_Zq C n d A U H1 := ⟨va_Zq.kept h.1 hq, vx_L.kept h.2 hq⟩
theorem vx_Zq.narrow {C n d : String} {A B : Nat → Prop} {U : State} {H : Heap} (h : vx_Zq C n d A U H) (hAB : ∀ q, B q → A q) : vx_Zq C n d B U H := ⟨va_Zq.narrow h.1 hAB, vx_L.narrow h.2 hAB⟩
theorem vx_Zqof {args : Array Value} {s : State} {C n d : String} {A : Nat → Prop} (hl : (Cond.laysStatic C n d).before args s = true) (hini : (Cond.initialized C).before args s = true) (h : (Cond.isRef (.static C n d)).before args s = true) (hA : ∀ a : Nat, a < s.heap.size → ¬ A a) : vx_Zq C n d A s s.heap := by
  refine ⟨va_Zqof hl hini h hA, ?_⟩
  obtain ⟨c, k, i, f, a, cell, h1, h2, h3, h4, h5, h6, h7, h8, h9⟩ := Cond.laysStatic_spec hl
  exact ⟨c, k, i, f, a, cell, h1, h2, h3, h4, h5, h6, h7, h8, h9, hA a (Array.getElem?_eq_some_iff.mp h5).1⟩
theorem vx_isRef {C n d : String} {v : Value} {A : Nat → Prop} {s : State} {args : Array Value} (h : va_Z C n d v A s s.heap) (hv : v.isRef = true) : (Cond.isRef (.static C n d)).before args s = true := by
  obtain ⟨cf, kf, fi, f, a, cell, h1, h2, h3, h4, h5, h6, h7, -⟩ := h
  have he : (Term.static C n d).eval args s none [] s = some v := by
    simp [Term.eval, State.fieldNamed?, h1, h2, h4, h5, h6, h7]
  simp only [Cond.before, Cond.holds, Cond.value, he]
  cases v <;> simp_all [Value.isRef]
theorem vx_isRefq {C n d : String} {A : Nat → Prop} {s : State} {args : Array Value} (h : va_Zq C n d A s s.heap) : (Cond.isRef (.static C n d)).before args s = true := by
  rcases h with h | ⟨t, h⟩
  · exact vx_isRef h rfl
  · exact vx_isRef h rfl
/-- the same frame, seen from here: as if the method were called anew in this heap -/
theorem vx_rebase {T : State} (X : Stand p l e R s m args below meth c T locs cells slots) {R' : Room} (hf : R'.frames ≤ R.frames) (hl : R'.locals ≤ R.locals) (hc : cells + R'.cells ≤ R.cells) (hs : slots + R'.slots ≤ R.slots) :
    Stand p l e R' ((T.setVm s.vm).setFrames (.invoking m args :: below)) m args below meth c T [] 0 0 := by
  have htop : (T.setVm s.vm).topJava?.isSome := X.here.top
  have hF : ((T.setVm s.vm).setFrames (.invoking m args :: below)).frames = .invoking m args :: below := State.frames_setFrames _ (State.cur_lt_of_top htop)
  obtain ⟨g₀, hg0⟩ := Option.isSome_iff_exists.mp htop
  obtain ⟨r, hr⟩ := State.topJava?_eq_some.mp hg0
  have hl9 : e.platform.stackLimits (T.setVm s.vm).me = e.platform.stackLimits s.me := X.limits
  have hb9 : (T.setVm s.vm).me.stackBytes = s.me.stackBytes := X.bytes
  refine ⟨X.admits, X.cas, X.clock, hF, ?_, X.hears, X.method, X.code, X.here, X.tail, X.warmed, ?_, ?_, ?_⟩
  · have h := X.room
    have hU : ((T.setVm s.vm).setFrames (.invoking m args :: below)).localsInUse = s.localsInUse := by
      rw [State.localsInUse_invoking hF (meth := meth) (c := c) X.method X.code, State.localsInUse_invoking X.frames X.method X.code]
    simp only [State.hasRoom, Bool.and_eq_true, decide_eq_true_eq] at h ⊢
    obtain ⟨⟨⟨⟨h1, h2, h3, h4, h5, h6⟩, h7⟩, h8⟩, h9⟩ := h
    rw [X.frames, List.length_cons] at h2 h3
    have q1 := X.heapSize
    have q2 := X.used
    simp only [hF, hU, List.length_cons, State.stackLimits_setFrames, State.stackBytes_setFrames, hl9, hb9]
    refine ⟨⟨⟨⟨by omega, by omega, by omega, by omega, by omega, h6⟩, ?_⟩, ?_⟩, X.book⟩
    · show T.heap.size + R'.cells ≤ e.platform.maxCells
      omega
    · show T.slotsUsed + R'.slots ≤ e.platform.maxSlots
      omega
  · rw [State.stackLimits_setFrames]; rfl
  · rw [State.stackBytes_setFrames]; rfl
  · refine ⟨?_, Nat.le_refl _, Nat.le_refl _, ?_, ?_, fun a c9 h9 => ⟨c9, h9, rfl, rfl, fun _ _ => rfl⟩⟩
    · obtain ⟨t, ht, -⟩ := State.frames_cons hr
      show T.setVm s.vm = { ((T.setVm s.vm).setFrames (.invoking m args :: below)).setFrames (T.setVm s.vm).frames with heap := T.heap, slotsUsed := T.slotsUsed }
      rw [State.setFrames_setFrames, State.setFrames_self ht]
      rfl
    · show T.slotsUsed = T.slotsUsed + ((T.heap.toList.drop T.heap.size).map (·.slots.size)).sum
      rw [List.drop_eq_nil_of_le (Nat.le_of_eq Array.length_toList)]
      rfl
    · show ((T.heap.toList.drop T.heap.size).map (·.slots.size)).sum ≤ 0
      rw [List.drop_eq_nil_of_le (Nat.le_of_eq Array.length_toList)]
      exact Nat.le_refl _
/-- 'throw new E()': new; dup; invokespecial; athrow -/
theorem vx_throw0 {cc : ByteArray} {pc : Nat} (hexec : p.tables.exec = Jvm.exec) (hb : c.code = cc) (hl : l.stackTraces = false) {own cls : String} {names : List String} {ik ic mc ms : Nat} {A : Nat → Prop}
    (hown : s.vm.findClass own = some m.cls) (hcls : Bundle.fit cls = true) (hnames : ∀ n ∈ names, Bundle.fit n = true)
    (hk : (Cond.classLink own ik cls).before args s = true) (hini : (Cond.initialized cls).before args s = true) (hat : ∀ w ∈ vx_at0 own ic cls names, w.before args s = true)
    (hgood : ∀ w ∈ Cond.classLink own ik cls :: Cond.initialized cls :: vx_at0 own ic cls names, vx_ot w = true)
    (hU : vx_Zq Bundle.tN "UNASSIGNED_STACK" Bundle.steD A s s.heap) (hN : vx_Zq Bundle.tN "SUPPRESSED_SENTINEL" Bundle.listD A s s.heap) (hS : va_S A s.heap H locs) (hsize : ls.size = c.maxLocals)
    (d0 : decode cc pc = .ok (.new ik, 3)) (d3 : decode cc (pc + 3) = .ok (.dup, 1)) (d4 : decode cc (pc + 4) = .ok (.invokespecial ic, 3)) (d7 : decode cc (pc + 7) = .ok (.athrow, 1))
    (hout : ∀ x ∈ c.exceptionTable.toList, covers x (pc + 7) = false)
    (hRframes : names.length + 3 < R.frames) (hRlocals : (rest.map fun v => v.category).sum + (13 * (names.length + 1) + 42) ≤ R.locals) (hRcells : cells + 1 ≤ R.cells) (hRslots : slots + 6 ≤ R.slots) (hlocks : meth.locks = false)
    (hx : ∀ t : State, s.vm.Alike t.vm → H.size ≤ t.heap.size → (∀ q : Nat, q < H.size → t.heap[q]? = H[q]?) → XC cls s t)
    (hf : ∀ z ∈ locs, free z.base) (hc : cells + 1 ≤ mc) (hs : slots + 6 ≤ ms) :
    W p l e R s m args below meth c H locs cells slots (vx_MQ below Qc XC args s mc ms free) (F0 m pc ls rest) := by
  intro T hT X
  have htr : e.platform.stackTraces = false := (show e.platform.stackTraces = l.stackTraces by rw [X.admits.platform]).trans hl
  have Y := vx_rebase X (R' := { frames := R.frames, locals := R.locals, cells := 1, slots := 6 }) (Nat.le_refl _) (Nat.le_refl _) hRcells hRslots
  obtain ⟨s', hA⟩ : ∃ z, z = (T.setVm s.vm).setFrames (.invoking m args :: below) := ⟨_, rfl⟩
  rw [← hA] at Y
  have hvm : s'.vm = s.vm := by rw [hA]; rfl
  have hhp : s'.heap = H := by rw [hA]; exact hT
  have hW0 : s.WarmedH s'.vm := by rw [hvm]; exact State.WarmedH.refl s
  have hat' : ∀ w ∈ vx_at0 own ic cls names, w.before args s' = true := fun w hw => vx_ot_at hW0 hvm.symm (hgood w (List.mem_cons_of_mem _ (List.mem_cons_of_mem _ hw))) (hat w hw)
  have hk' : (Cond.classLink own ik cls).before args s' = true := vx_ot_at hW0 hvm.symm (hgood _ List.mem_cons_self) hk
  have hini' : (Cond.initialized cls).before args s' = true := vx_ot_at hW0 hvm.symm (hgood _ (List.mem_cons_of_mem _ List.mem_cons_self)) hini
  have hU' : vx_Zq Bundle.tN "UNASSIGNED_STACK" Bundle.steD A s' s'.heap := by rw [hhp]; exact vx_Zq.moved hW0.alike (hU.kept hS.2.1)
  have hN' : vx_Zq Bundle.tN "SUPPRESSED_SENTINEL" Bundle.listD A s' s'.heap := by rw [hhp]; exact vx_Zq.moved hW0.alike (hN.kept hS.2.1)
  have h : ∀ w ∈ Bundle.ownAtoms0 own ic cls names, w.before args s' = true := vx_own hat' (vx_isRefq hU'.1) (vx_isRefq hN'.1) hU'.2.word hN'.2.word
  have hown' : s'.vm.findClass own = some m.cls := by rw [hvm]; exact hown
  have hins : (Cond.instantiable cls 6).before args s' = true := h _ (by simp [Bundle.ownAtoms0])
  obtain ⟨vm₁, cX, kX, hfX, hkX, -, -, X₁, st1⟩ := Y.newCold hexec (own := own) (C := cls) (index := ik) (n := 6) hown' hk' hins hini'
    (g := F0 m pc ls rest) rfl (by rw [hb]; exact d0) (Nat.le_refl _) (Nat.le_refl _)
  generalize hT1 : (T.setVm vm₁).pushCell { cls := cX, slots := kX.instanceTypes.map defaultValue, vm := .none } = T1 at X₁ st1
  have hcat : (Value.ref T.heap.size).category = 1 := rfl
  have hcellA : T1.heap[T.heap.size]? = some (freshCell cX kX) := by rw [← hT1]; exact State.heap_pushCell_size _ _
  have d3' : decode c.code (pc + 3) = .ok (.dup, 1) := by rw [hb]; exact d3
  obtain ⟨U, hsteps, hrun, hend, hW, hsame, ce, hce, hO⟩ := X₁.ctorThrow0 hexec htr (own := own) (cls := cls) (names := names) (ic := ic) hown' hcls hnames h (fun x hx => nomatch hx) hfX hkX hcellA (by rw [hhp, hT]; exact Nat.le_refl _)
    (g := { method := m, pc := pc + 4, locals := ls, stack := .ref T.heap.size :: .ref T.heap.size :: rest, locked := none }) rfl hsize rfl rfl (rest := rest) rfl
    (by rw [hb]; exact d4) (by rw [hb]; exact d7) hout hRframes (by simp only [List.map_cons, List.sum_cons, hcat]; omega) hlocks
  obtain ⟨f1, f2⟩ := vx_frame hsame
  rw [hhp] at f1 f2
  have hWs : s.WarmedH U.vm := State.WarmedH.trans hW0 hW
  have hcl : s.vm.findClass cls = some ce.cls := by
    have h9 := hO.cls
    rw [hvm] at h9
    exact h9
  have hall : s.sameButNew ({ U with vm := s.vm } : State) locs mc ms := by
    subst hA
    obtain ⟨e1, e2⟩ := hsame
    rw [State.setFrames_setFrames] at e1
    have h2 : (T.setVm s.vm).sameButNew ({ U with vm := s.vm } : State) [] (0 + 1) (0 + 6) := ⟨e1, e2⟩
    have h3 := X.same.trans h2
    rw [List.append_nil] at h3
    exact h3.mono hc hs
  refine ⟨U, ?_, .threw T.heap.size, hrun, hend, Or.inr ⟨T.heap.size, rfl, cls, ce, locs, hx U hWs.alike f1 (fun q hq => f2 q hq (fun z hz => nomatch hz)), hce, hO.vm, hcl, hWs, hall, hf⟩⟩
  refine st1 _ ?_
  show Steps p.tables e below (T1.setTop { method := m, pc := pc + 3, locals := ls, stack := .ref T.heap.size :: rest, locked := none }) _
  jvm_step X₁.here [X₁.here.top, hexec, d3', Value.category]
  exact hsteps
/-- 'throw new E("text")': new; dup; ldc; invokespecial; athrow -/
theorem vx_throwS {cc : ByteArray} {pc : Nat} (hexec : p.tables.exec = Jvm.exec) (hb : c.code = cc) (hl : l.stackTraces = false) {own cls text : String} {names : List String} {ik is ic mc ms sa : Nat} {A : Nat → Prop}
    (hown : s.vm.findClass own = some m.cls) (hcls : Bundle.fit cls = true) (hnames : ∀ n ∈ names, Bundle.fit n = true)
    (hk : (Cond.classLink own ik cls).before args s = true) (hini : (Cond.initialized cls).before args s = true) (hstr : vk_R own is text sa s) (hat : ∀ w ∈ vx_atS own ic cls names, w.before args s = true)
    (hgood : ∀ w ∈ Cond.classLink own ik cls :: Cond.initialized cls :: vx_atS own ic cls names, vx_ot w = true)
    (hU : vx_Zq Bundle.tN "UNASSIGNED_STACK" Bundle.steD A s s.heap) (hN : vx_Zq Bundle.tN "SUPPRESSED_SENTINEL" Bundle.listD A s s.heap) (hS : va_S A s.heap H locs) (hsize : ls.size = c.maxLocals)
    (d0 : decode cc pc = .ok (.new ik, 3)) (d3 : decode cc (pc + 3) = .ok (.dup, 1)) (d4 : decode cc (pc + 4) = .ok (.ldc is, 2)) (d6 : decode cc (pc + 6) = .ok (.invokespecial ic, 3)) (d9 : decode cc (pc + 9) = .ok (.athrow, 1))
    (hout : ∀ x ∈ c.exceptionTable.toList, covers x (pc + 9) = false)
    (hRframes : names.length + 3 < R.frames) (hRlocals : (rest.map fun v => v.category).sum + (13 * (names.length + 1) + 43) ≤ R.locals) (hRcells : cells + 1 ≤ R.cells) (hRslots : slots + 6 ≤ R.slots) (hlocks : meth.locks = false)
    (hx : ∀ t : State, s.vm.Alike t.vm → H.size ≤ t.heap.size → (∀ q : Nat, q < H.size → t.heap[q]? = H[q]?) → XC cls s t)
    (hf : ∀ z ∈ locs, free z.base) (hc : cells + 1 ≤ mc) (hs : slots + 6 ≤ ms) :
    W p l e R s m args below meth c H locs cells slots (vx_MQ below Qc XC args s mc ms free) (F0 m pc ls rest) := by
  intro T hT X
  have htr : e.platform.stackTraces = false := (show e.platform.stackTraces = l.stackTraces by rw [X.admits.platform]).trans hl
  have Y := vx_rebase X (R' := { frames := R.frames, locals := R.locals, cells := 1, slots := 6 }) (Nat.le_refl _) (Nat.le_refl _) hRcells hRslots
  obtain ⟨s', hA⟩ : ∃ z, z = (T.setVm s.vm).setFrames (.invoking m args :: below) := ⟨_, rfl⟩
  rw [← hA] at Y
  have hvm : s'.vm = s.vm := by rw [hA]; rfl
  have hhp : s'.heap = H := by rw [hA]; exact hT
  have hW0 : s.WarmedH s'.vm := by rw [hvm]; exact State.WarmedH.refl s
  have hat' : ∀ w ∈ vx_atS own ic cls names, w.before args s' = true := fun w hw => vx_ot_at hW0 hvm.symm (hgood w (List.mem_cons_of_mem _ (List.mem_cons_of_mem _ hw))) (hat w hw)
  have hk' : (Cond.classLink own ik cls).before args s' = true := vx_ot_at hW0 hvm.symm (hgood _ List.mem_cons_self) hk
  have hini' : (Cond.initialized cls).before args s' = true := vx_ot_at hW0 hvm.symm (hgood _ (List.mem_cons_of_mem _ List.mem_cons_self)) hini
  have hU' : vx_Zq Bundle.tN "UNASSIGNED_STACK" Bundle.steD A s' s'.heap := by rw [hhp]; exact vx_Zq.moved hW0.alike (hU.kept hS.2.1)
  have hN' : vx_Zq Bundle.tN "SUPPRESSED_SENTINEL" Bundle.listD A s' s'.heap := by rw [hhp]; exact vx_Zq.moved hW0.alike (hN.kept hS.2.1)
  have h : ∀ w ∈ Bundle.ownAtoms own ic cls names, w.before args s' = true := vx_own hat' (vx_isRefq hU'.1) (vx_isRefq hN'.1) hU'.2.word hN'.2.word
  have hown' : s'.vm.findClass own = some m.cls := by rw [hvm]; exact hown
  have hins : (Cond.instantiable cls 6).before args s' = true := h _ (by simp [Bundle.ownAtoms])
  obtain ⟨vm₁, cX, kX, hfX, hkX, -, -, X₁, st1⟩ := Y.newCold hexec (own := own) (C := cls) (index := ik) (n := 6) hown' hk' hins hini'
    (g := F0 m pc ls rest) rfl (by rw [hb]; exact d0) (Nat.le_refl _) (Nat.le_refl _)
  generalize hT1 : (T.setVm vm₁).pushCell { cls := cX, slots := kX.instanceTypes.map defaultValue, vm := .none } = T1 at X₁ st1
  have hcat : (Value.ref T.heap.size).category = 1 := rfl
  have hcellA : T1.heap[T.heap.size]? = some (freshCell cX kX) := by rw [← hT1]; exact State.heap_pushCell_size _ _
  have d3' : decode c.code (pc + 3) = .ok (.dup, 1) := by rw [hb]; exact d3
  have d4' : decode c.code (pc + 4) = .ok (.ldc is, 2) := by rw [hb]; exact d4
  have hstr' : vk_R own is text sa s' := vk_R.warm hW0 hstr
  obtain ⟨U, hsteps, hrun, hend, hW, hsame, ce, hce, hO⟩ := X₁.ctorThrowS hexec htr (own := own) (cls := cls) (names := names) (ic := ic) hown' hcls hnames h (fun x hx => nomatch hx) hfX hkX hcellA (by rw [hhp, hT]; exact Nat.le_refl _) (msg := .ref sa) rfl
    (g := { method := m, pc := pc + 6, locals := ls, stack := .ref sa :: .ref T.heap.size :: .ref T.heap.size :: rest, locked := none }) rfl hsize rfl rfl (rest := rest) rfl
    (by rw [hb]; exact d6) (by rw [hb]; exact d9) hout hRframes (by simp only [List.map_cons, List.sum_cons, hcat]; omega) hlocks
  obtain ⟨f1, f2⟩ := vx_frame hsame
  rw [hhp] at f1 f2
  have hWs : s.WarmedH U.vm := State.WarmedH.trans hW0 hW
  have hcl : s.vm.findClass cls = some ce.cls := by
    have h9 := hO.cls
    rw [hvm] at h9
    exact h9
  have hall : s.sameButNew ({ U with vm := s.vm } : State) locs mc ms := by
    subst hA
    obtain ⟨e1, e2⟩ := hsame
    rw [State.setFrames_setFrames] at e1
    have h2 : (T.setVm s.vm).sameButNew ({ U with vm := s.vm } : State) [] (0 + 1) (0 + 6) := ⟨e1, e2⟩
    have h3 := X.same.trans h2
    rw [List.append_nil] at h3
    exact h3.mono hc hs
  refine ⟨U, ?_, .threw T.heap.size, hrun, hend, Or.inr ⟨T.heap.size, rfl, cls, ce, locs, hx U hWs.alike f1 (fun q hq => f2 q hq (fun z hz => nomatch hz)), hce, hO.vm, hcl, hWs, hall, hf⟩⟩
  refine st1 _ ?_
  show Steps p.tables e below (T1.setTop { method := m, pc := pc + 3, locals := ls, stack := .ref T.heap.size :: rest, locked := none }) _
  jvm_step X₁.here [X₁.here.top, hexec, d3', Value.category]
  exact X₁.ldcString hexec (own := own) (text := text) (index := is) (a := sa) hown' hstr'.1 hstr'.2
    (g := { method := m, pc := pc + 4, locals := ls, stack := .ref T.heap.size :: .ref T.heap.size :: rest, locked := none }) rfl d4' _ hsteps
/-- 'throw new E("text")', the text by a wide index -/
theorem vx_throwSW {cc : ByteArray} {pc : Nat} (hexec : p.tables.exec = Jvm.exec) (hb : c.code = cc) (hl : l.stackTraces = false) {own cls text : String} {names : List String} {ik is ic mc ms sa : Nat} {A : Nat → Prop}
    (hown : s.vm.findClass own = some m.cls) (hcls : Bundle.fit cls = true) (hnames : ∀ n ∈ names, Bundle.fit n = true)
    (hk : (Cond.classLink own ik cls).before args s = true) (hini : (Cond.initialized cls).before args s = true) (hstr : vk_R own is text sa s) (hat : ∀ w ∈ vx_atS own ic cls names, w.before args s = true)
    (hgood : ∀ w ∈ Cond.classLink own ik cls :: Cond.initialized cls :: vx_atS own ic cls names, vx_ot w = true)
    (hU : vx_Zq Bundle.tN "UNASSIGNED_STACK" Bundle.steD A s s.heap) (hN : vx_Zq Bundle.tN "SUPPRESSED_SENTINEL" Bundle.listD A s s.heap) (hS : va_S A s.heap H locs) (hsize : ls.size = c.maxLocals)
    (d0 : decode cc pc = .ok (.new ik, 3)) (d3 : decode cc (pc + 3) = .ok (.dup, 1)) (d4 : decode cc (pc + 4) = .ok (.ldc_w is, 3)) (d7 : decode cc (pc + 7) = .ok (.invokespecial ic, 3)) (d10 : decode cc (pc + 10) = .ok (.athrow, 1))
    (hout : ∀ x ∈ c.exceptionTable.toList, covers x (pc + 10) = false)
    (hRframes : names.length + 3 < R.frames) (hRlocals : (rest.map fun v => v.category).sum + (13 * (names.length + 1) + 43) ≤ R.locals) (hRcells : cells + 1 ≤ R.cells) (hRslots : slots + 6 ≤ R.slots) (hlocks : meth.locks = false)
    (hx : ∀ t : State, s.vm.Alike t.vm → H.size ≤ t.heap.size → (∀ q : Nat, q < H.size → t.heap[q]? = H[q]?) → XC cls s t)
    (hf : ∀ z ∈ locs, free z.base) (hc : cells + 1 ≤ mc) (hs : slots + 6 ≤ ms) :
    W p l e R s m args below meth c H locs cells slots (vx_MQ below Qc XC args s mc ms free) (F0 m pc ls rest) := by
  intro T hT X
  have htr : e.platform.stackTraces = false := (show e.platform.stackTraces = l.stackTraces by rw [X.admits.platform]).trans hl
  have Y := vx_rebase X (R' := { frames := R.frames, locals := R.locals, cells := 1, slots := 6 }) (Nat.le_refl _) (Nat.le_refl _) hRcells hRslots
  obtain ⟨s', hA⟩ : ∃ z, z = (T.setVm s.vm).setFrames (.invoking m args :: below) := ⟨_, rfl⟩
  rw [← hA] at Y
  have hvm : s'.vm = s.vm := by rw [hA]; rfl
  have hhp : s'.heap = H := by rw [hA]; exact hT
  have hW0 : s.WarmedH s'.vm := by rw [hvm]; exact State.WarmedH.refl s
  have hat' : ∀ w ∈ vx_atS own ic cls names, w.before args s' = true := fun w hw => vx_ot_at hW0 hvm.symm (hgood w (List.mem_cons_of_mem _ (List.mem_cons_of_mem _ hw))) (hat w hw)
  have hk' : (Cond.classLink own ik cls).before args s' = true := vx_ot_at hW0 hvm.symm (hgood _ List.mem_cons_self) hk
  have hini' : (Cond.initialized cls).before args s' = true := vx_ot_at hW0 hvm.symm (hgood _ (List.mem_cons_of_mem _ List.mem_cons_self)) hini
  have hU' : vx_Zq Bundle.tN "UNASSIGNED_STACK" Bundle.steD A s' s'.heap := by rw [hhp]; exact vx_Zq.moved hW0.alike (hU.kept hS.2.1)
  have hN' : vx_Zq Bundle.tN "SUPPRESSED_SENTINEL" Bundle.listD A s' s'.heap := by rw [hhp]; exact vx_Zq.moved hW0.alike (hN.kept hS.2.1)
  have h : ∀ w ∈ Bundle.ownAtoms own ic cls names, w.before args s' = true := vx_own hat' (vx_isRefq hU'.1) (vx_isRefq hN'.1) hU'.2.word hN'.2.word
  have hown' : s'.vm.findClass own = some m.cls := by rw [hvm]; exact hown
  have hins : (Cond.instantiable cls 6).before args s' = true := h _ (by simp [Bundle.ownAtoms])
  obtain ⟨vm₁, cX, kX, hfX, hkX, -, -, X₁, st1⟩ := Y.newCold hexec (own := own) (C := cls) (index := ik) (n := 6) hown' hk' hins hini'
    (g := F0 m pc ls rest) rfl (by rw [hb]; exact d0) (Nat.le_refl _) (Nat.le_refl _)
  generalize hT1 : (T.setVm vm₁).pushCell { cls := cX, slots := kX.instanceTypes.map defaultValue, vm := .none } = T1 at X₁ st1
  have hcat : (Value.ref T.heap.size).category = 1 := rfl
  have hcellA : T1.heap[T.heap.size]? = some (freshCell cX kX) := by rw [← hT1]; exact State.heap_pushCell_size _ _
  have d3' : decode c.code (pc + 3) = .ok (.dup, 1) := by rw [hb]; exact d3
  have d4' : decode c.code (pc + 4) = .ok (.ldc_w is, 3) := by rw [hb]; exact d4
  have hstr' : vk_R own is text sa s' := vk_R.warm hW0 hstr
  obtain ⟨U, hsteps, hrun, hend, hW, hsame, ce, hce, hO⟩ := X₁.ctorThrowS hexec htr (own := own) (cls := cls) (names := names) (ic := ic) hown' hcls hnames h (fun x hx => nomatch hx) hfX hkX hcellA (by rw [hhp, hT]; exact Nat.le_refl _) (msg := .ref sa) rfl
    (g := { method := m, pc := pc + 7, locals := ls, stack := .ref sa :: .ref T.heap.size :: .ref T.heap.size :: rest, locked := none }) rfl hsize rfl rfl (rest := rest) rfl
    (by rw [hb]; exact d7) (by rw [hb]; exact d10) hout hRframes (by simp only [List.map_cons, List.sum_cons, hcat]; omega) hlocks
  obtain ⟨f1, f2⟩ := vx_frame hsame
  rw [hhp] at f1 f2
  have hWs : s.WarmedH U.vm := State.WarmedH.trans hW0 hW
  have hcl : s.vm.findClass cls = some ce.cls := by
    have h9 := hO.cls
    rw [hvm] at h9
    exact h9
  have hall : s.sameButNew ({ U with vm := s.vm } : State) locs mc ms := by
    subst hA
    obtain ⟨e1, e2⟩ := hsame
    rw [State.setFrames_setFrames] at e1
    have h2 : (T.setVm s.vm).sameButNew ({ U with vm := s.vm } : State) [] (0 + 1) (0 + 6) := ⟨e1, e2⟩
    have h3 := X.same.trans h2
    rw [List.append_nil] at h3
    exact h3.mono hc hs
  refine ⟨U, ?_, .threw T.heap.size, hrun, hend, Or.inr ⟨T.heap.size, rfl, cls, ce, locs, hx U hWs.alike f1 (fun q hq => f2 q hq (fun z hz => nomatch hz)), hce, hO.vm, hcl, hWs, hall, hf⟩⟩
  refine st1 _ ?_
  show Steps p.tables e below (T1.setTop { method := m, pc := pc + 3, locals := ls, stack := .ref T.heap.size :: rest, locked := none }) _
  jvm_step X₁.here [X₁.here.top, hexec, d3', Value.category]
  exact X₁.ldcStringW hexec (own := own) (text := text) (index := is) (a := sa) hown' hstr'.1 hstr'.2
    (g := { method := m, pc := pc + 4, locals := ls, stack := .ref T.heap.size :: .ref T.heap.size :: rest, locked := none }) rfl d4' _ hsteps
end Ends
section Bodies
variable {l : Launch}
theorem vx_ofW {y : MethodName} {ws ws' : List Cond} {rm : Room} {Pc : Array Value → State → Prop} {Qc : Array Value → State → Outcome → State → Prop} {XC : String → State → State → Prop} {mc ms : Nat} {free : Addr → Prop} {cc : ByteArray} {maxL : Nat} {ret : Option FieldType}
    (hy : plainName y.cls = true) (hw : ws = Cond.code y cc maxL ret :: ws')
    (body : ∀ p e s m args below meth c s₁, BodyLoose p l y (headSpec ws rm) cc maxL ret e s m args below meth c s₁ → c.maxLocals = maxL → (∀ x ∈ c.exceptionTable.toList, False) → Pc args s →
      W p l e (headSpec ws rm).room s m args below meth c s.heap [] 0 0 (vx_MQ below Qc XC args s mc ms free) (entryFrame m args maxL)) : vx_Met l y ws rm Pc Qc XC mc ms free := by
  refine MetFree.of_bodyS (code := cc) (maxLocals := maxL) (ret := ret) hy ?_ ?_
  · intro args s m h hn
    obtain ⟨meth, c, h1, h2, h3, h4, h5, h6, -, -⟩ := Cond.code_spec hn (atoms_spec (ws := ws) h _ (by rw [hw]; exact List.mem_cons_self))
    exact ⟨meth, c, h1, h2, h3, h4, h5, h6⟩
  · intro p e s m args below meth c s₁ B hml hP _
    have hh0 : s₁.heap = s.heap := by rw [B.state]; rfl
    have ht : ∀ x ∈ c.exceptionTable.toList, False := by
      obtain ⟨meth9, c9, h1, h2, -, -, -, -, h7, -⟩ := Cond.code_spec B.named (atoms_spec (ws := ws) B.pre _ (by rw [hw]; exact List.mem_cons_self))
      cases Option.some.inj (h1.symm.trans B.method)
      cases Option.some.inj (h2.symm.trans (Stand.of_body B).code)
      intro x hx
      rw [Array.isEmpty_iff.mp h7] at hx
      cases hx
    obtain ⟨t, a1, o, b1, b2, b3⟩ := body p e s m args below meth c s₁ B hml ht hP s₁ hh0 (Stand.of_body B)
    exact ⟨t, o, a1, b1, b2, b3⟩
/-- the table of a body with handlers -/
theorem vx_table {p : Program} {x y : MethodName} {S : Spec} {cc bytes : ByteArray} {maxL maxL' : Nat} {ret ret' : Option FieldType} {e : Env} {s s₁ : State} {m : MethodId} {args : Array Value} {below : List Frame} {meth : Method} {c : Code} {hh : List (Nat × Nat × Nat × Nat)}
    (B : BodyLoose p l y S cc maxL ret e s m args below meth c s₁) (h : (Cond.codeWith y bytes maxL' ret' hh).before args s = true) : c.exceptionTable.toList = tableOf hh := by
  obtain ⟨m9, meth9, c9, hn9, h1, h2, -, -, h6, -⟩ := Cond.codeWith_spec h
  cases Option.some.inj (hn9.symm.trans B.named)
  cases Option.some.inj (h1.symm.trans B.method)
  cases Option.some.inj (h2.symm.trans (Stand.of_body B).code)
  rw [← h6, table_eq]
end Bodies
end VXA
/-! ===== END ===== -/
/-! ===== BEGIN a static call of a method with an exception table ===== -/
section VXS
variable {p : Program} {l : Launch} {e : Env} {R : Room} {s : State} {m : MethodId} {args : Array Value} {below : List Frame} {meth : Method} {c : Code} {T : State} {H : Heap} {locs : List Loc} {cells slots : Nat}
abbrev vx_CSW (R : Room) (s : State) (args : Array Value) (own : String) (index : Nat) (y : MethodName) (bytes : ByteArray) (maxL : Nat) (ret : Option FieldType) (hh : List (Nat × Nat × Nat × Nat)) (ws : List Cond) (rm : Room) (mc ms n : Nat) : Prop :=
  (rm.cells = mc ∧ rm.slots = ms ∧ rm.frames + 1 ≤ R.frames ∧ 8 + (maxL + 11) + rm.locals ≤ R.locals ∧ (∀ w ∈ ws, ∀ (a' : Array Value) (U : State), s.WarmedH U.vm → w.before a' U = true) ∧ Cond.codeWith y bytes maxL ret hh ∈ ws) ∧
  (Cond.codeWith y bytes maxL ret hh).before args s = true ∧ (Cond.initialized y.cls).before args s = true ∧ (y.cls ≠ "java/lang/invoke/MethodHandle" ∧ y.cls ≠ "java/lang/invoke/VarHandle") ∧
  (∀ sig, parseMethodDescriptor y.desc = some sig → n = sig.parameters.length) ∧ (Cond.methodLink own index y).before args s = true ∧ (Cond.static y).before args s = true
theorem vx_cwSW {own : String} {index maxL mc ms : Nat} {y : MethodName} {bytes : ByteArray} {ret : Option FieldType} {hh : List (Nat × Nat × Nat × Nat)} {Ts ws ws' : List Cond} {rm : Room} (n : Nat) (ht : ∀ w ∈ Ts, w.before args s = true) (hT : GoodIn Ts (va_wsS own index y ws)) (hw : ws = Cond.codeWith y bytes maxL ret hh :: ws') (hrc : rm.cells = mc) (hrs : rm.slots = ms)
    (hd : y.cls ≠ "java/lang/invoke/MethodHandle" ∧ y.cls ≠ "java/lang/invoke/VarHandle" ∧ (parseMethodDescriptor y.desc).map (fun d => d.parameters.length) = some n) (hR : rm.frames + 1 ≤ R.frames ∧ 8 + (maxL + 11) + rm.locals ≤ R.locals) :
    vx_CSW R s args own index y bytes maxL ret hh ws rm mc ms n := by
  have ok : ∀ w ∈ va_wsS own index y ws, w.before args s = true := fun w h => ht w (hT w h).1
  have hG : GoodIn Ts ws := fun w h => hT w (by unfold va_wsS; exact List.mem_append_right _ h)
  have hc : Cond.codeWith y bytes maxL ret hh ∈ ws := by rw [hw]; exact List.mem_cons_self
  refine ⟨⟨hrc, hrs, hR.1, hR.2, pay_in ht hG, hc⟩, ht _ (hG _ hc).1, ok _ (by simp [va_wsS]), ⟨hd.1, hd.2.1⟩, fun sig h => ?_, ok _ (by simp [va_wsS]), ok _ (by simp [va_wsS])⟩
  have h2 := hd.2.2
  rw [h] at h2
  exact (Option.some.inj h2).symm
theorem vx_callSW (X : Stand p l e R s m args below meth c T locs cells slots) (hexec : p.tables.exec = Jvm.exec) {own : String} {index : Nat} {y : MethodName} {bytes : ByteArray} {maxL : Nat} {ret : Option FieldType} {hh : List (Nat × Nat × Nat × Nat)}
    (hown : s.vm.findClass own = some m.cls) (hlink : (Cond.methodLink own index y).before args s = true) (hstat : (Cond.static y).before args s = true) (hinit : (Cond.initialized y.cls).before args s = true)
    (hcode : (Cond.codeWith y bytes maxL ret hh).before args s = true) (hy : y.cls ≠ "java/lang/invoke/MethodHandle" ∧ y.cls ≠ "java/lang/invoke/VarHandle")
    {W9 : Nat} {Pre : Pt → Array Value → Prop} {Post : Pt → Array Value → Option Value → Pt → Prop} (hK : Back l R p e below s args y 3 W9 Pre Post)
    {g : JFrame} (hg : g.method = m) (hsize : g.locals.size = c.maxLocals) {argsL rest : List Value} (hlen : ∀ sig, parseMethodDescriptor y.desc = some sig → argsL.length = sig.parameters.length)
    (hstack : g.stack = argsL.reverse ++ rest) (hW : 2 * g.monitorRoom + (rest.map fun v => v.category).sum ≤ W9) (hdg : decode c.code g.pc = .ok (.invokestatic index, 3))
    (hpre : ∀ vm₁, s.WarmedH vm₁ → Pre ⟨T.setVm vm₁, locs, cells, slots⟩ argsL.toArray) :
    ∃ (v : Option Value) (vm₁ : Vm) (B : Pt), s.WarmedH vm₁ ∧ Stand p l e R s m args below meth c B.U B.locs B.cells B.slots ∧ Post ⟨T.setVm vm₁, locs, cells, slots⟩ argsL.toArray v B ∧
      ∀ target, Steps p.tables e below (B.U.setTop { g with pc := g.pc + 3, stack := v.toList ++ rest }) target → Steps p.tables e below (T.setTop g) target := by
  obtain ⟨mk, methM, cM, hnamed, hmethM, -, -, -, -, -, -, hsigM⟩ := Cond.codeWith_spec hcode
  have hstatic : methM.isStatic = true := Cond.static_spec hnamed hmethM hstat
  obtain ⟨kP, hkP, -⟩ := className_of_methodNamed hnamed
  have hinitP : kP.init = .initialized := Cond.initialized_spec (findClass_of_methodNamed hnamed) hkP hinit
  obtain ⟨vm₁, X₁, hstep₁⟩ := X.invokestatic hexec hown hlink hnamed hmethM hstatic hkP hinitP hy (g := g) hg (argsL := argsL) (rest := rest) (hlen _ hsigM) hstack hdg
  obtain ⟨v, B, X', hpost, hsteps⟩ := hK m meth c ⟨T.setVm vm₁, locs, cells, slots⟩ { g with stack := rest } (.invokestatic index) mk argsL.toArray X₁ hg hsize hdg hW (X₁.named hnamed) (hpre vm₁ X₁.warmed)
  exact ⟨v, vm₁, B, X₁.warmed, X', hpost, fun target h => hstep₁ _ fun acts => by rw [doInvoke_state]; exact hsteps.trans h⟩
theorem vx_runSW {y : MethodName} {bytes cc : ByteArray} {maxL nL mc ms n index : Nat} {ret : Option FieldType} {hh : List (Nat × Nat × Nat × Nat)} {ws : List Cond} {rm : Room} {Pc : Array Value → State → Prop} {Qc : Array Value → State → Outcome → State → Prop} {free : Addr → Prop} {Ts : List Cond} {own : String} {As rest : List Value} {g : JFrame}
    (S : CallFix p m c cc nL s args Ts own) (hM : Met l y ws rm Pc Qc mc ms free) (cw : vx_CSW R s args own index y bytes maxL ret hh ws rm mc ms n) (hp : PreS s H Pc As)
    (hg : g.method = m) (hn : As.length = n) (hsize : g.locals.size = nL) (hstack : g.stack = As.reverse ++ rest) (hW : 2 * g.monitorRoom + (rest.map fun v => v.category).sum ≤ 8) (hdg : decode cc g.pc = .ok (.invokestatic index, 3)) (hf : cells + mc ≤ R.cells ∧ slots + ms ≤ R.slots) :
    va_Run p l e R s m args below meth c H locs cells slots mc ms g rest (Qc As.toArray) (free) := by
  obtain ⟨⟨hrc, hrs, hfr, hlo, hws, hcw⟩, hcode, hini, hy, hlen, hl, hstt⟩ := cw
  have hK : Back l R p e below s args y 3 8 (PreOf R mc ms Pc) (PostOf Qc mc ms free) := va_backW (hh := hh) (bytes := bytes) (maxL := maxL) (ret := ret) hM hp.1 hrc hrs hfr hlo hws hcw (fun a' U hW => word_at hW (Or.inl (by first | rfl | simp [Cond.onTables, Cond.keeps, Cond.steady])) hini)
  obtain ⟨hx, hb, hml, ho, -⟩ := S
  intro T hT X
  obtain ⟨v, vm₁, ⟨U', l2, c2, s2⟩, hW₁, X', ⟨g', mk, t, L, e1, e2, hq, h1, hL, h2, h3⟩, st⟩ := vx_callSW X hx (hh := hh) (bytes := bytes) (maxL := maxL) (ret := ret) ho hl hstt hini hcode hy hK hg (hsize.trans hml.symm) (argsL := As) (rest := rest) (fun sig h => hn.trans (hlen sig h)) hstack hW (by rw [hb]; exact hdg)
    (fun vm₁ hW₁ => ⟨hf.1, hf.2, hp.2 (T.setVm vm₁) hT hW₁⟩)
  dsimp only [Pt.U, Pt.locs, Pt.cells, Pt.slots] at X' e1 e2 h1 h2 h3 st
  subst h1; subst h2; subst h3
  exact ⟨v, (T.setVm vm₁).calling g' mk As.toArray, t, U', L, hT, X', hL, e1, e2, hq, st⟩
/-- not caught here, past rows that name other classes: it goes on to the caller -/
theorem vx_outP {p : Program} {l : Launch} {e : Env} {R : Room} {s : State} {m : MethodId} {args : Array Value} {below : List Frame} {meth : Method} {c : Code} {H : Heap} {locs : List Loc} {cells slots : Nat} {free : Addr → Prop} {ls : Array Slot} {rest : List Value} {Qc : Array Value → State → Outcome → State → Prop} {XC : String → State → State → Prop}
    {pc : Nat} {own E : String} {ce : Cell} {q : Addr} {mc ms : Nat} (hown : s.vm.findClass own = some m.cls) (hlocks : meth.locks = false)
    (hpass : ∀ z ∈ c.exceptionTable.toList, covers z pc = false ∨ (z.catchType ≠ 0 ∧ ∃ nm : String, (Cond.classLink own z.catchType nm).before args s = true ∧ va_Nc E nm s)) (hcell : H[q]? = some ce) (hv : ce.vm = .none) (hcl : s.vm.findClass E = some ce.cls)
    (hx : ∀ t : State, t.heap = H → s.vm.Alike t.vm → XC E s t) (hf : ∀ z ∈ locs, free z.base) (hc : cells ≤ mc) (hs : slots ≤ ms) :
    vx_W p l e R s m args below meth c H locs cells slots (vx_MQ below Qc XC args s mc ms free) (F0 m pc ls rest) q := by
  intro T hT X
  have hpl : e.platform.magicAccessors = ({} : Platform).magicAccessors := by rw [X.admits.platform]
  obtain ⟨vm', hW', X', st⟩ := X.outThrough hlocks q (g := F0 m pc ls rest) rfl rfl rfl (cell := ce) (by rw [hT]; exact hcell) (by rw [hv]; rfl)
    (by obtain ⟨k9, h9, -⟩ := Vm.findClass_spec hcl; exact ⟨k9, h9⟩) (fun z hz => by
      rcases hpass z hz with h | ⟨hz0, nm, hl1, hn1⟩
      · exact Or.inl h
      · obtain ⟨c6, hc6, hcl6⟩ := Cond.classLink_spec hown hl1 e.platform hpl
        obtain ⟨a8, b8, h1, h2, h3⟩ := hn1
        cases Option.some.inj (h1.symm.trans hcl)
        cases Option.some.inj (h2.symm.trans hc6)
        exact Or.inr ⟨hz0, _, hcl6, h3⟩)
  obtain ⟨g₀, hfr⟩ := X'.frames_eq
  have hcell9 : ((T.setVm vm').setFrames (.throwing q :: below)).heap[q]? = some ce := by
    show T.heap[q]? = some ce
    rw [hT]; exact hcell
  have hend : Ended ((T.setVm vm').setFrames (.throwing q :: below)) below (.threw q) := State.frames_setFrames _ (State.cur_lt_of_frames hfr)
  refine ⟨(T.setVm vm').setFrames (.throwing q :: below), ?_, .threw q, X'.here.running, hend, Or.inr ⟨q, rfl, E, ce, locs, hx _ hT (X'.ends _).1.alike, hcell9, hv, hcl, (X'.ends _).1, (X'.ends _).2.mono hc hs, hf⟩⟩
  rw [X.pushThrowing_eq]
  exact st
/-- a thing of a world lies in the heap -/
theorem vx_lt {D : va_G} {cl : List vw_C} {ws : va_W} {H1 : Heap} (h : va_P D cl ws H1) {k : Nat} {q : Nat × va_E} (hk : ws[k]? = some q) : q.1 < H1.size := (h k q hk).lt
end VXS
/-! ===== END ===== -/
/-! ===== BEGIN methods with a table of their own: called by a name, returning or throwing ===== -/
section VXH
/-! vx_backW, vx_callVX, vx_callSX, vx_callVW, vx_runVW, vx_runVX, vx_runSX, vx_ofWH follow the same proofs as their sisters above (Free/Laws.lean, Shelf42/LK1.lean); vx_outP calls Shelf42/NT130.lean (outThrough). -/
section
variable {l : Launch} {R : Room} {p : Program} {e : Env} {below : List Frame} {s : State} {sargs : Array Value} {y : MethodName} {len W9 : Nat}
theorem vx_backW {ws : List Cond} {rm : Room} {Pc : Array Value → State → Prop} {Qc : Array Value → State → Outcome → State → Prop} {XC : String → State → State → Prop} {mc ms : Nat} {free : Addr → Prop} {bytes : ByteArray} {maxL : Nat} {ret : Option FieldType} {hh : List (Nat × Nat × Nat × Nat)}
    (hM : vx_Met l y ws rm Pc Qc XC mc ms free) (hblind : FrameBlind Pc) (hrc : rm.cells = mc) (hrs : rm.slots = ms)
    (hframes : rm.frames + 1 ≤ R.frames) (hlocals : W9 + (maxL + 11) + rm.locals ≤ R.locals)
    (hws : ∀ w ∈ ws, ∀ a' U, s.WarmedH U.vm → w.before a' U = true) (hcode : Cond.codeWith y bytes maxL ret hh ∈ ws) (hinit : ∀ a' U, s.WarmedH U.vm → (Cond.initialized y.cls).before a' U = true) :
    vx_Back l R p e below s sargs y len W9 (PreOf R mc ms Pc) (PostOf Qc mc ms free) (vx_Post XC mc ms free) := by
  intro m meth c A g ig mk a X hg hsize hdg hW hn hp
  have h1 : (headSpec ws rm).pre.before a A.U = true := atoms_intro fun w hw => hws w hw _ _ X.warmed
  have h2 : (Cond.codeWith y bytes maxL ret hh).before a A.U = true := hws _ hcode _ _ X.warmed
  have h3 : (Cond.initialized y.cls).before a A.U = true := hinit _ _ X.warmed
  have h4 : A.cells + (headSpec ws rm).room.cells ≤ R.cells := by rw [show (headSpec ws rm).room.cells = mc from hrc]; exact hp.1
  have h5 : A.slots + (headSpec ws rm).room.slots ≤ R.slots := by rw [show (headSpec ws rm).room.slots = ms from hrs]; exact hp.2.1
  have hPc : Pc a (A.U.calling g mk a) := hblind _ _ _ _ hp.2.2
  obtain ⟨U, Ls, c0, s0⟩ := A
  dsimp only [Pt.U, Pt.locs, Pt.cells, Pt.slots] at h1 h2 h3 h4 h5 X hn hPc ⊢
  obtain ⟨m9, methY, cY, hn9, hmY, hcY, -, hlY, -⟩ := Cond.codeWith_spec h2
  cases Option.some.inj (hn9.symm.trans hn)
  obtain ⟨kY, hkY, -⟩ := className_of_methodNamed hn
  have hinitY : kY.init = .initialized := Cond.initialized_spec (findClass_of_methodNamed hn) hkY h3
  have h : At U g.method c below := by rw [hg]; exact X.here
  have hlocals9 : W9 + (maxL + 11) + (headSpec ws rm).room.locals ≤ R.locals := hlocals
  have happ : (headSpec ws rm).appliesLoose y e.platform (U.calling g mk a) = true :=
    Spec.appliesLoose_calling (g := g) h hdg hn hkY hinitY
      (X.room_calling (g := g) (R' := (headSpec ws rm).room) hsize hmY hcY hframes (by rw [hlY]; omega) h4 h5) h1
  obtain ⟨mid, hmid⟩ := h.above
  have hfr : (U.setTop g).frames = (.java g :: mid) ++ below := by rw [State.frames_setTop' g h.top, hmid]; rfl
  obtain ⟨o, s₂, hsteps, -, hend, hq⟩ := Steps.callFree hM p X.admits X.cas X.clock (acts := []) hfr happ hPc trivial
  have hq' : vx_Q Qc XC mc ms free a (U.calling g mk a) o s₂ := hq
  rw [State.frames_setTop' g h.top] at hend
  obtain ⟨g₀, hg0⟩ := Option.isSome_iff_exists.mp h.top
  obtain ⟨r, hr⟩ := State.topJava?_eq_some.mp hg0
  have hr' : (({ U with heap := s₂.heap, slotsUsed := s₂.slotsUsed } : State).setVm s₂.vm).frames = .java g₀ :: r := hr
  rcases hq' with ⟨hqc, L, hfe, hL⟩ | ⟨q, rfl, E, ce, L, hx, hce, hcv, hcl, hW₂, hsm, hL⟩
  · obtain ⟨⟨v, rfl⟩, hW₂, e2, q2, q3, q4, q5, q6⟩ := id hfe
    have e3 : s₂ = ({ (U.calling g mk a).setFrames s₂.frames with heap := s₂.heap, slotsUsed := s₂.slotsUsed } : State).setVm s₂.vm := by
      have : s₂ = ({ s₂ with vm := (U.calling g mk a).vm } : State).setVm s₂.vm := rfl
      rw [e2] at this
      exact this
    obtain ⟨c₂, i₂, len₂, hc₂, hd₂, hf₂⟩ := hend
    have hW' : U.WarmedH s₂.vm := hW₂
    have hcc : c₂ = c := by
      have h1 : s₂.code? g.method = U.code? g.method := by
        rw [State.code?_eq, State.code?_eq, hW'.alike.method?]
      exact Option.some.inj (hc₂.symm.trans (h1.trans h.code))
    subst hcc
    have hlen : len₂ = len := by rw [hdg] at hd₂; cases hd₂; rfl
    subst hlen
    have hs₂ : s₂ = (({ U with heap := s₂.heap, slotsUsed := s₂.slotsUsed } : State).setVm s₂.vm).setTop { g with pc := g.pc + len₂, stack := v.toList ++ g.stack } := by
      refine e3.trans ?_
      rw [hf₂, State.calling_eq h.top, State.setFrames_setFrames, State.setTop_of_frames _ hr', hr]
      rfl
    have hsame : U.sameButNew ({ U with heap := s₂.heap, slotsUsed := s₂.slotsUsed } : State) L mc ms := by
      refine ⟨?_, q2, q3, q4, q5, q6⟩
      obtain ⟨t, ht, -⟩ := State.frames_cons hr
      show ({ U with heap := s₂.heap, slotsUsed := s₂.slotsUsed } : State) = { U.setFrames U.frames with heap := s₂.heap, slotsUsed := s₂.slotsUsed }
      rw [State.setFrames_self ht]
    subst hg
    refine Or.inl ⟨v, ⟨(({ U with heap := s₂.heap, slotsUsed := s₂.slotsUsed } : State).setVm s₂.vm), Ls ++ L, c0 + mc, s0 + ms⟩,
      ⟨X.admits, X.cas, X.clock, X.frames, X.room, X.hears, X.method, X.code, (X.here.setHeapUsed s₂.heap s₂.slotsUsed).setVm hW'.alike, X.tail, State.WarmedH.trans X.warmed hW', X.limits, X.bytes, X.same.trans (hsame.setVm s.vm)⟩,
      ⟨g, mk, s₂, L, rfl, rfl, hqc, rfl, hL, rfl, rfl⟩, ?_⟩
    show Steps p.tables e below _ ((({ U with heap := s₂.heap, slotsUsed := s₂.slotsUsed } : State).setVm s₂.vm).setTop { g with pc := g.pc + len₂, stack := v.toList ++ g.stack })
    rw [← hs₂]
    exact hsteps
  · obtain ⟨e2, q2, q3, q4, q5, q6⟩ := id hsm
    have e3 : s₂ = ({ (U.calling g mk a).setFrames s₂.frames with heap := s₂.heap, slotsUsed := s₂.slotsUsed } : State).setVm s₂.vm := by
      have : s₂ = ({ s₂ with vm := (U.calling g mk a).vm } : State).setVm s₂.vm := rfl
      rw [e2] at this
      exact this
    have hf₂ : s₂.frames = .throwing q :: .java g :: U.frames.tail := hend
    have hW' : U.WarmedH s₂.vm := hW₂
    have hs₂ : s₂ = ((({ U with heap := s₂.heap, slotsUsed := s₂.slotsUsed } : State).setVm s₂.vm).setTop g).pushFrame (.throwing q) := by
      refine e3.trans ?_
      rw [hf₂, State.calling_eq h.top, State.setFrames_setFrames, State.pushFrame, State.frames_setTop _ hr', State.setTop_of_frames _ hr', State.setFrames_setFrames, hr]
      rfl
    have hsame : U.sameButNew ({ U with heap := s₂.heap, slotsUsed := s₂.slotsUsed } : State) L mc ms := by
      refine ⟨?_, q2, q3, q4, q5, q6⟩
      obtain ⟨t, ht, -⟩ := State.frames_cons hr
      show ({ U with heap := s₂.heap, slotsUsed := s₂.slotsUsed } : State) = { U.setFrames U.frames with heap := s₂.heap, slotsUsed := s₂.slotsUsed }
      rw [State.setFrames_self ht]
    subst hg
    refine Or.inr ⟨q, ⟨(({ U with heap := s₂.heap, slotsUsed := s₂.slotsUsed } : State).setVm s₂.vm), Ls ++ L, c0 + mc, s0 + ms⟩,
      ⟨X.admits, X.cas, X.clock, X.frames, X.room, X.hears, X.method, X.code, (X.here.setHeapUsed s₂.heap s₂.slotsUsed).setVm hW'.alike, X.tail, State.WarmedH.trans X.warmed hW', X.limits, X.bytes, X.same.trans (hsame.setVm s.vm)⟩,
      ⟨g, mk, s₂, L, E, ce, rfl, rfl, hx, hce, hcv, hcl, rfl, hL, rfl, rfl⟩, ?_⟩
    show Steps p.tables e below _ (((({ U with heap := s₂.heap, slotsUsed := s₂.slotsUsed } : State).setVm s₂.vm).setTop g).pushFrame (.throwing q))
    rw [← hs₂]
    exact hsteps
end
variable {p : Program} {l : Launch} {e : Env} {R : Room} {s : State} {m : MethodId} {args : Array Value} {below : List Frame} {meth : Method} {c : Code} {T : State} {H : Heap} {locs : List Loc} {cells slots : Nat}
theorem vx_callVX (X : Stand p l e R s m args below meth c T locs cells slots) (hexec : p.tables.exec = Jvm.exec) {own C : String} {index : Nat} {y : MethodName} {bytes : ByteArray} {maxL : Nat} {ret : Option FieldType} {hh : List (Nat × Nat × Nat × Nat)}
    (hown : s.vm.findClass own = some m.cls) (hlink : (Cond.methodLink own index y).before args s = true) (hinst : (Cond.instanceMethod y).before args s = true) (hsel : (Cond.selects C y y).before args s = true)
    (hcode : (Cond.codeWith y bytes maxL ret hh).before args s = true) (hy : y.cls ≠ "java/lang/invoke/MethodHandle" ∧ y.cls ≠ "java/lang/invoke/VarHandle")
    {W9 : Nat} {Pre : Pt → Array Value → Prop} {Post : Pt → Array Value → Option Value → Pt → Prop} {PostX : Pt → Array Value → Addr → Pt → Prop} (hK : vx_Back l R p e below s args y 3 W9 Pre Post PostX)
    {b : Addr} {cellB : Cell} (hcell : T.heap[b]? = some cellB) (hobj : cellB.vm.isStatics = false) (hcls : s.vm.findClass C = some cellB.cls)
    {g : JFrame} (hg : g.method = m) (hsize : g.locals.size = c.maxLocals) {argsL rest : List Value} (hlen : ∀ sig, parseMethodDescriptor y.desc = some sig → argsL.length = sig.parameters.length)
    (hstack : g.stack = argsL.reverse ++ .ref b :: rest) (hW : 2 * g.monitorRoom + (rest.map fun v => v.category).sum ≤ W9) (hdg : decode c.code g.pc = .ok (.invokevirtual index, 3))
    (hpre : ∀ vm₁, s.WarmedH vm₁ → Pre ⟨T.setVm vm₁, locs, cells, slots⟩ (Value.ref b :: argsL).toArray) :
    (∃ (v : Option Value) (vm₁ : Vm) (B : Pt), s.WarmedH vm₁ ∧ Stand p l e R s m args below meth c B.U B.locs B.cells B.slots ∧ Post ⟨T.setVm vm₁, locs, cells, slots⟩ (Value.ref b :: argsL).toArray v B ∧
      ∀ target, Steps p.tables e below (B.U.setTop { g with pc := g.pc + 3, stack := v.toList ++ rest }) target → Steps p.tables e below (T.setTop g) target) ∨
    (∃ (q : Addr) (vm₁ : Vm) (B : Pt), s.WarmedH vm₁ ∧ Stand p l e R s m args below meth c B.U B.locs B.cells B.slots ∧ PostX ⟨T.setVm vm₁, locs, cells, slots⟩ (Value.ref b :: argsL).toArray q B ∧
      Steps p.tables e below (T.setTop g) ((B.U.setTop { g with stack := rest }).pushFrame (.throwing q))) := by
  obtain ⟨mk, methM, hnamed, hmethM, hstM, habM⟩ := Cond.instanceMethod_spec hinst
  obtain ⟨m8, methM', cM, hn8, hmethM', -, -, -, -, -, -, hsigM⟩ := Cond.codeWith_spec hcode
  cases Option.some.inj (hn8.symm.trans hnamed)
  cases hmethM.symm.trans hmethM'
  obtain ⟨c2, r2, m2, q1, q2, q3, q4, kP, hkP, hkPi⟩ := Cond.selects_spec hsel
  cases hcls.symm.trans q1
  cases (State.methodFound?_of_named hnamed hy).symm.trans q2
  cases hnamed.symm.trans q3
  have hselP : selectMethod e.platform s.vm cellB.cls mk = .method mk := by rw [Launch.admits_selectMethod X.admits]; exact q4
  obtain ⟨vm₁, X₁, hstep₁⟩ := X.invokevirtual hexec hown hlink hnamed hmethM hstM hkP hkPi hy (a := b) (cell := cellB) hcell
    (fun z h => by rw [h] at hobj; cases hobj) hselP hmethM habM hkP hkPi (g := g) hg (argsL := argsL) (rest := rest) (hlen _ hsigM) hstack hdg
  rcases hK m meth c ⟨T.setVm vm₁, locs, cells, slots⟩ { g with stack := rest } (.invokevirtual index) mk (Value.ref b :: argsL).toArray X₁ hg hsize hdg hW (X₁.named hnamed) (hpre vm₁ X₁.warmed) with ⟨v, B, X', hpost, hsteps⟩ | ⟨q, B, X', hpost, hsteps⟩
  · exact Or.inl ⟨v, vm₁, B, X₁.warmed, X', hpost, fun target h => hstep₁ _ fun acts => by rw [doInvoke_state]; exact hsteps.trans h⟩
  · exact Or.inr ⟨q, vm₁, B, X₁.warmed, X', hpost, hstep₁ _ fun acts => by rw [doInvoke_state]; exact hsteps⟩
theorem vx_callSX (X : Stand p l e R s m args below meth c T locs cells slots) (hexec : p.tables.exec = Jvm.exec) {own : String} {index : Nat} {y : MethodName} {bytes : ByteArray} {maxL : Nat} {ret : Option FieldType} {hh : List (Nat × Nat × Nat × Nat)}
    (hown : s.vm.findClass own = some m.cls) (hlink : (Cond.methodLink own index y).before args s = true) (hstat : (Cond.static y).before args s = true) (hinit : (Cond.initialized y.cls).before args s = true)
    (hcode : (Cond.codeWith y bytes maxL ret hh).before args s = true) (hy : y.cls ≠ "java/lang/invoke/MethodHandle" ∧ y.cls ≠ "java/lang/invoke/VarHandle")
    {W9 : Nat} {Pre : Pt → Array Value → Prop} {Post : Pt → Array Value → Option Value → Pt → Prop} {PostX : Pt → Array Value → Addr → Pt → Prop} (hK : vx_Back l R p e below s args y 3 W9 Pre Post PostX)
    {g : JFrame} (hg : g.method = m) (hsize : g.locals.size = c.maxLocals) {argsL rest : List Value} (hlen : ∀ sig, parseMethodDescriptor y.desc = some sig → argsL.length = sig.parameters.length)
    (hstack : g.stack = argsL.reverse ++ rest) (hW : 2 * g.monitorRoom + (rest.map fun v => v.category).sum ≤ W9) (hdg : decode c.code g.pc = .ok (.invokestatic index, 3))
    (hpre : ∀ vm₁, s.WarmedH vm₁ → Pre ⟨T.setVm vm₁, locs, cells, slots⟩ argsL.toArray) :
    (∃ (v : Option Value) (vm₁ : Vm) (B : Pt), s.WarmedH vm₁ ∧ Stand p l e R s m args below meth c B.U B.locs B.cells B.slots ∧ Post ⟨T.setVm vm₁, locs, cells, slots⟩ argsL.toArray v B ∧
      ∀ target, Steps p.tables e below (B.U.setTop { g with pc := g.pc + 3, stack := v.toList ++ rest }) target → Steps p.tables e below (T.setTop g) target) ∨
    (∃ (q : Addr) (vm₁ : Vm) (B : Pt), s.WarmedH vm₁ ∧ Stand p l e R s m args below meth c B.U B.locs B.cells B.slots ∧ PostX ⟨T.setVm vm₁, locs, cells, slots⟩ argsL.toArray q B ∧
      Steps p.tables e below (T.setTop g) ((B.U.setTop { g with stack := rest }).pushFrame (.throwing q))) := by
  obtain ⟨mk, methM, cM, hnamed, hmethM, -, -, -, -, -, -, hsigM⟩ := Cond.codeWith_spec hcode
  have hstatic : methM.isStatic = true := Cond.static_spec hnamed hmethM hstat
  obtain ⟨kP, hkP, -⟩ := className_of_methodNamed hnamed
  have hinitP : kP.init = .initialized := Cond.initialized_spec (findClass_of_methodNamed hnamed) hkP hinit
  obtain ⟨vm₁, X₁, hstep₁⟩ := X.invokestatic hexec hown hlink hnamed hmethM hstatic hkP hinitP hy (g := g) hg (argsL := argsL) (rest := rest) (hlen _ hsigM) hstack hdg
  rcases hK m meth c ⟨T.setVm vm₁, locs, cells, slots⟩ { g with stack := rest } (.invokestatic index) mk argsL.toArray X₁ hg hsize hdg hW (X₁.named hnamed) (hpre vm₁ X₁.warmed) with ⟨v, B, X', hpost, hsteps⟩ | ⟨q, B, X', hpost, hsteps⟩
  · exact Or.inl ⟨v, vm₁, B, X₁.warmed, X', hpost, fun target h => hstep₁ _ fun acts => by rw [doInvoke_state]; exact hsteps.trans h⟩
  · exact Or.inr ⟨q, vm₁, B, X₁.warmed, X', hpost, hstep₁ _ fun acts => by rw [doInvoke_state]; exact hsteps⟩
theorem vx_callVW (X : Stand p l e R s m args below meth c T locs cells slots) (hexec : p.tables.exec = Jvm.exec) {own C : String} {index : Nat} {y : MethodName} {bytes : ByteArray} {maxL : Nat} {ret : Option FieldType} {hh : List (Nat × Nat × Nat × Nat)}
    (hown : s.vm.findClass own = some m.cls) (hlink : (Cond.methodLink own index y).before args s = true) (hinst : (Cond.instanceMethod y).before args s = true) (hsel : (Cond.selects C y y).before args s = true)
    (hcode : (Cond.codeWith y bytes maxL ret hh).before args s = true) (hy : y.cls ≠ "java/lang/invoke/MethodHandle" ∧ y.cls ≠ "java/lang/invoke/VarHandle")
    {W9 : Nat} {Pre : Pt → Array Value → Prop} {Post : Pt → Array Value → Option Value → Pt → Prop} (hK : Back l R p e below s args y 3 W9 Pre Post)
    {b : Addr} {cellB : Cell} (hcell : T.heap[b]? = some cellB) (hobj : cellB.vm.isStatics = false) (hcls : s.vm.findClass C = some cellB.cls)
    {g : JFrame} (hg : g.method = m) (hsize : g.locals.size = c.maxLocals) {argsL rest : List Value} (hlen : ∀ sig, parseMethodDescriptor y.desc = some sig → argsL.length = sig.parameters.length)
    (hstack : g.stack = argsL.reverse ++ .ref b :: rest) (hW : 2 * g.monitorRoom + (rest.map fun v => v.category).sum ≤ W9) (hdg : decode c.code g.pc = .ok (.invokevirtual index, 3))
    (hpre : ∀ vm₁, s.WarmedH vm₁ → Pre ⟨T.setVm vm₁, locs, cells, slots⟩ (Value.ref b :: argsL).toArray) :
    ∃ (v : Option Value) (vm₁ : Vm) (B : Pt), s.WarmedH vm₁ ∧ Stand p l e R s m args below meth c B.U B.locs B.cells B.slots ∧ Post ⟨T.setVm vm₁, locs, cells, slots⟩ (Value.ref b :: argsL).toArray v B ∧
      ∀ target, Steps p.tables e below (B.U.setTop { g with pc := g.pc + 3, stack := v.toList ++ rest }) target → Steps p.tables e below (T.setTop g) target := by
  obtain ⟨mk, methM, hnamed, hmethM, hstM, habM⟩ := Cond.instanceMethod_spec hinst
  obtain ⟨m8, methM', cM, hn8, hmethM', -, -, -, -, -, -, hsigM⟩ := Cond.codeWith_spec hcode
  cases Option.some.inj (hn8.symm.trans hnamed)
  cases hmethM.symm.trans hmethM'
  obtain ⟨c2, r2, m2, q1, q2, q3, q4, kP, hkP, hkPi⟩ := Cond.selects_spec hsel
  cases hcls.symm.trans q1
  cases (State.methodFound?_of_named hnamed hy).symm.trans q2
  cases hnamed.symm.trans q3
  have hselP : selectMethod e.platform s.vm cellB.cls mk = .method mk := by rw [Launch.admits_selectMethod X.admits]; exact q4
  obtain ⟨vm₁, X₁, hstep₁⟩ := X.invokevirtual hexec hown hlink hnamed hmethM hstM hkP hkPi hy (a := b) (cell := cellB) hcell
    (fun z h => by rw [h] at hobj; cases hobj) hselP hmethM habM hkP hkPi (g := g) hg (argsL := argsL) (rest := rest) (hlen _ hsigM) hstack hdg
  obtain ⟨v, B, X', hpost, hsteps⟩ := hK m meth c ⟨T.setVm vm₁, locs, cells, slots⟩ { g with stack := rest } (.invokevirtual index) mk (Value.ref b :: argsL).toArray X₁ hg hsize hdg hW (X₁.named hnamed) (hpre vm₁ X₁.warmed)
  exact ⟨v, vm₁, B, X₁.warmed, X', hpost, fun target h => hstep₁ _ fun acts => by rw [doInvoke_state]; exact hsteps.trans h⟩
abbrev vx_CVW (R : Room) (s : State) (args : Array Value) (own C : String) (index : Nat) (y : MethodName) (bytes : ByteArray) (maxL : Nat) (ret : Option FieldType) (hh : List (Nat × Nat × Nat × Nat)) (ws : List Cond) (rm : Room) (mc ms n : Nat) : Prop :=
  (rm.cells = mc ∧ rm.slots = ms ∧ rm.frames + 1 ≤ R.frames ∧ 8 + (maxL + 11) + rm.locals ≤ R.locals ∧ (∀ w ∈ ws, ∀ (a' : Array Value) (U : State), s.WarmedH U.vm → w.before a' U = true) ∧ Cond.codeWith y bytes maxL ret hh ∈ ws) ∧
  (Cond.codeWith y bytes maxL ret hh).before args s = true ∧ (Cond.initialized y.cls).before args s = true ∧ (y.cls ≠ "java/lang/invoke/MethodHandle" ∧ y.cls ≠ "java/lang/invoke/VarHandle") ∧
  (∀ sig, parseMethodDescriptor y.desc = some sig → n = sig.parameters.length) ∧ (Cond.methodLink own index y).before args s = true ∧ (Cond.instanceMethod y).before args s = true ∧ (Cond.selects C y y).before args s = true
theorem vx_cwVW {own C : String} {index maxL mc ms : Nat} {y : MethodName} {bytes : ByteArray} {ret : Option FieldType} {hh : List (Nat × Nat × Nat × Nat)} {Ts ws ws' : List Cond} {rm : Room} (n : Nat) (ht : ∀ w ∈ Ts, w.before args s = true) (hT : GoodIn Ts (wsV own index C y ws)) (hw : ws = Cond.codeWith y bytes maxL ret hh :: ws') (hrc : rm.cells = mc) (hrs : rm.slots = ms)
    (hd : y.cls = C ∧ y.cls ≠ "java/lang/invoke/MethodHandle" ∧ y.cls ≠ "java/lang/invoke/VarHandle" ∧ (parseMethodDescriptor y.desc).map (fun d => d.parameters.length) = some n) (hR : rm.frames + 1 ≤ R.frames ∧ 8 + (maxL + 11) + rm.locals ≤ R.locals) :
    vx_CVW R s args own C index y bytes maxL ret hh ws rm mc ms n := by
  obtain ⟨hC, hd⟩ := hd
  subst hC
  have ok : ∀ w ∈ wsV own index y.cls y ws, w.before args s = true := fun w h => ht w (hT w h).1
  have hG : GoodIn Ts ws := fun w h => hT w (by unfold wsV; exact List.mem_append_right _ h)
  have hc : Cond.codeWith y bytes maxL ret hh ∈ ws := by rw [hw]; exact List.mem_cons_self
  refine ⟨⟨hrc, hrs, hR.1, hR.2, pay_in ht hG, hc⟩, ht _ (hG _ hc).1, ok _ (by simp [wsV]), ⟨hd.1, hd.2.1⟩, fun sig h => ?_, ok _ (by simp [wsV]), ok _ (by simp [wsV]), ok _ (by simp [wsV])⟩
  have h2 := hd.2.2
  rw [h] at h2
  exact (Option.some.inj h2).symm
theorem vx_runVW {y : MethodName} {bytes cc : ByteArray} {maxL nL mc ms n index : Nat} {ret : Option FieldType} {hh : List (Nat × Nat × Nat × Nat)} {ws : List Cond} {rm : Room} {Pc : Array Value → State → Prop} {Qc : Array Value → State → Outcome → State → Prop} {free : Addr → Prop} {Ts : List Cond} {own C : String} {b : Addr} {As rest : List Value} {g : JFrame}
    (S : CallFix p m c cc nL s args Ts own) (hM : Met l y ws rm Pc Qc mc ms free) (cw : vx_CVW R s args own C index y bytes maxL ret hh ws rm mc ms n) (hp : PreV s H C b Pc As)
    (hg : g.method = m) (hn : As.length = n) (hsize : g.locals.size = nL) (hstack : g.stack = As.reverse ++ .ref b :: rest) (hW : 2 * g.monitorRoom + (rest.map fun v => v.category).sum ≤ 8) (hdg : decode cc g.pc = .ok (.invokevirtual index, 3)) (hf : cells + mc ≤ R.cells ∧ slots + ms ≤ R.slots) :
    va_Run p l e R s m args below meth c H locs cells slots mc ms g rest (Qc (Value.ref b :: As).toArray) free := by
  obtain ⟨⟨hrc, hrs, hfr, hlo, hws, hcw⟩, hcode, hini, hy, hlen, hl, hin, hse⟩ := cw
  have hK : Back l R p e below s args y 3 8 (PreOf R mc ms Pc) (PostOf Qc mc ms free) := va_backW (hh := hh) (bytes := bytes) (maxL := maxL) (ret := ret) hM hp.1 hrc hrs hfr hlo hws hcw (fun a' U hW => word_at hW (Or.inl (by first | rfl | simp [Cond.onTables, Cond.keeps, Cond.steady])) hini)
  obtain ⟨hx, hb, hml, ho, -⟩ := S
  obtain ⟨-, ⟨cellB, hcB, hoB, hclB⟩, hPc⟩ := hp
  intro T hT X
  obtain ⟨v, vm₁, ⟨U', l2, c2, s2⟩, hW₁, X', ⟨g', mk, t, L, e1, e2, hq, h1, hL, h2, h3⟩, st⟩ := vx_callVW X hx (C := C) (hh := hh) (bytes := bytes) (maxL := maxL) (ret := ret) ho hl hin hse hcode hy hK (by rw [hT]; exact hcB) hoB hclB hg (hsize.trans hml.symm) (argsL := As) (rest := rest) (fun sig h => hn.trans (hlen sig h)) hstack hW (by rw [hb]; exact hdg)
    (fun vm₁ hW₁ => ⟨hf.1, hf.2, hPc (T.setVm vm₁) hT hW₁⟩)
  dsimp only [Pt.U, Pt.locs, Pt.cells, Pt.slots] at X' e1 e2 h1 h2 h3 st
  subst h1; subst h2; subst h3
  exact ⟨v, (T.setVm vm₁).calling g' mk (Value.ref b :: As).toArray, t, U', L, hT, X', hL, e1, e2, hq, st⟩
section
variable {y : MethodName} {bytes cc : ByteArray} {maxL nL mc ms n index : Nat} {ret : Option FieldType} {ws : List Cond} {rm : Room} {Pc : Array Value → State → Prop} {Qc : Array Value → State → Outcome → State → Prop} {XC : String → State → State → Prop} {free : Addr → Prop} {Ts : List Cond} {own C : String} {b : Addr} {As rest : List Value} {g : JFrame}
theorem vx_runVX {hh : List (Nat × Nat × Nat × Nat)} (S : CallFix p m c cc nL s args Ts own) (hM : vx_Met l y ws rm Pc Qc XC mc ms free) (cw : vx_CVW R s args own C index y bytes maxL ret hh ws rm mc ms n) (hp : PreV s H C b Pc As)
    (hg : g.method = m) (hn : As.length = n) (hsize : g.locals.size = nL) (hstack : g.stack = As.reverse ++ .ref b :: rest) (hW : 2 * g.monitorRoom + (rest.map fun v => v.category).sum ≤ 8) (hdg : decode cc g.pc = .ok (.invokevirtual index, 3)) (hf : cells + mc ≤ R.cells ∧ slots + ms ≤ R.slots) :
    vx_Run p l e R s m args below meth c H locs cells slots mc ms g rest (Qc (Value.ref b :: As).toArray) XC free := by
  obtain ⟨⟨hrc, hrs, hfr, hlo, hws, hcw⟩, hcode, hini, hy, hlen, hl, hin, hse⟩ := cw
  have hK : vx_Back l R p e below s args y 3 8 (PreOf R mc ms Pc) (PostOf Qc mc ms free) (vx_Post XC mc ms free) := vx_backW (hh := hh) (bytes := bytes) (maxL := maxL) (ret := ret) hM hp.1 hrc hrs hfr hlo hws hcw (fun a' U hW => word_at hW (Or.inl (by first | rfl | simp [Cond.onTables, Cond.keeps, Cond.steady])) hini)
  obtain ⟨hx, hb, hml, ho, -⟩ := S
  obtain ⟨-, ⟨cellB, hcB, hoB, hclB⟩, hPc⟩ := hp
  intro T hT X
  rcases vx_callVX X hx (C := C) (hh := hh) (bytes := bytes) (maxL := maxL) (ret := ret) ho hl hin hse hcode hy hK (by rw [hT]; exact hcB) hoB hclB hg (hsize.trans hml.symm) (argsL := As) (rest := rest) (fun sig h => hn.trans (hlen sig h)) hstack hW (by rw [hb]; exact hdg)
    (fun vm₁ hW₁ => ⟨hf.1, hf.2, hPc (T.setVm vm₁) hT hW₁⟩) with ⟨v, vm₁, ⟨U', l2, c2, s2⟩, hW₁, X', ⟨g', mk, t, L, e1, e2, hq, h1, hL, h2, h3⟩, st⟩ | ⟨q, vm₁, ⟨U', l2, c2, s2⟩, hW₁, X', ⟨g', mk, t, L, E, ce, e1, e2, hq, hce, hcv, hcl, h1, hL, h2, h3⟩, st⟩
  · dsimp only [Pt.U, Pt.locs, Pt.cells, Pt.slots] at X' e1 e2 h1 h2 h3 st
    subst h1; subst h2; subst h3
    exact Or.inl ⟨v, (T.setVm vm₁).calling g' mk (Value.ref b :: As).toArray, t, U', L, hT, X', hL, e1, e2, hq, st⟩
  · dsimp only [Pt.U, Pt.locs, Pt.cells, Pt.slots] at X' e1 e2 h1 h2 h3 st hcl
    subst h1; subst h2; subst h3
    exact Or.inr ⟨q, (T.setVm vm₁).calling g' mk (Value.ref b :: As).toArray, t, U', L, E, ce, hT, X', hL, e1, e2, hq, hce, hcv, vx_cls hW₁ hcl, st⟩
theorem vx_runSX {hh : List (Nat × Nat × Nat × Nat)} (S : CallFix p m c cc nL s args Ts own) (hM : vx_Met l y ws rm Pc Qc XC mc ms free) (cw : vx_CSW R s args own index y bytes maxL ret hh ws rm mc ms n) (hp : PreS s H Pc As)
    (hg : g.method = m) (hn : As.length = n) (hsize : g.locals.size = nL) (hstack : g.stack = As.reverse ++ rest) (hW : 2 * g.monitorRoom + (rest.map fun v => v.category).sum ≤ 8) (hdg : decode cc g.pc = .ok (.invokestatic index, 3)) (hf : cells + mc ≤ R.cells ∧ slots + ms ≤ R.slots) :
    vx_Run p l e R s m args below meth c H locs cells slots mc ms g rest (Qc As.toArray) XC free := by
  obtain ⟨⟨hrc, hrs, hfr, hlo, hws, hcw⟩, hcode, hini, hy, hlen, hl, hstt⟩ := cw
  have hK : vx_Back l R p e below s args y 3 8 (PreOf R mc ms Pc) (PostOf Qc mc ms free) (vx_Post XC mc ms free) := vx_backW (hh := hh) (bytes := bytes) (maxL := maxL) (ret := ret) hM hp.1 hrc hrs hfr hlo hws hcw (fun a' U hW => word_at hW (Or.inl (by first | rfl | simp [Cond.onTables, Cond.keeps, Cond.steady])) hini)
  obtain ⟨hx, hb, hml, ho, -⟩ := S
  intro T hT X
  rcases vx_callSX X hx (hh := hh) (bytes := bytes) (maxL := maxL) (ret := ret) ho hl hstt hini hcode hy hK hg (hsize.trans hml.symm) (argsL := As) (rest := rest) (fun sig h => hn.trans (hlen sig h)) hstack hW (by rw [hb]; exact hdg)
    (fun vm₁ hW₁ => ⟨hf.1, hf.2, hp.2 (T.setVm vm₁) hT hW₁⟩) with ⟨v, vm₁, ⟨U', l2, c2, s2⟩, hW₁, X', ⟨g', mk, t, L, e1, e2, hq, h1, hL, h2, h3⟩, st⟩ | ⟨q, vm₁, ⟨U', l2, c2, s2⟩, hW₁, X', ⟨g', mk, t, L, E, ce, e1, e2, hq, hce, hcv, hcl, h1, hL, h2, h3⟩, st⟩
  · dsimp only [Pt.U, Pt.locs, Pt.cells, Pt.slots] at X' e1 e2 h1 h2 h3 st
    subst h1; subst h2; subst h3
    exact Or.inl ⟨v, (T.setVm vm₁).calling g' mk As.toArray, t, U', L, hT, X', hL, e1, e2, hq, st⟩
  · dsimp only [Pt.U, Pt.locs, Pt.cells, Pt.slots] at X' e1 e2 h1 h2 h3 st hcl
    subst h1; subst h2; subst h3
    exact Or.inr ⟨q, (T.setVm vm₁).calling g' mk As.toArray, t, U', L, E, ce, hT, X', hL, e1, e2, hq, hce, hcv, vx_cls hW₁ hcl, st⟩
end
end VXH
theorem vx_ofWH {l : Launch} {y : MethodName} {ws ws' : List Cond} {rm : Room} {Pc : Array Value → State → Prop} {Qc : Array Value → State → Outcome → State → Prop} {XC : String → State → State → Prop} {mc ms : Nat} {free : Addr → Prop} {cc : ByteArray} {maxL : Nat} {ret : Option FieldType} {hh : List (Nat × Nat × Nat × Nat)}
    (hy : plainName y.cls = true) (hw : ws = Cond.codeWith y cc maxL ret hh :: ws')
    (body : ∀ p e s m args below meth c s₁, BodyLoose p l y (headSpec ws rm) cc maxL ret e s m args below meth c s₁ → c.maxLocals = maxL → Pc args s →
      W p l e (headSpec ws rm).room s m args below meth c s.heap [] 0 0 (vx_MQ below Qc XC args s mc ms free) (entryFrame m args maxL)) : vx_Met l y ws rm Pc Qc XC mc ms free := by
  refine MetFree.of_bodyS (code := cc) (maxLocals := maxL) (ret := ret) hy ?_ ?_
  · intro args s m h hn
    obtain ⟨m9, meth, c, hn9, h1, h2, h3, h4, -, h5, h6, -⟩ := Cond.codeWith_spec (atoms_spec (ws := ws) h _ (by rw [hw]; exact List.mem_cons_self))
    cases hn.symm.trans hn9
    exact ⟨meth, c, h1, h2, h3, h4, h5, h6⟩
  · intro p e s m args below meth c s₁ B hml hP _
    have hh0 : s₁.heap = s.heap := by rw [B.state]; rfl
    obtain ⟨t, a1, o, b1, b2, b3⟩ := body p e s m args below meth c s₁ B hml hP s₁ hh0 (Stand.of_body B)
    exact ⟨t, o, a1, b1, b2, b3⟩
/-! ===== END ===== -/

/-! ===== BEGIN a constructor that throws (launches without stack traces) ===== -/
section VXIA
variable {p : Program} {l : Launch} {e : Env} {R : Room} {s : State} {m : MethodId} {args : Array Value} {below : List Frame} {meth : Method} {c : Code} {T : State} {locs : List Loc} {cells slots : Nat}
theorem vx_callI (X : Stand p l e R s m args below meth c T locs cells slots) (hexec : p.tables.exec = Jvm.exec) {own : String} {index : Nat} {y : MethodName} {bytes : ByteArray} {maxL : Nat}
    (hown : s.vm.findClass own = some m.cls) (hy1 : y.name = "<init>") (hlink : (Cond.methodLink own index y).before args s = true) (hinst : (Cond.instanceMethod y).before args s = true)
    (hcode : (Cond.code y bytes maxL none).before args s = true) (hy : y.cls ≠ "java/lang/invoke/MethodHandle" ∧ y.cls ≠ "java/lang/invoke/VarHandle")
    {W9 : Nat} {Pre : Pt → Array Value → Prop} {Post : Pt → Array Value → Option Value → Pt → Prop} {PostX : Pt → Array Value → Addr → Pt → Prop} (hK : vx_Back l R p e below s args y 3 W9 Pre Post PostX)
    {g : JFrame} (hg : g.method = m) (hsize : g.locals.size = c.maxLocals) {a : Addr} {argsL rest : List Value} (hlen : ∀ sig, parseMethodDescriptor y.desc = some sig → argsL.length = sig.parameters.length)
    (hstack : g.stack = argsL.reverse ++ .ref a :: rest) (hW : 2 * g.monitorRoom + (rest.map fun v => v.category).sum ≤ W9) (hdg : decode c.code g.pc = .ok (.invokespecial index, 3))
    (hpre : ∀ vm₁, s.WarmedH vm₁ → Pre ⟨T.setVm vm₁, locs, cells, slots⟩ (Value.ref a :: argsL).toArray) :
    (∃ (v : Option Value) (vm₁ : Vm) (B : Pt), s.WarmedH vm₁ ∧ Stand p l e R s m args below meth c B.U B.locs B.cells B.slots ∧ Post ⟨T.setVm vm₁, locs, cells, slots⟩ (Value.ref a :: argsL).toArray v B ∧
      ∀ target, Steps p.tables e below (B.U.setTop { g with pc := g.pc + 3, stack := v.toList ++ rest }) target → Steps p.tables e below (T.setTop g) target) ∨
    (∃ (q : Addr) (vm₁ : Vm) (B : Pt), s.WarmedH vm₁ ∧ Stand p l e R s m args below meth c B.U B.locs B.cells B.slots ∧ PostX ⟨T.setVm vm₁, locs, cells, slots⟩ (Value.ref a :: argsL).toArray q B ∧
      Steps p.tables e below (T.setTop g) ((B.U.setTop { g with stack := rest }).pushFrame (.throwing q))) := by
  subst hg
  have hpl : e.platform.magicAccessors = ({} : Platform).magicAccessors := by rw [X.admits.platform]
  obtain ⟨mk, methM, cM, kP, vm₁, hnamed, hmethM, hcodeM, -, hlocalsM, -, hkP, -, hW₁, hstep₁⟩ := Steps.initColdArgs (e := e) X.here hexec X.warmed hpl hown hy1 hy hlink hinst hcode (f := g) rfl hlen hstack hdg
  have X₁ := X.noted hW₁
  rcases hK g.method meth c ⟨T.setVm vm₁, locs, cells, slots⟩ { g with stack := rest } (.invokespecial index) mk (Value.ref a :: argsL).toArray X₁ rfl hsize hdg hW (X₁.named hnamed) (hpre vm₁ X₁.warmed) with ⟨v, B, X', hpost, hsteps⟩ | ⟨q, B, X', hpost, hsteps⟩
  · exact Or.inl ⟨v, vm₁, B, X₁.warmed, X', hpost, fun target h => hstep₁ _ fun acts => by rw [doInvoke_state]; exact hsteps.trans h⟩
  · exact Or.inr ⟨q, vm₁, B, X₁.warmed, X', hpost, hstep₁ _ fun acts => by rw [doInvoke_state]; exact hsteps⟩
end VXIA
section VXIB
variable {p : Program} {l : Launch} {e : Env} {R : Room} {s : State} {m : MethodId} {args : Array Value} {below : List Frame} {meth : Method} {c : Code} {H : Heap} {locs : List Loc} {cells slots : Nat}
variable {y : MethodName} {bytes cc : ByteArray} {maxL nL mc ms n index : Nat} {ret : Option FieldType} {ws : List Cond} {rm : Room} {Pc : Array Value → State → Prop} {Qc : Array Value → State → Outcome → State → Prop} {XC : String → State → State → Prop} {free : Addr → Prop} {Ts : List Cond} {own C : String} {b : Addr} {As rest : List Value} {g : JFrame}
theorem vx_runI (S : CallFix p m c cc nL s args Ts own) (hM : vx_Met l y ws rm Pc Qc XC mc ms free) (cw : CallB R s args own index y bytes maxL none ws rm mc ms n ∧ y.name = "<init>" ∧ (Cond.instanceMethod y).before args s = true) (hp : PreS s H Pc (.ref b :: As))
    (hg : g.method = m) (hn : As.length = n) (hsize : g.locals.size = nL) (hstack : g.stack = As.reverse ++ .ref b :: rest) (hW : 2 * g.monitorRoom + (rest.map fun v => v.category).sum ≤ 8) (hdg : decode cc g.pc = .ok (.invokespecial index, 3)) (hf : cells + mc ≤ R.cells ∧ slots + ms ≤ R.slots) :
    vx_Run p l e R s m args below meth c H locs cells slots mc ms g rest (Qc (Value.ref b :: As).toArray) XC free := by
  have hK : vx_Back l R p e below s args y 3 8 (PreOf R mc ms Pc) (PostOf Qc mc ms free) (vx_Post XC mc ms free) := vx_callBack cw.1 hM hp.1
  obtain ⟨⟨-, -, -, -, -, -, hcode, -, hy, hlen, hl⟩, hy1, hin⟩ := cw
  obtain ⟨hx, hb, hml, ho, -⟩ := S
  have hPc := hp.2
  intro T hT X
  rcases vx_callI X hx (bytes := bytes) (maxL := maxL) ho hy1 hl hin hcode hy hK hg (hsize.trans hml.symm) (a := b) (argsL := As) (rest := rest) (fun sig h => hn.trans (hlen sig h)) hstack hW (by rw [hb]; exact hdg)
    (fun vm₁ hW₁ => ⟨hf.1, hf.2, hPc (T.setVm vm₁) hT hW₁⟩) with ⟨v, vm₁, ⟨U', l2, c2, s2⟩, hW₁, X', ⟨g', mk, t, L, e1, e2, hq, h1, hL, h2, h3⟩, st⟩ | ⟨q, vm₁, ⟨U', l2, c2, s2⟩, hW₁, X', ⟨g', mk, t, L, E, ce, e1, e2, hq, hce, hcv, hcl, h1, hL, h2, h3⟩, st⟩
  · dsimp only [Pt.U, Pt.locs, Pt.cells, Pt.slots] at X' e1 e2 h1 h2 h3 st
    subst h1; subst h2; subst h3
    exact Or.inl ⟨v, (T.setVm vm₁).calling g' mk (Value.ref b :: As).toArray, t, U', L, hT, X', hL, e1, e2, hq, st⟩
  · dsimp only [Pt.U, Pt.locs, Pt.cells, Pt.slots] at X' e1 e2 h1 h2 h3 st hcl
    subst h1; subst h2; subst h3
    exact Or.inr ⟨q, (T.setVm vm₁).calling g' mk (Value.ref b :: As).toArray, t, U', L, E, ce, hT, X', hL, e1, e2, hq, hce, hcv, vx_cls hW₁ hcl, st⟩
end VXIB
/-! ===== END ===== -/
/-! ===== BEGIN a private constructor of a nest mate that throws ===== -/
section VXIC
variable {p : Program} {l : Launch} {e : Env} {R : Room} {s : State} {m : MethodId} {args : Array Value} {below : List Frame} {meth : Method} {c : Code} {T : State} {locs : List Loc} {cells slots : Nat}
theorem vx_callIN (X : Stand p l e R s m args below meth c T locs cells slots) (hexec : p.tables.exec = Jvm.exec) {own : String} {index : Nat} {host : String} {y : MethodName} {bytes : ByteArray} {maxL : Nat}
    (hown : s.vm.findClass own = some m.cls) (hy1 : y.name = "<init>") (hlink : (Cond.methodLinkNest own index y host).before args s = true) (hinst : (Cond.instanceMethod y).before args s = true)
    (hcode : (Cond.code y bytes maxL none).before args s = true) (hy : y.cls ≠ "java/lang/invoke/MethodHandle" ∧ y.cls ≠ "java/lang/invoke/VarHandle")
    {W9 : Nat} {Pre : Pt → Array Value → Prop} {Post : Pt → Array Value → Option Value → Pt → Prop} {PostX : Pt → Array Value → Addr → Pt → Prop} (hK : vx_Back l R p e below s args y 3 W9 Pre Post PostX)
    {g : JFrame} (hg : g.method = m) (hsize : g.locals.size = c.maxLocals) {a : Addr} {argsL rest : List Value} (hlen : ∀ sig, parseMethodDescriptor y.desc = some sig → argsL.length = sig.parameters.length)
    (hstack : g.stack = argsL.reverse ++ .ref a :: rest) (hW : 2 * g.monitorRoom + (rest.map fun v => v.category).sum ≤ W9) (hdg : decode c.code g.pc = .ok (.invokespecial index, 3))
    (hpre : ∀ vm₁, s.WarmedH vm₁ → Pre ⟨T.setVm vm₁, locs, cells, slots⟩ (Value.ref a :: argsL).toArray) :
    (∃ (v : Option Value) (vm₁ : Vm) (B : Pt), s.WarmedH vm₁ ∧ Stand p l e R s m args below meth c B.U B.locs B.cells B.slots ∧ Post ⟨T.setVm vm₁, locs, cells, slots⟩ (Value.ref a :: argsL).toArray v B ∧
      ∀ target, Steps p.tables e below (B.U.setTop { g with pc := g.pc + 3, stack := v.toList ++ rest }) target → Steps p.tables e below (T.setTop g) target) ∨
    (∃ (q : Addr) (vm₁ : Vm) (B : Pt), s.WarmedH vm₁ ∧ Stand p l e R s m args below meth c B.U B.locs B.cells B.slots ∧ PostX ⟨T.setVm vm₁, locs, cells, slots⟩ (Value.ref a :: argsL).toArray q B ∧
      Steps p.tables e below (T.setTop g) ((B.U.setTop { g with stack := rest }).pushFrame (.throwing q))) := by
  subst hg
  have hpl : e.platform.magicAccessors = ({} : Platform).magicAccessors := by rw [X.admits.platform]
  obtain ⟨mk, methM, cM, kP, vm₁, hnamed, hmethM, hcodeM, -, hlocalsM, -, hkP, -, hW₁, hstep₁⟩ := Steps.initColdArgsNest (e := e) X.here hexec X.warmed hpl hown hy1 hy hlink hinst hcode (f := g) rfl hlen hstack hdg
  have X₁ := X.noted hW₁
  rcases hK g.method meth c ⟨T.setVm vm₁, locs, cells, slots⟩ { g with stack := rest } (.invokespecial index) mk (Value.ref a :: argsL).toArray X₁ rfl hsize hdg hW (X₁.named hnamed) (hpre vm₁ X₁.warmed) with ⟨v, B, X', hpost, hsteps⟩ | ⟨q, B, X', hpost, hsteps⟩
  · exact Or.inl ⟨v, vm₁, B, X₁.warmed, X', hpost, fun target h => hstep₁ _ fun acts => by rw [doInvoke_state]; exact hsteps.trans h⟩
  · exact Or.inr ⟨q, vm₁, B, X₁.warmed, X', hpost, hstep₁ _ fun acts => by rw [doInvoke_state]; exact hsteps⟩
end VXIC
section VXID
variable {p : Program} {l : Launch} {e : Env} {R : Room} {s : State} {m : MethodId} {args : Array Value} {below : List Frame} {meth : Method} {c : Code} {H : Heap} {locs : List Loc} {cells slots : Nat}
theorem vx_runIN {y : MethodName} {bytes cc : ByteArray} {maxL nL mc ms n index : Nat} {ws : List Cond} {rm : Room} {Pc : Array Value → State → Prop} {Qc : Array Value → State → Outcome → State → Prop} {XC : String → State → State → Prop} {free : Addr → Prop} {Ts : List Cond} {own host : String} {b : Addr} {As rest : List Value} {g : JFrame}
    (S : CallFix p m c cc nL s args Ts own) (hM : vx_Met l y ws rm Pc Qc XC mc ms free) (cw : va_CN R s args own index y host bytes maxL none ws rm mc ms n ∧ y.name = "<init>" ∧ (Cond.instanceMethod y).before args s = true) (hp : PreS s H Pc (.ref b :: As))
    (hg : g.method = m) (hn : As.length = n) (hsize : g.locals.size = nL) (hstack : g.stack = As.reverse ++ .ref b :: rest) (hW : 2 * g.monitorRoom + (rest.map fun v => v.category).sum ≤ 8) (hdg : decode cc g.pc = .ok (.invokespecial index, 3)) (hf : cells + mc ≤ R.cells ∧ slots + ms ≤ R.slots) :
    vx_Run p l e R s m args below meth c H locs cells slots mc ms g rest (Qc (Value.ref b :: As).toArray) XC free := by
  obtain ⟨⟨⟨hrc, hrs, hfr, hlo, hws, hcw⟩, hcode, hini, hy, hlen, hl⟩, hx1, hx2⟩ := cw
  have hK : vx_Back l R p e below s args y 3 8 (PreOf R mc ms Pc) (PostOf Qc mc ms free) (vx_Post XC mc ms free) := vx_back (bytes := bytes) (maxL := maxL) (ret := none) hM hp.1 hrc hrs hfr hlo hws hcw (fun a' U hW => word_at hW (Or.inl (by first | rfl | simp [Cond.onTables, Cond.keeps, Cond.steady])) hini)
  obtain ⟨hx, hb, hml, ho, -⟩ := S
  have hPc := hp.2
  intro T hT X
  rcases vx_callIN X hx (bytes := bytes) (maxL := maxL) ho hx1 hl hx2 hcode hy hK hg (hsize.trans hml.symm) (a := b) (argsL := As) (rest := rest) (fun sig h => hn.trans (hlen sig h)) hstack hW (by rw [hb]; exact hdg)
    (fun vm₁ hW₁ => ⟨hf.1, hf.2, hPc (T.setVm vm₁) hT hW₁⟩) with ⟨v, vm₁, ⟨U', l2, c2, s2⟩, hW₁, X', ⟨g', mk, t, L, e1, e2, hq, h1, hL, h2, h3⟩, st⟩ | ⟨q, vm₁, ⟨U', l2, c2, s2⟩, hW₁, X', ⟨g', mk, t, L, E, ce, e1, e2, hq, hce, hcv, hcl, h1, hL, h2, h3⟩, st⟩
  · dsimp only [Pt.U, Pt.locs, Pt.cells, Pt.slots] at X' e1 e2 h1 h2 h3 st
    subst h1; subst h2; subst h3
    exact Or.inl ⟨v, (T.setVm vm₁).calling g' mk (Value.ref b :: As).toArray, t, U', L, hT, X', hL, e1, e2, hq, st⟩
  · dsimp only [Pt.U, Pt.locs, Pt.cells, Pt.slots] at X' e1 e2 h1 h2 h3 st hcl
    subst h1; subst h2; subst h3
    exact Or.inr ⟨q, (T.setVm vm₁).calling g' mk (Value.ref b :: As).toArray, t, U', L, E, ce, hT, X', hL, e1, e2, hq, hce, hcv, vx_cls hW₁ hcl, st⟩
end VXID
/-! ===== END ===== -/
/-! ===== BEGIN a private method of a nest mate that may throw (follows va_callVN, va_callSN, va_runVN, va_runSN) ===== -/
section
variable {p : Program} {l : Launch} {e : Env} {R : Room} {s : State} {m : MethodId} {args : Array Value} {below : List Frame} {meth : Method} {c : Code} {H : Heap} {locs : List Loc} {cells slots : Nat}
variable {T : State}
theorem vx_callVN (X : Stand p l e R s m args below meth c T locs cells slots) (hexec : p.tables.exec = Jvm.exec) {own C : String} {index : Nat} {host : String} {y : MethodName} {bytes : ByteArray} {maxL : Nat} {ret : Option FieldType}
    (hown : s.vm.findClass own = some m.cls) (hlink : (Cond.methodLinkNest own index y host).before args s = true) (hinst : (Cond.instanceMethod y).before args s = true) (hsel : (Cond.selects C y y).before args s = true)
    (hcode : (Cond.code y bytes maxL ret).before args s = true) (hy : y.cls ≠ "java/lang/invoke/MethodHandle" ∧ y.cls ≠ "java/lang/invoke/VarHandle")
    {W : Nat} {Pre : Pt → Array Value → Prop} {Post : Pt → Array Value → Option Value → Pt → Prop} {PostX : Pt → Array Value → Addr → Pt → Prop} (hK : vx_Back l R p e below s args y 3 W Pre Post PostX)
    {b : Addr} {cellB : Cell} (hcell : T.heap[b]? = some cellB) (hobj : cellB.vm.isStatics = false) (hcls : s.vm.findClass C = some cellB.cls)
    {g : JFrame} (hg : g.method = m) (hsize : g.locals.size = c.maxLocals) {argsL rest : List Value} (hlen : ∀ sig, parseMethodDescriptor y.desc = some sig → argsL.length = sig.parameters.length)
    (hstack : g.stack = argsL.reverse ++ .ref b :: rest) (hW : 2 * g.monitorRoom + (rest.map fun v => v.category).sum ≤ W) (hdg : decode c.code g.pc = .ok (.invokevirtual index, 3))
    (hpre : ∀ vm₁, s.WarmedH vm₁ → Pre ⟨T.setVm vm₁, locs, cells, slots⟩ (Value.ref b :: argsL).toArray) :
    (∃ (v : Option Value) (vm₁ : Vm) (B : Pt), s.WarmedH vm₁ ∧ Stand p l e R s m args below meth c B.U B.locs B.cells B.slots ∧ Post ⟨T.setVm vm₁, locs, cells, slots⟩ (Value.ref b :: argsL).toArray v B ∧
      ∀ target, Steps p.tables e below (B.U.setTop { g with pc := g.pc + 3, stack := v.toList ++ rest }) target → Steps p.tables e below (T.setTop g) target) ∨
    (∃ (q : Addr) (vm₁ : Vm) (B : Pt), s.WarmedH vm₁ ∧ Stand p l e R s m args below meth c B.U B.locs B.cells B.slots ∧ PostX ⟨T.setVm vm₁, locs, cells, slots⟩ (Value.ref b :: argsL).toArray q B ∧
      Steps p.tables e below (T.setTop g) ((B.U.setTop { g with stack := rest }).pushFrame (.throwing q))) := by
  obtain ⟨mk, methM, hnamed, hmethM, hstM, habM⟩ := Cond.instanceMethod_spec hinst
  obtain ⟨methM', cM, hmethM', -, -, -, -, -, -, hsigM⟩ := Cond.code_spec hnamed hcode
  cases hmethM.symm.trans hmethM'
  obtain ⟨c2, r2, m2, q1, q2, q3, q4, kP, hkP, hkPi⟩ := Cond.selects_spec hsel
  cases hcls.symm.trans q1
  cases (State.methodFound?_of_named hnamed hy).symm.trans q2
  cases hnamed.symm.trans q3
  have hselP : selectMethod e.platform s.vm cellB.cls mk = .method mk := by rw [Launch.admits_selectMethod X.admits]; exact q4
  obtain ⟨vm₁, X₁, hstep₁⟩ := X.invokevirtualNest hexec hown hlink hnamed hmethM hstM hkP hkPi hy (a := b) (cell := cellB) hcell
    (fun z h => by rw [h] at hobj; cases hobj) hselP hmethM habM hkP hkPi (g := g) hg (argsL := argsL) (rest := rest) (hlen _ hsigM) hstack hdg
  rcases hK m meth c ⟨T.setVm vm₁, locs, cells, slots⟩ { g with stack := rest } (.invokevirtual index) mk (Value.ref b :: argsL).toArray X₁ hg hsize hdg hW (X₁.named hnamed) (hpre vm₁ X₁.warmed) with ⟨v, B, X', hpost, hsteps⟩ | ⟨q, B, X', hpost, hsteps⟩
  · exact Or.inl ⟨v, vm₁, B, X₁.warmed, X', hpost, fun target h => hstep₁ _ fun acts => by rw [doInvoke_state]; exact hsteps.trans h⟩
  · exact Or.inr ⟨q, vm₁, B, X₁.warmed, X', hpost, hstep₁ _ fun acts => by rw [doInvoke_state]; exact hsteps⟩
theorem vx_callSN (X : Stand p l e R s m args below meth c T locs cells slots) (hexec : p.tables.exec = Jvm.exec) {own : String} {index : Nat} {host : String} {y : MethodName} {bytes : ByteArray} {maxL : Nat} {ret : Option FieldType}
    (hown : s.vm.findClass own = some m.cls) (hlink : (Cond.methodLinkNest own index y host).before args s = true) (hstat : (Cond.static y).before args s = true) (hinit : (Cond.initialized y.cls).before args s = true)
    (hcode : (Cond.code y bytes maxL ret).before args s = true) (hy : y.cls ≠ "java/lang/invoke/MethodHandle" ∧ y.cls ≠ "java/lang/invoke/VarHandle")
    {W : Nat} {Pre : Pt → Array Value → Prop} {Post : Pt → Array Value → Option Value → Pt → Prop} {PostX : Pt → Array Value → Addr → Pt → Prop} (hK : vx_Back l R p e below s args y 3 W Pre Post PostX)
    {g : JFrame} (hg : g.method = m) (hsize : g.locals.size = c.maxLocals) {argsL rest : List Value} (hlen : ∀ sig, parseMethodDescriptor y.desc = some sig → argsL.length = sig.parameters.length)
    (hstack : g.stack = argsL.reverse ++ rest) (hW : 2 * g.monitorRoom + (rest.map fun v => v.category).sum ≤ W) (hdg : decode c.code g.pc = .ok (.invokestatic index, 3))
    (hpre : ∀ vm₁, s.WarmedH vm₁ → Pre ⟨T.setVm vm₁, locs, cells, slots⟩ argsL.toArray) :
    (∃ (v : Option Value) (vm₁ : Vm) (B : Pt), s.WarmedH vm₁ ∧ Stand p l e R s m args below meth c B.U B.locs B.cells B.slots ∧ Post ⟨T.setVm vm₁, locs, cells, slots⟩ argsL.toArray v B ∧
      ∀ target, Steps p.tables e below (B.U.setTop { g with pc := g.pc + 3, stack := v.toList ++ rest }) target → Steps p.tables e below (T.setTop g) target) ∨
    (∃ (q : Addr) (vm₁ : Vm) (B : Pt), s.WarmedH vm₁ ∧ Stand p l e R s m args below meth c B.U B.locs B.cells B.slots ∧ PostX ⟨T.setVm vm₁, locs, cells, slots⟩ argsL.toArray q B ∧
      Steps p.tables e below (T.setTop g) ((B.U.setTop { g with stack := rest }).pushFrame (.throwing q))) := by
  obtain ⟨mk, hnamed⟩ := Cond.code_named hcode
  obtain ⟨methM, cM, hmethM, -, -, -, -, -, -, hsigM⟩ := Cond.code_spec hnamed hcode
  have hstatic : methM.isStatic = true := Cond.static_spec hnamed hmethM hstat
  obtain ⟨kP, hkP, -⟩ := className_of_methodNamed hnamed
  have hinitP : kP.init = .initialized := Cond.initialized_spec (findClass_of_methodNamed hnamed) hkP hinit
  obtain ⟨vm₁, X₁, hstep₁⟩ := X.invokestaticNest hexec hown hlink hnamed hmethM hstatic hkP hinitP hy (g := g) hg (argsL := argsL) (rest := rest) (hlen _ hsigM) hstack hdg
  rcases hK m meth c ⟨T.setVm vm₁, locs, cells, slots⟩ { g with stack := rest } (.invokestatic index) mk argsL.toArray X₁ hg hsize hdg hW (X₁.named hnamed) (hpre vm₁ X₁.warmed) with ⟨v, B, X', hpost, hsteps⟩ | ⟨q, B, X', hpost, hsteps⟩
  · exact Or.inl ⟨v, vm₁, B, X₁.warmed, X', hpost, fun target h => hstep₁ _ fun acts => by rw [doInvoke_state]; exact hsteps.trans h⟩
  · exact Or.inr ⟨q, vm₁, B, X₁.warmed, X', hpost, hstep₁ _ fun acts => by rw [doInvoke_state]; exact hsteps⟩
theorem vx_runVN {y : MethodName} {bytes cc : ByteArray} {maxL nL mc ms n index : Nat} {ret : Option FieldType} {ws : List Cond} {rm : Room} {Pc : Array Value → State → Prop} {Qc : Array Value → State → Outcome → State → Prop} {XC : String → State → State → Prop} {free : Addr → Prop} {Ts : List Cond} {own C host : String} {b : Addr} {As rest : List Value} {g : JFrame}
    (S : CallFix p m c cc nL s args Ts own) (hM : vx_Met l y ws rm Pc Qc XC mc ms free) (cw : va_CN R s args own index y host bytes maxL ret ws rm mc ms n ∧ (Cond.instanceMethod y).before args s = true ∧ (Cond.selects C y y).before args s = true) (hp : PreV s H C b Pc As)
    (hg : g.method = m) (hn : As.length = n) (hsize : g.locals.size = nL) (hstack : g.stack = As.reverse ++ .ref b :: rest) (hW : 2 * g.monitorRoom + (rest.map fun v => v.category).sum ≤ 8) (hdg : decode cc g.pc = .ok (.invokevirtual index, 3)) (hf : cells + mc ≤ R.cells ∧ slots + ms ≤ R.slots) :
    vx_Run p l e R s m args below meth c H locs cells slots mc ms g rest (Qc (Value.ref b :: As).toArray) XC free := by
  obtain ⟨⟨⟨hrc, hrs, hfr, hlo, hws, hcw⟩, hcode, hini, hy, hlen, hl⟩, hx1, hx2⟩ := cw
  have hK : vx_Back l R p e below s args y 3 8 (PreOf R mc ms Pc) (PostOf Qc mc ms free) (vx_Post XC mc ms free) := vx_back (bytes := bytes) (maxL := maxL) (ret := ret) hM hp.1 hrc hrs hfr hlo hws hcw (fun a' U hW => word_at hW (Or.inl (by first | rfl | simp [Cond.onTables, Cond.keeps, Cond.steady])) hini)
  obtain ⟨hx, hb, hml, ho, -⟩ := S
  obtain ⟨-, ⟨cellB, hcB, hoB, hclB⟩, hPc⟩ := hp
  intro T hT X
  rcases vx_callVN X hx (C := C) (bytes := bytes) (maxL := maxL) (ret := ret) ho hl hx1 hx2 hcode hy hK (by rw [hT]; exact hcB) hoB hclB hg (hsize.trans hml.symm) (argsL := As) (rest := rest) (fun sig h => hn.trans (hlen sig h)) hstack hW (by rw [hb]; exact hdg)
    (fun vm₁ hW₁ => ⟨hf.1, hf.2, hPc (T.setVm vm₁) hT hW₁⟩) with ⟨v, vm₁, ⟨U', l2, c2, s2⟩, hW₁, X', ⟨g', mk, t, L, e1, e2, hq, h1, hL, h2, h3⟩, st⟩ | ⟨q, vm₁, ⟨U', l2, c2, s2⟩, hW₁, X', ⟨g', mk, t, L, E, ce, e1, e2, hq, hce, hcv, hcl, h1, hL, h2, h3⟩, st⟩
  · dsimp only [Pt.U, Pt.locs, Pt.cells, Pt.slots] at X' e1 e2 h1 h2 h3 st
    subst h1; subst h2; subst h3
    exact Or.inl ⟨v, (T.setVm vm₁).calling g' mk (Value.ref b :: As).toArray, t, U', L, hT, X', hL, e1, e2, hq, st⟩
  · dsimp only [Pt.U, Pt.locs, Pt.cells, Pt.slots] at X' e1 e2 h1 h2 h3 st hcl
    subst h1; subst h2; subst h3
    exact Or.inr ⟨q, (T.setVm vm₁).calling g' mk (Value.ref b :: As).toArray, t, U', L, E, ce, hT, X', hL, e1, e2, hq, hce, hcv, vx_cls hW₁ hcl, st⟩
theorem vx_runSN {y : MethodName} {bytes cc : ByteArray} {maxL nL mc ms n index : Nat} {ret : Option FieldType} {ws : List Cond} {rm : Room} {Pc : Array Value → State → Prop} {Qc : Array Value → State → Outcome → State → Prop} {XC : String → State → State → Prop} {free : Addr → Prop} {Ts : List Cond} {own host : String} {As rest : List Value} {g : JFrame}
    (S : CallFix p m c cc nL s args Ts own) (hM : vx_Met l y ws rm Pc Qc XC mc ms free) (cw : va_CN R s args own index y host bytes maxL ret ws rm mc ms n ∧ (Cond.static y).before args s = true ∧ True) (hp : PreS s H Pc As)
    (hg : g.method = m) (hn : As.length = n) (hsize : g.locals.size = nL) (hstack : g.stack = As.reverse ++ rest) (hW : 2 * g.monitorRoom + (rest.map fun v => v.category).sum ≤ 8) (hdg : decode cc g.pc = .ok (.invokestatic index, 3)) (hf : cells + mc ≤ R.cells ∧ slots + ms ≤ R.slots) :
    vx_Run p l e R s m args below meth c H locs cells slots mc ms g rest (Qc As.toArray) XC free := by
  obtain ⟨⟨⟨hrc, hrs, hfr, hlo, hws, hcw⟩, hcode, hini, hy, hlen, hl⟩, hx1, hx2⟩ := cw
  have hK : vx_Back l R p e below s args y 3 8 (PreOf R mc ms Pc) (PostOf Qc mc ms free) (vx_Post XC mc ms free) := vx_back (bytes := bytes) (maxL := maxL) (ret := ret) hM hp.1 hrc hrs hfr hlo hws hcw (fun a' U hW => word_at hW (Or.inl (by first | rfl | simp [Cond.onTables, Cond.keeps, Cond.steady])) hini)
  obtain ⟨hx, hb, hml, ho, -⟩ := S
  have hPc := hp.2
  intro T hT X
  rcases vx_callSN X hx (bytes := bytes) (maxL := maxL) (ret := ret) ho hl hx1 hini hcode hy hK hg (hsize.trans hml.symm) (argsL := As) (rest := rest) (fun sig h => hn.trans (hlen sig h)) hstack hW (by rw [hb]; exact hdg)
    (fun vm₁ hW₁ => ⟨hf.1, hf.2, hPc (T.setVm vm₁) hT hW₁⟩) with ⟨v, vm₁, ⟨U', l2, c2, s2⟩, hW₁, X', ⟨g', mk, t, L, e1, e2, hq, h1, hL, h2, h3⟩, st⟩ | ⟨q, vm₁, ⟨U', l2, c2, s2⟩, hW₁, X', ⟨g', mk, t, L, E, ce, e1, e2, hq, hce, hcv, hcl, h1, hL, h2, h3⟩, st⟩
  · dsimp only [Pt.U, Pt.locs, Pt.cells, Pt.slots] at X' e1 e2 h1 h2 h3 st
    subst h1; subst h2; subst h3
    exact Or.inl ⟨v, (T.setVm vm₁).calling g' mk As.toArray, t, U', L, hT, X', hL, e1, e2, hq, st⟩
  · dsimp only [Pt.U, Pt.locs, Pt.cells, Pt.slots] at X' e1 e2 h1 h2 h3 st hcl
    subst h1; subst h2; subst h3
    exact Or.inr ⟨q, (T.setVm vm₁).calling g' mk As.toArray, t, U', L, E, ce, hT, X', hL, e1, e2, hq, hce, hcv, vx_cls hW₁ hcl, st⟩
end
/-! ===== END ===== -/
end
section
def RX0 : String := "PluralMint$Dies"
def TX0 : u_T := fun k => match k with
  | 0 => ("PluralMint$Dies", "endings", "LPluralMint$Words;", true)
  | 1 => ("PluralMint$Dies", "additions", "LPluralMint$Words;", true)
  | _ => ("PluralMint$Dies", "conditions", "[I", true)
def tyX0 : Nat → FieldType := fun k => match k with
  | 0 => .object "PluralMint$Words"
  | 1 => .object "PluralMint$Words"
  | _ => .array .int
abbrev wsX00 : List Cond := u_ws RX0 TX0 3
theorem nmX0 : ∀ a, a < 3 → ∀ b, b < 3 → a ≠ b → (TX0 a).2.1 ≠ (TX0 b).2.1 := by decide +kernel
theorem tyX0_ok : ∀ k, k < 3 → parseFieldDescriptor (TX0 k).2.2.1 = some (tyX0 k) := by decide +kernel
abbrev cX0_init : ByteArray := prog_2_method_1_code
def yX0_init : MethodName := ⟨RX0, "<init>", "()V"⟩
abbrev cX0_count : ByteArray := prog_2_method_2_code
def yX0_count : MethodName := ⟨RX0, "count", "()I"⟩
abbrev cX0_add : ByteArray := prog_2_method_3_code
def yX0_add : MethodName := ⟨RX0, "add", "(LPluralMint$Word;LPluralMint$Word;I)Z"⟩
abbrev cX0_remove : ByteArray := prog_2_method_4_code
def yX0_remove : MethodName := ⟨RX0, "remove", "(I)V"⟩
abbrev cX0_fits : ByteArray := prog_2_method_5_code
def yX0_fits : MethodName := ⟨RX0, "fits", "(ILPluralMint$Word;)Z"⟩
abbrev cX0_meetsCondition : ByteArray := prog_2_method_6_code
def yX0_meetsCondition : MethodName := ⟨RX0, "meetsCondition", "(ILPluralMint$Word;)Z"⟩
abbrev cX0_isVowel : ByteArray := prog_2_method_7_code
def yX0_isVowel : MethodName := ⟨RX0, "isVowel", "(C)Z"⟩
abbrev cX0_choose : ByteArray := prog_2_method_8_code
def yX0_choose : MethodName := ⟨RX0, "choose", "(LPluralMint$Word;)I"⟩
abbrev cX0_press : ByteArray := prog_2_method_9_code
def yX0_press : MethodName := ⟨RX0, "press", "(ILPluralMint$Word;)V"⟩
abbrev cX0_reverse : ByteArray := prog_2_method_10_code
def yX0_reverse : MethodName := ⟨RX0, "reverse", "(ILPluralMint$Word;)Z"⟩
abbrev cX0_copyFrom : ByteArray := prog_2_method_11_code
def yX0_copyFrom : MethodName := ⟨RX0, "copyFrom", "(LPluralMint$Dies;)V"⟩
def RX1 : String := "PluralMint$Grammar"
def TX1 : u_T := fun k => match k with
  | 0 => ("PluralMint$Grammar", "part", "I", false)
  | _ => ("PluralMint$Grammar", "letters", "I", false)
def tyX1 : Nat → FieldType := fun k => match k with
  | 0 => .int
  | _ => .int
abbrev wsX10 : List Cond := u_ws RX1 TX1 2
theorem nmX1 : ∀ a, a < 2 → ∀ b, b < 2 → a ≠ b → (TX1 a).2.1 ≠ (TX1 b).2.1 := by decide +kernel
theorem tyX1_ok : ∀ k, k < 2 → parseFieldDescriptor (TX1 k).2.2.1 = some (tyX1 k) := by decide +kernel
abbrev cX1_init : ByteArray := prog_3_method_1_code
def yX1_init : MethodName := ⟨RX1, "<init>", "()V"⟩
abbrev cX1_start : ByteArray := prog_3_method_2_code
def yX1_start : MethodName := ⟨RX1, "start", "()V"⟩
abbrev cX1_take : ByteArray := prog_3_method_3_code
def yX1_take : MethodName := ⟨RX1, "take", "(C)Z"⟩
abbrev cX1_mayEnd : ByteArray := prog_3_method_4_code
def yX1_mayEnd : MethodName := ⟨RX1, "mayEnd", "()Z"⟩
abbrev cX1_takeLetter : ByteArray := prog_3_method_5_code
def yX1_takeLetter : MethodName := ⟨RX1, "takeLetter", "()Z"⟩
abbrev cX1_partAfter : ByteArray := prog_3_method_6_code
def yX1_partAfter : MethodName := ⟨RX1, "partAfter", "(C)I"⟩
def RX2 : String := "PluralMint$Heaps"
def TX2 : u_T := fun k => match k with
  | 0 => ("PluralMint$Heaps", "marks", "LPluralMint$Words;", true)
  | 1 => ("PluralMint$Heaps", "owners", "[I", true)
  | _ => ("PluralMint$Heaps", "coins", "[I", true)
def tyX2 : Nat → FieldType := fun k => match k with
  | 0 => .object "PluralMint$Words"
  | 1 => .array .int
  | _ => .array .int
abbrev wsX20 : List Cond := u_ws RX2 TX2 3
theorem nmX2 : ∀ a, a < 3 → ∀ b, b < 3 → a ≠ b → (TX2 a).2.1 ≠ (TX2 b).2.1 := by decide +kernel
theorem tyX2_ok : ∀ k, k < 3 → parseFieldDescriptor (TX2 k).2.2.1 = some (tyX2 k) := by decide +kernel
abbrev cX2_init : ByteArray := prog_4_method_1_code
def yX2_init : MethodName := ⟨RX2, "<init>", "()V"⟩
abbrev cX2_count : ByteArray := prog_4_method_2_code
def yX2_count : MethodName := ⟨RX2, "count", "()I"⟩
abbrev cX2_isFull : ByteArray := prog_4_method_3_code
def yX2_isFull : MethodName := ⟨RX2, "isFull", "()Z"⟩
abbrev cX2_ownerOf : ByteArray := prog_4_method_4_code
def yX2_ownerOf : MethodName := ⟨RX2, "ownerOf", "(I)I"⟩
abbrev cX2_coinsIn : ByteArray := prog_4_method_5_code
def yX2_coinsIn : MethodName := ⟨RX2, "coinsIn", "(I)I"⟩
abbrev cX2_bears : ByteArray := prog_4_method_6_code
def yX2_bears : MethodName := ⟨RX2, "bears", "(ILPluralMint$Word;)Z"⟩
abbrev cX2_find : ByteArray := prog_4_method_7_code
def yX2_find : MethodName := ⟨RX2, "find", "(ILPluralMint$Word;)I"⟩
abbrev cX2_coinsWith : ByteArray := prog_4_method_8_code
def yX2_coinsWith : MethodName := ⟨RX2, "coinsWith", "(I)I"⟩
abbrev cX2_open : ByteArray := prog_4_method_9_code
def yX2_open : MethodName := ⟨RX2, "open", "(ILPluralMint$Word;I)V"⟩
abbrev cX2_enlarge : ByteArray := prog_4_method_10_code
def yX2_enlarge : MethodName := ⟨RX2, "enlarge", "(II)V"⟩
abbrev cX2_empty : ByteArray := prog_4_method_11_code
def yX2_empty : MethodName := ⟨RX2, "empty", "(I)V"⟩
abbrev cX2_takeOldest : ByteArray := prog_4_method_12_code
def yX2_takeOldest : MethodName := ⟨RX2, "takeOldest", "(II)V"⟩
abbrev cX2_removeEmpty : ByteArray := prog_4_method_13_code
def yX2_removeEmpty : MethodName := ⟨RX2, "removeEmpty", "()V"⟩
abbrev cX2_copyFrom : ByteArray := prog_4_method_14_code
def yX2_copyFrom : MethodName := ⟨RX2, "copyFrom", "(LPluralMint$Heaps;)V"⟩
def RX3 : String := "PluralMint$History"
def TX3 : u_T := fun k => match k with
  | 0 => ("PluralMint$History", "states", "[LPluralMint$State;", true)
  | _ => ("PluralMint$History", "count", "I", false)
def tyX3 : Nat → FieldType := fun k => match k with
  | 0 => .array (.object "PluralMint$State")
  | _ => .int
abbrev wsX30 : List Cond := u_ws RX3 TX3 2
theorem nmX3 : ∀ a, a < 2 → ∀ b, b < 2 → a ≠ b → (TX3 a).2.1 ≠ (TX3 b).2.1 := by decide +kernel
theorem tyX3_ok : ∀ k, k < 2 → parseFieldDescriptor (TX3 k).2.2.1 = some (tyX3 k) := by decide +kernel
abbrev cX3_init : ByteArray := prog_5_method_1_code
def yX3_init : MethodName := ⟨RX3, "<init>", "()V"⟩
abbrev cX3_count : ByteArray := prog_5_method_2_code
def yX3_count : MethodName := ⟨RX3, "count", "()I"⟩
abbrev cX3_record : ByteArray := prog_5_method_3_code
def yX3_record : MethodName := ⟨RX3, "record", "(LPluralMint$State;)V"⟩
abbrev cX3_moveOldestToEnd : ByteArray := prog_5_method_4_code
def yX3_moveOldestToEnd : MethodName := ⟨RX3, "moveOldestToEnd", "()V"⟩
abbrev cX3_giveBack : ByteArray := prog_5_method_5_code
def yX3_giveBack : MethodName := ⟨RX3, "giveBack", "(LPluralMint$State;)V"⟩
def RX4 : String := "PluralMint$Order"
def TX4 : u_T := fun k => match k with
  | 0 => ("PluralMint$Order", "kind", "I", false)
  | 1 => ("PluralMint$Order", "condition", "I", false)
  | 2 => ("PluralMint$Order", "inSecond", "Z", false)
  | 3 => ("PluralMint$Order", "first", "LPluralMint$Word;", true)
  | _ => ("PluralMint$Order", "second", "LPluralMint$Word;", true)
def tyX4 : Nat → FieldType := fun k => match k with
  | 0 => .int
  | 1 => .int
  | 2 => .boolean
  | 3 => .object "PluralMint$Word"
  | _ => .object "PluralMint$Word"
abbrev wsX40 : List Cond := u_ws RX4 TX4 5
theorem nmX4 : ∀ a, a < 5 → ∀ b, b < 5 → a ≠ b → (TX4 a).2.1 ≠ (TX4 b).2.1 := by decide +kernel
theorem tyX4_ok : ∀ k, k < 5 → parseFieldDescriptor (TX4 k).2.2.1 = some (tyX4 k) := by decide +kernel
abbrev cX4_init : ByteArray := prog_6_method_1_code
def yX4_init : MethodName := ⟨RX4, "<init>", "()V"⟩
abbrev cX4_clear : ByteArray := prog_6_method_2_code
def yX4_clear : MethodName := ⟨RX4, "clear", "()V"⟩
abbrev cX4_take : ByteArray := prog_6_method_3_code
def yX4_take : MethodName := ⟨RX4, "take", "(C)V"⟩
abbrev cX4_takeLetter : ByteArray := prog_6_method_4_code
def yX4_takeLetter : MethodName := ⟨RX4, "takeLetter", "(C)V"⟩
def RX5 : String := "PluralMint$OrderText"
def TX5 : u_T := fun k => match k with
  | 0 => ("PluralMint$OrderText", "signs", "[C", true)
  | 1 => ("PluralMint$OrderText", "length", "I", false)
  | _ => ("PluralMint$OrderText", "grammar", "LPluralMint$Grammar;", true)
def tyX5 : Nat → FieldType := fun k => match k with
  | 0 => .array .char
  | 1 => .int
  | _ => .object "PluralMint$Grammar"
abbrev wsX50 : List Cond := u_ws RX5 TX5 3
theorem nmX5 : ∀ a, a < 3 → ∀ b, b < 3 → a ≠ b → (TX5 a).2.1 ≠ (TX5 b).2.1 := by decide +kernel
theorem tyX5_ok : ∀ k, k < 3 → parseFieldDescriptor (TX5 k).2.2.1 = some (tyX5 k) := by decide +kernel
abbrev cX5_init : ByteArray := prog_7_method_1_code
def yX5_init : MethodName := ⟨RX5, "<init>", "()V"⟩
abbrev cX5_length : ByteArray := prog_7_method_2_code
def yX5_length : MethodName := ⟨RX5, "length", "()I"⟩
abbrev cX5_isFull : ByteArray := prog_7_method_3_code
def yX5_isFull : MethodName := ⟨RX5, "isFull", "()Z"⟩
abbrev cX5_append : ByteArray := prog_7_method_4_code
def yX5_append : MethodName := ⟨RX5, "append", "(C)V"⟩
abbrev cX5_clear : ByteArray := prog_7_method_5_code
def yX5_clear : MethodName := ⟨RX5, "clear", "()V"⟩
abbrev cX5_sign : ByteArray := prog_7_method_6_code
def yX5_sign : MethodName := ⟨RX5, "sign", "(I)C"⟩
abbrev cX5_firstError : ByteArray := prog_7_method_7_code
def yX5_firstError : MethodName := ⟨RX5, "firstError", "()I"⟩
abbrev cX5_orders : ByteArray := prog_7_method_8_code
def yX5_orders : MethodName := ⟨RX5, "orders", "()I"⟩
abbrev cX5_read : ByteArray := prog_7_method_9_code
def yX5_read : MethodName := ⟨RX5, "read", "(ILPluralMint$Order;)I"⟩
abbrev cX5_isWord : ByteArray := prog_7_method_10_code
def yX5_isWord : MethodName := ⟨RX5, "isWord", "()Z"⟩
abbrev cX5_load : ByteArray := prog_7_method_11_code
def yX5_load : MethodName := ⟨RX5, "load", "(LPluralMint$Word;)V"⟩
def RX6 : String := "PluralMint$State"
def TX6 : u_T := fun k => match k with
  | 0 => ("PluralMint$State", "nouns", "LPluralMint$Words;", true)
  | 1 => ("PluralMint$State", "irregularWords", "LPluralMint$Words;", true)
  | 2 => ("PluralMint$State", "irregularPlurals", "LPluralMint$Words;", true)
  | 3 => ("PluralMint$State", "dies", "LPluralMint$Dies;", true)
  | 4 => ("PluralMint$State", "heaps", "LPluralMint$Heaps;", true)
  | 5 => ("PluralMint$State", "struck", "I", false)
  | _ => ("PluralMint$State", "melted", "I", false)
def tyX6 : Nat → FieldType := fun k => match k with
  | 0 => .object "PluralMint$Words"
  | 1 => .object "PluralMint$Words"
  | 2 => .object "PluralMint$Words"
  | 3 => .object "PluralMint$Dies"
  | 4 => .object "PluralMint$Heaps"
  | 5 => .int
  | _ => .int
abbrev wsX60 : List Cond := u_ws RX6 TX6 7
theorem nmX6 : ∀ a, a < 7 → ∀ b, b < 7 → a ≠ b → (TX6 a).2.1 ≠ (TX6 b).2.1 := by decide +kernel
theorem tyX6_ok : ∀ k, k < 7 → parseFieldDescriptor (TX6 k).2.2.1 = some (tyX6 k) := by decide +kernel
abbrev cX6_init : ByteArray := prog_8_method_1_code
def yX6_init : MethodName := ⟨RX6, "<init>", "()V"⟩
abbrev cX6_addFirstDie : ByteArray := prog_8_method_2_code
def yX6_addFirstDie : MethodName := ⟨RX6, "addFirstDie", "()V"⟩
abbrev cX6_loadPlural : ByteArray := prog_8_method_3_code
def yX6_loadPlural : MethodName := ⟨RX6, "loadPlural", "(ILPluralMint$Word;)V"⟩
abbrev cX6_makePlural : ByteArray := prog_8_method_4_code
def yX6_makePlural : MethodName := ⟨RX6, "makePlural", "(LPluralMint$Word;)V"⟩
abbrev cX6_isStale : ByteArray := prog_8_method_5_code
def yX6_isStale : MethodName := ⟨RX6, "isStale", "(ILPluralMint$Word;)Z"⟩
abbrev cX6_accept : ByteArray := prog_8_method_6_code
def yX6_accept : MethodName := ⟨RX6, "accept", "(LPluralMint$Order;)Z"⟩
abbrev cX6_copyFrom : ByteArray := prog_8_method_7_code
def yX6_copyFrom : MethodName := ⟨RX6, "copyFrom", "(LPluralMint$State;)V"⟩
def RX7 : String := "PluralMint$Word"
def TX7 : u_T := fun k => match k with
  | 0 => ("PluralMint$Word", "letters", "[C", true)
  | _ => ("PluralMint$Word", "length", "I", false)
def tyX7 : Nat → FieldType := fun k => match k with
  | 0 => .array .char
  | _ => .int
abbrev wsX70 : List Cond := u_ws RX7 TX7 2
theorem nmX7 : ∀ a, a < 2 → ∀ b, b < 2 → a ≠ b → (TX7 a).2.1 ≠ (TX7 b).2.1 := by decide +kernel
theorem tyX7_ok : ∀ k, k < 2 → parseFieldDescriptor (TX7 k).2.2.1 = some (tyX7 k) := by decide +kernel
abbrev cX7_init : ByteArray := prog_9_method_1_code
def yX7_init : MethodName := ⟨RX7, "<init>", "()V"⟩
abbrev cX7_length : ByteArray := prog_9_method_2_code
def yX7_length : MethodName := ⟨RX7, "length", "()I"⟩
abbrev cX7_letter : ByteArray := prog_9_method_3_code
def yX7_letter : MethodName := ⟨RX7, "letter", "(I)C"⟩
abbrev cX7_clear : ByteArray := prog_9_method_4_code
def yX7_clear : MethodName := ⟨RX7, "clear", "()V"⟩
abbrev cX7_append : ByteArray := prog_9_method_5_code
def yX7_append : MethodName := ⟨RX7, "append", "(C)V"⟩
abbrev cX7_shorten : ByteArray := prog_9_method_6_code
def yX7_shorten : MethodName := ⟨RX7, "shorten", "(I)V"⟩
abbrev cX7_isSame : ByteArray := prog_9_method_7_code
def yX7_isSame : MethodName := ⟨RX7, "isSame", "(LPluralMint$Word;)Z"⟩
abbrev cX7_copyFrom : ByteArray := prog_9_method_8_code
def yX7_copyFrom : MethodName := ⟨RX7, "copyFrom", "(LPluralMint$Word;)V"⟩
def RX8 : String := "PluralMint$Words"
def TX8 : u_T := fun k => match k with
  | 0 => ("PluralMint$Words", "width", "I", true)
  | 1 => ("PluralMint$Words", "letters", "[C", true)
  | 2 => ("PluralMint$Words", "lengths", "[I", true)
  | _ => ("PluralMint$Words", "count", "I", false)
def tyX8 : Nat → FieldType := fun k => match k with
  | 0 => .int
  | 1 => .array .char
  | 2 => .array .int
  | _ => .int
abbrev wsX80 : List Cond := u_ws RX8 TX8 4
theorem nmX8 : ∀ a, a < 4 → ∀ b, b < 4 → a ≠ b → (TX8 a).2.1 ≠ (TX8 b).2.1 := by decide +kernel
theorem tyX8_ok : ∀ k, k < 4 → parseFieldDescriptor (TX8 k).2.2.1 = some (tyX8 k) := by decide +kernel
abbrev cX8_init : ByteArray := prog_10_method_1_code
def yX8_init : MethodName := ⟨RX8, "<init>", "(II)V"⟩
abbrev cX8_count : ByteArray := prog_10_method_2_code
def yX8_count : MethodName := ⟨RX8, "count", "()I"⟩
abbrev cX8_isFull : ByteArray := prog_10_method_3_code
def yX8_isFull : MethodName := ⟨RX8, "isFull", "()Z"⟩
abbrev cX8_lengthOf : ByteArray := prog_10_method_4_code
def yX8_lengthOf : MethodName := ⟨RX8, "lengthOf", "(I)I"⟩
abbrev cX8_letterOf : ByteArray := prog_10_method_5_code
def yX8_letterOf : MethodName := ⟨RX8, "letterOf", "(II)C"⟩
abbrev cX8_clear : ByteArray := prog_10_method_6_code
def yX8_clear : MethodName := ⟨RX8, "clear", "()V"⟩
abbrev cX8_add : ByteArray := prog_10_method_7_code
def yX8_add : MethodName := ⟨RX8, "add", "(LPluralMint$Word;)Z"⟩
abbrev cX8_put : ByteArray := prog_10_method_8_code
def yX8_put : MethodName := ⟨RX8, "put", "(ILPluralMint$Word;)V"⟩
abbrev cX8_remove : ByteArray := prog_10_method_9_code
def yX8_remove : MethodName := ⟨RX8, "remove", "(I)V"⟩
abbrev cX8_load : ByteArray := prog_10_method_10_code
def yX8_load : MethodName := ⟨RX8, "load", "(ILPluralMint$Word;)V"⟩
abbrev cX8_appendTo : ByteArray := prog_10_method_11_code
def yX8_appendTo : MethodName := ⟨RX8, "appendTo", "(ILPluralMint$Word;)V"⟩
abbrev cX8_isSame : ByteArray := prog_10_method_12_code
def yX8_isSame : MethodName := ⟨RX8, "isSame", "(ILPluralMint$Word;)Z"⟩
abbrev cX8_isEndOf : ByteArray := prog_10_method_13_code
def yX8_isEndOf : MethodName := ⟨RX8, "isEndOf", "(ILPluralMint$Word;)Z"⟩
abbrev cX8_find : ByteArray := prog_10_method_14_code
def yX8_find : MethodName := ⟨RX8, "find", "(LPluralMint$Word;)I"⟩
abbrev cX8_countOf : ByteArray := prog_10_method_15_code
def yX8_countOf : MethodName := ⟨RX8, "countOf", "(LPluralMint$Word;)I"⟩
abbrev cX8_copyFrom : ByteArray := prog_10_method_16_code
def yX8_copyFrom : MethodName := ⟨RX8, "copyFrom", "(LPluralMint$Words;)V"⟩
def RX9 : String := "PluralMint"
def TX9 : u_T := fun k => match k with
  | 0 => ("PluralMint", "text", "LPluralMint$OrderText;", true)
  | 1 => ("PluralMint", "now", "LPluralMint$State;", true)
  | 2 => ("PluralMint", "snapshot", "LPluralMint$State;", true)
  | 3 => ("PluralMint", "hasSnapshot", "Z", false)
  | 4 => ("PluralMint", "history", "LPluralMint$History;", true)
  | 5 => ("PluralMint", "trial", "LPluralMint$State;", true)
  | 6 => ("PluralMint", "order", "LPluralMint$Order;", true)
  | 7 => ("PluralMint", "wanted", "LPluralMint$Word;", true)
  | 8 => ("PluralMint", "plural", "LPluralMint$Word;", true)
  | 9 => ("PluralMint", "origin", "LPluralMint$Word;", true)
  | 10 => ("PluralMint", "plurals", "LPluralMint$Words;", true)
  | _ => ("PluralMint", "origins", "LPluralMint$Words;", true)
def tyX9 : Nat → FieldType := fun k => match k with
  | 0 => .object "PluralMint$OrderText"
  | 1 => .object "PluralMint$State"
  | 2 => .object "PluralMint$State"
  | 3 => .boolean
  | 4 => .object "PluralMint$History"
  | 5 => .object "PluralMint$State"
  | 6 => .object "PluralMint$Order"
  | 7 => .object "PluralMint$Word"
  | 8 => .object "PluralMint$Word"
  | 9 => .object "PluralMint$Word"
  | 10 => .object "PluralMint$Words"
  | _ => .object "PluralMint$Words"
abbrev wsX90 : List Cond := u_ws RX9 TX9 12
theorem nmX9 : ∀ a, a < 12 → ∀ b, b < 12 → a ≠ b → (TX9 a).2.1 ≠ (TX9 b).2.1 := by decide +kernel
theorem tyX9_ok : ∀ k, k < 12 → parseFieldDescriptor (TX9 k).2.2.1 = some (tyX9 k) := by decide +kernel
abbrev cX9_init : ByteArray := prog_1_method_1_code
def yX9_init : MethodName := ⟨RX9, "<init>", "()V"⟩
abbrev cX9_strike : ByteArray := prog_1_method_2_code
def yX9_strike : MethodName := ⟨RX9, "strike", "(II)I"⟩
abbrev cX9_melt : ByteArray := prog_1_method_3_code
def yX9_melt : MethodName := ⟨RX9, "melt", "(II)I"⟩
abbrev cX9_meltStale : ByteArray := prog_1_method_4_code
def yX9_meltStale : MethodName := ⟨RX9, "meltStale", "()I"⟩
abbrev cX9_dropDie : ByteArray := prog_1_method_5_code
def yX9_dropDie : MethodName := ⟨RX9, "dropDie", "(I)I"⟩
abbrev cX9_dropIrregular : ByteArray := prog_1_method_6_code
def yX9_dropIrregular : MethodName := ⟨RX9, "dropIrregular", "()I"⟩
abbrev cX9_type : ByteArray := prog_1_method_7_code
def yX9_type : MethodName := ⟨RX9, "type", "(C)I"⟩
abbrev cX9_clearText : ByteArray := prog_1_method_8_code
def yX9_clearText : MethodName := ⟨RX9, "clearText", "()I"⟩
abbrev cX9_impossibleOrder : ByteArray := prog_1_method_10_code
def yX9_impossibleOrder : MethodName := ⟨RX9, "impossibleOrder", "()I"⟩
abbrev cX9_carryOut : ByteArray := prog_1_method_11_code
def yX9_carryOut : MethodName := ⟨RX9, "carryOut", "()I"⟩
abbrev cX9_undo : ByteArray := prog_1_method_12_code
def yX9_undo : MethodName := ⟨RX9, "undo", "()I"⟩
abbrev cX9_takeSnapshot : ByteArray := prog_1_method_13_code
def yX9_takeSnapshot : MethodName := ⟨RX9, "takeSnapshot", "()I"⟩
abbrev cX9_restoreSnapshot : ByteArray := prog_1_method_14_code
def yX9_restoreSnapshot : MethodName := ⟨RX9, "restoreSnapshot", "()I"⟩
abbrev cX9_nouns : ByteArray := prog_1_method_15_code
def yX9_nouns : MethodName := ⟨RX9, "nouns", "()I"⟩
abbrev cX9_lettersOf : ByteArray := prog_1_method_16_code
def yX9_lettersOf : MethodName := ⟨RX9, "lettersOf", "(I)I"⟩
abbrev cX9_pluralLetters : ByteArray := prog_1_method_17_code
def yX9_pluralLetters : MethodName := ⟨RX9, "pluralLetters", "(I)I"⟩
abbrev cX9_pluralLetter : ByteArray := prog_1_method_18_code
def yX9_pluralLetter : MethodName := ⟨RX9, "pluralLetter", "(II)C"⟩
abbrev cX9_countedLetter : ByteArray := prog_1_method_19_code
def yX9_countedLetter : MethodName := ⟨RX9, "countedLetter", "(III)C"⟩
abbrev cX9_isIrregular : ByteArray := prog_1_method_20_code
def yX9_isIrregular : MethodName := ⟨RX9, "isIrregular", "(I)Z"⟩
abbrev cX9_dieFor : ByteArray := prog_1_method_21_code
def yX9_dieFor : MethodName := ⟨RX9, "dieFor", "(I)I"⟩
abbrev cX9_ambiguousNouns : ByteArray := prog_1_method_22_code
def yX9_ambiguousNouns : MethodName := ⟨RX9, "ambiguousNouns", "()I"⟩
abbrev cX9_recallByStriking : ByteArray := prog_1_method_23_code
def yX9_recallByStriking : MethodName := ⟨RX9, "recallByStriking", "()I"⟩
abbrev cX9_recallByReversing : ByteArray := prog_1_method_24_code
def yX9_recallByReversing : MethodName := ⟨RX9, "recallByReversing", "()I"⟩
abbrev cX9_possibleNouns : ByteArray := prog_1_method_25_code
def yX9_possibleNouns : MethodName := ⟨RX9, "possibleNouns", "()I"⟩
abbrev cX9_dies : ByteArray := prog_1_method_26_code
def yX9_dies : MethodName := ⟨RX9, "dies", "()I"⟩
abbrev cX9_irregulars : ByteArray := prog_1_method_27_code
def yX9_irregulars : MethodName := ⟨RX9, "irregulars", "()I"⟩
abbrev cX9_fitsOf : ByteArray := prog_1_method_28_code
def yX9_fitsOf : MethodName := ⟨RX9, "fitsOf", "(I)I"⟩
abbrev cX9_coinsOf : ByteArray := prog_1_method_29_code
def yX9_coinsOf : MethodName := ⟨RX9, "coinsOf", "(I)I"⟩
abbrev cX9_heaps : ByteArray := prog_1_method_30_code
def yX9_heaps : MethodName := ⟨RX9, "heaps", "()I"⟩
abbrev cX9_staleCoins : ByteArray := prog_1_method_31_code
def yX9_staleCoins : MethodName := ⟨RX9, "staleCoins", "()I"⟩
abbrev cX9_coinsByHeaps : ByteArray := prog_1_method_32_code
def yX9_coinsByHeaps : MethodName := ⟨RX9, "coinsByHeaps", "()I"⟩
abbrev cX9_coinsByAccounts : ByteArray := prog_1_method_33_code
def yX9_coinsByAccounts : MethodName := ⟨RX9, "coinsByAccounts", "()I"⟩
abbrev cX9_recordedStates : ByteArray := prog_1_method_34_code
def yX9_recordedStates : MethodName := ⟨RX9, "recordedStates", "()I"⟩
abbrev cX9_checkNoun : ByteArray := prog_1_method_35_code
def yX9_checkNoun : MethodName := ⟨RX9, "checkNoun", "(I)V"⟩
abbrev cX9_checkDie : ByteArray := prog_1_method_36_code
def yX9_checkDie : MethodName := ⟨RX9, "checkDie", "(I)V"⟩
abbrev cX9_checkPlace : ByteArray := prog_1_method_37_code
def yX9_checkPlace : MethodName := ⟨RX9, "checkPlace", "(ILPluralMint$Word;)V"⟩
abbrev cX9_checkMany : ByteArray := prog_1_method_38_code
def yX9_checkMany : MethodName := ⟨RX9, "checkMany", "(I)V"⟩
abbrev cX9_checkCount : ByteArray := prog_1_method_39_code
def yX9_checkCount : MethodName := ⟨RX9, "checkCount", "(I)V"⟩
abbrev cX9_checkTextIsValid : ByteArray := prog_1_method_40_code
def yX9_checkTextIsValid : MethodName := ⟨RX9, "checkTextIsValid", "()V"⟩
abbrev cX9_loadWantedPlural : ByteArray := prog_1_method_41_code
def yX9_loadWantedPlural : MethodName := ⟨RX9, "loadWantedPlural", "()V"⟩
abbrev cX9_tryOrders : ByteArray := prog_1_method_42_code
def yX9_tryOrders : MethodName := ⟨RX9, "tryOrders", "()I"⟩
abbrev cX9_collectOrigins : ByteArray := prog_1_method_43_code
def yX9_collectOrigins : MethodName := ⟨RX9, "collectOrigins", "()V"⟩
abbrev cX9_isSmallLetter : ByteArray := prog_1_method_44_code
def yX9_isSmallLetter : MethodName := ⟨RX9, "isSmallLetter", "(C)Z"⟩
abbrev cX9_closeGap : ByteArray := prog_1_method_45_code
def yX9_closeGap : MethodName := ⟨RX9, "closeGap", "([II)V"⟩
abbrev cX9_copyNumbers : ByteArray := prog_1_method_46_code
def yX9_copyNumbers : MethodName := ⟨RX9, "copyNumbers", "([I[I)V"⟩
def RX10 : String := "PluralMintModel"
def TX10 : u_T := fun k => match k with
  | _ => ("", "", "", false)
def tyX10 : Nat → FieldType := fun k => match k with
  | _ => .int
abbrev wsX100 : List Cond := u_ws RX10 TX10 0
theorem nmX10 : ∀ a, a < 0 → ∀ b, b < 0 → a ≠ b → (TX10 a).2.1 ≠ (TX10 b).2.1 := by decide +kernel
theorem tyX10_ok : ∀ k, k < 0 → parseFieldDescriptor (TX10 k).2.2.1 = some (tyX10 k) := by decide +kernel
def RL : String := "PluralMintLaw"
abbrev cL_cell : ByteArray := method_2_code
def yL_cell : MethodName := ⟨RL, "cell", "([II)I"⟩
abbrev cL_up : ByteArray := method_3_code
def yL_up : MethodName := ⟨RL, "up", "(II)I"⟩
abbrev cL_strike : ByteArray := method_4_code
def yL_strike : MethodName := ⟨RL, "strike", "(LPluralMint;II)I"⟩
abbrev cL_melt : ByteArray := method_5_code
def yL_melt : MethodName := ⟨RL, "melt", "(LPluralMint;II)I"⟩
abbrev cL_dropDie : ByteArray := method_6_code
def yL_dropDie : MethodName := ⟨RL, "dropDie", "(LPluralMint;I)I"⟩
abbrev cL_dropIrregular : ByteArray := method_7_code
def yL_dropIrregular : MethodName := ⟨RL, "dropIrregular", "(LPluralMint;)I"⟩
abbrev cL_type : ByteArray := method_8_code
def yL_type : MethodName := ⟨RL, "type", "(LPluralMint;I)I"⟩
abbrev cL_impossible : ByteArray := method_9_code
def yL_impossible : MethodName := ⟨RL, "impossible", "(LPluralMint;)I"⟩
abbrev cL_carryOut : ByteArray := method_10_code
def yL_carryOut : MethodName := ⟨RL, "carryOut", "(LPluralMint;)I"⟩
abbrev cL_undo : ByteArray := method_11_code
def yL_undo : MethodName := ⟨RL, "undo", "(LPluralMint;)I"⟩
abbrev cL_restore : ByteArray := method_12_code
def yL_restore : MethodName := ⟨RL, "restore", "(LPluralMint;)I"⟩
abbrev cL_letters : ByteArray := method_13_code
def yL_letters : MethodName := ⟨RL, "letters", "(LPluralMint;I)I"⟩
abbrev cL_pluralLetters : ByteArray := method_14_code
def yL_pluralLetters : MethodName := ⟨RL, "pluralLetters", "(LPluralMint;I)I"⟩
abbrev cL_letter : ByteArray := method_15_code
def yL_letter : MethodName := ⟨RL, "letter", "(LPluralMint;II)I"⟩
abbrev cL_counted : ByteArray := method_16_code
def yL_counted : MethodName := ⟨RL, "counted", "(LPluralMint;III)I"⟩
abbrev cL_isIrregular : ByteArray := method_17_code
def yL_isIrregular : MethodName := ⟨RL, "isIrregular", "(LPluralMint;I)I"⟩
abbrev cL_dieFor : ByteArray := method_18_code
def yL_dieFor : MethodName := ⟨RL, "dieFor", "(LPluralMint;I)I"⟩
abbrev cL_recall : ByteArray := method_19_code
def yL_recall : MethodName := ⟨RL, "recall", "(LPluralMint;)I"⟩
abbrev cL_reversed : ByteArray := method_20_code
def yL_reversed : MethodName := ⟨RL, "reversed", "(LPluralMint;)I"⟩
abbrev cL_possible : ByteArray := method_21_code
def yL_possible : MethodName := ⟨RL, "possible", "(LPluralMint;)I"⟩
abbrev cL_fitsOf : ByteArray := method_22_code
def yL_fitsOf : MethodName := ⟨RL, "fitsOf", "(LPluralMint;I)I"⟩
abbrev cL_coins : ByteArray := method_23_code
def yL_coins : MethodName := ⟨RL, "coins", "(LPluralMint;I)I"⟩
abbrev cL_other : ByteArray := method_24_code
def yL_other : MethodName := ⟨RL, "other", "(I)I"⟩
abbrev cL_both : ByteArray := method_25_code
def yL_both : MethodName := ⟨RL, "both", "(LPluralMint;LPluralMint;I)Z"⟩
abbrev cL_pick : ByteArray := method_26_code
def yL_pick : MethodName := ⟨RL, "pick", "(I)I"⟩
abbrev cL_word : ByteArray := method_27_code
def yL_word : MethodName := ⟨RL, "word", "(LPluralMint;LPluralMint;II)Z"⟩
abbrev cL_empty : ByteArray := method_28_code
def yL_empty : MethodName := ⟨RL, "empty", "(LPluralMint;LPluralMint;)Z"⟩
abbrev cL_isStep : ByteArray := method_29_code
def yL_isStep : MethodName := ⟨RL, "isStep", "(LPluralMint;LPluralMint;II)Z"⟩
abbrev cL_areAlike : ByteArray := method_30_code
def yL_areAlike : MethodName := ⟨RL, "areAlike", "(LPluralMint;LPluralMint;)Z"⟩
abbrev cL_isWell : ByteArray := method_31_code
def yL_isWell : MethodName := ⟨RL, "isWell", "(LPluralMint;)Z"⟩
abbrev cL_law : ByteArray := code
def yL_law : MethodName := ⟨RL, "law", "([I)Z"⟩
/-- the classes whose objects the worlds hold -/
abbrev gCl : List vw_C := [(RX0, TX0, 3), (RX1, TX1, 2), (RX2, TX2, 3), (RX3, TX3, 2), (RX4, TX4, 5), (RX5, TX5, 3), (RX6, TX6, 7), (RX7, TX7, 2), (RX8, TX8, 4), (RX9, TX9, 12)]
def gStr : List (String × Nat × String) := [("PluralMint", 262, "no such noun"), ("PluralMint", 271, "many is out of range"), ("PluralMint", 98, "there would be too many heaps"), ("PluralMint", 122, "the noun has fewer coins"), ("PluralMint", 265, "no such die"), ("PluralMint", 150, "die 0 stays"), ("PluralMint", 166, "the table is empty"), ("PluralMint", 173, "the text is full"), ("PluralMint", 276, "the text is not valid"), ("PluralMint", 194, "an order cannot be carried out"), ("PluralMint", 215, "there is no snapshot"), ("PluralMint", 203, "no state is recorded"), ("PluralMint", 274, "count is out of range"), ("PluralMint", 267, "no such letter"), ("PluralMint", 281, "the text is not a single word")]
def gNc : List (String × String) := [("java/lang/IllegalArgumentException", "java/lang/IndexOutOfBoundsException"), ("java/lang/IllegalStateException", "java/lang/IndexOutOfBoundsException"), ("java/lang/IndexOutOfBoundsException", "java/lang/IllegalArgumentException"), ("java/lang/IllegalStateException", "java/lang/IllegalArgumentException"), ("java/lang/IndexOutOfBoundsException", "java/lang/IllegalStateException"), ("java/lang/IllegalArgumentException", "java/lang/IllegalStateException")]
end
section
theorem d_0_init_0 : decode cX0_init 0 = .ok (.aload_n 0, 1) := by decide +kernel
theorem d_0_init_1 : decode cX0_init 1 = .ok (.invokespecial 3, 3) := by decide +kernel
theorem d_0_init_4 : decode cX0_init 4 = .ok (.aload_n 0, 1) := by decide +kernel
theorem d_0_init_5 : decode cX0_init 5 = .ok (.new 9, 3) := by decide +kernel
theorem d_0_init_8 : decode cX0_init 8 = .ok (.dup, 1) := by decide +kernel
theorem d_0_init_9 : decode cX0_init 9 = .ok (.bipush 12, 2) := by decide +kernel
theorem d_0_init_11 : decode cX0_init 11 = .ok (.iconst 4, 1) := by decide +kernel
theorem d_0_init_12 : decode cX0_init 12 = .ok (.invokespecial 11, 3) := by decide +kernel
theorem d_0_init_15 : decode cX0_init 15 = .ok (.putfield 14, 3) := by decide +kernel
theorem d_0_init_18 : decode cX0_init 18 = .ok (.aload_n 0, 1) := by decide +kernel
theorem d_0_init_19 : decode cX0_init 19 = .ok (.new 9, 3) := by decide +kernel
theorem d_0_init_22 : decode cX0_init 22 = .ok (.dup, 1) := by decide +kernel
theorem d_0_init_23 : decode cX0_init 23 = .ok (.bipush 12, 2) := by decide +kernel
theorem d_0_init_25 : decode cX0_init 25 = .ok (.iconst 4, 1) := by decide +kernel
theorem d_0_init_26 : decode cX0_init 26 = .ok (.invokespecial 11, 3) := by decide +kernel
theorem d_0_init_29 : decode cX0_init 29 = .ok (.putfield 20, 3) := by decide +kernel
theorem d_0_init_32 : decode cX0_init 32 = .ok (.aload_n 0, 1) := by decide +kernel
theorem d_0_init_33 : decode cX0_init 33 = .ok (.bipush 12, 2) := by decide +kernel
theorem d_0_init_35 : decode cX0_init 35 = .ok (.newarray .int, 2) := by decide +kernel
theorem d_0_init_37 : decode cX0_init 37 = .ok (.putfield 23, 3) := by decide +kernel
theorem d_0_init_40 : decode cX0_init 40 = .ok (.return_, 1) := by decide +kernel
theorem d_0_count_0 : decode cX0_count 0 = .ok (.aload_n 0, 1) := by decide +kernel
theorem d_0_count_1 : decode cX0_count 1 = .ok (.getfield 14, 3) := by decide +kernel
theorem d_0_count_4 : decode cX0_count 4 = .ok (.invokevirtual 27, 3) := by decide +kernel
theorem d_0_count_7 : decode cX0_count 7 = .ok (.ireturn, 1) := by decide +kernel
theorem d_0_add_0 : decode cX0_add 0 = .ok (.aload_n 0, 1) := by decide +kernel
theorem d_0_add_1 : decode cX0_add 1 = .ok (.invokevirtual 31, 3) := by decide +kernel
theorem d_0_add_4 : decode cX0_add 4 = .ok (.istore 4, 2) := by decide +kernel
theorem d_0_add_6 : decode cX0_add 6 = .ok (.iload 4, 2) := by decide +kernel
theorem d_0_add_8 : decode cX0_add 8 = .ok (.ifCond .lt 13, 3) := by decide +kernel
theorem d_0_add_11 : decode cX0_add 11 = .ok (.iload 4, 2) := by decide +kernel
theorem d_0_add_13 : decode cX0_add 13 = .ok (.aload_n 0, 1) := by decide +kernel
theorem d_0_add_14 : decode cX0_add 14 = .ok (.getfield 23, 3) := by decide +kernel
theorem d_0_add_17 : decode cX0_add 17 = .ok (.arraylength, 1) := by decide +kernel
theorem d_0_add_18 : decode cX0_add 18 = .ok (.if_icmp .lt 5, 3) := by decide +kernel
theorem d_0_add_21 : decode cX0_add 21 = .ok (.iconst 0, 1) := by decide +kernel
theorem d_0_add_22 : decode cX0_add 22 = .ok (.ireturn, 1) := by decide +kernel
theorem d_0_add_23 : decode cX0_add 23 = .ok (.aload_n 0, 1) := by decide +kernel
theorem d_0_add_24 : decode cX0_add 24 = .ok (.getfield 23, 3) := by decide +kernel
theorem d_0_add_27 : decode cX0_add 27 = .ok (.iload 4, 2) := by decide +kernel
theorem d_0_add_29 : decode cX0_add 29 = .ok (.iload_n 3, 1) := by decide +kernel
theorem d_0_add_30 : decode cX0_add 30 = .ok (.iastore, 1) := by decide +kernel
theorem d_0_add_31 : decode cX0_add 31 = .ok (.aload_n 0, 1) := by decide +kernel
theorem d_0_add_32 : decode cX0_add 32 = .ok (.getfield 14, 3) := by decide +kernel
theorem d_0_add_35 : decode cX0_add 35 = .ok (.aload_n 1, 1) := by decide +kernel
theorem d_0_add_36 : decode cX0_add 36 = .ok (.invokevirtual 32, 3) := by decide +kernel
theorem d_0_add_39 : decode cX0_add 39 = .ok (.ifCond .eq 18, 3) := by decide +kernel
theorem d_0_add_42 : decode cX0_add 42 = .ok (.aload_n 0, 1) := by decide +kernel
theorem d_0_add_43 : decode cX0_add 43 = .ok (.getfield 20, 3) := by decide +kernel
theorem d_0_add_46 : decode cX0_add 46 = .ok (.aload_n 2, 1) := by decide +kernel
theorem d_0_add_47 : decode cX0_add 47 = .ok (.invokevirtual 32, 3) := by decide +kernel
theorem d_0_add_50 : decode cX0_add 50 = .ok (.ifCond .eq 7, 3) := by decide +kernel
theorem d_0_add_53 : decode cX0_add 53 = .ok (.iconst 1, 1) := by decide +kernel
theorem d_0_add_54 : decode cX0_add 54 = .ok (.goto 4, 3) := by decide +kernel
theorem d_0_add_57 : decode cX0_add 57 = .ok (.iconst 0, 1) := by decide +kernel
theorem d_0_add_58 : decode cX0_add 58 = .ok (.ireturn, 1) := by decide +kernel
theorem d_0_remove_0 : decode cX0_remove 0 = .ok (.aload_n 0, 1) := by decide +kernel
theorem d_0_remove_1 : decode cX0_remove 1 = .ok (.getfield 14, 3) := by decide +kernel
theorem d_0_remove_4 : decode cX0_remove 4 = .ok (.iload_n 1, 1) := by decide +kernel
theorem d_0_remove_5 : decode cX0_remove 5 = .ok (.invokevirtual 36, 3) := by decide +kernel
theorem d_0_remove_8 : decode cX0_remove 8 = .ok (.aload_n 0, 1) := by decide +kernel
theorem d_0_remove_9 : decode cX0_remove 9 = .ok (.getfield 20, 3) := by decide +kernel
theorem d_0_remove_12 : decode cX0_remove 12 = .ok (.iload_n 1, 1) := by decide +kernel
theorem d_0_remove_13 : decode cX0_remove 13 = .ok (.invokevirtual 36, 3) := by decide +kernel
theorem d_0_remove_16 : decode cX0_remove 16 = .ok (.aload_n 0, 1) := by decide +kernel
theorem d_0_remove_17 : decode cX0_remove 17 = .ok (.getfield 23, 3) := by decide +kernel
theorem d_0_remove_20 : decode cX0_remove 20 = .ok (.iload_n 1, 1) := by decide +kernel
theorem d_0_remove_21 : decode cX0_remove 21 = .ok (.invokestatic 40, 3) := by decide +kernel
theorem d_0_remove_24 : decode cX0_remove 24 = .ok (.return_, 1) := by decide +kernel
theorem d_0_fits_0 : decode cX0_fits 0 = .ok (.aload_n 0, 1) := by decide +kernel
theorem d_0_fits_1 : decode cX0_fits 1 = .ok (.getfield 14, 3) := by decide +kernel
theorem d_0_fits_4 : decode cX0_fits 4 = .ok (.iload_n 1, 1) := by decide +kernel
theorem d_0_fits_5 : decode cX0_fits 5 = .ok (.aload_n 2, 1) := by decide +kernel
theorem d_0_fits_6 : decode cX0_fits 6 = .ok (.invokevirtual 44, 3) := by decide +kernel
theorem d_0_fits_9 : decode cX0_fits 9 = .ok (.ifCond .eq 16, 3) := by decide +kernel
theorem d_0_fits_12 : decode cX0_fits 12 = .ok (.aload_n 0, 1) := by decide +kernel
theorem d_0_fits_13 : decode cX0_fits 13 = .ok (.iload_n 1, 1) := by decide +kernel
theorem d_0_fits_14 : decode cX0_fits 14 = .ok (.aload_n 2, 1) := by decide +kernel
theorem d_0_fits_15 : decode cX0_fits 15 = .ok (.invokevirtual 48, 3) := by decide +kernel
theorem d_0_fits_18 : decode cX0_fits 18 = .ok (.ifCond .eq 7, 3) := by decide +kernel
theorem d_0_fits_21 : decode cX0_fits 21 = .ok (.iconst 1, 1) := by decide +kernel
theorem d_0_fits_22 : decode cX0_fits 22 = .ok (.goto 4, 3) := by decide +kernel
theorem d_0_fits_25 : decode cX0_fits 25 = .ok (.iconst 0, 1) := by decide +kernel
theorem d_0_fits_26 : decode cX0_fits 26 = .ok (.ireturn, 1) := by decide +kernel
theorem d_0_meetsCondition_0 : decode cX0_meetsCondition 0 = .ok (.iload_n 1, 1) := by decide +kernel
theorem d_0_meetsCondition_1 : decode cX0_meetsCondition 1 = .ok (.ifCond .lt 21, 3) := by decide +kernel
theorem d_0_meetsCondition_4 : decode cX0_meetsCondition 4 = .ok (.iload_n 1, 1) := by decide +kernel
theorem d_0_meetsCondition_5 : decode cX0_meetsCondition 5 = .ok (.aload_n 0, 1) := by decide +kernel
theorem d_0_meetsCondition_6 : decode cX0_meetsCondition 6 = .ok (.getfield 23, 3) := by decide +kernel
theorem d_0_meetsCondition_9 : decode cX0_meetsCondition 9 = .ok (.arraylength, 1) := by decide +kernel
theorem d_0_meetsCondition_10 : decode cX0_meetsCondition 10 = .ok (.if_icmp .ge 12, 3) := by decide +kernel
theorem d_0_meetsCondition_13 : decode cX0_meetsCondition 13 = .ok (.aload_n 0, 1) := by decide +kernel
theorem d_0_meetsCondition_14 : decode cX0_meetsCondition 14 = .ok (.getfield 23, 3) := by decide +kernel
theorem d_0_meetsCondition_17 : decode cX0_meetsCondition 17 = .ok (.iload_n 1, 1) := by decide +kernel
theorem d_0_meetsCondition_18 : decode cX0_meetsCondition 18 = .ok (.iaload, 1) := by decide +kernel
theorem d_0_meetsCondition_19 : decode cX0_meetsCondition 19 = .ok (.goto 4, 3) := by decide +kernel
theorem d_0_meetsCondition_22 : decode cX0_meetsCondition 22 = .ok (.iconst 0, 1) := by decide +kernel
theorem d_0_meetsCondition_23 : decode cX0_meetsCondition 23 = .ok (.istore_n 3, 1) := by decide +kernel
theorem d_0_meetsCondition_24 : decode cX0_meetsCondition 24 = .ok (.aload_n 2, 1) := by decide +kernel
theorem d_0_meetsCondition_25 : decode cX0_meetsCondition 25 = .ok (.invokevirtual 51, 3) := by decide +kernel
theorem d_0_meetsCondition_28 : decode cX0_meetsCondition 28 = .ok (.aload_n 0, 1) := by decide +kernel
theorem d_0_meetsCondition_29 : decode cX0_meetsCondition 29 = .ok (.getfield 14, 3) := by decide +kernel
theorem d_0_meetsCondition_32 : decode cX0_meetsCondition 32 = .ok (.iload_n 1, 1) := by decide +kernel
theorem d_0_meetsCondition_33 : decode cX0_meetsCondition 33 = .ok (.invokevirtual 56, 3) := by decide +kernel
theorem d_0_meetsCondition_36 : decode cX0_meetsCondition 36 = .ok (.isub, 1) := by decide +kernel
theorem d_0_meetsCondition_37 : decode cX0_meetsCondition 37 = .ok (.iconst 1, 1) := by decide +kernel
theorem d_0_meetsCondition_38 : decode cX0_meetsCondition 38 = .ok (.isub, 1) := by decide +kernel
theorem d_0_meetsCondition_39 : decode cX0_meetsCondition 39 = .ok (.istore 4, 2) := by decide +kernel
theorem d_0_meetsCondition_41 : decode cX0_meetsCondition 41 = .ok (.iload_n 3, 1) := by decide +kernel
theorem d_0_meetsCondition_42 : decode cX0_meetsCondition 42 = .ok (.ifCond .ne 5, 3) := by decide +kernel
theorem d_0_meetsCondition_45 : decode cX0_meetsCondition 45 = .ok (.iconst 1, 1) := by decide +kernel
theorem d_0_meetsCondition_46 : decode cX0_meetsCondition 46 = .ok (.ireturn, 1) := by decide +kernel
theorem d_0_meetsCondition_47 : decode cX0_meetsCondition 47 = .ok (.iload 4, 2) := by decide +kernel
theorem d_0_meetsCondition_49 : decode cX0_meetsCondition 49 = .ok (.ifCond .lt 29, 3) := by decide +kernel
theorem d_0_meetsCondition_52 : decode cX0_meetsCondition 52 = .ok (.aload_n 2, 1) := by decide +kernel
theorem d_0_meetsCondition_53 : decode cX0_meetsCondition 53 = .ok (.iload 4, 2) := by decide +kernel
theorem d_0_meetsCondition_55 : decode cX0_meetsCondition 55 = .ok (.invokevirtual 60, 3) := by decide +kernel
theorem d_0_meetsCondition_58 : decode cX0_meetsCondition 58 = .ok (.invokestatic 64, 3) := by decide +kernel
theorem d_0_meetsCondition_61 : decode cX0_meetsCondition 61 = .ok (.iload_n 3, 1) := by decide +kernel
theorem d_0_meetsCondition_62 : decode cX0_meetsCondition 62 = .ok (.iconst 2, 1) := by decide +kernel
theorem d_0_meetsCondition_63 : decode cX0_meetsCondition 63 = .ok (.if_icmp .ne 7, 3) := by decide +kernel
theorem d_0_meetsCondition_66 : decode cX0_meetsCondition 66 = .ok (.iconst 1, 1) := by decide +kernel
theorem d_0_meetsCondition_67 : decode cX0_meetsCondition 67 = .ok (.goto 4, 3) := by decide +kernel
theorem d_0_meetsCondition_70 : decode cX0_meetsCondition 70 = .ok (.iconst 0, 1) := by decide +kernel
theorem d_0_meetsCondition_71 : decode cX0_meetsCondition 71 = .ok (.if_icmp .ne 7, 3) := by decide +kernel
theorem d_0_meetsCondition_74 : decode cX0_meetsCondition 74 = .ok (.iconst 1, 1) := by decide +kernel
theorem d_0_meetsCondition_75 : decode cX0_meetsCondition 75 = .ok (.goto 4, 3) := by decide +kernel
theorem d_0_meetsCondition_78 : decode cX0_meetsCondition 78 = .ok (.iconst 0, 1) := by decide +kernel
theorem d_0_meetsCondition_79 : decode cX0_meetsCondition 79 = .ok (.ireturn, 1) := by decide +kernel
theorem d_0_isVowel_0 : decode cX0_isVowel 0 = .ok (.iload_n 0, 1) := by decide +kernel
theorem d_0_isVowel_1 : decode cX0_isVowel 1 = .ok (.bipush 97, 2) := by decide +kernel
theorem d_0_isVowel_3 : decode cX0_isVowel 3 = .ok (.if_icmp .eq 27, 3) := by decide +kernel
theorem d_0_isVowel_6 : decode cX0_isVowel 6 = .ok (.iload_n 0, 1) := by decide +kernel
theorem d_0_isVowel_7 : decode cX0_isVowel 7 = .ok (.bipush 101, 2) := by decide +kernel
theorem d_0_isVowel_9 : decode cX0_isVowel 9 = .ok (.if_icmp .eq 21, 3) := by decide +kernel
theorem d_0_isVowel_12 : decode cX0_isVowel 12 = .ok (.iload_n 0, 1) := by decide +kernel
theorem d_0_isVowel_13 : decode cX0_isVowel 13 = .ok (.bipush 105, 2) := by decide +kernel
theorem d_0_isVowel_15 : decode cX0_isVowel 15 = .ok (.if_icmp .eq 15, 3) := by decide +kernel
theorem d_0_isVowel_18 : decode cX0_isVowel 18 = .ok (.iload_n 0, 1) := by decide +kernel
theorem d_0_isVowel_19 : decode cX0_isVowel 19 = .ok (.bipush 111, 2) := by decide +kernel
theorem d_0_isVowel_21 : decode cX0_isVowel 21 = .ok (.if_icmp .eq 9, 3) := by decide +kernel
theorem d_0_isVowel_24 : decode cX0_isVowel 24 = .ok (.iload_n 0, 1) := by decide +kernel
theorem d_0_isVowel_25 : decode cX0_isVowel 25 = .ok (.bipush 117, 2) := by decide +kernel
theorem d_0_isVowel_27 : decode cX0_isVowel 27 = .ok (.if_icmp .ne 7, 3) := by decide +kernel
theorem d_0_isVowel_30 : decode cX0_isVowel 30 = .ok (.iconst 1, 1) := by decide +kernel
theorem d_0_isVowel_31 : decode cX0_isVowel 31 = .ok (.goto 4, 3) := by decide +kernel
theorem d_0_isVowel_34 : decode cX0_isVowel 34 = .ok (.iconst 0, 1) := by decide +kernel
theorem d_0_isVowel_35 : decode cX0_isVowel 35 = .ok (.ireturn, 1) := by decide +kernel
theorem d_0_choose_0 : decode cX0_choose 0 = .ok (.iconst 0, 1) := by decide +kernel
theorem d_0_choose_1 : decode cX0_choose 1 = .ok (.istore_n 2, 1) := by decide +kernel
theorem d_0_choose_2 : decode cX0_choose 2 = .ok (.iconst 1, 1) := by decide +kernel
theorem d_0_choose_3 : decode cX0_choose 3 = .ok (.istore_n 3, 1) := by decide +kernel
theorem d_0_choose_4 : decode cX0_choose 4 = .ok (.iload_n 3, 1) := by decide +kernel
theorem d_0_choose_5 : decode cX0_choose 5 = .ok (.aload_n 0, 1) := by decide +kernel
theorem d_0_choose_6 : decode cX0_choose 6 = .ok (.invokevirtual 31, 3) := by decide +kernel
theorem d_0_choose_9 : decode cX0_choose 9 = .ok (.if_icmp .ge 39, 3) := by decide +kernel
theorem d_0_choose_12 : decode cX0_choose 12 = .ok (.aload_n 0, 1) := by decide +kernel
theorem d_0_choose_13 : decode cX0_choose 13 = .ok (.getfield 14, 3) := by decide +kernel
theorem d_0_choose_16 : decode cX0_choose 16 = .ok (.iload_n 3, 1) := by decide +kernel
theorem d_0_choose_17 : decode cX0_choose 17 = .ok (.invokevirtual 56, 3) := by decide +kernel
theorem d_0_choose_20 : decode cX0_choose 20 = .ok (.aload_n 0, 1) := by decide +kernel
theorem d_0_choose_21 : decode cX0_choose 21 = .ok (.getfield 14, 3) := by decide +kernel
theorem d_0_choose_24 : decode cX0_choose 24 = .ok (.iload_n 2, 1) := by decide +kernel
theorem d_0_choose_25 : decode cX0_choose 25 = .ok (.invokevirtual 56, 3) := by decide +kernel
theorem d_0_choose_28 : decode cX0_choose 28 = .ok (.if_icmp .lt 14, 3) := by decide +kernel
theorem d_0_choose_31 : decode cX0_choose 31 = .ok (.aload_n 0, 1) := by decide +kernel
theorem d_0_choose_32 : decode cX0_choose 32 = .ok (.iload_n 3, 1) := by decide +kernel
theorem d_0_choose_33 : decode cX0_choose 33 = .ok (.aload_n 1, 1) := by decide +kernel
theorem d_0_choose_34 : decode cX0_choose 34 = .ok (.invokevirtual 68, 3) := by decide +kernel
theorem d_0_choose_37 : decode cX0_choose 37 = .ok (.ifCond .eq 5, 3) := by decide +kernel
theorem d_0_choose_40 : decode cX0_choose 40 = .ok (.iload_n 3, 1) := by decide +kernel
theorem d_0_choose_41 : decode cX0_choose 41 = .ok (.istore_n 2, 1) := by decide +kernel
theorem d_0_choose_42 : decode cX0_choose 42 = .ok (.iinc 3 1, 3) := by decide +kernel
theorem d_0_choose_45 : decode cX0_choose 45 = .ok (.goto (-41), 3) := by decide +kernel
theorem d_0_choose_48 : decode cX0_choose 48 = .ok (.iload_n 2, 1) := by decide +kernel
theorem d_0_choose_49 : decode cX0_choose 49 = .ok (.ireturn, 1) := by decide +kernel
theorem d_0_press_0 : decode cX0_press 0 = .ok (.aload_n 2, 1) := by decide +kernel
theorem d_0_press_1 : decode cX0_press 1 = .ok (.aload_n 0, 1) := by decide +kernel
theorem d_0_press_2 : decode cX0_press 2 = .ok (.getfield 14, 3) := by decide +kernel
theorem d_0_press_5 : decode cX0_press 5 = .ok (.iload_n 1, 1) := by decide +kernel
theorem d_0_press_6 : decode cX0_press 6 = .ok (.invokevirtual 56, 3) := by decide +kernel
theorem d_0_press_9 : decode cX0_press 9 = .ok (.invokevirtual 71, 3) := by decide +kernel
theorem d_0_press_12 : decode cX0_press 12 = .ok (.aload_n 0, 1) := by decide +kernel
theorem d_0_press_13 : decode cX0_press 13 = .ok (.getfield 20, 3) := by decide +kernel
theorem d_0_press_16 : decode cX0_press 16 = .ok (.iload_n 1, 1) := by decide +kernel
theorem d_0_press_17 : decode cX0_press 17 = .ok (.aload_n 2, 1) := by decide +kernel
theorem d_0_press_18 : decode cX0_press 18 = .ok (.invokevirtual 74, 3) := by decide +kernel
theorem d_0_press_21 : decode cX0_press 21 = .ok (.return_, 1) := by decide +kernel
theorem d_0_reverse_0 : decode cX0_reverse 0 = .ok (.aload_n 0, 1) := by decide +kernel
theorem d_0_reverse_1 : decode cX0_reverse 1 = .ok (.getfield 20, 3) := by decide +kernel
theorem d_0_reverse_4 : decode cX0_reverse 4 = .ok (.iload_n 1, 1) := by decide +kernel
theorem d_0_reverse_5 : decode cX0_reverse 5 = .ok (.aload_n 2, 1) := by decide +kernel
theorem d_0_reverse_6 : decode cX0_reverse 6 = .ok (.invokevirtual 44, 3) := by decide +kernel
theorem d_0_reverse_9 : decode cX0_reverse 9 = .ok (.ifCond .ne 5, 3) := by decide +kernel
theorem d_0_reverse_12 : decode cX0_reverse 12 = .ok (.iconst 0, 1) := by decide +kernel
theorem d_0_reverse_13 : decode cX0_reverse 13 = .ok (.ireturn, 1) := by decide +kernel
theorem d_0_reverse_14 : decode cX0_reverse 14 = .ok (.aload_n 2, 1) := by decide +kernel
theorem d_0_reverse_15 : decode cX0_reverse 15 = .ok (.aload_n 0, 1) := by decide +kernel
theorem d_0_reverse_16 : decode cX0_reverse 16 = .ok (.getfield 20, 3) := by decide +kernel
theorem d_0_reverse_19 : decode cX0_reverse 19 = .ok (.iload_n 1, 1) := by decide +kernel
theorem d_0_reverse_20 : decode cX0_reverse 20 = .ok (.invokevirtual 56, 3) := by decide +kernel
theorem d_0_reverse_23 : decode cX0_reverse 23 = .ok (.invokevirtual 71, 3) := by decide +kernel
theorem d_0_reverse_26 : decode cX0_reverse 26 = .ok (.aload_n 0, 1) := by decide +kernel
theorem d_0_reverse_27 : decode cX0_reverse 27 = .ok (.getfield 14, 3) := by decide +kernel
theorem d_0_reverse_30 : decode cX0_reverse 30 = .ok (.iload_n 1, 1) := by decide +kernel
theorem d_0_reverse_31 : decode cX0_reverse 31 = .ok (.aload_n 2, 1) := by decide +kernel
theorem d_0_reverse_32 : decode cX0_reverse 32 = .ok (.invokevirtual 74, 3) := by decide +kernel
theorem d_0_reverse_35 : decode cX0_reverse 35 = .ok (.aload_n 2, 1) := by decide +kernel
theorem d_0_reverse_36 : decode cX0_reverse 36 = .ok (.invokevirtual 51, 3) := by decide +kernel
theorem d_0_reverse_39 : decode cX0_reverse 39 = .ok (.iconst 1, 1) := by decide +kernel
theorem d_0_reverse_40 : decode cX0_reverse 40 = .ok (.if_icmp .lt 16, 3) := by decide +kernel
theorem d_0_reverse_43 : decode cX0_reverse 43 = .ok (.aload_n 2, 1) := by decide +kernel
theorem d_0_reverse_44 : decode cX0_reverse 44 = .ok (.invokevirtual 51, 3) := by decide +kernel
theorem d_0_reverse_47 : decode cX0_reverse 47 = .ok (.bipush 12, 2) := by decide +kernel
theorem d_0_reverse_49 : decode cX0_reverse 49 = .ok (.if_icmp .gt 7, 3) := by decide +kernel
theorem d_0_reverse_52 : decode cX0_reverse 52 = .ok (.iconst 1, 1) := by decide +kernel
theorem d_0_reverse_53 : decode cX0_reverse 53 = .ok (.goto 4, 3) := by decide +kernel
theorem d_0_reverse_56 : decode cX0_reverse 56 = .ok (.iconst 0, 1) := by decide +kernel
theorem d_0_reverse_57 : decode cX0_reverse 57 = .ok (.ireturn, 1) := by decide +kernel
theorem d_0_copyFrom_0 : decode cX0_copyFrom 0 = .ok (.aload_n 0, 1) := by decide +kernel
theorem d_0_copyFrom_1 : decode cX0_copyFrom 1 = .ok (.getfield 14, 3) := by decide +kernel
theorem d_0_copyFrom_4 : decode cX0_copyFrom 4 = .ok (.aload_n 1, 1) := by decide +kernel
theorem d_0_copyFrom_5 : decode cX0_copyFrom 5 = .ok (.getfield 14, 3) := by decide +kernel
theorem d_0_copyFrom_8 : decode cX0_copyFrom 8 = .ok (.invokevirtual 78, 3) := by decide +kernel
theorem d_0_copyFrom_11 : decode cX0_copyFrom 11 = .ok (.aload_n 0, 1) := by decide +kernel
theorem d_0_copyFrom_12 : decode cX0_copyFrom 12 = .ok (.getfield 20, 3) := by decide +kernel
theorem d_0_copyFrom_15 : decode cX0_copyFrom 15 = .ok (.aload_n 1, 1) := by decide +kernel
theorem d_0_copyFrom_16 : decode cX0_copyFrom 16 = .ok (.getfield 20, 3) := by decide +kernel
theorem d_0_copyFrom_19 : decode cX0_copyFrom 19 = .ok (.invokevirtual 78, 3) := by decide +kernel
theorem d_0_copyFrom_22 : decode cX0_copyFrom 22 = .ok (.aload_n 1, 1) := by decide +kernel
theorem d_0_copyFrom_23 : decode cX0_copyFrom 23 = .ok (.getfield 23, 3) := by decide +kernel
theorem d_0_copyFrom_26 : decode cX0_copyFrom 26 = .ok (.aload_n 0, 1) := by decide +kernel
theorem d_0_copyFrom_27 : decode cX0_copyFrom 27 = .ok (.getfield 23, 3) := by decide +kernel
theorem d_0_copyFrom_30 : decode cX0_copyFrom 30 = .ok (.invokestatic 82, 3) := by decide +kernel
theorem d_0_copyFrom_33 : decode cX0_copyFrom 33 = .ok (.return_, 1) := by decide +kernel
theorem d_1_init_0 : decode cX1_init 0 = .ok (.aload_n 0, 1) := by decide +kernel
theorem d_1_init_1 : decode cX1_init 1 = .ok (.invokespecial 3, 3) := by decide +kernel
theorem d_1_init_4 : decode cX1_init 4 = .ok (.return_, 1) := by decide +kernel
theorem d_1_start_0 : decode cX1_start 0 = .ok (.aload_n 0, 1) := by decide +kernel
theorem d_1_start_1 : decode cX1_start 1 = .ok (.iconst 0, 1) := by decide +kernel
theorem d_1_start_2 : decode cX1_start 2 = .ok (.putfield 11, 3) := by decide +kernel
theorem d_1_start_5 : decode cX1_start 5 = .ok (.aload_n 0, 1) := by decide +kernel
theorem d_1_start_6 : decode cX1_start 6 = .ok (.iconst 0, 1) := by decide +kernel
theorem d_1_start_7 : decode cX1_start 7 = .ok (.putfield 15, 3) := by decide +kernel
theorem d_1_start_10 : decode cX1_start 10 = .ok (.return_, 1) := by decide +kernel
theorem d_1_take_0 : decode cX1_take 0 = .ok (.iload_n 1, 1) := by decide +kernel
theorem d_1_take_1 : decode cX1_take 1 = .ok (.invokestatic 18, 3) := by decide +kernel
theorem d_1_take_4 : decode cX1_take 4 = .ok (.ifCond .eq 8, 3) := by decide +kernel
theorem d_1_take_7 : decode cX1_take 7 = .ok (.aload_n 0, 1) := by decide +kernel
theorem d_1_take_8 : decode cX1_take 8 = .ok (.invokevirtual 22, 3) := by decide +kernel
theorem d_1_take_11 : decode cX1_take 11 = .ok (.ireturn, 1) := by decide +kernel
theorem d_1_take_12 : decode cX1_take 12 = .ok (.aload_n 0, 1) := by decide +kernel
theorem d_1_take_13 : decode cX1_take 13 = .ok (.iload_n 1, 1) := by decide +kernel
theorem d_1_take_14 : decode cX1_take 14 = .ok (.invokevirtual 26, 3) := by decide +kernel
theorem d_1_take_17 : decode cX1_take 17 = .ok (.istore_n 2, 1) := by decide +kernel
theorem d_1_take_18 : decode cX1_take 18 = .ok (.iload_n 2, 1) := by decide +kernel
theorem d_1_take_19 : decode cX1_take 19 = .ok (.iconst (-1), 1) := by decide +kernel
theorem d_1_take_20 : decode cX1_take 20 = .ok (.if_icmp .ne 5, 3) := by decide +kernel
theorem d_1_take_23 : decode cX1_take 23 = .ok (.iconst 0, 1) := by decide +kernel
theorem d_1_take_24 : decode cX1_take 24 = .ok (.ireturn, 1) := by decide +kernel
theorem d_1_take_25 : decode cX1_take 25 = .ok (.aload_n 0, 1) := by decide +kernel
theorem d_1_take_26 : decode cX1_take 26 = .ok (.iload_n 2, 1) := by decide +kernel
theorem d_1_take_27 : decode cX1_take 27 = .ok (.putfield 11, 3) := by decide +kernel
theorem d_1_take_30 : decode cX1_take 30 = .ok (.aload_n 0, 1) := by decide +kernel
theorem d_1_take_31 : decode cX1_take 31 = .ok (.iconst 0, 1) := by decide +kernel
theorem d_1_take_32 : decode cX1_take 32 = .ok (.putfield 15, 3) := by decide +kernel
theorem d_1_take_35 : decode cX1_take 35 = .ok (.iconst 1, 1) := by decide +kernel
theorem d_1_take_36 : decode cX1_take 36 = .ok (.ireturn, 1) := by decide +kernel
theorem d_1_mayEnd_0 : decode cX1_mayEnd 0 = .ok (.aload_n 0, 1) := by decide +kernel
theorem d_1_mayEnd_1 : decode cX1_mayEnd 1 = .ok (.getfield 11, 3) := by decide +kernel
theorem d_1_mayEnd_4 : decode cX1_mayEnd 4 = .ok (.iconst 1, 1) := by decide +kernel
theorem d_1_mayEnd_5 : decode cX1_mayEnd 5 = .ok (.if_icmp .eq 26, 3) := by decide +kernel
theorem d_1_mayEnd_8 : decode cX1_mayEnd 8 = .ok (.aload_n 0, 1) := by decide +kernel
theorem d_1_mayEnd_9 : decode cX1_mayEnd 9 = .ok (.getfield 11, 3) := by decide +kernel
theorem d_1_mayEnd_12 : decode cX1_mayEnd 12 = .ok (.iconst 2, 1) := by decide +kernel
theorem d_1_mayEnd_13 : decode cX1_mayEnd 13 = .ok (.if_icmp .eq 11, 3) := by decide +kernel
theorem d_1_mayEnd_16 : decode cX1_mayEnd 16 = .ok (.aload_n 0, 1) := by decide +kernel
theorem d_1_mayEnd_17 : decode cX1_mayEnd 17 = .ok (.getfield 11, 3) := by decide +kernel
theorem d_1_mayEnd_20 : decode cX1_mayEnd 20 = .ok (.iconst 5, 1) := by decide +kernel
theorem d_1_mayEnd_21 : decode cX1_mayEnd 21 = .ok (.if_icmp .ne 14, 3) := by decide +kernel
theorem d_1_mayEnd_24 : decode cX1_mayEnd 24 = .ok (.aload_n 0, 1) := by decide +kernel
theorem d_1_mayEnd_25 : decode cX1_mayEnd 25 = .ok (.getfield 15, 3) := by decide +kernel
theorem d_1_mayEnd_28 : decode cX1_mayEnd 28 = .ok (.ifCond .le 7, 3) := by decide +kernel
theorem d_1_mayEnd_31 : decode cX1_mayEnd 31 = .ok (.iconst 1, 1) := by decide +kernel
theorem d_1_mayEnd_32 : decode cX1_mayEnd 32 = .ok (.goto 4, 3) := by decide +kernel
theorem d_1_mayEnd_35 : decode cX1_mayEnd 35 = .ok (.iconst 0, 1) := by decide +kernel
theorem d_1_mayEnd_36 : decode cX1_mayEnd 36 = .ok (.ireturn, 1) := by decide +kernel
theorem d_1_takeLetter_0 : decode cX1_takeLetter 0 = .ok (.aload_n 0, 1) := by decide +kernel
theorem d_1_takeLetter_1 : decode cX1_takeLetter 1 = .ok (.getfield 11, 3) := by decide +kernel
theorem d_1_takeLetter_4 : decode cX1_takeLetter 4 = .ok (.ifCond .ne 11, 3) := by decide +kernel
theorem d_1_takeLetter_7 : decode cX1_takeLetter 7 = .ok (.aload_n 0, 1) := by decide +kernel
theorem d_1_takeLetter_8 : decode cX1_takeLetter 8 = .ok (.iconst 1, 1) := by decide +kernel
theorem d_1_takeLetter_9 : decode cX1_takeLetter 9 = .ok (.putfield 11, 3) := by decide +kernel
theorem d_1_takeLetter_12 : decode cX1_takeLetter 12 = .ok (.goto 16, 3) := by decide +kernel
theorem d_1_takeLetter_15 : decode cX1_takeLetter 15 = .ok (.aload_n 0, 1) := by decide +kernel
theorem d_1_takeLetter_16 : decode cX1_takeLetter 16 = .ok (.getfield 11, 3) := by decide +kernel
theorem d_1_takeLetter_19 : decode cX1_takeLetter 19 = .ok (.iconst 3, 1) := by decide +kernel
theorem d_1_takeLetter_20 : decode cX1_takeLetter 20 = .ok (.if_icmp .ne 8, 3) := by decide +kernel
theorem d_1_takeLetter_23 : decode cX1_takeLetter 23 = .ok (.aload_n 0, 1) := by decide +kernel
theorem d_1_takeLetter_24 : decode cX1_takeLetter 24 = .ok (.iconst 4, 1) := by decide +kernel
theorem d_1_takeLetter_25 : decode cX1_takeLetter 25 = .ok (.putfield 11, 3) := by decide +kernel
theorem d_1_takeLetter_28 : decode cX1_takeLetter 28 = .ok (.aload_n 0, 1) := by decide +kernel
theorem d_1_takeLetter_29 : decode cX1_takeLetter 29 = .ok (.dup, 1) := by decide +kernel
theorem d_1_takeLetter_30 : decode cX1_takeLetter 30 = .ok (.getfield 15, 3) := by decide +kernel
theorem d_1_takeLetter_33 : decode cX1_takeLetter 33 = .ok (.iconst 1, 1) := by decide +kernel
theorem d_1_takeLetter_34 : decode cX1_takeLetter 34 = .ok (.iadd, 1) := by decide +kernel
theorem d_1_takeLetter_35 : decode cX1_takeLetter 35 = .ok (.putfield 15, 3) := by decide +kernel
theorem d_1_takeLetter_38 : decode cX1_takeLetter 38 = .ok (.aload_n 0, 1) := by decide +kernel
theorem d_1_takeLetter_39 : decode cX1_takeLetter 39 = .ok (.getfield 15, 3) := by decide +kernel
theorem d_1_takeLetter_42 : decode cX1_takeLetter 42 = .ok (.aload_n 0, 1) := by decide +kernel
theorem d_1_takeLetter_43 : decode cX1_takeLetter 43 = .ok (.getfield 11, 3) := by decide +kernel
theorem d_1_takeLetter_46 : decode cX1_takeLetter 46 = .ok (.iconst 1, 1) := by decide +kernel
theorem d_1_takeLetter_47 : decode cX1_takeLetter 47 = .ok (.if_icmp .eq 11, 3) := by decide +kernel
theorem d_1_takeLetter_50 : decode cX1_takeLetter 50 = .ok (.aload_n 0, 1) := by decide +kernel
theorem d_1_takeLetter_51 : decode cX1_takeLetter 51 = .ok (.getfield 11, 3) := by decide +kernel
theorem d_1_takeLetter_54 : decode cX1_takeLetter 54 = .ok (.iconst 2, 1) := by decide +kernel
theorem d_1_takeLetter_55 : decode cX1_takeLetter 55 = .ok (.if_icmp .ne 8, 3) := by decide +kernel
theorem d_1_takeLetter_58 : decode cX1_takeLetter 58 = .ok (.bipush 12, 2) := by decide +kernel
theorem d_1_takeLetter_60 : decode cX1_takeLetter 60 = .ok (.goto 4, 3) := by decide +kernel
theorem d_1_takeLetter_63 : decode cX1_takeLetter 63 = .ok (.iconst 4, 1) := by decide +kernel
theorem d_1_takeLetter_64 : decode cX1_takeLetter 64 = .ok (.if_icmp .gt 7, 3) := by decide +kernel
theorem d_1_takeLetter_67 : decode cX1_takeLetter 67 = .ok (.iconst 1, 1) := by decide +kernel
theorem d_1_takeLetter_68 : decode cX1_takeLetter 68 = .ok (.goto 4, 3) := by decide +kernel
theorem d_1_takeLetter_71 : decode cX1_takeLetter 71 = .ok (.iconst 0, 1) := by decide +kernel
theorem d_1_takeLetter_72 : decode cX1_takeLetter 72 = .ok (.ireturn, 1) := by decide +kernel
theorem d_1_partAfter_0 : decode cX1_partAfter 0 = .ok (.iload_n 1, 1) := by decide +kernel
theorem d_1_partAfter_1 : decode cX1_partAfter 1 = .ok (.bipush 59, 2) := by decide +kernel
theorem d_1_partAfter_3 : decode cX1_partAfter 3 = .ok (.if_icmp .ne 16, 3) := by decide +kernel
theorem d_1_partAfter_6 : decode cX1_partAfter 6 = .ok (.aload_n 0, 1) := by decide +kernel
theorem d_1_partAfter_7 : decode cX1_partAfter 7 = .ok (.invokevirtual 30, 3) := by decide +kernel
theorem d_1_partAfter_10 : decode cX1_partAfter 10 = .ok (.ifCond .eq 7, 3) := by decide +kernel
theorem d_1_partAfter_13 : decode cX1_partAfter 13 = .ok (.iconst 0, 1) := by decide +kernel
theorem d_1_partAfter_14 : decode cX1_partAfter 14 = .ok (.goto 4, 3) := by decide +kernel
theorem d_1_partAfter_17 : decode cX1_partAfter 17 = .ok (.iconst (-1), 1) := by decide +kernel
theorem d_1_partAfter_18 : decode cX1_partAfter 18 = .ok (.ireturn, 1) := by decide +kernel
theorem d_1_partAfter_19 : decode cX1_partAfter 19 = .ok (.iload_n 1, 1) := by decide +kernel
theorem d_1_partAfter_20 : decode cX1_partAfter 20 = .ok (.bipush 61, 2) := by decide +kernel
theorem d_1_partAfter_22 : decode cX1_partAfter 22 = .ok (.if_icmp .ne 17, 3) := by decide +kernel
theorem d_1_partAfter_25 : decode cX1_partAfter 25 = .ok (.aload_n 0, 1) := by decide +kernel
theorem d_1_partAfter_26 : decode cX1_partAfter 26 = .ok (.getfield 11, 3) := by decide +kernel
theorem d_1_partAfter_29 : decode cX1_partAfter 29 = .ok (.iconst 1, 1) := by decide +kernel
theorem d_1_partAfter_30 : decode cX1_partAfter 30 = .ok (.if_icmp .ne 7, 3) := by decide +kernel
theorem d_1_partAfter_33 : decode cX1_partAfter 33 = .ok (.iconst 2, 1) := by decide +kernel
theorem d_1_partAfter_34 : decode cX1_partAfter 34 = .ok (.goto 4, 3) := by decide +kernel
theorem d_1_partAfter_37 : decode cX1_partAfter 37 = .ok (.iconst (-1), 1) := by decide +kernel
theorem d_1_partAfter_38 : decode cX1_partAfter 38 = .ok (.ireturn, 1) := by decide +kernel
theorem d_1_partAfter_39 : decode cX1_partAfter 39 = .ok (.iload_n 1, 1) := by decide +kernel
theorem d_1_partAfter_40 : decode cX1_partAfter 40 = .ok (.bipush 42, 2) := by decide +kernel
theorem d_1_partAfter_42 : decode cX1_partAfter 42 = .ok (.if_icmp .ne 16, 3) := by decide +kernel
theorem d_1_partAfter_45 : decode cX1_partAfter 45 = .ok (.aload_n 0, 1) := by decide +kernel
theorem d_1_partAfter_46 : decode cX1_partAfter 46 = .ok (.getfield 11, 3) := by decide +kernel
theorem d_1_partAfter_49 : decode cX1_partAfter 49 = .ok (.ifCond .ne 7, 3) := by decide +kernel
theorem d_1_partAfter_52 : decode cX1_partAfter 52 = .ok (.iconst 3, 1) := by decide +kernel
theorem d_1_partAfter_53 : decode cX1_partAfter 53 = .ok (.goto 4, 3) := by decide +kernel
theorem d_1_partAfter_56 : decode cX1_partAfter 56 = .ok (.iconst (-1), 1) := by decide +kernel
theorem d_1_partAfter_57 : decode cX1_partAfter 57 = .ok (.ireturn, 1) := by decide +kernel
theorem d_1_partAfter_58 : decode cX1_partAfter 58 = .ok (.iload_n 1, 1) := by decide +kernel
theorem d_1_partAfter_59 : decode cX1_partAfter 59 = .ok (.bipush 33, 2) := by decide +kernel
theorem d_1_partAfter_61 : decode cX1_partAfter 61 = .ok (.if_icmp .eq 9, 3) := by decide +kernel
theorem d_1_partAfter_64 : decode cX1_partAfter 64 = .ok (.iload_n 1, 1) := by decide +kernel
theorem d_1_partAfter_65 : decode cX1_partAfter 65 = .ok (.bipush 63, 2) := by decide +kernel
theorem d_1_partAfter_67 : decode cX1_partAfter 67 = .ok (.if_icmp .ne 17, 3) := by decide +kernel
theorem d_1_partAfter_70 : decode cX1_partAfter 70 = .ok (.aload_n 0, 1) := by decide +kernel
theorem d_1_partAfter_71 : decode cX1_partAfter 71 = .ok (.getfield 11, 3) := by decide +kernel
theorem d_1_partAfter_74 : decode cX1_partAfter 74 = .ok (.iconst 3, 1) := by decide +kernel
theorem d_1_partAfter_75 : decode cX1_partAfter 75 = .ok (.if_icmp .ne 7, 3) := by decide +kernel
theorem d_1_partAfter_78 : decode cX1_partAfter 78 = .ok (.iconst 4, 1) := by decide +kernel
theorem d_1_partAfter_79 : decode cX1_partAfter 79 = .ok (.goto 4, 3) := by decide +kernel
theorem d_1_partAfter_82 : decode cX1_partAfter 82 = .ok (.iconst (-1), 1) := by decide +kernel
theorem d_1_partAfter_83 : decode cX1_partAfter 83 = .ok (.ireturn, 1) := by decide +kernel
theorem d_1_partAfter_84 : decode cX1_partAfter 84 = .ok (.iload_n 1, 1) := by decide +kernel
theorem d_1_partAfter_85 : decode cX1_partAfter 85 = .ok (.bipush 62, 2) := by decide +kernel
theorem d_1_partAfter_87 : decode cX1_partAfter 87 = .ok (.if_icmp .ne 25, 3) := by decide +kernel
theorem d_1_partAfter_90 : decode cX1_partAfter 90 = .ok (.aload_n 0, 1) := by decide +kernel
theorem d_1_partAfter_91 : decode cX1_partAfter 91 = .ok (.getfield 11, 3) := by decide +kernel
theorem d_1_partAfter_94 : decode cX1_partAfter 94 = .ok (.iconst 3, 1) := by decide +kernel
theorem d_1_partAfter_95 : decode cX1_partAfter 95 = .ok (.if_icmp .eq 11, 3) := by decide +kernel
theorem d_1_partAfter_98 : decode cX1_partAfter 98 = .ok (.aload_n 0, 1) := by decide +kernel
theorem d_1_partAfter_99 : decode cX1_partAfter 99 = .ok (.getfield 11, 3) := by decide +kernel
theorem d_1_partAfter_102 : decode cX1_partAfter 102 = .ok (.iconst 4, 1) := by decide +kernel
theorem d_1_partAfter_103 : decode cX1_partAfter 103 = .ok (.if_icmp .ne 7, 3) := by decide +kernel
theorem d_1_partAfter_106 : decode cX1_partAfter 106 = .ok (.iconst 5, 1) := by decide +kernel
theorem d_1_partAfter_107 : decode cX1_partAfter 107 = .ok (.goto 4, 3) := by decide +kernel
theorem d_1_partAfter_110 : decode cX1_partAfter 110 = .ok (.iconst (-1), 1) := by decide +kernel
theorem d_1_partAfter_111 : decode cX1_partAfter 111 = .ok (.ireturn, 1) := by decide +kernel
theorem d_1_partAfter_112 : decode cX1_partAfter 112 = .ok (.iconst (-1), 1) := by decide +kernel
theorem d_1_partAfter_113 : decode cX1_partAfter 113 = .ok (.ireturn, 1) := by decide +kernel
theorem d_2_init_0 : decode cX2_init 0 = .ok (.aload_n 0, 1) := by decide +kernel
theorem d_2_init_1 : decode cX2_init 1 = .ok (.invokespecial 3, 3) := by decide +kernel
theorem d_2_init_4 : decode cX2_init 4 = .ok (.aload_n 0, 1) := by decide +kernel
theorem d_2_init_5 : decode cX2_init 5 = .ok (.new 9, 3) := by decide +kernel
theorem d_2_init_8 : decode cX2_init 8 = .ok (.dup, 1) := by decide +kernel
theorem d_2_init_9 : decode cX2_init 9 = .ok (.bipush 30, 2) := by decide +kernel
theorem d_2_init_11 : decode cX2_init 11 = .ok (.bipush 16, 2) := by decide +kernel
theorem d_2_init_13 : decode cX2_init 13 = .ok (.invokespecial 11, 3) := by decide +kernel
theorem d_2_init_16 : decode cX2_init 16 = .ok (.putfield 14, 3) := by decide +kernel
theorem d_2_init_19 : decode cX2_init 19 = .ok (.aload_n 0, 1) := by decide +kernel
theorem d_2_init_20 : decode cX2_init 20 = .ok (.bipush 30, 2) := by decide +kernel
theorem d_2_init_22 : decode cX2_init 22 = .ok (.newarray .int, 2) := by decide +kernel
theorem d_2_init_24 : decode cX2_init 24 = .ok (.putfield 20, 3) := by decide +kernel
theorem d_2_init_27 : decode cX2_init 27 = .ok (.aload_n 0, 1) := by decide +kernel
theorem d_2_init_28 : decode cX2_init 28 = .ok (.bipush 30, 2) := by decide +kernel
theorem d_2_init_30 : decode cX2_init 30 = .ok (.newarray .int, 2) := by decide +kernel
theorem d_2_init_32 : decode cX2_init 32 = .ok (.putfield 24, 3) := by decide +kernel
theorem d_2_init_35 : decode cX2_init 35 = .ok (.return_, 1) := by decide +kernel
theorem d_2_count_0 : decode cX2_count 0 = .ok (.aload_n 0, 1) := by decide +kernel
theorem d_2_count_1 : decode cX2_count 1 = .ok (.getfield 14, 3) := by decide +kernel
theorem d_2_count_4 : decode cX2_count 4 = .ok (.invokevirtual 27, 3) := by decide +kernel
theorem d_2_count_7 : decode cX2_count 7 = .ok (.ireturn, 1) := by decide +kernel
theorem d_2_isFull_0 : decode cX2_isFull 0 = .ok (.aload_n 0, 1) := by decide +kernel
theorem d_2_isFull_1 : decode cX2_isFull 1 = .ok (.getfield 14, 3) := by decide +kernel
theorem d_2_isFull_4 : decode cX2_isFull 4 = .ok (.invokevirtual 31, 3) := by decide +kernel
theorem d_2_isFull_7 : decode cX2_isFull 7 = .ok (.ireturn, 1) := by decide +kernel
theorem d_2_ownerOf_0 : decode cX2_ownerOf 0 = .ok (.iload_n 1, 1) := by decide +kernel
theorem d_2_ownerOf_1 : decode cX2_ownerOf 1 = .ok (.ifCond .lt 21, 3) := by decide +kernel
theorem d_2_ownerOf_4 : decode cX2_ownerOf 4 = .ok (.iload_n 1, 1) := by decide +kernel
theorem d_2_ownerOf_5 : decode cX2_ownerOf 5 = .ok (.aload_n 0, 1) := by decide +kernel
theorem d_2_ownerOf_6 : decode cX2_ownerOf 6 = .ok (.getfield 20, 3) := by decide +kernel
theorem d_2_ownerOf_9 : decode cX2_ownerOf 9 = .ok (.arraylength, 1) := by decide +kernel
theorem d_2_ownerOf_10 : decode cX2_ownerOf 10 = .ok (.if_icmp .ge 12, 3) := by decide +kernel
theorem d_2_ownerOf_13 : decode cX2_ownerOf 13 = .ok (.aload_n 0, 1) := by decide +kernel
theorem d_2_ownerOf_14 : decode cX2_ownerOf 14 = .ok (.getfield 20, 3) := by decide +kernel
theorem d_2_ownerOf_17 : decode cX2_ownerOf 17 = .ok (.iload_n 1, 1) := by decide +kernel
theorem d_2_ownerOf_18 : decode cX2_ownerOf 18 = .ok (.iaload, 1) := by decide +kernel
theorem d_2_ownerOf_19 : decode cX2_ownerOf 19 = .ok (.goto 4, 3) := by decide +kernel
theorem d_2_ownerOf_22 : decode cX2_ownerOf 22 = .ok (.iconst (-1), 1) := by decide +kernel
theorem d_2_ownerOf_23 : decode cX2_ownerOf 23 = .ok (.ireturn, 1) := by decide +kernel
theorem d_2_coinsIn_0 : decode cX2_coinsIn 0 = .ok (.iload_n 1, 1) := by decide +kernel
theorem d_2_coinsIn_1 : decode cX2_coinsIn 1 = .ok (.ifCond .lt 21, 3) := by decide +kernel
theorem d_2_coinsIn_4 : decode cX2_coinsIn 4 = .ok (.iload_n 1, 1) := by decide +kernel
theorem d_2_coinsIn_5 : decode cX2_coinsIn 5 = .ok (.aload_n 0, 1) := by decide +kernel
theorem d_2_coinsIn_6 : decode cX2_coinsIn 6 = .ok (.getfield 24, 3) := by decide +kernel
theorem d_2_coinsIn_9 : decode cX2_coinsIn 9 = .ok (.arraylength, 1) := by decide +kernel
theorem d_2_coinsIn_10 : decode cX2_coinsIn 10 = .ok (.if_icmp .ge 12, 3) := by decide +kernel
theorem d_2_coinsIn_13 : decode cX2_coinsIn 13 = .ok (.aload_n 0, 1) := by decide +kernel
theorem d_2_coinsIn_14 : decode cX2_coinsIn 14 = .ok (.getfield 24, 3) := by decide +kernel
theorem d_2_coinsIn_17 : decode cX2_coinsIn 17 = .ok (.iload_n 1, 1) := by decide +kernel
theorem d_2_coinsIn_18 : decode cX2_coinsIn 18 = .ok (.iaload, 1) := by decide +kernel
theorem d_2_coinsIn_19 : decode cX2_coinsIn 19 = .ok (.goto 4, 3) := by decide +kernel
theorem d_2_coinsIn_22 : decode cX2_coinsIn 22 = .ok (.iconst 0, 1) := by decide +kernel
theorem d_2_coinsIn_23 : decode cX2_coinsIn 23 = .ok (.ireturn, 1) := by decide +kernel
theorem d_2_bears_0 : decode cX2_bears 0 = .ok (.aload_n 0, 1) := by decide +kernel
theorem d_2_bears_1 : decode cX2_bears 1 = .ok (.getfield 14, 3) := by decide +kernel
theorem d_2_bears_4 : decode cX2_bears 4 = .ok (.iload_n 1, 1) := by decide +kernel
theorem d_2_bears_5 : decode cX2_bears 5 = .ok (.aload_n 2, 1) := by decide +kernel
theorem d_2_bears_6 : decode cX2_bears 6 = .ok (.invokevirtual 35, 3) := by decide +kernel
theorem d_2_bears_9 : decode cX2_bears 9 = .ok (.ireturn, 1) := by decide +kernel
theorem d_2_find_0 : decode cX2_find 0 = .ok (.iconst 0, 1) := by decide +kernel
theorem d_2_find_1 : decode cX2_find 1 = .ok (.istore_n 3, 1) := by decide +kernel
theorem d_2_find_2 : decode cX2_find 2 = .ok (.iload_n 3, 1) := by decide +kernel
theorem d_2_find_3 : decode cX2_find 3 = .ok (.aload_n 0, 1) := by decide +kernel
theorem d_2_find_4 : decode cX2_find 4 = .ok (.invokevirtual 39, 3) := by decide +kernel
theorem d_2_find_7 : decode cX2_find 7 = .ok (.if_icmp .ge 29, 3) := by decide +kernel
theorem d_2_find_10 : decode cX2_find 10 = .ok (.aload_n 0, 1) := by decide +kernel
theorem d_2_find_11 : decode cX2_find 11 = .ok (.iload_n 3, 1) := by decide +kernel
theorem d_2_find_12 : decode cX2_find 12 = .ok (.invokevirtual 40, 3) := by decide +kernel
theorem d_2_find_15 : decode cX2_find 15 = .ok (.iload_n 1, 1) := by decide +kernel
theorem d_2_find_16 : decode cX2_find 16 = .ok (.if_icmp .ne 14, 3) := by decide +kernel
theorem d_2_find_19 : decode cX2_find 19 = .ok (.aload_n 0, 1) := by decide +kernel
theorem d_2_find_20 : decode cX2_find 20 = .ok (.iload_n 3, 1) := by decide +kernel
theorem d_2_find_21 : decode cX2_find 21 = .ok (.aload_n 2, 1) := by decide +kernel
theorem d_2_find_22 : decode cX2_find 22 = .ok (.invokevirtual 44, 3) := by decide +kernel
theorem d_2_find_25 : decode cX2_find 25 = .ok (.ifCond .eq 5, 3) := by decide +kernel
theorem d_2_find_28 : decode cX2_find 28 = .ok (.iload_n 3, 1) := by decide +kernel
theorem d_2_find_29 : decode cX2_find 29 = .ok (.ireturn, 1) := by decide +kernel
theorem d_2_find_30 : decode cX2_find 30 = .ok (.iinc 3 1, 3) := by decide +kernel
theorem d_2_find_33 : decode cX2_find 33 = .ok (.goto (-31), 3) := by decide +kernel
theorem d_2_find_36 : decode cX2_find 36 = .ok (.iconst (-1), 1) := by decide +kernel
theorem d_2_find_37 : decode cX2_find 37 = .ok (.ireturn, 1) := by decide +kernel
theorem d_2_coinsWith_0 : decode cX2_coinsWith 0 = .ok (.iconst 0, 1) := by decide +kernel
theorem d_2_coinsWith_1 : decode cX2_coinsWith 1 = .ok (.istore_n 2, 1) := by decide +kernel
theorem d_2_coinsWith_2 : decode cX2_coinsWith 2 = .ok (.iconst 0, 1) := by decide +kernel
theorem d_2_coinsWith_3 : decode cX2_coinsWith 3 = .ok (.istore_n 3, 1) := by decide +kernel
theorem d_2_coinsWith_4 : decode cX2_coinsWith 4 = .ok (.iload_n 3, 1) := by decide +kernel
theorem d_2_coinsWith_5 : decode cX2_coinsWith 5 = .ok (.aload_n 0, 1) := by decide +kernel
theorem d_2_coinsWith_6 : decode cX2_coinsWith 6 = .ok (.invokevirtual 39, 3) := by decide +kernel
theorem d_2_coinsWith_9 : decode cX2_coinsWith 9 = .ok (.if_icmp .ge 26, 3) := by decide +kernel
theorem d_2_coinsWith_12 : decode cX2_coinsWith 12 = .ok (.aload_n 0, 1) := by decide +kernel
theorem d_2_coinsWith_13 : decode cX2_coinsWith 13 = .ok (.iload_n 3, 1) := by decide +kernel
theorem d_2_coinsWith_14 : decode cX2_coinsWith 14 = .ok (.invokevirtual 40, 3) := by decide +kernel
theorem d_2_coinsWith_17 : decode cX2_coinsWith 17 = .ok (.iload_n 1, 1) := by decide +kernel
theorem d_2_coinsWith_18 : decode cX2_coinsWith 18 = .ok (.if_icmp .ne 11, 3) := by decide +kernel
theorem d_2_coinsWith_21 : decode cX2_coinsWith 21 = .ok (.iload_n 2, 1) := by decide +kernel
theorem d_2_coinsWith_22 : decode cX2_coinsWith 22 = .ok (.aload_n 0, 1) := by decide +kernel
theorem d_2_coinsWith_23 : decode cX2_coinsWith 23 = .ok (.iload_n 3, 1) := by decide +kernel
theorem d_2_coinsWith_24 : decode cX2_coinsWith 24 = .ok (.invokevirtual 47, 3) := by decide +kernel
theorem d_2_coinsWith_27 : decode cX2_coinsWith 27 = .ok (.iadd, 1) := by decide +kernel
theorem d_2_coinsWith_28 : decode cX2_coinsWith 28 = .ok (.istore_n 2, 1) := by decide +kernel
theorem d_2_coinsWith_29 : decode cX2_coinsWith 29 = .ok (.iinc 3 1, 3) := by decide +kernel
theorem d_2_coinsWith_32 : decode cX2_coinsWith 32 = .ok (.goto (-28), 3) := by decide +kernel
theorem d_2_coinsWith_35 : decode cX2_coinsWith 35 = .ok (.iload_n 2, 1) := by decide +kernel
theorem d_2_coinsWith_36 : decode cX2_coinsWith 36 = .ok (.ireturn, 1) := by decide +kernel
theorem d_2_open_0 : decode cX2_open 0 = .ok (.aload_n 0, 1) := by decide +kernel
theorem d_2_open_1 : decode cX2_open 1 = .ok (.invokevirtual 39, 3) := by decide +kernel
theorem d_2_open_4 : decode cX2_open 4 = .ok (.istore 4, 2) := by decide +kernel
theorem d_2_open_6 : decode cX2_open 6 = .ok (.iload 4, 2) := by decide +kernel
theorem d_2_open_8 : decode cX2_open 8 = .ok (.ifCond .lt 48, 3) := by decide +kernel
theorem d_2_open_11 : decode cX2_open 11 = .ok (.iload 4, 2) := by decide +kernel
theorem d_2_open_13 : decode cX2_open 13 = .ok (.aload_n 0, 1) := by decide +kernel
theorem d_2_open_14 : decode cX2_open 14 = .ok (.getfield 20, 3) := by decide +kernel
theorem d_2_open_17 : decode cX2_open 17 = .ok (.arraylength, 1) := by decide +kernel
theorem d_2_open_18 : decode cX2_open 18 = .ok (.if_icmp .ge 38, 3) := by decide +kernel
theorem d_2_open_21 : decode cX2_open 21 = .ok (.iload 4, 2) := by decide +kernel
theorem d_2_open_23 : decode cX2_open 23 = .ok (.aload_n 0, 1) := by decide +kernel
theorem d_2_open_24 : decode cX2_open 24 = .ok (.getfield 24, 3) := by decide +kernel
theorem d_2_open_27 : decode cX2_open 27 = .ok (.arraylength, 1) := by decide +kernel
theorem d_2_open_28 : decode cX2_open 28 = .ok (.if_icmp .ge 28, 3) := by decide +kernel
theorem d_2_open_31 : decode cX2_open 31 = .ok (.aload_n 0, 1) := by decide +kernel
theorem d_2_open_32 : decode cX2_open 32 = .ok (.getfield 14, 3) := by decide +kernel
theorem d_2_open_35 : decode cX2_open 35 = .ok (.aload_n 2, 1) := by decide +kernel
theorem d_2_open_36 : decode cX2_open 36 = .ok (.invokevirtual 50, 3) := by decide +kernel
theorem d_2_open_39 : decode cX2_open 39 = .ok (.pop, 1) := by decide +kernel
theorem d_2_open_40 : decode cX2_open 40 = .ok (.aload_n 0, 1) := by decide +kernel
theorem d_2_open_41 : decode cX2_open 41 = .ok (.getfield 20, 3) := by decide +kernel
theorem d_2_open_44 : decode cX2_open 44 = .ok (.iload 4, 2) := by decide +kernel
theorem d_2_open_46 : decode cX2_open 46 = .ok (.iload_n 1, 1) := by decide +kernel
theorem d_2_open_47 : decode cX2_open 47 = .ok (.iastore, 1) := by decide +kernel
theorem d_2_open_48 : decode cX2_open 48 = .ok (.aload_n 0, 1) := by decide +kernel
theorem d_2_open_49 : decode cX2_open 49 = .ok (.getfield 24, 3) := by decide +kernel
theorem d_2_open_52 : decode cX2_open 52 = .ok (.iload 4, 2) := by decide +kernel
theorem d_2_open_54 : decode cX2_open 54 = .ok (.iload_n 3, 1) := by decide +kernel
theorem d_2_open_55 : decode cX2_open 55 = .ok (.iastore, 1) := by decide +kernel
theorem d_2_open_56 : decode cX2_open 56 = .ok (.return_, 1) := by decide +kernel
theorem d_2_enlarge_0 : decode cX2_enlarge 0 = .ok (.iload_n 1, 1) := by decide +kernel
theorem d_2_enlarge_1 : decode cX2_enlarge 1 = .ok (.ifCond .lt 22, 3) := by decide +kernel
theorem d_2_enlarge_4 : decode cX2_enlarge 4 = .ok (.iload_n 1, 1) := by decide +kernel
theorem d_2_enlarge_5 : decode cX2_enlarge 5 = .ok (.aload_n 0, 1) := by decide +kernel
theorem d_2_enlarge_6 : decode cX2_enlarge 6 = .ok (.getfield 24, 3) := by decide +kernel
theorem d_2_enlarge_9 : decode cX2_enlarge 9 = .ok (.arraylength, 1) := by decide +kernel
theorem d_2_enlarge_10 : decode cX2_enlarge 10 = .ok (.if_icmp .ge 13, 3) := by decide +kernel
theorem d_2_enlarge_13 : decode cX2_enlarge 13 = .ok (.aload_n 0, 1) := by decide +kernel
theorem d_2_enlarge_14 : decode cX2_enlarge 14 = .ok (.getfield 24, 3) := by decide +kernel
theorem d_2_enlarge_17 : decode cX2_enlarge 17 = .ok (.iload_n 1, 1) := by decide +kernel
theorem d_2_enlarge_18 : decode cX2_enlarge 18 = .ok (.dup2, 1) := by decide +kernel
theorem d_2_enlarge_19 : decode cX2_enlarge 19 = .ok (.iaload, 1) := by decide +kernel
theorem d_2_enlarge_20 : decode cX2_enlarge 20 = .ok (.iload_n 2, 1) := by decide +kernel
theorem d_2_enlarge_21 : decode cX2_enlarge 21 = .ok (.iadd, 1) := by decide +kernel
theorem d_2_enlarge_22 : decode cX2_enlarge 22 = .ok (.iastore, 1) := by decide +kernel
theorem d_2_enlarge_23 : decode cX2_enlarge 23 = .ok (.return_, 1) := by decide +kernel
theorem d_2_empty_0 : decode cX2_empty 0 = .ok (.iload_n 1, 1) := by decide +kernel
theorem d_2_empty_1 : decode cX2_empty 1 = .ok (.ifCond .lt 19, 3) := by decide +kernel
theorem d_2_empty_4 : decode cX2_empty 4 = .ok (.iload_n 1, 1) := by decide +kernel
theorem d_2_empty_5 : decode cX2_empty 5 = .ok (.aload_n 0, 1) := by decide +kernel
theorem d_2_empty_6 : decode cX2_empty 6 = .ok (.getfield 24, 3) := by decide +kernel
theorem d_2_empty_9 : decode cX2_empty 9 = .ok (.arraylength, 1) := by decide +kernel
theorem d_2_empty_10 : decode cX2_empty 10 = .ok (.if_icmp .ge 10, 3) := by decide +kernel
theorem d_2_empty_13 : decode cX2_empty 13 = .ok (.aload_n 0, 1) := by decide +kernel
theorem d_2_empty_14 : decode cX2_empty 14 = .ok (.getfield 24, 3) := by decide +kernel
theorem d_2_empty_17 : decode cX2_empty 17 = .ok (.iload_n 1, 1) := by decide +kernel
theorem d_2_empty_18 : decode cX2_empty 18 = .ok (.iconst 0, 1) := by decide +kernel
theorem d_2_empty_19 : decode cX2_empty 19 = .ok (.iastore, 1) := by decide +kernel
theorem d_2_empty_20 : decode cX2_empty 20 = .ok (.return_, 1) := by decide +kernel
theorem d_2_takeOldest_0 : decode cX2_takeOldest 0 = .ok (.iload_n 2, 1) := by decide +kernel
theorem d_2_takeOldest_1 : decode cX2_takeOldest 1 = .ok (.istore_n 3, 1) := by decide +kernel
theorem d_2_takeOldest_2 : decode cX2_takeOldest 2 = .ok (.iconst 0, 1) := by decide +kernel
theorem d_2_takeOldest_3 : decode cX2_takeOldest 3 = .ok (.istore 4, 2) := by decide +kernel
theorem d_2_takeOldest_5 : decode cX2_takeOldest 5 = .ok (.iload 4, 2) := by decide +kernel
theorem d_2_takeOldest_7 : decode cX2_takeOldest 7 = .ok (.aload_n 0, 1) := by decide +kernel
theorem d_2_takeOldest_8 : decode cX2_takeOldest 8 = .ok (.invokevirtual 39, 3) := by decide +kernel
theorem d_2_takeOldest_11 : decode cX2_takeOldest 11 = .ok (.if_icmp .ge 45, 3) := by decide +kernel
theorem d_2_takeOldest_14 : decode cX2_takeOldest 14 = .ok (.aload_n 0, 1) := by decide +kernel
theorem d_2_takeOldest_15 : decode cX2_takeOldest 15 = .ok (.iload 4, 2) := by decide +kernel
theorem d_2_takeOldest_17 : decode cX2_takeOldest 17 = .ok (.invokevirtual 40, 3) := by decide +kernel
theorem d_2_takeOldest_20 : decode cX2_takeOldest 20 = .ok (.iload_n 1, 1) := by decide +kernel
theorem d_2_takeOldest_21 : decode cX2_takeOldest 21 = .ok (.if_icmp .ne 29, 3) := by decide +kernel
theorem d_2_takeOldest_24 : decode cX2_takeOldest 24 = .ok (.iload_n 3, 1) := by decide +kernel
theorem d_2_takeOldest_25 : decode cX2_takeOldest 25 = .ok (.aload_n 0, 1) := by decide +kernel
theorem d_2_takeOldest_26 : decode cX2_takeOldest 26 = .ok (.iload 4, 2) := by decide +kernel
theorem d_2_takeOldest_28 : decode cX2_takeOldest 28 = .ok (.invokevirtual 47, 3) := by decide +kernel
theorem d_2_takeOldest_31 : decode cX2_takeOldest 31 = .ok (.invokestatic 54, 3) := by decide +kernel
theorem d_2_takeOldest_34 : decode cX2_takeOldest 34 = .ok (.istore 5, 2) := by decide +kernel
theorem d_2_takeOldest_36 : decode cX2_takeOldest 36 = .ok (.aload_n 0, 1) := by decide +kernel
theorem d_2_takeOldest_37 : decode cX2_takeOldest 37 = .ok (.iload 4, 2) := by decide +kernel
theorem d_2_takeOldest_39 : decode cX2_takeOldest 39 = .ok (.iload 5, 2) := by decide +kernel
theorem d_2_takeOldest_41 : decode cX2_takeOldest 41 = .ok (.ineg, 1) := by decide +kernel
theorem d_2_takeOldest_42 : decode cX2_takeOldest 42 = .ok (.invokevirtual 60, 3) := by decide +kernel
theorem d_2_takeOldest_45 : decode cX2_takeOldest 45 = .ok (.iload_n 3, 1) := by decide +kernel
theorem d_2_takeOldest_46 : decode cX2_takeOldest 46 = .ok (.iload 5, 2) := by decide +kernel
theorem d_2_takeOldest_48 : decode cX2_takeOldest 48 = .ok (.isub, 1) := by decide +kernel
theorem d_2_takeOldest_49 : decode cX2_takeOldest 49 = .ok (.istore_n 3, 1) := by decide +kernel
theorem d_2_takeOldest_50 : decode cX2_takeOldest 50 = .ok (.iinc 4 1, 3) := by decide +kernel
theorem d_2_takeOldest_53 : decode cX2_takeOldest 53 = .ok (.goto (-48), 3) := by decide +kernel
theorem d_2_takeOldest_56 : decode cX2_takeOldest 56 = .ok (.aload_n 0, 1) := by decide +kernel
theorem d_2_takeOldest_57 : decode cX2_takeOldest 57 = .ok (.invokevirtual 63, 3) := by decide +kernel
theorem d_2_takeOldest_60 : decode cX2_takeOldest 60 = .ok (.return_, 1) := by decide +kernel
theorem d_2_removeEmpty_0 : decode cX2_removeEmpty 0 = .ok (.aload_n 0, 1) := by decide +kernel
theorem d_2_removeEmpty_1 : decode cX2_removeEmpty 1 = .ok (.invokevirtual 39, 3) := by decide +kernel
theorem d_2_removeEmpty_4 : decode cX2_removeEmpty 4 = .ok (.iconst 1, 1) := by decide +kernel
theorem d_2_removeEmpty_5 : decode cX2_removeEmpty 5 = .ok (.isub, 1) := by decide +kernel
theorem d_2_removeEmpty_6 : decode cX2_removeEmpty 6 = .ok (.istore_n 1, 1) := by decide +kernel
theorem d_2_removeEmpty_7 : decode cX2_removeEmpty 7 = .ok (.iload_n 1, 1) := by decide +kernel
theorem d_2_removeEmpty_8 : decode cX2_removeEmpty 8 = .ok (.ifCond .lt 41, 3) := by decide +kernel
theorem d_2_removeEmpty_11 : decode cX2_removeEmpty 11 = .ok (.aload_n 0, 1) := by decide +kernel
theorem d_2_removeEmpty_12 : decode cX2_removeEmpty 12 = .ok (.iload_n 1, 1) := by decide +kernel
theorem d_2_removeEmpty_13 : decode cX2_removeEmpty 13 = .ok (.invokevirtual 47, 3) := by decide +kernel
theorem d_2_removeEmpty_16 : decode cX2_removeEmpty 16 = .ok (.ifCond .ne 27, 3) := by decide +kernel
theorem d_2_removeEmpty_19 : decode cX2_removeEmpty 19 = .ok (.aload_n 0, 1) := by decide +kernel
theorem d_2_removeEmpty_20 : decode cX2_removeEmpty 20 = .ok (.getfield 14, 3) := by decide +kernel
theorem d_2_removeEmpty_23 : decode cX2_removeEmpty 23 = .ok (.iload_n 1, 1) := by decide +kernel
theorem d_2_removeEmpty_24 : decode cX2_removeEmpty 24 = .ok (.invokevirtual 66, 3) := by decide +kernel
theorem d_2_removeEmpty_27 : decode cX2_removeEmpty 27 = .ok (.aload_n 0, 1) := by decide +kernel
theorem d_2_removeEmpty_28 : decode cX2_removeEmpty 28 = .ok (.getfield 20, 3) := by decide +kernel
theorem d_2_removeEmpty_31 : decode cX2_removeEmpty 31 = .ok (.iload_n 1, 1) := by decide +kernel
theorem d_2_removeEmpty_32 : decode cX2_removeEmpty 32 = .ok (.invokestatic 70, 3) := by decide +kernel
theorem d_2_removeEmpty_35 : decode cX2_removeEmpty 35 = .ok (.aload_n 0, 1) := by decide +kernel
theorem d_2_removeEmpty_36 : decode cX2_removeEmpty 36 = .ok (.getfield 24, 3) := by decide +kernel
theorem d_2_removeEmpty_39 : decode cX2_removeEmpty 39 = .ok (.iload_n 1, 1) := by decide +kernel
theorem d_2_removeEmpty_40 : decode cX2_removeEmpty 40 = .ok (.invokestatic 70, 3) := by decide +kernel
theorem d_2_removeEmpty_43 : decode cX2_removeEmpty 43 = .ok (.iinc 1 (-1), 3) := by decide +kernel
theorem d_2_removeEmpty_46 : decode cX2_removeEmpty 46 = .ok (.goto (-39), 3) := by decide +kernel
theorem d_2_removeEmpty_49 : decode cX2_removeEmpty 49 = .ok (.return_, 1) := by decide +kernel
theorem d_2_copyFrom_0 : decode cX2_copyFrom 0 = .ok (.aload_n 0, 1) := by decide +kernel
theorem d_2_copyFrom_1 : decode cX2_copyFrom 1 = .ok (.getfield 14, 3) := by decide +kernel
theorem d_2_copyFrom_4 : decode cX2_copyFrom 4 = .ok (.aload_n 1, 1) := by decide +kernel
theorem d_2_copyFrom_5 : decode cX2_copyFrom 5 = .ok (.getfield 14, 3) := by decide +kernel
theorem d_2_copyFrom_8 : decode cX2_copyFrom 8 = .ok (.invokevirtual 74, 3) := by decide +kernel
theorem d_2_copyFrom_11 : decode cX2_copyFrom 11 = .ok (.aload_n 1, 1) := by decide +kernel
theorem d_2_copyFrom_12 : decode cX2_copyFrom 12 = .ok (.getfield 20, 3) := by decide +kernel
theorem d_2_copyFrom_15 : decode cX2_copyFrom 15 = .ok (.aload_n 0, 1) := by decide +kernel
theorem d_2_copyFrom_16 : decode cX2_copyFrom 16 = .ok (.getfield 20, 3) := by decide +kernel
theorem d_2_copyFrom_19 : decode cX2_copyFrom 19 = .ok (.invokestatic 78, 3) := by decide +kernel
theorem d_2_copyFrom_22 : decode cX2_copyFrom 22 = .ok (.aload_n 1, 1) := by decide +kernel
theorem d_2_copyFrom_23 : decode cX2_copyFrom 23 = .ok (.getfield 24, 3) := by decide +kernel
theorem d_2_copyFrom_26 : decode cX2_copyFrom 26 = .ok (.aload_n 0, 1) := by decide +kernel
theorem d_2_copyFrom_27 : decode cX2_copyFrom 27 = .ok (.getfield 24, 3) := by decide +kernel
theorem d_2_copyFrom_30 : decode cX2_copyFrom 30 = .ok (.invokestatic 78, 3) := by decide +kernel
theorem d_2_copyFrom_33 : decode cX2_copyFrom 33 = .ok (.return_, 1) := by decide +kernel
theorem d_3_init_0 : decode cX3_init 0 = .ok (.aload_n 0, 1) := by decide +kernel
theorem d_3_init_1 : decode cX3_init 1 = .ok (.invokespecial 3, 3) := by decide +kernel
theorem d_3_init_4 : decode cX3_init 4 = .ok (.aload_n 0, 1) := by decide +kernel
theorem d_3_init_5 : decode cX3_init 5 = .ok (.iconst 4, 1) := by decide +kernel
theorem d_3_init_6 : decode cX3_init 6 = .ok (.anewarray 9, 3) := by decide +kernel
theorem d_3_init_9 : decode cX3_init 9 = .ok (.putfield 11, 3) := by decide +kernel
theorem d_3_init_12 : decode cX3_init 12 = .ok (.iconst 0, 1) := by decide +kernel
theorem d_3_init_13 : decode cX3_init 13 = .ok (.istore_n 1, 1) := by decide +kernel
theorem d_3_init_14 : decode cX3_init 14 = .ok (.iload_n 1, 1) := by decide +kernel
theorem d_3_init_15 : decode cX3_init 15 = .ok (.aload_n 0, 1) := by decide +kernel
theorem d_3_init_16 : decode cX3_init 16 = .ok (.getfield 11, 3) := by decide +kernel
theorem d_3_init_19 : decode cX3_init 19 = .ok (.arraylength, 1) := by decide +kernel
theorem d_3_init_20 : decode cX3_init 20 = .ok (.if_icmp .ge 22, 3) := by decide +kernel
theorem d_3_init_23 : decode cX3_init 23 = .ok (.aload_n 0, 1) := by decide +kernel
theorem d_3_init_24 : decode cX3_init 24 = .ok (.getfield 11, 3) := by decide +kernel
theorem d_3_init_27 : decode cX3_init 27 = .ok (.iload_n 1, 1) := by decide +kernel
theorem d_3_init_28 : decode cX3_init 28 = .ok (.new 9, 3) := by decide +kernel
theorem d_3_init_31 : decode cX3_init 31 = .ok (.dup, 1) := by decide +kernel
theorem d_3_init_32 : decode cX3_init 32 = .ok (.invokespecial 17, 3) := by decide +kernel
theorem d_3_init_35 : decode cX3_init 35 = .ok (.aastore, 1) := by decide +kernel
theorem d_3_init_36 : decode cX3_init 36 = .ok (.iinc 1 1, 3) := by decide +kernel
theorem d_3_init_39 : decode cX3_init 39 = .ok (.goto (-25), 3) := by decide +kernel
theorem d_3_init_42 : decode cX3_init 42 = .ok (.return_, 1) := by decide +kernel
theorem d_3_count_0 : decode cX3_count 0 = .ok (.aload_n 0, 1) := by decide +kernel
theorem d_3_count_1 : decode cX3_count 1 = .ok (.getfield 18, 3) := by decide +kernel
theorem d_3_count_4 : decode cX3_count 4 = .ok (.ireturn, 1) := by decide +kernel
theorem d_3_record_0 : decode cX3_record 0 = .ok (.aload_n 0, 1) := by decide +kernel
theorem d_3_record_1 : decode cX3_record 1 = .ok (.getfield 18, 3) := by decide +kernel
theorem d_3_record_4 : decode cX3_record 4 = .ok (.aload_n 0, 1) := by decide +kernel
theorem d_3_record_5 : decode cX3_record 5 = .ok (.getfield 11, 3) := by decide +kernel
theorem d_3_record_8 : decode cX3_record 8 = .ok (.arraylength, 1) := by decide +kernel
theorem d_3_record_9 : decode cX3_record 9 = .ok (.if_icmp .lt 18, 3) := by decide +kernel
theorem d_3_record_12 : decode cX3_record 12 = .ok (.aload_n 0, 1) := by decide +kernel
theorem d_3_record_13 : decode cX3_record 13 = .ok (.invokevirtual 22, 3) := by decide +kernel
theorem d_3_record_16 : decode cX3_record 16 = .ok (.aload_n 0, 1) := by decide +kernel
theorem d_3_record_17 : decode cX3_record 17 = .ok (.aload_n 0, 1) := by decide +kernel
theorem d_3_record_18 : decode cX3_record 18 = .ok (.getfield 11, 3) := by decide +kernel
theorem d_3_record_21 : decode cX3_record 21 = .ok (.arraylength, 1) := by decide +kernel
theorem d_3_record_22 : decode cX3_record 22 = .ok (.iconst 1, 1) := by decide +kernel
theorem d_3_record_23 : decode cX3_record 23 = .ok (.isub, 1) := by decide +kernel
theorem d_3_record_24 : decode cX3_record 24 = .ok (.putfield 18, 3) := by decide +kernel
theorem d_3_record_27 : decode cX3_record 27 = .ok (.aload_n 0, 1) := by decide +kernel
theorem d_3_record_28 : decode cX3_record 28 = .ok (.getfield 18, 3) := by decide +kernel
theorem d_3_record_31 : decode cX3_record 31 = .ok (.ifCond .lt 50, 3) := by decide +kernel
theorem d_3_record_34 : decode cX3_record 34 = .ok (.aload_n 0, 1) := by decide +kernel
theorem d_3_record_35 : decode cX3_record 35 = .ok (.getfield 18, 3) := by decide +kernel
theorem d_3_record_38 : decode cX3_record 38 = .ok (.aload_n 0, 1) := by decide +kernel
theorem d_3_record_39 : decode cX3_record 39 = .ok (.getfield 11, 3) := by decide +kernel
theorem d_3_record_42 : decode cX3_record 42 = .ok (.arraylength, 1) := by decide +kernel
theorem d_3_record_43 : decode cX3_record 43 = .ok (.if_icmp .ge 38, 3) := by decide +kernel
theorem d_3_record_46 : decode cX3_record 46 = .ok (.aload_n 0, 1) := by decide +kernel
theorem d_3_record_47 : decode cX3_record 47 = .ok (.getfield 11, 3) := by decide +kernel
theorem d_3_record_50 : decode cX3_record 50 = .ok (.aload_n 0, 1) := by decide +kernel
theorem d_3_record_51 : decode cX3_record 51 = .ok (.getfield 18, 3) := by decide +kernel
theorem d_3_record_54 : decode cX3_record 54 = .ok (.aaload, 1) := by decide +kernel
theorem d_3_record_55 : decode cX3_record 55 = .ok (.ifnull 26, 3) := by decide +kernel
theorem d_3_record_58 : decode cX3_record 58 = .ok (.aload_n 0, 1) := by decide +kernel
theorem d_3_record_59 : decode cX3_record 59 = .ok (.getfield 11, 3) := by decide +kernel
theorem d_3_record_62 : decode cX3_record 62 = .ok (.aload_n 0, 1) := by decide +kernel
theorem d_3_record_63 : decode cX3_record 63 = .ok (.getfield 18, 3) := by decide +kernel
theorem d_3_record_66 : decode cX3_record 66 = .ok (.aaload, 1) := by decide +kernel
theorem d_3_record_67 : decode cX3_record 67 = .ok (.aload_n 1, 1) := by decide +kernel
theorem d_3_record_68 : decode cX3_record 68 = .ok (.invokevirtual 25, 3) := by decide +kernel
theorem d_3_record_71 : decode cX3_record 71 = .ok (.aload_n 0, 1) := by decide +kernel
theorem d_3_record_72 : decode cX3_record 72 = .ok (.dup, 1) := by decide +kernel
theorem d_3_record_73 : decode cX3_record 73 = .ok (.getfield 18, 3) := by decide +kernel
theorem d_3_record_76 : decode cX3_record 76 = .ok (.iconst 1, 1) := by decide +kernel
theorem d_3_record_77 : decode cX3_record 77 = .ok (.iadd, 1) := by decide +kernel
theorem d_3_record_78 : decode cX3_record 78 = .ok (.putfield 18, 3) := by decide +kernel
theorem d_3_record_81 : decode cX3_record 81 = .ok (.return_, 1) := by decide +kernel
theorem d_3_moveOldestToEnd_0 : decode cX3_moveOldestToEnd 0 = .ok (.iconst 0, 1) := by decide +kernel
theorem d_3_moveOldestToEnd_1 : decode cX3_moveOldestToEnd 1 = .ok (.istore_n 1, 1) := by decide +kernel
theorem d_3_moveOldestToEnd_2 : decode cX3_moveOldestToEnd 2 = .ok (.iload_n 1, 1) := by decide +kernel
theorem d_3_moveOldestToEnd_3 : decode cX3_moveOldestToEnd 3 = .ok (.aload_n 0, 1) := by decide +kernel
theorem d_3_moveOldestToEnd_4 : decode cX3_moveOldestToEnd 4 = .ok (.getfield 11, 3) := by decide +kernel
theorem d_3_moveOldestToEnd_7 : decode cX3_moveOldestToEnd 7 = .ok (.arraylength, 1) := by decide +kernel
theorem d_3_moveOldestToEnd_8 : decode cX3_moveOldestToEnd 8 = .ok (.iconst 1, 1) := by decide +kernel
theorem d_3_moveOldestToEnd_9 : decode cX3_moveOldestToEnd 9 = .ok (.isub, 1) := by decide +kernel
theorem d_3_moveOldestToEnd_10 : decode cX3_moveOldestToEnd 10 = .ok (.if_icmp .ge 39, 3) := by decide +kernel
theorem d_3_moveOldestToEnd_13 : decode cX3_moveOldestToEnd 13 = .ok (.aload_n 0, 1) := by decide +kernel
theorem d_3_moveOldestToEnd_14 : decode cX3_moveOldestToEnd 14 = .ok (.getfield 11, 3) := by decide +kernel
theorem d_3_moveOldestToEnd_17 : decode cX3_moveOldestToEnd 17 = .ok (.iload_n 1, 1) := by decide +kernel
theorem d_3_moveOldestToEnd_18 : decode cX3_moveOldestToEnd 18 = .ok (.aaload, 1) := by decide +kernel
theorem d_3_moveOldestToEnd_19 : decode cX3_moveOldestToEnd 19 = .ok (.astore_n 2, 1) := by decide +kernel
theorem d_3_moveOldestToEnd_20 : decode cX3_moveOldestToEnd 20 = .ok (.aload_n 0, 1) := by decide +kernel
theorem d_3_moveOldestToEnd_21 : decode cX3_moveOldestToEnd 21 = .ok (.getfield 11, 3) := by decide +kernel
theorem d_3_moveOldestToEnd_24 : decode cX3_moveOldestToEnd 24 = .ok (.iload_n 1, 1) := by decide +kernel
theorem d_3_moveOldestToEnd_25 : decode cX3_moveOldestToEnd 25 = .ok (.aload_n 0, 1) := by decide +kernel
theorem d_3_moveOldestToEnd_26 : decode cX3_moveOldestToEnd 26 = .ok (.getfield 11, 3) := by decide +kernel
theorem d_3_moveOldestToEnd_29 : decode cX3_moveOldestToEnd 29 = .ok (.iload_n 1, 1) := by decide +kernel
theorem d_3_moveOldestToEnd_30 : decode cX3_moveOldestToEnd 30 = .ok (.iconst 1, 1) := by decide +kernel
theorem d_3_moveOldestToEnd_31 : decode cX3_moveOldestToEnd 31 = .ok (.iadd, 1) := by decide +kernel
theorem d_3_moveOldestToEnd_32 : decode cX3_moveOldestToEnd 32 = .ok (.aaload, 1) := by decide +kernel
theorem d_3_moveOldestToEnd_33 : decode cX3_moveOldestToEnd 33 = .ok (.aastore, 1) := by decide +kernel
theorem d_3_moveOldestToEnd_34 : decode cX3_moveOldestToEnd 34 = .ok (.aload_n 0, 1) := by decide +kernel
theorem d_3_moveOldestToEnd_35 : decode cX3_moveOldestToEnd 35 = .ok (.getfield 11, 3) := by decide +kernel
theorem d_3_moveOldestToEnd_38 : decode cX3_moveOldestToEnd 38 = .ok (.iload_n 1, 1) := by decide +kernel
theorem d_3_moveOldestToEnd_39 : decode cX3_moveOldestToEnd 39 = .ok (.iconst 1, 1) := by decide +kernel
theorem d_3_moveOldestToEnd_40 : decode cX3_moveOldestToEnd 40 = .ok (.iadd, 1) := by decide +kernel
theorem d_3_moveOldestToEnd_41 : decode cX3_moveOldestToEnd 41 = .ok (.aload_n 2, 1) := by decide +kernel
theorem d_3_moveOldestToEnd_42 : decode cX3_moveOldestToEnd 42 = .ok (.aastore, 1) := by decide +kernel
theorem d_3_moveOldestToEnd_43 : decode cX3_moveOldestToEnd 43 = .ok (.iinc 1 1, 3) := by decide +kernel
theorem d_3_moveOldestToEnd_46 : decode cX3_moveOldestToEnd 46 = .ok (.goto (-44), 3) := by decide +kernel
theorem d_3_moveOldestToEnd_49 : decode cX3_moveOldestToEnd 49 = .ok (.return_, 1) := by decide +kernel
theorem d_3_giveBack_0 : decode cX3_giveBack 0 = .ok (.aload_n 0, 1) := by decide +kernel
theorem d_3_giveBack_1 : decode cX3_giveBack 1 = .ok (.getfield 18, 3) := by decide +kernel
theorem d_3_giveBack_4 : decode cX3_giveBack 4 = .ok (.iconst 1, 1) := by decide +kernel
theorem d_3_giveBack_5 : decode cX3_giveBack 5 = .ok (.isub, 1) := by decide +kernel
theorem d_3_giveBack_6 : decode cX3_giveBack 6 = .ok (.istore_n 2, 1) := by decide +kernel
theorem d_3_giveBack_7 : decode cX3_giveBack 7 = .ok (.iload_n 2, 1) := by decide +kernel
theorem d_3_giveBack_8 : decode cX3_giveBack 8 = .ok (.ifCond .lt 36, 3) := by decide +kernel
theorem d_3_giveBack_11 : decode cX3_giveBack 11 = .ok (.iload_n 2, 1) := by decide +kernel
theorem d_3_giveBack_12 : decode cX3_giveBack 12 = .ok (.aload_n 0, 1) := by decide +kernel
theorem d_3_giveBack_13 : decode cX3_giveBack 13 = .ok (.getfield 11, 3) := by decide +kernel
theorem d_3_giveBack_16 : decode cX3_giveBack 16 = .ok (.arraylength, 1) := by decide +kernel
theorem d_3_giveBack_17 : decode cX3_giveBack 17 = .ok (.if_icmp .ge 27, 3) := by decide +kernel
theorem d_3_giveBack_20 : decode cX3_giveBack 20 = .ok (.aload_n 0, 1) := by decide +kernel
theorem d_3_giveBack_21 : decode cX3_giveBack 21 = .ok (.getfield 11, 3) := by decide +kernel
theorem d_3_giveBack_24 : decode cX3_giveBack 24 = .ok (.iload_n 2, 1) := by decide +kernel
theorem d_3_giveBack_25 : decode cX3_giveBack 25 = .ok (.aaload, 1) := by decide +kernel
theorem d_3_giveBack_26 : decode cX3_giveBack 26 = .ok (.ifnull 18, 3) := by decide +kernel
theorem d_3_giveBack_29 : decode cX3_giveBack 29 = .ok (.aload_n 1, 1) := by decide +kernel
theorem d_3_giveBack_30 : decode cX3_giveBack 30 = .ok (.aload_n 0, 1) := by decide +kernel
theorem d_3_giveBack_31 : decode cX3_giveBack 31 = .ok (.getfield 11, 3) := by decide +kernel
theorem d_3_giveBack_34 : decode cX3_giveBack 34 = .ok (.iload_n 2, 1) := by decide +kernel
theorem d_3_giveBack_35 : decode cX3_giveBack 35 = .ok (.aaload, 1) := by decide +kernel
theorem d_3_giveBack_36 : decode cX3_giveBack 36 = .ok (.invokevirtual 25, 3) := by decide +kernel
theorem d_3_giveBack_39 : decode cX3_giveBack 39 = .ok (.aload_n 0, 1) := by decide +kernel
theorem d_3_giveBack_40 : decode cX3_giveBack 40 = .ok (.iload_n 2, 1) := by decide +kernel
theorem d_3_giveBack_41 : decode cX3_giveBack 41 = .ok (.putfield 18, 3) := by decide +kernel
theorem d_3_giveBack_44 : decode cX3_giveBack 44 = .ok (.return_, 1) := by decide +kernel
theorem d_4_init_0 : decode cX4_init 0 = .ok (.aload_n 0, 1) := by decide +kernel
theorem d_4_init_1 : decode cX4_init 1 = .ok (.invokespecial 1, 3) := by decide +kernel
theorem d_4_init_4 : decode cX4_init 4 = .ok (.aload_n 0, 1) := by decide +kernel
theorem d_4_init_5 : decode cX4_init 5 = .ok (.new 7, 3) := by decide +kernel
theorem d_4_init_8 : decode cX4_init 8 = .ok (.dup, 1) := by decide +kernel
theorem d_4_init_9 : decode cX4_init 9 = .ok (.invokespecial 9, 3) := by decide +kernel
theorem d_4_init_12 : decode cX4_init 12 = .ok (.putfield 10, 3) := by decide +kernel
theorem d_4_init_15 : decode cX4_init 15 = .ok (.aload_n 0, 1) := by decide +kernel
theorem d_4_init_16 : decode cX4_init 16 = .ok (.new 7, 3) := by decide +kernel
theorem d_4_init_19 : decode cX4_init 19 = .ok (.dup, 1) := by decide +kernel
theorem d_4_init_20 : decode cX4_init 20 = .ok (.invokespecial 9, 3) := by decide +kernel
theorem d_4_init_23 : decode cX4_init 23 = .ok (.putfield 16, 3) := by decide +kernel
theorem d_4_init_26 : decode cX4_init 26 = .ok (.return_, 1) := by decide +kernel
theorem d_4_clear_0 : decode cX4_clear 0 = .ok (.aload_n 0, 1) := by decide +kernel
theorem d_4_clear_1 : decode cX4_clear 1 = .ok (.iconst 0, 1) := by decide +kernel
theorem d_4_clear_2 : decode cX4_clear 2 = .ok (.putfield 19, 3) := by decide +kernel
theorem d_4_clear_5 : decode cX4_clear 5 = .ok (.aload_n 0, 1) := by decide +kernel
theorem d_4_clear_6 : decode cX4_clear 6 = .ok (.iconst 0, 1) := by decide +kernel
theorem d_4_clear_7 : decode cX4_clear 7 = .ok (.putfield 25, 3) := by decide +kernel
theorem d_4_clear_10 : decode cX4_clear 10 = .ok (.aload_n 0, 1) := by decide +kernel
theorem d_4_clear_11 : decode cX4_clear 11 = .ok (.iconst 0, 1) := by decide +kernel
theorem d_4_clear_12 : decode cX4_clear 12 = .ok (.putfield 28, 3) := by decide +kernel
theorem d_4_clear_15 : decode cX4_clear 15 = .ok (.aload_n 0, 1) := by decide +kernel
theorem d_4_clear_16 : decode cX4_clear 16 = .ok (.getfield 10, 3) := by decide +kernel
theorem d_4_clear_19 : decode cX4_clear 19 = .ok (.invokevirtual 32, 3) := by decide +kernel
theorem d_4_clear_22 : decode cX4_clear 22 = .ok (.aload_n 0, 1) := by decide +kernel
theorem d_4_clear_23 : decode cX4_clear 23 = .ok (.getfield 16, 3) := by decide +kernel
theorem d_4_clear_26 : decode cX4_clear 26 = .ok (.invokevirtual 32, 3) := by decide +kernel
theorem d_4_clear_29 : decode cX4_clear 29 = .ok (.return_, 1) := by decide +kernel
theorem d_4_take_0 : decode cX4_take 0 = .ok (.iload_n 1, 1) := by decide +kernel
theorem d_4_take_1 : decode cX4_take 1 = .ok (.invokestatic 35, 3) := by decide +kernel
theorem d_4_take_4 : decode cX4_take 4 = .ok (.ifCond .eq 11, 3) := by decide +kernel
theorem d_4_take_7 : decode cX4_take 7 = .ok (.aload_n 0, 1) := by decide +kernel
theorem d_4_take_8 : decode cX4_take 8 = .ok (.iload_n 1, 1) := by decide +kernel
theorem d_4_take_9 : decode cX4_take 9 = .ok (.invokevirtual 41, 3) := by decide +kernel
theorem d_4_take_12 : decode cX4_take 12 = .ok (.goto 75, 3) := by decide +kernel
theorem d_4_take_15 : decode cX4_take 15 = .ok (.iload_n 1, 1) := by decide +kernel
theorem d_4_take_16 : decode cX4_take 16 = .ok (.bipush 42, 2) := by decide +kernel
theorem d_4_take_18 : decode cX4_take 18 = .ok (.if_icmp .ne 11, 3) := by decide +kernel
theorem d_4_take_21 : decode cX4_take 21 = .ok (.aload_n 0, 1) := by decide +kernel
theorem d_4_take_22 : decode cX4_take 22 = .ok (.iconst 2, 1) := by decide +kernel
theorem d_4_take_23 : decode cX4_take 23 = .ok (.putfield 19, 3) := by decide +kernel
theorem d_4_take_26 : decode cX4_take 26 = .ok (.goto 61, 3) := by decide +kernel
theorem d_4_take_29 : decode cX4_take 29 = .ok (.iload_n 1, 1) := by decide +kernel
theorem d_4_take_30 : decode cX4_take 30 = .ok (.bipush 33, 2) := by decide +kernel
theorem d_4_take_32 : decode cX4_take 32 = .ok (.if_icmp .ne 11, 3) := by decide +kernel
theorem d_4_take_35 : decode cX4_take 35 = .ok (.aload_n 0, 1) := by decide +kernel
theorem d_4_take_36 : decode cX4_take 36 = .ok (.iconst 1, 1) := by decide +kernel
theorem d_4_take_37 : decode cX4_take 37 = .ok (.putfield 25, 3) := by decide +kernel
theorem d_4_take_40 : decode cX4_take 40 = .ok (.goto 47, 3) := by decide +kernel
theorem d_4_take_43 : decode cX4_take 43 = .ok (.iload_n 1, 1) := by decide +kernel
theorem d_4_take_44 : decode cX4_take 44 = .ok (.bipush 63, 2) := by decide +kernel
theorem d_4_take_46 : decode cX4_take 46 = .ok (.if_icmp .ne 11, 3) := by decide +kernel
theorem d_4_take_49 : decode cX4_take 49 = .ok (.aload_n 0, 1) := by decide +kernel
theorem d_4_take_50 : decode cX4_take 50 = .ok (.iconst 2, 1) := by decide +kernel
theorem d_4_take_51 : decode cX4_take 51 = .ok (.putfield 25, 3) := by decide +kernel
theorem d_4_take_54 : decode cX4_take 54 = .ok (.goto 33, 3) := by decide +kernel
theorem d_4_take_57 : decode cX4_take 57 = .ok (.iload_n 1, 1) := by decide +kernel
theorem d_4_take_58 : decode cX4_take 58 = .ok (.bipush 62, 2) := by decide +kernel
theorem d_4_take_60 : decode cX4_take 60 = .ok (.if_icmp .ne 11, 3) := by decide +kernel
theorem d_4_take_63 : decode cX4_take 63 = .ok (.aload_n 0, 1) := by decide +kernel
theorem d_4_take_64 : decode cX4_take 64 = .ok (.iconst 1, 1) := by decide +kernel
theorem d_4_take_65 : decode cX4_take 65 = .ok (.putfield 28, 3) := by decide +kernel
theorem d_4_take_68 : decode cX4_take 68 = .ok (.goto 19, 3) := by decide +kernel
theorem d_4_take_71 : decode cX4_take 71 = .ok (.iload_n 1, 1) := by decide +kernel
theorem d_4_take_72 : decode cX4_take 72 = .ok (.bipush 61, 2) := by decide +kernel
theorem d_4_take_74 : decode cX4_take 74 = .ok (.if_icmp .ne 13, 3) := by decide +kernel
theorem d_4_take_77 : decode cX4_take 77 = .ok (.aload_n 0, 1) := by decide +kernel
theorem d_4_take_78 : decode cX4_take 78 = .ok (.iconst 1, 1) := by decide +kernel
theorem d_4_take_79 : decode cX4_take 79 = .ok (.putfield 19, 3) := by decide +kernel
theorem d_4_take_82 : decode cX4_take 82 = .ok (.aload_n 0, 1) := by decide +kernel
theorem d_4_take_83 : decode cX4_take 83 = .ok (.iconst 1, 1) := by decide +kernel
theorem d_4_take_84 : decode cX4_take 84 = .ok (.putfield 28, 3) := by decide +kernel
theorem d_4_take_87 : decode cX4_take 87 = .ok (.return_, 1) := by decide +kernel
theorem d_4_takeLetter_0 : decode cX4_takeLetter 0 = .ok (.aload_n 0, 1) := by decide +kernel
theorem d_4_takeLetter_1 : decode cX4_takeLetter 1 = .ok (.getfield 28, 3) := by decide +kernel
theorem d_4_takeLetter_4 : decode cX4_takeLetter 4 = .ok (.ifCond .eq 14, 3) := by decide +kernel
theorem d_4_takeLetter_7 : decode cX4_takeLetter 7 = .ok (.aload_n 0, 1) := by decide +kernel
theorem d_4_takeLetter_8 : decode cX4_takeLetter 8 = .ok (.getfield 16, 3) := by decide +kernel
theorem d_4_takeLetter_11 : decode cX4_takeLetter 11 = .ok (.iload_n 1, 1) := by decide +kernel
theorem d_4_takeLetter_12 : decode cX4_takeLetter 12 = .ok (.invokevirtual 45, 3) := by decide +kernel
theorem d_4_takeLetter_15 : decode cX4_takeLetter 15 = .ok (.goto 11, 3) := by decide +kernel
theorem d_4_takeLetter_18 : decode cX4_takeLetter 18 = .ok (.aload_n 0, 1) := by decide +kernel
theorem d_4_takeLetter_19 : decode cX4_takeLetter 19 = .ok (.getfield 10, 3) := by decide +kernel
theorem d_4_takeLetter_22 : decode cX4_takeLetter 22 = .ok (.iload_n 1, 1) := by decide +kernel
theorem d_4_takeLetter_23 : decode cX4_takeLetter 23 = .ok (.invokevirtual 45, 3) := by decide +kernel
theorem d_4_takeLetter_26 : decode cX4_takeLetter 26 = .ok (.return_, 1) := by decide +kernel
theorem d_5_init_0 : decode cX5_init 0 = .ok (.aload_n 0, 1) := by decide +kernel
theorem d_5_init_1 : decode cX5_init 1 = .ok (.invokespecial 3, 3) := by decide +kernel
theorem d_5_init_4 : decode cX5_init 4 = .ok (.aload_n 0, 1) := by decide +kernel
theorem d_5_init_5 : decode cX5_init 5 = .ok (.bipush 60, 2) := by decide +kernel
theorem d_5_init_7 : decode cX5_init 7 = .ok (.newarray .char, 2) := by decide +kernel
theorem d_5_init_9 : decode cX5_init 9 = .ok (.putfield 9, 3) := by decide +kernel
theorem d_5_init_12 : decode cX5_init 12 = .ok (.aload_n 0, 1) := by decide +kernel
theorem d_5_init_13 : decode cX5_init 13 = .ok (.new 15, 3) := by decide +kernel
theorem d_5_init_16 : decode cX5_init 16 = .ok (.dup, 1) := by decide +kernel
theorem d_5_init_17 : decode cX5_init 17 = .ok (.invokespecial 17, 3) := by decide +kernel
theorem d_5_init_20 : decode cX5_init 20 = .ok (.putfield 18, 3) := by decide +kernel
theorem d_5_init_23 : decode cX5_init 23 = .ok (.return_, 1) := by decide +kernel
theorem d_5_length_0 : decode cX5_length 0 = .ok (.aload_n 0, 1) := by decide +kernel
theorem d_5_length_1 : decode cX5_length 1 = .ok (.getfield 22, 3) := by decide +kernel
theorem d_5_length_4 : decode cX5_length 4 = .ok (.ireturn, 1) := by decide +kernel
theorem d_5_isFull_0 : decode cX5_isFull 0 = .ok (.aload_n 0, 1) := by decide +kernel
theorem d_5_isFull_1 : decode cX5_isFull 1 = .ok (.getfield 22, 3) := by decide +kernel
theorem d_5_isFull_4 : decode cX5_isFull 4 = .ok (.aload_n 0, 1) := by decide +kernel
theorem d_5_isFull_5 : decode cX5_isFull 5 = .ok (.getfield 9, 3) := by decide +kernel
theorem d_5_isFull_8 : decode cX5_isFull 8 = .ok (.arraylength, 1) := by decide +kernel
theorem d_5_isFull_9 : decode cX5_isFull 9 = .ok (.if_icmp .lt 7, 3) := by decide +kernel
theorem d_5_isFull_12 : decode cX5_isFull 12 = .ok (.iconst 1, 1) := by decide +kernel
theorem d_5_isFull_13 : decode cX5_isFull 13 = .ok (.goto 4, 3) := by decide +kernel
theorem d_5_isFull_16 : decode cX5_isFull 16 = .ok (.iconst 0, 1) := by decide +kernel
theorem d_5_isFull_17 : decode cX5_isFull 17 = .ok (.ireturn, 1) := by decide +kernel
theorem d_5_append_0 : decode cX5_append 0 = .ok (.aload_n 0, 1) := by decide +kernel
theorem d_5_append_1 : decode cX5_append 1 = .ok (.getfield 22, 3) := by decide +kernel
theorem d_5_append_4 : decode cX5_append 4 = .ok (.ifCond .lt 35, 3) := by decide +kernel
theorem d_5_append_7 : decode cX5_append 7 = .ok (.aload_n 0, 1) := by decide +kernel
theorem d_5_append_8 : decode cX5_append 8 = .ok (.getfield 22, 3) := by decide +kernel
theorem d_5_append_11 : decode cX5_append 11 = .ok (.aload_n 0, 1) := by decide +kernel
theorem d_5_append_12 : decode cX5_append 12 = .ok (.getfield 9, 3) := by decide +kernel
theorem d_5_append_15 : decode cX5_append 15 = .ok (.arraylength, 1) := by decide +kernel
theorem d_5_append_16 : decode cX5_append 16 = .ok (.if_icmp .ge 23, 3) := by decide +kernel
theorem d_5_append_19 : decode cX5_append 19 = .ok (.aload_n 0, 1) := by decide +kernel
theorem d_5_append_20 : decode cX5_append 20 = .ok (.getfield 9, 3) := by decide +kernel
theorem d_5_append_23 : decode cX5_append 23 = .ok (.aload_n 0, 1) := by decide +kernel
theorem d_5_append_24 : decode cX5_append 24 = .ok (.getfield 22, 3) := by decide +kernel
theorem d_5_append_27 : decode cX5_append 27 = .ok (.iload_n 1, 1) := by decide +kernel
theorem d_5_append_28 : decode cX5_append 28 = .ok (.castore, 1) := by decide +kernel
theorem d_5_append_29 : decode cX5_append 29 = .ok (.aload_n 0, 1) := by decide +kernel
theorem d_5_append_30 : decode cX5_append 30 = .ok (.dup, 1) := by decide +kernel
theorem d_5_append_31 : decode cX5_append 31 = .ok (.getfield 22, 3) := by decide +kernel
theorem d_5_append_34 : decode cX5_append 34 = .ok (.iconst 1, 1) := by decide +kernel
theorem d_5_append_35 : decode cX5_append 35 = .ok (.iadd, 1) := by decide +kernel
theorem d_5_append_36 : decode cX5_append 36 = .ok (.putfield 22, 3) := by decide +kernel
theorem d_5_append_39 : decode cX5_append 39 = .ok (.return_, 1) := by decide +kernel
theorem d_5_clear_0 : decode cX5_clear 0 = .ok (.aload_n 0, 1) := by decide +kernel
theorem d_5_clear_1 : decode cX5_clear 1 = .ok (.iconst 0, 1) := by decide +kernel
theorem d_5_clear_2 : decode cX5_clear 2 = .ok (.putfield 22, 3) := by decide +kernel
theorem d_5_clear_5 : decode cX5_clear 5 = .ok (.return_, 1) := by decide +kernel
theorem d_5_sign_0 : decode cX5_sign 0 = .ok (.iload_n 1, 1) := by decide +kernel
theorem d_5_sign_1 : decode cX5_sign 1 = .ok (.ifCond .lt 29, 3) := by decide +kernel
theorem d_5_sign_4 : decode cX5_sign 4 = .ok (.iload_n 1, 1) := by decide +kernel
theorem d_5_sign_5 : decode cX5_sign 5 = .ok (.aload_n 0, 1) := by decide +kernel
theorem d_5_sign_6 : decode cX5_sign 6 = .ok (.getfield 22, 3) := by decide +kernel
theorem d_5_sign_9 : decode cX5_sign 9 = .ok (.if_icmp .ge 21, 3) := by decide +kernel
theorem d_5_sign_12 : decode cX5_sign 12 = .ok (.iload_n 1, 1) := by decide +kernel
theorem d_5_sign_13 : decode cX5_sign 13 = .ok (.aload_n 0, 1) := by decide +kernel
theorem d_5_sign_14 : decode cX5_sign 14 = .ok (.getfield 9, 3) := by decide +kernel
theorem d_5_sign_17 : decode cX5_sign 17 = .ok (.arraylength, 1) := by decide +kernel
theorem d_5_sign_18 : decode cX5_sign 18 = .ok (.if_icmp .ge 12, 3) := by decide +kernel
theorem d_5_sign_21 : decode cX5_sign 21 = .ok (.aload_n 0, 1) := by decide +kernel
theorem d_5_sign_22 : decode cX5_sign 22 = .ok (.getfield 9, 3) := by decide +kernel
theorem d_5_sign_25 : decode cX5_sign 25 = .ok (.iload_n 1, 1) := by decide +kernel
theorem d_5_sign_26 : decode cX5_sign 26 = .ok (.caload, 1) := by decide +kernel
theorem d_5_sign_27 : decode cX5_sign 27 = .ok (.goto 4, 3) := by decide +kernel
theorem d_5_sign_30 : decode cX5_sign 30 = .ok (.iconst 0, 1) := by decide +kernel
theorem d_5_sign_31 : decode cX5_sign 31 = .ok (.ireturn, 1) := by decide +kernel
theorem d_5_firstError_0 : decode cX5_firstError 0 = .ok (.aload_n 0, 1) := by decide +kernel
theorem d_5_firstError_1 : decode cX5_firstError 1 = .ok (.getfield 18, 3) := by decide +kernel
theorem d_5_firstError_4 : decode cX5_firstError 4 = .ok (.invokevirtual 26, 3) := by decide +kernel
theorem d_5_firstError_7 : decode cX5_firstError 7 = .ok (.iconst 0, 1) := by decide +kernel
theorem d_5_firstError_8 : decode cX5_firstError 8 = .ok (.istore_n 1, 1) := by decide +kernel
theorem d_5_firstError_9 : decode cX5_firstError 9 = .ok (.iload_n 1, 1) := by decide +kernel
theorem d_5_firstError_10 : decode cX5_firstError 10 = .ok (.aload_n 0, 1) := by decide +kernel
theorem d_5_firstError_11 : decode cX5_firstError 11 = .ok (.getfield 22, 3) := by decide +kernel
theorem d_5_firstError_14 : decode cX5_firstError 14 = .ok (.if_icmp .ge 26, 3) := by decide +kernel
theorem d_5_firstError_17 : decode cX5_firstError 17 = .ok (.aload_n 0, 1) := by decide +kernel
theorem d_5_firstError_18 : decode cX5_firstError 18 = .ok (.getfield 18, 3) := by decide +kernel
theorem d_5_firstError_21 : decode cX5_firstError 21 = .ok (.aload_n 0, 1) := by decide +kernel
theorem d_5_firstError_22 : decode cX5_firstError 22 = .ok (.iload_n 1, 1) := by decide +kernel
theorem d_5_firstError_23 : decode cX5_firstError 23 = .ok (.invokevirtual 29, 3) := by decide +kernel
theorem d_5_firstError_26 : decode cX5_firstError 26 = .ok (.invokevirtual 33, 3) := by decide +kernel
theorem d_5_firstError_29 : decode cX5_firstError 29 = .ok (.ifCond .ne 5, 3) := by decide +kernel
theorem d_5_firstError_32 : decode cX5_firstError 32 = .ok (.iload_n 1, 1) := by decide +kernel
theorem d_5_firstError_33 : decode cX5_firstError 33 = .ok (.ireturn, 1) := by decide +kernel
theorem d_5_firstError_34 : decode cX5_firstError 34 = .ok (.iinc 1 1, 3) := by decide +kernel
theorem d_5_firstError_37 : decode cX5_firstError 37 = .ok (.goto (-28), 3) := by decide +kernel
theorem d_5_firstError_40 : decode cX5_firstError 40 = .ok (.aload_n 0, 1) := by decide +kernel
theorem d_5_firstError_41 : decode cX5_firstError 41 = .ok (.getfield 18, 3) := by decide +kernel
theorem d_5_firstError_44 : decode cX5_firstError 44 = .ok (.invokevirtual 37, 3) := by decide +kernel
theorem d_5_firstError_47 : decode cX5_firstError 47 = .ok (.ifCond .eq 7, 3) := by decide +kernel
theorem d_5_firstError_50 : decode cX5_firstError 50 = .ok (.iconst (-1), 1) := by decide +kernel
theorem d_5_firstError_51 : decode cX5_firstError 51 = .ok (.goto 7, 3) := by decide +kernel
theorem d_5_firstError_54 : decode cX5_firstError 54 = .ok (.aload_n 0, 1) := by decide +kernel
theorem d_5_firstError_55 : decode cX5_firstError 55 = .ok (.getfield 22, 3) := by decide +kernel
theorem d_5_firstError_58 : decode cX5_firstError 58 = .ok (.ireturn, 1) := by decide +kernel
theorem d_5_orders_0 : decode cX5_orders 0 = .ok (.iconst 1, 1) := by decide +kernel
theorem d_5_orders_1 : decode cX5_orders 1 = .ok (.istore_n 1, 1) := by decide +kernel
theorem d_5_orders_2 : decode cX5_orders 2 = .ok (.iconst 0, 1) := by decide +kernel
theorem d_5_orders_3 : decode cX5_orders 3 = .ok (.istore_n 2, 1) := by decide +kernel
theorem d_5_orders_4 : decode cX5_orders 4 = .ok (.iload_n 2, 1) := by decide +kernel
theorem d_5_orders_5 : decode cX5_orders 5 = .ok (.aload_n 0, 1) := by decide +kernel
theorem d_5_orders_6 : decode cX5_orders 6 = .ok (.getfield 22, 3) := by decide +kernel
theorem d_5_orders_9 : decode cX5_orders 9 = .ok (.if_icmp .ge 22, 3) := by decide +kernel
theorem d_5_orders_12 : decode cX5_orders 12 = .ok (.aload_n 0, 1) := by decide +kernel
theorem d_5_orders_13 : decode cX5_orders 13 = .ok (.iload_n 2, 1) := by decide +kernel
theorem d_5_orders_14 : decode cX5_orders 14 = .ok (.invokevirtual 29, 3) := by decide +kernel
theorem d_5_orders_17 : decode cX5_orders 17 = .ok (.bipush 59, 2) := by decide +kernel
theorem d_5_orders_19 : decode cX5_orders 19 = .ok (.if_icmp .ne 6, 3) := by decide +kernel
theorem d_5_orders_22 : decode cX5_orders 22 = .ok (.iinc 1 1, 3) := by decide +kernel
theorem d_5_orders_25 : decode cX5_orders 25 = .ok (.iinc 2 1, 3) := by decide +kernel
theorem d_5_orders_28 : decode cX5_orders 28 = .ok (.goto (-24), 3) := by decide +kernel
theorem d_5_orders_31 : decode cX5_orders 31 = .ok (.iload_n 1, 1) := by decide +kernel
theorem d_5_orders_32 : decode cX5_orders 32 = .ok (.ireturn, 1) := by decide +kernel
theorem d_5_read_0 : decode cX5_read 0 = .ok (.aload_n 2, 1) := by decide +kernel
theorem d_5_read_1 : decode cX5_read 1 = .ok (.invokevirtual 41, 3) := by decide +kernel
theorem d_5_read_4 : decode cX5_read 4 = .ok (.iload_n 1, 1) := by decide +kernel
theorem d_5_read_5 : decode cX5_read 5 = .ok (.istore_n 3, 1) := by decide +kernel
theorem d_5_read_6 : decode cX5_read 6 = .ok (.iload_n 3, 1) := by decide +kernel
theorem d_5_read_7 : decode cX5_read 7 = .ok (.aload_n 0, 1) := by decide +kernel
theorem d_5_read_8 : decode cX5_read 8 = .ok (.getfield 22, 3) := by decide +kernel
theorem d_5_read_11 : decode cX5_read 11 = .ok (.if_icmp .ge 28, 3) := by decide +kernel
theorem d_5_read_14 : decode cX5_read 14 = .ok (.aload_n 0, 1) := by decide +kernel
theorem d_5_read_15 : decode cX5_read 15 = .ok (.iload_n 3, 1) := by decide +kernel
theorem d_5_read_16 : decode cX5_read 16 = .ok (.invokevirtual 29, 3) := by decide +kernel
theorem d_5_read_19 : decode cX5_read 19 = .ok (.bipush 59, 2) := by decide +kernel
theorem d_5_read_21 : decode cX5_read 21 = .ok (.if_icmp .eq 18, 3) := by decide +kernel
theorem d_5_read_24 : decode cX5_read 24 = .ok (.aload_n 2, 1) := by decide +kernel
theorem d_5_read_25 : decode cX5_read 25 = .ok (.aload_n 0, 1) := by decide +kernel
theorem d_5_read_26 : decode cX5_read 26 = .ok (.iload_n 3, 1) := by decide +kernel
theorem d_5_read_27 : decode cX5_read 27 = .ok (.invokevirtual 29, 3) := by decide +kernel
theorem d_5_read_30 : decode cX5_read 30 = .ok (.invokevirtual 46, 3) := by decide +kernel
theorem d_5_read_33 : decode cX5_read 33 = .ok (.iinc 3 1, 3) := by decide +kernel
theorem d_5_read_36 : decode cX5_read 36 = .ok (.goto (-30), 3) := by decide +kernel
theorem d_5_read_39 : decode cX5_read 39 = .ok (.iload_n 3, 1) := by decide +kernel
theorem d_5_read_40 : decode cX5_read 40 = .ok (.iconst 1, 1) := by decide +kernel
theorem d_5_read_41 : decode cX5_read 41 = .ok (.iadd, 1) := by decide +kernel
theorem d_5_read_42 : decode cX5_read 42 = .ok (.ireturn, 1) := by decide +kernel
theorem d_5_isWord_0 : decode cX5_isWord 0 = .ok (.iconst 0, 1) := by decide +kernel
theorem d_5_isWord_1 : decode cX5_isWord 1 = .ok (.istore_n 1, 1) := by decide +kernel
theorem d_5_isWord_2 : decode cX5_isWord 2 = .ok (.iload_n 1, 1) := by decide +kernel
theorem d_5_isWord_3 : decode cX5_isWord 3 = .ok (.aload_n 0, 1) := by decide +kernel
theorem d_5_isWord_4 : decode cX5_isWord 4 = .ok (.getfield 22, 3) := by decide +kernel
theorem d_5_isWord_7 : decode cX5_isWord 7 = .ok (.if_icmp .ge 22, 3) := by decide +kernel
theorem d_5_isWord_10 : decode cX5_isWord 10 = .ok (.aload_n 0, 1) := by decide +kernel
theorem d_5_isWord_11 : decode cX5_isWord 11 = .ok (.iload_n 1, 1) := by decide +kernel
theorem d_5_isWord_12 : decode cX5_isWord 12 = .ok (.invokevirtual 29, 3) := by decide +kernel
theorem d_5_isWord_15 : decode cX5_isWord 15 = .ok (.invokestatic 49, 3) := by decide +kernel
theorem d_5_isWord_18 : decode cX5_isWord 18 = .ok (.ifCond .ne 5, 3) := by decide +kernel
theorem d_5_isWord_21 : decode cX5_isWord 21 = .ok (.iconst 0, 1) := by decide +kernel
theorem d_5_isWord_22 : decode cX5_isWord 22 = .ok (.ireturn, 1) := by decide +kernel
theorem d_5_isWord_23 : decode cX5_isWord 23 = .ok (.iinc 1 1, 3) := by decide +kernel
theorem d_5_isWord_26 : decode cX5_isWord 26 = .ok (.goto (-24), 3) := by decide +kernel
theorem d_5_isWord_29 : decode cX5_isWord 29 = .ok (.aload_n 0, 1) := by decide +kernel
theorem d_5_isWord_30 : decode cX5_isWord 30 = .ok (.getfield 22, 3) := by decide +kernel
theorem d_5_isWord_33 : decode cX5_isWord 33 = .ok (.iconst 1, 1) := by decide +kernel
theorem d_5_isWord_34 : decode cX5_isWord 34 = .ok (.if_icmp .lt 16, 3) := by decide +kernel
theorem d_5_isWord_37 : decode cX5_isWord 37 = .ok (.aload_n 0, 1) := by decide +kernel
theorem d_5_isWord_38 : decode cX5_isWord 38 = .ok (.getfield 22, 3) := by decide +kernel
theorem d_5_isWord_41 : decode cX5_isWord 41 = .ok (.bipush 12, 2) := by decide +kernel
theorem d_5_isWord_43 : decode cX5_isWord 43 = .ok (.if_icmp .gt 7, 3) := by decide +kernel
theorem d_5_isWord_46 : decode cX5_isWord 46 = .ok (.iconst 1, 1) := by decide +kernel
theorem d_5_isWord_47 : decode cX5_isWord 47 = .ok (.goto 4, 3) := by decide +kernel
theorem d_5_isWord_50 : decode cX5_isWord 50 = .ok (.iconst 0, 1) := by decide +kernel
theorem d_5_isWord_51 : decode cX5_isWord 51 = .ok (.ireturn, 1) := by decide +kernel
theorem d_5_load_0 : decode cX5_load 0 = .ok (.aload_n 1, 1) := by decide +kernel
theorem d_5_load_1 : decode cX5_load 1 = .ok (.invokevirtual 52, 3) := by decide +kernel
theorem d_5_load_4 : decode cX5_load 4 = .ok (.iconst 0, 1) := by decide +kernel
theorem d_5_load_5 : decode cX5_load 5 = .ok (.istore_n 2, 1) := by decide +kernel
theorem d_5_load_6 : decode cX5_load 6 = .ok (.iload_n 2, 1) := by decide +kernel
theorem d_5_load_7 : decode cX5_load 7 = .ok (.aload_n 0, 1) := by decide +kernel
theorem d_5_load_8 : decode cX5_load 8 = .ok (.getfield 22, 3) := by decide +kernel
theorem d_5_load_11 : decode cX5_load 11 = .ok (.if_icmp .ge 18, 3) := by decide +kernel
theorem d_5_load_14 : decode cX5_load 14 = .ok (.aload_n 1, 1) := by decide +kernel
theorem d_5_load_15 : decode cX5_load 15 = .ok (.aload_n 0, 1) := by decide +kernel
theorem d_5_load_16 : decode cX5_load 16 = .ok (.iload_n 2, 1) := by decide +kernel
theorem d_5_load_17 : decode cX5_load 17 = .ok (.invokevirtual 29, 3) := by decide +kernel
theorem d_5_load_20 : decode cX5_load 20 = .ok (.invokevirtual 55, 3) := by decide +kernel
theorem d_5_load_23 : decode cX5_load 23 = .ok (.iinc 2 1, 3) := by decide +kernel
theorem d_5_load_26 : decode cX5_load 26 = .ok (.goto (-20), 3) := by decide +kernel
theorem d_5_load_29 : decode cX5_load 29 = .ok (.return_, 1) := by decide +kernel
theorem d_6_init_0 : decode cX6_init 0 = .ok (.aload_n 0, 1) := by decide +kernel
theorem d_6_init_1 : decode cX6_init 1 = .ok (.invokespecial 3, 3) := by decide +kernel
theorem d_6_init_4 : decode cX6_init 4 = .ok (.aload_n 0, 1) := by decide +kernel
theorem d_6_init_5 : decode cX6_init 5 = .ok (.new 9, 3) := by decide +kernel
theorem d_6_init_8 : decode cX6_init 8 = .ok (.dup, 1) := by decide +kernel
theorem d_6_init_9 : decode cX6_init 9 = .ok (.bipush 20, 2) := by decide +kernel
theorem d_6_init_11 : decode cX6_init 11 = .ok (.bipush 12, 2) := by decide +kernel
theorem d_6_init_13 : decode cX6_init 13 = .ok (.invokespecial 11, 3) := by decide +kernel
theorem d_6_init_16 : decode cX6_init 16 = .ok (.putfield 14, 3) := by decide +kernel
theorem d_6_init_19 : decode cX6_init 19 = .ok (.aload_n 0, 1) := by decide +kernel
theorem d_6_init_20 : decode cX6_init 20 = .ok (.new 9, 3) := by decide +kernel
theorem d_6_init_23 : decode cX6_init 23 = .ok (.dup, 1) := by decide +kernel
theorem d_6_init_24 : decode cX6_init 24 = .ok (.bipush 10, 2) := by decide +kernel
theorem d_6_init_26 : decode cX6_init 26 = .ok (.bipush 12, 2) := by decide +kernel
theorem d_6_init_28 : decode cX6_init 28 = .ok (.invokespecial 11, 3) := by decide +kernel
theorem d_6_init_31 : decode cX6_init 31 = .ok (.putfield 20, 3) := by decide +kernel
theorem d_6_init_34 : decode cX6_init 34 = .ok (.aload_n 0, 1) := by decide +kernel
theorem d_6_init_35 : decode cX6_init 35 = .ok (.new 9, 3) := by decide +kernel
theorem d_6_init_38 : decode cX6_init 38 = .ok (.dup, 1) := by decide +kernel
theorem d_6_init_39 : decode cX6_init 39 = .ok (.bipush 10, 2) := by decide +kernel
theorem d_6_init_41 : decode cX6_init 41 = .ok (.bipush 12, 2) := by decide +kernel
theorem d_6_init_43 : decode cX6_init 43 = .ok (.invokespecial 11, 3) := by decide +kernel
theorem d_6_init_46 : decode cX6_init 46 = .ok (.putfield 23, 3) := by decide +kernel
theorem d_6_init_49 : decode cX6_init 49 = .ok (.aload_n 0, 1) := by decide +kernel
theorem d_6_init_50 : decode cX6_init 50 = .ok (.new 26, 3) := by decide +kernel
theorem d_6_init_53 : decode cX6_init 53 = .ok (.dup, 1) := by decide +kernel
theorem d_6_init_54 : decode cX6_init 54 = .ok (.invokespecial 28, 3) := by decide +kernel
theorem d_6_init_57 : decode cX6_init 57 = .ok (.putfield 29, 3) := by decide +kernel
theorem d_6_init_60 : decode cX6_init 60 = .ok (.aload_n 0, 1) := by decide +kernel
theorem d_6_init_61 : decode cX6_init 61 = .ok (.new 33, 3) := by decide +kernel
theorem d_6_init_64 : decode cX6_init 64 = .ok (.dup, 1) := by decide +kernel
theorem d_6_init_65 : decode cX6_init 65 = .ok (.invokespecial 35, 3) := by decide +kernel
theorem d_6_init_68 : decode cX6_init 68 = .ok (.putfield 36, 3) := by decide +kernel
theorem d_6_init_71 : decode cX6_init 71 = .ok (.return_, 1) := by decide +kernel
theorem d_6_addFirstDie_0 : decode cX6_addFirstDie 0 = .ok (.new 40, 3) := by decide +kernel
theorem d_6_addFirstDie_3 : decode cX6_addFirstDie 3 = .ok (.dup, 1) := by decide +kernel
theorem d_6_addFirstDie_4 : decode cX6_addFirstDie 4 = .ok (.invokespecial 42, 3) := by decide +kernel
theorem d_6_addFirstDie_7 : decode cX6_addFirstDie 7 = .ok (.astore_n 1, 1) := by decide +kernel
theorem d_6_addFirstDie_8 : decode cX6_addFirstDie 8 = .ok (.new 40, 3) := by decide +kernel
theorem d_6_addFirstDie_11 : decode cX6_addFirstDie 11 = .ok (.dup, 1) := by decide +kernel
theorem d_6_addFirstDie_12 : decode cX6_addFirstDie 12 = .ok (.invokespecial 42, 3) := by decide +kernel
theorem d_6_addFirstDie_15 : decode cX6_addFirstDie 15 = .ok (.astore_n 2, 1) := by decide +kernel
theorem d_6_addFirstDie_16 : decode cX6_addFirstDie 16 = .ok (.aload_n 2, 1) := by decide +kernel
theorem d_6_addFirstDie_17 : decode cX6_addFirstDie 17 = .ok (.bipush 115, 2) := by decide +kernel
theorem d_6_addFirstDie_19 : decode cX6_addFirstDie 19 = .ok (.invokevirtual 43, 3) := by decide +kernel
theorem d_6_addFirstDie_22 : decode cX6_addFirstDie 22 = .ok (.aload_n 0, 1) := by decide +kernel
theorem d_6_addFirstDie_23 : decode cX6_addFirstDie 23 = .ok (.getfield 29, 3) := by decide +kernel
theorem d_6_addFirstDie_26 : decode cX6_addFirstDie 26 = .ok (.aload_n 1, 1) := by decide +kernel
theorem d_6_addFirstDie_27 : decode cX6_addFirstDie 27 = .ok (.aload_n 2, 1) := by decide +kernel
theorem d_6_addFirstDie_28 : decode cX6_addFirstDie 28 = .ok (.iconst 0, 1) := by decide +kernel
theorem d_6_addFirstDie_29 : decode cX6_addFirstDie 29 = .ok (.invokevirtual 47, 3) := by decide +kernel
theorem d_6_addFirstDie_32 : decode cX6_addFirstDie 32 = .ok (.pop, 1) := by decide +kernel
theorem d_6_addFirstDie_33 : decode cX6_addFirstDie 33 = .ok (.return_, 1) := by decide +kernel
theorem d_6_loadPlural_0 : decode cX6_loadPlural 0 = .ok (.aload_n 0, 1) := by decide +kernel
theorem d_6_loadPlural_1 : decode cX6_loadPlural 1 = .ok (.getfield 14, 3) := by decide +kernel
theorem d_6_loadPlural_4 : decode cX6_loadPlural 4 = .ok (.iload_n 1, 1) := by decide +kernel
theorem d_6_loadPlural_5 : decode cX6_loadPlural 5 = .ok (.aload_n 2, 1) := by decide +kernel
theorem d_6_loadPlural_6 : decode cX6_loadPlural 6 = .ok (.invokevirtual 51, 3) := by decide +kernel
theorem d_6_loadPlural_9 : decode cX6_loadPlural 9 = .ok (.aload_n 0, 1) := by decide +kernel
theorem d_6_loadPlural_10 : decode cX6_loadPlural 10 = .ok (.aload_n 2, 1) := by decide +kernel
theorem d_6_loadPlural_11 : decode cX6_loadPlural 11 = .ok (.invokevirtual 55, 3) := by decide +kernel
theorem d_6_loadPlural_14 : decode cX6_loadPlural 14 = .ok (.return_, 1) := by decide +kernel
theorem d_6_makePlural_0 : decode cX6_makePlural 0 = .ok (.aload_n 0, 1) := by decide +kernel
theorem d_6_makePlural_1 : decode cX6_makePlural 1 = .ok (.getfield 20, 3) := by decide +kernel
theorem d_6_makePlural_4 : decode cX6_makePlural 4 = .ok (.aload_n 1, 1) := by decide +kernel
theorem d_6_makePlural_5 : decode cX6_makePlural 5 = .ok (.invokevirtual 59, 3) := by decide +kernel
theorem d_6_makePlural_8 : decode cX6_makePlural 8 = .ok (.istore_n 2, 1) := by decide +kernel
theorem d_6_makePlural_9 : decode cX6_makePlural 9 = .ok (.iload_n 2, 1) := by decide +kernel
theorem d_6_makePlural_10 : decode cX6_makePlural 10 = .ok (.iconst (-1), 1) := by decide +kernel
theorem d_6_makePlural_11 : decode cX6_makePlural 11 = .ok (.if_icmp .eq 15, 3) := by decide +kernel
theorem d_6_makePlural_14 : decode cX6_makePlural 14 = .ok (.aload_n 0, 1) := by decide +kernel
theorem d_6_makePlural_15 : decode cX6_makePlural 15 = .ok (.getfield 23, 3) := by decide +kernel
theorem d_6_makePlural_18 : decode cX6_makePlural 18 = .ok (.iload_n 2, 1) := by decide +kernel
theorem d_6_makePlural_19 : decode cX6_makePlural 19 = .ok (.aload_n 1, 1) := by decide +kernel
theorem d_6_makePlural_20 : decode cX6_makePlural 20 = .ok (.invokevirtual 51, 3) := by decide +kernel
theorem d_6_makePlural_23 : decode cX6_makePlural 23 = .ok (.goto 19, 3) := by decide +kernel
theorem d_6_makePlural_26 : decode cX6_makePlural 26 = .ok (.aload_n 0, 1) := by decide +kernel
theorem d_6_makePlural_27 : decode cX6_makePlural 27 = .ok (.getfield 29, 3) := by decide +kernel
theorem d_6_makePlural_30 : decode cX6_makePlural 30 = .ok (.aload_n 0, 1) := by decide +kernel
theorem d_6_makePlural_31 : decode cX6_makePlural 31 = .ok (.getfield 29, 3) := by decide +kernel
theorem d_6_makePlural_34 : decode cX6_makePlural 34 = .ok (.aload_n 1, 1) := by decide +kernel
theorem d_6_makePlural_35 : decode cX6_makePlural 35 = .ok (.invokevirtual 63, 3) := by decide +kernel
theorem d_6_makePlural_38 : decode cX6_makePlural 38 = .ok (.aload_n 1, 1) := by decide +kernel
theorem d_6_makePlural_39 : decode cX6_makePlural 39 = .ok (.invokevirtual 66, 3) := by decide +kernel
theorem d_6_makePlural_42 : decode cX6_makePlural 42 = .ok (.return_, 1) := by decide +kernel
theorem d_6_isStale_0 : decode cX6_isStale 0 = .ok (.aload_n 0, 1) := by decide +kernel
theorem d_6_isStale_1 : decode cX6_isStale 1 = .ok (.getfield 14, 3) := by decide +kernel
theorem d_6_isStale_4 : decode cX6_isStale 4 = .ok (.aload_n 0, 1) := by decide +kernel
theorem d_6_isStale_5 : decode cX6_isStale 5 = .ok (.getfield 36, 3) := by decide +kernel
theorem d_6_isStale_8 : decode cX6_isStale 8 = .ok (.iload_n 1, 1) := by decide +kernel
theorem d_6_isStale_9 : decode cX6_isStale 9 = .ok (.invokevirtual 69, 3) := by decide +kernel
theorem d_6_isStale_12 : decode cX6_isStale 12 = .ok (.aload_n 2, 1) := by decide +kernel
theorem d_6_isStale_13 : decode cX6_isStale 13 = .ok (.invokevirtual 51, 3) := by decide +kernel
theorem d_6_isStale_16 : decode cX6_isStale 16 = .ok (.aload_n 0, 1) := by decide +kernel
theorem d_6_isStale_17 : decode cX6_isStale 17 = .ok (.aload_n 2, 1) := by decide +kernel
theorem d_6_isStale_18 : decode cX6_isStale 18 = .ok (.invokevirtual 55, 3) := by decide +kernel
theorem d_6_isStale_21 : decode cX6_isStale 21 = .ok (.aload_n 0, 1) := by decide +kernel
theorem d_6_isStale_22 : decode cX6_isStale 22 = .ok (.getfield 36, 3) := by decide +kernel
theorem d_6_isStale_25 : decode cX6_isStale 25 = .ok (.iload_n 1, 1) := by decide +kernel
theorem d_6_isStale_26 : decode cX6_isStale 26 = .ok (.aload_n 2, 1) := by decide +kernel
theorem d_6_isStale_27 : decode cX6_isStale 27 = .ok (.invokevirtual 73, 3) := by decide +kernel
theorem d_6_isStale_30 : decode cX6_isStale 30 = .ok (.ifCond .ne 7, 3) := by decide +kernel
theorem d_6_isStale_33 : decode cX6_isStale 33 = .ok (.iconst 1, 1) := by decide +kernel
theorem d_6_isStale_34 : decode cX6_isStale 34 = .ok (.goto 4, 3) := by decide +kernel
theorem d_6_isStale_37 : decode cX6_isStale 37 = .ok (.iconst 0, 1) := by decide +kernel
theorem d_6_isStale_38 : decode cX6_isStale 38 = .ok (.ireturn, 1) := by decide +kernel
theorem d_6_accept_0 : decode cX6_accept 0 = .ok (.aload_n 1, 1) := by decide +kernel
theorem d_6_accept_1 : decode cX6_accept 1 = .ok (.getfield 77, 3) := by decide +kernel
theorem d_6_accept_4 : decode cX6_accept 4 = .ok (.iconst 2, 1) := by decide +kernel
theorem d_6_accept_5 : decode cX6_accept 5 = .ok (.if_icmp .ne 23, 3) := by decide +kernel
theorem d_6_accept_8 : decode cX6_accept 8 = .ok (.aload_n 0, 1) := by decide +kernel
theorem d_6_accept_9 : decode cX6_accept 9 = .ok (.getfield 29, 3) := by decide +kernel
theorem d_6_accept_12 : decode cX6_accept 12 = .ok (.aload_n 1, 1) := by decide +kernel
theorem d_6_accept_13 : decode cX6_accept 13 = .ok (.getfield 83, 3) := by decide +kernel
theorem d_6_accept_16 : decode cX6_accept 16 = .ok (.aload_n 1, 1) := by decide +kernel
theorem d_6_accept_17 : decode cX6_accept 17 = .ok (.getfield 87, 3) := by decide +kernel
theorem d_6_accept_20 : decode cX6_accept 20 = .ok (.aload_n 1, 1) := by decide +kernel
theorem d_6_accept_21 : decode cX6_accept 21 = .ok (.getfield 90, 3) := by decide +kernel
theorem d_6_accept_24 : decode cX6_accept 24 = .ok (.invokevirtual 47, 3) := by decide +kernel
theorem d_6_accept_27 : decode cX6_accept 27 = .ok (.ireturn, 1) := by decide +kernel
theorem d_6_accept_28 : decode cX6_accept 28 = .ok (.aload_n 1, 1) := by decide +kernel
theorem d_6_accept_29 : decode cX6_accept 29 = .ok (.getfield 77, 3) := by decide +kernel
theorem d_6_accept_32 : decode cX6_accept 32 = .ok (.ifCond .ne 38, 3) := by decide +kernel
theorem d_6_accept_35 : decode cX6_accept 35 = .ok (.aload_n 0, 1) := by decide +kernel
theorem d_6_accept_36 : decode cX6_accept 36 = .ok (.getfield 14, 3) := by decide +kernel
theorem d_6_accept_39 : decode cX6_accept 39 = .ok (.aload_n 1, 1) := by decide +kernel
theorem d_6_accept_40 : decode cX6_accept 40 = .ok (.getfield 83, 3) := by decide +kernel
theorem d_6_accept_43 : decode cX6_accept 43 = .ok (.invokevirtual 59, 3) := by decide +kernel
theorem d_6_accept_46 : decode cX6_accept 46 = .ok (.iconst (-1), 1) := by decide +kernel
theorem d_6_accept_47 : decode cX6_accept 47 = .ok (.if_icmp .ne 21, 3) := by decide +kernel
theorem d_6_accept_50 : decode cX6_accept 50 = .ok (.aload_n 0, 1) := by decide +kernel
theorem d_6_accept_51 : decode cX6_accept 51 = .ok (.getfield 14, 3) := by decide +kernel
theorem d_6_accept_54 : decode cX6_accept 54 = .ok (.aload_n 1, 1) := by decide +kernel
theorem d_6_accept_55 : decode cX6_accept 55 = .ok (.getfield 83, 3) := by decide +kernel
theorem d_6_accept_58 : decode cX6_accept 58 = .ok (.invokevirtual 93, 3) := by decide +kernel
theorem d_6_accept_61 : decode cX6_accept 61 = .ok (.ifCond .eq 7, 3) := by decide +kernel
theorem d_6_accept_64 : decode cX6_accept 64 = .ok (.iconst 1, 1) := by decide +kernel
theorem d_6_accept_65 : decode cX6_accept 65 = .ok (.goto 4, 3) := by decide +kernel
theorem d_6_accept_68 : decode cX6_accept 68 = .ok (.iconst 0, 1) := by decide +kernel
theorem d_6_accept_69 : decode cX6_accept 69 = .ok (.ireturn, 1) := by decide +kernel
theorem d_6_accept_70 : decode cX6_accept 70 = .ok (.aload_n 0, 1) := by decide +kernel
theorem d_6_accept_71 : decode cX6_accept 71 = .ok (.getfield 20, 3) := by decide +kernel
theorem d_6_accept_74 : decode cX6_accept 74 = .ok (.aload_n 1, 1) := by decide +kernel
theorem d_6_accept_75 : decode cX6_accept 75 = .ok (.getfield 83, 3) := by decide +kernel
theorem d_6_accept_78 : decode cX6_accept 78 = .ok (.invokevirtual 59, 3) := by decide +kernel
theorem d_6_accept_81 : decode cX6_accept 81 = .ok (.istore_n 2, 1) := by decide +kernel
theorem d_6_accept_82 : decode cX6_accept 82 = .ok (.iload_n 2, 1) := by decide +kernel
theorem d_6_accept_83 : decode cX6_accept 83 = .ok (.iconst (-1), 1) := by decide +kernel
theorem d_6_accept_84 : decode cX6_accept 84 = .ok (.if_icmp .ne 37, 3) := by decide +kernel
theorem d_6_accept_87 : decode cX6_accept 87 = .ok (.aload_n 0, 1) := by decide +kernel
theorem d_6_accept_88 : decode cX6_accept 88 = .ok (.getfield 20, 3) := by decide +kernel
theorem d_6_accept_91 : decode cX6_accept 91 = .ok (.aload_n 1, 1) := by decide +kernel
theorem d_6_accept_92 : decode cX6_accept 92 = .ok (.getfield 83, 3) := by decide +kernel
theorem d_6_accept_95 : decode cX6_accept 95 = .ok (.invokevirtual 93, 3) := by decide +kernel
theorem d_6_accept_98 : decode cX6_accept 98 = .ok (.ifCond .eq 21, 3) := by decide +kernel
theorem d_6_accept_101 : decode cX6_accept 101 = .ok (.aload_n 0, 1) := by decide +kernel
theorem d_6_accept_102 : decode cX6_accept 102 = .ok (.getfield 23, 3) := by decide +kernel
theorem d_6_accept_105 : decode cX6_accept 105 = .ok (.aload_n 1, 1) := by decide +kernel
theorem d_6_accept_106 : decode cX6_accept 106 = .ok (.getfield 87, 3) := by decide +kernel
theorem d_6_accept_109 : decode cX6_accept 109 = .ok (.invokevirtual 93, 3) := by decide +kernel
theorem d_6_accept_112 : decode cX6_accept 112 = .ok (.ifCond .eq 7, 3) := by decide +kernel
theorem d_6_accept_115 : decode cX6_accept 115 = .ok (.iconst 1, 1) := by decide +kernel
theorem d_6_accept_116 : decode cX6_accept 116 = .ok (.goto 4, 3) := by decide +kernel
theorem d_6_accept_119 : decode cX6_accept 119 = .ok (.iconst 0, 1) := by decide +kernel
theorem d_6_accept_120 : decode cX6_accept 120 = .ok (.ireturn, 1) := by decide +kernel
theorem d_6_accept_121 : decode cX6_accept 121 = .ok (.aload_n 0, 1) := by decide +kernel
theorem d_6_accept_122 : decode cX6_accept 122 = .ok (.getfield 23, 3) := by decide +kernel
theorem d_6_accept_125 : decode cX6_accept 125 = .ok (.iload_n 2, 1) := by decide +kernel
theorem d_6_accept_126 : decode cX6_accept 126 = .ok (.aload_n 1, 1) := by decide +kernel
theorem d_6_accept_127 : decode cX6_accept 127 = .ok (.getfield 87, 3) := by decide +kernel
theorem d_6_accept_130 : decode cX6_accept 130 = .ok (.invokevirtual 96, 3) := by decide +kernel
theorem d_6_accept_133 : decode cX6_accept 133 = .ok (.iconst 1, 1) := by decide +kernel
theorem d_6_accept_134 : decode cX6_accept 134 = .ok (.ireturn, 1) := by decide +kernel
theorem d_6_copyFrom_0 : decode cX6_copyFrom 0 = .ok (.aload_n 0, 1) := by decide +kernel
theorem d_6_copyFrom_1 : decode cX6_copyFrom 1 = .ok (.getfield 14, 3) := by decide +kernel
theorem d_6_copyFrom_4 : decode cX6_copyFrom 4 = .ok (.aload_n 1, 1) := by decide +kernel
theorem d_6_copyFrom_5 : decode cX6_copyFrom 5 = .ok (.getfield 14, 3) := by decide +kernel
theorem d_6_copyFrom_8 : decode cX6_copyFrom 8 = .ok (.invokevirtual 99, 3) := by decide +kernel
theorem d_6_copyFrom_11 : decode cX6_copyFrom 11 = .ok (.aload_n 0, 1) := by decide +kernel
theorem d_6_copyFrom_12 : decode cX6_copyFrom 12 = .ok (.getfield 20, 3) := by decide +kernel
theorem d_6_copyFrom_15 : decode cX6_copyFrom 15 = .ok (.aload_n 1, 1) := by decide +kernel
theorem d_6_copyFrom_16 : decode cX6_copyFrom 16 = .ok (.getfield 20, 3) := by decide +kernel
theorem d_6_copyFrom_19 : decode cX6_copyFrom 19 = .ok (.invokevirtual 99, 3) := by decide +kernel
theorem d_6_copyFrom_22 : decode cX6_copyFrom 22 = .ok (.aload_n 0, 1) := by decide +kernel
theorem d_6_copyFrom_23 : decode cX6_copyFrom 23 = .ok (.getfield 23, 3) := by decide +kernel
theorem d_6_copyFrom_26 : decode cX6_copyFrom 26 = .ok (.aload_n 1, 1) := by decide +kernel
theorem d_6_copyFrom_27 : decode cX6_copyFrom 27 = .ok (.getfield 23, 3) := by decide +kernel
theorem d_6_copyFrom_30 : decode cX6_copyFrom 30 = .ok (.invokevirtual 99, 3) := by decide +kernel
theorem d_6_copyFrom_33 : decode cX6_copyFrom 33 = .ok (.aload_n 0, 1) := by decide +kernel
theorem d_6_copyFrom_34 : decode cX6_copyFrom 34 = .ok (.getfield 29, 3) := by decide +kernel
theorem d_6_copyFrom_37 : decode cX6_copyFrom 37 = .ok (.aload_n 1, 1) := by decide +kernel
theorem d_6_copyFrom_38 : decode cX6_copyFrom 38 = .ok (.getfield 29, 3) := by decide +kernel
theorem d_6_copyFrom_41 : decode cX6_copyFrom 41 = .ok (.invokevirtual 103, 3) := by decide +kernel
theorem d_6_copyFrom_44 : decode cX6_copyFrom 44 = .ok (.aload_n 0, 1) := by decide +kernel
theorem d_6_copyFrom_45 : decode cX6_copyFrom 45 = .ok (.getfield 36, 3) := by decide +kernel
theorem d_6_copyFrom_48 : decode cX6_copyFrom 48 = .ok (.aload_n 1, 1) := by decide +kernel
theorem d_6_copyFrom_49 : decode cX6_copyFrom 49 = .ok (.getfield 36, 3) := by decide +kernel
theorem d_6_copyFrom_52 : decode cX6_copyFrom 52 = .ok (.invokevirtual 106, 3) := by decide +kernel
theorem d_6_copyFrom_55 : decode cX6_copyFrom 55 = .ok (.aload_n 0, 1) := by decide +kernel
theorem d_6_copyFrom_56 : decode cX6_copyFrom 56 = .ok (.aload_n 1, 1) := by decide +kernel
theorem d_6_copyFrom_57 : decode cX6_copyFrom 57 = .ok (.getfield 109, 3) := by decide +kernel
theorem d_6_copyFrom_60 : decode cX6_copyFrom 60 = .ok (.putfield 109, 3) := by decide +kernel
theorem d_6_copyFrom_63 : decode cX6_copyFrom 63 = .ok (.aload_n 0, 1) := by decide +kernel
theorem d_6_copyFrom_64 : decode cX6_copyFrom 64 = .ok (.aload_n 1, 1) := by decide +kernel
theorem d_6_copyFrom_65 : decode cX6_copyFrom 65 = .ok (.getfield 112, 3) := by decide +kernel
theorem d_6_copyFrom_68 : decode cX6_copyFrom 68 = .ok (.putfield 112, 3) := by decide +kernel
theorem d_6_copyFrom_71 : decode cX6_copyFrom 71 = .ok (.return_, 1) := by decide +kernel
theorem d_7_init_0 : decode cX7_init 0 = .ok (.aload_n 0, 1) := by decide +kernel
theorem d_7_init_1 : decode cX7_init 1 = .ok (.invokespecial 3, 3) := by decide +kernel
theorem d_7_init_4 : decode cX7_init 4 = .ok (.aload_n 0, 1) := by decide +kernel
theorem d_7_init_5 : decode cX7_init 5 = .ok (.bipush 16, 2) := by decide +kernel
theorem d_7_init_7 : decode cX7_init 7 = .ok (.newarray .char, 2) := by decide +kernel
theorem d_7_init_9 : decode cX7_init 9 = .ok (.putfield 9, 3) := by decide +kernel
theorem d_7_init_12 : decode cX7_init 12 = .ok (.return_, 1) := by decide +kernel
theorem d_7_length_0 : decode cX7_length 0 = .ok (.aload_n 0, 1) := by decide +kernel
theorem d_7_length_1 : decode cX7_length 1 = .ok (.getfield 15, 3) := by decide +kernel
theorem d_7_length_4 : decode cX7_length 4 = .ok (.ireturn, 1) := by decide +kernel
theorem d_7_letter_0 : decode cX7_letter 0 = .ok (.iload_n 1, 1) := by decide +kernel
theorem d_7_letter_1 : decode cX7_letter 1 = .ok (.ifCond .lt 24, 3) := by decide +kernel
theorem d_7_letter_4 : decode cX7_letter 4 = .ok (.iload_n 1, 1) := by decide +kernel
theorem d_7_letter_5 : decode cX7_letter 5 = .ok (.aload_n 0, 1) := by decide +kernel
theorem d_7_letter_6 : decode cX7_letter 6 = .ok (.getfield 15, 3) := by decide +kernel
theorem d_7_letter_9 : decode cX7_letter 9 = .ok (.if_icmp .ge 16, 3) := by decide +kernel
theorem d_7_letter_12 : decode cX7_letter 12 = .ok (.iload_n 1, 1) := by decide +kernel
theorem d_7_letter_13 : decode cX7_letter 13 = .ok (.aload_n 0, 1) := by decide +kernel
theorem d_7_letter_14 : decode cX7_letter 14 = .ok (.getfield 9, 3) := by decide +kernel
theorem d_7_letter_17 : decode cX7_letter 17 = .ok (.arraylength, 1) := by decide +kernel
theorem d_7_letter_18 : decode cX7_letter 18 = .ok (.if_icmp .ge 7, 3) := by decide +kernel
theorem d_7_letter_21 : decode cX7_letter 21 = .ok (.iconst 1, 1) := by decide +kernel
theorem d_7_letter_22 : decode cX7_letter 22 = .ok (.goto 4, 3) := by decide +kernel
theorem d_7_letter_25 : decode cX7_letter 25 = .ok (.iconst 0, 1) := by decide +kernel
theorem d_7_letter_26 : decode cX7_letter 26 = .ok (.istore_n 2, 1) := by decide +kernel
theorem d_7_letter_27 : decode cX7_letter 27 = .ok (.iload_n 2, 1) := by decide +kernel
theorem d_7_letter_28 : decode cX7_letter 28 = .ok (.ifCond .eq 12, 3) := by decide +kernel
theorem d_7_letter_31 : decode cX7_letter 31 = .ok (.aload_n 0, 1) := by decide +kernel
theorem d_7_letter_32 : decode cX7_letter 32 = .ok (.getfield 9, 3) := by decide +kernel
theorem d_7_letter_35 : decode cX7_letter 35 = .ok (.iload_n 1, 1) := by decide +kernel
theorem d_7_letter_36 : decode cX7_letter 36 = .ok (.caload, 1) := by decide +kernel
theorem d_7_letter_37 : decode cX7_letter 37 = .ok (.goto 4, 3) := by decide +kernel
theorem d_7_letter_40 : decode cX7_letter 40 = .ok (.iconst 0, 1) := by decide +kernel
theorem d_7_letter_41 : decode cX7_letter 41 = .ok (.ireturn, 1) := by decide +kernel
theorem d_7_clear_0 : decode cX7_clear 0 = .ok (.aload_n 0, 1) := by decide +kernel
theorem d_7_clear_1 : decode cX7_clear 1 = .ok (.iconst 0, 1) := by decide +kernel
theorem d_7_clear_2 : decode cX7_clear 2 = .ok (.putfield 15, 3) := by decide +kernel
theorem d_7_clear_5 : decode cX7_clear 5 = .ok (.return_, 1) := by decide +kernel
theorem d_7_append_0 : decode cX7_append 0 = .ok (.aload_n 0, 1) := by decide +kernel
theorem d_7_append_1 : decode cX7_append 1 = .ok (.getfield 15, 3) := by decide +kernel
theorem d_7_append_4 : decode cX7_append 4 = .ok (.ifCond .lt 35, 3) := by decide +kernel
theorem d_7_append_7 : decode cX7_append 7 = .ok (.aload_n 0, 1) := by decide +kernel
theorem d_7_append_8 : decode cX7_append 8 = .ok (.getfield 15, 3) := by decide +kernel
theorem d_7_append_11 : decode cX7_append 11 = .ok (.aload_n 0, 1) := by decide +kernel
theorem d_7_append_12 : decode cX7_append 12 = .ok (.getfield 9, 3) := by decide +kernel
theorem d_7_append_15 : decode cX7_append 15 = .ok (.arraylength, 1) := by decide +kernel
theorem d_7_append_16 : decode cX7_append 16 = .ok (.if_icmp .ge 23, 3) := by decide +kernel
theorem d_7_append_19 : decode cX7_append 19 = .ok (.aload_n 0, 1) := by decide +kernel
theorem d_7_append_20 : decode cX7_append 20 = .ok (.getfield 9, 3) := by decide +kernel
theorem d_7_append_23 : decode cX7_append 23 = .ok (.aload_n 0, 1) := by decide +kernel
theorem d_7_append_24 : decode cX7_append 24 = .ok (.getfield 15, 3) := by decide +kernel
theorem d_7_append_27 : decode cX7_append 27 = .ok (.iload_n 1, 1) := by decide +kernel
theorem d_7_append_28 : decode cX7_append 28 = .ok (.castore, 1) := by decide +kernel
theorem d_7_append_29 : decode cX7_append 29 = .ok (.aload_n 0, 1) := by decide +kernel
theorem d_7_append_30 : decode cX7_append 30 = .ok (.dup, 1) := by decide +kernel
theorem d_7_append_31 : decode cX7_append 31 = .ok (.getfield 15, 3) := by decide +kernel
theorem d_7_append_34 : decode cX7_append 34 = .ok (.iconst 1, 1) := by decide +kernel
theorem d_7_append_35 : decode cX7_append 35 = .ok (.iadd, 1) := by decide +kernel
theorem d_7_append_36 : decode cX7_append 36 = .ok (.putfield 15, 3) := by decide +kernel
theorem d_7_append_39 : decode cX7_append 39 = .ok (.return_, 1) := by decide +kernel
theorem d_7_shorten_0 : decode cX7_shorten 0 = .ok (.aload_n 0, 1) := by decide +kernel
theorem d_7_shorten_1 : decode cX7_shorten 1 = .ok (.iconst 0, 1) := by decide +kernel
theorem d_7_shorten_2 : decode cX7_shorten 2 = .ok (.aload_n 0, 1) := by decide +kernel
theorem d_7_shorten_3 : decode cX7_shorten 3 = .ok (.getfield 15, 3) := by decide +kernel
theorem d_7_shorten_6 : decode cX7_shorten 6 = .ok (.iload_n 1, 1) := by decide +kernel
theorem d_7_shorten_7 : decode cX7_shorten 7 = .ok (.isub, 1) := by decide +kernel
theorem d_7_shorten_8 : decode cX7_shorten 8 = .ok (.invokestatic 19, 3) := by decide +kernel
theorem d_7_shorten_11 : decode cX7_shorten 11 = .ok (.putfield 15, 3) := by decide +kernel
theorem d_7_shorten_14 : decode cX7_shorten 14 = .ok (.return_, 1) := by decide +kernel
theorem d_7_isSame_0 : decode cX7_isSame 0 = .ok (.aload_n 0, 1) := by decide +kernel
theorem d_7_isSame_1 : decode cX7_isSame 1 = .ok (.getfield 15, 3) := by decide +kernel
theorem d_7_isSame_4 : decode cX7_isSame 4 = .ok (.aload_n 1, 1) := by decide +kernel
theorem d_7_isSame_5 : decode cX7_isSame 5 = .ok (.getfield 15, 3) := by decide +kernel
theorem d_7_isSame_8 : decode cX7_isSame 8 = .ok (.if_icmp .eq 5, 3) := by decide +kernel
theorem d_7_isSame_11 : decode cX7_isSame 11 = .ok (.iconst 0, 1) := by decide +kernel
theorem d_7_isSame_12 : decode cX7_isSame 12 = .ok (.ireturn, 1) := by decide +kernel
theorem d_7_isSame_13 : decode cX7_isSame 13 = .ok (.iconst 0, 1) := by decide +kernel
theorem d_7_isSame_14 : decode cX7_isSame 14 = .ok (.istore_n 2, 1) := by decide +kernel
theorem d_7_isSame_15 : decode cX7_isSame 15 = .ok (.iload_n 2, 1) := by decide +kernel
theorem d_7_isSame_16 : decode cX7_isSame 16 = .ok (.aload_n 0, 1) := by decide +kernel
theorem d_7_isSame_17 : decode cX7_isSame 17 = .ok (.getfield 15, 3) := by decide +kernel
theorem d_7_isSame_20 : decode cX7_isSame 20 = .ok (.if_icmp .ge 24, 3) := by decide +kernel
theorem d_7_isSame_23 : decode cX7_isSame 23 = .ok (.aload_n 0, 1) := by decide +kernel
theorem d_7_isSame_24 : decode cX7_isSame 24 = .ok (.iload_n 2, 1) := by decide +kernel
theorem d_7_isSame_25 : decode cX7_isSame 25 = .ok (.invokevirtual 25, 3) := by decide +kernel
theorem d_7_isSame_28 : decode cX7_isSame 28 = .ok (.aload_n 1, 1) := by decide +kernel
theorem d_7_isSame_29 : decode cX7_isSame 29 = .ok (.iload_n 2, 1) := by decide +kernel
theorem d_7_isSame_30 : decode cX7_isSame 30 = .ok (.invokevirtual 25, 3) := by decide +kernel
theorem d_7_isSame_33 : decode cX7_isSame 33 = .ok (.if_icmp .eq 5, 3) := by decide +kernel
theorem d_7_isSame_36 : decode cX7_isSame 36 = .ok (.iconst 0, 1) := by decide +kernel
theorem d_7_isSame_37 : decode cX7_isSame 37 = .ok (.ireturn, 1) := by decide +kernel
theorem d_7_isSame_38 : decode cX7_isSame 38 = .ok (.iinc 2 1, 3) := by decide +kernel
theorem d_7_isSame_41 : decode cX7_isSame 41 = .ok (.goto (-26), 3) := by decide +kernel
theorem d_7_isSame_44 : decode cX7_isSame 44 = .ok (.iconst 1, 1) := by decide +kernel
theorem d_7_isSame_45 : decode cX7_isSame 45 = .ok (.ireturn, 1) := by decide +kernel
theorem d_7_copyFrom_0 : decode cX7_copyFrom 0 = .ok (.aload_n 1, 1) := by decide +kernel
theorem d_7_copyFrom_1 : decode cX7_copyFrom 1 = .ok (.getfield 9, 3) := by decide +kernel
theorem d_7_copyFrom_4 : decode cX7_copyFrom 4 = .ok (.iconst 0, 1) := by decide +kernel
theorem d_7_copyFrom_5 : decode cX7_copyFrom 5 = .ok (.aload_n 0, 1) := by decide +kernel
theorem d_7_copyFrom_6 : decode cX7_copyFrom 6 = .ok (.getfield 9, 3) := by decide +kernel
theorem d_7_copyFrom_9 : decode cX7_copyFrom 9 = .ok (.iconst 0, 1) := by decide +kernel
theorem d_7_copyFrom_10 : decode cX7_copyFrom 10 = .ok (.aload_n 1, 1) := by decide +kernel
theorem d_7_copyFrom_11 : decode cX7_copyFrom 11 = .ok (.getfield 9, 3) := by decide +kernel
theorem d_7_copyFrom_14 : decode cX7_copyFrom 14 = .ok (.arraylength, 1) := by decide +kernel
theorem d_7_copyFrom_15 : decode cX7_copyFrom 15 = .ok (.aload_n 0, 1) := by decide +kernel
theorem d_7_copyFrom_16 : decode cX7_copyFrom 16 = .ok (.getfield 9, 3) := by decide +kernel
theorem d_7_copyFrom_19 : decode cX7_copyFrom 19 = .ok (.arraylength, 1) := by decide +kernel
theorem d_7_copyFrom_20 : decode cX7_copyFrom 20 = .ok (.invokestatic 29, 3) := by decide +kernel
theorem d_7_copyFrom_23 : decode cX7_copyFrom 23 = .ok (.invokestatic 32, 3) := by decide +kernel
theorem d_7_copyFrom_26 : decode cX7_copyFrom 26 = .ok (.aload_n 0, 1) := by decide +kernel
theorem d_7_copyFrom_27 : decode cX7_copyFrom 27 = .ok (.aload_n 1, 1) := by decide +kernel
theorem d_7_copyFrom_28 : decode cX7_copyFrom 28 = .ok (.getfield 15, 3) := by decide +kernel
theorem d_7_copyFrom_31 : decode cX7_copyFrom 31 = .ok (.putfield 15, 3) := by decide +kernel
theorem d_7_copyFrom_34 : decode cX7_copyFrom 34 = .ok (.return_, 1) := by decide +kernel
theorem d_8_init_0 : decode cX8_init 0 = .ok (.aload_n 0, 1) := by decide +kernel
theorem d_8_init_1 : decode cX8_init 1 = .ok (.invokespecial 3, 3) := by decide +kernel
theorem d_8_init_4 : decode cX8_init 4 = .ok (.aload_n 0, 1) := by decide +kernel
theorem d_8_init_5 : decode cX8_init 5 = .ok (.iconst 0, 1) := by decide +kernel
theorem d_8_init_6 : decode cX8_init 6 = .ok (.iload_n 2, 1) := by decide +kernel
theorem d_8_init_7 : decode cX8_init 7 = .ok (.invokestatic 9, 3) := by decide +kernel
theorem d_8_init_10 : decode cX8_init 10 = .ok (.putfield 15, 3) := by decide +kernel
theorem d_8_init_13 : decode cX8_init 13 = .ok (.aload_n 0, 1) := by decide +kernel
theorem d_8_init_14 : decode cX8_init 14 = .ok (.iconst 0, 1) := by decide +kernel
theorem d_8_init_15 : decode cX8_init 15 = .ok (.iload_n 1, 1) := by decide +kernel
theorem d_8_init_16 : decode cX8_init 16 = .ok (.iload_n 2, 1) := by decide +kernel
theorem d_8_init_17 : decode cX8_init 17 = .ok (.imul, 1) := by decide +kernel
theorem d_8_init_18 : decode cX8_init 18 = .ok (.invokestatic 9, 3) := by decide +kernel
theorem d_8_init_21 : decode cX8_init 21 = .ok (.newarray .char, 2) := by decide +kernel
theorem d_8_init_23 : decode cX8_init 23 = .ok (.putfield 21, 3) := by decide +kernel
theorem d_8_init_26 : decode cX8_init 26 = .ok (.aload_n 0, 1) := by decide +kernel
theorem d_8_init_27 : decode cX8_init 27 = .ok (.iconst 0, 1) := by decide +kernel
theorem d_8_init_28 : decode cX8_init 28 = .ok (.iload_n 1, 1) := by decide +kernel
theorem d_8_init_29 : decode cX8_init 29 = .ok (.invokestatic 9, 3) := by decide +kernel
theorem d_8_init_32 : decode cX8_init 32 = .ok (.newarray .int, 2) := by decide +kernel
theorem d_8_init_34 : decode cX8_init 34 = .ok (.putfield 25, 3) := by decide +kernel
theorem d_8_init_37 : decode cX8_init 37 = .ok (.return_, 1) := by decide +kernel
theorem d_8_count_0 : decode cX8_count 0 = .ok (.aload_n 0, 1) := by decide +kernel
theorem d_8_count_1 : decode cX8_count 1 = .ok (.getfield 29, 3) := by decide +kernel
theorem d_8_count_4 : decode cX8_count 4 = .ok (.ireturn, 1) := by decide +kernel
theorem d_8_isFull_0 : decode cX8_isFull 0 = .ok (.aload_n 0, 1) := by decide +kernel
theorem d_8_isFull_1 : decode cX8_isFull 1 = .ok (.getfield 29, 3) := by decide +kernel
theorem d_8_isFull_4 : decode cX8_isFull 4 = .ok (.aload_n 0, 1) := by decide +kernel
theorem d_8_isFull_5 : decode cX8_isFull 5 = .ok (.getfield 25, 3) := by decide +kernel
theorem d_8_isFull_8 : decode cX8_isFull 8 = .ok (.arraylength, 1) := by decide +kernel
theorem d_8_isFull_9 : decode cX8_isFull 9 = .ok (.if_icmp .lt 7, 3) := by decide +kernel
theorem d_8_isFull_12 : decode cX8_isFull 12 = .ok (.iconst 1, 1) := by decide +kernel
theorem d_8_isFull_13 : decode cX8_isFull 13 = .ok (.goto 4, 3) := by decide +kernel
theorem d_8_isFull_16 : decode cX8_isFull 16 = .ok (.iconst 0, 1) := by decide +kernel
theorem d_8_isFull_17 : decode cX8_isFull 17 = .ok (.ireturn, 1) := by decide +kernel
theorem d_8_lengthOf_0 : decode cX8_lengthOf 0 = .ok (.iload_n 1, 1) := by decide +kernel
theorem d_8_lengthOf_1 : decode cX8_lengthOf 1 = .ok (.ifCond .lt 29, 3) := by decide +kernel
theorem d_8_lengthOf_4 : decode cX8_lengthOf 4 = .ok (.iload_n 1, 1) := by decide +kernel
theorem d_8_lengthOf_5 : decode cX8_lengthOf 5 = .ok (.aload_n 0, 1) := by decide +kernel
theorem d_8_lengthOf_6 : decode cX8_lengthOf 6 = .ok (.getfield 29, 3) := by decide +kernel
theorem d_8_lengthOf_9 : decode cX8_lengthOf 9 = .ok (.if_icmp .ge 21, 3) := by decide +kernel
theorem d_8_lengthOf_12 : decode cX8_lengthOf 12 = .ok (.iload_n 1, 1) := by decide +kernel
theorem d_8_lengthOf_13 : decode cX8_lengthOf 13 = .ok (.aload_n 0, 1) := by decide +kernel
theorem d_8_lengthOf_14 : decode cX8_lengthOf 14 = .ok (.getfield 25, 3) := by decide +kernel
theorem d_8_lengthOf_17 : decode cX8_lengthOf 17 = .ok (.arraylength, 1) := by decide +kernel
theorem d_8_lengthOf_18 : decode cX8_lengthOf 18 = .ok (.if_icmp .ge 12, 3) := by decide +kernel
theorem d_8_lengthOf_21 : decode cX8_lengthOf 21 = .ok (.aload_n 0, 1) := by decide +kernel
theorem d_8_lengthOf_22 : decode cX8_lengthOf 22 = .ok (.getfield 25, 3) := by decide +kernel
theorem d_8_lengthOf_25 : decode cX8_lengthOf 25 = .ok (.iload_n 1, 1) := by decide +kernel
theorem d_8_lengthOf_26 : decode cX8_lengthOf 26 = .ok (.iaload, 1) := by decide +kernel
theorem d_8_lengthOf_27 : decode cX8_lengthOf 27 = .ok (.goto 4, 3) := by decide +kernel
theorem d_8_lengthOf_30 : decode cX8_lengthOf 30 = .ok (.iconst 0, 1) := by decide +kernel
theorem d_8_lengthOf_31 : decode cX8_lengthOf 31 = .ok (.ireturn, 1) := by decide +kernel
theorem d_8_letterOf_0 : decode cX8_letterOf 0 = .ok (.iload_n 1, 1) := by decide +kernel
theorem d_8_letterOf_1 : decode cX8_letterOf 1 = .ok (.aload_n 0, 1) := by decide +kernel
theorem d_8_letterOf_2 : decode cX8_letterOf 2 = .ok (.getfield 15, 3) := by decide +kernel
theorem d_8_letterOf_5 : decode cX8_letterOf 5 = .ok (.imul, 1) := by decide +kernel
theorem d_8_letterOf_6 : decode cX8_letterOf 6 = .ok (.iload_n 2, 1) := by decide +kernel
theorem d_8_letterOf_7 : decode cX8_letterOf 7 = .ok (.iadd, 1) := by decide +kernel
theorem d_8_letterOf_8 : decode cX8_letterOf 8 = .ok (.istore_n 3, 1) := by decide +kernel
theorem d_8_letterOf_9 : decode cX8_letterOf 9 = .ok (.iload_n 3, 1) := by decide +kernel
theorem d_8_letterOf_10 : decode cX8_letterOf 10 = .ok (.ifCond .lt 21, 3) := by decide +kernel
theorem d_8_letterOf_13 : decode cX8_letterOf 13 = .ok (.iload_n 3, 1) := by decide +kernel
theorem d_8_letterOf_14 : decode cX8_letterOf 14 = .ok (.aload_n 0, 1) := by decide +kernel
theorem d_8_letterOf_15 : decode cX8_letterOf 15 = .ok (.getfield 21, 3) := by decide +kernel
theorem d_8_letterOf_18 : decode cX8_letterOf 18 = .ok (.arraylength, 1) := by decide +kernel
theorem d_8_letterOf_19 : decode cX8_letterOf 19 = .ok (.if_icmp .ge 12, 3) := by decide +kernel
theorem d_8_letterOf_22 : decode cX8_letterOf 22 = .ok (.aload_n 0, 1) := by decide +kernel
theorem d_8_letterOf_23 : decode cX8_letterOf 23 = .ok (.getfield 21, 3) := by decide +kernel
theorem d_8_letterOf_26 : decode cX8_letterOf 26 = .ok (.iload_n 3, 1) := by decide +kernel
theorem d_8_letterOf_27 : decode cX8_letterOf 27 = .ok (.caload, 1) := by decide +kernel
theorem d_8_letterOf_28 : decode cX8_letterOf 28 = .ok (.goto 4, 3) := by decide +kernel
theorem d_8_letterOf_31 : decode cX8_letterOf 31 = .ok (.iconst 0, 1) := by decide +kernel
theorem d_8_letterOf_32 : decode cX8_letterOf 32 = .ok (.ireturn, 1) := by decide +kernel
theorem d_8_clear_0 : decode cX8_clear 0 = .ok (.aload_n 0, 1) := by decide +kernel
theorem d_8_clear_1 : decode cX8_clear 1 = .ok (.iconst 0, 1) := by decide +kernel
theorem d_8_clear_2 : decode cX8_clear 2 = .ok (.putfield 29, 3) := by decide +kernel
theorem d_8_clear_5 : decode cX8_clear 5 = .ok (.return_, 1) := by decide +kernel
theorem d_8_add_0 : decode cX8_add 0 = .ok (.aload_n 0, 1) := by decide +kernel
theorem d_8_add_1 : decode cX8_add 1 = .ok (.invokevirtual 32, 3) := by decide +kernel
theorem d_8_add_4 : decode cX8_add 4 = .ok (.ifCond .eq 5, 3) := by decide +kernel
theorem d_8_add_7 : decode cX8_add 7 = .ok (.iconst 0, 1) := by decide +kernel
theorem d_8_add_8 : decode cX8_add 8 = .ok (.ireturn, 1) := by decide +kernel
theorem d_8_add_9 : decode cX8_add 9 = .ok (.aload_n 0, 1) := by decide +kernel
theorem d_8_add_10 : decode cX8_add 10 = .ok (.dup, 1) := by decide +kernel
theorem d_8_add_11 : decode cX8_add 11 = .ok (.getfield 29, 3) := by decide +kernel
theorem d_8_add_14 : decode cX8_add 14 = .ok (.iconst 1, 1) := by decide +kernel
theorem d_8_add_15 : decode cX8_add 15 = .ok (.iadd, 1) := by decide +kernel
theorem d_8_add_16 : decode cX8_add 16 = .ok (.putfield 29, 3) := by decide +kernel
theorem d_8_add_19 : decode cX8_add 19 = .ok (.aload_n 0, 1) := by decide +kernel
theorem d_8_add_20 : decode cX8_add 20 = .ok (.aload_n 0, 1) := by decide +kernel
theorem d_8_add_21 : decode cX8_add 21 = .ok (.getfield 29, 3) := by decide +kernel
theorem d_8_add_24 : decode cX8_add 24 = .ok (.iconst 1, 1) := by decide +kernel
theorem d_8_add_25 : decode cX8_add 25 = .ok (.isub, 1) := by decide +kernel
theorem d_8_add_26 : decode cX8_add 26 = .ok (.aload_n 1, 1) := by decide +kernel
theorem d_8_add_27 : decode cX8_add 27 = .ok (.invokevirtual 36, 3) := by decide +kernel
theorem d_8_add_30 : decode cX8_add 30 = .ok (.iconst 1, 1) := by decide +kernel
theorem d_8_add_31 : decode cX8_add 31 = .ok (.ireturn, 1) := by decide +kernel
theorem d_8_put_0 : decode cX8_put 0 = .ok (.iload_n 1, 1) := by decide +kernel
theorem d_8_put_1 : decode cX8_put 1 = .ok (.ifCond .lt 20, 3) := by decide +kernel
theorem d_8_put_4 : decode cX8_put 4 = .ok (.iload_n 1, 1) := by decide +kernel
theorem d_8_put_5 : decode cX8_put 5 = .ok (.aload_n 0, 1) := by decide +kernel
theorem d_8_put_6 : decode cX8_put 6 = .ok (.getfield 29, 3) := by decide +kernel
theorem d_8_put_9 : decode cX8_put 9 = .ok (.if_icmp .ge 12, 3) := by decide +kernel
theorem d_8_put_12 : decode cX8_put 12 = .ok (.iload_n 1, 1) := by decide +kernel
theorem d_8_put_13 : decode cX8_put 13 = .ok (.aload_n 0, 1) := by decide +kernel
theorem d_8_put_14 : decode cX8_put 14 = .ok (.getfield 25, 3) := by decide +kernel
theorem d_8_put_17 : decode cX8_put 17 = .ok (.arraylength, 1) := by decide +kernel
theorem d_8_put_18 : decode cX8_put 18 = .ok (.if_icmp .lt 4, 3) := by decide +kernel
theorem d_8_put_21 : decode cX8_put 21 = .ok (.return_, 1) := by decide +kernel
theorem d_8_put_22 : decode cX8_put 22 = .ok (.aload_n 0, 1) := by decide +kernel
theorem d_8_put_23 : decode cX8_put 23 = .ok (.getfield 25, 3) := by decide +kernel
theorem d_8_put_26 : decode cX8_put 26 = .ok (.iload_n 1, 1) := by decide +kernel
theorem d_8_put_27 : decode cX8_put 27 = .ok (.aload_n 2, 1) := by decide +kernel
theorem d_8_put_28 : decode cX8_put 28 = .ok (.invokevirtual 40, 3) := by decide +kernel
theorem d_8_put_31 : decode cX8_put 31 = .ok (.aload_n 0, 1) := by decide +kernel
theorem d_8_put_32 : decode cX8_put 32 = .ok (.getfield 15, 3) := by decide +kernel
theorem d_8_put_35 : decode cX8_put 35 = .ok (.invokestatic 46, 3) := by decide +kernel
theorem d_8_put_38 : decode cX8_put 38 = .ok (.iastore, 1) := by decide +kernel
theorem d_8_put_39 : decode cX8_put 39 = .ok (.iconst 0, 1) := by decide +kernel
theorem d_8_put_40 : decode cX8_put 40 = .ok (.istore_n 3, 1) := by decide +kernel
theorem d_8_put_41 : decode cX8_put 41 = .ok (.iload_n 3, 1) := by decide +kernel
theorem d_8_put_42 : decode cX8_put 42 = .ok (.aload_n 0, 1) := by decide +kernel
theorem d_8_put_43 : decode cX8_put 43 = .ok (.getfield 15, 3) := by decide +kernel
theorem d_8_put_46 : decode cX8_put 46 = .ok (.if_icmp .ge 46, 3) := by decide +kernel
theorem d_8_put_49 : decode cX8_put 49 = .ok (.iload_n 1, 1) := by decide +kernel
theorem d_8_put_50 : decode cX8_put 50 = .ok (.aload_n 0, 1) := by decide +kernel
theorem d_8_put_51 : decode cX8_put 51 = .ok (.getfield 15, 3) := by decide +kernel
theorem d_8_put_54 : decode cX8_put 54 = .ok (.imul, 1) := by decide +kernel
theorem d_8_put_55 : decode cX8_put 55 = .ok (.iload_n 3, 1) := by decide +kernel
theorem d_8_put_56 : decode cX8_put 56 = .ok (.iadd, 1) := by decide +kernel
theorem d_8_put_57 : decode cX8_put 57 = .ok (.istore 4, 2) := by decide +kernel
theorem d_8_put_59 : decode cX8_put 59 = .ok (.iload 4, 2) := by decide +kernel
theorem d_8_put_61 : decode cX8_put 61 = .ok (.ifCond .lt 25, 3) := by decide +kernel
theorem d_8_put_64 : decode cX8_put 64 = .ok (.iload 4, 2) := by decide +kernel
theorem d_8_put_66 : decode cX8_put 66 = .ok (.aload_n 0, 1) := by decide +kernel
theorem d_8_put_67 : decode cX8_put 67 = .ok (.getfield 21, 3) := by decide +kernel
theorem d_8_put_70 : decode cX8_put 70 = .ok (.arraylength, 1) := by decide +kernel
theorem d_8_put_71 : decode cX8_put 71 = .ok (.if_icmp .ge 15, 3) := by decide +kernel
theorem d_8_put_74 : decode cX8_put 74 = .ok (.aload_n 0, 1) := by decide +kernel
theorem d_8_put_75 : decode cX8_put 75 = .ok (.getfield 21, 3) := by decide +kernel
theorem d_8_put_78 : decode cX8_put 78 = .ok (.iload 4, 2) := by decide +kernel
theorem d_8_put_80 : decode cX8_put 80 = .ok (.aload_n 2, 1) := by decide +kernel
theorem d_8_put_81 : decode cX8_put 81 = .ok (.iload_n 3, 1) := by decide +kernel
theorem d_8_put_82 : decode cX8_put 82 = .ok (.invokevirtual 49, 3) := by decide +kernel
theorem d_8_put_85 : decode cX8_put 85 = .ok (.castore, 1) := by decide +kernel
theorem d_8_put_86 : decode cX8_put 86 = .ok (.iinc 3 1, 3) := by decide +kernel
theorem d_8_put_89 : decode cX8_put 89 = .ok (.goto (-48), 3) := by decide +kernel
theorem d_8_put_92 : decode cX8_put 92 = .ok (.return_, 1) := by decide +kernel
theorem d_8_remove_0 : decode cX8_remove 0 = .ok (.iload_n 1, 1) := by decide +kernel
theorem d_8_remove_1 : decode cX8_remove 1 = .ok (.ifCond .lt 11, 3) := by decide +kernel
theorem d_8_remove_4 : decode cX8_remove 4 = .ok (.iload_n 1, 1) := by decide +kernel
theorem d_8_remove_5 : decode cX8_remove 5 = .ok (.aload_n 0, 1) := by decide +kernel
theorem d_8_remove_6 : decode cX8_remove 6 = .ok (.getfield 29, 3) := by decide +kernel
theorem d_8_remove_9 : decode cX8_remove 9 = .ok (.if_icmp .lt 4, 3) := by decide +kernel
theorem d_8_remove_12 : decode cX8_remove 12 = .ok (.return_, 1) := by decide +kernel
theorem d_8_remove_13 : decode cX8_remove 13 = .ok (.iload_n 1, 1) := by decide +kernel
theorem d_8_remove_14 : decode cX8_remove 14 = .ok (.aload_n 0, 1) := by decide +kernel
theorem d_8_remove_15 : decode cX8_remove 15 = .ok (.getfield 15, 3) := by decide +kernel
theorem d_8_remove_18 : decode cX8_remove 18 = .ok (.imul, 1) := by decide +kernel
theorem d_8_remove_19 : decode cX8_remove 19 = .ok (.istore_n 2, 1) := by decide +kernel
theorem d_8_remove_20 : decode cX8_remove 20 = .ok (.iload_n 2, 1) := by decide +kernel
theorem d_8_remove_21 : decode cX8_remove 21 = .ok (.aload_n 0, 1) := by decide +kernel
theorem d_8_remove_22 : decode cX8_remove 22 = .ok (.getfield 21, 3) := by decide +kernel
theorem d_8_remove_25 : decode cX8_remove 25 = .ok (.arraylength, 1) := by decide +kernel
theorem d_8_remove_26 : decode cX8_remove 26 = .ok (.aload_n 0, 1) := by decide +kernel
theorem d_8_remove_27 : decode cX8_remove 27 = .ok (.getfield 15, 3) := by decide +kernel
theorem d_8_remove_30 : decode cX8_remove 30 = .ok (.isub, 1) := by decide +kernel
theorem d_8_remove_31 : decode cX8_remove 31 = .ok (.if_icmp .ge 30, 3) := by decide +kernel
theorem d_8_remove_34 : decode cX8_remove 34 = .ok (.iload_n 2, 1) := by decide +kernel
theorem d_8_remove_35 : decode cX8_remove 35 = .ok (.ifCond .lt 20, 3) := by decide +kernel
theorem d_8_remove_38 : decode cX8_remove 38 = .ok (.aload_n 0, 1) := by decide +kernel
theorem d_8_remove_39 : decode cX8_remove 39 = .ok (.getfield 21, 3) := by decide +kernel
theorem d_8_remove_42 : decode cX8_remove 42 = .ok (.iload_n 2, 1) := by decide +kernel
theorem d_8_remove_43 : decode cX8_remove 43 = .ok (.aload_n 0, 1) := by decide +kernel
theorem d_8_remove_44 : decode cX8_remove 44 = .ok (.getfield 21, 3) := by decide +kernel
theorem d_8_remove_47 : decode cX8_remove 47 = .ok (.iload_n 2, 1) := by decide +kernel
theorem d_8_remove_48 : decode cX8_remove 48 = .ok (.aload_n 0, 1) := by decide +kernel
theorem d_8_remove_49 : decode cX8_remove 49 = .ok (.getfield 15, 3) := by decide +kernel
theorem d_8_remove_52 : decode cX8_remove 52 = .ok (.iadd, 1) := by decide +kernel
theorem d_8_remove_53 : decode cX8_remove 53 = .ok (.caload, 1) := by decide +kernel
theorem d_8_remove_54 : decode cX8_remove 54 = .ok (.castore, 1) := by decide +kernel
theorem d_8_remove_55 : decode cX8_remove 55 = .ok (.iinc 2 1, 3) := by decide +kernel
theorem d_8_remove_58 : decode cX8_remove 58 = .ok (.goto (-38), 3) := by decide +kernel
theorem d_8_remove_61 : decode cX8_remove 61 = .ok (.aload_n 0, 1) := by decide +kernel
theorem d_8_remove_62 : decode cX8_remove 62 = .ok (.getfield 25, 3) := by decide +kernel
theorem d_8_remove_65 : decode cX8_remove 65 = .ok (.iload_n 1, 1) := by decide +kernel
theorem d_8_remove_66 : decode cX8_remove 66 = .ok (.invokestatic 53, 3) := by decide +kernel
theorem d_8_remove_69 : decode cX8_remove 69 = .ok (.aload_n 0, 1) := by decide +kernel
theorem d_8_remove_70 : decode cX8_remove 70 = .ok (.dup, 1) := by decide +kernel
theorem d_8_remove_71 : decode cX8_remove 71 = .ok (.getfield 29, 3) := by decide +kernel
theorem d_8_remove_74 : decode cX8_remove 74 = .ok (.iconst 1, 1) := by decide +kernel
theorem d_8_remove_75 : decode cX8_remove 75 = .ok (.isub, 1) := by decide +kernel
theorem d_8_remove_76 : decode cX8_remove 76 = .ok (.putfield 29, 3) := by decide +kernel
theorem d_8_remove_79 : decode cX8_remove 79 = .ok (.return_, 1) := by decide +kernel
theorem d_8_load_0 : decode cX8_load 0 = .ok (.aload_n 2, 1) := by decide +kernel
theorem d_8_load_1 : decode cX8_load 1 = .ok (.invokevirtual 57, 3) := by decide +kernel
theorem d_8_load_4 : decode cX8_load 4 = .ok (.aload_n 0, 1) := by decide +kernel
theorem d_8_load_5 : decode cX8_load 5 = .ok (.iload_n 1, 1) := by decide +kernel
theorem d_8_load_6 : decode cX8_load 6 = .ok (.aload_n 2, 1) := by decide +kernel
theorem d_8_load_7 : decode cX8_load 7 = .ok (.invokevirtual 60, 3) := by decide +kernel
theorem d_8_load_10 : decode cX8_load 10 = .ok (.return_, 1) := by decide +kernel
theorem d_8_appendTo_0 : decode cX8_appendTo 0 = .ok (.aload_n 0, 1) := by decide +kernel
theorem d_8_appendTo_1 : decode cX8_appendTo 1 = .ok (.iload_n 1, 1) := by decide +kernel
theorem d_8_appendTo_2 : decode cX8_appendTo 2 = .ok (.invokevirtual 63, 3) := by decide +kernel
theorem d_8_appendTo_5 : decode cX8_appendTo 5 = .ok (.istore_n 3, 1) := by decide +kernel
theorem d_8_appendTo_6 : decode cX8_appendTo 6 = .ok (.iconst 0, 1) := by decide +kernel
theorem d_8_appendTo_7 : decode cX8_appendTo 7 = .ok (.istore 4, 2) := by decide +kernel
theorem d_8_appendTo_9 : decode cX8_appendTo 9 = .ok (.iload 4, 2) := by decide +kernel
theorem d_8_appendTo_11 : decode cX8_appendTo 11 = .ok (.iload_n 3, 1) := by decide +kernel
theorem d_8_appendTo_12 : decode cX8_appendTo 12 = .ok (.if_icmp .ge 20, 3) := by decide +kernel
theorem d_8_appendTo_15 : decode cX8_appendTo 15 = .ok (.aload_n 2, 1) := by decide +kernel
theorem d_8_appendTo_16 : decode cX8_appendTo 16 = .ok (.aload_n 0, 1) := by decide +kernel
theorem d_8_appendTo_17 : decode cX8_appendTo 17 = .ok (.iload_n 1, 1) := by decide +kernel
theorem d_8_appendTo_18 : decode cX8_appendTo 18 = .ok (.iload 4, 2) := by decide +kernel
theorem d_8_appendTo_20 : decode cX8_appendTo 20 = .ok (.invokevirtual 67, 3) := by decide +kernel
theorem d_8_appendTo_23 : decode cX8_appendTo 23 = .ok (.invokevirtual 71, 3) := by decide +kernel
theorem d_8_appendTo_26 : decode cX8_appendTo 26 = .ok (.iinc 4 1, 3) := by decide +kernel
theorem d_8_appendTo_29 : decode cX8_appendTo 29 = .ok (.goto (-20), 3) := by decide +kernel
theorem d_8_appendTo_32 : decode cX8_appendTo 32 = .ok (.return_, 1) := by decide +kernel
theorem d_8_isSame_0 : decode cX8_isSame 0 = .ok (.aload_n 0, 1) := by decide +kernel
theorem d_8_isSame_1 : decode cX8_isSame 1 = .ok (.iload_n 1, 1) := by decide +kernel
theorem d_8_isSame_2 : decode cX8_isSame 2 = .ok (.invokevirtual 63, 3) := by decide +kernel
theorem d_8_isSame_5 : decode cX8_isSame 5 = .ok (.aload_n 2, 1) := by decide +kernel
theorem d_8_isSame_6 : decode cX8_isSame 6 = .ok (.invokevirtual 40, 3) := by decide +kernel
theorem d_8_isSame_9 : decode cX8_isSame 9 = .ok (.if_icmp .ne 16, 3) := by decide +kernel
theorem d_8_isSame_12 : decode cX8_isSame 12 = .ok (.aload_n 0, 1) := by decide +kernel
theorem d_8_isSame_13 : decode cX8_isSame 13 = .ok (.iload_n 1, 1) := by decide +kernel
theorem d_8_isSame_14 : decode cX8_isSame 14 = .ok (.aload_n 2, 1) := by decide +kernel
theorem d_8_isSame_15 : decode cX8_isSame 15 = .ok (.invokevirtual 75, 3) := by decide +kernel
theorem d_8_isSame_18 : decode cX8_isSame 18 = .ok (.ifCond .eq 7, 3) := by decide +kernel
theorem d_8_isSame_21 : decode cX8_isSame 21 = .ok (.iconst 1, 1) := by decide +kernel
theorem d_8_isSame_22 : decode cX8_isSame 22 = .ok (.goto 4, 3) := by decide +kernel
theorem d_8_isSame_25 : decode cX8_isSame 25 = .ok (.iconst 0, 1) := by decide +kernel
theorem d_8_isSame_26 : decode cX8_isSame 26 = .ok (.ireturn, 1) := by decide +kernel
theorem d_8_isEndOf_0 : decode cX8_isEndOf 0 = .ok (.aload_n 0, 1) := by decide +kernel
theorem d_8_isEndOf_1 : decode cX8_isEndOf 1 = .ok (.iload_n 1, 1) := by decide +kernel
theorem d_8_isEndOf_2 : decode cX8_isEndOf 2 = .ok (.invokevirtual 63, 3) := by decide +kernel
theorem d_8_isEndOf_5 : decode cX8_isEndOf 5 = .ok (.istore_n 3, 1) := by decide +kernel
theorem d_8_isEndOf_6 : decode cX8_isEndOf 6 = .ok (.aload_n 2, 1) := by decide +kernel
theorem d_8_isEndOf_7 : decode cX8_isEndOf 7 = .ok (.invokevirtual 40, 3) := by decide +kernel
theorem d_8_isEndOf_10 : decode cX8_isEndOf 10 = .ok (.iload_n 3, 1) := by decide +kernel
theorem d_8_isEndOf_11 : decode cX8_isEndOf 11 = .ok (.isub, 1) := by decide +kernel
theorem d_8_isEndOf_12 : decode cX8_isEndOf 12 = .ok (.istore 4, 2) := by decide +kernel
theorem d_8_isEndOf_14 : decode cX8_isEndOf 14 = .ok (.iload 4, 2) := by decide +kernel
theorem d_8_isEndOf_16 : decode cX8_isEndOf 16 = .ok (.ifCond .ge 5, 3) := by decide +kernel
theorem d_8_isEndOf_19 : decode cX8_isEndOf 19 = .ok (.iconst 0, 1) := by decide +kernel
theorem d_8_isEndOf_20 : decode cX8_isEndOf 20 = .ok (.ireturn, 1) := by decide +kernel
theorem d_8_isEndOf_21 : decode cX8_isEndOf 21 = .ok (.iconst 0, 1) := by decide +kernel
theorem d_8_isEndOf_22 : decode cX8_isEndOf 22 = .ok (.istore 5, 2) := by decide +kernel
theorem d_8_isEndOf_24 : decode cX8_isEndOf 24 = .ok (.iload 5, 2) := by decide +kernel
theorem d_8_isEndOf_26 : decode cX8_isEndOf 26 = .ok (.iload_n 3, 1) := by decide +kernel
theorem d_8_isEndOf_27 : decode cX8_isEndOf 27 = .ok (.if_icmp .ge 30, 3) := by decide +kernel
theorem d_8_isEndOf_30 : decode cX8_isEndOf 30 = .ok (.aload_n 0, 1) := by decide +kernel
theorem d_8_isEndOf_31 : decode cX8_isEndOf 31 = .ok (.iload_n 1, 1) := by decide +kernel
theorem d_8_isEndOf_32 : decode cX8_isEndOf 32 = .ok (.iload 5, 2) := by decide +kernel
theorem d_8_isEndOf_34 : decode cX8_isEndOf 34 = .ok (.invokevirtual 67, 3) := by decide +kernel
theorem d_8_isEndOf_37 : decode cX8_isEndOf 37 = .ok (.aload_n 2, 1) := by decide +kernel
theorem d_8_isEndOf_38 : decode cX8_isEndOf 38 = .ok (.iload 4, 2) := by decide +kernel
theorem d_8_isEndOf_40 : decode cX8_isEndOf 40 = .ok (.iload 5, 2) := by decide +kernel
theorem d_8_isEndOf_42 : decode cX8_isEndOf 42 = .ok (.iadd, 1) := by decide +kernel
theorem d_8_isEndOf_43 : decode cX8_isEndOf 43 = .ok (.invokevirtual 49, 3) := by decide +kernel
theorem d_8_isEndOf_46 : decode cX8_isEndOf 46 = .ok (.if_icmp .eq 5, 3) := by decide +kernel
theorem d_8_isEndOf_49 : decode cX8_isEndOf 49 = .ok (.iconst 0, 1) := by decide +kernel
theorem d_8_isEndOf_50 : decode cX8_isEndOf 50 = .ok (.ireturn, 1) := by decide +kernel
theorem d_8_isEndOf_51 : decode cX8_isEndOf 51 = .ok (.iinc 5 1, 3) := by decide +kernel
theorem d_8_isEndOf_54 : decode cX8_isEndOf 54 = .ok (.goto (-30), 3) := by decide +kernel
theorem d_8_isEndOf_57 : decode cX8_isEndOf 57 = .ok (.iconst 1, 1) := by decide +kernel
theorem d_8_isEndOf_58 : decode cX8_isEndOf 58 = .ok (.ireturn, 1) := by decide +kernel
theorem d_8_find_0 : decode cX8_find 0 = .ok (.iconst 0, 1) := by decide +kernel
theorem d_8_find_1 : decode cX8_find 1 = .ok (.istore_n 2, 1) := by decide +kernel
theorem d_8_find_2 : decode cX8_find 2 = .ok (.iload_n 2, 1) := by decide +kernel
theorem d_8_find_3 : decode cX8_find 3 = .ok (.aload_n 0, 1) := by decide +kernel
theorem d_8_find_4 : decode cX8_find 4 = .ok (.getfield 29, 3) := by decide +kernel
theorem d_8_find_7 : decode cX8_find 7 = .ok (.if_icmp .ge 20, 3) := by decide +kernel
theorem d_8_find_10 : decode cX8_find 10 = .ok (.aload_n 0, 1) := by decide +kernel
theorem d_8_find_11 : decode cX8_find 11 = .ok (.iload_n 2, 1) := by decide +kernel
theorem d_8_find_12 : decode cX8_find 12 = .ok (.aload_n 1, 1) := by decide +kernel
theorem d_8_find_13 : decode cX8_find 13 = .ok (.invokevirtual 79, 3) := by decide +kernel
theorem d_8_find_16 : decode cX8_find 16 = .ok (.ifCond .eq 5, 3) := by decide +kernel
theorem d_8_find_19 : decode cX8_find 19 = .ok (.iload_n 2, 1) := by decide +kernel
theorem d_8_find_20 : decode cX8_find 20 = .ok (.ireturn, 1) := by decide +kernel
theorem d_8_find_21 : decode cX8_find 21 = .ok (.iinc 2 1, 3) := by decide +kernel
theorem d_8_find_24 : decode cX8_find 24 = .ok (.goto (-22), 3) := by decide +kernel
theorem d_8_find_27 : decode cX8_find 27 = .ok (.iconst (-1), 1) := by decide +kernel
theorem d_8_find_28 : decode cX8_find 28 = .ok (.ireturn, 1) := by decide +kernel
theorem d_8_countOf_0 : decode cX8_countOf 0 = .ok (.iconst 0, 1) := by decide +kernel
theorem d_8_countOf_1 : decode cX8_countOf 1 = .ok (.istore_n 2, 1) := by decide +kernel
theorem d_8_countOf_2 : decode cX8_countOf 2 = .ok (.iconst 0, 1) := by decide +kernel
theorem d_8_countOf_3 : decode cX8_countOf 3 = .ok (.istore_n 3, 1) := by decide +kernel
theorem d_8_countOf_4 : decode cX8_countOf 4 = .ok (.iload_n 3, 1) := by decide +kernel
theorem d_8_countOf_5 : decode cX8_countOf 5 = .ok (.aload_n 0, 1) := by decide +kernel
theorem d_8_countOf_6 : decode cX8_countOf 6 = .ok (.getfield 29, 3) := by decide +kernel
theorem d_8_countOf_9 : decode cX8_countOf 9 = .ok (.if_icmp .ge 21, 3) := by decide +kernel
theorem d_8_countOf_12 : decode cX8_countOf 12 = .ok (.aload_n 0, 1) := by decide +kernel
theorem d_8_countOf_13 : decode cX8_countOf 13 = .ok (.iload_n 3, 1) := by decide +kernel
theorem d_8_countOf_14 : decode cX8_countOf 14 = .ok (.aload_n 1, 1) := by decide +kernel
theorem d_8_countOf_15 : decode cX8_countOf 15 = .ok (.invokevirtual 79, 3) := by decide +kernel
theorem d_8_countOf_18 : decode cX8_countOf 18 = .ok (.ifCond .eq 6, 3) := by decide +kernel
theorem d_8_countOf_21 : decode cX8_countOf 21 = .ok (.iinc 2 1, 3) := by decide +kernel
theorem d_8_countOf_24 : decode cX8_countOf 24 = .ok (.iinc 3 1, 3) := by decide +kernel
theorem d_8_countOf_27 : decode cX8_countOf 27 = .ok (.goto (-23), 3) := by decide +kernel
theorem d_8_countOf_30 : decode cX8_countOf 30 = .ok (.iload_n 2, 1) := by decide +kernel
theorem d_8_countOf_31 : decode cX8_countOf 31 = .ok (.ireturn, 1) := by decide +kernel
theorem d_8_copyFrom_0 : decode cX8_copyFrom 0 = .ok (.aload_n 1, 1) := by decide +kernel
theorem d_8_copyFrom_1 : decode cX8_copyFrom 1 = .ok (.getfield 21, 3) := by decide +kernel
theorem d_8_copyFrom_4 : decode cX8_copyFrom 4 = .ok (.iconst 0, 1) := by decide +kernel
theorem d_8_copyFrom_5 : decode cX8_copyFrom 5 = .ok (.aload_n 0, 1) := by decide +kernel
theorem d_8_copyFrom_6 : decode cX8_copyFrom 6 = .ok (.getfield 21, 3) := by decide +kernel
theorem d_8_copyFrom_9 : decode cX8_copyFrom 9 = .ok (.iconst 0, 1) := by decide +kernel
theorem d_8_copyFrom_10 : decode cX8_copyFrom 10 = .ok (.aload_n 1, 1) := by decide +kernel
theorem d_8_copyFrom_11 : decode cX8_copyFrom 11 = .ok (.getfield 21, 3) := by decide +kernel
theorem d_8_copyFrom_14 : decode cX8_copyFrom 14 = .ok (.arraylength, 1) := by decide +kernel
theorem d_8_copyFrom_15 : decode cX8_copyFrom 15 = .ok (.aload_n 0, 1) := by decide +kernel
theorem d_8_copyFrom_16 : decode cX8_copyFrom 16 = .ok (.getfield 21, 3) := by decide +kernel
theorem d_8_copyFrom_19 : decode cX8_copyFrom 19 = .ok (.arraylength, 1) := by decide +kernel
theorem d_8_copyFrom_20 : decode cX8_copyFrom 20 = .ok (.invokestatic 46, 3) := by decide +kernel
theorem d_8_copyFrom_23 : decode cX8_copyFrom 23 = .ok (.invokestatic 82, 3) := by decide +kernel
theorem d_8_copyFrom_26 : decode cX8_copyFrom 26 = .ok (.aload_n 1, 1) := by decide +kernel
theorem d_8_copyFrom_27 : decode cX8_copyFrom 27 = .ok (.getfield 25, 3) := by decide +kernel
theorem d_8_copyFrom_30 : decode cX8_copyFrom 30 = .ok (.aload_n 0, 1) := by decide +kernel
theorem d_8_copyFrom_31 : decode cX8_copyFrom 31 = .ok (.getfield 25, 3) := by decide +kernel
theorem d_8_copyFrom_34 : decode cX8_copyFrom 34 = .ok (.invokestatic 88, 3) := by decide +kernel
theorem d_8_copyFrom_37 : decode cX8_copyFrom 37 = .ok (.aload_n 0, 1) := by decide +kernel
theorem d_8_copyFrom_38 : decode cX8_copyFrom 38 = .ok (.aload_n 1, 1) := by decide +kernel
theorem d_8_copyFrom_39 : decode cX8_copyFrom 39 = .ok (.getfield 29, 3) := by decide +kernel
theorem d_8_copyFrom_42 : decode cX8_copyFrom 42 = .ok (.putfield 29, 3) := by decide +kernel
theorem d_8_copyFrom_45 : decode cX8_copyFrom 45 = .ok (.return_, 1) := by decide +kernel
theorem d_9_init_0 : decode cX9_init 0 = .ok (.aload_n 0, 1) := by decide +kernel
theorem d_9_init_1 : decode cX9_init 1 = .ok (.invokespecial 1, 3) := by decide +kernel
theorem d_9_init_4 : decode cX9_init 4 = .ok (.aload_n 0, 1) := by decide +kernel
theorem d_9_init_5 : decode cX9_init 5 = .ok (.new 7, 3) := by decide +kernel
theorem d_9_init_8 : decode cX9_init 8 = .ok (.dup, 1) := by decide +kernel
theorem d_9_init_9 : decode cX9_init 9 = .ok (.invokespecial 9, 3) := by decide +kernel
theorem d_9_init_12 : decode cX9_init 12 = .ok (.putfield 10, 3) := by decide +kernel
theorem d_9_init_15 : decode cX9_init 15 = .ok (.aload_n 0, 1) := by decide +kernel
theorem d_9_init_16 : decode cX9_init 16 = .ok (.new 16, 3) := by decide +kernel
theorem d_9_init_19 : decode cX9_init 19 = .ok (.dup, 1) := by decide +kernel
theorem d_9_init_20 : decode cX9_init 20 = .ok (.invokespecial 18, 3) := by decide +kernel
theorem d_9_init_23 : decode cX9_init 23 = .ok (.putfield 19, 3) := by decide +kernel
theorem d_9_init_26 : decode cX9_init 26 = .ok (.aload_n 0, 1) := by decide +kernel
theorem d_9_init_27 : decode cX9_init 27 = .ok (.new 16, 3) := by decide +kernel
theorem d_9_init_30 : decode cX9_init 30 = .ok (.dup, 1) := by decide +kernel
theorem d_9_init_31 : decode cX9_init 31 = .ok (.invokespecial 18, 3) := by decide +kernel
theorem d_9_init_34 : decode cX9_init 34 = .ok (.putfield 23, 3) := by decide +kernel
theorem d_9_init_37 : decode cX9_init 37 = .ok (.aload_n 0, 1) := by decide +kernel
theorem d_9_init_38 : decode cX9_init 38 = .ok (.new 26, 3) := by decide +kernel
theorem d_9_init_41 : decode cX9_init 41 = .ok (.dup, 1) := by decide +kernel
theorem d_9_init_42 : decode cX9_init 42 = .ok (.invokespecial 28, 3) := by decide +kernel
theorem d_9_init_45 : decode cX9_init 45 = .ok (.putfield 29, 3) := by decide +kernel
theorem d_9_init_48 : decode cX9_init 48 = .ok (.aload_n 0, 1) := by decide +kernel
theorem d_9_init_49 : decode cX9_init 49 = .ok (.new 16, 3) := by decide +kernel
theorem d_9_init_52 : decode cX9_init 52 = .ok (.dup, 1) := by decide +kernel
theorem d_9_init_53 : decode cX9_init 53 = .ok (.invokespecial 18, 3) := by decide +kernel
theorem d_9_init_56 : decode cX9_init 56 = .ok (.putfield 33, 3) := by decide +kernel
theorem d_9_init_59 : decode cX9_init 59 = .ok (.aload_n 0, 1) := by decide +kernel
theorem d_9_init_60 : decode cX9_init 60 = .ok (.new 36, 3) := by decide +kernel
theorem d_9_init_63 : decode cX9_init 63 = .ok (.dup, 1) := by decide +kernel
theorem d_9_init_64 : decode cX9_init 64 = .ok (.invokespecial 38, 3) := by decide +kernel
theorem d_9_init_67 : decode cX9_init 67 = .ok (.putfield 39, 3) := by decide +kernel
theorem d_9_init_70 : decode cX9_init 70 = .ok (.aload_n 0, 1) := by decide +kernel
theorem d_9_init_71 : decode cX9_init 71 = .ok (.new 43, 3) := by decide +kernel
theorem d_9_init_74 : decode cX9_init 74 = .ok (.dup, 1) := by decide +kernel
theorem d_9_init_75 : decode cX9_init 75 = .ok (.invokespecial 45, 3) := by decide +kernel
theorem d_9_init_78 : decode cX9_init 78 = .ok (.putfield 46, 3) := by decide +kernel
theorem d_9_init_81 : decode cX9_init 81 = .ok (.aload_n 0, 1) := by decide +kernel
theorem d_9_init_82 : decode cX9_init 82 = .ok (.new 43, 3) := by decide +kernel
theorem d_9_init_85 : decode cX9_init 85 = .ok (.dup, 1) := by decide +kernel
theorem d_9_init_86 : decode cX9_init 86 = .ok (.invokespecial 45, 3) := by decide +kernel
theorem d_9_init_89 : decode cX9_init 89 = .ok (.putfield 50, 3) := by decide +kernel
theorem d_9_init_92 : decode cX9_init 92 = .ok (.aload_n 0, 1) := by decide +kernel
theorem d_9_init_93 : decode cX9_init 93 = .ok (.new 43, 3) := by decide +kernel
theorem d_9_init_96 : decode cX9_init 96 = .ok (.dup, 1) := by decide +kernel
theorem d_9_init_97 : decode cX9_init 97 = .ok (.invokespecial 45, 3) := by decide +kernel
theorem d_9_init_100 : decode cX9_init 100 = .ok (.putfield 53, 3) := by decide +kernel
theorem d_9_init_103 : decode cX9_init 103 = .ok (.aload_n 0, 1) := by decide +kernel
theorem d_9_init_104 : decode cX9_init 104 = .ok (.new 56, 3) := by decide +kernel
theorem d_9_init_107 : decode cX9_init 107 = .ok (.dup, 1) := by decide +kernel
theorem d_9_init_108 : decode cX9_init 108 = .ok (.bipush 20, 2) := by decide +kernel
theorem d_9_init_110 : decode cX9_init 110 = .ok (.bipush 16, 2) := by decide +kernel
theorem d_9_init_112 : decode cX9_init 112 = .ok (.invokespecial 58, 3) := by decide +kernel
theorem d_9_init_115 : decode cX9_init 115 = .ok (.putfield 61, 3) := by decide +kernel
theorem d_9_init_118 : decode cX9_init 118 = .ok (.aload_n 0, 1) := by decide +kernel
theorem d_9_init_119 : decode cX9_init 119 = .ok (.new 56, 3) := by decide +kernel
theorem d_9_init_122 : decode cX9_init 122 = .ok (.dup, 1) := by decide +kernel
theorem d_9_init_123 : decode cX9_init 123 = .ok (.bipush 22, 2) := by decide +kernel
theorem d_9_init_125 : decode cX9_init 125 = .ok (.bipush 12, 2) := by decide +kernel
theorem d_9_init_127 : decode cX9_init 127 = .ok (.invokespecial 58, 3) := by decide +kernel
theorem d_9_init_130 : decode cX9_init 130 = .ok (.putfield 65, 3) := by decide +kernel
theorem d_9_init_133 : decode cX9_init 133 = .ok (.aload_n 0, 1) := by decide +kernel
theorem d_9_init_134 : decode cX9_init 134 = .ok (.getfield 19, 3) := by decide +kernel
theorem d_9_init_137 : decode cX9_init 137 = .ok (.invokevirtual 68, 3) := by decide +kernel
theorem d_9_init_140 : decode cX9_init 140 = .ok (.return_, 1) := by decide +kernel
theorem d_9_strike_0 : decode cX9_strike 0 = .ok (.aload_n 0, 1) := by decide +kernel
theorem d_9_strike_1 : decode cX9_strike 1 = .ok (.iload_n 1, 1) := by decide +kernel
theorem d_9_strike_2 : decode cX9_strike 2 = .ok (.invokevirtual 71, 3) := by decide +kernel
theorem d_9_strike_5 : decode cX9_strike 5 = .ok (.iload_n 2, 1) := by decide +kernel
theorem d_9_strike_6 : decode cX9_strike 6 = .ok (.invokestatic 75, 3) := by decide +kernel
theorem d_9_strike_9 : decode cX9_strike 9 = .ok (.aload_n 0, 1) := by decide +kernel
theorem d_9_strike_10 : decode cX9_strike 10 = .ok (.getfield 19, 3) := by decide +kernel
theorem d_9_strike_13 : decode cX9_strike 13 = .ok (.iload_n 1, 1) := by decide +kernel
theorem d_9_strike_14 : decode cX9_strike 14 = .ok (.aload_n 0, 1) := by decide +kernel
theorem d_9_strike_15 : decode cX9_strike 15 = .ok (.getfield 50, 3) := by decide +kernel
theorem d_9_strike_18 : decode cX9_strike 18 = .ok (.invokevirtual 78, 3) := by decide +kernel
theorem d_9_strike_21 : decode cX9_strike 21 = .ok (.aload_n 0, 1) := by decide +kernel
theorem d_9_strike_22 : decode cX9_strike 22 = .ok (.getfield 19, 3) := by decide +kernel
theorem d_9_strike_25 : decode cX9_strike 25 = .ok (.getfield 82, 3) := by decide +kernel
theorem d_9_strike_28 : decode cX9_strike 28 = .ok (.iload_n 1, 1) := by decide +kernel
theorem d_9_strike_29 : decode cX9_strike 29 = .ok (.aload_n 0, 1) := by decide +kernel
theorem d_9_strike_30 : decode cX9_strike 30 = .ok (.getfield 50, 3) := by decide +kernel
theorem d_9_strike_33 : decode cX9_strike 33 = .ok (.invokevirtual 86, 3) := by decide +kernel
theorem d_9_strike_36 : decode cX9_strike 36 = .ok (.istore_n 3, 1) := by decide +kernel
theorem d_9_strike_37 : decode cX9_strike 37 = .ok (.iload_n 3, 1) := by decide +kernel
theorem d_9_strike_38 : decode cX9_strike 38 = .ok (.iconst (-1), 1) := by decide +kernel
theorem d_9_strike_39 : decode cX9_strike 39 = .ok (.if_icmp .ne 26, 3) := by decide +kernel
theorem d_9_strike_42 : decode cX9_strike 42 = .ok (.aload_n 0, 1) := by decide +kernel
theorem d_9_strike_43 : decode cX9_strike 43 = .ok (.getfield 19, 3) := by decide +kernel
theorem d_9_strike_46 : decode cX9_strike 46 = .ok (.getfield 82, 3) := by decide +kernel
theorem d_9_strike_49 : decode cX9_strike 49 = .ok (.invokevirtual 92, 3) := by decide +kernel
theorem d_9_strike_52 : decode cX9_strike 52 = .ok (.ifCond .eq 13, 3) := by decide +kernel
theorem d_9_strike_55 : decode cX9_strike 55 = .ok (.new 96, 3) := by decide +kernel
theorem d_9_strike_58 : decode cX9_strike 58 = .ok (.dup, 1) := by decide +kernel
theorem d_9_strike_59 : decode cX9_strike 59 = .ok (.ldc 98, 2) := by decide +kernel
theorem d_9_strike_61 : decode cX9_strike 61 = .ok (.invokespecial 100, 3) := by decide +kernel
theorem d_9_strike_64 : decode cX9_strike 64 = .ok (.athrow, 1) := by decide +kernel
theorem d_9_strike_65 : decode cX9_strike 65 = .ok (.aload_n 0, 1) := by decide +kernel
theorem d_9_strike_66 : decode cX9_strike 66 = .ok (.getfield 29, 3) := by decide +kernel
theorem d_9_strike_69 : decode cX9_strike 69 = .ok (.aload_n 0, 1) := by decide +kernel
theorem d_9_strike_70 : decode cX9_strike 70 = .ok (.getfield 19, 3) := by decide +kernel
theorem d_9_strike_73 : decode cX9_strike 73 = .ok (.invokevirtual 103, 3) := by decide +kernel
theorem d_9_strike_76 : decode cX9_strike 76 = .ok (.iload_n 3, 1) := by decide +kernel
theorem d_9_strike_77 : decode cX9_strike 77 = .ok (.iconst (-1), 1) := by decide +kernel
theorem d_9_strike_78 : decode cX9_strike 78 = .ok (.if_icmp .ne 22, 3) := by decide +kernel
theorem d_9_strike_81 : decode cX9_strike 81 = .ok (.aload_n 0, 1) := by decide +kernel
theorem d_9_strike_82 : decode cX9_strike 82 = .ok (.getfield 19, 3) := by decide +kernel
theorem d_9_strike_85 : decode cX9_strike 85 = .ok (.getfield 82, 3) := by decide +kernel
theorem d_9_strike_88 : decode cX9_strike 88 = .ok (.iload_n 1, 1) := by decide +kernel
theorem d_9_strike_89 : decode cX9_strike 89 = .ok (.aload_n 0, 1) := by decide +kernel
theorem d_9_strike_90 : decode cX9_strike 90 = .ok (.getfield 50, 3) := by decide +kernel
theorem d_9_strike_93 : decode cX9_strike 93 = .ok (.iload_n 2, 1) := by decide +kernel
theorem d_9_strike_94 : decode cX9_strike 94 = .ok (.invokevirtual 107, 3) := by decide +kernel
theorem d_9_strike_97 : decode cX9_strike 97 = .ok (.goto 15, 3) := by decide +kernel
theorem d_9_strike_100 : decode cX9_strike 100 = .ok (.aload_n 0, 1) := by decide +kernel
theorem d_9_strike_101 : decode cX9_strike 101 = .ok (.getfield 19, 3) := by decide +kernel
theorem d_9_strike_104 : decode cX9_strike 104 = .ok (.getfield 82, 3) := by decide +kernel
theorem d_9_strike_107 : decode cX9_strike 107 = .ok (.iload_n 3, 1) := by decide +kernel
theorem d_9_strike_108 : decode cX9_strike 108 = .ok (.iload_n 2, 1) := by decide +kernel
theorem d_9_strike_109 : decode cX9_strike 109 = .ok (.invokevirtual 111, 3) := by decide +kernel
theorem d_9_strike_112 : decode cX9_strike 112 = .ok (.aload_n 0, 1) := by decide +kernel
theorem d_9_strike_113 : decode cX9_strike 113 = .ok (.getfield 19, 3) := by decide +kernel
theorem d_9_strike_116 : decode cX9_strike 116 = .ok (.dup, 1) := by decide +kernel
theorem d_9_strike_117 : decode cX9_strike 117 = .ok (.getfield 114, 3) := by decide +kernel
theorem d_9_strike_120 : decode cX9_strike 120 = .ok (.iload_n 2, 1) := by decide +kernel
theorem d_9_strike_121 : decode cX9_strike 121 = .ok (.iadd, 1) := by decide +kernel
theorem d_9_strike_122 : decode cX9_strike 122 = .ok (.putfield 114, 3) := by decide +kernel
theorem d_9_strike_125 : decode cX9_strike 125 = .ok (.aload_n 0, 1) := by decide +kernel
theorem d_9_strike_126 : decode cX9_strike 126 = .ok (.getfield 19, 3) := by decide +kernel
theorem d_9_strike_129 : decode cX9_strike 129 = .ok (.getfield 82, 3) := by decide +kernel
theorem d_9_strike_132 : decode cX9_strike 132 = .ok (.iload_n 1, 1) := by decide +kernel
theorem d_9_strike_133 : decode cX9_strike 133 = .ok (.invokevirtual 118, 3) := by decide +kernel
theorem d_9_strike_136 : decode cX9_strike 136 = .ok (.ireturn, 1) := by decide +kernel
theorem d_9_melt_0 : decode cX9_melt 0 = .ok (.aload_n 0, 1) := by decide +kernel
theorem d_9_melt_1 : decode cX9_melt 1 = .ok (.iload_n 1, 1) := by decide +kernel
theorem d_9_melt_2 : decode cX9_melt 2 = .ok (.invokevirtual 71, 3) := by decide +kernel
theorem d_9_melt_5 : decode cX9_melt 5 = .ok (.iload_n 2, 1) := by decide +kernel
theorem d_9_melt_6 : decode cX9_melt 6 = .ok (.invokestatic 75, 3) := by decide +kernel
theorem d_9_melt_9 : decode cX9_melt 9 = .ok (.aload_n 0, 1) := by decide +kernel
theorem d_9_melt_10 : decode cX9_melt 10 = .ok (.getfield 19, 3) := by decide +kernel
theorem d_9_melt_13 : decode cX9_melt 13 = .ok (.getfield 82, 3) := by decide +kernel
theorem d_9_melt_16 : decode cX9_melt 16 = .ok (.iload_n 1, 1) := by decide +kernel
theorem d_9_melt_17 : decode cX9_melt 17 = .ok (.invokevirtual 118, 3) := by decide +kernel
theorem d_9_melt_20 : decode cX9_melt 20 = .ok (.iload_n 2, 1) := by decide +kernel
theorem d_9_melt_21 : decode cX9_melt 21 = .ok (.if_icmp .ge 13, 3) := by decide +kernel
theorem d_9_melt_24 : decode cX9_melt 24 = .ok (.new 96, 3) := by decide +kernel
theorem d_9_melt_27 : decode cX9_melt 27 = .ok (.dup, 1) := by decide +kernel
theorem d_9_melt_28 : decode cX9_melt 28 = .ok (.ldc 122, 2) := by decide +kernel
theorem d_9_melt_30 : decode cX9_melt 30 = .ok (.invokespecial 100, 3) := by decide +kernel
theorem d_9_melt_33 : decode cX9_melt 33 = .ok (.athrow, 1) := by decide +kernel
theorem d_9_melt_34 : decode cX9_melt 34 = .ok (.aload_n 0, 1) := by decide +kernel
theorem d_9_melt_35 : decode cX9_melt 35 = .ok (.getfield 29, 3) := by decide +kernel
theorem d_9_melt_38 : decode cX9_melt 38 = .ok (.aload_n 0, 1) := by decide +kernel
theorem d_9_melt_39 : decode cX9_melt 39 = .ok (.getfield 19, 3) := by decide +kernel
theorem d_9_melt_42 : decode cX9_melt 42 = .ok (.invokevirtual 103, 3) := by decide +kernel
theorem d_9_melt_45 : decode cX9_melt 45 = .ok (.aload_n 0, 1) := by decide +kernel
theorem d_9_melt_46 : decode cX9_melt 46 = .ok (.getfield 19, 3) := by decide +kernel
theorem d_9_melt_49 : decode cX9_melt 49 = .ok (.getfield 82, 3) := by decide +kernel
theorem d_9_melt_52 : decode cX9_melt 52 = .ok (.iload_n 1, 1) := by decide +kernel
theorem d_9_melt_53 : decode cX9_melt 53 = .ok (.iload_n 2, 1) := by decide +kernel
theorem d_9_melt_54 : decode cX9_melt 54 = .ok (.invokevirtual 124, 3) := by decide +kernel
theorem d_9_melt_57 : decode cX9_melt 57 = .ok (.aload_n 0, 1) := by decide +kernel
theorem d_9_melt_58 : decode cX9_melt 58 = .ok (.getfield 19, 3) := by decide +kernel
theorem d_9_melt_61 : decode cX9_melt 61 = .ok (.dup, 1) := by decide +kernel
theorem d_9_melt_62 : decode cX9_melt 62 = .ok (.getfield 127, 3) := by decide +kernel
theorem d_9_melt_65 : decode cX9_melt 65 = .ok (.iload_n 2, 1) := by decide +kernel
theorem d_9_melt_66 : decode cX9_melt 66 = .ok (.iadd, 1) := by decide +kernel
theorem d_9_melt_67 : decode cX9_melt 67 = .ok (.putfield 127, 3) := by decide +kernel
theorem d_9_melt_70 : decode cX9_melt 70 = .ok (.aload_n 0, 1) := by decide +kernel
theorem d_9_melt_71 : decode cX9_melt 71 = .ok (.getfield 19, 3) := by decide +kernel
theorem d_9_melt_74 : decode cX9_melt 74 = .ok (.getfield 82, 3) := by decide +kernel
theorem d_9_melt_77 : decode cX9_melt 77 = .ok (.iload_n 1, 1) := by decide +kernel
theorem d_9_melt_78 : decode cX9_melt 78 = .ok (.invokevirtual 118, 3) := by decide +kernel
theorem d_9_melt_81 : decode cX9_melt 81 = .ok (.ireturn, 1) := by decide +kernel
theorem d_9_meltStale_0 : decode cX9_meltStale 0 = .ok (.aload_n 0, 1) := by decide +kernel
theorem d_9_meltStale_1 : decode cX9_meltStale 1 = .ok (.getfield 29, 3) := by decide +kernel
theorem d_9_meltStale_4 : decode cX9_meltStale 4 = .ok (.aload_n 0, 1) := by decide +kernel
theorem d_9_meltStale_5 : decode cX9_meltStale 5 = .ok (.getfield 19, 3) := by decide +kernel
theorem d_9_meltStale_8 : decode cX9_meltStale 8 = .ok (.invokevirtual 103, 3) := by decide +kernel
theorem d_9_meltStale_11 : decode cX9_meltStale 11 = .ok (.iconst 0, 1) := by decide +kernel
theorem d_9_meltStale_12 : decode cX9_meltStale 12 = .ok (.istore_n 1, 1) := by decide +kernel
theorem d_9_meltStale_13 : decode cX9_meltStale 13 = .ok (.iconst 0, 1) := by decide +kernel
theorem d_9_meltStale_14 : decode cX9_meltStale 14 = .ok (.istore_n 2, 1) := by decide +kernel
theorem d_9_meltStale_15 : decode cX9_meltStale 15 = .ok (.iload_n 2, 1) := by decide +kernel
theorem d_9_meltStale_16 : decode cX9_meltStale 16 = .ok (.aload_n 0, 1) := by decide +kernel
theorem d_9_meltStale_17 : decode cX9_meltStale 17 = .ok (.getfield 19, 3) := by decide +kernel
theorem d_9_meltStale_20 : decode cX9_meltStale 20 = .ok (.getfield 82, 3) := by decide +kernel
theorem d_9_meltStale_23 : decode cX9_meltStale 23 = .ok (.invokevirtual 130, 3) := by decide +kernel
theorem d_9_meltStale_26 : decode cX9_meltStale 26 = .ok (.if_icmp .ge 49, 3) := by decide +kernel
theorem d_9_meltStale_29 : decode cX9_meltStale 29 = .ok (.aload_n 0, 1) := by decide +kernel
theorem d_9_meltStale_30 : decode cX9_meltStale 30 = .ok (.getfield 19, 3) := by decide +kernel
theorem d_9_meltStale_33 : decode cX9_meltStale 33 = .ok (.iload_n 2, 1) := by decide +kernel
theorem d_9_meltStale_34 : decode cX9_meltStale 34 = .ok (.aload_n 0, 1) := by decide +kernel
theorem d_9_meltStale_35 : decode cX9_meltStale 35 = .ok (.getfield 50, 3) := by decide +kernel
theorem d_9_meltStale_38 : decode cX9_meltStale 38 = .ok (.invokevirtual 134, 3) := by decide +kernel
theorem d_9_meltStale_41 : decode cX9_meltStale 41 = .ok (.ifCond .eq 28, 3) := by decide +kernel
theorem d_9_meltStale_44 : decode cX9_meltStale 44 = .ok (.iload_n 1, 1) := by decide +kernel
theorem d_9_meltStale_45 : decode cX9_meltStale 45 = .ok (.aload_n 0, 1) := by decide +kernel
theorem d_9_meltStale_46 : decode cX9_meltStale 46 = .ok (.getfield 19, 3) := by decide +kernel
theorem d_9_meltStale_49 : decode cX9_meltStale 49 = .ok (.getfield 82, 3) := by decide +kernel
theorem d_9_meltStale_52 : decode cX9_meltStale 52 = .ok (.iload_n 2, 1) := by decide +kernel
theorem d_9_meltStale_53 : decode cX9_meltStale 53 = .ok (.invokevirtual 138, 3) := by decide +kernel
theorem d_9_meltStale_56 : decode cX9_meltStale 56 = .ok (.iadd, 1) := by decide +kernel
theorem d_9_meltStale_57 : decode cX9_meltStale 57 = .ok (.istore_n 1, 1) := by decide +kernel
theorem d_9_meltStale_58 : decode cX9_meltStale 58 = .ok (.aload_n 0, 1) := by decide +kernel
theorem d_9_meltStale_59 : decode cX9_meltStale 59 = .ok (.getfield 19, 3) := by decide +kernel
theorem d_9_meltStale_62 : decode cX9_meltStale 62 = .ok (.getfield 82, 3) := by decide +kernel
theorem d_9_meltStale_65 : decode cX9_meltStale 65 = .ok (.iload_n 2, 1) := by decide +kernel
theorem d_9_meltStale_66 : decode cX9_meltStale 66 = .ok (.invokevirtual 141, 3) := by decide +kernel
theorem d_9_meltStale_69 : decode cX9_meltStale 69 = .ok (.iinc 2 1, 3) := by decide +kernel
theorem d_9_meltStale_72 : decode cX9_meltStale 72 = .ok (.goto (-57), 3) := by decide +kernel
theorem d_9_meltStale_75 : decode cX9_meltStale 75 = .ok (.aload_n 0, 1) := by decide +kernel
theorem d_9_meltStale_76 : decode cX9_meltStale 76 = .ok (.getfield 19, 3) := by decide +kernel
theorem d_9_meltStale_79 : decode cX9_meltStale 79 = .ok (.getfield 82, 3) := by decide +kernel
theorem d_9_meltStale_82 : decode cX9_meltStale 82 = .ok (.invokevirtual 144, 3) := by decide +kernel
theorem d_9_meltStale_85 : decode cX9_meltStale 85 = .ok (.aload_n 0, 1) := by decide +kernel
theorem d_9_meltStale_86 : decode cX9_meltStale 86 = .ok (.getfield 19, 3) := by decide +kernel
theorem d_9_meltStale_89 : decode cX9_meltStale 89 = .ok (.dup, 1) := by decide +kernel
theorem d_9_meltStale_90 : decode cX9_meltStale 90 = .ok (.getfield 127, 3) := by decide +kernel
theorem d_9_meltStale_93 : decode cX9_meltStale 93 = .ok (.iload_n 1, 1) := by decide +kernel
theorem d_9_meltStale_94 : decode cX9_meltStale 94 = .ok (.iadd, 1) := by decide +kernel
theorem d_9_meltStale_95 : decode cX9_meltStale 95 = .ok (.putfield 127, 3) := by decide +kernel
theorem d_9_meltStale_98 : decode cX9_meltStale 98 = .ok (.iload_n 1, 1) := by decide +kernel
theorem d_9_meltStale_99 : decode cX9_meltStale 99 = .ok (.ireturn, 1) := by decide +kernel
theorem d_9_dropDie_0 : decode cX9_dropDie 0 = .ok (.aload_n 0, 1) := by decide +kernel
theorem d_9_dropDie_1 : decode cX9_dropDie 1 = .ok (.iload_n 1, 1) := by decide +kernel
theorem d_9_dropDie_2 : decode cX9_dropDie 2 = .ok (.invokevirtual 147, 3) := by decide +kernel
theorem d_9_dropDie_5 : decode cX9_dropDie 5 = .ok (.iload_n 1, 1) := by decide +kernel
theorem d_9_dropDie_6 : decode cX9_dropDie 6 = .ok (.ifCond .ne 13, 3) := by decide +kernel
theorem d_9_dropDie_9 : decode cX9_dropDie 9 = .ok (.new 96, 3) := by decide +kernel
theorem d_9_dropDie_12 : decode cX9_dropDie 12 = .ok (.dup, 1) := by decide +kernel
theorem d_9_dropDie_13 : decode cX9_dropDie 13 = .ok (.ldc 150, 2) := by decide +kernel
theorem d_9_dropDie_15 : decode cX9_dropDie 15 = .ok (.invokespecial 100, 3) := by decide +kernel
theorem d_9_dropDie_18 : decode cX9_dropDie 18 = .ok (.athrow, 1) := by decide +kernel
theorem d_9_dropDie_19 : decode cX9_dropDie 19 = .ok (.aload_n 0, 1) := by decide +kernel
theorem d_9_dropDie_20 : decode cX9_dropDie 20 = .ok (.getfield 29, 3) := by decide +kernel
theorem d_9_dropDie_23 : decode cX9_dropDie 23 = .ok (.aload_n 0, 1) := by decide +kernel
theorem d_9_dropDie_24 : decode cX9_dropDie 24 = .ok (.getfield 19, 3) := by decide +kernel
theorem d_9_dropDie_27 : decode cX9_dropDie 27 = .ok (.invokevirtual 103, 3) := by decide +kernel
theorem d_9_dropDie_30 : decode cX9_dropDie 30 = .ok (.aload_n 0, 1) := by decide +kernel
theorem d_9_dropDie_31 : decode cX9_dropDie 31 = .ok (.getfield 19, 3) := by decide +kernel
theorem d_9_dropDie_34 : decode cX9_dropDie 34 = .ok (.getfield 152, 3) := by decide +kernel
theorem d_9_dropDie_37 : decode cX9_dropDie 37 = .ok (.iload_n 1, 1) := by decide +kernel
theorem d_9_dropDie_38 : decode cX9_dropDie 38 = .ok (.invokevirtual 156, 3) := by decide +kernel
theorem d_9_dropDie_41 : decode cX9_dropDie 41 = .ok (.aload_n 0, 1) := by decide +kernel
theorem d_9_dropDie_42 : decode cX9_dropDie 42 = .ok (.getfield 19, 3) := by decide +kernel
theorem d_9_dropDie_45 : decode cX9_dropDie 45 = .ok (.getfield 152, 3) := by decide +kernel
theorem d_9_dropDie_48 : decode cX9_dropDie 48 = .ok (.invokevirtual 161, 3) := by decide +kernel
theorem d_9_dropDie_51 : decode cX9_dropDie 51 = .ok (.ireturn, 1) := by decide +kernel
theorem d_9_dropIrregular_0 : decode cX9_dropIrregular 0 = .ok (.aload_n 0, 1) := by decide +kernel
theorem d_9_dropIrregular_1 : decode cX9_dropIrregular 1 = .ok (.getfield 19, 3) := by decide +kernel
theorem d_9_dropIrregular_4 : decode cX9_dropIrregular 4 = .ok (.getfield 162, 3) := by decide +kernel
theorem d_9_dropIrregular_7 : decode cX9_dropIrregular 7 = .ok (.invokevirtual 165, 3) := by decide +kernel
theorem d_9_dropIrregular_10 : decode cX9_dropIrregular 10 = .ok (.iconst 1, 1) := by decide +kernel
theorem d_9_dropIrregular_11 : decode cX9_dropIrregular 11 = .ok (.isub, 1) := by decide +kernel
theorem d_9_dropIrregular_12 : decode cX9_dropIrregular 12 = .ok (.istore_n 1, 1) := by decide +kernel
theorem d_9_dropIrregular_13 : decode cX9_dropIrregular 13 = .ok (.iload_n 1, 1) := by decide +kernel
theorem d_9_dropIrregular_14 : decode cX9_dropIrregular 14 = .ok (.ifCond .ge 13, 3) := by decide +kernel
theorem d_9_dropIrregular_17 : decode cX9_dropIrregular 17 = .ok (.new 96, 3) := by decide +kernel
theorem d_9_dropIrregular_20 : decode cX9_dropIrregular 20 = .ok (.dup, 1) := by decide +kernel
theorem d_9_dropIrregular_21 : decode cX9_dropIrregular 21 = .ok (.ldc 166, 2) := by decide +kernel
theorem d_9_dropIrregular_23 : decode cX9_dropIrregular 23 = .ok (.invokespecial 100, 3) := by decide +kernel
theorem d_9_dropIrregular_26 : decode cX9_dropIrregular 26 = .ok (.athrow, 1) := by decide +kernel
theorem d_9_dropIrregular_27 : decode cX9_dropIrregular 27 = .ok (.aload_n 0, 1) := by decide +kernel
theorem d_9_dropIrregular_28 : decode cX9_dropIrregular 28 = .ok (.getfield 29, 3) := by decide +kernel
theorem d_9_dropIrregular_31 : decode cX9_dropIrregular 31 = .ok (.aload_n 0, 1) := by decide +kernel
theorem d_9_dropIrregular_32 : decode cX9_dropIrregular 32 = .ok (.getfield 19, 3) := by decide +kernel
theorem d_9_dropIrregular_35 : decode cX9_dropIrregular 35 = .ok (.invokevirtual 103, 3) := by decide +kernel
theorem d_9_dropIrregular_38 : decode cX9_dropIrregular 38 = .ok (.aload_n 0, 1) := by decide +kernel
theorem d_9_dropIrregular_39 : decode cX9_dropIrregular 39 = .ok (.getfield 19, 3) := by decide +kernel
theorem d_9_dropIrregular_42 : decode cX9_dropIrregular 42 = .ok (.getfield 162, 3) := by decide +kernel
theorem d_9_dropIrregular_45 : decode cX9_dropIrregular 45 = .ok (.iload_n 1, 1) := by decide +kernel
theorem d_9_dropIrregular_46 : decode cX9_dropIrregular 46 = .ok (.invokevirtual 168, 3) := by decide +kernel
theorem d_9_dropIrregular_49 : decode cX9_dropIrregular 49 = .ok (.aload_n 0, 1) := by decide +kernel
theorem d_9_dropIrregular_50 : decode cX9_dropIrregular 50 = .ok (.getfield 19, 3) := by decide +kernel
theorem d_9_dropIrregular_53 : decode cX9_dropIrregular 53 = .ok (.getfield 169, 3) := by decide +kernel
theorem d_9_dropIrregular_56 : decode cX9_dropIrregular 56 = .ok (.iload_n 1, 1) := by decide +kernel
theorem d_9_dropIrregular_57 : decode cX9_dropIrregular 57 = .ok (.invokevirtual 168, 3) := by decide +kernel
theorem d_9_dropIrregular_60 : decode cX9_dropIrregular 60 = .ok (.aload_n 0, 1) := by decide +kernel
theorem d_9_dropIrregular_61 : decode cX9_dropIrregular 61 = .ok (.getfield 19, 3) := by decide +kernel
theorem d_9_dropIrregular_64 : decode cX9_dropIrregular 64 = .ok (.getfield 162, 3) := by decide +kernel
theorem d_9_dropIrregular_67 : decode cX9_dropIrregular 67 = .ok (.invokevirtual 165, 3) := by decide +kernel
theorem d_9_dropIrregular_70 : decode cX9_dropIrregular 70 = .ok (.ireturn, 1) := by decide +kernel
theorem d_9_type_0 : decode cX9_type 0 = .ok (.aload_n 0, 1) := by decide +kernel
theorem d_9_type_1 : decode cX9_type 1 = .ok (.getfield 10, 3) := by decide +kernel
theorem d_9_type_4 : decode cX9_type 4 = .ok (.invokevirtual 172, 3) := by decide +kernel
theorem d_9_type_7 : decode cX9_type 7 = .ok (.ifCond .eq 13, 3) := by decide +kernel
theorem d_9_type_10 : decode cX9_type 10 = .ok (.new 96, 3) := by decide +kernel
theorem d_9_type_13 : decode cX9_type 13 = .ok (.dup, 1) := by decide +kernel
theorem d_9_type_14 : decode cX9_type 14 = .ok (.ldc 173, 2) := by decide +kernel
theorem d_9_type_16 : decode cX9_type 16 = .ok (.invokespecial 100, 3) := by decide +kernel
theorem d_9_type_19 : decode cX9_type 19 = .ok (.athrow, 1) := by decide +kernel
theorem d_9_type_20 : decode cX9_type 20 = .ok (.aload_n 0, 1) := by decide +kernel
theorem d_9_type_21 : decode cX9_type 21 = .ok (.getfield 10, 3) := by decide +kernel
theorem d_9_type_24 : decode cX9_type 24 = .ok (.iload_n 1, 1) := by decide +kernel
theorem d_9_type_25 : decode cX9_type 25 = .ok (.invokevirtual 175, 3) := by decide +kernel
theorem d_9_type_28 : decode cX9_type 28 = .ok (.aload_n 0, 1) := by decide +kernel
theorem d_9_type_29 : decode cX9_type 29 = .ok (.getfield 10, 3) := by decide +kernel
theorem d_9_type_32 : decode cX9_type 32 = .ok (.invokevirtual 179, 3) := by decide +kernel
theorem d_9_type_35 : decode cX9_type 35 = .ok (.ireturn, 1) := by decide +kernel
theorem d_9_clearText_0 : decode cX9_clearText 0 = .ok (.aload_n 0, 1) := by decide +kernel
theorem d_9_clearText_1 : decode cX9_clearText 1 = .ok (.getfield 10, 3) := by decide +kernel
theorem d_9_clearText_4 : decode cX9_clearText 4 = .ok (.invokevirtual 179, 3) := by decide +kernel
theorem d_9_clearText_7 : decode cX9_clearText 7 = .ok (.istore_n 1, 1) := by decide +kernel
theorem d_9_clearText_8 : decode cX9_clearText 8 = .ok (.aload_n 0, 1) := by decide +kernel
theorem d_9_clearText_9 : decode cX9_clearText 9 = .ok (.getfield 10, 3) := by decide +kernel
theorem d_9_clearText_12 : decode cX9_clearText 12 = .ok (.invokevirtual 182, 3) := by decide +kernel
theorem d_9_clearText_15 : decode cX9_clearText 15 = .ok (.iload_n 1, 1) := by decide +kernel
theorem d_9_clearText_16 : decode cX9_clearText 16 = .ok (.ireturn, 1) := by decide +kernel
theorem d_9_impossibleOrder_0 : decode cX9_impossibleOrder 0 = .ok (.aload_n 0, 1) := by decide +kernel
theorem d_9_impossibleOrder_1 : decode cX9_impossibleOrder 1 = .ok (.invokevirtual 188, 3) := by decide +kernel
theorem d_9_impossibleOrder_4 : decode cX9_impossibleOrder 4 = .ok (.aload_n 0, 1) := by decide +kernel
theorem d_9_impossibleOrder_5 : decode cX9_impossibleOrder 5 = .ok (.invokevirtual 191, 3) := by decide +kernel
theorem d_9_impossibleOrder_8 : decode cX9_impossibleOrder 8 = .ok (.ireturn, 1) := by decide +kernel
theorem d_9_carryOut_0 : decode cX9_carryOut 0 = .ok (.aload_n 0, 1) := by decide +kernel
theorem d_9_carryOut_1 : decode cX9_carryOut 1 = .ok (.invokevirtual 188, 3) := by decide +kernel
theorem d_9_carryOut_4 : decode cX9_carryOut 4 = .ok (.aload_n 0, 1) := by decide +kernel
theorem d_9_carryOut_5 : decode cX9_carryOut 5 = .ok (.invokevirtual 191, 3) := by decide +kernel
theorem d_9_carryOut_8 : decode cX9_carryOut 8 = .ok (.iconst (-1), 1) := by decide +kernel
theorem d_9_carryOut_9 : decode cX9_carryOut 9 = .ok (.if_icmp .eq 13, 3) := by decide +kernel
theorem d_9_carryOut_12 : decode cX9_carryOut 12 = .ok (.new 96, 3) := by decide +kernel
theorem d_9_carryOut_15 : decode cX9_carryOut 15 = .ok (.dup, 1) := by decide +kernel
theorem d_9_carryOut_16 : decode cX9_carryOut 16 = .ok (.ldc 194, 2) := by decide +kernel
theorem d_9_carryOut_18 : decode cX9_carryOut 18 = .ok (.invokespecial 100, 3) := by decide +kernel
theorem d_9_carryOut_21 : decode cX9_carryOut 21 = .ok (.athrow, 1) := by decide +kernel
theorem d_9_carryOut_22 : decode cX9_carryOut 22 = .ok (.aload_n 0, 1) := by decide +kernel
theorem d_9_carryOut_23 : decode cX9_carryOut 23 = .ok (.getfield 29, 3) := by decide +kernel
theorem d_9_carryOut_26 : decode cX9_carryOut 26 = .ok (.aload_n 0, 1) := by decide +kernel
theorem d_9_carryOut_27 : decode cX9_carryOut 27 = .ok (.getfield 19, 3) := by decide +kernel
theorem d_9_carryOut_30 : decode cX9_carryOut 30 = .ok (.invokevirtual 103, 3) := by decide +kernel
theorem d_9_carryOut_33 : decode cX9_carryOut 33 = .ok (.aload_n 0, 1) := by decide +kernel
theorem d_9_carryOut_34 : decode cX9_carryOut 34 = .ok (.getfield 19, 3) := by decide +kernel
theorem d_9_carryOut_37 : decode cX9_carryOut 37 = .ok (.aload_n 0, 1) := by decide +kernel
theorem d_9_carryOut_38 : decode cX9_carryOut 38 = .ok (.getfield 33, 3) := by decide +kernel
theorem d_9_carryOut_41 : decode cX9_carryOut 41 = .ok (.invokevirtual 196, 3) := by decide +kernel
theorem d_9_carryOut_44 : decode cX9_carryOut 44 = .ok (.aload_n 0, 1) := by decide +kernel
theorem d_9_carryOut_45 : decode cX9_carryOut 45 = .ok (.getfield 10, 3) := by decide +kernel
theorem d_9_carryOut_48 : decode cX9_carryOut 48 = .ok (.invokevirtual 199, 3) := by decide +kernel
theorem d_9_carryOut_51 : decode cX9_carryOut 51 = .ok (.ireturn, 1) := by decide +kernel
theorem d_9_undo_0 : decode cX9_undo 0 = .ok (.aload_n 0, 1) := by decide +kernel
theorem d_9_undo_1 : decode cX9_undo 1 = .ok (.getfield 29, 3) := by decide +kernel
theorem d_9_undo_4 : decode cX9_undo 4 = .ok (.invokevirtual 202, 3) := by decide +kernel
theorem d_9_undo_7 : decode cX9_undo 7 = .ok (.ifCond .ne 13, 3) := by decide +kernel
theorem d_9_undo_10 : decode cX9_undo 10 = .ok (.new 96, 3) := by decide +kernel
theorem d_9_undo_13 : decode cX9_undo 13 = .ok (.dup, 1) := by decide +kernel
theorem d_9_undo_14 : decode cX9_undo 14 = .ok (.ldc 203, 2) := by decide +kernel
theorem d_9_undo_16 : decode cX9_undo 16 = .ok (.invokespecial 100, 3) := by decide +kernel
theorem d_9_undo_19 : decode cX9_undo 19 = .ok (.athrow, 1) := by decide +kernel
theorem d_9_undo_20 : decode cX9_undo 20 = .ok (.aload_n 0, 1) := by decide +kernel
theorem d_9_undo_21 : decode cX9_undo 21 = .ok (.getfield 29, 3) := by decide +kernel
theorem d_9_undo_24 : decode cX9_undo 24 = .ok (.aload_n 0, 1) := by decide +kernel
theorem d_9_undo_25 : decode cX9_undo 25 = .ok (.getfield 19, 3) := by decide +kernel
theorem d_9_undo_28 : decode cX9_undo 28 = .ok (.invokevirtual 205, 3) := by decide +kernel
theorem d_9_undo_31 : decode cX9_undo 31 = .ok (.aload_n 0, 1) := by decide +kernel
theorem d_9_undo_32 : decode cX9_undo 32 = .ok (.getfield 29, 3) := by decide +kernel
theorem d_9_undo_35 : decode cX9_undo 35 = .ok (.invokevirtual 202, 3) := by decide +kernel
theorem d_9_undo_38 : decode cX9_undo 38 = .ok (.ireturn, 1) := by decide +kernel
theorem d_9_takeSnapshot_0 : decode cX9_takeSnapshot 0 = .ok (.aload_n 0, 1) := by decide +kernel
theorem d_9_takeSnapshot_1 : decode cX9_takeSnapshot 1 = .ok (.getfield 23, 3) := by decide +kernel
theorem d_9_takeSnapshot_4 : decode cX9_takeSnapshot 4 = .ok (.aload_n 0, 1) := by decide +kernel
theorem d_9_takeSnapshot_5 : decode cX9_takeSnapshot 5 = .ok (.getfield 19, 3) := by decide +kernel
theorem d_9_takeSnapshot_8 : decode cX9_takeSnapshot 8 = .ok (.invokevirtual 196, 3) := by decide +kernel
theorem d_9_takeSnapshot_11 : decode cX9_takeSnapshot 11 = .ok (.aload_n 0, 1) := by decide +kernel
theorem d_9_takeSnapshot_12 : decode cX9_takeSnapshot 12 = .ok (.iconst 1, 1) := by decide +kernel
theorem d_9_takeSnapshot_13 : decode cX9_takeSnapshot 13 = .ok (.putfield 208, 3) := by decide +kernel
theorem d_9_takeSnapshot_16 : decode cX9_takeSnapshot 16 = .ok (.aload_n 0, 1) := by decide +kernel
theorem d_9_takeSnapshot_17 : decode cX9_takeSnapshot 17 = .ok (.getfield 19, 3) := by decide +kernel
theorem d_9_takeSnapshot_20 : decode cX9_takeSnapshot 20 = .ok (.getfield 212, 3) := by decide +kernel
theorem d_9_takeSnapshot_23 : decode cX9_takeSnapshot 23 = .ok (.invokevirtual 165, 3) := by decide +kernel
theorem d_9_takeSnapshot_26 : decode cX9_takeSnapshot 26 = .ok (.ireturn, 1) := by decide +kernel
theorem d_9_restoreSnapshot_0 : decode cX9_restoreSnapshot 0 = .ok (.aload_n 0, 1) := by decide +kernel
theorem d_9_restoreSnapshot_1 : decode cX9_restoreSnapshot 1 = .ok (.getfield 208, 3) := by decide +kernel
theorem d_9_restoreSnapshot_4 : decode cX9_restoreSnapshot 4 = .ok (.ifCond .ne 13, 3) := by decide +kernel
theorem d_9_restoreSnapshot_7 : decode cX9_restoreSnapshot 7 = .ok (.new 96, 3) := by decide +kernel
theorem d_9_restoreSnapshot_10 : decode cX9_restoreSnapshot 10 = .ok (.dup, 1) := by decide +kernel
theorem d_9_restoreSnapshot_11 : decode cX9_restoreSnapshot 11 = .ok (.ldc 215, 2) := by decide +kernel
theorem d_9_restoreSnapshot_13 : decode cX9_restoreSnapshot 13 = .ok (.invokespecial 100, 3) := by decide +kernel
theorem d_9_restoreSnapshot_16 : decode cX9_restoreSnapshot 16 = .ok (.athrow, 1) := by decide +kernel
theorem d_9_restoreSnapshot_17 : decode cX9_restoreSnapshot 17 = .ok (.aload_n 0, 1) := by decide +kernel
theorem d_9_restoreSnapshot_18 : decode cX9_restoreSnapshot 18 = .ok (.getfield 29, 3) := by decide +kernel
theorem d_9_restoreSnapshot_21 : decode cX9_restoreSnapshot 21 = .ok (.aload_n 0, 1) := by decide +kernel
theorem d_9_restoreSnapshot_22 : decode cX9_restoreSnapshot 22 = .ok (.getfield 19, 3) := by decide +kernel
theorem d_9_restoreSnapshot_25 : decode cX9_restoreSnapshot 25 = .ok (.invokevirtual 103, 3) := by decide +kernel
theorem d_9_restoreSnapshot_28 : decode cX9_restoreSnapshot 28 = .ok (.aload_n 0, 1) := by decide +kernel
theorem d_9_restoreSnapshot_29 : decode cX9_restoreSnapshot 29 = .ok (.getfield 19, 3) := by decide +kernel
theorem d_9_restoreSnapshot_32 : decode cX9_restoreSnapshot 32 = .ok (.aload_n 0, 1) := by decide +kernel
theorem d_9_restoreSnapshot_33 : decode cX9_restoreSnapshot 33 = .ok (.getfield 23, 3) := by decide +kernel
theorem d_9_restoreSnapshot_36 : decode cX9_restoreSnapshot 36 = .ok (.invokevirtual 196, 3) := by decide +kernel
theorem d_9_restoreSnapshot_39 : decode cX9_restoreSnapshot 39 = .ok (.aload_n 0, 1) := by decide +kernel
theorem d_9_restoreSnapshot_40 : decode cX9_restoreSnapshot 40 = .ok (.getfield 19, 3) := by decide +kernel
theorem d_9_restoreSnapshot_43 : decode cX9_restoreSnapshot 43 = .ok (.getfield 212, 3) := by decide +kernel
theorem d_9_restoreSnapshot_46 : decode cX9_restoreSnapshot 46 = .ok (.invokevirtual 165, 3) := by decide +kernel
theorem d_9_restoreSnapshot_49 : decode cX9_restoreSnapshot 49 = .ok (.ireturn, 1) := by decide +kernel
theorem d_9_nouns_0 : decode cX9_nouns 0 = .ok (.aload_n 0, 1) := by decide +kernel
theorem d_9_nouns_1 : decode cX9_nouns 1 = .ok (.getfield 19, 3) := by decide +kernel
theorem d_9_nouns_4 : decode cX9_nouns 4 = .ok (.getfield 212, 3) := by decide +kernel
theorem d_9_nouns_7 : decode cX9_nouns 7 = .ok (.invokevirtual 165, 3) := by decide +kernel
theorem d_9_nouns_10 : decode cX9_nouns 10 = .ok (.ireturn, 1) := by decide +kernel
theorem d_9_lettersOf_0 : decode cX9_lettersOf 0 = .ok (.aload_n 0, 1) := by decide +kernel
theorem d_9_lettersOf_1 : decode cX9_lettersOf 1 = .ok (.iload_n 1, 1) := by decide +kernel
theorem d_9_lettersOf_2 : decode cX9_lettersOf 2 = .ok (.invokevirtual 71, 3) := by decide +kernel
theorem d_9_lettersOf_5 : decode cX9_lettersOf 5 = .ok (.aload_n 0, 1) := by decide +kernel
theorem d_9_lettersOf_6 : decode cX9_lettersOf 6 = .ok (.getfield 19, 3) := by decide +kernel
theorem d_9_lettersOf_9 : decode cX9_lettersOf 9 = .ok (.getfield 212, 3) := by decide +kernel
theorem d_9_lettersOf_12 : decode cX9_lettersOf 12 = .ok (.iload_n 1, 1) := by decide +kernel
theorem d_9_lettersOf_13 : decode cX9_lettersOf 13 = .ok (.invokevirtual 217, 3) := by decide +kernel
theorem d_9_lettersOf_16 : decode cX9_lettersOf 16 = .ok (.ireturn, 1) := by decide +kernel
theorem d_9_pluralLetters_0 : decode cX9_pluralLetters 0 = .ok (.aload_n 0, 1) := by decide +kernel
theorem d_9_pluralLetters_1 : decode cX9_pluralLetters 1 = .ok (.iload_n 1, 1) := by decide +kernel
theorem d_9_pluralLetters_2 : decode cX9_pluralLetters 2 = .ok (.invokevirtual 71, 3) := by decide +kernel
theorem d_9_pluralLetters_5 : decode cX9_pluralLetters 5 = .ok (.aload_n 0, 1) := by decide +kernel
theorem d_9_pluralLetters_6 : decode cX9_pluralLetters 6 = .ok (.getfield 19, 3) := by decide +kernel
theorem d_9_pluralLetters_9 : decode cX9_pluralLetters 9 = .ok (.iload_n 1, 1) := by decide +kernel
theorem d_9_pluralLetters_10 : decode cX9_pluralLetters 10 = .ok (.aload_n 0, 1) := by decide +kernel
theorem d_9_pluralLetters_11 : decode cX9_pluralLetters 11 = .ok (.getfield 50, 3) := by decide +kernel
theorem d_9_pluralLetters_14 : decode cX9_pluralLetters 14 = .ok (.invokevirtual 78, 3) := by decide +kernel
theorem d_9_pluralLetters_17 : decode cX9_pluralLetters 17 = .ok (.aload_n 0, 1) := by decide +kernel
theorem d_9_pluralLetters_18 : decode cX9_pluralLetters 18 = .ok (.getfield 50, 3) := by decide +kernel
theorem d_9_pluralLetters_21 : decode cX9_pluralLetters 21 = .ok (.invokevirtual 220, 3) := by decide +kernel
theorem d_9_pluralLetters_24 : decode cX9_pluralLetters 24 = .ok (.ireturn, 1) := by decide +kernel
theorem d_9_pluralLetter_0 : decode cX9_pluralLetter 0 = .ok (.aload_n 0, 1) := by decide +kernel
theorem d_9_pluralLetter_1 : decode cX9_pluralLetter 1 = .ok (.iload_n 1, 1) := by decide +kernel
theorem d_9_pluralLetter_2 : decode cX9_pluralLetter 2 = .ok (.invokevirtual 71, 3) := by decide +kernel
theorem d_9_pluralLetter_5 : decode cX9_pluralLetter 5 = .ok (.aload_n 0, 1) := by decide +kernel
theorem d_9_pluralLetter_6 : decode cX9_pluralLetter 6 = .ok (.getfield 19, 3) := by decide +kernel
theorem d_9_pluralLetter_9 : decode cX9_pluralLetter 9 = .ok (.iload_n 1, 1) := by decide +kernel
theorem d_9_pluralLetter_10 : decode cX9_pluralLetter 10 = .ok (.aload_n 0, 1) := by decide +kernel
theorem d_9_pluralLetter_11 : decode cX9_pluralLetter 11 = .ok (.getfield 50, 3) := by decide +kernel
theorem d_9_pluralLetter_14 : decode cX9_pluralLetter 14 = .ok (.invokevirtual 78, 3) := by decide +kernel
theorem d_9_pluralLetter_17 : decode cX9_pluralLetter 17 = .ok (.iload_n 2, 1) := by decide +kernel
theorem d_9_pluralLetter_18 : decode cX9_pluralLetter 18 = .ok (.aload_n 0, 1) := by decide +kernel
theorem d_9_pluralLetter_19 : decode cX9_pluralLetter 19 = .ok (.getfield 50, 3) := by decide +kernel
theorem d_9_pluralLetter_22 : decode cX9_pluralLetter 22 = .ok (.invokestatic 221, 3) := by decide +kernel
theorem d_9_pluralLetter_25 : decode cX9_pluralLetter 25 = .ok (.aload_n 0, 1) := by decide +kernel
theorem d_9_pluralLetter_26 : decode cX9_pluralLetter 26 = .ok (.getfield 50, 3) := by decide +kernel
theorem d_9_pluralLetter_29 : decode cX9_pluralLetter 29 = .ok (.iload_n 2, 1) := by decide +kernel
theorem d_9_pluralLetter_30 : decode cX9_pluralLetter 30 = .ok (.invokevirtual 224, 3) := by decide +kernel
theorem d_9_pluralLetter_33 : decode cX9_pluralLetter 33 = .ok (.ireturn, 1) := by decide +kernel
theorem d_9_countedLetter_0 : decode cX9_countedLetter 0 = .ok (.aload_n 0, 1) := by decide +kernel
theorem d_9_countedLetter_1 : decode cX9_countedLetter 1 = .ok (.iload_n 1, 1) := by decide +kernel
theorem d_9_countedLetter_2 : decode cX9_countedLetter 2 = .ok (.invokevirtual 71, 3) := by decide +kernel
theorem d_9_countedLetter_5 : decode cX9_countedLetter 5 = .ok (.iload_n 2, 1) := by decide +kernel
theorem d_9_countedLetter_6 : decode cX9_countedLetter 6 = .ok (.invokestatic 228, 3) := by decide +kernel
theorem d_9_countedLetter_9 : decode cX9_countedLetter 9 = .ok (.iload_n 2, 1) := by decide +kernel
theorem d_9_countedLetter_10 : decode cX9_countedLetter 10 = .ok (.iconst 1, 1) := by decide +kernel
theorem d_9_countedLetter_11 : decode cX9_countedLetter 11 = .ok (.if_icmp .ne 21, 3) := by decide +kernel
theorem d_9_countedLetter_14 : decode cX9_countedLetter 14 = .ok (.aload_n 0, 1) := by decide +kernel
theorem d_9_countedLetter_15 : decode cX9_countedLetter 15 = .ok (.getfield 19, 3) := by decide +kernel
theorem d_9_countedLetter_18 : decode cX9_countedLetter 18 = .ok (.getfield 212, 3) := by decide +kernel
theorem d_9_countedLetter_21 : decode cX9_countedLetter 21 = .ok (.iload_n 1, 1) := by decide +kernel
theorem d_9_countedLetter_22 : decode cX9_countedLetter 22 = .ok (.aload_n 0, 1) := by decide +kernel
theorem d_9_countedLetter_23 : decode cX9_countedLetter 23 = .ok (.getfield 46, 3) := by decide +kernel
theorem d_9_countedLetter_26 : decode cX9_countedLetter 26 = .ok (.invokevirtual 231, 3) := by decide +kernel
theorem d_9_countedLetter_29 : decode cX9_countedLetter 29 = .ok (.goto 15, 3) := by decide +kernel
theorem d_9_countedLetter_32 : decode cX9_countedLetter 32 = .ok (.aload_n 0, 1) := by decide +kernel
theorem d_9_countedLetter_33 : decode cX9_countedLetter 33 = .ok (.getfield 19, 3) := by decide +kernel
theorem d_9_countedLetter_36 : decode cX9_countedLetter 36 = .ok (.iload_n 1, 1) := by decide +kernel
theorem d_9_countedLetter_37 : decode cX9_countedLetter 37 = .ok (.aload_n 0, 1) := by decide +kernel
theorem d_9_countedLetter_38 : decode cX9_countedLetter 38 = .ok (.getfield 46, 3) := by decide +kernel
theorem d_9_countedLetter_41 : decode cX9_countedLetter 41 = .ok (.invokevirtual 78, 3) := by decide +kernel
theorem d_9_countedLetter_44 : decode cX9_countedLetter 44 = .ok (.iload_n 3, 1) := by decide +kernel
theorem d_9_countedLetter_45 : decode cX9_countedLetter 45 = .ok (.aload_n 0, 1) := by decide +kernel
theorem d_9_countedLetter_46 : decode cX9_countedLetter 46 = .ok (.getfield 46, 3) := by decide +kernel
theorem d_9_countedLetter_49 : decode cX9_countedLetter 49 = .ok (.invokestatic 221, 3) := by decide +kernel
theorem d_9_countedLetter_52 : decode cX9_countedLetter 52 = .ok (.aload_n 0, 1) := by decide +kernel
theorem d_9_countedLetter_53 : decode cX9_countedLetter 53 = .ok (.getfield 46, 3) := by decide +kernel
theorem d_9_countedLetter_56 : decode cX9_countedLetter 56 = .ok (.iload_n 3, 1) := by decide +kernel
theorem d_9_countedLetter_57 : decode cX9_countedLetter 57 = .ok (.invokevirtual 224, 3) := by decide +kernel
theorem d_9_countedLetter_60 : decode cX9_countedLetter 60 = .ok (.ireturn, 1) := by decide +kernel
theorem d_9_isIrregular_0 : decode cX9_isIrregular 0 = .ok (.aload_n 0, 1) := by decide +kernel
theorem d_9_isIrregular_1 : decode cX9_isIrregular 1 = .ok (.iload_n 1, 1) := by decide +kernel
theorem d_9_isIrregular_2 : decode cX9_isIrregular 2 = .ok (.invokevirtual 71, 3) := by decide +kernel
theorem d_9_isIrregular_5 : decode cX9_isIrregular 5 = .ok (.aload_n 0, 1) := by decide +kernel
theorem d_9_isIrregular_6 : decode cX9_isIrregular 6 = .ok (.getfield 19, 3) := by decide +kernel
theorem d_9_isIrregular_9 : decode cX9_isIrregular 9 = .ok (.getfield 212, 3) := by decide +kernel
theorem d_9_isIrregular_12 : decode cX9_isIrregular 12 = .ok (.iload_n 1, 1) := by decide +kernel
theorem d_9_isIrregular_13 : decode cX9_isIrregular 13 = .ok (.aload_n 0, 1) := by decide +kernel
theorem d_9_isIrregular_14 : decode cX9_isIrregular 14 = .ok (.getfield 46, 3) := by decide +kernel
theorem d_9_isIrregular_17 : decode cX9_isIrregular 17 = .ok (.invokevirtual 231, 3) := by decide +kernel
theorem d_9_isIrregular_20 : decode cX9_isIrregular 20 = .ok (.aload_n 0, 1) := by decide +kernel
theorem d_9_isIrregular_21 : decode cX9_isIrregular 21 = .ok (.getfield 19, 3) := by decide +kernel
theorem d_9_isIrregular_24 : decode cX9_isIrregular 24 = .ok (.getfield 162, 3) := by decide +kernel
theorem d_9_isIrregular_27 : decode cX9_isIrregular 27 = .ok (.aload_n 0, 1) := by decide +kernel
theorem d_9_isIrregular_28 : decode cX9_isIrregular 28 = .ok (.getfield 46, 3) := by decide +kernel
theorem d_9_isIrregular_31 : decode cX9_isIrregular 31 = .ok (.invokevirtual 234, 3) := by decide +kernel
theorem d_9_isIrregular_34 : decode cX9_isIrregular 34 = .ok (.iconst (-1), 1) := by decide +kernel
theorem d_9_isIrregular_35 : decode cX9_isIrregular 35 = .ok (.if_icmp .eq 7, 3) := by decide +kernel
theorem d_9_isIrregular_38 : decode cX9_isIrregular 38 = .ok (.iconst 1, 1) := by decide +kernel
theorem d_9_isIrregular_39 : decode cX9_isIrregular 39 = .ok (.goto 4, 3) := by decide +kernel
theorem d_9_isIrregular_42 : decode cX9_isIrregular 42 = .ok (.iconst 0, 1) := by decide +kernel
theorem d_9_isIrregular_43 : decode cX9_isIrregular 43 = .ok (.ireturn, 1) := by decide +kernel
theorem d_9_dieFor_0 : decode cX9_dieFor 0 = .ok (.aload_n 0, 1) := by decide +kernel
theorem d_9_dieFor_1 : decode cX9_dieFor 1 = .ok (.iload_n 1, 1) := by decide +kernel
theorem d_9_dieFor_2 : decode cX9_dieFor 2 = .ok (.invokevirtual 71, 3) := by decide +kernel
theorem d_9_dieFor_5 : decode cX9_dieFor 5 = .ok (.aload_n 0, 1) := by decide +kernel
theorem d_9_dieFor_6 : decode cX9_dieFor 6 = .ok (.getfield 19, 3) := by decide +kernel
theorem d_9_dieFor_9 : decode cX9_dieFor 9 = .ok (.getfield 212, 3) := by decide +kernel
theorem d_9_dieFor_12 : decode cX9_dieFor 12 = .ok (.iload_n 1, 1) := by decide +kernel
theorem d_9_dieFor_13 : decode cX9_dieFor 13 = .ok (.aload_n 0, 1) := by decide +kernel
theorem d_9_dieFor_14 : decode cX9_dieFor 14 = .ok (.getfield 46, 3) := by decide +kernel
theorem d_9_dieFor_17 : decode cX9_dieFor 17 = .ok (.invokevirtual 231, 3) := by decide +kernel
theorem d_9_dieFor_20 : decode cX9_dieFor 20 = .ok (.aload_n 0, 1) := by decide +kernel
theorem d_9_dieFor_21 : decode cX9_dieFor 21 = .ok (.getfield 19, 3) := by decide +kernel
theorem d_9_dieFor_24 : decode cX9_dieFor 24 = .ok (.getfield 162, 3) := by decide +kernel
theorem d_9_dieFor_27 : decode cX9_dieFor 27 = .ok (.aload_n 0, 1) := by decide +kernel
theorem d_9_dieFor_28 : decode cX9_dieFor 28 = .ok (.getfield 46, 3) := by decide +kernel
theorem d_9_dieFor_31 : decode cX9_dieFor 31 = .ok (.invokevirtual 234, 3) := by decide +kernel
theorem d_9_dieFor_34 : decode cX9_dieFor 34 = .ok (.iconst (-1), 1) := by decide +kernel
theorem d_9_dieFor_35 : decode cX9_dieFor 35 = .ok (.if_icmp .eq 7, 3) := by decide +kernel
theorem d_9_dieFor_38 : decode cX9_dieFor 38 = .ok (.iconst (-1), 1) := by decide +kernel
theorem d_9_dieFor_39 : decode cX9_dieFor 39 = .ok (.goto 17, 3) := by decide +kernel
theorem d_9_dieFor_42 : decode cX9_dieFor 42 = .ok (.aload_n 0, 1) := by decide +kernel
theorem d_9_dieFor_43 : decode cX9_dieFor 43 = .ok (.getfield 19, 3) := by decide +kernel
theorem d_9_dieFor_46 : decode cX9_dieFor 46 = .ok (.getfield 152, 3) := by decide +kernel
theorem d_9_dieFor_49 : decode cX9_dieFor 49 = .ok (.aload_n 0, 1) := by decide +kernel
theorem d_9_dieFor_50 : decode cX9_dieFor 50 = .ok (.getfield 46, 3) := by decide +kernel
theorem d_9_dieFor_53 : decode cX9_dieFor 53 = .ok (.invokevirtual 237, 3) := by decide +kernel
theorem d_9_dieFor_56 : decode cX9_dieFor 56 = .ok (.ireturn, 1) := by decide +kernel
theorem d_9_ambiguousNouns_0 : decode cX9_ambiguousNouns 0 = .ok (.aload_n 0, 1) := by decide +kernel
theorem d_9_ambiguousNouns_1 : decode cX9_ambiguousNouns 1 = .ok (.getfield 61, 3) := by decide +kernel
theorem d_9_ambiguousNouns_4 : decode cX9_ambiguousNouns 4 = .ok (.invokevirtual 240, 3) := by decide +kernel
theorem d_9_ambiguousNouns_7 : decode cX9_ambiguousNouns 7 = .ok (.iconst 0, 1) := by decide +kernel
theorem d_9_ambiguousNouns_8 : decode cX9_ambiguousNouns 8 = .ok (.istore_n 1, 1) := by decide +kernel
theorem d_9_ambiguousNouns_9 : decode cX9_ambiguousNouns 9 = .ok (.iload_n 1, 1) := by decide +kernel
theorem d_9_ambiguousNouns_10 : decode cX9_ambiguousNouns 10 = .ok (.aload_n 0, 1) := by decide +kernel
theorem d_9_ambiguousNouns_11 : decode cX9_ambiguousNouns 11 = .ok (.getfield 19, 3) := by decide +kernel
theorem d_9_ambiguousNouns_14 : decode cX9_ambiguousNouns 14 = .ok (.getfield 212, 3) := by decide +kernel
theorem d_9_ambiguousNouns_17 : decode cX9_ambiguousNouns 17 = .ok (.invokevirtual 165, 3) := by decide +kernel
theorem d_9_ambiguousNouns_20 : decode cX9_ambiguousNouns 20 = .ok (.if_icmp .ge 33, 3) := by decide +kernel
theorem d_9_ambiguousNouns_23 : decode cX9_ambiguousNouns 23 = .ok (.aload_n 0, 1) := by decide +kernel
theorem d_9_ambiguousNouns_24 : decode cX9_ambiguousNouns 24 = .ok (.getfield 19, 3) := by decide +kernel
theorem d_9_ambiguousNouns_27 : decode cX9_ambiguousNouns 27 = .ok (.iload_n 1, 1) := by decide +kernel
theorem d_9_ambiguousNouns_28 : decode cX9_ambiguousNouns 28 = .ok (.aload_n 0, 1) := by decide +kernel
theorem d_9_ambiguousNouns_29 : decode cX9_ambiguousNouns 29 = .ok (.getfield 50, 3) := by decide +kernel
theorem d_9_ambiguousNouns_32 : decode cX9_ambiguousNouns 32 = .ok (.invokevirtual 78, 3) := by decide +kernel
theorem d_9_ambiguousNouns_35 : decode cX9_ambiguousNouns 35 = .ok (.aload_n 0, 1) := by decide +kernel
theorem d_9_ambiguousNouns_36 : decode cX9_ambiguousNouns 36 = .ok (.getfield 61, 3) := by decide +kernel
theorem d_9_ambiguousNouns_39 : decode cX9_ambiguousNouns 39 = .ok (.aload_n 0, 1) := by decide +kernel
theorem d_9_ambiguousNouns_40 : decode cX9_ambiguousNouns 40 = .ok (.getfield 50, 3) := by decide +kernel
theorem d_9_ambiguousNouns_43 : decode cX9_ambiguousNouns 43 = .ok (.invokevirtual 241, 3) := by decide +kernel
theorem d_9_ambiguousNouns_46 : decode cX9_ambiguousNouns 46 = .ok (.pop, 1) := by decide +kernel
theorem d_9_ambiguousNouns_47 : decode cX9_ambiguousNouns 47 = .ok (.iinc 1 1, 3) := by decide +kernel
theorem d_9_ambiguousNouns_50 : decode cX9_ambiguousNouns 50 = .ok (.goto (-41), 3) := by decide +kernel
theorem d_9_ambiguousNouns_53 : decode cX9_ambiguousNouns 53 = .ok (.iconst 0, 1) := by decide +kernel
theorem d_9_ambiguousNouns_54 : decode cX9_ambiguousNouns 54 = .ok (.istore_n 1, 1) := by decide +kernel
theorem d_9_ambiguousNouns_55 : decode cX9_ambiguousNouns 55 = .ok (.iconst 0, 1) := by decide +kernel
theorem d_9_ambiguousNouns_56 : decode cX9_ambiguousNouns 56 = .ok (.istore_n 2, 1) := by decide +kernel
theorem d_9_ambiguousNouns_57 : decode cX9_ambiguousNouns 57 = .ok (.iload_n 2, 1) := by decide +kernel
theorem d_9_ambiguousNouns_58 : decode cX9_ambiguousNouns 58 = .ok (.aload_n 0, 1) := by decide +kernel
theorem d_9_ambiguousNouns_59 : decode cX9_ambiguousNouns 59 = .ok (.getfield 61, 3) := by decide +kernel
theorem d_9_ambiguousNouns_62 : decode cX9_ambiguousNouns 62 = .ok (.invokevirtual 165, 3) := by decide +kernel
theorem d_9_ambiguousNouns_65 : decode cX9_ambiguousNouns 65 = .ok (.if_icmp .ge 39, 3) := by decide +kernel
theorem d_9_ambiguousNouns_68 : decode cX9_ambiguousNouns 68 = .ok (.aload_n 0, 1) := by decide +kernel
theorem d_9_ambiguousNouns_69 : decode cX9_ambiguousNouns 69 = .ok (.getfield 61, 3) := by decide +kernel
theorem d_9_ambiguousNouns_72 : decode cX9_ambiguousNouns 72 = .ok (.iload_n 2, 1) := by decide +kernel
theorem d_9_ambiguousNouns_73 : decode cX9_ambiguousNouns 73 = .ok (.aload_n 0, 1) := by decide +kernel
theorem d_9_ambiguousNouns_74 : decode cX9_ambiguousNouns 74 = .ok (.getfield 50, 3) := by decide +kernel
theorem d_9_ambiguousNouns_77 : decode cX9_ambiguousNouns 77 = .ok (.invokevirtual 231, 3) := by decide +kernel
theorem d_9_ambiguousNouns_80 : decode cX9_ambiguousNouns 80 = .ok (.aload_n 0, 1) := by decide +kernel
theorem d_9_ambiguousNouns_81 : decode cX9_ambiguousNouns 81 = .ok (.getfield 61, 3) := by decide +kernel
theorem d_9_ambiguousNouns_84 : decode cX9_ambiguousNouns 84 = .ok (.aload_n 0, 1) := by decide +kernel
theorem d_9_ambiguousNouns_85 : decode cX9_ambiguousNouns 85 = .ok (.getfield 50, 3) := by decide +kernel
theorem d_9_ambiguousNouns_88 : decode cX9_ambiguousNouns 88 = .ok (.invokevirtual 245, 3) := by decide +kernel
theorem d_9_ambiguousNouns_91 : decode cX9_ambiguousNouns 91 = .ok (.iconst 1, 1) := by decide +kernel
theorem d_9_ambiguousNouns_92 : decode cX9_ambiguousNouns 92 = .ok (.if_icmp .le 6, 3) := by decide +kernel
theorem d_9_ambiguousNouns_95 : decode cX9_ambiguousNouns 95 = .ok (.iinc 1 1, 3) := by decide +kernel
theorem d_9_ambiguousNouns_98 : decode cX9_ambiguousNouns 98 = .ok (.iinc 2 1, 3) := by decide +kernel
theorem d_9_ambiguousNouns_101 : decode cX9_ambiguousNouns 101 = .ok (.goto (-44), 3) := by decide +kernel
theorem d_9_ambiguousNouns_104 : decode cX9_ambiguousNouns 104 = .ok (.iload_n 1, 1) := by decide +kernel
theorem d_9_ambiguousNouns_105 : decode cX9_ambiguousNouns 105 = .ok (.ireturn, 1) := by decide +kernel
theorem d_9_recallByStriking_0 : decode cX9_recallByStriking 0 = .ok (.aload_n 0, 1) := by decide +kernel
theorem d_9_recallByStriking_1 : decode cX9_recallByStriking 1 = .ok (.invokevirtual 248, 3) := by decide +kernel
theorem d_9_recallByStriking_4 : decode cX9_recallByStriking 4 = .ok (.iconst 0, 1) := by decide +kernel
theorem d_9_recallByStriking_5 : decode cX9_recallByStriking 5 = .ok (.istore_n 1, 1) := by decide +kernel
theorem d_9_recallByStriking_6 : decode cX9_recallByStriking 6 = .ok (.iload_n 1, 1) := by decide +kernel
theorem d_9_recallByStriking_7 : decode cX9_recallByStriking 7 = .ok (.aload_n 0, 1) := by decide +kernel
theorem d_9_recallByStriking_8 : decode cX9_recallByStriking 8 = .ok (.getfield 19, 3) := by decide +kernel
theorem d_9_recallByStriking_11 : decode cX9_recallByStriking 11 = .ok (.getfield 212, 3) := by decide +kernel
theorem d_9_recallByStriking_14 : decode cX9_recallByStriking 14 = .ok (.invokevirtual 165, 3) := by decide +kernel
theorem d_9_recallByStriking_17 : decode cX9_recallByStriking 17 = .ok (.if_icmp .ge 37, 3) := by decide +kernel
theorem d_9_recallByStriking_20 : decode cX9_recallByStriking 20 = .ok (.aload_n 0, 1) := by decide +kernel
theorem d_9_recallByStriking_21 : decode cX9_recallByStriking 21 = .ok (.getfield 19, 3) := by decide +kernel
theorem d_9_recallByStriking_24 : decode cX9_recallByStriking 24 = .ok (.iload_n 1, 1) := by decide +kernel
theorem d_9_recallByStriking_25 : decode cX9_recallByStriking 25 = .ok (.aload_n 0, 1) := by decide +kernel
theorem d_9_recallByStriking_26 : decode cX9_recallByStriking 26 = .ok (.getfield 50, 3) := by decide +kernel
theorem d_9_recallByStriking_29 : decode cX9_recallByStriking 29 = .ok (.invokevirtual 78, 3) := by decide +kernel
theorem d_9_recallByStriking_32 : decode cX9_recallByStriking 32 = .ok (.aload_n 0, 1) := by decide +kernel
theorem d_9_recallByStriking_33 : decode cX9_recallByStriking 33 = .ok (.getfield 50, 3) := by decide +kernel
theorem d_9_recallByStriking_36 : decode cX9_recallByStriking 36 = .ok (.aload_n 0, 1) := by decide +kernel
theorem d_9_recallByStriking_37 : decode cX9_recallByStriking 37 = .ok (.getfield 46, 3) := by decide +kernel
theorem d_9_recallByStriking_40 : decode cX9_recallByStriking 40 = .ok (.invokevirtual 251, 3) := by decide +kernel
theorem d_9_recallByStriking_43 : decode cX9_recallByStriking 43 = .ok (.ifCond .eq 5, 3) := by decide +kernel
theorem d_9_recallByStriking_46 : decode cX9_recallByStriking 46 = .ok (.iload_n 1, 1) := by decide +kernel
theorem d_9_recallByStriking_47 : decode cX9_recallByStriking 47 = .ok (.ireturn, 1) := by decide +kernel
theorem d_9_recallByStriking_48 : decode cX9_recallByStriking 48 = .ok (.iinc 1 1, 3) := by decide +kernel
theorem d_9_recallByStriking_51 : decode cX9_recallByStriking 51 = .ok (.goto (-45), 3) := by decide +kernel
theorem d_9_recallByStriking_54 : decode cX9_recallByStriking 54 = .ok (.iconst (-1), 1) := by decide +kernel
theorem d_9_recallByStriking_55 : decode cX9_recallByStriking 55 = .ok (.ireturn, 1) := by decide +kernel
theorem d_9_recallByReversing_0 : decode cX9_recallByReversing 0 = .ok (.aload_n 0, 1) := by decide +kernel
theorem d_9_recallByReversing_1 : decode cX9_recallByReversing 1 = .ok (.invokevirtual 248, 3) := by decide +kernel
theorem d_9_recallByReversing_4 : decode cX9_recallByReversing 4 = .ok (.aload_n 0, 1) := by decide +kernel
theorem d_9_recallByReversing_5 : decode cX9_recallByReversing 5 = .ok (.invokevirtual 254, 3) := by decide +kernel
theorem d_9_recallByReversing_8 : decode cX9_recallByReversing 8 = .ok (.iconst (-1), 1) := by decide +kernel
theorem d_9_recallByReversing_9 : decode cX9_recallByReversing 9 = .ok (.istore_n 1, 1) := by decide +kernel
theorem d_9_recallByReversing_10 : decode cX9_recallByReversing 10 = .ok (.iconst 0, 1) := by decide +kernel
theorem d_9_recallByReversing_11 : decode cX9_recallByReversing 11 = .ok (.istore_n 2, 1) := by decide +kernel
theorem d_9_recallByReversing_12 : decode cX9_recallByReversing 12 = .ok (.iload_n 2, 1) := by decide +kernel
theorem d_9_recallByReversing_13 : decode cX9_recallByReversing 13 = .ok (.aload_n 0, 1) := by decide +kernel
theorem d_9_recallByReversing_14 : decode cX9_recallByReversing 14 = .ok (.getfield 65, 3) := by decide +kernel
theorem d_9_recallByReversing_17 : decode cX9_recallByReversing 17 = .ok (.invokevirtual 165, 3) := by decide +kernel
theorem d_9_recallByReversing_20 : decode cX9_recallByReversing 20 = .ok (.if_icmp .ge 53, 3) := by decide +kernel
theorem d_9_recallByReversing_23 : decode cX9_recallByReversing 23 = .ok (.aload_n 0, 1) := by decide +kernel
theorem d_9_recallByReversing_24 : decode cX9_recallByReversing 24 = .ok (.getfield 65, 3) := by decide +kernel
theorem d_9_recallByReversing_27 : decode cX9_recallByReversing 27 = .ok (.iload_n 2, 1) := by decide +kernel
theorem d_9_recallByReversing_28 : decode cX9_recallByReversing 28 = .ok (.aload_n 0, 1) := by decide +kernel
theorem d_9_recallByReversing_29 : decode cX9_recallByReversing 29 = .ok (.getfield 53, 3) := by decide +kernel
theorem d_9_recallByReversing_32 : decode cX9_recallByReversing 32 = .ok (.invokevirtual 231, 3) := by decide +kernel
theorem d_9_recallByReversing_35 : decode cX9_recallByReversing 35 = .ok (.aload_n 0, 1) := by decide +kernel
theorem d_9_recallByReversing_36 : decode cX9_recallByReversing 36 = .ok (.getfield 19, 3) := by decide +kernel
theorem d_9_recallByReversing_39 : decode cX9_recallByReversing 39 = .ok (.getfield 212, 3) := by decide +kernel
theorem d_9_recallByReversing_42 : decode cX9_recallByReversing 42 = .ok (.aload_n 0, 1) := by decide +kernel
theorem d_9_recallByReversing_43 : decode cX9_recallByReversing 43 = .ok (.getfield 53, 3) := by decide +kernel
theorem d_9_recallByReversing_46 : decode cX9_recallByReversing 46 = .ok (.invokevirtual 234, 3) := by decide +kernel
theorem d_9_recallByReversing_49 : decode cX9_recallByReversing 49 = .ok (.istore_n 3, 1) := by decide +kernel
theorem d_9_recallByReversing_50 : decode cX9_recallByReversing 50 = .ok (.iload_n 3, 1) := by decide +kernel
theorem d_9_recallByReversing_51 : decode cX9_recallByReversing 51 = .ok (.iconst (-1), 1) := by decide +kernel
theorem d_9_recallByReversing_52 : decode cX9_recallByReversing 52 = .ok (.if_icmp .eq 15, 3) := by decide +kernel
theorem d_9_recallByReversing_55 : decode cX9_recallByReversing 55 = .ok (.iload_n 1, 1) := by decide +kernel
theorem d_9_recallByReversing_56 : decode cX9_recallByReversing 56 = .ok (.iconst (-1), 1) := by decide +kernel
theorem d_9_recallByReversing_57 : decode cX9_recallByReversing 57 = .ok (.if_icmp .eq 8, 3) := by decide +kernel
theorem d_9_recallByReversing_60 : decode cX9_recallByReversing 60 = .ok (.iload_n 3, 1) := by decide +kernel
theorem d_9_recallByReversing_61 : decode cX9_recallByReversing 61 = .ok (.iload_n 1, 1) := by decide +kernel
theorem d_9_recallByReversing_62 : decode cX9_recallByReversing 62 = .ok (.if_icmp .ge 5, 3) := by decide +kernel
theorem d_9_recallByReversing_65 : decode cX9_recallByReversing 65 = .ok (.iload_n 3, 1) := by decide +kernel
theorem d_9_recallByReversing_66 : decode cX9_recallByReversing 66 = .ok (.istore_n 1, 1) := by decide +kernel
theorem d_9_recallByReversing_67 : decode cX9_recallByReversing 67 = .ok (.iinc 2 1, 3) := by decide +kernel
theorem d_9_recallByReversing_70 : decode cX9_recallByReversing 70 = .ok (.goto (-58), 3) := by decide +kernel
theorem d_9_recallByReversing_73 : decode cX9_recallByReversing 73 = .ok (.iload_n 1, 1) := by decide +kernel
theorem d_9_recallByReversing_74 : decode cX9_recallByReversing 74 = .ok (.ireturn, 1) := by decide +kernel
theorem d_9_possibleNouns_0 : decode cX9_possibleNouns 0 = .ok (.aload_n 0, 1) := by decide +kernel
theorem d_9_possibleNouns_1 : decode cX9_possibleNouns 1 = .ok (.invokevirtual 248, 3) := by decide +kernel
theorem d_9_possibleNouns_4 : decode cX9_possibleNouns 4 = .ok (.aload_n 0, 1) := by decide +kernel
theorem d_9_possibleNouns_5 : decode cX9_possibleNouns 5 = .ok (.invokevirtual 254, 3) := by decide +kernel
theorem d_9_possibleNouns_8 : decode cX9_possibleNouns 8 = .ok (.aload_n 0, 1) := by decide +kernel
theorem d_9_possibleNouns_9 : decode cX9_possibleNouns 9 = .ok (.getfield 65, 3) := by decide +kernel
theorem d_9_possibleNouns_12 : decode cX9_possibleNouns 12 = .ok (.invokevirtual 165, 3) := by decide +kernel
theorem d_9_possibleNouns_15 : decode cX9_possibleNouns 15 = .ok (.ireturn, 1) := by decide +kernel
theorem d_9_dies_0 : decode cX9_dies 0 = .ok (.aload_n 0, 1) := by decide +kernel
theorem d_9_dies_1 : decode cX9_dies 1 = .ok (.getfield 19, 3) := by decide +kernel
theorem d_9_dies_4 : decode cX9_dies 4 = .ok (.getfield 152, 3) := by decide +kernel
theorem d_9_dies_7 : decode cX9_dies 7 = .ok (.invokevirtual 161, 3) := by decide +kernel
theorem d_9_dies_10 : decode cX9_dies 10 = .ok (.ireturn, 1) := by decide +kernel
theorem d_9_irregulars_0 : decode cX9_irregulars 0 = .ok (.aload_n 0, 1) := by decide +kernel
theorem d_9_irregulars_1 : decode cX9_irregulars 1 = .ok (.getfield 19, 3) := by decide +kernel
theorem d_9_irregulars_4 : decode cX9_irregulars 4 = .ok (.getfield 162, 3) := by decide +kernel
theorem d_9_irregulars_7 : decode cX9_irregulars 7 = .ok (.invokevirtual 165, 3) := by decide +kernel
theorem d_9_irregulars_10 : decode cX9_irregulars 10 = .ok (.ireturn, 1) := by decide +kernel
theorem d_9_fitsOf_0 : decode cX9_fitsOf 0 = .ok (.aload_n 0, 1) := by decide +kernel
theorem d_9_fitsOf_1 : decode cX9_fitsOf 1 = .ok (.iload_n 1, 1) := by decide +kernel
theorem d_9_fitsOf_2 : decode cX9_fitsOf 2 = .ok (.invokevirtual 147, 3) := by decide +kernel
theorem d_9_fitsOf_5 : decode cX9_fitsOf 5 = .ok (.iconst 0, 1) := by decide +kernel
theorem d_9_fitsOf_6 : decode cX9_fitsOf 6 = .ok (.istore_n 2, 1) := by decide +kernel
theorem d_9_fitsOf_7 : decode cX9_fitsOf 7 = .ok (.iconst 0, 1) := by decide +kernel
theorem d_9_fitsOf_8 : decode cX9_fitsOf 8 = .ok (.istore_n 3, 1) := by decide +kernel
theorem d_9_fitsOf_9 : decode cX9_fitsOf 9 = .ok (.iload_n 3, 1) := by decide +kernel
theorem d_9_fitsOf_10 : decode cX9_fitsOf 10 = .ok (.aload_n 0, 1) := by decide +kernel
theorem d_9_fitsOf_11 : decode cX9_fitsOf 11 = .ok (.getfield 19, 3) := by decide +kernel
theorem d_9_fitsOf_14 : decode cX9_fitsOf 14 = .ok (.getfield 212, 3) := by decide +kernel
theorem d_9_fitsOf_17 : decode cX9_fitsOf 17 = .ok (.invokevirtual 165, 3) := by decide +kernel
theorem d_9_fitsOf_20 : decode cX9_fitsOf 20 = .ok (.if_icmp .ge 45, 3) := by decide +kernel
theorem d_9_fitsOf_23 : decode cX9_fitsOf 23 = .ok (.aload_n 0, 1) := by decide +kernel
theorem d_9_fitsOf_24 : decode cX9_fitsOf 24 = .ok (.getfield 19, 3) := by decide +kernel
theorem d_9_fitsOf_27 : decode cX9_fitsOf 27 = .ok (.getfield 212, 3) := by decide +kernel
theorem d_9_fitsOf_30 : decode cX9_fitsOf 30 = .ok (.iload_n 3, 1) := by decide +kernel
theorem d_9_fitsOf_31 : decode cX9_fitsOf 31 = .ok (.aload_n 0, 1) := by decide +kernel
theorem d_9_fitsOf_32 : decode cX9_fitsOf 32 = .ok (.getfield 46, 3) := by decide +kernel
theorem d_9_fitsOf_35 : decode cX9_fitsOf 35 = .ok (.invokevirtual 231, 3) := by decide +kernel
theorem d_9_fitsOf_38 : decode cX9_fitsOf 38 = .ok (.aload_n 0, 1) := by decide +kernel
theorem d_9_fitsOf_39 : decode cX9_fitsOf 39 = .ok (.getfield 19, 3) := by decide +kernel
theorem d_9_fitsOf_42 : decode cX9_fitsOf 42 = .ok (.getfield 152, 3) := by decide +kernel
theorem d_9_fitsOf_45 : decode cX9_fitsOf 45 = .ok (.iload_n 1, 1) := by decide +kernel
theorem d_9_fitsOf_46 : decode cX9_fitsOf 46 = .ok (.aload_n 0, 1) := by decide +kernel
theorem d_9_fitsOf_47 : decode cX9_fitsOf 47 = .ok (.getfield 46, 3) := by decide +kernel
theorem d_9_fitsOf_50 : decode cX9_fitsOf 50 = .ok (.invokevirtual 257, 3) := by decide +kernel
theorem d_9_fitsOf_53 : decode cX9_fitsOf 53 = .ok (.ifCond .eq 6, 3) := by decide +kernel
theorem d_9_fitsOf_56 : decode cX9_fitsOf 56 = .ok (.iinc 2 1, 3) := by decide +kernel
theorem d_9_fitsOf_59 : decode cX9_fitsOf 59 = .ok (.iinc 3 1, 3) := by decide +kernel
theorem d_9_fitsOf_62 : decode cX9_fitsOf 62 = .ok (.goto (-53), 3) := by decide +kernel
theorem d_9_fitsOf_65 : decode cX9_fitsOf 65 = .ok (.iload_n 2, 1) := by decide +kernel
theorem d_9_fitsOf_66 : decode cX9_fitsOf 66 = .ok (.ireturn, 1) := by decide +kernel
theorem d_9_coinsOf_0 : decode cX9_coinsOf 0 = .ok (.aload_n 0, 1) := by decide +kernel
theorem d_9_coinsOf_1 : decode cX9_coinsOf 1 = .ok (.iload_n 1, 1) := by decide +kernel
theorem d_9_coinsOf_2 : decode cX9_coinsOf 2 = .ok (.invokevirtual 71, 3) := by decide +kernel
theorem d_9_coinsOf_5 : decode cX9_coinsOf 5 = .ok (.aload_n 0, 1) := by decide +kernel
theorem d_9_coinsOf_6 : decode cX9_coinsOf 6 = .ok (.getfield 19, 3) := by decide +kernel
theorem d_9_coinsOf_9 : decode cX9_coinsOf 9 = .ok (.getfield 82, 3) := by decide +kernel
theorem d_9_coinsOf_12 : decode cX9_coinsOf 12 = .ok (.iload_n 1, 1) := by decide +kernel
theorem d_9_coinsOf_13 : decode cX9_coinsOf 13 = .ok (.invokevirtual 118, 3) := by decide +kernel
theorem d_9_coinsOf_16 : decode cX9_coinsOf 16 = .ok (.ireturn, 1) := by decide +kernel
theorem d_9_heaps_0 : decode cX9_heaps 0 = .ok (.aload_n 0, 1) := by decide +kernel
theorem d_9_heaps_1 : decode cX9_heaps 1 = .ok (.getfield 19, 3) := by decide +kernel
theorem d_9_heaps_4 : decode cX9_heaps 4 = .ok (.getfield 82, 3) := by decide +kernel
theorem d_9_heaps_7 : decode cX9_heaps 7 = .ok (.invokevirtual 130, 3) := by decide +kernel
theorem d_9_heaps_10 : decode cX9_heaps 10 = .ok (.ireturn, 1) := by decide +kernel
theorem d_9_staleCoins_0 : decode cX9_staleCoins 0 = .ok (.iconst 0, 1) := by decide +kernel
theorem d_9_staleCoins_1 : decode cX9_staleCoins 1 = .ok (.istore_n 1, 1) := by decide +kernel
theorem d_9_staleCoins_2 : decode cX9_staleCoins 2 = .ok (.iconst 0, 1) := by decide +kernel
theorem d_9_staleCoins_3 : decode cX9_staleCoins 3 = .ok (.istore_n 2, 1) := by decide +kernel
theorem d_9_staleCoins_4 : decode cX9_staleCoins 4 = .ok (.iload_n 2, 1) := by decide +kernel
theorem d_9_staleCoins_5 : decode cX9_staleCoins 5 = .ok (.aload_n 0, 1) := by decide +kernel
theorem d_9_staleCoins_6 : decode cX9_staleCoins 6 = .ok (.getfield 19, 3) := by decide +kernel
theorem d_9_staleCoins_9 : decode cX9_staleCoins 9 = .ok (.getfield 82, 3) := by decide +kernel
theorem d_9_staleCoins_12 : decode cX9_staleCoins 12 = .ok (.invokevirtual 130, 3) := by decide +kernel
theorem d_9_staleCoins_15 : decode cX9_staleCoins 15 = .ok (.if_icmp .ge 38, 3) := by decide +kernel
theorem d_9_staleCoins_18 : decode cX9_staleCoins 18 = .ok (.aload_n 0, 1) := by decide +kernel
theorem d_9_staleCoins_19 : decode cX9_staleCoins 19 = .ok (.getfield 19, 3) := by decide +kernel
theorem d_9_staleCoins_22 : decode cX9_staleCoins 22 = .ok (.iload_n 2, 1) := by decide +kernel
theorem d_9_staleCoins_23 : decode cX9_staleCoins 23 = .ok (.aload_n 0, 1) := by decide +kernel
theorem d_9_staleCoins_24 : decode cX9_staleCoins 24 = .ok (.getfield 50, 3) := by decide +kernel
theorem d_9_staleCoins_27 : decode cX9_staleCoins 27 = .ok (.invokevirtual 134, 3) := by decide +kernel
theorem d_9_staleCoins_30 : decode cX9_staleCoins 30 = .ok (.ifCond .eq 17, 3) := by decide +kernel
theorem d_9_staleCoins_33 : decode cX9_staleCoins 33 = .ok (.iload_n 1, 1) := by decide +kernel
theorem d_9_staleCoins_34 : decode cX9_staleCoins 34 = .ok (.aload_n 0, 1) := by decide +kernel
theorem d_9_staleCoins_35 : decode cX9_staleCoins 35 = .ok (.getfield 19, 3) := by decide +kernel
theorem d_9_staleCoins_38 : decode cX9_staleCoins 38 = .ok (.getfield 82, 3) := by decide +kernel
theorem d_9_staleCoins_41 : decode cX9_staleCoins 41 = .ok (.iload_n 2, 1) := by decide +kernel
theorem d_9_staleCoins_42 : decode cX9_staleCoins 42 = .ok (.invokevirtual 138, 3) := by decide +kernel
theorem d_9_staleCoins_45 : decode cX9_staleCoins 45 = .ok (.iadd, 1) := by decide +kernel
theorem d_9_staleCoins_46 : decode cX9_staleCoins 46 = .ok (.istore_n 1, 1) := by decide +kernel
theorem d_9_staleCoins_47 : decode cX9_staleCoins 47 = .ok (.iinc 2 1, 3) := by decide +kernel
theorem d_9_staleCoins_50 : decode cX9_staleCoins 50 = .ok (.goto (-46), 3) := by decide +kernel
theorem d_9_staleCoins_53 : decode cX9_staleCoins 53 = .ok (.iload_n 1, 1) := by decide +kernel
theorem d_9_staleCoins_54 : decode cX9_staleCoins 54 = .ok (.ireturn, 1) := by decide +kernel
theorem d_9_coinsByHeaps_0 : decode cX9_coinsByHeaps 0 = .ok (.iconst 0, 1) := by decide +kernel
theorem d_9_coinsByHeaps_1 : decode cX9_coinsByHeaps 1 = .ok (.istore_n 1, 1) := by decide +kernel
theorem d_9_coinsByHeaps_2 : decode cX9_coinsByHeaps 2 = .ok (.iconst 0, 1) := by decide +kernel
theorem d_9_coinsByHeaps_3 : decode cX9_coinsByHeaps 3 = .ok (.istore_n 2, 1) := by decide +kernel
theorem d_9_coinsByHeaps_4 : decode cX9_coinsByHeaps 4 = .ok (.iload_n 2, 1) := by decide +kernel
theorem d_9_coinsByHeaps_5 : decode cX9_coinsByHeaps 5 = .ok (.aload_n 0, 1) := by decide +kernel
theorem d_9_coinsByHeaps_6 : decode cX9_coinsByHeaps 6 = .ok (.getfield 19, 3) := by decide +kernel
theorem d_9_coinsByHeaps_9 : decode cX9_coinsByHeaps 9 = .ok (.getfield 82, 3) := by decide +kernel
theorem d_9_coinsByHeaps_12 : decode cX9_coinsByHeaps 12 = .ok (.invokevirtual 130, 3) := by decide +kernel
theorem d_9_coinsByHeaps_15 : decode cX9_coinsByHeaps 15 = .ok (.if_icmp .ge 23, 3) := by decide +kernel
theorem d_9_coinsByHeaps_18 : decode cX9_coinsByHeaps 18 = .ok (.iload_n 1, 1) := by decide +kernel
theorem d_9_coinsByHeaps_19 : decode cX9_coinsByHeaps 19 = .ok (.aload_n 0, 1) := by decide +kernel
theorem d_9_coinsByHeaps_20 : decode cX9_coinsByHeaps 20 = .ok (.getfield 19, 3) := by decide +kernel
theorem d_9_coinsByHeaps_23 : decode cX9_coinsByHeaps 23 = .ok (.getfield 82, 3) := by decide +kernel
theorem d_9_coinsByHeaps_26 : decode cX9_coinsByHeaps 26 = .ok (.iload_n 2, 1) := by decide +kernel
theorem d_9_coinsByHeaps_27 : decode cX9_coinsByHeaps 27 = .ok (.invokevirtual 138, 3) := by decide +kernel
theorem d_9_coinsByHeaps_30 : decode cX9_coinsByHeaps 30 = .ok (.iadd, 1) := by decide +kernel
theorem d_9_coinsByHeaps_31 : decode cX9_coinsByHeaps 31 = .ok (.istore_n 1, 1) := by decide +kernel
theorem d_9_coinsByHeaps_32 : decode cX9_coinsByHeaps 32 = .ok (.iinc 2 1, 3) := by decide +kernel
theorem d_9_coinsByHeaps_35 : decode cX9_coinsByHeaps 35 = .ok (.goto (-31), 3) := by decide +kernel
theorem d_9_coinsByHeaps_38 : decode cX9_coinsByHeaps 38 = .ok (.iload_n 1, 1) := by decide +kernel
theorem d_9_coinsByHeaps_39 : decode cX9_coinsByHeaps 39 = .ok (.ireturn, 1) := by decide +kernel
theorem d_9_coinsByAccounts_0 : decode cX9_coinsByAccounts 0 = .ok (.aload_n 0, 1) := by decide +kernel
theorem d_9_coinsByAccounts_1 : decode cX9_coinsByAccounts 1 = .ok (.getfield 19, 3) := by decide +kernel
theorem d_9_coinsByAccounts_4 : decode cX9_coinsByAccounts 4 = .ok (.getfield 114, 3) := by decide +kernel
theorem d_9_coinsByAccounts_7 : decode cX9_coinsByAccounts 7 = .ok (.aload_n 0, 1) := by decide +kernel
theorem d_9_coinsByAccounts_8 : decode cX9_coinsByAccounts 8 = .ok (.getfield 19, 3) := by decide +kernel
theorem d_9_coinsByAccounts_11 : decode cX9_coinsByAccounts 11 = .ok (.getfield 127, 3) := by decide +kernel
theorem d_9_coinsByAccounts_14 : decode cX9_coinsByAccounts 14 = .ok (.isub, 1) := by decide +kernel
theorem d_9_coinsByAccounts_15 : decode cX9_coinsByAccounts 15 = .ok (.ireturn, 1) := by decide +kernel
theorem d_9_recordedStates_0 : decode cX9_recordedStates 0 = .ok (.aload_n 0, 1) := by decide +kernel
theorem d_9_recordedStates_1 : decode cX9_recordedStates 1 = .ok (.getfield 29, 3) := by decide +kernel
theorem d_9_recordedStates_4 : decode cX9_recordedStates 4 = .ok (.invokevirtual 202, 3) := by decide +kernel
theorem d_9_recordedStates_7 : decode cX9_recordedStates 7 = .ok (.ireturn, 1) := by decide +kernel
theorem d_9_checkNoun_0 : decode cX9_checkNoun 0 = .ok (.iload_n 1, 1) := by decide +kernel
theorem d_9_checkNoun_1 : decode cX9_checkNoun 1 = .ok (.ifCond .lt 17, 3) := by decide +kernel
theorem d_9_checkNoun_4 : decode cX9_checkNoun 4 = .ok (.iload_n 1, 1) := by decide +kernel
theorem d_9_checkNoun_5 : decode cX9_checkNoun 5 = .ok (.aload_n 0, 1) := by decide +kernel
theorem d_9_checkNoun_6 : decode cX9_checkNoun 6 = .ok (.getfield 19, 3) := by decide +kernel
theorem d_9_checkNoun_9 : decode cX9_checkNoun 9 = .ok (.getfield 212, 3) := by decide +kernel
theorem d_9_checkNoun_12 : decode cX9_checkNoun 12 = .ok (.invokevirtual 165, 3) := by decide +kernel
theorem d_9_checkNoun_15 : decode cX9_checkNoun 15 = .ok (.if_icmp .lt 14, 3) := by decide +kernel
theorem d_9_checkNoun_18 : decode cX9_checkNoun 18 = .ok (.new 260, 3) := by decide +kernel
theorem d_9_checkNoun_21 : decode cX9_checkNoun 21 = .ok (.dup, 1) := by decide +kernel
theorem d_9_checkNoun_22 : decode cX9_checkNoun 22 = .ok (.ldc_w 262, 3) := by decide +kernel
theorem d_9_checkNoun_25 : decode cX9_checkNoun 25 = .ok (.invokespecial 264, 3) := by decide +kernel
theorem d_9_checkNoun_28 : decode cX9_checkNoun 28 = .ok (.athrow, 1) := by decide +kernel
theorem d_9_checkNoun_29 : decode cX9_checkNoun 29 = .ok (.return_, 1) := by decide +kernel
theorem d_9_checkDie_0 : decode cX9_checkDie 0 = .ok (.iload_n 1, 1) := by decide +kernel
theorem d_9_checkDie_1 : decode cX9_checkDie 1 = .ok (.ifCond .lt 17, 3) := by decide +kernel
theorem d_9_checkDie_4 : decode cX9_checkDie 4 = .ok (.iload_n 1, 1) := by decide +kernel
theorem d_9_checkDie_5 : decode cX9_checkDie 5 = .ok (.aload_n 0, 1) := by decide +kernel
theorem d_9_checkDie_6 : decode cX9_checkDie 6 = .ok (.getfield 19, 3) := by decide +kernel
theorem d_9_checkDie_9 : decode cX9_checkDie 9 = .ok (.getfield 152, 3) := by decide +kernel
theorem d_9_checkDie_12 : decode cX9_checkDie 12 = .ok (.invokevirtual 161, 3) := by decide +kernel
theorem d_9_checkDie_15 : decode cX9_checkDie 15 = .ok (.if_icmp .lt 14, 3) := by decide +kernel
theorem d_9_checkDie_18 : decode cX9_checkDie 18 = .ok (.new 260, 3) := by decide +kernel
theorem d_9_checkDie_21 : decode cX9_checkDie 21 = .ok (.dup, 1) := by decide +kernel
theorem d_9_checkDie_22 : decode cX9_checkDie 22 = .ok (.ldc_w 265, 3) := by decide +kernel
theorem d_9_checkDie_25 : decode cX9_checkDie 25 = .ok (.invokespecial 264, 3) := by decide +kernel
theorem d_9_checkDie_28 : decode cX9_checkDie 28 = .ok (.athrow, 1) := by decide +kernel
theorem d_9_checkDie_29 : decode cX9_checkDie 29 = .ok (.return_, 1) := by decide +kernel
theorem d_9_checkPlace_0 : decode cX9_checkPlace 0 = .ok (.iload_n 0, 1) := by decide +kernel
theorem d_9_checkPlace_1 : decode cX9_checkPlace 1 = .ok (.ifCond .lt 11, 3) := by decide +kernel
theorem d_9_checkPlace_4 : decode cX9_checkPlace 4 = .ok (.iload_n 0, 1) := by decide +kernel
theorem d_9_checkPlace_5 : decode cX9_checkPlace 5 = .ok (.aload_n 1, 1) := by decide +kernel
theorem d_9_checkPlace_6 : decode cX9_checkPlace 6 = .ok (.invokevirtual 220, 3) := by decide +kernel
theorem d_9_checkPlace_9 : decode cX9_checkPlace 9 = .ok (.if_icmp .lt 14, 3) := by decide +kernel
theorem d_9_checkPlace_12 : decode cX9_checkPlace 12 = .ok (.new 260, 3) := by decide +kernel
theorem d_9_checkPlace_15 : decode cX9_checkPlace 15 = .ok (.dup, 1) := by decide +kernel
theorem d_9_checkPlace_16 : decode cX9_checkPlace 16 = .ok (.ldc_w 267, 3) := by decide +kernel
theorem d_9_checkPlace_19 : decode cX9_checkPlace 19 = .ok (.invokespecial 264, 3) := by decide +kernel
theorem d_9_checkPlace_22 : decode cX9_checkPlace 22 = .ok (.athrow, 1) := by decide +kernel
theorem d_9_checkPlace_23 : decode cX9_checkPlace 23 = .ok (.return_, 1) := by decide +kernel
theorem d_9_checkMany_0 : decode cX9_checkMany 0 = .ok (.iload_n 0, 1) := by decide +kernel
theorem d_9_checkMany_1 : decode cX9_checkMany 1 = .ok (.iconst 1, 1) := by decide +kernel
theorem d_9_checkMany_2 : decode cX9_checkMany 2 = .ok (.if_icmp .lt 9, 3) := by decide +kernel
theorem d_9_checkMany_5 : decode cX9_checkMany 5 = .ok (.iload_n 0, 1) := by decide +kernel
theorem d_9_checkMany_6 : decode cX9_checkMany 6 = .ok (.bipush 99, 2) := by decide +kernel
theorem d_9_checkMany_8 : decode cX9_checkMany 8 = .ok (.if_icmp .le 14, 3) := by decide +kernel
theorem d_9_checkMany_11 : decode cX9_checkMany 11 = .ok (.new 269, 3) := by decide +kernel
theorem d_9_checkMany_14 : decode cX9_checkMany 14 = .ok (.dup, 1) := by decide +kernel
theorem d_9_checkMany_15 : decode cX9_checkMany 15 = .ok (.ldc_w 271, 3) := by decide +kernel
theorem d_9_checkMany_18 : decode cX9_checkMany 18 = .ok (.invokespecial 273, 3) := by decide +kernel
theorem d_9_checkMany_21 : decode cX9_checkMany 21 = .ok (.athrow, 1) := by decide +kernel
theorem d_9_checkMany_22 : decode cX9_checkMany 22 = .ok (.return_, 1) := by decide +kernel
theorem d_9_checkCount_0 : decode cX9_checkCount 0 = .ok (.iload_n 0, 1) := by decide +kernel
theorem d_9_checkCount_1 : decode cX9_checkCount 1 = .ok (.ifCond .lt 10, 3) := by decide +kernel
theorem d_9_checkCount_4 : decode cX9_checkCount 4 = .ok (.iload_n 0, 1) := by decide +kernel
theorem d_9_checkCount_5 : decode cX9_checkCount 5 = .ok (.sipush 9999, 3) := by decide +kernel
theorem d_9_checkCount_8 : decode cX9_checkCount 8 = .ok (.if_icmp .le 14, 3) := by decide +kernel
theorem d_9_checkCount_11 : decode cX9_checkCount 11 = .ok (.new 269, 3) := by decide +kernel
theorem d_9_checkCount_14 : decode cX9_checkCount 14 = .ok (.dup, 1) := by decide +kernel
theorem d_9_checkCount_15 : decode cX9_checkCount 15 = .ok (.ldc_w 274, 3) := by decide +kernel
theorem d_9_checkCount_18 : decode cX9_checkCount 18 = .ok (.invokespecial 273, 3) := by decide +kernel
theorem d_9_checkCount_21 : decode cX9_checkCount 21 = .ok (.athrow, 1) := by decide +kernel
theorem d_9_checkCount_22 : decode cX9_checkCount 22 = .ok (.return_, 1) := by decide +kernel
theorem d_9_checkTextIsValid_0 : decode cX9_checkTextIsValid 0 = .ok (.aload_n 0, 1) := by decide +kernel
theorem d_9_checkTextIsValid_1 : decode cX9_checkTextIsValid 1 = .ok (.getfield 10, 3) := by decide +kernel
theorem d_9_checkTextIsValid_4 : decode cX9_checkTextIsValid 4 = .ok (.invokevirtual 185, 3) := by decide +kernel
theorem d_9_checkTextIsValid_7 : decode cX9_checkTextIsValid 7 = .ok (.iconst (-1), 1) := by decide +kernel
theorem d_9_checkTextIsValid_8 : decode cX9_checkTextIsValid 8 = .ok (.if_icmp .eq 14, 3) := by decide +kernel
theorem d_9_checkTextIsValid_11 : decode cX9_checkTextIsValid 11 = .ok (.new 96, 3) := by decide +kernel
theorem d_9_checkTextIsValid_14 : decode cX9_checkTextIsValid 14 = .ok (.dup, 1) := by decide +kernel
theorem d_9_checkTextIsValid_15 : decode cX9_checkTextIsValid 15 = .ok (.ldc_w 276, 3) := by decide +kernel
theorem d_9_checkTextIsValid_18 : decode cX9_checkTextIsValid 18 = .ok (.invokespecial 100, 3) := by decide +kernel
theorem d_9_checkTextIsValid_21 : decode cX9_checkTextIsValid 21 = .ok (.athrow, 1) := by decide +kernel
theorem d_9_checkTextIsValid_22 : decode cX9_checkTextIsValid 22 = .ok (.return_, 1) := by decide +kernel
theorem d_9_loadWantedPlural_0 : decode cX9_loadWantedPlural 0 = .ok (.aload_n 0, 1) := by decide +kernel
theorem d_9_loadWantedPlural_1 : decode cX9_loadWantedPlural 1 = .ok (.getfield 10, 3) := by decide +kernel
theorem d_9_loadWantedPlural_4 : decode cX9_loadWantedPlural 4 = .ok (.invokevirtual 278, 3) := by decide +kernel
theorem d_9_loadWantedPlural_7 : decode cX9_loadWantedPlural 7 = .ok (.ifCond .ne 14, 3) := by decide +kernel
theorem d_9_loadWantedPlural_10 : decode cX9_loadWantedPlural 10 = .ok (.new 96, 3) := by decide +kernel
theorem d_9_loadWantedPlural_13 : decode cX9_loadWantedPlural 13 = .ok (.dup, 1) := by decide +kernel
theorem d_9_loadWantedPlural_14 : decode cX9_loadWantedPlural 14 = .ok (.ldc_w 281, 3) := by decide +kernel
theorem d_9_loadWantedPlural_17 : decode cX9_loadWantedPlural 17 = .ok (.invokespecial 100, 3) := by decide +kernel
theorem d_9_loadWantedPlural_20 : decode cX9_loadWantedPlural 20 = .ok (.athrow, 1) := by decide +kernel
theorem d_9_loadWantedPlural_21 : decode cX9_loadWantedPlural 21 = .ok (.aload_n 0, 1) := by decide +kernel
theorem d_9_loadWantedPlural_22 : decode cX9_loadWantedPlural 22 = .ok (.getfield 10, 3) := by decide +kernel
theorem d_9_loadWantedPlural_25 : decode cX9_loadWantedPlural 25 = .ok (.aload_n 0, 1) := by decide +kernel
theorem d_9_loadWantedPlural_26 : decode cX9_loadWantedPlural 26 = .ok (.getfield 46, 3) := by decide +kernel
theorem d_9_loadWantedPlural_29 : decode cX9_loadWantedPlural 29 = .ok (.invokevirtual 283, 3) := by decide +kernel
theorem d_9_loadWantedPlural_32 : decode cX9_loadWantedPlural 32 = .ok (.return_, 1) := by decide +kernel
theorem d_9_tryOrders_0 : decode cX9_tryOrders 0 = .ok (.aload_n 0, 1) := by decide +kernel
theorem d_9_tryOrders_1 : decode cX9_tryOrders 1 = .ok (.getfield 33, 3) := by decide +kernel
theorem d_9_tryOrders_4 : decode cX9_tryOrders 4 = .ok (.aload_n 0, 1) := by decide +kernel
theorem d_9_tryOrders_5 : decode cX9_tryOrders 5 = .ok (.getfield 19, 3) := by decide +kernel
theorem d_9_tryOrders_8 : decode cX9_tryOrders 8 = .ok (.invokevirtual 196, 3) := by decide +kernel
theorem d_9_tryOrders_11 : decode cX9_tryOrders 11 = .ok (.aload_n 0, 1) := by decide +kernel
theorem d_9_tryOrders_12 : decode cX9_tryOrders 12 = .ok (.getfield 10, 3) := by decide +kernel
theorem d_9_tryOrders_15 : decode cX9_tryOrders 15 = .ok (.invokevirtual 199, 3) := by decide +kernel
theorem d_9_tryOrders_18 : decode cX9_tryOrders 18 = .ok (.istore_n 1, 1) := by decide +kernel
theorem d_9_tryOrders_19 : decode cX9_tryOrders 19 = .ok (.iconst 0, 1) := by decide +kernel
theorem d_9_tryOrders_20 : decode cX9_tryOrders 20 = .ok (.istore_n 2, 1) := by decide +kernel
theorem d_9_tryOrders_21 : decode cX9_tryOrders 21 = .ok (.iconst 0, 1) := by decide +kernel
theorem d_9_tryOrders_22 : decode cX9_tryOrders 22 = .ok (.istore_n 3, 1) := by decide +kernel
theorem d_9_tryOrders_23 : decode cX9_tryOrders 23 = .ok (.iload_n 3, 1) := by decide +kernel
theorem d_9_tryOrders_24 : decode cX9_tryOrders 24 = .ok (.iload_n 1, 1) := by decide +kernel
theorem d_9_tryOrders_25 : decode cX9_tryOrders 25 = .ok (.if_icmp .ge 38, 3) := by decide +kernel
theorem d_9_tryOrders_28 : decode cX9_tryOrders 28 = .ok (.aload_n 0, 1) := by decide +kernel
theorem d_9_tryOrders_29 : decode cX9_tryOrders 29 = .ok (.getfield 10, 3) := by decide +kernel
theorem d_9_tryOrders_32 : decode cX9_tryOrders 32 = .ok (.iload_n 2, 1) := by decide +kernel
theorem d_9_tryOrders_33 : decode cX9_tryOrders 33 = .ok (.aload_n 0, 1) := by decide +kernel
theorem d_9_tryOrders_34 : decode cX9_tryOrders 34 = .ok (.getfield 39, 3) := by decide +kernel
theorem d_9_tryOrders_37 : decode cX9_tryOrders 37 = .ok (.invokevirtual 286, 3) := by decide +kernel
theorem d_9_tryOrders_40 : decode cX9_tryOrders 40 = .ok (.istore_n 2, 1) := by decide +kernel
theorem d_9_tryOrders_41 : decode cX9_tryOrders 41 = .ok (.aload_n 0, 1) := by decide +kernel
theorem d_9_tryOrders_42 : decode cX9_tryOrders 42 = .ok (.getfield 33, 3) := by decide +kernel
theorem d_9_tryOrders_45 : decode cX9_tryOrders 45 = .ok (.aload_n 0, 1) := by decide +kernel
theorem d_9_tryOrders_46 : decode cX9_tryOrders 46 = .ok (.getfield 39, 3) := by decide +kernel
theorem d_9_tryOrders_49 : decode cX9_tryOrders 49 = .ok (.invokevirtual 290, 3) := by decide +kernel
theorem d_9_tryOrders_52 : decode cX9_tryOrders 52 = .ok (.ifCond .ne 5, 3) := by decide +kernel
theorem d_9_tryOrders_55 : decode cX9_tryOrders 55 = .ok (.iload_n 3, 1) := by decide +kernel
theorem d_9_tryOrders_56 : decode cX9_tryOrders 56 = .ok (.ireturn, 1) := by decide +kernel
theorem d_9_tryOrders_57 : decode cX9_tryOrders 57 = .ok (.iinc 3 1, 3) := by decide +kernel
theorem d_9_tryOrders_60 : decode cX9_tryOrders 60 = .ok (.goto (-37), 3) := by decide +kernel
theorem d_9_tryOrders_63 : decode cX9_tryOrders 63 = .ok (.iconst (-1), 1) := by decide +kernel
theorem d_9_tryOrders_64 : decode cX9_tryOrders 64 = .ok (.ireturn, 1) := by decide +kernel
theorem d_9_collectOrigins_0 : decode cX9_collectOrigins 0 = .ok (.aload_n 0, 1) := by decide +kernel
theorem d_9_collectOrigins_1 : decode cX9_collectOrigins 1 = .ok (.getfield 65, 3) := by decide +kernel
theorem d_9_collectOrigins_4 : decode cX9_collectOrigins 4 = .ok (.invokevirtual 240, 3) := by decide +kernel
theorem d_9_collectOrigins_7 : decode cX9_collectOrigins 7 = .ok (.iconst 0, 1) := by decide +kernel
theorem d_9_collectOrigins_8 : decode cX9_collectOrigins 8 = .ok (.istore_n 1, 1) := by decide +kernel
theorem d_9_collectOrigins_9 : decode cX9_collectOrigins 9 = .ok (.iload_n 1, 1) := by decide +kernel
theorem d_9_collectOrigins_10 : decode cX9_collectOrigins 10 = .ok (.aload_n 0, 1) := by decide +kernel
theorem d_9_collectOrigins_11 : decode cX9_collectOrigins 11 = .ok (.getfield 19, 3) := by decide +kernel
theorem d_9_collectOrigins_14 : decode cX9_collectOrigins 14 = .ok (.getfield 162, 3) := by decide +kernel
theorem d_9_collectOrigins_17 : decode cX9_collectOrigins 17 = .ok (.invokevirtual 165, 3) := by decide +kernel
theorem d_9_collectOrigins_20 : decode cX9_collectOrigins 20 = .ok (.if_icmp .ge 54, 3) := by decide +kernel
theorem d_9_collectOrigins_23 : decode cX9_collectOrigins 23 = .ok (.aload_n 0, 1) := by decide +kernel
theorem d_9_collectOrigins_24 : decode cX9_collectOrigins 24 = .ok (.getfield 19, 3) := by decide +kernel
theorem d_9_collectOrigins_27 : decode cX9_collectOrigins 27 = .ok (.getfield 169, 3) := by decide +kernel
theorem d_9_collectOrigins_30 : decode cX9_collectOrigins 30 = .ok (.iload_n 1, 1) := by decide +kernel
theorem d_9_collectOrigins_31 : decode cX9_collectOrigins 31 = .ok (.aload_n 0, 1) := by decide +kernel
theorem d_9_collectOrigins_32 : decode cX9_collectOrigins 32 = .ok (.getfield 46, 3) := by decide +kernel
theorem d_9_collectOrigins_35 : decode cX9_collectOrigins 35 = .ok (.invokevirtual 294, 3) := by decide +kernel
theorem d_9_collectOrigins_38 : decode cX9_collectOrigins 38 = .ok (.ifCond .eq 30, 3) := by decide +kernel
theorem d_9_collectOrigins_41 : decode cX9_collectOrigins 41 = .ok (.aload_n 0, 1) := by decide +kernel
theorem d_9_collectOrigins_42 : decode cX9_collectOrigins 42 = .ok (.getfield 19, 3) := by decide +kernel
theorem d_9_collectOrigins_45 : decode cX9_collectOrigins 45 = .ok (.getfield 162, 3) := by decide +kernel
theorem d_9_collectOrigins_48 : decode cX9_collectOrigins 48 = .ok (.iload_n 1, 1) := by decide +kernel
theorem d_9_collectOrigins_49 : decode cX9_collectOrigins 49 = .ok (.aload_n 0, 1) := by decide +kernel
theorem d_9_collectOrigins_50 : decode cX9_collectOrigins 50 = .ok (.getfield 53, 3) := by decide +kernel
theorem d_9_collectOrigins_53 : decode cX9_collectOrigins 53 = .ok (.invokevirtual 231, 3) := by decide +kernel
theorem d_9_collectOrigins_56 : decode cX9_collectOrigins 56 = .ok (.aload_n 0, 1) := by decide +kernel
theorem d_9_collectOrigins_57 : decode cX9_collectOrigins 57 = .ok (.getfield 65, 3) := by decide +kernel
theorem d_9_collectOrigins_60 : decode cX9_collectOrigins 60 = .ok (.aload_n 0, 1) := by decide +kernel
theorem d_9_collectOrigins_61 : decode cX9_collectOrigins 61 = .ok (.getfield 53, 3) := by decide +kernel
theorem d_9_collectOrigins_64 : decode cX9_collectOrigins 64 = .ok (.invokevirtual 241, 3) := by decide +kernel
theorem d_9_collectOrigins_67 : decode cX9_collectOrigins 67 = .ok (.pop, 1) := by decide +kernel
theorem d_9_collectOrigins_68 : decode cX9_collectOrigins 68 = .ok (.iinc 1 1, 3) := by decide +kernel
theorem d_9_collectOrigins_71 : decode cX9_collectOrigins 71 = .ok (.goto (-62), 3) := by decide +kernel
theorem d_9_collectOrigins_74 : decode cX9_collectOrigins 74 = .ok (.iconst 0, 1) := by decide +kernel
theorem d_9_collectOrigins_75 : decode cX9_collectOrigins 75 = .ok (.istore_n 1, 1) := by decide +kernel
theorem d_9_collectOrigins_76 : decode cX9_collectOrigins 76 = .ok (.iload_n 1, 1) := by decide +kernel
theorem d_9_collectOrigins_77 : decode cX9_collectOrigins 77 = .ok (.aload_n 0, 1) := by decide +kernel
theorem d_9_collectOrigins_78 : decode cX9_collectOrigins 78 = .ok (.getfield 19, 3) := by decide +kernel
theorem d_9_collectOrigins_81 : decode cX9_collectOrigins 81 = .ok (.getfield 152, 3) := by decide +kernel
theorem d_9_collectOrigins_84 : decode cX9_collectOrigins 84 = .ok (.invokevirtual 161, 3) := by decide +kernel
theorem d_9_collectOrigins_87 : decode cX9_collectOrigins 87 = .ok (.if_icmp .ge 101, 3) := by decide +kernel
theorem d_9_collectOrigins_90 : decode cX9_collectOrigins 90 = .ok (.aload_n 0, 1) := by decide +kernel
theorem d_9_collectOrigins_91 : decode cX9_collectOrigins 91 = .ok (.getfield 53, 3) := by decide +kernel
theorem d_9_collectOrigins_94 : decode cX9_collectOrigins 94 = .ok (.aload_n 0, 1) := by decide +kernel
theorem d_9_collectOrigins_95 : decode cX9_collectOrigins 95 = .ok (.getfield 46, 3) := by decide +kernel
theorem d_9_collectOrigins_98 : decode cX9_collectOrigins 98 = .ok (.invokevirtual 296, 3) := by decide +kernel
theorem d_9_collectOrigins_101 : decode cX9_collectOrigins 101 = .ok (.aload_n 0, 1) := by decide +kernel
theorem d_9_collectOrigins_102 : decode cX9_collectOrigins 102 = .ok (.getfield 19, 3) := by decide +kernel
theorem d_9_collectOrigins_105 : decode cX9_collectOrigins 105 = .ok (.getfield 152, 3) := by decide +kernel
theorem d_9_collectOrigins_108 : decode cX9_collectOrigins 108 = .ok (.iload_n 1, 1) := by decide +kernel
theorem d_9_collectOrigins_109 : decode cX9_collectOrigins 109 = .ok (.aload_n 0, 1) := by decide +kernel
theorem d_9_collectOrigins_110 : decode cX9_collectOrigins 110 = .ok (.getfield 53, 3) := by decide +kernel
theorem d_9_collectOrigins_113 : decode cX9_collectOrigins 113 = .ok (.invokevirtual 298, 3) := by decide +kernel
theorem d_9_collectOrigins_116 : decode cX9_collectOrigins 116 = .ok (.ifCond .eq 66, 3) := by decide +kernel
theorem d_9_collectOrigins_119 : decode cX9_collectOrigins 119 = .ok (.aload_n 0, 1) := by decide +kernel
theorem d_9_collectOrigins_120 : decode cX9_collectOrigins 120 = .ok (.getfield 50, 3) := by decide +kernel
theorem d_9_collectOrigins_123 : decode cX9_collectOrigins 123 = .ok (.aload_n 0, 1) := by decide +kernel
theorem d_9_collectOrigins_124 : decode cX9_collectOrigins 124 = .ok (.getfield 53, 3) := by decide +kernel
theorem d_9_collectOrigins_127 : decode cX9_collectOrigins 127 = .ok (.invokevirtual 296, 3) := by decide +kernel
theorem d_9_collectOrigins_130 : decode cX9_collectOrigins 130 = .ok (.aload_n 0, 1) := by decide +kernel
theorem d_9_collectOrigins_131 : decode cX9_collectOrigins 131 = .ok (.getfield 19, 3) := by decide +kernel
theorem d_9_collectOrigins_134 : decode cX9_collectOrigins 134 = .ok (.aload_n 0, 1) := by decide +kernel
theorem d_9_collectOrigins_135 : decode cX9_collectOrigins 135 = .ok (.getfield 50, 3) := by decide +kernel
theorem d_9_collectOrigins_138 : decode cX9_collectOrigins 138 = .ok (.invokevirtual 301, 3) := by decide +kernel
theorem d_9_collectOrigins_141 : decode cX9_collectOrigins 141 = .ok (.aload_n 0, 1) := by decide +kernel
theorem d_9_collectOrigins_142 : decode cX9_collectOrigins 142 = .ok (.getfield 50, 3) := by decide +kernel
theorem d_9_collectOrigins_145 : decode cX9_collectOrigins 145 = .ok (.aload_n 0, 1) := by decide +kernel
theorem d_9_collectOrigins_146 : decode cX9_collectOrigins 146 = .ok (.getfield 46, 3) := by decide +kernel
theorem d_9_collectOrigins_149 : decode cX9_collectOrigins 149 = .ok (.invokevirtual 251, 3) := by decide +kernel
theorem d_9_collectOrigins_152 : decode cX9_collectOrigins 152 = .ok (.ifCond .eq 30, 3) := by decide +kernel
theorem d_9_collectOrigins_155 : decode cX9_collectOrigins 155 = .ok (.aload_n 0, 1) := by decide +kernel
theorem d_9_collectOrigins_156 : decode cX9_collectOrigins 156 = .ok (.getfield 65, 3) := by decide +kernel
theorem d_9_collectOrigins_159 : decode cX9_collectOrigins 159 = .ok (.aload_n 0, 1) := by decide +kernel
theorem d_9_collectOrigins_160 : decode cX9_collectOrigins 160 = .ok (.getfield 53, 3) := by decide +kernel
theorem d_9_collectOrigins_163 : decode cX9_collectOrigins 163 = .ok (.invokevirtual 234, 3) := by decide +kernel
theorem d_9_collectOrigins_166 : decode cX9_collectOrigins 166 = .ok (.iconst (-1), 1) := by decide +kernel
theorem d_9_collectOrigins_167 : decode cX9_collectOrigins 167 = .ok (.if_icmp .ne 15, 3) := by decide +kernel
theorem d_9_collectOrigins_170 : decode cX9_collectOrigins 170 = .ok (.aload_n 0, 1) := by decide +kernel
theorem d_9_collectOrigins_171 : decode cX9_collectOrigins 171 = .ok (.getfield 65, 3) := by decide +kernel
theorem d_9_collectOrigins_174 : decode cX9_collectOrigins 174 = .ok (.aload_n 0, 1) := by decide +kernel
theorem d_9_collectOrigins_175 : decode cX9_collectOrigins 175 = .ok (.getfield 53, 3) := by decide +kernel
theorem d_9_collectOrigins_178 : decode cX9_collectOrigins 178 = .ok (.invokevirtual 241, 3) := by decide +kernel
theorem d_9_collectOrigins_181 : decode cX9_collectOrigins 181 = .ok (.pop, 1) := by decide +kernel
theorem d_9_collectOrigins_182 : decode cX9_collectOrigins 182 = .ok (.iinc 1 1, 3) := by decide +kernel
theorem d_9_collectOrigins_185 : decode cX9_collectOrigins 185 = .ok (.goto (-109), 3) := by decide +kernel
theorem d_9_collectOrigins_188 : decode cX9_collectOrigins 188 = .ok (.return_, 1) := by decide +kernel
theorem d_9_isSmallLetter_0 : decode cX9_isSmallLetter 0 = .ok (.iload_n 0, 1) := by decide +kernel
theorem d_9_isSmallLetter_1 : decode cX9_isSmallLetter 1 = .ok (.bipush 97, 2) := by decide +kernel
theorem d_9_isSmallLetter_3 : decode cX9_isSmallLetter 3 = .ok (.if_icmp .lt 13, 3) := by decide +kernel
theorem d_9_isSmallLetter_6 : decode cX9_isSmallLetter 6 = .ok (.iload_n 0, 1) := by decide +kernel
theorem d_9_isSmallLetter_7 : decode cX9_isSmallLetter 7 = .ok (.bipush 122, 2) := by decide +kernel
theorem d_9_isSmallLetter_9 : decode cX9_isSmallLetter 9 = .ok (.if_icmp .gt 7, 3) := by decide +kernel
theorem d_9_isSmallLetter_12 : decode cX9_isSmallLetter 12 = .ok (.iconst 1, 1) := by decide +kernel
theorem d_9_isSmallLetter_13 : decode cX9_isSmallLetter 13 = .ok (.goto 4, 3) := by decide +kernel
theorem d_9_isSmallLetter_16 : decode cX9_isSmallLetter 16 = .ok (.iconst 0, 1) := by decide +kernel
theorem d_9_isSmallLetter_17 : decode cX9_isSmallLetter 17 = .ok (.ireturn, 1) := by decide +kernel
theorem d_9_closeGap_0 : decode cX9_closeGap 0 = .ok (.iconst 0, 1) := by decide +kernel
theorem d_9_closeGap_1 : decode cX9_closeGap 1 = .ok (.iload_n 1, 1) := by decide +kernel
theorem d_9_closeGap_2 : decode cX9_closeGap 2 = .ok (.invokestatic 304, 3) := by decide +kernel
theorem d_9_closeGap_5 : decode cX9_closeGap 5 = .ok (.istore_n 2, 1) := by decide +kernel
theorem d_9_closeGap_6 : decode cX9_closeGap 6 = .ok (.iload_n 2, 1) := by decide +kernel
theorem d_9_closeGap_7 : decode cX9_closeGap 7 = .ok (.aload_n 0, 1) := by decide +kernel
theorem d_9_closeGap_8 : decode cX9_closeGap 8 = .ok (.arraylength, 1) := by decide +kernel
theorem d_9_closeGap_9 : decode cX9_closeGap 9 = .ok (.iconst 1, 1) := by decide +kernel
theorem d_9_closeGap_10 : decode cX9_closeGap 10 = .ok (.isub, 1) := by decide +kernel
theorem d_9_closeGap_11 : decode cX9_closeGap 11 = .ok (.if_icmp .ge 17, 3) := by decide +kernel
theorem d_9_closeGap_14 : decode cX9_closeGap 14 = .ok (.aload_n 0, 1) := by decide +kernel
theorem d_9_closeGap_15 : decode cX9_closeGap 15 = .ok (.iload_n 2, 1) := by decide +kernel
theorem d_9_closeGap_16 : decode cX9_closeGap 16 = .ok (.aload_n 0, 1) := by decide +kernel
theorem d_9_closeGap_17 : decode cX9_closeGap 17 = .ok (.iload_n 2, 1) := by decide +kernel
theorem d_9_closeGap_18 : decode cX9_closeGap 18 = .ok (.iconst 1, 1) := by decide +kernel
theorem d_9_closeGap_19 : decode cX9_closeGap 19 = .ok (.iadd, 1) := by decide +kernel
theorem d_9_closeGap_20 : decode cX9_closeGap 20 = .ok (.iaload, 1) := by decide +kernel
theorem d_9_closeGap_21 : decode cX9_closeGap 21 = .ok (.iastore, 1) := by decide +kernel
theorem d_9_closeGap_22 : decode cX9_closeGap 22 = .ok (.iinc 2 1, 3) := by decide +kernel
theorem d_9_closeGap_25 : decode cX9_closeGap 25 = .ok (.goto (-19), 3) := by decide +kernel
theorem d_9_closeGap_28 : decode cX9_closeGap 28 = .ok (.return_, 1) := by decide +kernel
theorem d_9_copyNumbers_0 : decode cX9_copyNumbers 0 = .ok (.aload_n 0, 1) := by decide +kernel
theorem d_9_copyNumbers_1 : decode cX9_copyNumbers 1 = .ok (.iconst 0, 1) := by decide +kernel
theorem d_9_copyNumbers_2 : decode cX9_copyNumbers 2 = .ok (.aload_n 1, 1) := by decide +kernel
theorem d_9_copyNumbers_3 : decode cX9_copyNumbers 3 = .ok (.iconst 0, 1) := by decide +kernel
theorem d_9_copyNumbers_4 : decode cX9_copyNumbers 4 = .ok (.aload_n 0, 1) := by decide +kernel
theorem d_9_copyNumbers_5 : decode cX9_copyNumbers 5 = .ok (.arraylength, 1) := by decide +kernel
theorem d_9_copyNumbers_6 : decode cX9_copyNumbers 6 = .ok (.aload_n 1, 1) := by decide +kernel
theorem d_9_copyNumbers_7 : decode cX9_copyNumbers 7 = .ok (.arraylength, 1) := by decide +kernel
theorem d_9_copyNumbers_8 : decode cX9_copyNumbers 8 = .ok (.invokestatic 310, 3) := by decide +kernel
theorem d_9_copyNumbers_11 : decode cX9_copyNumbers 11 = .ok (.invokestatic 313, 3) := by decide +kernel
theorem d_9_copyNumbers_14 : decode cX9_copyNumbers 14 = .ok (.return_, 1) := by decide +kernel
end
section
/-! ===== the abstract machine: a method's walk over a heap that is a function, one judgement (gG), a row an instruction ===== -/
abbrev Mi_ : Type := MethodName × ByteArray × Nat × Option FieldType × List (Nat × Nat × Nat × Nat)
abbrev Ent_ : Type := (Bool × FieldType × vp_A) ⊕ (Nat × List Value)
abbrev Hp_ : Type := Nat → Option Ent_
abbrev Ot_ : Type := Option Value ⊕ String
def gAll : List Cond := lw_tbl.filter goodWord
def gOthK : Cond → Bool
  | .fieldLinkNest .. => true
  | .methodLinkNest .. => true
  | .castable .. => true
  | .declares .. => true
  | .arrayOver (.object _) => true
  | _ => false
def gOth : List Cond := lw_tbl.filter gOthK
theorem gAll_of {w : Cond} (i : Nat) (h : lw_tbl[i]? = some w) (hg : goodWord w = true) : w ∈ gAll := List.mem_filter.mpr ⟨List.mem_of_getElem? h, hg⟩
theorem gOth_of {w : Cond} (i : Nat) (h : lw_tbl[i]? = some w) (hg : gOthK w = true) : w ∈ gOth := List.mem_filter.mpr ⟨List.mem_of_getElem? h, hg⟩
theorem gAll_good {w : Cond} (h : w ∈ gAll) : goodWord w = true := (List.mem_filter.mp h).2
theorem gOth_warm {w : Cond} (h : gOthK w = true) {s U : State} (hW : s.WarmedH U.vm) (hz : va_Nw w s) : va_Nw w U := by
  cases w with
  | fieldLinkNest a b c d e f => exact va_Nw.warmF hW hz
  | methodLinkNest a b c d => exact va_Nw.warmM hW hz
  | castable a b => exact va_Nw.warmC hW hz
  | declares a => exact va_Nw.warmD hW hz
  | arrayOver ty =>
    cases ty with
    | object C => exact va_AO.moved (C := C) hW.alike hz
    | _ => simp [gOthK] at h
  | _ => simp [gOthK] at h
theorem gOth_same {w : Cond} (h : gOthK w = true) {s U : State} (hv : s.vm = U.vm) (hz : va_Nw w s) : va_Nw w U := by
  cases w with
  | fieldLinkNest a b c d e f => exact va_Nw.same rfl hv hz
  | methodLinkNest a b c d => exact va_Nw.same rfl hv hz
  | castable a b => exact va_Nw.same rfl hv hz
  | declares a => exact va_Nw.same rfl hv hz
  | arrayOver ty =>
    cases ty with
    | object C => exact va_AO.moved (C := C) (by rw [hv]; exact Vm.Alike.refl _) hz
    | _ => simp [gOthK] at h
  | _ => simp [gOthK] at h
theorem gOth_use {w : Cond} (h : gOthK w = true) {s : State} {args : Array Value} (hz : va_Nw w s) : w.before args s = true := by
  cases w with
  | fieldLinkNest a b c d e f => exact va_Nw.use rfl hz
  | methodLinkNest a b c d => exact va_Nw.use rfl hz
  | castable a b => exact va_Nw.use rfl hz
  | declares a => exact va_Nw.use rfl hz
  | arrayOver ty =>
    cases ty with
    | object C => exact va_AO.use (C := C) hz
    | _ => simp [gOthK] at h
  | _ => simp [gOthK] at h
/-- a cell: the script (read only), an array, an object of a class of gCl -/
def gEn (D : va_G) (B : Nat) (s : State) (q : Nat) (e : Ent_) (H : Heap) : Prop := match e with
  | .inl (true, ty, a) => ty = .int ∧ q < B ∧ ∃ f, a.2 = .inl f ∧ va_X q a.1 f s H
  | .inl (false, ty, a) => B ≤ q ∧ ∃ cA : ClassId, H[q]? = some (vp_cell cA a) ∧ ArrOfT s cA ty ∧ va_RA s cA ty
  | .inr (ci, fs) => B ≤ q ∧ ∃ r : vw_C, gCl[ci]? = some r ∧ fs.length = r.2.2 ∧ t_OB q (D.1 ci) r.2.2 (D.2 ci) H (vp_V fs)
def gW (D : va_G) (B : Nat) (s : State) (h : Hp_) (H : Heap) : Prop := B ≤ H.size ∧ ∀ (q : Nat) (e : Ent_), h q = some e → gEn D B s q e H
/-- what stays true of the machine's tables, and of what lies below B -/
def gE (D : va_G) (B : Nat) (U : State) (H : Heap) : Prop :=
  va_K D gCl [] U ∧ vx_Zq Bundle.tN "UNASSIGNED_STACK" Bundle.steD (fun q => B ≤ q) U H ∧ vx_Zq Bundle.tN "SUPPRESSED_SENTINEL" Bundle.listD (fun q => B ≤ q) U H ∧ (∀ q ∈ gStr, ∃ sa, vk_R q.1 q.2.1 q.2.2 sa U) ∧ (∀ w ∈ gOth, va_Nw w U) ∧ ∀ q ∈ gNc, va_Nc q.1 q.2 U
theorem gEn_at {D : va_G} {B : Nat} {s U : State} {q : Nat} {e : Ent_} {H : Heap} (hvm : s.vm.Alike U.vm) (h : gEn D B s q e H) : gEn D B U q e H := by
  rcases e with ⟨b, ty, a⟩ | ⟨ci, fs⟩
  · cases b with
    | true =>
      obtain ⟨h1, h2, f, h3, h4⟩ := h
      exact ⟨h1, h2, f, h3, va_X.moved hvm h4⟩
    | false =>
      obtain ⟨h1, cA, h2, h3, h4⟩ := h
      exact ⟨h1, cA, h2, arrOfT_moved hvm h3, h4.moved hvm⟩
  · exact h
theorem gEn_kept {D : va_G} {B : Nat} {s : State} {q : Nat} {e : Ent_} {H H1 : Heap} (h : gEn D B s q e H) (hq : H1[q]? = H[q]?) : gEn D B s q e H1 := by
  rcases e with ⟨b, ty, a⟩ | ⟨ci, fs⟩
  · cases b with
    | true =>
      obtain ⟨h1, h2, f, h3, h4⟩ := h
      exact ⟨h1, h2, f, h3, va_X.kept h4 hq⟩
    | false =>
      obtain ⟨h1, cA, h2, h3⟩ := h
      exact ⟨h1, cA, hq.trans h2, h3⟩
  · obtain ⟨h1, r, h2, h3, h4⟩ := h
    exact ⟨h1, r, h2, h3, h4.kept hq⟩
theorem gEn_lt {D : va_G} {B : Nat} {s : State} {q : Nat} {e : Ent_} {H : Heap} (h : gEn D B s q e H) : q < H.size := by
  rcases e with ⟨b, ty, a⟩ | ⟨ci, fs⟩
  · cases b with
    | true =>
      obtain ⟨h1, h2, f, h3, scr, h4, -⟩ := h
      exact (Array.getElem?_eq_some_iff.mp h4).1
    | false =>
      obtain ⟨h1, cA, h2, h3⟩ := h
      exact (Array.getElem?_eq_some_iff.mp h2).1
  · obtain ⟨h1, r, h2, h3, cell, h4, -⟩ := h
    exact (Array.getElem?_eq_some_iff.mp h4).1
theorem gW_at {D : va_G} {B : Nat} {s U : State} {h : Hp_} {H : Heap} (hvm : s.vm.Alike U.vm) (hw : gW D B s h H) : gW D B U h H := ⟨hw.1, fun q e hq => gEn_at hvm (hw.2 q e hq)⟩
theorem gE_kept {D : va_G} {B : Nat} {U : State} {H H1 : Heap} (h : gE D B U H) (hq : ∀ a : Nat, a < H.size → ¬ B ≤ a → H1[a]? = H[a]?) : gE D B U H1 := by
  obtain ⟨h1, h2, h3, h4⟩ := h
  exact ⟨h1, h2.kept hq, h3.kept hq, h4⟩
theorem gE_warm {D : va_G} {B : Nat} {s U : State} {H : Heap} (hW : s.WarmedH U.vm) (h : gE D B s H) : gE D B U H := by
  obtain ⟨h1, h2, h3, h4, h5, h6⟩ := h
  refine ⟨va_K.moved hW.alike h1, vx_Zq.moved hW.alike h2, vx_Zq.moved hW.alike h3, fun q hq => ?_, fun w hw => gOth_warm (List.mem_filter.mp hw).2 hW (h5 w hw), fun q hq => va_Nc.moved hW.alike (h6 q hq)⟩
  obtain ⟨sa, h9⟩ := h4 q hq
  exact ⟨sa, vk_R.warm hW h9⟩
theorem gE_same {D : va_G} {B : Nat} {s U : State} {H : Heap} (hv : s.vm = U.vm) (h : gE D B s H) : gE D B U H := by
  have hal : s.vm.Alike U.vm := by rw [hv]; exact Vm.Alike.refl _
  obtain ⟨h1, h2, h3, h4, h5, h6⟩ := h
  refine ⟨va_K.moved hal h1, vx_Zq.moved hal h2, vx_Zq.moved hal h3, fun q hq => ?_, fun w hw => gOth_same (List.mem_filter.mp hw).2 hv (h5 w hw), fun q hq => va_Nc.moved hal (h6 q hq)⟩
  obtain ⟨sa, h9⟩ := h4 q hq
  exact ⟨sa, vk_R.same hv.symm h9⟩
/-- how a method ends: Q of its outcome and of the heap behind it -/
def gQ (Q : Ot_ → Hp_ → Prop) (D : va_G) (B : Nat) : Array Value → State → Outcome → State → Prop := fun _ st o t => (∃ v h', o = .returned v ∧ Q (.inl v) h' ∧ gW D B t h' t.heap) ∧ va_F (fun q => B ≤ q) st t
def gX (Q : Ot_ → Hp_ → Prop) (D : va_G) (B : Nat) : String → State → State → Prop := fun E st t => (∃ h', Q (.inr E) h' ∧ gW D B t h' t.heap) ∧ va_F (fun q => B ≤ q) st t
/-- locals, the last stored first -/
def gl : List (Nat × Value) → Nat → Option Value
  | [], _ => none
  | q :: r, i => if q.1 = i then some q.2 else gl r i
def gL (ls : Array Slot) (nL : Nat) (lv : List (Nat × Value)) : Prop := ls.size = nL ∧ lv_wf ls ∧ ∀ (i : Nat) (v : Value), gl lv i = some v → ls[i]? = some (.val v)
/-- no long lies just below the place -/
def gc (lv : List (Nat × Value)) : Nat → Bool
  | 0 => true
  | i + 1 => match gl lv i with
    | some (.long _) => false
    | some (.double _) => false
    | _ => true
theorem gl_mem {lv : List (Nat × Value)} {i : Nat} {v : Value} (h : gl lv i = some v) : (i, v) ∈ lv := by
  induction lv with
  | nil => cases h
  | cons q r ih =>
    unfold gl at h
    split at h
    · rename_i e
      cases h
      subst e
      exact List.mem_cons_self
    · exact List.mem_cons_of_mem _ (ih h)
theorem gL_of {ls : Array Slot} {nL : Nat} {lv : List (Nat × Value)} (h : lv_has ls nL lv) : gL ls nL lv := ⟨h.1, h.2.1, fun i v hi => h.2.2 (i, v) (gl_mem hi)⟩
theorem gL_store {ls : Array Slot} {nL : Nat} {lv : List (Nat × Value)} {i : Nat} {v : Value} (h : gL ls nL lv) (hi : i < nL) (hv : v.category = 1) (hc : gc lv i = true) : ∃ ls', storeLocals ls i v = some ls' ∧ gL ls' nL ((i, v) :: lv) := by
  obtain ⟨h1, h2, h3⟩ := h
  obtain ⟨ls', e', s1, s2, s3⟩ := lv_store1 (l := []) ⟨h1, h2, fun q hq => by cases hq⟩ hi hv
  refine ⟨ls', e', s1, s2, fun j w hj => ?_⟩
  unfold gl at hj
  split at hj
  · rename_i e
    cases hj
    have e2 : i = j := e
    subst e2
    exact s3 (i, v) List.mem_cons_self
  · rename_i hne
    have hne2 : ¬ i = j := hne
    obtain ⟨ls2, e2, -, -, t3⟩ := lv_store1 (l := [(j, w)]) ⟨h1, h2, fun q hq => by rw [List.mem_singleton.mp hq]; exact h3 j w hj⟩ hi hv
    cases e'.symm.trans e2
    refine t3 (j, w) (List.mem_cons_of_mem _ ?_)
    refine List.mem_filter.mpr ⟨List.mem_singleton.mpr rfl, ?_⟩
    have q1 : (j == i) = false := by simp; exact fun q => hne2 q.symm
    by_cases q2 : j + 1 = i
    · subst q2
      have q3 : (w.category == 2) = false := by
        have hc2 : (match gl lv j with | some (.long _) => false | some (.double _) => false | _ => true) = true := hc
        rw [hj] at hc2
        cases w <;> first | rfl | (simp at hc2)
      simp [q1, q3]
    · have q4 : (j + 1 == i) = false := by simpa using q2
      simp [q1, q4]
theorem gL_sub {ls : Array Slot} {nL : Nat} {lv lv' : List (Nat × Value)} (h : gL ls nL lv) (hs : ∀ (i : Nat) (v : Value), gl lv' i = some v → gl lv i = some v) : gL ls nL lv' := ⟨h.1, h.2.1, fun i v hi => h.2.2 i v (hs i v hi)⟩
/-- the fixed context of a method's walk -/
def gC (l : Launch) (D : va_G) (B : Nat) (p : Program) (R : Room) (s : State) (m : MethodId) (args : Array Value) (meth : Method) (c : Code) (cells slots mc ms : Nat) (fr lo kc ks : Nat) (M : Mi_) : Prop :=
  p.tables.exec = Jvm.exec ∧ c.code = M.2.1 ∧ meth.sig.returnType = M.2.2.2.1 ∧ c.maxLocals = M.2.2.1 ∧ s.vm.findClass M.1.cls = some m.cls ∧ (∀ w ∈ gAll, w.before args s = true) ∧ meth.locks = false ∧ meth.name = M.1.name ∧ c.exceptionTable.toList = tableOf M.2.2.2.2 ∧ l.stackTraces = false ∧ gE D B s s.heap ∧ B ≤ s.heap.size ∧ fr ≤ R.frames ∧ lo ≤ R.locals ∧ cells + kc ≤ mc ∧ slots + ks ≤ ms ∧ mc ≤ R.cells ∧ ms ≤ R.slots
def gG (fr lo kc ks : Nat) (M : Mi_) (pc : Nat) (lv : List (Nat × Value)) (st : List Value) (h : Hp_) (Q : Ot_ → Hp_ → Prop) : Prop :=
  ∀ ⦃l : Launch⦄ ⦃D : va_G⦄ ⦃B : Nat⦄ ⦃p : Program⦄ ⦃e : Env⦄ ⦃R : Room⦄ ⦃s : State⦄ ⦃m : MethodId⦄ ⦃args : Array Value⦄ ⦃below : List Frame⦄ ⦃meth : Method⦄ ⦃c : Code⦄ ⦃H : Heap⦄ ⦃locs : List Loc⦄ ⦃cells slots mc ms : Nat⦄ ⦃ls : Array Slot⦄,
    gC l D B p R s m args meth c cells slots mc ms fr lo kc ks M → gW D B s h H → va_S (fun q => B ≤ q) s.heap H locs → gL ls M.2.2.1 lv →
    W p l e R s m args below meth c H locs cells slots (vx_MQ below (gQ Q D B) (gX Q D B) args s mc ms (fun q => B ≤ q)) (F0 m pc ls st)
/-- a throw on its way, seen from the method's frame -/
def gGX (fr lo kc ks : Nat) (M : Mi_) (pc : Nat) (lv : List (Nat × Value)) (E : String) (h : Hp_) (Q : Ot_ → Hp_ → Prop) : Prop :=
  ∀ ⦃l : Launch⦄ ⦃D : va_G⦄ ⦃B : Nat⦄ ⦃p : Program⦄ ⦃e : Env⦄ ⦃R : Room⦄ ⦃s : State⦄ ⦃m : MethodId⦄ ⦃args : Array Value⦄ ⦃below : List Frame⦄ ⦃meth : Method⦄ ⦃c : Code⦄ ⦃H : Heap⦄ ⦃locs : List Loc⦄ ⦃cells slots mc ms : Nat⦄ ⦃ls : Array Slot⦄ ⦃rest : List Value⦄ ⦃q : Addr⦄ ⦃ce : Cell⦄,
    gC l D B p R s m args meth c cells slots mc ms fr lo kc ks M → gW D B s h H → va_S (fun q => B ≤ q) s.heap H locs → gL ls M.2.2.1 lv → H[q]? = some ce → ce.vm = .none → s.vm.findClass E = some ce.cls →
    vx_W p l e R s m args below meth c H locs cells slots (vx_MQ below (gQ Q D B) (gX Q D B) args s mc ms (fun q => B ≤ q)) (F0 m pc ls rest) q
theorem gMQ_mono {Q Q' : Ot_ → Hp_ → Prop} (hq : ∀ o h, Q o h → Q' o h) {D : va_G} {B : Nat} {below : List Frame} {args : Array Value} {s : State} {mc ms : Nat} {free : Addr → Prop} {t : State} (h : vx_MQ below (gQ Q D B) (gX Q D B) args s mc ms free t) : vx_MQ below (gQ Q' D B) (gX Q' D B) args s mc ms free t := by
  obtain ⟨o, h1, h2, h3⟩ := h
  refine ⟨o, h1, h2, ?_⟩
  rcases h3 with ⟨⟨⟨v, h', a1, a2, a3⟩, a4⟩, h5⟩ | ⟨q, h5, E, ce, L, ⟨⟨h', b1, b2⟩, b3⟩, h6⟩
  · exact Or.inl ⟨⟨⟨v, h', a1, hq _ _ a2, a3⟩, a4⟩, h5⟩
  · exact Or.inr ⟨q, h5, E, ce, L, ⟨⟨h', hq _ _ b1, b2⟩, b3⟩, h6⟩
theorem gG_mono {fr lo kc ks : Nat} {M : Mi_} {pc : Nat} {lv : List (Nat × Value)} {st : List Value} {h : Hp_} {Q Q' : Ot_ → Hp_ → Prop} (hq : ∀ o h', Q o h' → Q' o h') (k : gG fr lo kc ks M pc lv st h Q) : gG fr lo kc ks M pc lv st h Q' := by
  intro l D B p e R s m args below meth c H locs cells slots mc ms ls C hW hS hL T hT X
  obtain ⟨t, a, b⟩ := k C hW hS hL T hT X
  exact ⟨t, a, gMQ_mono hq b⟩
theorem gC_room {l : Launch} {D : va_G} {B : Nat} {p : Program} {R : Room} {s : State} {m : MethodId} {args : Array Value} {meth : Method} {c : Code} {cells slots mc ms fr lo kc ks fr' lo' kc' ks' : Nat} {M : Mi_} (C : gC l D B p R s m args meth c cells slots mc ms fr lo kc ks M) (h1 : fr' ≤ fr) (h2 : lo' ≤ lo) (h3 : kc' ≤ kc) (h4 : ks' ≤ ks) : gC l D B p R s m args meth c cells slots mc ms fr' lo' kc' ks' M := by
  obtain ⟨c1, c2, c3, c4, c5, c6, c7, c8, c9, c10, c11, c12, c13, c14, c15, c16, c17, c18⟩ := C
  exact ⟨c1, c2, c3, c4, c5, c6, c7, c8, c9, c10, c11, c12, by omega, by omega, by omega, by omega, c17, c18⟩
theorem gG_room {fr lo kc ks fr' lo' kc' ks' : Nat} {M : Mi_} {pc : Nat} {lv : List (Nat × Value)} {st : List Value} {h : Hp_} {Q : Ot_ → Hp_ → Prop} (h1 : fr' ≤ fr) (h2 : lo' ≤ lo) (h3 : kc' ≤ kc) (h4 : ks' ≤ ks) (k : gG fr' lo' kc' ks' M pc lv st h Q) : gG fr lo kc ks M pc lv st h Q := by
  intro l D B p e R s m args below meth c H locs cells slots mc ms ls C hW hS hL
  exact k (gC_room C h1 h2 h3 h4) hW hS hL
theorem gG_lv {fr lo kc ks : Nat} {M : Mi_} {pc : Nat} {lv lv' : List (Nat × Value)} {st : List Value} {h : Hp_} {Q : Ot_ → Hp_ → Prop} (hs : ∀ (i : Nat) (v : Value), gl lv' i = some v → gl lv i = some v) (k : gG fr lo kc ks M pc lv' st h Q) : gG fr lo kc ks M pc lv st h Q := by
  intro l D B p e R s m args below meth c H locs cells slots mc ms ls C hW hS hL
  exact k C hW hS (gL_sub hL hs)
/-- the start of a method's contract -/
def gP (D : va_G) (B : Nat) (av : List Value) (h : Hp_) : Array Value → State → Prop := va_Pc av (fun U => gW D B U h U.heap ∧ gE D B U U.heap ∧ B ≤ U.heap.size)
def gHead (M : Mi_) : Cond := match M.2.2.2.2 with
  | [] => .code M.1 M.2.1 M.2.2.1 M.2.2.2.1
  | hh => .codeWith M.1 M.2.1 M.2.2.1 M.2.2.2.1 hh
def gRm (fr lo kc ks : Nat) : Room := { frames := fr, cells := kc, slots := ks, locals := lo }
def gMt (l : Launch) (D : va_G) (B : Nat) (fr lo kc ks : Nat) (M : Mi_) (av : List Value) (h : Hp_) (Q : Ot_ → Hp_ → Prop) : Prop :=
  vx_Met l M.1 (gHead M :: gAll) (gRm fr lo kc ks) (gP D B av h) (gQ Q D B) (gX Q D B) kc ks (fun q => B ≤ q)
theorem gP_blind {D : va_G} {B : Nat} {av : List Value} {h : Hp_} : FrameBlind (gP D B av h) := by
  intro a U g mk hp
  obtain ⟨h1, h2, h3, h4⟩ := hp
  have e1 : (U.calling g mk a).heap = U.heap := rfl
  have e2 : U.vm = (U.calling g mk a).vm := rfl
  refine ⟨h1, ?_, ?_, ?_⟩
  · rw [e1]; exact gW_at (by rw [← e2]; exact Vm.Alike.refl U.vm) h2
  · rw [e1]; exact gE_same e2 h3
  · rw [e1]; exact h4
theorem gP_call {D : va_G} {B : Nat} {av : List Value} {h : Hp_} {s : State} {H : Heap} {locs : List Loc} (hE : gE D B s s.heap) (hW : gW D B s h H) (hS : va_S (fun q => B ≤ q) s.heap H locs) (U : State) (hU : U.heap = H) (hWm : s.WarmedH U.vm) : gP D B av h av.toArray U := by
  refine ⟨rfl, ?_, ?_, ?_⟩
  · rw [hU]; exact gW_at hWm.alike hW
  · rw [hU]; exact gE_warm hWm (gE_kept hE hS.2.1)
  · rw [hU]; exact hW.1
theorem gMt_of {fr lo kc ks : Nat} {M : Mi_} {av : List Value} {h : Hp_} {Q : Ot_ → Hp_ → Prop} (hpl : plainName M.1.cls = true) (hsz : (lg_sl av).length ≤ M.2.2.1) (k : gG fr lo kc ks M 0 (lv_args 0 av) [] h Q) {l : Launch} (hl : l.stackTraces = false) (D : va_G) (B : Nat) : gMt l D B fr lo kc ks M av h Q := by
  have fin : ∀ (p : Program) (e : Env) (s : State) (m : MethodId) (args : Array Value) (below : List Frame) (meth : Method) (c : Code) (s₁ : State), BodyLoose p l M.1 (headSpec (gHead M :: gAll) (gRm fr lo kc ks)) M.2.1 M.2.2.1 M.2.2.2.1 e s m args below meth c s₁ → c.maxLocals = M.2.2.1 → c.exceptionTable.toList = tableOf M.2.2.2.2 → gP D B av h args s →
      W p l e (headSpec (gHead M :: gAll) (gRm fr lo kc ks)).room s m args below meth c s.heap [] 0 0 (vx_MQ below (gQ Q D B) (gX Q D B) args s kc ks (fun q => B ≤ q)) (entryFrame m args M.2.2.1) := by
    intro p e s m args below meth c s₁ Bd hml htb hP
    obtain ⟨rfl, hW, hE, hB⟩ := hP
    rw [lg_entry_eq]
    have hl9 := lv_entry av (n := M.2.2.1) hsz
    refine k (mc := kc) (ms := ks) ⟨Bd.exec, Bd.bytes, Bd.returns, hml, findClass_of_methodNamed Bd.named, fun w hw => atoms_spec (ws := gHead M :: gAll) Bd.pre w (List.mem_cons_of_mem _ hw), Bd.notSynchronized, (name_of_methodNamed Bd.named Bd.method).1, htb, hl, hE, hB, Nat.le_refl _, Nat.le_refl _, by omega, by omega, Nat.le_refl _, Nat.le_refl _⟩ hW va_S.rf (gL_of hl9)
  obtain ⟨y, bt, mL, rt, hh⟩ := M
  cases hh with
  | nil => exact vx_ofW (cc := bt) (maxL := mL) (ret := rt) hpl rfl (fun p e s m args below meth c s₁ Bd hml ht hP => fin p e s m args below meth c s₁ Bd hml (by
      have h9 : c.exceptionTable.toList = [] := by
        cases hc : c.exceptionTable.toList with
        | nil => rfl
        | cons a b => exact (ht a (by rw [hc]; exact List.mem_cons_self)).elim
      rw [h9]; rfl) hP)
  | cons z zs => exact vx_ofWH (cc := bt) (maxL := mL) (ret := rt) (hh := z :: zs) hpl rfl (fun p e s m args below meth c s₁ Bd hml hP => fin p e s m args below meth c s₁ Bd hml (vx_table (x := y) Bd (atoms_spec (ws := gHead (y, bt, mL, rt, z :: zs) :: gAll) Bd.pre _ List.mem_cons_self)) hP)
end
section
section GROWS
variable {fr lo kc ks pc : Nat} (M : Mi_) {lv : List (Nat × Value)} {st : List Value} {h : Hp_} {Q : Ot_ → Hp_ → Prop}
theorem g_iload {i : Nat} {x : Int32} (d : decode M.2.1 pc = .ok (.iload i, 2)) (hl : gl lv i = some (.int x)) (k : gG fr lo kc ks M (pc + 2) lv (.int x :: st) h Q) : gG fr lo kc ks M pc lv (st) h Q := by
  intro l D B p e R s m args below meth c H locs cells slots mc ms ls C hW hS hL
  exact lv_iload C.1 C.2.1 d (hL.2.2 _ _ hl) (k C hW hS hL)
theorem g_iloadn {i : Fin 4} {x : Int32} (d : decode M.2.1 pc = .ok (.iload_n i, 1)) (hl : gl lv (i : Nat) = some (.int x)) (k : gG fr lo kc ks M (pc + 1) lv (.int x :: st) h Q) : gG fr lo kc ks M pc lv (st) h Q := by
  intro l D B p e R s m args below meth c H locs cells slots mc ms ls C hW hS hL
  exact lv_iload_n C.1 C.2.1 d rfl (hL.2.2 _ _ hl) (k C hW hS hL)
theorem g_lload {i : Nat} {x : Int64} (d : decode M.2.1 pc = .ok (.lload i, 2)) (hl : gl lv i = some (.long x)) (k : gG fr lo kc ks M (pc + 2) lv (.long x :: st) h Q) : gG fr lo kc ks M pc lv (st) h Q := by
  intro l D B p e R s m args below meth c H locs cells slots mc ms ls C hW hS hL
  exact lv_lload C.1 C.2.1 d (hL.2.2 _ _ hl) (k C hW hS hL)
theorem g_lloadn {i : Fin 4} {x : Int64} (d : decode M.2.1 pc = .ok (.lload_n i, 1)) (hl : gl lv (i : Nat) = some (.long x)) (k : gG fr lo kc ks M (pc + 1) lv (.long x :: st) h Q) : gG fr lo kc ks M pc lv (st) h Q := by
  intro l D B p e R s m args below meth c H locs cells slots mc ms ls C hW hS hL
  exact lv_lload_n C.1 C.2.1 d rfl (hL.2.2 _ _ hl) (k C hW hS hL)
theorem g_aload {i x : Nat} (d : decode M.2.1 pc = .ok (.aload i, 2)) (hl : gl lv i = some (.ref x)) (k : gG fr lo kc ks M (pc + 2) lv (.ref x :: st) h Q) : gG fr lo kc ks M pc lv (st) h Q := by
  intro l D B p e R s m args below meth c H locs cells slots mc ms ls C hW hS hL
  exact lv_aload C.1 C.2.1 d (hL.2.2 _ _ hl) (k C hW hS hL)
theorem g_aloadn {i : Fin 4} {x : Nat} (d : decode M.2.1 pc = .ok (.aload_n i, 1)) (hl : gl lv (i : Nat) = some (.ref x)) (k : gG fr lo kc ks M (pc + 1) lv (.ref x :: st) h Q) : gG fr lo kc ks M pc lv (st) h Q := by
  intro l D B p e R s m args below meth c H locs cells slots mc ms ls C hW hS hL
  exact lv_aload_n C.1 C.2.1 d rfl (hL.2.2 _ _ hl) (k C hW hS hL)
theorem g_istore {i : Nat} {x : Int32} (d : decode M.2.1 pc = .ok (.istore i, 2)) (hi : i < M.2.2.1) (hc : gc lv i = true) (k : gG fr lo kc ks M (pc + 2) ((i, .int x) :: lv) st h Q) : gG fr lo kc ks M pc lv (.int x :: st) h Q := by
  intro l D B p e R s m args below meth c H locs cells slots mc ms ls C hW hS hL
  obtain ⟨ls', e', hL'⟩ := gL_store (v := .int x) hL hi rfl hc
  have hx := C.1
  have hb := C.2.1
  intro T hT X
  obtain ⟨t, a, b⟩ := k C hW hS hL' T hT X
  refine ⟨t, ?_, b⟩
  jvm_step X.here [X.here.top, ↓top_set X.here.top, hx, hb, d, e']
  exact a
theorem g_istoren {i : Fin 4} {x : Int32} (d : decode M.2.1 pc = .ok (.istore_n i, 1)) (hi : (i : Nat) < M.2.2.1) (hc : gc lv (i : Nat) = true) (k : gG fr lo kc ks M (pc + 1) (((i : Nat), .int x) :: lv) st h Q) : gG fr lo kc ks M pc lv (.int x :: st) h Q := by
  intro l D B p e R s m args below meth c H locs cells slots mc ms ls C hW hS hL
  obtain ⟨ls', e', hL'⟩ := gL_store (v := .int x) hL hi rfl hc
  have hx := C.1
  have hb := C.2.1
  intro T hT X
  obtain ⟨t, a, b⟩ := k C hW hS hL' T hT X
  refine ⟨t, ?_, b⟩
  jvm_step X.here [X.here.top, ↓top_set X.here.top, hx, hb, d, e']
  exact a
theorem g_astore {i : Nat} {x : Nat} (d : decode M.2.1 pc = .ok (.astore i, 2)) (hi : i < M.2.2.1) (hc : gc lv i = true) (k : gG fr lo kc ks M (pc + 2) ((i, .ref x) :: lv) st h Q) : gG fr lo kc ks M pc lv (.ref x :: st) h Q := by
  intro l D B p e R s m args below meth c H locs cells slots mc ms ls C hW hS hL
  obtain ⟨ls', e', hL'⟩ := gL_store (v := .ref x) hL hi rfl hc
  have hx := C.1
  have hb := C.2.1
  intro T hT X
  obtain ⟨t, a, b⟩ := k C hW hS hL' T hT X
  refine ⟨t, ?_, b⟩
  jvm_step X.here [X.here.top, ↓top_set X.here.top, hx, hb, d, e', Value.isRef]
  exact a
theorem g_astoren {i : Fin 4} {x : Nat} (d : decode M.2.1 pc = .ok (.astore_n i, 1)) (hi : (i : Nat) < M.2.2.1) (hc : gc lv (i : Nat) = true) (k : gG fr lo kc ks M (pc + 1) (((i : Nat), .ref x) :: lv) st h Q) : gG fr lo kc ks M pc lv (.ref x :: st) h Q := by
  intro l D B p e R s m args below meth c H locs cells slots mc ms ls C hW hS hL
  obtain ⟨ls', e', hL'⟩ := gL_store (v := .ref x) hL hi rfl hc
  have hx := C.1
  have hb := C.2.1
  intro T hT X
  obtain ⟨t, a, b⟩ := k C hW hS hL' T hT X
  refine ⟨t, ?_, b⟩
  jvm_step X.here [X.here.top, ↓top_set X.here.top, hx, hb, d, e', Value.isRef]
  exact a
theorem g_iinc {i : Nat} {n : Int} {x v : Int32} (d : decode M.2.1 pc = .ok (.iinc i n, 3)) (hl : gl lv i = some (.int x)) (hi : i < M.2.2.1) (hc : gc lv i = true) (hv : x + Int32.ofInt n = v) (k : gG fr lo kc ks M (pc + 3) ((i, .int v) :: lv) st h Q) : gG fr lo kc ks M pc lv st h Q := by
  subst hv
  intro l D B p e R s m args below meth c H locs cells slots mc ms ls C hW hS hL
  obtain ⟨ls', e', hL'⟩ := gL_store (v := .int (x + Int32.ofInt n)) hL hi rfl hc
  have hg := hL.2.2 _ _ hl
  have hx := C.1
  have hb := C.2.1
  intro T hT X
  obtain ⟨t, a, b⟩ := k C hW hS hL' T hT X
  refine ⟨t, ?_, b⟩
  jvm_step X.here [X.here.top, ↓top_set X.here.top, hx, hb, d, hg, e']
  exact a
theorem g_iconst {n : Int} {v : Int32} (d : decode M.2.1 pc = .ok (.iconst n, 1)) (hv : Int32.ofInt n = v) (k : gG fr lo kc ks M (pc + 1) lv (.int v :: st) h Q) : gG fr lo kc ks M pc lv (st) h Q := by
  intro l D B p e R s m args below meth c H locs cells slots mc ms ls C hW hS hL
  exact lv_iconst C.1 C.2.1 d hv (k C hW hS hL)
theorem g_bipush {n : Int} {v : Int32} (d : decode M.2.1 pc = .ok (.bipush n, 2)) (hv : (Int8.ofInt n).toInt32 = v) (k : gG fr lo kc ks M (pc + 2) lv (.int v :: st) h Q) : gG fr lo kc ks M pc lv (st) h Q := by
  intro l D B p e R s m args below meth c H locs cells slots mc ms ls C hW hS hL
  exact lv_bipush C.1 C.2.1 d hv (k C hW hS hL)
theorem g_sipush {n : Int} {v : Int32} (d : decode M.2.1 pc = .ok (.sipush n, 3)) (hv : (Int16.ofInt n).toInt32 = v) (k : gG fr lo kc ks M (pc + 3) lv (.int v :: st) h Q) : gG fr lo kc ks M pc lv (st) h Q := by
  intro l D B p e R s m args below meth c H locs cells slots mc ms ls C hW hS hL
  exact lv_sipush C.1 C.2.1 d hv (k C hW hS hL)
theorem g_top {x y : Value} (e : x = y) (k : gG fr lo kc ks M pc lv (y :: st) h Q) : gG fr lo kc ks M pc lv (x :: st) h Q := by rw [e]; exact k
theorem g_lconst {n : Fin 2} (d : decode M.2.1 pc = .ok (.lconst n, 1))  (k : gG fr lo kc ks M (pc + 1) lv (.long (Int64.ofNat (n : Nat)) :: st) h Q) : gG fr lo kc ks M pc lv (st) h Q := by
  intro l D B p e R s m args below meth c H locs cells slots mc ms ls C hW hS hL
  exact lv_lconst C.1 C.2.1 d rfl (k C hW hS hL)
theorem g_ldc2 {idx : Nat} {v : Int64} (d : decode M.2.1 pc = .ok (.ldc2_w idx, 3)) (hw : Cond.constantLong M.1.cls idx v ∈ gAll) (k : gG fr lo kc ks M (pc + 3) lv (.long v :: st) h Q) : gG fr lo kc ks M pc lv (st) h Q := by
  intro l D B p e R s m args below meth c H locs cells slots mc ms ls C hW hS hL
  exact lv_ldc2 C.1 C.2.1 C.2.2.2.2.1 (C.2.2.2.2.2.1 _ hw) d (k C hW hS hL)
theorem g_ldc {idx : Nat} {v : Int32} (d : decode M.2.1 pc = .ok (.ldc idx, 2)) (hw : Cond.constant M.1.cls idx v ∈ gAll) (k : gG fr lo kc ks M (pc + 2) lv (.int v :: st) h Q) : gG fr lo kc ks M pc lv (st) h Q := by
  intro l D B p e R s m args below meth c H locs cells slots mc ms ls C hW hS hL
  exact lv_ldc C.1 C.2.1 C.2.2.2.2.1 (C.2.2.2.2.2.1 _ hw) d (k C hW hS hL)
theorem g_dup {v : Value} (d : decode M.2.1 pc = .ok (.dup, 1)) (hv : v.category = 1) (k : gG fr lo kc ks M (pc + 1) lv (v :: v :: st) h Q) : gG fr lo kc ks M pc lv (v :: st) h Q := by
  intro l D B p e R s m args below meth c H locs cells slots mc ms ls C hW hS hL
  exact lv_dup C.1 C.2.1 d hv (k C hW hS hL)
theorem g_dup2 {v w : Value} (d : decode M.2.1 pc = .ok (.dup2, 1)) (hv : v.category = 1) (hw : w.category = 1) (k : gG fr lo kc ks M (pc + 1) lv (v :: w :: v :: w :: st) h Q) : gG fr lo kc ks M pc lv (v :: w :: st) h Q := by
  intro l D B p e R s m args below meth c H locs cells slots mc ms ls C hW hS hL
  exact lv_dup2_11 C.1 C.2.1 d hv hw (k C hW hS hL)
theorem g_pop {v : Value} (d : decode M.2.1 pc = .ok (.pop, 1)) (hv : v.category = 1) (k : gG fr lo kc ks M (pc + 1) lv (st) h Q) : gG fr lo kc ks M pc lv (v :: st) h Q := by
  intro l D B p e R s m args below meth c H locs cells slots mc ms ls C hW hS hL
  exact lv_pop C.1 C.2.1 d hv (k C hW hS hL)
theorem g_iadd {x y : Int32} (d : decode M.2.1 pc = .ok (.iadd, 1))  (k : gG fr lo kc ks M (pc + 1) lv (.int (x + y) :: st) h Q) : gG fr lo kc ks M pc lv (.int y :: .int x :: st) h Q := by
  intro l D B p e R s m args below meth c H locs cells slots mc ms ls C hW hS hL
  exact lv_iadd C.1 C.2.1 d (k C hW hS hL)
theorem g_isub {x y : Int32} (d : decode M.2.1 pc = .ok (.isub, 1))  (k : gG fr lo kc ks M (pc + 1) lv (.int (x - y) :: st) h Q) : gG fr lo kc ks M pc lv (.int y :: .int x :: st) h Q := by
  intro l D B p e R s m args below meth c H locs cells slots mc ms ls C hW hS hL
  exact lv_isub C.1 C.2.1 d (k C hW hS hL)
theorem g_imul {x y : Int32} (d : decode M.2.1 pc = .ok (.imul, 1))  (k : gG fr lo kc ks M (pc + 1) lv (.int (x * y) :: st) h Q) : gG fr lo kc ks M pc lv (.int y :: .int x :: st) h Q := by
  intro l D B p e R s m args below meth c H locs cells slots mc ms ls C hW hS hL
  exact lv_imul C.1 C.2.1 d (k C hW hS hL)
theorem g_iand {x y : Int32} (d : decode M.2.1 pc = .ok (.iand, 1))  (k : gG fr lo kc ks M (pc + 1) lv (.int (x &&& y) :: st) h Q) : gG fr lo kc ks M pc lv (.int y :: .int x :: st) h Q := by
  intro l D B p e R s m args below meth c H locs cells slots mc ms ls C hW hS hL
  exact lv_iand C.1 C.2.1 d (k C hW hS hL)
theorem g_ior {x y : Int32} (d : decode M.2.1 pc = .ok (.ior, 1))  (k : gG fr lo kc ks M (pc + 1) lv (.int (x ||| y) :: st) h Q) : gG fr lo kc ks M pc lv (.int y :: .int x :: st) h Q := by
  intro l D B p e R s m args below meth c H locs cells slots mc ms ls C hW hS hL
  exact lv_ior C.1 C.2.1 d (k C hW hS hL)
theorem g_ixor {x y : Int32} (d : decode M.2.1 pc = .ok (.ixor, 1))  (k : gG fr lo kc ks M (pc + 1) lv (.int (x ^^^ y) :: st) h Q) : gG fr lo kc ks M pc lv (.int y :: .int x :: st) h Q := by
  intro l D B p e R s m args below meth c H locs cells slots mc ms ls C hW hS hL
  exact lv_ixor C.1 C.2.1 d (k C hW hS hL)
theorem g_ladd {x y : Int64} (d : decode M.2.1 pc = .ok (.ladd, 1))  (k : gG fr lo kc ks M (pc + 1) lv (.long (x + y) :: st) h Q) : gG fr lo kc ks M pc lv (.long y :: .long x :: st) h Q := by
  intro l D B p e R s m args below meth c H locs cells slots mc ms ls C hW hS hL
  exact lv_ladd C.1 C.2.1 d (k C hW hS hL)
theorem g_lsub {x y : Int64} (d : decode M.2.1 pc = .ok (.lsub, 1))  (k : gG fr lo kc ks M (pc + 1) lv (.long (x - y) :: st) h Q) : gG fr lo kc ks M pc lv (.long y :: .long x :: st) h Q := by
  intro l D B p e R s m args below meth c H locs cells slots mc ms ls C hW hS hL
  exact lv_lsub C.1 C.2.1 d (k C hW hS hL)
theorem g_lmul {x y : Int64} (d : decode M.2.1 pc = .ok (.lmul, 1))  (k : gG fr lo kc ks M (pc + 1) lv (.long (x * y) :: st) h Q) : gG fr lo kc ks M pc lv (.long y :: .long x :: st) h Q := by
  intro l D B p e R s m args below meth c H locs cells slots mc ms ls C hW hS hL
  exact lv_lmul C.1 C.2.1 d (k C hW hS hL)
theorem g_ineg {x : Int32} (d : decode M.2.1 pc = .ok (.ineg, 1))  (k : gG fr lo kc ks M (pc + 1) lv (.int (-x) :: st) h Q) : gG fr lo kc ks M pc lv (.int x :: st) h Q := by
  intro l D B p e R s m args below meth c H locs cells slots mc ms ls C hW hS hL
  exact lv_ineg C.1 C.2.1 d (k C hW hS hL)
theorem g_i2l {x : Int32} (d : decode M.2.1 pc = .ok (.i2l, 1))  (k : gG fr lo kc ks M (pc + 1) lv (.long x.toInt64 :: st) h Q) : gG fr lo kc ks M pc lv (.int x :: st) h Q := by
  intro l D B p e R s m args below meth c H locs cells slots mc ms ls C hW hS hL
  exact lv_i2l C.1 C.2.1 d rfl (k C hW hS hL)
theorem g_i2c {x : Int32} (d : decode M.2.1 pc = .ok (.i2c, 1))  (k : gG fr lo kc ks M (pc + 1) lv (.int (x.toUInt32 % 65536).toInt32 :: st) h Q) : gG fr lo kc ks M pc lv (.int x :: st) h Q := by
  intro l D B p e R s m args below meth c H locs cells slots mc ms ls C hW hS hL
  exact lv_i2c C.1 C.2.1 d rfl (k C hW hS hL)
theorem g_lcmp {x y : Int64} (d : decode M.2.1 pc = .ok (.lcmp, 1))  (k : gG fr lo kc ks M (pc + 1) lv (.int (lg_cmp x y) :: st) h Q) : gG fr lo kc ks M pc lv (.long y :: .long x :: st) h Q := by
  intro l D B p e R s m args below meth c H locs cells slots mc ms ls C hW hS hL
  exact W.lcmp C.1 C.2.1 d (k C hW hS hL)
theorem g_icmp_eq {x y : Int32} {off : Int} {tgt : Nat} (d : decode M.2.1 pc = .ok (.if_icmp .eq off, 3)) (ht : (pc : Int) + off = (tgt : Int)) (kt : x = y → gG fr lo kc ks M tgt lv st h Q) (kf : ¬ x = y → gG fr lo kc ks M (pc + 3) lv st h Q) : gG fr lo kc ks M pc lv (.int y :: .int x :: st) h Q := by
  intro l D B p e R s m args below meth c H locs cells slots mc ms ls C hW hS hL
  exact lv_icmp_eq C.1 C.2.1 d ht (fun q => kt q C hW hS hL) (fun q => kf q C hW hS hL)
theorem g_if_eq {x : Int32} {off : Int} {tgt : Nat} (d : decode M.2.1 pc = .ok (.ifCond .eq off, 3)) (ht : (pc : Int) + off = (tgt : Int)) (kt : x = 0 → gG fr lo kc ks M tgt lv st h Q) (kf : ¬ x = 0 → gG fr lo kc ks M (pc + 3) lv st h Q) : gG fr lo kc ks M pc lv (.int x :: st) h Q := by
  intro l D B p e R s m args below meth c H locs cells slots mc ms ls C hW hS hL
  exact lv_if_eq C.1 C.2.1 d ht (fun q => kt q C hW hS hL) (fun q => kf q C hW hS hL)
theorem g_icmp_ne {x y : Int32} {off : Int} {tgt : Nat} (d : decode M.2.1 pc = .ok (.if_icmp .ne off, 3)) (ht : (pc : Int) + off = (tgt : Int)) (kt : ¬ x = y → gG fr lo kc ks M tgt lv st h Q) (kf : x = y → gG fr lo kc ks M (pc + 3) lv st h Q) : gG fr lo kc ks M pc lv (.int y :: .int x :: st) h Q := by
  intro l D B p e R s m args below meth c H locs cells slots mc ms ls C hW hS hL
  exact lv_icmp_ne C.1 C.2.1 d ht (fun q => kt q C hW hS hL) (fun q => kf q C hW hS hL)
theorem g_if_ne {x : Int32} {off : Int} {tgt : Nat} (d : decode M.2.1 pc = .ok (.ifCond .ne off, 3)) (ht : (pc : Int) + off = (tgt : Int)) (kt : ¬ x = 0 → gG fr lo kc ks M tgt lv st h Q) (kf : x = 0 → gG fr lo kc ks M (pc + 3) lv st h Q) : gG fr lo kc ks M pc lv (.int x :: st) h Q := by
  intro l D B p e R s m args below meth c H locs cells slots mc ms ls C hW hS hL
  exact lv_if_ne C.1 C.2.1 d ht (fun q => kt q C hW hS hL) (fun q => kf q C hW hS hL)
theorem g_icmp_lt {x y : Int32} {off : Int} {tgt : Nat} (d : decode M.2.1 pc = .ok (.if_icmp .lt off, 3)) (ht : (pc : Int) + off = (tgt : Int)) (kt : x < y → gG fr lo kc ks M tgt lv st h Q) (kf : ¬ x < y → gG fr lo kc ks M (pc + 3) lv st h Q) : gG fr lo kc ks M pc lv (.int y :: .int x :: st) h Q := by
  intro l D B p e R s m args below meth c H locs cells slots mc ms ls C hW hS hL
  exact lv_icmp_lt C.1 C.2.1 d ht (fun q => kt q C hW hS hL) (fun q => kf q C hW hS hL)
theorem g_if_lt {x : Int32} {off : Int} {tgt : Nat} (d : decode M.2.1 pc = .ok (.ifCond .lt off, 3)) (ht : (pc : Int) + off = (tgt : Int)) (kt : x < 0 → gG fr lo kc ks M tgt lv st h Q) (kf : ¬ x < 0 → gG fr lo kc ks M (pc + 3) lv st h Q) : gG fr lo kc ks M pc lv (.int x :: st) h Q := by
  intro l D B p e R s m args below meth c H locs cells slots mc ms ls C hW hS hL
  exact lv_if_lt C.1 C.2.1 d ht (fun q => kt q C hW hS hL) (fun q => kf q C hW hS hL)
theorem g_icmp_le {x y : Int32} {off : Int} {tgt : Nat} (d : decode M.2.1 pc = .ok (.if_icmp .le off, 3)) (ht : (pc : Int) + off = (tgt : Int)) (kt : x ≤ y → gG fr lo kc ks M tgt lv st h Q) (kf : ¬ x ≤ y → gG fr lo kc ks M (pc + 3) lv st h Q) : gG fr lo kc ks M pc lv (.int y :: .int x :: st) h Q := by
  intro l D B p e R s m args below meth c H locs cells slots mc ms ls C hW hS hL
  exact lv_icmp_le C.1 C.2.1 d ht (fun q => kt q C hW hS hL) (fun q => kf q C hW hS hL)
theorem g_if_le {x : Int32} {off : Int} {tgt : Nat} (d : decode M.2.1 pc = .ok (.ifCond .le off, 3)) (ht : (pc : Int) + off = (tgt : Int)) (kt : x ≤ 0 → gG fr lo kc ks M tgt lv st h Q) (kf : ¬ x ≤ 0 → gG fr lo kc ks M (pc + 3) lv st h Q) : gG fr lo kc ks M pc lv (.int x :: st) h Q := by
  intro l D B p e R s m args below meth c H locs cells slots mc ms ls C hW hS hL
  exact lv_if_le C.1 C.2.1 d ht (fun q => kt q C hW hS hL) (fun q => kf q C hW hS hL)
theorem g_icmp_gt {x y : Int32} {off : Int} {tgt : Nat} (d : decode M.2.1 pc = .ok (.if_icmp .gt off, 3)) (ht : (pc : Int) + off = (tgt : Int)) (kt : y < x → gG fr lo kc ks M tgt lv st h Q) (kf : ¬ y < x → gG fr lo kc ks M (pc + 3) lv st h Q) : gG fr lo kc ks M pc lv (.int y :: .int x :: st) h Q := by
  intro l D B p e R s m args below meth c H locs cells slots mc ms ls C hW hS hL
  exact lv_icmp_gt C.1 C.2.1 d ht (fun q => kt q C hW hS hL) (fun q => kf q C hW hS hL)
theorem g_if_gt {x : Int32} {off : Int} {tgt : Nat} (d : decode M.2.1 pc = .ok (.ifCond .gt off, 3)) (ht : (pc : Int) + off = (tgt : Int)) (kt : 0 < x → gG fr lo kc ks M tgt lv st h Q) (kf : ¬ 0 < x → gG fr lo kc ks M (pc + 3) lv st h Q) : gG fr lo kc ks M pc lv (.int x :: st) h Q := by
  intro l D B p e R s m args below meth c H locs cells slots mc ms ls C hW hS hL
  exact lv_if_gt C.1 C.2.1 d ht (fun q => kt q C hW hS hL) (fun q => kf q C hW hS hL)
theorem g_icmp_ge {x y : Int32} {off : Int} {tgt : Nat} (d : decode M.2.1 pc = .ok (.if_icmp .ge off, 3)) (ht : (pc : Int) + off = (tgt : Int)) (kt : y ≤ x → gG fr lo kc ks M tgt lv st h Q) (kf : ¬ y ≤ x → gG fr lo kc ks M (pc + 3) lv st h Q) : gG fr lo kc ks M pc lv (.int y :: .int x :: st) h Q := by
  intro l D B p e R s m args below meth c H locs cells slots mc ms ls C hW hS hL
  exact lv_icmp_ge C.1 C.2.1 d ht (fun q => kt q C hW hS hL) (fun q => kf q C hW hS hL)
theorem g_if_ge {x : Int32} {off : Int} {tgt : Nat} (d : decode M.2.1 pc = .ok (.ifCond .ge off, 3)) (ht : (pc : Int) + off = (tgt : Int)) (kt : 0 ≤ x → gG fr lo kc ks M tgt lv st h Q) (kf : ¬ 0 ≤ x → gG fr lo kc ks M (pc + 3) lv st h Q) : gG fr lo kc ks M pc lv (.int x :: st) h Q := by
  intro l D B p e R s m args below meth c H locs cells slots mc ms ls C hW hS hL
  exact lv_if_ge C.1 C.2.1 d ht (fun q => kt q C hW hS hL) (fun q => kf q C hW hS hL)
theorem g_goto {off : Int} {tgt : Nat} (d : decode M.2.1 pc = .ok (.goto off, 3)) (ht : (pc : Int) + off = (tgt : Int)) (k : gG fr lo kc ks M tgt lv st h Q) : gG fr lo kc ks M pc lv st h Q := by
  intro l D B p e R s m args below meth c H locs cells slots mc ms ls C hW hS hL
  exact lv_goto C.1 C.2.1 d ht (k C hW hS hL)
theorem g_ifnull {x : Nat} {off : Int} (d : decode M.2.1 pc = .ok (.ifnull off, 3)) (k : gG fr lo kc ks M (pc + 3) lv st h Q) : gG fr lo kc ks M pc lv (.ref x :: st) h Q := by
  intro l D B p e R s m args below meth c H locs cells slots mc ms ls C hW hS hL
  exact lv_ifnull C.1 C.2.1 d (k C hW hS hL)
theorem g_tableIn {dflt a b : Int} {offs : Array Int} {len : Nat} {x : Int32} {off : Int} {tgt : Nat} (d : decode M.2.1 pc = .ok (.tableswitch dflt a b offs, len)) (h1 : ¬ x.toInt < a) (h2 : ¬ b < x.toInt) (ho : offs[(x.toInt - a).toNat]? = some off) (ht : (pc : Int) + off = (tgt : Int)) (k : gG fr lo kc ks M tgt lv st h Q) : gG fr lo kc ks M pc lv (.int x :: st) h Q := by
  intro l D B p e R s m args below meth c H locs cells slots mc ms ls C hW hS hL
  exact lv_tableIn C.1 C.2.1 d h1 h2 ho ht (k C hW hS hL)
theorem g_tableOut {dflt a b : Int} {offs : Array Int} {len : Nat} {x : Int32} {tgt : Nat} (d : decode M.2.1 pc = .ok (.tableswitch dflt a b offs, len)) (h1 : x.toInt < a ∨ b < x.toInt) (ht : (pc : Int) + dflt = (tgt : Int)) (k : gG fr lo kc ks M tgt lv st h Q) : gG fr lo kc ks M pc lv (.int x :: st) h Q := by
  intro l D B p e R s m args below meth c H locs cells slots mc ms ls C hW hS hL
  exact lv_tableOut C.1 C.2.1 d h1 ht (k C hW hS hL)
end GROWS
end
section
/-! ===== rows of the abstract machine: fields, arrays, new ===== -/
def gu (h : Hp_) (q : Nat) (e : Ent_) : Hp_ := fun x => if x = q then some e else h x
theorem gu_same {h : Hp_} {q : Nat} {e : Ent_} : gu h q e q = some e := by unfold gu; rw [if_pos rfl]
theorem gu_ne {h : Hp_} {q x : Nat} {e : Ent_} (n : x ≠ q) : gu h q e x = h x := by unfold gu; rw [if_neg n]
theorem gC_hx {l : Launch} {D : va_G} {B : Nat} {p : Program} {R : Room} {s : State} {m : MethodId} {args : Array Value} {meth : Method} {c : Code} {cells slots mc ms fr lo kc ks : Nat} {M : Mi_} (C : gC l D B p R s m args meth c cells slots mc ms fr lo kc ks M) : p.tables.exec = Jvm.exec := C.1
theorem gC_own {l : Launch} {D : va_G} {B : Nat} {p : Program} {R : Room} {s : State} {m : MethodId} {args : Array Value} {meth : Method} {c : Code} {cells slots mc ms fr lo kc ks : Nat} {M : Mi_} (C : gC l D B p R s m args meth c cells slots mc ms fr lo kc ks M) : s.vm.findClass M.1.cls = some m.cls := C.2.2.2.2.1
theorem gC_ts {l : Launch} {D : va_G} {B : Nat} {p : Program} {R : Room} {s : State} {m : MethodId} {args : Array Value} {meth : Method} {c : Code} {cells slots mc ms fr lo kc ks : Nat} {M : Mi_} (C : gC l D B p R s m args meth c cells slots mc ms fr lo kc ks M) : ∀ w ∈ gAll, w.before args s = true := C.2.2.2.2.2.1
theorem gC_E {l : Launch} {D : va_G} {B : Nat} {p : Program} {R : Room} {s : State} {m : MethodId} {args : Array Value} {meth : Method} {c : Code} {cells slots mc ms fr lo kc ks : Nat} {M : Mi_} (C : gC l D B p R s m args meth c cells slots mc ms fr lo kc ks M) : gE D B s s.heap := C.2.2.2.2.2.2.2.2.2.2.1
theorem gC_B {l : Launch} {D : va_G} {B : Nat} {p : Program} {R : Room} {s : State} {m : MethodId} {args : Array Value} {meth : Method} {c : Code} {cells slots mc ms fr lo kc ks : Nat} {M : Mi_} (C : gC l D B p R s m args meth c cells slots mc ms fr lo kc ks M) : B ≤ s.heap.size := C.2.2.2.2.2.2.2.2.2.2.2.1
theorem gC_oth {l : Launch} {D : va_G} {B : Nat} {p : Program} {R : Room} {s : State} {m : MethodId} {args : Array Value} {meth : Method} {c : Code} {cells slots mc ms fr lo kc ks : Nat} {M : Mi_} (C : gC l D B p R s m args meth c cells slots mc ms fr lo kc ks M) {w : Cond} (hw : w ∈ gOth) : w.before args s = true := gOth_use (List.mem_filter.mp hw).2 ((gC_E C).2.2.2.2.1 w hw)
theorem gW_set {D : va_G} {B : Nat} {s : State} {h : Hp_} {H H1 : Heap} {q : Nat} {e : Ent_} (hW : gW D B s h H) (he : gEn D B s q e H1) (hz : H1.size = H.size) (hq : ∀ x : Nat, x ≠ q → H1[x]? = H[x]?) : gW D B s (gu h q e) H1 := by
  refine ⟨by rw [hz]; exact hW.1, fun x e' hx => ?_⟩
  by_cases n : x = q
  · subst n
    rw [gu_same] at hx
    cases hx
    exact he
  · rw [gu_ne n] at hx
    exact gEn_kept (hW.2 x e' hx) (hq x n)
theorem gW_push {D : va_G} {B : Nat} {s : State} {h : Hp_} {H H1 : Heap} {e : Ent_} (hW : gW D B s h H) (he : gEn D B s H.size e H1) (hz : H1.size = H.size + 1) (hq : ∀ x : Nat, x < H.size → H1[x]? = H[x]?) : gW D B s (gu h H.size e) H1 := by
  refine ⟨by rw [hz]; exact Nat.le_succ_of_le hW.1, fun x e' hx => ?_⟩
  by_cases n : x = H.size
  · subst n
    rw [gu_same] at hx
    cases hx
    exact he
  · rw [gu_ne n] at hx
    exact gEn_kept (hW.2 x e' hx) (hq x (gEn_lt (hW.2 x e' hx)))
theorem gW_fresh {D : va_G} {B : Nat} {s : State} {h : Hp_} {H : Heap} (hW : gW D B s h H) : h H.size = none := by
  cases hh : h H.size with
  | none => rfl
  | some e => exact absurd (gEn_lt (hW.2 _ _ hh)) (Nat.lt_irrefl _)
/-- a class whose fields the tables tell -/
def gCok (r : vw_C) (ty : Nat → FieldType) : Prop := (∀ w ∈ u_ws r.1 r.2.1 r.2.2, w ∈ gAll) ∧ (∀ k, k < r.2.2 → parseFieldDescriptor (r.2.1 k).2.2.1 = some (ty k)) ∧ ∀ a, a < r.2.2 → ∀ b, b < r.2.2 → a ≠ b → (r.2.1 a).2.1 ≠ (r.2.1 b).2.1
/-- a field's link: of class own, at idx: field k of class ci -/
def gFl (own : String) (idx ci k : Nat) : Prop := ∃ (r : vw_C) (ty : Nat → FieldType), gCl[ci]? = some r ∧ gCok r ty ∧ k < r.2.2 ∧ (Cond.fieldLink own idx (r.2.1 k).1 (r.2.1 k).2.1 (r.2.1 k).2.2.1 ∈ gAll ∨ ∃ host, Cond.fieldLinkNest own idx (r.2.1 k).1 (r.2.1 k).2.1 (r.2.1 k).2.2.1 host ∈ gOth)
/-- .. one that may be written, of type t -/
def gPt (own : String) (idx ci k : Nat) (t : FieldType) : Prop := ∃ (r : vw_C) (ty : Nat → FieldType), gCl[ci]? = some r ∧ gCok r ty ∧ k < r.2.2 ∧ ty k = t ∧ (r.2.1 k).2.2.2 = false ∧ (Cond.fieldLink own idx (r.2.1 k).1 (r.2.1 k).2.1 (r.2.1 k).2.2.1 ∈ gAll ∨ ∃ host, Cond.fieldLinkNest own idx (r.2.1 k).1 (r.2.1 k).2.1 (r.2.1 k).2.2.1 host ∈ gOth)
/-- .. a final one, by its own constructor -/
def gPf (own : String) (idx ci k : Nat) (t : FieldType) : Prop := ∃ (r : vw_C) (ty : Nat → FieldType), gCl[ci]? = some r ∧ gCok r ty ∧ k < r.2.2 ∧ ty k = t ∧ (r.2.1 k).2.2.2 = true ∧ (r.2.1 k).1 = own ∧ Cond.fieldLink own idx (r.2.1 k).1 (r.2.1 k).2.1 (r.2.1 k).2.2.1 ∈ gAll
section GHEAP
variable {fr lo kc ks pc : Nat} (M : Mi_) {lv : List (Nat × Value)} {st : List Value} {h : Hp_} {Q : Ot_ → Hp_ → Prop}
theorem g_get {idx ci k a : Nat} {fs : List Value} {v : Value} (d : decode M.2.1 pc = .ok (.getfield idx, 3)) (f : gFl M.1.cls idx ci k) (hh : h a = some (.inr (ci, fs))) (hv : fs[k]? = some v) (kk : gG fr lo kc ks M (pc + 3) lv (v :: st) h Q) : gG fr lo kc ks M pc lv (.ref a :: st) h Q := by
  intro l D B p e R s m args below meth c H locs cells slots mc ms ls C hW hS hL
  obtain ⟨hB, r, hr, hlen, hob⟩ := hW.2 a _ hh
  obtain ⟨r', ty, hr', ⟨hok1, hok2, hok3⟩, hk, hl⟩ := f
  cases hr.symm.trans hr'
  have hP : va_P D gCl [(a, .inr (ci, fs))] H := by
    intro j q hq
    have hz : j < 1 := (List.getElem?_eq_some_iff.mp hq).1
    rw [show j = 0 by omega] at hq
    cases hq
    exact ⟨r, hr, hob⟩
  obtain ⟨C0, T, N⟩ := r
  rcases hl with hl | ⟨host, hl⟩
  · exact va_get (D := D) (cl := gCl) (tys := []) (gC_hx C) C.2.1 (gC_ts C) hok1 (gC_own C) (gC_E C).1 hP 0 rfl hr k hk (gC_ts C _ hl) (fun _ h9 => h9) hv d (kk C hW hS hL)
  · exact va_getN (D := D) (cl := gCl) (tys := []) (gC_hx C) C.2.1 (gC_ts C) hok1 (gC_own C) (gC_E C).1 hP 0 rfl hr k hk (gC_oth C hl) (fun _ h9 => h9) hv d (kk C hW hS hL)
theorem g_put {idx ci k a : Nat} {fs : List Value} {v : Value} {t : FieldType} (d : decode M.2.1 pc = .ok (.putfield idx, 3)) (f : gPt M.1.cls idx ci k t) (hh : h a = some (.inr (ci, fs))) (hn : narrow t v = v) (hft : fits t v = true) (kk : gG fr lo kc ks M (pc + 3) lv st (gu h a (.inr (ci, fs.set k v))) Q) : gG fr lo kc ks M pc lv (v :: .ref a :: st) h Q := by
  intro l D B p e R s m args below meth c H locs cells slots mc ms ls C hW hS hL
  obtain ⟨hB, r, hr, hlen, hob⟩ := hW.2 a _ hh
  obtain ⟨r', ty, hr', ⟨hok1, hok2, hok3⟩, hk, ht, hfin, hl⟩ := f
  cases hr.symm.trans hr'
  obtain ⟨C0, T, N⟩ := r
  have hts := gC_ts C
  have hK : va_K D gCl [] s := (gC_E C).1
  have hap := va_apart (own := M.1.cls) hts hok1 ty hok2 hok3 hK hr
  obtain ⟨cell, q1, q2, q3, q4⟩ := hob
  obtain ⟨hSl, hfc, kC, hkC, hkind⟩ := hK.1 ci _ hr
  obtain ⟨cf, kf, fi, f, hi, hsl⟩ := hSl k hk
  have hlay := hts _ (hok1 _ (u_in_lay hk))
  unfold u_lay at hlay
  rw [if_neg (by show ¬ (T k).2.2.2 = true; rw [show (T k).2.2.2 = false from hfin]; decide)] at hlay
  have hst := (u_facts hfc hkC (u_lays hts hok1 hk) hi).1
  have h6 := u_store hfc hkC hkind hlay hi (hok2 k hk) (by rw [ht]; exact hn) (by rw [ht]; exact hft)
  have fin : ∀ H' : Heap, H'[a]? = some (cell.setSlot f.slot v) → H'.size = H.size → (∀ q, q ≠ a → H'[q]? = H[q]?) → W p l e R s m args below meth c H' (locs ++ [⟨a, f.slot⟩]) cells slots (vx_MQ below (gQ Q D B) (gX Q D B) args s mc ms (fun q => B ≤ q)) (F0 m (pc + 3) ls st) := by
    intro H' e1 e2 e3
    rw [hsl] at e1
    refine kk C (gW_set hW ⟨hB, (C0, T, N), hr, by rw [List.length_set]; exact hlen, t_OB.to (V := updV (vp_V fs) k v) ⟨_, e1, q2, q3, t_set q4 hap hk v⟩ (fun j _ => vp_updV_set (by rw [hlen]; exact hk) v j)⟩ e2 e3) (hS.put e2 e3 hB) hL
  rcases hl with hl | ⟨host, hl⟩
  · exact W.putK (gC_hx C) C.2.1 (f := f) ⟨gC_own C, hts _ hl, ⟨_, _, _, hi⟩, hst⟩ (by rw [q2]; exact h6) q1 q3 (by rw [hsl]; exact k2_hasslot (q4 k hk)) rfl rfl d fin
  · exact va_WputK (gC_hx C) C.2.1 (f := f) (gC_own C) (gC_oth C hl) hi hst (by rw [q2]; exact h6) q1 q3 (by rw [hsl]; exact k2_hasslot (q4 k hk)) rfl rfl d fin
theorem g_putF {idx ci k a : Nat} {fs : List Value} {v : Value} {t : FieldType} (d : decode M.2.1 pc = .ok (.putfield idx, 3)) (f : gPf M.1.cls idx ci k t) (hin : M.1.name = "<init>") (hh : h a = some (.inr (ci, fs))) (hn : narrow t v = v) (hft : fits t v = true) (kk : gG fr lo kc ks M (pc + 3) lv st (gu h a (.inr (ci, fs.set k v))) Q) : gG fr lo kc ks M pc lv (v :: .ref a :: st) h Q := by
  intro l D B p e R s m args below meth c H locs cells slots mc ms ls C hW hS hL
  obtain ⟨hB, r, hr, hlen, hob⟩ := hW.2 a _ hh
  obtain ⟨r', ty, hr', ⟨hok1, hok2, hok3⟩, hk, ht, hfin, hdecl, hl⟩ := f
  cases hr.symm.trans hr'
  obtain ⟨C0, T, N⟩ := r
  have hts := gC_ts C
  have hK : va_K D gCl [] s := (gC_E C).1
  have hap := va_apart (own := M.1.cls) hts hok1 ty hok2 hok3 hK hr
  obtain ⟨cell, q1, q2, q3, q4⟩ := hob
  obtain ⟨hSl, hfc, kC, hkC, hkind⟩ := hK.1 ci _ hr
  obtain ⟨cf, kf, fi, f, hi, hsl⟩ := hSl k hk
  have hlay := hts _ (hok1 _ (u_in_lay hk))
  unfold u_lay at hlay
  rw [if_pos (show (T k).2.2.2 = true from hfin)] at hlay
  have hst := (u_facts hfc hkC (u_lays hts hok1 hk) hi).1
  have hcf : m.cls = cf := by
    obtain ⟨_, _, c', _, _, _, -, -, hf', -, -, -, hown2, -⟩ := Cond.laysFinal_spec hlay
    have e1 : c' = cf := by have := hi.symm.trans hf'; simp at this; exact this.1.symm
    rw [show (T k).1 = M.1.cls from hdecl] at hown2
    rw [← e1]; exact Option.some.inj ((gC_own C).symm.trans hown2)
  have h6 := u_fits hfc hkC hkind (Or.inr hlay) hi (hok2 k hk) (by rw [ht]; exact hn) (by rw [ht]; exact hft)
  have hnm : meth.name = "<init>" := C.2.2.2.2.2.2.2.1.trans hin
  refine W.putFinK (gC_hx C) C.2.1 (gC_own C) (hts _ hl) hi hst hcf hnm (by rw [q2]; exact h6) q1 q3 (by rw [hsl]; exact k2_hasslot (q4 k hk)) rfl rfl d fun H' e1 e2 e3 => ?_
  rw [hsl] at e1 ⊢
  exact kk C (gW_set hW ⟨hB, (C0, T, N), hr, by rw [List.length_set]; exact hlen, t_OB.to (V := updV (vp_V fs) k v) ⟨_, e1, q2, q3, t_set q4 hap hk v⟩ (fun j _ => vp_updV_set (by rw [hlen]; exact hk) v j)⟩ e2 e3) (hS.put e2 e3 hB) hL
/-- a class that is made at idx of class own -/
def gNw (own : String) (idx ci : Nat) (fs : List Value) : Prop := ∃ (r : vw_C) (ty : Nat → FieldType), gCl[ci]? = some r ∧ gCok r ty ∧ fs.length = r.2.2 ∧ (∀ j, j < r.2.2 → defaultValue (ty j) = vp_V fs j) ∧ Cond.classLink own idx r.1 ∈ gAll ∧ Cond.instantiable r.1 r.2.2 ∈ gAll ∧ Cond.initialized r.1 ∈ gAll
theorem gC_pushed {l : Launch} {D : va_G} {B : Nat} {p : Program} {R : Room} {s : State} {m : MethodId} {args : Array Value} {meth : Method} {c : Code} {cells slots mc ms fr lo kc ks kc' ks' N : Nat} {M : Mi_} (C : gC l D B p R s m args meth c cells slots mc ms fr lo kc ks M) (h1 : 1 + kc' ≤ kc) (h2 : N + ks' ≤ ks) : gC l D B p R s m args meth c (cells + 1) (slots + N) mc ms fr lo kc' ks' M ∧ cells + 1 ≤ R.cells ∧ slots + N ≤ R.slots := by
  obtain ⟨c1, c2, c3, c4, c5, c6, c7, c8, c9, c10, c11, c12, c13, c14, c15, c16, c17, c18⟩ := C
  exact ⟨⟨c1, c2, c3, c4, c5, c6, c7, c8, c9, c10, c11, c12, c13, c14, by omega, by omega, c17, c18⟩, by omega, by omega⟩
theorem gS_push {B : Nat} {s : State} {H H1 : Heap} {locs : List Loc} (hB : B ≤ s.heap.size) (hS : va_S (fun q => B ≤ q) s.heap H locs) (hz : H1.size = H.size + 1) (hq : ∀ x : Nat, x < H.size → H1[x]? = H[x]?) : va_S (fun q => B ≤ q) s.heap H1 locs :=
  ⟨Nat.le_trans hS.1 (by omega), fun x h1 h2 => (hq x (Nat.lt_of_lt_of_le h1 hS.1)).trans (hS.2.1 x h1 h2), hS.2.2⟩
theorem g_new {idx ci kc' ks' N : Nat} {fs : List Value} (d : decode M.2.1 pc = .ok (.new idx, 3)) (f : gNw M.1.cls idx ci fs) (hN : fs.length = N) (hkc : 1 + kc' ≤ kc) (hks : N + ks' ≤ ks) (kk : ∀ q : Nat, h q = none → gG fr lo kc' ks' M (pc + 3) lv (.ref q :: st) (gu h q (.inr (ci, fs))) Q) : gG fr lo kc ks M pc lv st h Q := by
  intro l D B p e R s m args below meth c H locs cells slots mc ms ls C hW hS hL
  obtain ⟨⟨C0, T, N9⟩, ty, hr, ⟨hok1, hok2, hok3⟩, hlen, hdef, hl1, hl2, hl3⟩ := f
  have hN9 : N9 = N := hlen.symm.trans hN
  subst hN9
  obtain ⟨C', b1, b2⟩ := gC_pushed C hkc hks
  have hts := gC_ts C
  have hKn := (gC_E C).1.1 ci _ hr
  refine W.newcK (gC_hx C) C.2.1 (gC_own C) (hts _ hl1) (hts _ hl2) (hts _ hl3) rfl d b1 b2 hKn.2.1 rfl fun H1 kC hkC e1 z1 o1 => ?_
  exact kk H.size (gW_fresh hW) C' (gW_push hW ⟨hW.1, (C0, T, N9), hr, hlen, (u_born ty hts hok1 hKn hkC e1 hok2).to hdef⟩ z1 o1) (gS_push (gC_B C) hS z1 o1) hL
/-- the array whose elements are all the default of its type -/
def gZ (ty : FieldType) (N : Nat) : vp_A := match ty with
  | .long => (N, .inr (.inl (fun _ => 0)))
  | _ => (N, .inl (fun _ => 0))
theorem g_newarray {at' : ArrayType} {ty : FieldType} {n : Int32} {N kc' ks' : Nat} (d : decode M.2.1 pc = .ok (.newarray at', 2)) (hty : newarray.typeOf at' = ty) (hw : Cond.arrayClass ty ∈ gAll) (h4 : ty = .int ∨ ty = .char ∨ ty = .long) (hn : ¬ n < 0) (hN : n.toNatClampNeg = N) (hb8 : N ≤ 67108864) (hkc : 1 + kc' ≤ kc) (hks : N + ks' ≤ ks) (kk : ∀ q : Nat, h q = none → gG fr lo kc' ks' M (pc + 2) lv (.ref q :: st) (gu h q (.inl (false, ty, gZ ty N))) Q) : gG fr lo kc ks M pc lv (.int n :: st) h Q := by
  intro l D B p e R s m args below meth c H locs cells slots mc ms ls C hW hS hL
  obtain ⟨C', b1, b2⟩ := gC_pushed C hkc hks
  have hts := gC_ts C
  subst hty
  refine va_newaK (gC_hx C) C.2.1 (hts _ hw) rfl d rfl hn hN (by rcases h4 with h4 | h4 | h4 <;> rw [h4] <;> simp only [componentBytes] <;> omega) b1 b2 rfl fun H1 cA e1 z1 o1 hAr hNm => ?_
  refine kk H.size (gW_fresh hW) C' (gW_push hW ⟨hW.1, cA, ?_, hAr, ?_⟩ z1 o1) (gS_push (gC_B C) hS z1 o1) hL
  · rw [e1]
    rcases h4 with h4 | h4 | h4 <;> rw [h4] <;> rfl
  · rcases h4 with h4 | h4 | h4 <;> rw [h4] at hNm ⊢ <;> exact hNm
end GHEAP
end
section
/-! ===== rows of the abstract machine: arrays ===== -/
section GARR
variable {fr lo kc ks pc : Nat} (M : Mi_) {lv : List (Nat × Value)} {st : List Value} {h : Hp_} {Q : Ot_ → Hp_ → Prop}
theorem g_iaload {a n : Nat} {b : Bool} {f : Nat → Int32} {i : Int32} (d : decode M.2.1 pc = .ok (.iaload, 1)) (hh : h a = some (.inl (b, .int, (n, .inl f)))) (hin : vp_in i n) (kk : gG fr lo kc ks M (pc + 1) lv (.int (f i.toNatClampNeg) :: st) h Q) : gG fr lo kc ks M pc lv (.int i :: .ref a :: st) h Q := by
  intro l D B p e R s m args below meth c H locs cells slots mc ms ls C hW hS hL
  have hlt : i.toNatClampNeg < n := Nat.not_le.mp fun q => hin (Or.inr q)
  have hen := hW.2 a _ hh
  cases b with
  | true =>
    obtain ⟨-, -, f', hf, scr, h1, h2, h3, h4, h5⟩ := hen
    cases hf
    exact W.iald (v := .int (f i.toNatClampNeg)) (gC_hx C) C.2.1 h1 h2 h3 (by rw [h4]; exact hin) (h5 _ hlt) rfl rfl d (kk C hW hS hL)
  | false =>
    obtain ⟨-, cA, h1, h2, h3⟩ := hen
    exact W.iald (v := .int (f i.toNatClampNeg)) (gC_hx C) C.2.1 h1 (h2 n (fun j => .int (f j))) (fun q => by cases q) (by show ¬ (i < 0 ∨ (arrV _ _ _).slots.size ≤ _); rw [arrV_size]; exact hin) (by show (arrV _ _ _).slots[_]? = _; rw [arrV_read _ _ hlt]) rfl rfl d (kk C hW hS hL)
theorem g_caload {a n : Nat} {f : Nat → Int32} {i : Int32} (d : decode M.2.1 pc = .ok (.caload, 1)) (hh : h a = some (.inl (false, .char, (n, .inl f)))) (hin : vp_in i n) (kk : gG fr lo kc ks M (pc + 1) lv (.int (f i.toNatClampNeg) :: st) h Q) : gG fr lo kc ks M pc lv (.int i :: .ref a :: st) h Q := by
  intro l D B p e R s m args below meth c H locs cells slots mc ms ls C hW hS hL
  have hlt : i.toNatClampNeg < n := Nat.not_le.mp fun q => hin (Or.inr q)
  obtain ⟨-, cA, h1, h2, h3⟩ := hW.2 a _ hh
  exact W.cald (v := .int (f i.toNatClampNeg)) (gC_hx C) C.2.1 h1 (h2 n (fun j => .int (f j))) (fun q => by cases q) (by show ¬ (i < 0 ∨ (arrV _ _ _).slots.size ≤ _); rw [arrV_size]; exact hin) (by show (arrV _ _ _).slots[_]? = _; rw [arrV_read _ _ hlt]) rfl rfl d (kk C hW hS hL)
theorem g_laload {a n : Nat} {f : Nat → Int64} {i : Int32} (d : decode M.2.1 pc = .ok (.laload, 1)) (hh : h a = some (.inl (false, .long, (n, .inr (.inl f))))) (hin : vp_in i n) (kk : gG fr lo kc ks M (pc + 1) lv (.long (f i.toNatClampNeg) :: st) h Q) : gG fr lo kc ks M pc lv (.int i :: .ref a :: st) h Q := by
  intro l D B p e R s m args below meth c H locs cells slots mc ms ls C hW hS hL
  have hlt : i.toNatClampNeg < n := Nat.not_le.mp fun q => hin (Or.inr q)
  obtain ⟨-, cA, h1, h2, h3⟩ := hW.2 a _ hh
  exact W.lald (v := .long (f i.toNatClampNeg)) (gC_hx C) C.2.1 h1 (h2 n (fun j => .long (f j))) (fun q => by cases q) (by show ¬ (i < 0 ∨ (arrV _ _ _).slots.size ≤ _); rw [arrV_size]; exact hin) (by show (arrV _ _ _).slots[_]? = _; rw [arrV_read _ _ hlt]) rfl rfl d (kk C hW hS hL)
theorem g_aaload {a n q : Nat} {E : String} {f : Nat → Option Nat} {i : Int32} (d : decode M.2.1 pc = .ok (.aaload, 1)) (hh : h a = some (.inl (false, .object E, (n, .inr (.inr (.inr (.inr f))))))) (hin : vp_in i n) (hq : f i.toNatClampNeg = some q) (kk : gG fr lo kc ks M (pc + 1) lv (.ref q :: st) h Q) : gG fr lo kc ks M pc lv (.int i :: .ref a :: st) h Q := by
  intro l D B p e R s m args below meth c H locs cells slots mc ms ls C hW hS hL
  have hlt : i.toNatClampNeg < n := Nat.not_le.mp fun q => hin (Or.inr q)
  obtain ⟨-, cA, h1, h2, h3⟩ := hW.2 a _ hh
  exact W.aald (v := .ref q) (ty := .object E) (gC_hx C) C.2.1 h1 (h2 n (fun j => va_rf (f j))) rfl (fun q => by cases q) (by show ¬ (i < 0 ∨ (arrV _ _ _).slots.size ≤ _); rw [arrV_size]; exact hin) (by show (arrV _ _ _).slots[_]? = _; rw [arrV_read _ _ hlt, hq]; rfl) rfl rfl d (kk C hW hS hL)
theorem g_alen {a n : Nat} {b : Bool} {ty : FieldType} {z : (Nat → Int32) ⊕ (Nat → Int64) ⊕ (Nat → UInt32) ⊕ (Nat → UInt64) ⊕ (Nat → Option Nat)} (d : decode M.2.1 pc = .ok (.arraylength, 1)) (hh : h a = some (.inl (b, ty, (n, z)))) (kk : gG fr lo kc ks M (pc + 1) lv (.int (nI n) :: st) h Q) : gG fr lo kc ks M pc lv (.ref a :: st) h Q := by
  intro l D B p e R s m args below meth c H locs cells slots mc ms ls C hW hS hL
  have hen := hW.2 a _ hh
  cases b with
  | true =>
    obtain ⟨-, -, f', hf, scr, h1, h2, h3, h4, h5⟩ := hen
    exact W.alen (n := nI n) (gC_hx C) C.2.1 h1 h2 (by rw [h4]; rfl) rfl rfl d (kk C hW hS hL)
  | false =>
    obtain ⟨-, cA, h1, h2, h3⟩ := hen
    have hv : ∃ F : Nat → Value, vp_cell cA (n, z) = arrV cA n F := by
      rcases z with z | z | z | z | z
      · exact ⟨fun j => .int (z j), rfl⟩
      · exact ⟨fun j => .long (z j), rfl⟩
      · exact ⟨fun j => .float (z j), rfl⟩
      · exact ⟨fun j => .double (z j), rfl⟩
      · exact ⟨fun j => va_rf (z j), rfl⟩
    obtain ⟨F, hF⟩ := hv
    rw [hF] at h1
    exact W.alen (n := nI n) (gC_hx C) C.2.1 h1 (h2 n F) (by rw [arrV_size]; rfl) rfl rfl d (kk C hW hS hL)
theorem g_iastore {a n : Nat} {f : Nat → Int32} {i x : Int32} (d : decode M.2.1 pc = .ok (.iastore, 1)) (hh : h a = some (.inl (false, .int, (n, .inl f)))) (hin : vp_in i n) (kk : gG fr lo kc ks M (pc + 1) lv st (gu h a (.inl (false, .int, (n, .inl (upd f i.toNatClampNeg x))))) Q) : gG fr lo kc ks M pc lv (.int x :: .int i :: .ref a :: st) h Q := by
  intro l D B p e R s m args below meth c H locs cells slots mc ms ls C hW hS hL
  obtain ⟨hB, cA, h1, h2, h3⟩ := hW.2 a _ hh
  refine W.iast (gC_hx C) C.2.1 h1 (h2 n (fun j => .int (f j))) (fun q => by cases q) (by show ¬ (i < 0 ∨ (arrV _ _ _).slots.size ≤ _); rw [arrV_size]; exact hin) rfl rfl d fun H1 e1 z1 o1 => ?_
  refine kk C (gW_set hW ⟨hB, cA, ?_, h2, h3⟩ z1 o1) (hS.put z1 o1 hB) hL
  rw [e1, vp_cell_i, vp_cell_i, arrV_store]
  congr 2
  funext q
  by_cases hq : q = i.toNatClampNeg
  · subst hq
    simp [updV, upd]
  · simp [updV, upd, hq]
theorem g_castore {a n : Nat} {f : Nat → Int32} {i x : Int32} (d : decode M.2.1 pc = .ok (.castore, 1)) (hh : h a = some (.inl (false, .char, (n, .inl f)))) (hin : vp_in i n) (hx : narrow .char (.int x) = .int x) (kk : gG fr lo kc ks M (pc + 1) lv st (gu h a (.inl (false, .char, (n, .inl (upd f i.toNatClampNeg x))))) Q) : gG fr lo kc ks M pc lv (.int x :: .int i :: .ref a :: st) h Q := by
  intro l D B p e R s m args below meth c H locs cells slots mc ms ls C hW hS hL
  obtain ⟨hB, cA, h1, h2, h3⟩ := hW.2 a _ hh
  refine W.cast (gC_hx C) C.2.1 h1 (h2 n (fun j => .int (f j))) (fun q => by cases q) (by show ¬ (i < 0 ∨ (arrV _ _ _).slots.size ≤ _); rw [arrV_size]; exact hin) rfl rfl d fun H1 e1 z1 o1 => ?_
  refine kk C (gW_set hW ⟨hB, cA, ?_, h2, h3⟩ z1 o1) (hS.put z1 o1 hB) hL
  rw [e1, hx, vp_cell_i, vp_cell_i, arrV_store]
  congr 2
  funext q
  by_cases hq : q = i.toNatClampNeg
  · subst hq
    simp [updV, upd]
  · simp [updV, upd, hq]
theorem g_lastore {a n : Nat} {f : Nat → Int64} {i : Int32} {x : Int64} (d : decode M.2.1 pc = .ok (.lastore, 1)) (hh : h a = some (.inl (false, .long, (n, .inr (.inl f))))) (hin : vp_in i n) (kk : gG fr lo kc ks M (pc + 1) lv st (gu h a (.inl (false, .long, (n, .inr (.inl (vp_updL f i.toNatClampNeg x)))))) Q) : gG fr lo kc ks M pc lv (.long x :: .int i :: .ref a :: st) h Q := by
  intro l D B p e R s m args below meth c H locs cells slots mc ms ls C hW hS hL
  obtain ⟨hB, cA, h1, h2, h3⟩ := hW.2 a _ hh
  refine W.last (gC_hx C) C.2.1 h1 (h2 n (fun j => .long (f j))) (fun q => by cases q) (by show ¬ (i < 0 ∨ (arrV _ _ _).slots.size ≤ _); rw [arrV_size]; exact hin) rfl rfl d fun H1 e1 z1 o1 => ?_
  refine kk C (gW_set hW ⟨hB, cA, ?_, h2, h3⟩ z1 o1) (hS.put z1 o1 hB) hL
  rw [e1]
  show some ((arrV cA n (fun j => .long (f j))).setSlot _ _) = some (arrV cA n (fun j => .long (vp_updL f i.toNatClampNeg x j)))
  rw [arrV_store]
  congr 2
  funext q
  by_cases hq : q = i.toNatClampNeg
  · subst hq
    simp [updV, vp_updL]
  · simp [updV, vp_updL, hq]
theorem g_aastore {a n v ci : Nat} {E : String} {f : Nat → Option Nat} {i : Int32} {vs : List Value} {r : vw_C} (d : decode M.2.1 pc = .ok (.aastore, 1)) (hh : h a = some (.inl (false, .object E, (n, .inr (.inr (.inr (.inr f))))))) (hv : h v = some (.inr (ci, vs))) (hc : gCl[ci]? = some r) (hE : r.1 = E) (hin : vp_in i n) (kk : gG fr lo kc ks M (pc + 1) lv st (gu h a (.inl (false, .object E, (n, .inr (.inr (.inr (.inr (va_up f i.toNatClampNeg (some v))))))))) Q) : gG fr lo kc ks M pc lv (.ref v :: .int i :: .ref a :: st) h Q := by
  intro l D B p e R s m args below meth c H locs cells slots mc ms ls C hW hS hL
  subst hE
  have hlt : i.toNatClampNeg < n := Nat.not_le.mp fun q => hin (Or.inr q)
  have h0 : ¬ i < 0 := fun q => hin (Or.inl q)
  obtain ⟨hB, cA, h1, h2, h3⟩ := hW.2 a _ hh
  obtain ⟨hBv, r', hr', hlen, cellV, g1, g2, g3, -⟩ := hW.2 v _ hv
  cases hc.symm.trans hr'
  have hcls := ((gC_E C).1.1 ci r hc).2
  obtain ⟨kA, comp, k1, k2, k3, k4⟩ := id h3
  have hcomp : comp = D.1 ci := Option.some.inj (k3.symm.trans hcls.1)
  subst hcomp
  obtain ⟨kC, hkC, -⟩ := id hcls.2
  refine W.aast (gC_hx C) C.2.1 h1 (fun q h => by cases h) (fun h => by cases h) k1 k2 rfl hkC ⟨h0, by show _ < (arrV _ _ _).slots.size; rw [arrV_size]; exact hlt⟩ g1 (fun q h => by rw [g3] at h; cases h) (by rw [g2]; exact hkC) (by rw [g2]; exact va_assign hcls) rfl rfl d fun H1 e1 z1 o1 => ?_
  refine kk C (gW_set hW ⟨hB, cA, ?_, h2, h3⟩ z1 o1) (hS.put z1 o1 hB) hL
  rw [e1, vp_cell_q, vp_cell_q, arrV_store]
  congr 2
  funext q
  by_cases hq : q = i.toNatClampNeg
  · subst hq
    simp [updV, va_up, va_rf]
  · simp [updV, va_up, hq]
theorem g_anewarray {idx : Nat} {E : String} {n : Int32} {N kc' ks' : Nat} (d : decode M.2.1 pc = .ok (.anewarray idx, 3)) (hw : Cond.classLink M.1.cls idx E ∈ gAll) (ho : Cond.arrayOver (.object E) ∈ gOth) (hn : ¬ n < 0) (hN : n.toNatClampNeg = N) (hb8 : N ≤ 67108864) (hkc : 1 + kc' ≤ kc) (hks : N + ks' ≤ ks) (kk : ∀ q : Nat, h q = none → gG fr lo kc' ks' M (pc + 3) lv (.ref q :: st) (gu h q (.inl (false, .object E, (N, .inr (.inr (.inr (.inr (fun _ => none)))))))) Q) : gG fr lo kc ks M pc lv (.int n :: st) h Q := by
  intro l D B p e R s m args below meth c H locs cells slots mc ms ls C hW hS hL
  obtain ⟨C', b1, b2⟩ := gC_pushed C hkc hks
  subst hN
  refine W.anew (gC_hx C) C.2.1 (gC_own C) (gC_ts C _ hw) (gC_oth C ho) rfl d rfl hn (by omega) b1 b2 fun cA kA comp f1 f2 f3 f4 => ?_
  generalize hH1 : H.push ({ cls := cA, slots := Array.replicate n.toNatClampNeg .null, vm := .none } : Cell) = H1
  have z1 : H1.size = H.size + 1 := by rw [← hH1, Array.size_push]
  have e1 : H1[H.size]? = some (arrV cA n.toNatClampNeg (fun _ => .null)) := by rw [← hH1, Array.getElem?_push_size, ← arrV_new]
  have o1 : ∀ q : Nat, q < H.size → H1[q]? = H[q]? := fun q hq => by rw [← hH1, Array.getElem?_push, if_neg (Nat.ne_of_lt hq)]
  have hAr : ArrOfT s cA (.object E) := fun N z => ⟨(fun k h => by cases h), kA, f2, comp, f3⟩
  exact kk H.size (gW_fresh hW) C' (gW_push hW ⟨hW.1, cA, e1, hAr, kA, comp, f2, f3, f4, f1⟩ z1 o1) (gS_push (gC_B C) hS z1 o1) hL
/-- System.arraycopy between two arrays of ints, or of chars -/
theorem g_copy {idx a0 a n0 n1 : Nat} {ty : FieldType} {f g : Nat → Int32} {sp dp n : Int32} (d : decode M.2.1 pc = .ok (.invokestatic idx, 3)) (hw1 : Cond.methodLink M.1.cls idx arraycopyName ∈ gAll) (hw2 : Cond.native arraycopyName ∈ gAll) (hw3 : Cond.static arraycopyName ∈ gAll) (hw4 : Cond.initialized "java/lang/System" ∈ gAll)
    (h0 : h a0 = some (.inl (false, ty, (n0, .inl f)))) (h1 : h a = some (.inl (false, ty, (n1, .inl g)))) (hprim : refKind ty = false) (s1 : ¬ sp < 0) (s2 : ¬ dp < 0) (s3 : ¬ n < 0) (s4 : sp.toNatClampNeg + n.toNatClampNeg ≤ n0) (s5 : dp.toNatClampNeg + n.toNatClampNeg ≤ n1) (hfit : ∀ i, i < n.toNatClampNeg → fits ty (.int (f (sp.toNatClampNeg + i))) = true)
    (hfr : 1 ≤ fr) (hlo : (st.map fun v => v.category).sum + (nativeFrameWords "java/lang/System" "arraycopy" 5 + 11) ≤ lo)
    (kk : gG fr lo kc ks M (pc + 3) lv st (gu h a (.inl (false, ty, (n1, .inl (va_cpy f g sp.toNatClampNeg dp.toNatClampNeg n.toNatClampNeg))))) Q) : gG fr lo kc ks M pc lv (.int n :: .int dp :: .ref a :: .int sp :: .ref a0 :: st) h Q := by
  intro l D B p e R s m args below meth c H locs cells slots mc ms ls C hW hS hL
  have nn : ∀ z : Int32, ¬ z < 0 → z.toInt = (z.toNatClampNeg : Int) := by
    intro z hz
    have hz0 : (0 : Int) ≤ z.toInt := by
      have := Int32.not_lt.mp hz
      simpa using Int32.le_iff_toInt_le.mp this
    show z.toInt = ((z.toInt.toNat : Nat) : Int)
    omega
  obtain ⟨-, c0, hc0, t0, -⟩ := hW.2 a0 _ h0
  obtain ⟨hB, c1, hc1, t1, t1'⟩ := hW.2 a _ h1
  have hts := gC_ts C
  have hfrR : fr ≤ R.frames := C.2.2.2.2.2.2.2.2.2.2.2.2.1
  have hloR : lo ≤ R.locals := C.2.2.2.2.2.2.2.2.2.2.2.2.2.1
  have hml : c.maxLocals = ls.size := C.2.2.2.1.trans hL.1.symm
  intro T hT X
  obtain ⟨-, k0, hk0, cm0, hkk0⟩ := t0 n0 (fun j => .int (f j))
  obtain ⟨-, k1, hk1, cm1, hkk1⟩ := id (t1 n1 (fun j => .int (g j)))
  obtain ⟨vm', X', step⟩ := X.arraycopy (gC_hx C) (gC_own C) (hts _ hw1) (hts _ hw2) (hts _ hw3) (hts _ hw4) (src := a0) (dst := a) (cs := vp_cell c0 (n0, .inl f)) (cd := vp_cell c1 (n1, .inl g)) (srcPos := sp) (destPos := dp) (n := n) (by rw [hT]; exact hc0) (by rw [hT]; exact hc1)
    (fun _ h => by cases h) (fun _ h => by cases h) (fun h => by cases h) (fun h => by cases h) hk0 hk1 hkk0 hkk1 (by simp [hprim]) s1 s2 s3
    (by rw [nn sp s1, nn n s3]; show ¬ _ > ((arrV c0 n0 (fun j => .int (f j))).slots.size : Int); rw [arrV_size]; omega)
    (by rw [nn dp s2, nn n s3]; show ¬ _ > ((arrV c1 n1 (fun j => .int (g j))).slots.size : Int); rw [arrV_size]; omega)
    (fun vm₁ _ i hi => by
      have e : (vp_cell c0 (n0, .inl f)).slots.getD (sp.toNatClampNeg + i) .null = .int (f (sp.toNatClampNeg + i)) := by
        show (arrV c0 n0 (fun j => .int (f j))).slots.getD _ _ = _
        rw [Array.getD_eq_getD_getElem?, arrV_read _ _ (by omega)]
        rfl
      refine ⟨?_, ?_⟩
      · rw [e]
        exact hfit i hi
      · rw [e]
        exact trivial)
    (g := F0 m pc ls (.int n :: .int dp :: .ref a :: .int sp :: .ref a0 :: st)) rfl (by rw [hml]) (rest := st) rfl (by rw [C.2.1]; exact d) (by omega) (by show 2 * 0 + _ + _ ≤ _; omega)
  have e1 : copied (vp_cell c0 (n0, .inl f)) (vp_cell c1 (n1, .inl g)) sp dp n = vp_cell c1 (n1, .inl (va_cpy f g sp.toNatClampNeg dp.toNatClampNeg n.toNatClampNeg)) := va_copied (fun z => .int z) c0 c1 f g s4
  rw [e1] at X' step
  have hl : a < H.size := (Array.getElem?_eq_some_iff.mp hc1).1
  have hheap : ((T.setVm vm').setCell a (vp_cell c1 (n1, .inl (va_cpy f g sp.toNatClampNeg dp.toNatClampNeg n.toNatClampNeg)))).heap = H.setIfInBounds a (vp_cell c1 (n1, .inl (va_cpy f g sp.toNatClampNeg dp.toNatClampNeg n.toNatClampNeg))) := by rw [← hT]; rfl
  have oq : ∀ q : Nat, q ≠ a → (H.setIfInBounds a (vp_cell c1 (n1, .inl (va_cpy f g sp.toNatClampNeg dp.toNatClampNeg n.toNatClampNeg))))[q]? = H[q]? := fun q hq => by simp [Array.getElem?_setIfInBounds, Ne.symm hq]
  have hz : (H.setIfInBounds a (vp_cell c1 (n1, .inl (va_cpy f g sp.toNatClampNeg dp.toNatClampNeg n.toNatClampNeg)))).size = H.size := by simp
  obtain ⟨t, a1, b1⟩ := kk C (gW_set hW ⟨hB, c1, (show (H.setIfInBounds a _)[a]? = some _ by simp [Array.getElem?_setIfInBounds, hl]), t1, t1'⟩ hz oq) ⟨by rw [hz]; exact hS.1, fun q g1 g2 => by
      rw [oq q (fun e => g2 (by rw [e]; exact hB))]
      exact hS.2.1 q g1 g2, fun q hq => by
      rcases List.mem_append.mp hq with h | h
      · exact hS.2.2 q h
      · obtain ⟨z, -, hz⟩ := List.mem_map.mp h
        rw [← hz]
        exact hB⟩ hL _ hheap X'
  exact ⟨t, step t a1, b1⟩
end GARR
end
section
/-! ===== rows of the abstract machine: returns, throws, calls ===== -/
section GEND
variable {fr lo kc ks pc : Nat} (M : Mi_) {lv : List (Nat × Value)} {st : List Value} {h : Hp_} {Q : Ot_ → Hp_ → Prop}
theorem gC_wid {l : Launch} {D : va_G} {B : Nat} {p : Program} {R : Room} {s : State} {m : MethodId} {args : Array Value} {meth : Method} {c : Code} {cells slots mc ms fr lo kc ks : Nat} {M : Mi_} (C : gC l D B p R s m args meth c cells slots mc ms fr lo kc ks M) : cells ≤ mc ∧ slots ≤ ms := by
  obtain ⟨c1, c2, c3, c4, c5, c6, c7, c8, c9, c10, c11, c12, c13, c14, c15, c16, c17, c18⟩ := C
  exact ⟨by omega, by omega⟩
theorem gQ_ret {D : va_G} {B : Nat} {s : State} {H : Heap} {locs : List Loc} {args : Array Value} {v : Option Value} (hq : Q (.inl v) h) (hW : gW D B s h H) (hS : va_S (fun q => B ≤ q) s.heap H locs) (t : State) (ht : t.heap = H) (hWm : s.WarmedH t.vm) : gQ Q D B args s (.returned v) t := by
  refine ⟨⟨v, h, rfl, hq, ?_⟩, hS.F ht⟩
  rw [ht]
  exact gW_at hWm.alike hW
theorem g_iret {x : Int32} {ty : FieldType} (d : decode M.2.1 pc = .ok (.ireturn, 1)) (hr : M.2.2.2.1 = some ty) (hn : narrow ty (.int x) = .int x) (hq : Q (.inl (some (.int x))) h) : gG fr lo kc ks M pc lv [.int x] h Q := by
  intro l D B p e R s m args below meth c H locs cells slots mc ms ls C hW hS hL
  refine W.widen (gC_wid C).1 (gC_wid C).2 (vx_ret ?_)
  exact W.zret (gC_hx C) C.2.1 (C.2.2.1.trans hr) hn (fun t ht hWm => gQ_ret hq hW hS t ht hWm) hS.2.2 d C.2.2.2.2.2.2.1
theorem g_vret (d : decode M.2.1 pc = .ok (.return_, 1)) (hr : M.2.2.2.1 = none) (hq : Q (.inl none) h) : gG fr lo kc ks M pc lv [] h Q := by
  intro l D B p e R s m args below meth c H locs cells slots mc ms ls C hW hS hL
  refine W.widen (gC_wid C).1 (gC_wid C).2 (vx_ret ?_)
  exact W.vret (gC_hx C) C.2.1 (C.2.2.1.trans hr) (fun t ht hWm => gQ_ret hq hW hS t ht hWm) hS.2.2 d C.2.2.2.2.2.2.1
/-- Object's constructor -/
theorem g_objInit {idx a : Nat} (d : decode M.2.1 pc = .ok (.invokespecial idx, 3)) (hw1 : Cond.methodLink M.1.cls idx Lib.objectInit ∈ gAll) (hw2 : Cond.instanceMethod Lib.objectInit ∈ gAll) (hw3 : Cond.code Lib.objectInit ⟨#[0xb1]⟩ 1 none ∈ gAll) (hfr : 1 ≤ fr) (hlo : (st.map fun v => v.category).sum + 12 ≤ lo) (k : gG fr lo kc ks M (pc + 3) lv st h Q) : gG fr lo kc ks M pc lv (.ref a :: st) h Q := by
  intro l D B p e R s m args below meth c H locs cells slots mc ms ls C hW hS hL
  have hts := gC_ts C
  have hfrR : fr ≤ R.frames := C.2.2.2.2.2.2.2.2.2.2.2.2.1
  have hloR : lo ≤ R.locals := C.2.2.2.2.2.2.2.2.2.2.2.2.2.1
  exact W.objInit (gC_hx C) C.2.1 (gC_own C) (hts _ hw1) (hts _ hw2) (hts _ hw3) rfl (by show ls.size = _; rw [hL.1, C.2.2.2.1]) rfl d (by omega) (by show 2 * 0 + _ + 12 ≤ _; omega) (k C hW hS hL)
theorem g_max {idx : Nat} {x y : Int32} (d : decode M.2.1 pc = .ok (.invokestatic idx, 3)) (hw1 : Cond.methodLink M.1.cls idx Lib.Math.max.name ∈ gAll) (hw2 : Cond.static Lib.Math.max.name ∈ gAll) (hw3 : Cond.initialized "java/lang/Math" ∈ gAll) (hw4 : Cond.code Lib.Math.max.name Lib.Math.max.code 2 (some .int) ∈ gAll) (hfr : 1 ≤ fr) (hlo : (st.map fun v => v.category).sum + 13 ≤ lo) (k : gG fr lo kc ks M (pc + 3) lv (.int (if x < y then y else x) :: st) h Q) : gG fr lo kc ks M pc lv (.int y :: .int x :: st) h Q := by
  intro l D B p e R s m args below meth c H locs cells slots mc ms ls C hW hS hL
  have hts := gC_ts C
  have hfrR : fr ≤ R.frames := C.2.2.2.2.2.2.2.2.2.2.2.2.1
  have hloR : lo ≤ R.locals := C.2.2.2.2.2.2.2.2.2.2.2.2.2.1
  have h17 : mc ≤ R.cells := C.2.2.2.2.2.2.2.2.2.2.2.2.2.2.2.2.1
  have h18 : ms ≤ R.slots := C.2.2.2.2.2.2.2.2.2.2.2.2.2.2.2.2.2
  exact va_mmax (gC_hx C) C.2.1 (C.2.2.2.1.trans hL.1.symm) (gC_own C) (hts _ hw1) (hts _ hw2) (hts _ hw3) (hts _ hw4) (by omega) (by omega) (Nat.le_trans (gC_wid C).1 h17) (Nat.le_trans (gC_wid C).2 h18) d (k C hW hS hL)
theorem g_min {idx : Nat} {x y : Int32} (d : decode M.2.1 pc = .ok (.invokestatic idx, 3)) (hw1 : Cond.methodLink M.1.cls idx Lib.Math.min.name ∈ gAll) (hw2 : Cond.static Lib.Math.min.name ∈ gAll) (hw3 : Cond.initialized "java/lang/Math" ∈ gAll) (hw4 : Cond.code Lib.Math.min.name Lib.Math.min.code 2 (some .int) ∈ gAll) (hfr : 1 ≤ fr) (hlo : (st.map fun v => v.category).sum + 13 ≤ lo) (k : gG fr lo kc ks M (pc + 3) lv (.int (if y < x then y else x) :: st) h Q) : gG fr lo kc ks M pc lv (.int y :: .int x :: st) h Q := by
  intro l D B p e R s m args below meth c H locs cells slots mc ms ls C hW hS hL
  have hts := gC_ts C
  have hfrR : fr ≤ R.frames := C.2.2.2.2.2.2.2.2.2.2.2.2.1
  have hloR : lo ≤ R.locals := C.2.2.2.2.2.2.2.2.2.2.2.2.2.1
  have h17 : mc ≤ R.cells := C.2.2.2.2.2.2.2.2.2.2.2.2.2.2.2.2.1
  have h18 : ms ≤ R.slots := C.2.2.2.2.2.2.2.2.2.2.2.2.2.2.2.2.2
  exact va_mmin (gC_hx C) C.2.1 (C.2.2.2.1.trans hL.1.symm) (gC_own C) (hts _ hw1) (hts _ hw2) (hts _ hw3) (hts _ hw4) (by omega) (by omega) (Nat.le_trans (gC_wid C).1 h17) (Nat.le_trans (gC_wid C).2 h18) d (k C hW hS hL)
/-- 'throw new E("text")' in a method without handlers -/
def gTh (own : String) (ik is ic : Nat) (cls text : String) : Prop := Bundle.fit cls = true ∧ Cond.classLink own ik cls ∈ gAll ∧ Cond.initialized cls ∈ gAll ∧ (own, is, text) ∈ gStr ∧ (∀ w ∈ vx_atS own ic cls ["java/lang/RuntimeException", "java/lang/Exception"], w ∈ gAll ∨ w ∈ gOth) ∧ ∀ w ∈ Cond.classLink own ik cls :: Cond.initialized cls :: vx_atS own ic cls ["java/lang/RuntimeException", "java/lang/Exception"], vx_ot w = true
theorem gX_throw {D : va_G} {B : Nat} {s : State} {H : Heap} {locs : List Loc} {E : String} (hq : Q (.inr E) h) (hW : gW D B s h H) (hS : va_S (fun q => B ≤ q) s.heap H locs) (t : State) (hal : s.vm.Alike t.vm) (hz : H.size ≤ t.heap.size) (hk : ∀ q : Nat, q < H.size → t.heap[q]? = H[q]?) : gX Q D B E s t := by
  refine ⟨⟨h, hq, gW_at hal ⟨Nat.le_trans hW.1 hz, fun q e' hx => gEn_kept (hW.2 q e' hx) (hk q (gEn_lt (hW.2 q e' hx)))⟩⟩, Nat.le_trans hS.1 hz, fun q h1 h2 => (hk q (Nat.lt_of_lt_of_le h1 hS.1)).trans (hS.2.1 q h1 h2)⟩
theorem g_throw {ik is ic : Nat} {cls text : String} (f : gTh M.1.cls ik is ic cls text) (hh : M.2.2.2.2 = [])
    (d0 : decode M.2.1 pc = .ok (.new ik, 3)) (d3 : decode M.2.1 (pc + 3) = .ok (.dup, 1)) (d4 : decode M.2.1 (pc + 4) = .ok (.ldc is, 2)) (d6 : decode M.2.1 (pc + 6) = .ok (.invokespecial ic, 3)) (d9 : decode M.2.1 (pc + 9) = .ok (.athrow, 1))
    (hfr : 6 ≤ fr) (hlo : (st.map fun v => v.category).sum + 82 ≤ lo) (hkc : 1 ≤ kc) (hks : 6 ≤ ks) (hq : Q (.inr cls) h) : gG fr lo kc ks M pc lv st h Q := by
  intro l D B p e R s m args below meth c H locs cells slots mc ms ls C hW hS hL
  have hts := gC_ts C
  have hE := gC_E C
  obtain ⟨f1, f2, f3, f4, f5, f6⟩ := f
  obtain ⟨sa, hstr⟩ := hE.2.2.2.1 _ f4
  obtain ⟨c1, c2, c3, c4, c5, c6, c7, c8, c9, c10, c11, c12, c13, c14, c15, c16, c17, c18⟩ := C
  refine vx_throwS (names := ["java/lang/RuntimeException", "java/lang/Exception"]) (A := fun q => B ≤ q) c1 c2 c10 c5 f1 (by decide +kernel) (hts _ f2) (hts _ f3) hstr (fun w hw => ?_) f6 hE.2.1 hE.2.2.1 hS (hL.1.trans c4.symm) d0 d3 d4 d6 d9 ?_ (by show 2 + 3 < _; omega) (by show _ + (13 * (2 + 1) + 43) ≤ _; omega) (by omega) (by omega) c7 (fun t hal hz hk => gX_throw hq hW hS t hal hz hk) hS.2.2 (by omega) (by omega)
  · rcases f5 w hw with hg | hg
    · exact hts _ hg
    · exact gOth_use (List.mem_filter.mp hg).2 (hE.2.2.2.2.1 w hg)
  · intro x hx
    rw [c9, hh] at hx
    cases hx
theorem g_throwW {ik is ic : Nat} {cls text : String} (f : gTh M.1.cls ik is ic cls text) (hh : M.2.2.2.2 = [])
    (d0 : decode M.2.1 pc = .ok (.new ik, 3)) (d3 : decode M.2.1 (pc + 3) = .ok (.dup, 1)) (d4 : decode M.2.1 (pc + 4) = .ok (.ldc_w is, 3)) (d7 : decode M.2.1 (pc + 7) = .ok (.invokespecial ic, 3)) (d10 : decode M.2.1 (pc + 10) = .ok (.athrow, 1))
    (hfr : 6 ≤ fr) (hlo : (st.map fun v => v.category).sum + 82 ≤ lo) (hkc : 1 ≤ kc) (hks : 6 ≤ ks) (hq : Q (.inr cls) h) : gG fr lo kc ks M pc lv st h Q := by
  intro l D B p e R s m args below meth c H locs cells slots mc ms ls C hW hS hL
  have hts := gC_ts C
  have hE := gC_E C
  obtain ⟨f1, f2, f3, f4, f5, f6⟩ := f
  obtain ⟨sa, hstr⟩ := hE.2.2.2.1 _ f4
  obtain ⟨c1, c2, c3, c4, c5, c6, c7, c8, c9, c10, c11, c12, c13, c14, c15, c16, c17, c18⟩ := C
  refine vx_throwSW (names := ["java/lang/RuntimeException", "java/lang/Exception"]) (A := fun q => B ≤ q) c1 c2 c10 c5 f1 (by decide +kernel) (hts _ f2) (hts _ f3) hstr (fun w hw => ?_) f6 hE.2.1 hE.2.2.1 hS (hL.1.trans c4.symm) d0 d3 d4 d7 d10 ?_ (by show 2 + 3 < _; omega) (by show _ + (13 * (2 + 1) + 43) ≤ _; omega) (by omega) (by omega) c7 (fun t hal hz hk => gX_throw hq hW hS t hal hz hk) hS.2.2 (by omega) (by omega)
  · rcases f5 w hw with hg | hg
    · exact hts _ hg
    · exact gOth_use (List.mem_filter.mp hg).2 (hE.2.2.2.2.1 w hg)
  · intro x hx
    rw [c9, hh] at hx
    cases hx
/-- not caught here -/
theorem gx_out {E : String} (hh : M.2.2.2.2 = []) (hq : Q (.inr E) h) : gGX fr lo kc ks M pc lv E h Q := by
  intro l D B p e R s m args below meth c H locs cells slots mc ms ls rest q ce C hW hS hL hce hcv hcl
  have hwid := gC_wid C
  obtain ⟨c1, c2, c3, c4, c5, c6, c7, c8, c9, c10, c11, c12, c13, c14, c15, c16, c17, c18⟩ := C
  refine vx_out (E := E) (fun x hx => ?_) c7 hce hcv hcl (fun t ht hal => ?_) hS.2.2 hwid.1 hwid.2
  · rw [c9, hh] at hx
    cases hx
  · exact gX_throw hq hW hS t hal (by rw [ht]; exact Nat.le_refl _) (fun q _ => by rw [ht])
/-- caught: the handlers ahead are passed -/
theorem gx_catch {E : String} (pre : List (Nat × Nat × Nat × Nat)) (x : Nat × Nat × Nat × Nat) (suf : List (Nat × Nat × Nat × Nat)) (hh : M.2.2.2.2 = pre ++ x :: suf) (hpre : ∀ z ∈ pre, z.2.2.2 ≠ 0 ∧ ∃ nm, Cond.classLink M.1.cls z.2.2.2 nm ∈ gAll ∧ (E, nm) ∈ gNc) (h0 : x.2.2.2 ≠ 0) (hcov : covers ⟨x.1, x.2.1, x.2.2.1, x.2.2.2⟩ pc = true) (hl : Cond.classLink M.1.cls x.2.2.2 E ∈ gAll) (hc : Cond.castable E E ∈ gOth)
    (kk : ∀ q : Nat, gG fr lo kc ks M x.2.2.1 lv [.ref q] h Q) : gGX fr lo kc ks M pc lv E h Q := by
  intro l D B p e R s m args below meth c H locs cells slots mc ms ls rest q ce C hW hS hL hce hcv hcl
  have htb : c.exceptionTable.toList = tableOf M.2.2.2.2 := C.2.2.2.2.2.2.2.2.1
  refine vx_catch (own := M.1.cls) (name := E) (E := E) (gC_own C) (tableOf pre) ⟨x.1, x.2.1, x.2.2.1, x.2.2.2⟩ (tableOf suf) (by rw [htb, hh]; simp [tableOf]) (fun z hz => ?_) hcov h0 (gC_ts C _ hl) (gC_oth C hc) hce hcv hcl (kk q C hW hS hL)
  obtain ⟨z0, hz0, rfl⟩ := List.mem_map.mp hz
  obtain ⟨g1, nm, g2, g3⟩ := hpre z0 hz0
  exact Or.inr ⟨g1, nm, gC_ts C _ g2, (gC_E C).2.2.2.2.2 _ g3⟩
end GEND
/-! calls -/
/-- what the tables say of a callee -/
def gCl0 (M2 : Mi_) (n : Nat) : Prop := Cond.initialized M2.1.cls ∈ gAll ∧ gHead M2 ∈ gAll ∧ (M2.1.cls ≠ "java/lang/invoke/MethodHandle" ∧ M2.1.cls ≠ "java/lang/invoke/VarHandle" ∧ (parseMethodDescriptor M2.1.desc).map (fun d => d.parameters.length) = some n) ∧ plainName M2.1.cls = true
def gCV (own : String) (idx : Nat) (M2 : Mi_) (n ci : Nat) : Prop := gCl0 M2 n ∧ M2.2.2.2.2 = [] ∧ Cond.methodLink own idx M2.1 ∈ gAll ∧ Cond.instanceMethod M2.1 ∈ gAll ∧ Cond.selects M2.1.cls M2.1 M2.1 ∈ gAll ∧ ∃ r : vw_C, gCl[ci]? = some r ∧ r.1 = M2.1.cls
def gCS (own : String) (idx : Nat) (M2 : Mi_) (n : Nat) : Prop := gCl0 M2 n ∧ Cond.methodLink own idx M2.1 ∈ gAll ∧ Cond.static M2.1 ∈ gAll
def gCN (own : String) (idx : Nat) (M2 : Mi_) (n : Nat) : Prop := gCl0 M2 n ∧ M2.2.2.2.2 = [] ∧ (∃ host, Cond.methodLinkNest own idx M2.1 host ∈ gOth) ∧ Cond.static M2.1 ∈ gAll
def gCI (own : String) (idx : Nat) (M2 : Mi_) (n : Nat) : Prop := gCl0 M2 n ∧ M2.2.2.2.2 = [] ∧ M2.2.2.2.1 = none ∧ (Cond.methodLink own idx M2.1 ∈ gAll ∨ ∃ host, Cond.methodLinkNest own idx M2.1 host ∈ gOth) ∧ M2.1.name = "<init>" ∧ Cond.instanceMethod M2.1 ∈ gAll
section GCALL
variable {fr lo kc ks pc : Nat} (M : Mi_) {lv : List (Nat × Value)} {st : List Value} {h : Hp_} {Q : Ot_ → Hp_ → Prop}
variable {M2 : Mi_} {n ci b idx fr' lo' kc' ks' kc'' ks'' : Nat} {fs : List Value} {As rest : List Value} {Q2 : Ot_ → Hp_ → Prop}
theorem gC_left {l : Launch} {D : va_G} {B : Nat} {p : Program} {R : Room} {s : State} {m : MethodId} {args : Array Value} {meth : Method} {c : Code} {cells slots mc ms fr lo kc ks : Nat} {M : Mi_} (C : gC l D B p R s m args meth c cells slots mc ms fr lo kc ks M) (hkc : kc' + kc'' ≤ kc) (hks : ks' + ks'' ≤ ks) : gC l D B p R s m args meth c (cells + kc') (slots + ks') mc ms fr lo kc'' ks'' M ∧ cells + kc' ≤ R.cells ∧ slots + ks' ≤ R.slots := by
  obtain ⟨c1, c2, c3, c4, c5, c6, c7, c8, c9, c10, c11, c12, c13, c14, c15, c16, c17, c18⟩ := C
  exact ⟨⟨c1, c2, c3, c4, c5, c6, c7, c8, c9, c10, c11, c12, c13, c14, by omega, by omega, c17, c18⟩, by omega, by omega⟩
/-- behind a call: it returned, or it threw -/
theorem g_after {l : Launch} {D : va_G} {B : Nat} {p : Program} {e : Env} {R : Room} {s : State} {m : MethodId} {args : Array Value} {below : List Frame} {meth : Method} {c : Code} {H : Heap} {locs : List Loc} {cells slots mc ms : Nat} {ls : Array Slot} {av : Array Value}
    (C : gC l D B p R s m args meth c cells slots mc ms fr lo kc ks M) (hkc : kc' + kc'' ≤ kc) (hks : ks' + ks'' ≤ ks) (hS : va_S (fun q => B ≤ q) s.heap H locs) (hL : gL ls M.2.2.1 lv)
    (hr : vx_Run p l e R s m args below meth c H locs cells slots kc' ks' (F0 m pc ls st) rest (gQ Q2 D B av) (gX Q2 D B) (fun q => B ≤ q))
    (kx : ∀ E h', Q2 (.inr E) h' → gGX fr lo kc'' ks'' M pc lv E h' Q) (kk : ∀ v h', Q2 (.inl v) h' → gG fr lo kc'' ks'' M (pc + 3) lv (v.toList ++ rest) h' Q) :
    W p l e R s m args below meth c H locs cells slots (vx_MQ below (gQ Q D B) (gX Q D B) args s mc ms (fun q => B ≤ q)) (F0 m pc ls st) := by
  obtain ⟨C', -, -⟩ := gC_left C hkc hks
  intro T hT X
  rcases hr T hT X with ⟨v, st₀, t, T', L, h0, X', hLf, e1, e2, ⟨⟨v', h', hv, hq, hw⟩, hF⟩, stp⟩ | ⟨q, st₀, t, T', L, E, ce, h0, X', hLf, e1, e2, ⟨⟨h', hq, hw⟩, hF⟩, hce, hcv, hcl, stp⟩
  · cases hv
    obtain ⟨k1, k2, k3⟩ := vx_keep h0 e1 hS (fun q _ h => h) (fun q h => h) hLf hF
    have hal : s.vm.Alike t.vm := by rw [← e2]; exact X'.warmed.alike
    obtain ⟨t2, a1, b1⟩ := kk v h' hq C' (by rw [e1]; exact gW_at hal.symm hw) k3 hL T' rfl X'
    exact ⟨t2, stp t2 a1, b1⟩
  · obtain ⟨k1, k2, k3⟩ := vx_keep h0 e1 hS (fun q _ h => h) (fun q h => h) hLf hF
    have hal : s.vm.Alike t.vm := by rw [← e2]; exact X'.warmed.alike
    obtain ⟨t2, a1, b1⟩ := kx E h' hq C' (by rw [e1]; exact gW_at hal.symm hw) k3 hL (by rw [e1]; exact hce) hcv hcl T' rfl X'
    exact ⟨t2, stp.trans a1, b1⟩
theorem gAll_in {w0 : Cond} (hw0 : w0 ∈ gAll) : GoodIn gAll (w0 :: gAll) := by
  intro w hw
  rcases List.mem_cons.mp hw with rfl | hw
  · exact ⟨hw0, good_of_word (gAll_good hw0)⟩
  · exact ⟨hw, good_of_word (gAll_good hw)⟩
theorem g_callV (d : decode M.2.1 pc = .ok (.invokevirtual idx, 3)) (cw : gCV M.1.cls idx M2 n ci) (hst : st = As.reverse ++ .ref b :: rest) (hn : As.length = n) (hb : h b = some (.inr (ci, fs))) (hcat : (rest.map fun v => v.category).sum ≤ 8) (hsz : (lg_sl (.ref b :: As)).length ≤ M2.2.2.1) (hfr : fr' + 1 ≤ fr) (hlo : 8 + (M2.2.2.1 + 11) + lo' ≤ lo) (hkc : kc' + kc'' ≤ kc) (hks : ks' + ks'' ≤ ks)
    (body : gG fr' lo' kc' ks' M2 0 (lv_args 0 (.ref b :: As)) [] h Q2) (kx : ∀ E h', Q2 (.inr E) h' → gGX fr lo kc'' ks'' M pc lv E h' Q) (kk : ∀ v h', Q2 (.inl v) h' → gG fr lo kc'' ks'' M (pc + 3) lv (v.toList ++ rest) h' Q) : gG fr lo kc ks M pc lv st h Q := by
  intro l D B p e R s m args below meth c H locs cells slots mc ms ls C hW hS hL
  obtain ⟨⟨w1, w2, w3, w4⟩, hh, w5, w6, w7, r, w8, w9⟩ := cw
  obtain ⟨-, b1, b2⟩ := gC_left C hkc hks
  have hts := gC_ts C
  have hE := gC_E C
  have hfrR : fr ≤ R.frames := C.2.2.2.2.2.2.2.2.2.2.2.2.1
  have hloR : lo ≤ R.locals := C.2.2.2.2.2.2.2.2.2.2.2.2.2.1
  have hM := gMt_of (fr := fr') (lo := lo') (kc := kc') (ks := ks') (av := .ref b :: As) w4 hsz body C.2.2.2.2.2.2.2.2.2.1 D B
  obtain ⟨y, bt, mL, rt, hhs⟩ := M2
  cases hh
  obtain ⟨-, r', hr', hlen, cell, q1, q2, q3, -⟩ := hW.2 b _ hb
  cases w8.symm.trans hr'
  have hcl : s.vm.findClass y.cls = some cell.cls := by rw [q2, ← (show r.1 = y.cls from w9)]; exact (hE.1.1 ci r w8).2.1
  have hG : GoodIn gAll (wsV M.1.cls idx y.cls y (gHead (y, bt, mL, rt, []) :: gAll)) := by
    intro w hw
    unfold wsV at hw
    rcases List.mem_append.mp hw with hw | hw
    · simp only [List.mem_cons, List.not_mem_nil, or_false] at hw
      rcases hw with rfl | rfl | rfl | rfl
      · exact ⟨w5, good_of_word (gAll_good w5)⟩
      · exact ⟨w6, good_of_word (gAll_good w6)⟩
      · exact ⟨w7, good_of_word (gAll_good w7)⟩
      · exact ⟨w1, good_of_word (gAll_good w1)⟩
    · exact gAll_in w2 w hw
  refine g_after M (rest := rest) C hkc hks hS hL (vx_runV (As := As) (C := y.cls) ⟨gC_hx C, C.2.1, C.2.2.2.1, gC_own C, hts⟩ hM (cwV n hts hG rfl rfl rfl ⟨rfl, w3⟩ ⟨by show fr' + 1 ≤ _; omega, by show 8 + (mL + 11) + lo' ≤ _; have hlo2 : 8 + (mL + 11) + lo' ≤ lo := hlo; omega⟩) ⟨gP_blind, ⟨cell, q1, by rw [q3]; rfl, hcl⟩, fun U hU hWm => gP_call hE hW hS U hU hWm⟩ rfl hn hL.1 hst (lv_room hcat) (by rw [← C.2.1]; rw [C.2.1]; exact d) ⟨b1, b2⟩) kx kk
theorem g_callS (d : decode M.2.1 pc = .ok (.invokestatic idx, 3)) (cw : gCS M.1.cls idx M2 n) (hh : M2.2.2.2.2 = []) (hst : st = As.reverse ++ rest) (hn : As.length = n) (hcat : (rest.map fun v => v.category).sum ≤ 8) (hsz : (lg_sl As).length ≤ M2.2.2.1) (hfr : fr' + 1 ≤ fr) (hlo : 8 + (M2.2.2.1 + 11) + lo' ≤ lo) (hkc : kc' + kc'' ≤ kc) (hks : ks' + ks'' ≤ ks)
    (body : gG fr' lo' kc' ks' M2 0 (lv_args 0 As) [] h Q2) (kx : ∀ E h', Q2 (.inr E) h' → gGX fr lo kc'' ks'' M pc lv E h' Q) (kk : ∀ v h', Q2 (.inl v) h' → gG fr lo kc'' ks'' M (pc + 3) lv (v.toList ++ rest) h' Q) : gG fr lo kc ks M pc lv st h Q := by
  intro l D B p e R s m args below meth c H locs cells slots mc ms ls C hW hS hL
  obtain ⟨⟨w1, w2, w3, w4⟩, w5, w6⟩ := cw
  obtain ⟨-, b1, b2⟩ := gC_left C hkc hks
  have hts := gC_ts C
  have hE := gC_E C
  have hfrR : fr ≤ R.frames := C.2.2.2.2.2.2.2.2.2.2.2.2.1
  have hloR : lo ≤ R.locals := C.2.2.2.2.2.2.2.2.2.2.2.2.2.1
  have hM := gMt_of (fr := fr') (lo := lo') (kc := kc') (ks := ks') (av := As) w4 hsz body C.2.2.2.2.2.2.2.2.2.1 D B
  obtain ⟨y, bt, mL, rt, hhs⟩ := M2
  cases hh
  have hR9 : (gRm fr' lo' kc' ks').frames + 1 ≤ R.frames ∧ 8 + (mL + 11) + (gRm fr' lo' kc' ks').locals ≤ R.locals := ⟨by show fr' + 1 ≤ _; omega, by show 8 + (mL + 11) + lo' ≤ _; have hlo2 : 8 + (mL + 11) + lo' ≤ lo := hlo; omega⟩
  exact g_after M (rest := rest) C hkc hks hS hL (vx_runS (As := As) ⟨gC_hx C, C.2.1, C.2.2.2.1, gC_own C, hts⟩ hM ⟨callB_of n hts (gAll_in w2) rfl rfl rfl (hts _ w1) (hts _ w5) w3 hR9, hts _ w6⟩ ⟨gP_blind, fun U hU hWm => gP_call hE hW hS U hU hWm⟩ rfl hn hL.1 hst (lv_room hcat) d ⟨b1, b2⟩) kx kk
/-- a static method with handlers -/
theorem g_callSH (d : decode M.2.1 pc = .ok (.invokestatic idx, 3)) (cw : gCS M.1.cls idx M2 n) (hh : M2.2.2.2.2 ≠ []) (hst : st = As.reverse ++ rest) (hn : As.length = n) (hcat : (rest.map fun v => v.category).sum ≤ 8) (hsz : (lg_sl As).length ≤ M2.2.2.1) (hfr : fr' + 1 ≤ fr) (hlo : 8 + (M2.2.2.1 + 11) + lo' ≤ lo) (hkc : kc' + kc'' ≤ kc) (hks : ks' + ks'' ≤ ks)
    (body : gG fr' lo' kc' ks' M2 0 (lv_args 0 As) [] h Q2) (kx : ∀ E h', Q2 (.inr E) h' → gGX fr lo kc'' ks'' M pc lv E h' Q) (kk : ∀ v h', Q2 (.inl v) h' → gG fr lo kc'' ks'' M (pc + 3) lv (v.toList ++ rest) h' Q) : gG fr lo kc ks M pc lv st h Q := by
  intro l D B p e R s m args below meth c H locs cells slots mc ms ls C hW hS hL
  obtain ⟨⟨w1, w2, w3, w4⟩, w5, w6⟩ := cw
  obtain ⟨-, b1, b2⟩ := gC_left C hkc hks
  have hts := gC_ts C
  have hE := gC_E C
  have hfrR : fr ≤ R.frames := C.2.2.2.2.2.2.2.2.2.2.2.2.1
  have hloR : lo ≤ R.locals := C.2.2.2.2.2.2.2.2.2.2.2.2.2.1
  have hM := gMt_of (fr := fr') (lo := lo') (kc := kc') (ks := ks') (av := As) w4 hsz body C.2.2.2.2.2.2.2.2.2.1 D B
  obtain ⟨y, bt, mL, rt, hhs⟩ := M2
  cases hhs with
  | nil => exact absurd rfl hh
  | cons z zs =>
    have hG := gAll_in w2
    exact g_after M (rest := rest) C hkc hks hS hL (vx_runSX (As := As) (hh := z :: zs) (bytes := bt) (maxL := mL) (ret := rt) ⟨gC_hx C, C.2.1, C.2.2.2.1, gC_own C, hts⟩ hM ⟨⟨rfl, rfl, by show fr' + 1 ≤ _; omega, by show 8 + (mL + 11) + lo' ≤ _; have hlo2 : 8 + (mL + 11) + lo' ≤ lo := hlo; omega, pay_in hts hG, List.mem_cons_self⟩, hts _ w2, hts _ w1, ⟨w3.1, w3.2.1⟩, fun sig hs => by
      have h2 := w3.2.2
      rw [show parseMethodDescriptor y.desc = some sig from hs] at h2
      exact (Option.some.inj h2).symm, hts _ w5, hts _ w6⟩ ⟨gP_blind, fun U hU hWm => gP_call hE hW hS U hU hWm⟩ rfl hn hL.1 hst (lv_room hcat) d ⟨b1, b2⟩) kx kk
/-- a private static method of a nest mate -/
theorem g_callN (d : decode M.2.1 pc = .ok (.invokestatic idx, 3)) (cw : gCN M.1.cls idx M2 n) (hst : st = As.reverse ++ rest) (hn : As.length = n) (hcat : (rest.map fun v => v.category).sum ≤ 8) (hsz : (lg_sl As).length ≤ M2.2.2.1) (hfr : fr' + 1 ≤ fr) (hlo : 8 + (M2.2.2.1 + 11) + lo' ≤ lo) (hkc : kc' + kc'' ≤ kc) (hks : ks' + ks'' ≤ ks)
    (body : gG fr' lo' kc' ks' M2 0 (lv_args 0 As) [] h Q2) (kx : ∀ E h', Q2 (.inr E) h' → gGX fr lo kc'' ks'' M pc lv E h' Q) (kk : ∀ v h', Q2 (.inl v) h' → gG fr lo kc'' ks'' M (pc + 3) lv (v.toList ++ rest) h' Q) : gG fr lo kc ks M pc lv st h Q := by
  intro l D B p e R s m args below meth c H locs cells slots mc ms ls C hW hS hL
  obtain ⟨⟨w1, w2, w3, w4⟩, hh, ⟨host, w5⟩, w6⟩ := cw
  obtain ⟨-, b1, b2⟩ := gC_left C hkc hks
  have hts := gC_ts C
  have hE := gC_E C
  have hfrR : fr ≤ R.frames := C.2.2.2.2.2.2.2.2.2.2.2.2.1
  have hloR : lo ≤ R.locals := C.2.2.2.2.2.2.2.2.2.2.2.2.2.1
  have hM := gMt_of (fr := fr') (lo := lo') (kc := kc') (ks := ks') (av := As) w4 hsz body C.2.2.2.2.2.2.2.2.2.1 D B
  obtain ⟨y, bt, mL, rt, hhs⟩ := M2
  cases hh
  have hR9 : (gRm fr' lo' kc' ks').frames + 1 ≤ R.frames ∧ 8 + (mL + 11) + (gRm fr' lo' kc' ks').locals ≤ R.locals := ⟨by show fr' + 1 ≤ _; omega, by show 8 + (mL + 11) + lo' ≤ _; have hlo2 : 8 + (mL + 11) + lo' ≤ lo := hlo; omega⟩
  exact g_after M (rest := rest) C hkc hks hS hL (vx_runSN (As := As) ⟨gC_hx C, C.2.1, C.2.2.2.1, gC_own C, hts⟩ hM ⟨va_cnB n hts (gAll_in w2) rfl rfl rfl (hE.2.2.2.2.1 _ w5) (hts _ w1) w3 hR9, hts _ w6, trivial⟩ ⟨gP_blind, fun U hU hWm => gP_call hE hW hS U hU hWm⟩ rfl hn hL.1 hst (lv_room hcat) d ⟨b1, b2⟩) kx kk
/-- a constructor -/
theorem g_callI (d : decode M.2.1 pc = .ok (.invokespecial idx, 3)) (cw : gCI M.1.cls idx M2 n) (hst : st = As.reverse ++ .ref b :: rest) (hn : As.length = n) (hcat : (rest.map fun v => v.category).sum ≤ 8) (hsz : (lg_sl (.ref b :: As)).length ≤ M2.2.2.1) (hfr : fr' + 1 ≤ fr) (hlo : 8 + (M2.2.2.1 + 11) + lo' ≤ lo) (hkc : kc' + kc'' ≤ kc) (hks : ks' + ks'' ≤ ks)
    (body : gG fr' lo' kc' ks' M2 0 (lv_args 0 (.ref b :: As)) [] h Q2) (kx : ∀ E h', Q2 (.inr E) h' → gGX fr lo kc'' ks'' M pc lv E h' Q) (kk : ∀ v h', Q2 (.inl v) h' → gG fr lo kc'' ks'' M (pc + 3) lv (v.toList ++ rest) h' Q) : gG fr lo kc ks M pc lv st h Q := by
  intro l D B p e R s m args below meth c H locs cells slots mc ms ls C hW hS hL
  obtain ⟨⟨w1, w2, w3, w4⟩, hh, hrt, w5, w6, w7⟩ := cw
  obtain ⟨-, b1, b2⟩ := gC_left C hkc hks
  have hts := gC_ts C
  have hE := gC_E C
  have hfrR : fr ≤ R.frames := C.2.2.2.2.2.2.2.2.2.2.2.2.1
  have hloR : lo ≤ R.locals := C.2.2.2.2.2.2.2.2.2.2.2.2.2.1
  have hM := gMt_of (fr := fr') (lo := lo') (kc := kc') (ks := ks') (av := .ref b :: As) w4 hsz body C.2.2.2.2.2.2.2.2.2.1 D B
  obtain ⟨y, bt, mL, rt, hhs⟩ := M2
  cases hh
  cases hrt
  have hR9 : (gRm fr' lo' kc' ks').frames + 1 ≤ R.frames ∧ 8 + (mL + 11) + (gRm fr' lo' kc' ks').locals ≤ R.locals := ⟨by show fr' + 1 ≤ _; omega, by show 8 + (mL + 11) + lo' ≤ _; have hlo2 : 8 + (mL + 11) + lo' ≤ lo := hlo; omega⟩
  rcases w5 with w5 | ⟨host, w5⟩
  · exact g_after M (rest := rest) C hkc hks hS hL (vx_runI (As := As) ⟨gC_hx C, C.2.1, C.2.2.2.1, gC_own C, hts⟩ hM (cwI n hts (gAll_in w2) rfl rfl rfl (hts _ w1) (hts _ w5) (hts _ w7) w6 w3 hR9) ⟨gP_blind, fun U hU hWm => gP_call hE hW hS U hU hWm⟩ rfl hn hL.1 hst (lv_room hcat) d ⟨b1, b2⟩) kx kk
  · exact g_after M (rest := rest) C hkc hks hS hL (vx_runIN (As := As) ⟨gC_hx C, C.2.1, C.2.2.2.1, gC_own C, hts⟩ hM ⟨va_cnB n hts (gAll_in w2) rfl rfl rfl (hE.2.2.2.2.1 _ w5) (hts _ w1) w3 hR9, w6, hts _ w7⟩ ⟨gP_blind, fun U hU hWm => gP_call hE hW hS U hU hWm⟩ rfl hn hL.1 hst (lv_room hcat) d ⟨b1, b2⟩) kx kk
end GCALL
/-- what a call leaves to be shown -/
def gAft (fr lo kc ks : Nat) (M : Mi_) (pc : Nat) (lv : List (Nat × Value)) (rest : List Value) (Q : Ot_ → Hp_ → Prop) : Ot_ → Hp_ → Prop := fun o h' => match o with
  | .inl none => gG fr lo kc ks M (pc + 3) lv rest h' Q
  | .inl (some v) => gG fr lo kc ks M (pc + 3) lv (v :: rest) h' Q
  | .inr E => gGX fr lo kc ks M pc lv E h' Q
section TCALL
variable {fr lo kc ks pc : Nat} (M : Mi_) {lv : List (Nat × Value)} {st : List Value} {h : Hp_} {Q : Ot_ → Hp_ → Prop}
variable {M2 : Mi_} {n ci b idx fr' lo' kc' ks' : Nat} (kc'' ks'' : Nat) {fs : List Value} (As rest : List Value)
theorem gAft_v {fr lo kc ks : Nat} {M : Mi_} {pc : Nat} {lv : List (Nat × Value)} {rest : List Value} {Q : Ot_ → Hp_ → Prop} : ∀ (v : Option Value) (h' : Hp_), gAft fr lo kc ks M pc lv rest Q (.inl v) h' → gG fr lo kc ks M (pc + 3) lv (v.toList ++ rest) h' Q := by
  intro v h' k
  cases v <;> exact k
theorem gc_V (d : decode M.2.1 pc = .ok (.invokevirtual idx, 3)) (cw : gCV M.1.cls idx M2 n ci) (hb : h b = some (.inr (ci, fs))) (hst : st = As.reverse ++ .ref b :: rest) (hn : As.length = n) (hcat : (rest.map fun v => v.category).sum ≤ 8) (hsz : (lg_sl (.ref b :: As)).length ≤ M2.2.2.1) (hfr : fr' + 1 ≤ fr) (hlo : 8 + (M2.2.2.1 + 11) + lo' ≤ lo) (hkc : kc' + kc'' ≤ kc) (hks : ks' + ks'' ≤ ks)
    (body : gG fr' lo' kc' ks' M2 0 (lv_args 0 (.ref b :: As)) [] h (gAft fr lo kc'' ks'' M pc lv rest Q)) : gG fr lo kc ks M pc lv st h Q :=
  g_callV M d cw hst hn hb hcat hsz hfr hlo hkc hks body (fun _ _ k => k) gAft_v
theorem gc_S (d : decode M.2.1 pc = .ok (.invokestatic idx, 3)) (cw : gCS M.1.cls idx M2 n) (hh : M2.2.2.2.2 = []) (hst : st = As.reverse ++ rest) (hn : As.length = n) (hcat : (rest.map fun v => v.category).sum ≤ 8) (hsz : (lg_sl As).length ≤ M2.2.2.1) (hfr : fr' + 1 ≤ fr) (hlo : 8 + (M2.2.2.1 + 11) + lo' ≤ lo) (hkc : kc' + kc'' ≤ kc) (hks : ks' + ks'' ≤ ks)
    (body : gG fr' lo' kc' ks' M2 0 (lv_args 0 As) [] h (gAft fr lo kc'' ks'' M pc lv rest Q)) : gG fr lo kc ks M pc lv st h Q :=
  g_callS M d cw hh hst hn hcat hsz hfr hlo hkc hks body (fun _ _ k => k) gAft_v
theorem gc_SH (d : decode M.2.1 pc = .ok (.invokestatic idx, 3)) (cw : gCS M.1.cls idx M2 n) (hh : M2.2.2.2.2 ≠ []) (hst : st = As.reverse ++ rest) (hn : As.length = n) (hcat : (rest.map fun v => v.category).sum ≤ 8) (hsz : (lg_sl As).length ≤ M2.2.2.1) (hfr : fr' + 1 ≤ fr) (hlo : 8 + (M2.2.2.1 + 11) + lo' ≤ lo) (hkc : kc' + kc'' ≤ kc) (hks : ks' + ks'' ≤ ks)
    (body : gG fr' lo' kc' ks' M2 0 (lv_args 0 As) [] h (gAft fr lo kc'' ks'' M pc lv rest Q)) : gG fr lo kc ks M pc lv st h Q :=
  g_callSH M d cw hh hst hn hcat hsz hfr hlo hkc hks body (fun _ _ k => k) gAft_v
theorem gc_N (d : decode M.2.1 pc = .ok (.invokestatic idx, 3)) (cw : gCN M.1.cls idx M2 n) (hst : st = As.reverse ++ rest) (hn : As.length = n) (hcat : (rest.map fun v => v.category).sum ≤ 8) (hsz : (lg_sl As).length ≤ M2.2.2.1) (hfr : fr' + 1 ≤ fr) (hlo : 8 + (M2.2.2.1 + 11) + lo' ≤ lo) (hkc : kc' + kc'' ≤ kc) (hks : ks' + ks'' ≤ ks)
    (body : gG fr' lo' kc' ks' M2 0 (lv_args 0 As) [] h (gAft fr lo kc'' ks'' M pc lv rest Q)) : gG fr lo kc ks M pc lv st h Q :=
  g_callN M d cw hst hn hcat hsz hfr hlo hkc hks body (fun _ _ k => k) gAft_v
theorem gc_I (d : decode M.2.1 pc = .ok (.invokespecial idx, 3)) (cw : gCI M.1.cls idx M2 n) (hst : st = As.reverse ++ .ref b :: rest) (hn : As.length = n) (hcat : (rest.map fun v => v.category).sum ≤ 8) (hsz : (lg_sl (.ref b :: As)).length ≤ M2.2.2.1) (hfr : fr' + 1 ≤ fr) (hlo : 8 + (M2.2.2.1 + 11) + lo' ≤ lo) (hkc : kc' + kc'' ≤ kc) (hks : ks' + ks'' ≤ ks)
    (body : gG fr' lo' kc' ks' M2 0 (lv_args 0 (.ref b :: As)) [] h (gAft fr lo kc'' ks'' M pc lv rest Q)) : gG fr lo kc ks M pc lv st h Q :=
  g_callI M d cw hst hn hcat hsz hfr hlo hkc hks body (fun _ _ k => k) gAft_v
end TCALL
end
section
/-! tables, by program: classes, methods, links, decode rows -/
theorem gok_0 : gCok (RX0, TX0, 3) tyX0 := ⟨by decide +kernel, tyX0_ok, nmX0⟩
theorem gok_1 : gCok (RX1, TX1, 2) tyX1 := ⟨by decide +kernel, tyX1_ok, nmX1⟩
theorem gok_2 : gCok (RX2, TX2, 3) tyX2 := ⟨by decide +kernel, tyX2_ok, nmX2⟩
theorem gok_3 : gCok (RX3, TX3, 2) tyX3 := ⟨by decide +kernel, tyX3_ok, nmX3⟩
theorem gok_4 : gCok (RX4, TX4, 5) tyX4 := ⟨by decide +kernel, tyX4_ok, nmX4⟩
theorem gok_5 : gCok (RX5, TX5, 3) tyX5 := ⟨by decide +kernel, tyX5_ok, nmX5⟩
theorem gok_6 : gCok (RX6, TX6, 7) tyX6 := ⟨by decide +kernel, tyX6_ok, nmX6⟩
theorem gok_7 : gCok (RX7, TX7, 2) tyX7 := ⟨by decide +kernel, tyX7_ok, nmX7⟩
theorem gok_8 : gCok (RX8, TX8, 4) tyX8 := ⟨by decide +kernel, tyX8_ok, nmX8⟩
theorem gok_9 : gCok (RX9, TX9, 12) tyX9 := ⟨by decide +kernel, tyX9_ok, nmX9⟩
def M_0_init : Mi_ := (yX0_init, cX0_init, 1, none, [])
theorem c0_0_init : gCl0 M_0_init 0 := ⟨gAll_of 20 (by decide +kernel) (by decide +kernel), gAll_of 103 (by decide +kernel) (by decide +kernel), ⟨by decide +kernel, by decide +kernel, by decide +kernel⟩, by decide +kernel⟩
def M_0_count : Mi_ := (yX0_count, cX0_count, 1, some (.int), [])
theorem c0_0_count : gCl0 M_0_count 0 := ⟨gAll_of 20 (by decide +kernel) (by decide +kernel), gAll_of 240 (by decide +kernel) (by decide +kernel), ⟨by decide +kernel, by decide +kernel, by decide +kernel⟩, by decide +kernel⟩
def M_0_add : Mi_ := (yX0_add, cX0_add, 5, some (.boolean), [])
theorem c0_0_add : gCl0 M_0_add 3 := ⟨gAll_of 20 (by decide +kernel) (by decide +kernel), gAll_of 236 (by decide +kernel) (by decide +kernel), ⟨by decide +kernel, by decide +kernel, by decide +kernel⟩, by decide +kernel⟩
def M_0_remove : Mi_ := (yX0_remove, cX0_remove, 2, none, [])
theorem c0_0_remove : gCl0 M_0_remove 1 := ⟨gAll_of 20 (by decide +kernel) (by decide +kernel), gAll_of 687 (by decide +kernel) (by decide +kernel), ⟨by decide +kernel, by decide +kernel, by decide +kernel⟩, by decide +kernel⟩
def M_0_fits : Mi_ := (yX0_fits, cX0_fits, 3, some (.boolean), [])
theorem c0_0_fits : gCl0 M_0_fits 2 := ⟨gAll_of 20 (by decide +kernel) (by decide +kernel), gAll_of 399 (by decide +kernel) (by decide +kernel), ⟨by decide +kernel, by decide +kernel, by decide +kernel⟩, by decide +kernel⟩
def M_0_meetsCondition : Mi_ := (yX0_meetsCondition, cX0_meetsCondition, 5, some (.boolean), [])
theorem c0_0_meetsCondition : gCl0 M_0_meetsCondition 2 := ⟨gAll_of 20 (by decide +kernel) (by decide +kernel), gAll_of 404 (by decide +kernel) (by decide +kernel), ⟨by decide +kernel, by decide +kernel, by decide +kernel⟩, by decide +kernel⟩
def M_0_isVowel : Mi_ := (yX0_isVowel, cX0_isVowel, 1, some (.boolean), [])
theorem c0_0_isVowel : gCl0 M_0_isVowel 1 := ⟨gAll_of 20 (by decide +kernel) (by decide +kernel), gAll_of 409 (by decide +kernel) (by decide +kernel), ⟨by decide +kernel, by decide +kernel, by decide +kernel⟩, by decide +kernel⟩
def M_0_choose : Mi_ := (yX0_choose, cX0_choose, 4, some (.int), [])
theorem c0_0_choose : gCl0 M_0_choose 1 := ⟨gAll_of 20 (by decide +kernel) (by decide +kernel), gAll_of 394 (by decide +kernel) (by decide +kernel), ⟨by decide +kernel, by decide +kernel, by decide +kernel⟩, by decide +kernel⟩
def M_0_press : Mi_ := (yX0_press, cX0_press, 3, none, [])
theorem c0_0_press : gCl0 M_0_press 2 := ⟨gAll_of 20 (by decide +kernel) (by decide +kernel), gAll_of 413 (by decide +kernel) (by decide +kernel), ⟨by decide +kernel, by decide +kernel, by decide +kernel⟩, by decide +kernel⟩
def M_0_reverse : Mi_ := (yX0_reverse, cX0_reverse, 3, some (.boolean), [])
theorem c0_0_reverse : gCl0 M_0_reverse 2 := ⟨gAll_of 20 (by decide +kernel) (by decide +kernel), gAll_of 973 (by decide +kernel) (by decide +kernel), ⟨by decide +kernel, by decide +kernel, by decide +kernel⟩, by decide +kernel⟩
def M_0_copyFrom : Mi_ := (yX0_copyFrom, cX0_copyFrom, 2, none, [])
theorem c0_0_copyFrom : gCl0 M_0_copyFrom 1 := ⟨gAll_of 20 (by decide +kernel) (by decide +kernel), gAll_of 602 (by decide +kernel) (by decide +kernel), ⟨by decide +kernel, by decide +kernel, by decide +kernel⟩, by decide +kernel⟩
def M_1_init : Mi_ := (yX1_init, cX1_init, 1, none, [])
theorem c0_1_init : gCl0 M_1_init 0 := ⟨gAll_of 16 (by decide +kernel) (by decide +kernel), gAll_of 50 (by decide +kernel) (by decide +kernel), ⟨by decide +kernel, by decide +kernel, by decide +kernel⟩, by decide +kernel⟩
def M_1_start : Mi_ := (yX1_start, cX1_start, 1, none, [])
theorem c0_1_start : gCl0 M_1_start 0 := ⟨gAll_of 16 (by decide +kernel) (by decide +kernel), gAll_of 748 (by decide +kernel) (by decide +kernel), ⟨by decide +kernel, by decide +kernel, by decide +kernel⟩, by decide +kernel⟩
def M_1_take : Mi_ := (yX1_take, cX1_take, 3, some (.boolean), [])
theorem c0_1_take : gCl0 M_1_take 1 := ⟨gAll_of 16 (by decide +kernel) (by decide +kernel), gAll_of 756 (by decide +kernel) (by decide +kernel), ⟨by decide +kernel, by decide +kernel, by decide +kernel⟩, by decide +kernel⟩
def M_1_mayEnd : Mi_ := (yX1_mayEnd, cX1_mayEnd, 1, some (.boolean), [])
theorem c0_1_mayEnd : gCl0 M_1_mayEnd 0 := ⟨gAll_of 16 (by decide +kernel) (by decide +kernel), gAll_of 771 (by decide +kernel) (by decide +kernel), ⟨by decide +kernel, by decide +kernel, by decide +kernel⟩, by decide +kernel⟩
def M_1_takeLetter : Mi_ := (yX1_takeLetter, cX1_takeLetter, 1, some (.boolean), [])
theorem c0_1_takeLetter : gCl0 M_1_takeLetter 0 := ⟨gAll_of 16 (by decide +kernel) (by decide +kernel), gAll_of 763 (by decide +kernel) (by decide +kernel), ⟨by decide +kernel, by decide +kernel, by decide +kernel⟩, by decide +kernel⟩
def M_1_partAfter : Mi_ := (yX1_partAfter, cX1_partAfter, 2, some (.int), [])
theorem c0_1_partAfter : gCl0 M_1_partAfter 1 := ⟨gAll_of 16 (by decide +kernel) (by decide +kernel), gAll_of 767 (by decide +kernel) (by decide +kernel), ⟨by decide +kernel, by decide +kernel, by decide +kernel⟩, by decide +kernel⟩
def M_2_init : Mi_ := (yX2_init, cX2_init, 1, none, [])
theorem c0_2_init : gCl0 M_2_init 0 := ⟨gAll_of 21 (by decide +kernel) (by decide +kernel), gAll_of 121 (by decide +kernel) (by decide +kernel), ⟨by decide +kernel, by decide +kernel, by decide +kernel⟩, by decide +kernel⟩
def M_2_count : Mi_ := (yX2_count, cX2_count, 1, some (.int), [])
theorem c0_2_count : gCl0 M_2_count 0 := ⟨gAll_of 21 (by decide +kernel) (by decide +kernel), gAll_of 336 (by decide +kernel) (by decide +kernel), ⟨by decide +kernel, by decide +kernel, by decide +kernel⟩, by decide +kernel⟩
def M_2_isFull : Mi_ := (yX2_isFull, cX2_isFull, 1, some (.boolean), [])
theorem c0_2_isFull : gCl0 M_2_isFull 0 := ⟨gAll_of 21 (by decide +kernel) (by decide +kernel), gAll_of 557 (by decide +kernel) (by decide +kernel), ⟨by decide +kernel, by decide +kernel, by decide +kernel⟩, by decide +kernel⟩
def M_2_ownerOf : Mi_ := (yX2_ownerOf, cX2_ownerOf, 2, some (.int), [])
theorem c0_2_ownerOf : gCl0 M_2_ownerOf 1 := ⟨gAll_of 21 (by decide +kernel) (by decide +kernel), gAll_of 353 (by decide +kernel) (by decide +kernel), ⟨by decide +kernel, by decide +kernel, by decide +kernel⟩, by decide +kernel⟩
def M_2_coinsIn : Mi_ := (yX2_coinsIn, cX2_coinsIn, 2, some (.int), [])
theorem c0_2_coinsIn : gCl0 M_2_coinsIn 1 := ⟨gAll_of 21 (by decide +kernel) (by decide +kernel), gAll_of 341 (by decide +kernel) (by decide +kernel), ⟨by decide +kernel, by decide +kernel, by decide +kernel⟩, by decide +kernel⟩
def M_2_bears : Mi_ := (yX2_bears, cX2_bears, 3, some (.boolean), [])
theorem c0_2_bears : gCl0 M_2_bears 2 := ⟨gAll_of 21 (by decide +kernel) (by decide +kernel), gAll_of 423 (by decide +kernel) (by decide +kernel), ⟨by decide +kernel, by decide +kernel, by decide +kernel⟩, by decide +kernel⟩
def M_2_find : Mi_ := (yX2_find, cX2_find, 4, some (.int), [])
theorem c0_2_find : gCl0 M_2_find 2 := ⟨gAll_of 21 (by decide +kernel) (by decide +kernel), gAll_of 552 (by decide +kernel) (by decide +kernel), ⟨by decide +kernel, by decide +kernel, by decide +kernel⟩, by decide +kernel⟩
def M_2_coinsWith : Mi_ := (yX2_coinsWith, cX2_coinsWith, 4, some (.int), [])
theorem c0_2_coinsWith : gCl0 M_2_coinsWith 1 := ⟨gAll_of 21 (by decide +kernel) (by decide +kernel), gAll_of 512 (by decide +kernel) (by decide +kernel), ⟨by decide +kernel, by decide +kernel, by decide +kernel⟩, by decide +kernel⟩
def M_2_open : Mi_ := (yX2_open, cX2_open, 5, none, [])
theorem c0_2_open : gCl0 M_2_open 3 := ⟨gAll_of 21 (by decide +kernel) (by decide +kernel), gAll_of 614 (by decide +kernel) (by decide +kernel), ⟨by decide +kernel, by decide +kernel, by decide +kernel⟩, by decide +kernel⟩
def M_2_enlarge : Mi_ := (yX2_enlarge, cX2_enlarge, 3, none, [])
theorem c0_2_enlarge : gCl0 M_2_enlarge 2 := ⟨gAll_of 21 (by decide +kernel) (by decide +kernel), gAll_of 619 (by decide +kernel) (by decide +kernel), ⟨by decide +kernel, by decide +kernel, by decide +kernel⟩, by decide +kernel⟩
def M_2_empty : Mi_ := (yX2_empty, cX2_empty, 2, none, [])
theorem c0_2_empty : gCl0 M_2_empty 1 := ⟨gAll_of 21 (by decide +kernel) (by decide +kernel), gAll_of 664 (by decide +kernel) (by decide +kernel), ⟨by decide +kernel, by decide +kernel, by decide +kernel⟩, by decide +kernel⟩
def M_2_takeOldest : Mi_ := (yX2_takeOldest, cX2_takeOldest, 6, none, [])
theorem c0_2_takeOldest : gCl0 M_2_takeOldest 2 := ⟨gAll_of 21 (by decide +kernel) (by decide +kernel), gAll_of 641 (by decide +kernel) (by decide +kernel), ⟨by decide +kernel, by decide +kernel, by decide +kernel⟩, by decide +kernel⟩
def M_2_removeEmpty : Mi_ := (yX2_removeEmpty, cX2_removeEmpty, 2, none, [])
theorem c0_2_removeEmpty : gCl0 M_2_removeEmpty 0 := ⟨gAll_of 21 (by decide +kernel) (by decide +kernel), gAll_of 647 (by decide +kernel) (by decide +kernel), ⟨by decide +kernel, by decide +kernel, by decide +kernel⟩, by decide +kernel⟩
def M_2_copyFrom : Mi_ := (yX2_copyFrom, cX2_copyFrom, 2, none, [])
theorem c0_2_copyFrom : gCl0 M_2_copyFrom 1 := ⟨gAll_of 21 (by decide +kernel) (by decide +kernel), gAll_of 608 (by decide +kernel) (by decide +kernel), ⟨by decide +kernel, by decide +kernel, by decide +kernel⟩, by decide +kernel⟩
def M_3_init : Mi_ := (yX3_init, cX3_init, 2, none, [])
theorem c0_3_init : gCl0 M_3_init 0 := ⟨gAll_of 22 (by decide +kernel) (by decide +kernel), gAll_of 168 (by decide +kernel) (by decide +kernel), ⟨by decide +kernel, by decide +kernel, by decide +kernel⟩, by decide +kernel⟩
def M_3_count : Mi_ := (yX3_count, cX3_count, 1, some (.int), [])
theorem c0_3_count : gCl0 M_3_count 0 := ⟨gAll_of 22 (by decide +kernel) (by decide +kernel), gAll_of 838 (by decide +kernel) (by decide +kernel), ⟨by decide +kernel, by decide +kernel, by decide +kernel⟩, by decide +kernel⟩
def M_3_record : Mi_ := (yX3_record, cX3_record, 2, none, [])
theorem c0_3_record : gCl0 M_3_record 1 := ⟨gAll_of 22 (by decide +kernel) (by decide +kernel), gAll_of 578 (by decide +kernel) (by decide +kernel), ⟨by decide +kernel, by decide +kernel, by decide +kernel⟩, by decide +kernel⟩
def M_3_moveOldestToEnd : Mi_ := (yX3_moveOldestToEnd, cX3_moveOldestToEnd, 3, none, [])
theorem c0_3_moveOldestToEnd : gCl0 M_3_moveOldestToEnd 0 := ⟨gAll_of 22 (by decide +kernel) (by decide +kernel), gAll_of 582 (by decide +kernel) (by decide +kernel), ⟨by decide +kernel, by decide +kernel, by decide +kernel⟩, by decide +kernel⟩
def M_3_giveBack : Mi_ := (yX3_giveBack, cX3_giveBack, 3, none, [])
theorem c0_3_giveBack : gCl0 M_3_giveBack 1 := ⟨gAll_of 22 (by decide +kernel) (by decide +kernel), gAll_of 843 (by decide +kernel) (by decide +kernel), ⟨by decide +kernel, by decide +kernel, by decide +kernel⟩, by decide +kernel⟩
def M_4_init : Mi_ := (yX4_init, cX4_init, 1, none, [])
theorem c0_4_init : gCl0 M_4_init 0 := ⟨gAll_of 23 (by decide +kernel) (by decide +kernel), gAll_of 184 (by decide +kernel) (by decide +kernel), ⟨by decide +kernel, by decide +kernel, by decide +kernel⟩, by decide +kernel⟩
def M_4_clear : Mi_ := (yX4_clear, cX4_clear, 1, none, [])
theorem c0_4_clear : gCl0 M_4_clear 0 := ⟨gAll_of 23 (by decide +kernel) (by decide +kernel), gAll_of 790 (by decide +kernel) (by decide +kernel), ⟨by decide +kernel, by decide +kernel, by decide +kernel⟩, by decide +kernel⟩
def M_4_take : Mi_ := (yX4_take, cX4_take, 2, none, [])
theorem c0_4_take : gCl0 M_4_take 1 := ⟨gAll_of 23 (by decide +kernel) (by decide +kernel), gAll_of 795 (by decide +kernel) (by decide +kernel), ⟨by decide +kernel, by decide +kernel, by decide +kernel⟩, by decide +kernel⟩
def M_4_takeLetter : Mi_ := (yX4_takeLetter, cX4_takeLetter, 2, none, [])
theorem c0_4_takeLetter : gCl0 M_4_takeLetter 1 := ⟨gAll_of 23 (by decide +kernel) (by decide +kernel), gAll_of 800 (by decide +kernel) (by decide +kernel), ⟨by decide +kernel, by decide +kernel, by decide +kernel⟩, by decide +kernel⟩
def M_5_init : Mi_ := (yX5_init, cX5_init, 1, none, [])
theorem c0_5_init : gCl0 M_5_init 0 := ⟨gAll_of 15 (by decide +kernel) (by decide +kernel), gAll_of 44 (by decide +kernel) (by decide +kernel), ⟨by decide +kernel, by decide +kernel, by decide +kernel⟩, by decide +kernel⟩
def M_5_length : Mi_ := (yX5_length, cX5_length, 1, some (.int), [])
theorem c0_5_length : gCl0 M_5_length 0 := ⟨gAll_of 15 (by decide +kernel) (by decide +kernel), gAll_of 312 (by decide +kernel) (by decide +kernel), ⟨by decide +kernel, by decide +kernel, by decide +kernel⟩, by decide +kernel⟩
def M_5_isFull : Mi_ := (yX5_isFull, cX5_isFull, 1, some (.boolean), [])
theorem c0_5_isFull : gCl0 M_5_isFull 0 := ⟨gAll_of 15 (by decide +kernel) (by decide +kernel), gAll_of 715 (by decide +kernel) (by decide +kernel), ⟨by decide +kernel, by decide +kernel, by decide +kernel⟩, by decide +kernel⟩
def M_5_append : Mi_ := (yX5_append, cX5_append, 2, none, [])
theorem c0_5_append : gCl0 M_5_append 1 := ⟨gAll_of 15 (by decide +kernel) (by decide +kernel), gAll_of 720 (by decide +kernel) (by decide +kernel), ⟨by decide +kernel, by decide +kernel, by decide +kernel⟩, by decide +kernel⟩
def M_5_clear : Mi_ := (yX5_clear, cX5_clear, 1, none, [])
theorem c0_5_clear : gCl0 M_5_clear 0 := ⟨gAll_of 15 (by decide +kernel) (by decide +kernel), gAll_of 316 (by decide +kernel) (by decide +kernel), ⟨by decide +kernel, by decide +kernel, by decide +kernel⟩, by decide +kernel⟩
def M_5_sign : Mi_ := (yX5_sign, cX5_sign, 2, some (.char), [])
theorem c0_5_sign : gCl0 M_5_sign 1 := ⟨gAll_of 15 (by decide +kernel) (by decide +kernel), gAll_of 752 (by decide +kernel) (by decide +kernel), ⟨by decide +kernel, by decide +kernel, by decide +kernel⟩, by decide +kernel⟩
def M_5_firstError : Mi_ := (yX5_firstError, cX5_firstError, 2, some (.int), [])
theorem c0_5_firstError : gCl0 M_5_firstError 0 := ⟨gAll_of 15 (by decide +kernel) (by decide +kernel), gAll_of 744 (by decide +kernel) (by decide +kernel), ⟨by decide +kernel, by decide +kernel, by decide +kernel⟩, by decide +kernel⟩
def M_5_orders : Mi_ := (yX5_orders, cX5_orders, 3, some (.int), [])
theorem c0_5_orders : gCl0 M_5_orders 0 := ⟨gAll_of 15 (by decide +kernel) (by decide +kernel), gAll_of 782 (by decide +kernel) (by decide +kernel), ⟨by decide +kernel, by decide +kernel, by decide +kernel⟩, by decide +kernel⟩
def M_5_read : Mi_ := (yX5_read, cX5_read, 4, some (.int), [])
theorem c0_5_read : gCl0 M_5_read 2 := ⟨gAll_of 15 (by decide +kernel) (by decide +kernel), gAll_of 786 (by decide +kernel) (by decide +kernel), ⟨by decide +kernel, by decide +kernel, by decide +kernel⟩, by decide +kernel⟩
def M_5_isWord : Mi_ := (yX5_isWord, cX5_isWord, 2, some (.boolean), [])
theorem c0_5_isWord : gCl0 M_5_isWord 0 := ⟨gAll_of 15 (by decide +kernel) (by decide +kernel), gAll_of 938 (by decide +kernel) (by decide +kernel), ⟨by decide +kernel, by decide +kernel, by decide +kernel⟩, by decide +kernel⟩
def M_5_load : Mi_ := (yX5_load, cX5_load, 3, none, [])
theorem c0_5_load : gCl0 M_5_load 1 := ⟨gAll_of 15 (by decide +kernel) (by decide +kernel), gAll_of 944 (by decide +kernel) (by decide +kernel), ⟨by decide +kernel, by decide +kernel, by decide +kernel⟩, by decide +kernel⟩
def M_6_init : Mi_ := (yX6_init, cX6_init, 1, none, [])
theorem c0_6_init : gCl0 M_6_init 0 := ⟨gAll_of 17 (by decide +kernel) (by decide +kernel), gAll_of 74 (by decide +kernel) (by decide +kernel), ⟨by decide +kernel, by decide +kernel, by decide +kernel⟩, by decide +kernel⟩
def M_6_addFirstDie : Mi_ := (yX6_addFirstDie, cX6_addFirstDie, 3, none, [])
theorem c0_6_addFirstDie : gCl0 M_6_addFirstDie 0 := ⟨gAll_of 17 (by decide +kernel) (by decide +kernel), gAll_of 226 (by decide +kernel) (by decide +kernel), ⟨by decide +kernel, by decide +kernel, by decide +kernel⟩, by decide +kernel⟩
def M_6_loadPlural : Mi_ := (yX6_loadPlural, cX6_loadPlural, 3, none, [])
theorem c0_6_loadPlural : gCl0 M_6_loadPlural 2 := ⟨gAll_of 17 (by decide +kernel) (by decide +kernel), gAll_of 548 (by decide +kernel) (by decide +kernel), ⟨by decide +kernel, by decide +kernel, by decide +kernel⟩, by decide +kernel⟩
def M_6_makePlural : Mi_ := (yX6_makePlural, cX6_makePlural, 3, none, [])
theorem c0_6_makePlural : gCl0 M_6_makePlural 1 := ⟨gAll_of 17 (by decide +kernel) (by decide +kernel), gAll_of 378 (by decide +kernel) (by decide +kernel), ⟨by decide +kernel, by decide +kernel, by decide +kernel⟩, by decide +kernel⟩
def M_6_isStale : Mi_ := (yX6_isStale, cX6_isStale, 3, some (.boolean), [])
theorem c0_6_isStale : gCl0 M_6_isStale 2 := ⟨gAll_of 17 (by decide +kernel) (by decide +kernel), gAll_of 349 (by decide +kernel) (by decide +kernel), ⟨by decide +kernel, by decide +kernel, by decide +kernel⟩, by decide +kernel⟩
def M_6_accept : Mi_ := (yX6_accept, cX6_accept, 3, some (.boolean), [])
theorem c0_6_accept : gCl0 M_6_accept 1 := ⟨gAll_of 17 (by decide +kernel) (by decide +kernel), gAll_of 805 (by decide +kernel) (by decide +kernel), ⟨by decide +kernel, by decide +kernel, by decide +kernel⟩, by decide +kernel⟩
def M_6_copyFrom : Mi_ := (yX6_copyFrom, cX6_copyFrom, 2, none, [])
theorem c0_6_copyFrom : gCl0 M_6_copyFrom 1 := ⟨gAll_of 17 (by decide +kernel) (by decide +kernel), gAll_of 586 (by decide +kernel) (by decide +kernel), ⟨by decide +kernel, by decide +kernel, by decide +kernel⟩, by decide +kernel⟩
def M_7_init : Mi_ := (yX7_init, cX7_init, 1, none, [])
theorem c0_7_init : gCl0 M_7_init 0 := ⟨gAll_of 24 (by decide +kernel) (by decide +kernel), gAll_of 190 (by decide +kernel) (by decide +kernel), ⟨by decide +kernel, by decide +kernel, by decide +kernel⟩, by decide +kernel⟩
def M_7_length : Mi_ := (yX7_length, cX7_length, 1, some (.int), [])
theorem c0_7_length : gCl0 M_7_length 0 := ⟨gAll_of 24 (by decide +kernel) (by decide +kernel), gAll_of 260 (by decide +kernel) (by decide +kernel), ⟨by decide +kernel, by decide +kernel, by decide +kernel⟩, by decide +kernel⟩
def M_7_letter : Mi_ := (yX7_letter, cX7_letter, 3, some (.char), [])
theorem c0_7_letter : gCl0 M_7_letter 1 := ⟨gAll_of 24 (by decide +kernel) (by decide +kernel), gAll_of 267 (by decide +kernel) (by decide +kernel), ⟨by decide +kernel, by decide +kernel, by decide +kernel⟩, by decide +kernel⟩
def M_7_clear : Mi_ := (yX7_clear, cX7_clear, 1, none, [])
theorem c0_7_clear : gCl0 M_7_clear 0 := ⟨gAll_of 24 (by decide +kernel) (by decide +kernel), gAll_of 361 (by decide +kernel) (by decide +kernel), ⟨by decide +kernel, by decide +kernel, by decide +kernel⟩, by decide +kernel⟩
def M_7_append : Mi_ := (yX7_append, cX7_append, 2, none, [])
theorem c0_7_append : gCl0 M_7_append 1 := ⟨gAll_of 24 (by decide +kernel) (by decide +kernel), gAll_of 232 (by decide +kernel) (by decide +kernel), ⟨by decide +kernel, by decide +kernel, by decide +kernel⟩, by decide +kernel⟩
def M_7_shorten : Mi_ := (yX7_shorten, cX7_shorten, 2, none, [])
theorem c0_7_shorten : gCl0 M_7_shorten 1 := ⟨gAll_of 24 (by decide +kernel) (by decide +kernel), gAll_of 417 (by decide +kernel) (by decide +kernel), ⟨by decide +kernel, by decide +kernel, by decide +kernel⟩, by decide +kernel⟩
def M_7_isSame : Mi_ := (yX7_isSame, cX7_isSame, 3, some (.boolean), [])
theorem c0_7_isSame : gCl0 M_7_isSame 1 := ⟨gAll_of 24 (by decide +kernel) (by decide +kernel), gAll_of 950 (by decide +kernel) (by decide +kernel), ⟨by decide +kernel, by decide +kernel, by decide +kernel⟩, by decide +kernel⟩
def M_7_copyFrom : Mi_ := (yX7_copyFrom, cX7_copyFrom, 2, none, [])
theorem c0_7_copyFrom : gCl0 M_7_copyFrom 1 := ⟨gAll_of 24 (by decide +kernel) (by decide +kernel), gAll_of 967 (by decide +kernel) (by decide +kernel), ⟨by decide +kernel, by decide +kernel, by decide +kernel⟩, by decide +kernel⟩
def M_8_init : Mi_ := (yX8_init, cX8_init, 3, none, [])
theorem c0_8_init : gCl0 M_8_init 2 := ⟨gAll_of 18 (by decide +kernel) (by decide +kernel), gAll_of 80 (by decide +kernel) (by decide +kernel), ⟨by decide +kernel, by decide +kernel, by decide +kernel⟩, by decide +kernel⟩
def M_8_count : Mi_ := (yX8_count, cX8_count, 1, some (.int), [])
theorem c0_8_count : gCl0 M_8_count 0 := ⟨gAll_of 18 (by decide +kernel) (by decide +kernel), gAll_of 244 (by decide +kernel) (by decide +kernel), ⟨by decide +kernel, by decide +kernel, by decide +kernel⟩, by decide +kernel⟩
def M_8_isFull : Mi_ := (yX8_isFull, cX8_isFull, 1, some (.boolean), [])
theorem c0_8_isFull : gCl0 M_8_isFull 0 := ⟨gAll_of 18 (by decide +kernel) (by decide +kernel), gAll_of 252 (by decide +kernel) (by decide +kernel), ⟨by decide +kernel, by decide +kernel, by decide +kernel⟩, by decide +kernel⟩
def M_8_lengthOf : Mi_ := (yX8_lengthOf, cX8_lengthOf, 2, some (.int), [])
theorem c0_8_lengthOf : gCl0 M_8_lengthOf 1 := ⟨gAll_of 18 (by decide +kernel) (by decide +kernel), gAll_of 369 (by decide +kernel) (by decide +kernel), ⟨by decide +kernel, by decide +kernel, by decide +kernel⟩, by decide +kernel⟩
def M_8_letterOf : Mi_ := (yX8_letterOf, cX8_letterOf, 4, some (.char), [])
theorem c0_8_letterOf : gCl0 M_8_letterOf 2 := ⟨gAll_of 18 (by decide +kernel) (by decide +kernel), gAll_of 373 (by decide +kernel) (by decide +kernel), ⟨by decide +kernel, by decide +kernel, by decide +kernel⟩, by decide +kernel⟩
def M_8_clear : Mi_ := (yX8_clear, cX8_clear, 1, none, [])
theorem c0_8_clear : gCl0 M_8_clear 0 := ⟨gAll_of 18 (by decide +kernel) (by decide +kernel), gAll_of 858 (by decide +kernel) (by decide +kernel), ⟨by decide +kernel, by decide +kernel, by decide +kernel⟩, by decide +kernel⟩
def M_8_add : Mi_ := (yX8_add, cX8_add, 2, some (.boolean), [])
theorem c0_8_add : gCl0 M_8_add 1 := ⟨gAll_of 18 (by decide +kernel) (by decide +kernel), gAll_of 248 (by decide +kernel) (by decide +kernel), ⟨by decide +kernel, by decide +kernel, by decide +kernel⟩, by decide +kernel⟩
def M_8_put : Mi_ := (yX8_put, cX8_put, 5, none, [])
theorem c0_8_put : gCl0 M_8_put 2 := ⟨gAll_of 18 (by decide +kernel) (by decide +kernel), gAll_of 256 (by decide +kernel) (by decide +kernel), ⟨by decide +kernel, by decide +kernel, by decide +kernel⟩, by decide +kernel⟩
def M_8_remove : Mi_ := (yX8_remove, cX8_remove, 3, none, [])
theorem c0_8_remove : gCl0 M_8_remove 1 := ⟨gAll_of 18 (by decide +kernel) (by decide +kernel), gAll_of 651 (by decide +kernel) (by decide +kernel), ⟨by decide +kernel, by decide +kernel, by decide +kernel⟩, by decide +kernel⟩
def M_8_load : Mi_ := (yX8_load, cX8_load, 3, none, [])
theorem c0_8_load : gCl0 M_8_load 2 := ⟨gAll_of 18 (by decide +kernel) (by decide +kernel), gAll_of 357 (by decide +kernel) (by decide +kernel), ⟨by decide +kernel, by decide +kernel, by decide +kernel⟩, by decide +kernel⟩
def M_8_appendTo : Mi_ := (yX8_appendTo, cX8_appendTo, 5, none, [])
theorem c0_8_appendTo : gCl0 M_8_appendTo 2 := ⟨gAll_of 18 (by decide +kernel) (by decide +kernel), gAll_of 365 (by decide +kernel) (by decide +kernel), ⟨by decide +kernel, by decide +kernel, by decide +kernel⟩, by decide +kernel⟩
def M_8_isSame : Mi_ := (yX8_isSame, cX8_isSame, 3, some (.boolean), [])
theorem c0_8_isSame : gCl0 M_8_isSame 2 := ⟨gAll_of 18 (by decide +kernel) (by decide +kernel), gAll_of 386 (by decide +kernel) (by decide +kernel), ⟨by decide +kernel, by decide +kernel, by decide +kernel⟩, by decide +kernel⟩
def M_8_isEndOf : Mi_ := (yX8_isEndOf, cX8_isEndOf, 6, some (.boolean), [])
theorem c0_8_isEndOf : gCl0 M_8_isEndOf 2 := ⟨gAll_of 18 (by decide +kernel) (by decide +kernel), gAll_of 390 (by decide +kernel) (by decide +kernel), ⟨by decide +kernel, by decide +kernel, by decide +kernel⟩, by decide +kernel⟩
def M_8_find : Mi_ := (yX8_find, cX8_find, 3, some (.int), [])
theorem c0_8_find : gCl0 M_8_find 1 := ⟨gAll_of 18 (by decide +kernel) (by decide +kernel), gAll_of 382 (by decide +kernel) (by decide +kernel), ⟨by decide +kernel, by decide +kernel, by decide +kernel⟩, by decide +kernel⟩
def M_8_countOf : Mi_ := (yX8_countOf, cX8_countOf, 4, some (.int), [])
theorem c0_8_countOf : gCl0 M_8_countOf 1 := ⟨gAll_of 18 (by decide +kernel) (by decide +kernel), gAll_of 864 (by decide +kernel) (by decide +kernel), ⟨by decide +kernel, by decide +kernel, by decide +kernel⟩, by decide +kernel⟩
def M_8_copyFrom : Mi_ := (yX8_copyFrom, cX8_copyFrom, 2, none, [])
theorem c0_8_copyFrom : gCl0 M_8_copyFrom 1 := ⟨gAll_of 18 (by decide +kernel) (by decide +kernel), gAll_of 590 (by decide +kernel) (by decide +kernel), ⟨by decide +kernel, by decide +kernel, by decide +kernel⟩, by decide +kernel⟩
def M_9_init : Mi_ := (yX9_init, cX9_init, 1, none, [])
theorem c0_9_init : gCl0 M_9_init 0 := ⟨gAll_of 14 (by decide +kernel) (by decide +kernel), gAll_of 36 (by decide +kernel) (by decide +kernel), ⟨by decide +kernel, by decide +kernel, by decide +kernel⟩, by decide +kernel⟩
def M_9_strike : Mi_ := (yX9_strike, cX9_strike, 4, some (.int), [])
theorem c0_9_strike : gCl0 M_9_strike 2 := ⟨gAll_of 14 (by decide +kernel) (by decide +kernel), gAll_of 525 (by decide +kernel) (by decide +kernel), ⟨by decide +kernel, by decide +kernel, by decide +kernel⟩, by decide +kernel⟩
def M_9_melt : Mi_ := (yX9_melt, cX9_melt, 3, some (.int), [])
theorem c0_9_melt : gCl0 M_9_melt 2 := ⟨gAll_of 14 (by decide +kernel) (by decide +kernel), gAll_of 636 (by decide +kernel) (by decide +kernel), ⟨by decide +kernel, by decide +kernel, by decide +kernel⟩, by decide +kernel⟩
def M_9_meltStale : Mi_ := (yX9_meltStale, cX9_meltStale, 3, some (.int), [])
theorem c0_9_meltStale : gCl0 M_9_meltStale 0 := ⟨gAll_of 14 (by decide +kernel) (by decide +kernel), gAll_of 660 (by decide +kernel) (by decide +kernel), ⟨by decide +kernel, by decide +kernel, by decide +kernel⟩, by decide +kernel⟩
def M_9_dropDie : Mi_ := (yX9_dropDie, cX9_dropDie, 2, some (.int), [])
theorem c0_9_dropDie : gCl0 M_9_dropDie 1 := ⟨gAll_of 14 (by decide +kernel) (by decide +kernel), gAll_of 677 (by decide +kernel) (by decide +kernel), ⟨by decide +kernel, by decide +kernel, by decide +kernel⟩, by decide +kernel⟩
def M_9_dropIrregular : Mi_ := (yX9_dropIrregular, cX9_dropIrregular, 2, some (.int), [])
theorem c0_9_dropIrregular : gCl0 M_9_dropIrregular 0 := ⟨gAll_of 14 (by decide +kernel) (by decide +kernel), gAll_of 696 (by decide +kernel) (by decide +kernel), ⟨by decide +kernel, by decide +kernel, by decide +kernel⟩, by decide +kernel⟩
def M_9_type : Mi_ := (yX9_type, cX9_type, 2, some (.int), [])
theorem c0_9_type : gCl0 M_9_type 1 := ⟨gAll_of 14 (by decide +kernel) (by decide +kernel), gAll_of 711 (by decide +kernel) (by decide +kernel), ⟨by decide +kernel, by decide +kernel, by decide +kernel⟩, by decide +kernel⟩
def M_9_clearText : Mi_ := (yX9_clearText, cX9_clearText, 2, some (.int), [])
theorem c0_9_clearText : gCl0 M_9_clearText 0 := ⟨gAll_of 14 (by decide +kernel) (by decide +kernel), gAll_of 308 (by decide +kernel) (by decide +kernel), ⟨by decide +kernel, by decide +kernel, by decide +kernel⟩, by decide +kernel⟩
def M_9_impossibleOrder : Mi_ := (yX9_impossibleOrder, cX9_impossibleOrder, 1, some (.int), [])
theorem c0_9_impossibleOrder : gCl0 M_9_impossibleOrder 0 := ⟨gAll_of 14 (by decide +kernel) (by decide +kernel), gAll_of 815 (by decide +kernel) (by decide +kernel), ⟨by decide +kernel, by decide +kernel, by decide +kernel⟩, by decide +kernel⟩
def M_9_carryOut : Mi_ := (yX9_carryOut, cX9_carryOut, 1, some (.int), [])
theorem c0_9_carryOut : gCl0 M_9_carryOut 0 := ⟨gAll_of 14 (by decide +kernel) (by decide +kernel), gAll_of 736 (by decide +kernel) (by decide +kernel), ⟨by decide +kernel, by decide +kernel, by decide +kernel⟩, by decide +kernel⟩
def M_9_undo : Mi_ := (yX9_undo, cX9_undo, 1, some (.int), [])
theorem c0_9_undo : gCl0 M_9_undo 0 := ⟨gAll_of 14 (by decide +kernel) (by decide +kernel), gAll_of 834 (by decide +kernel) (by decide +kernel), ⟨by decide +kernel, by decide +kernel, by decide +kernel⟩, by decide +kernel⟩
def M_9_takeSnapshot : Mi_ := (yX9_takeSnapshot, cX9_takeSnapshot, 1, some (.int), [])
theorem c0_9_takeSnapshot : gCl0 M_9_takeSnapshot 0 := ⟨gAll_of 14 (by decide +kernel) (by decide +kernel), gAll_of 819 (by decide +kernel) (by decide +kernel), ⟨by decide +kernel, by decide +kernel, by decide +kernel⟩, by decide +kernel⟩
def M_9_restoreSnapshot : Mi_ := (yX9_restoreSnapshot, cX9_restoreSnapshot, 1, some (.int), [])
theorem c0_9_restoreSnapshot : gCl0 M_9_restoreSnapshot 0 := ⟨gAll_of 14 (by decide +kernel) (by decide +kernel), gAll_of 826 (by decide +kernel) (by decide +kernel), ⟨by decide +kernel, by decide +kernel, by decide +kernel⟩, by decide +kernel⟩
def M_9_nouns : Mi_ := (yX9_nouns, cX9_nouns, 1, some (.int), [])
theorem c0_9_nouns : gCl0 M_9_nouns 0 := ⟨gAll_of 14 (by decide +kernel) (by decide +kernel), gAll_of 327 (by decide +kernel) (by decide +kernel), ⟨by decide +kernel, by decide +kernel, by decide +kernel⟩, by decide +kernel⟩
def M_9_lettersOf : Mi_ := (yX9_lettersOf, cX9_lettersOf, 2, some (.int), [])
theorem c0_9_lettersOf : gCl0 M_9_lettersOf 1 := ⟨gAll_of 14 (by decide +kernel) (by decide +kernel), gAll_of 875 (by decide +kernel) (by decide +kernel), ⟨by decide +kernel, by decide +kernel, by decide +kernel⟩, by decide +kernel⟩
def M_9_pluralLetters : Mi_ := (yX9_pluralLetters, cX9_pluralLetters, 2, some (.int), [])
theorem c0_9_pluralLetters : gCl0 M_9_pluralLetters 1 := ⟨gAll_of 14 (by decide +kernel) (by decide +kernel), gAll_of 899 (by decide +kernel) (by decide +kernel), ⟨by decide +kernel, by decide +kernel, by decide +kernel⟩, by decide +kernel⟩
def M_9_pluralLetter : Mi_ := (yX9_pluralLetter, cX9_pluralLetter, 3, some (.char), [])
theorem c0_9_pluralLetter : gCl0 M_9_pluralLetter 2 := ⟨gAll_of 14 (by decide +kernel) (by decide +kernel), gAll_of 923 (by decide +kernel) (by decide +kernel), ⟨by decide +kernel, by decide +kernel, by decide +kernel⟩, by decide +kernel⟩
def M_9_countedLetter : Mi_ := (yX9_countedLetter, cX9_countedLetter, 4, some (.char), [])
theorem c0_9_countedLetter : gCl0 M_9_countedLetter 3 := ⟨gAll_of 14 (by decide +kernel) (by decide +kernel), gAll_of 907 (by decide +kernel) (by decide +kernel), ⟨by decide +kernel, by decide +kernel, by decide +kernel⟩, by decide +kernel⟩
def M_9_isIrregular : Mi_ := (yX9_isIrregular, cX9_isIrregular, 2, some (.boolean), [])
theorem c0_9_isIrregular : gCl0 M_9_isIrregular 1 := ⟨gAll_of 14 (by decide +kernel) (by decide +kernel), gAll_of 883 (by decide +kernel) (by decide +kernel), ⟨by decide +kernel, by decide +kernel, by decide +kernel⟩, by decide +kernel⟩
def M_9_dieFor : Mi_ := (yX9_dieFor, cX9_dieFor, 2, some (.int), [])
theorem c0_9_dieFor : gCl0 M_9_dieFor 1 := ⟨gAll_of 14 (by decide +kernel) (by decide +kernel), gAll_of 891 (by decide +kernel) (by decide +kernel), ⟨by decide +kernel, by decide +kernel, by decide +kernel⟩, by decide +kernel⟩
def M_9_ambiguousNouns : Mi_ := (yX9_ambiguousNouns, cX9_ambiguousNouns, 3, some (.int), [])
theorem c0_9_ambiguousNouns : gCl0 M_9_ambiguousNouns 0 := ⟨gAll_of 14 (by decide +kernel) (by decide +kernel), gAll_of 854 (by decide +kernel) (by decide +kernel), ⟨by decide +kernel, by decide +kernel, by decide +kernel⟩, by decide +kernel⟩
def M_9_recallByStriking : Mi_ := (yX9_recallByStriking, cX9_recallByStriking, 2, some (.int), [])
theorem c0_9_recallByStriking : gCl0 M_9_recallByStriking 0 := ⟨gAll_of 14 (by decide +kernel) (by decide +kernel), gAll_of 930 (by decide +kernel) (by decide +kernel), ⟨by decide +kernel, by decide +kernel, by decide +kernel⟩, by decide +kernel⟩
def M_9_recallByReversing : Mi_ := (yX9_recallByReversing, cX9_recallByReversing, 4, some (.int), [])
theorem c0_9_recallByReversing : gCl0 M_9_recallByReversing 0 := ⟨gAll_of 14 (by decide +kernel) (by decide +kernel), gAll_of 958 (by decide +kernel) (by decide +kernel), ⟨by decide +kernel, by decide +kernel, by decide +kernel⟩, by decide +kernel⟩
def M_9_possibleNouns : Mi_ := (yX9_possibleNouns, cX9_possibleNouns, 1, some (.int), [])
theorem c0_9_possibleNouns : gCl0 M_9_possibleNouns 0 := ⟨gAll_of 14 (by decide +kernel) (by decide +kernel), gAll_of 981 (by decide +kernel) (by decide +kernel), ⟨by decide +kernel, by decide +kernel, by decide +kernel⟩, by decide +kernel⟩
def M_9_dies : Mi_ := (yX9_dies, cX9_dies, 1, some (.int), [])
theorem c0_9_dies : gCl0 M_9_dies 0 := ⟨gAll_of 14 (by decide +kernel) (by decide +kernel), gAll_of 669 (by decide +kernel) (by decide +kernel), ⟨by decide +kernel, by decide +kernel, by decide +kernel⟩, by decide +kernel⟩
def M_9_irregulars : Mi_ := (yX9_irregulars, cX9_irregulars, 1, some (.int), [])
theorem c0_9_irregulars : gCl0 M_9_irregulars 0 := ⟨gAll_of 14 (by decide +kernel) (by decide +kernel), gAll_of 850 (by decide +kernel) (by decide +kernel), ⟨by decide +kernel, by decide +kernel, by decide +kernel⟩, by decide +kernel⟩
def M_9_fitsOf : Mi_ := (yX9_fitsOf, cX9_fitsOf, 4, some (.int), [])
theorem c0_9_fitsOf : gCl0 M_9_fitsOf 1 := ⟨gAll_of 14 (by decide +kernel) (by decide +kernel), gAll_of 988 (by decide +kernel) (by decide +kernel), ⟨by decide +kernel, by decide +kernel, by decide +kernel⟩, by decide +kernel⟩
def M_9_coinsOf : Mi_ := (yX9_coinsOf, cX9_coinsOf, 2, some (.int), [])
theorem c0_9_coinsOf : gCl0 M_9_coinsOf 1 := ⟨gAll_of 14 (by decide +kernel) (by decide +kernel), gAll_of 436 (by decide +kernel) (by decide +kernel), ⟨by decide +kernel, by decide +kernel, by decide +kernel⟩, by decide +kernel⟩
def M_9_heaps : Mi_ := (yX9_heaps, cX9_heaps, 1, some (.int), [])
theorem c0_9_heaps : gCl0 M_9_heaps 0 := ⟨gAll_of 14 (by decide +kernel) (by decide +kernel), gAll_of 625 (by decide +kernel) (by decide +kernel), ⟨by decide +kernel, by decide +kernel, by decide +kernel⟩, by decide +kernel⟩
def M_9_staleCoins : Mi_ := (yX9_staleCoins, cX9_staleCoins, 3, some (.int), [])
theorem c0_9_staleCoins : gCl0 M_9_staleCoins 0 := ⟨gAll_of 14 (by decide +kernel) (by decide +kernel), gAll_of 345 (by decide +kernel) (by decide +kernel), ⟨by decide +kernel, by decide +kernel, by decide +kernel⟩, by decide +kernel⟩
def M_9_coinsByHeaps : Mi_ := (yX9_coinsByHeaps, cX9_coinsByHeaps, 3, some (.int), [])
theorem c0_9_coinsByHeaps : gCl0 M_9_coinsByHeaps 0 := ⟨gAll_of 14 (by decide +kernel) (by decide +kernel), gAll_of 332 (by decide +kernel) (by decide +kernel), ⟨by decide +kernel, by decide +kernel, by decide +kernel⟩, by decide +kernel⟩
def M_9_coinsByAccounts : Mi_ := (yX9_coinsByAccounts, cX9_coinsByAccounts, 1, some (.int), [])
theorem c0_9_coinsByAccounts : gCl0 M_9_coinsByAccounts 0 := ⟨gAll_of 14 (by decide +kernel) (by decide +kernel), gAll_of 629 (by decide +kernel) (by decide +kernel), ⟨by decide +kernel, by decide +kernel, by decide +kernel⟩, by decide +kernel⟩
def M_9_recordedStates : Mi_ := (yX9_recordedStates, cX9_recordedStates, 1, some (.int), [])
theorem c0_9_recordedStates : gCl0 M_9_recordedStates 0 := ⟨gAll_of 14 (by decide +kernel) (by decide +kernel), gAll_of 868 (by decide +kernel) (by decide +kernel), ⟨by decide +kernel, by decide +kernel, by decide +kernel⟩, by decide +kernel⟩
def M_9_checkNoun : Mi_ := (yX9_checkNoun, cX9_checkNoun, 2, none, [])
theorem c0_9_checkNoun : gCl0 M_9_checkNoun 1 := ⟨gAll_of 14 (by decide +kernel) (by decide +kernel), gAll_of 440 (by decide +kernel) (by decide +kernel), ⟨by decide +kernel, by decide +kernel, by decide +kernel⟩, by decide +kernel⟩
def M_9_checkDie : Mi_ := (yX9_checkDie, cX9_checkDie, 2, none, [])
theorem c0_9_checkDie : gCl0 M_9_checkDie 1 := ⟨gAll_of 14 (by decide +kernel) (by decide +kernel), gAll_of 681 (by decide +kernel) (by decide +kernel), ⟨by decide +kernel, by decide +kernel, by decide +kernel⟩, by decide +kernel⟩
def M_9_checkPlace : Mi_ := (yX9_checkPlace, cX9_checkPlace, 2, none, [])
theorem c0_9_checkPlace : gCl0 M_9_checkPlace 2 := ⟨gAll_of 14 (by decide +kernel) (by decide +kernel), gAll_of 914 (by decide +kernel) (by decide +kernel), ⟨by decide +kernel, by decide +kernel, by decide +kernel⟩, by decide +kernel⟩
def M_9_checkMany : Mi_ := (yX9_checkMany, cX9_checkMany, 1, none, [])
theorem c0_9_checkMany : gCl0 M_9_checkMany 1 := ⟨gAll_of 14 (by decide +kernel) (by decide +kernel), gAll_of 528 (by decide +kernel) (by decide +kernel), ⟨by decide +kernel, by decide +kernel, by decide +kernel⟩, by decide +kernel⟩
def M_9_checkCount : Mi_ := (yX9_checkCount, cX9_checkCount, 1, none, [])
theorem c0_9_checkCount : gCl0 M_9_checkCount 1 := ⟨gAll_of 14 (by decide +kernel) (by decide +kernel), gAll_of 910 (by decide +kernel) (by decide +kernel), ⟨by decide +kernel, by decide +kernel, by decide +kernel⟩, by decide +kernel⟩
def M_9_checkTextIsValid : Mi_ := (yX9_checkTextIsValid, cX9_checkTextIsValid, 1, none, [])
theorem c0_9_checkTextIsValid : gCl0 M_9_checkTextIsValid 0 := ⟨gAll_of 14 (by decide +kernel) (by decide +kernel), gAll_of 740 (by decide +kernel) (by decide +kernel), ⟨by decide +kernel, by decide +kernel, by decide +kernel⟩, by decide +kernel⟩
def M_9_loadWantedPlural : Mi_ := (yX9_loadWantedPlural, cX9_loadWantedPlural, 1, none, [])
theorem c0_9_loadWantedPlural : gCl0 M_9_loadWantedPlural 0 := ⟨gAll_of 14 (by decide +kernel) (by decide +kernel), gAll_of 934 (by decide +kernel) (by decide +kernel), ⟨by decide +kernel, by decide +kernel, by decide +kernel⟩, by decide +kernel⟩
def M_9_tryOrders : Mi_ := (yX9_tryOrders, cX9_tryOrders, 4, some (.int), [])
theorem c0_9_tryOrders : gCl0 M_9_tryOrders 0 := ⟨gAll_of 14 (by decide +kernel) (by decide +kernel), gAll_of 777 (by decide +kernel) (by decide +kernel), ⟨by decide +kernel, by decide +kernel, by decide +kernel⟩, by decide +kernel⟩
def M_9_collectOrigins : Mi_ := (yX9_collectOrigins, cX9_collectOrigins, 2, none, [])
theorem c0_9_collectOrigins : gCl0 M_9_collectOrigins 0 := ⟨gAll_of 14 (by decide +kernel) (by decide +kernel), gAll_of 962 (by decide +kernel) (by decide +kernel), ⟨by decide +kernel, by decide +kernel, by decide +kernel⟩, by decide +kernel⟩
def M_9_isSmallLetter : Mi_ := (yX9_isSmallLetter, cX9_isSmallLetter, 1, some (.boolean), [])
theorem c0_9_isSmallLetter : gCl0 M_9_isSmallLetter 1 := ⟨gAll_of 14 (by decide +kernel) (by decide +kernel), gAll_of 759 (by decide +kernel) (by decide +kernel), ⟨by decide +kernel, by decide +kernel, by decide +kernel⟩, by decide +kernel⟩
def M_9_closeGap : Mi_ := (yX9_closeGap, cX9_closeGap, 3, none, [])
theorem c0_9_closeGap : gCl0 M_9_closeGap 2 := ⟨gAll_of 14 (by decide +kernel) (by decide +kernel), gAll_of 654 (by decide +kernel) (by decide +kernel), ⟨by decide +kernel, by decide +kernel, by decide +kernel⟩, by decide +kernel⟩
def M_9_copyNumbers : Mi_ := (yX9_copyNumbers, cX9_copyNumbers, 2, none, [])
theorem c0_9_copyNumbers : gCl0 M_9_copyNumbers 2 := ⟨gAll_of 14 (by decide +kernel) (by decide +kernel), gAll_of 596 (by decide +kernel) (by decide +kernel), ⟨by decide +kernel, by decide +kernel, by decide +kernel⟩, by decide +kernel⟩
theorem oi_0_3 : Cond.methodLink RX0 3 Lib.objectInit ∈ gAll := gAll_of 104 (by decide +kernel) (by decide +kernel)
theorem nw_0_9 : gNw RX0 9 8 [.int 0, .null, .null, .int 0] := ⟨_, tyX8, rfl, gok_8, rfl, by decide +kernel, gAll_of 105 (by decide +kernel) (by decide +kernel), gAll_of 77 (by decide +kernel) (by decide +kernel), gAll_of 18 (by decide +kernel) (by decide +kernel)⟩
theorem ci_0_11 : gCI RX0 11 M_8_init 2 := ⟨c0_8_init, rfl, rfl, Or.inl (gAll_of 106 (by decide +kernel) (by decide +kernel)), rfl, gAll_of 79 (by decide +kernel) (by decide +kernel)⟩
theorem fl_0_14 : gFl RX0 14 0 0 := ⟨_, tyX0, rfl, gok_0, by decide, Or.inl (gAll_of 107 (by decide +kernel) (by decide +kernel))⟩
theorem pf_0_14 : gPf RX0 14 0 0 (.object "PluralMint$Words") := ⟨_, tyX0, rfl, gok_0, by decide, rfl, rfl, rfl, gAll_of 107 (by decide +kernel) (by decide +kernel)⟩
theorem fl_0_20 : gFl RX0 20 0 1 := ⟨_, tyX0, rfl, gok_0, by decide, Or.inl (gAll_of 108 (by decide +kernel) (by decide +kernel))⟩
theorem pf_0_20 : gPf RX0 20 0 1 (.object "PluralMint$Words") := ⟨_, tyX0, rfl, gok_0, by decide, rfl, rfl, rfl, gAll_of 108 (by decide +kernel) (by decide +kernel)⟩
theorem fl_0_23 : gFl RX0 23 0 2 := ⟨_, tyX0, rfl, gok_0, by decide, Or.inl (gAll_of 109 (by decide +kernel) (by decide +kernel))⟩
theorem pf_0_23 : gPf RX0 23 0 2 (.array .int) := ⟨_, tyX0, rfl, gok_0, by decide, rfl, rfl, rfl, gAll_of 109 (by decide +kernel) (by decide +kernel)⟩
theorem cv_0_27 : gCV RX0 27 M_8_count 0 8 := ⟨c0_8_count, rfl, gAll_of 241 (by decide +kernel) (by decide +kernel), gAll_of 242 (by decide +kernel) (by decide +kernel), gAll_of 243 (by decide +kernel) (by decide +kernel), _, rfl, rfl⟩
theorem cv_0_31 : gCV RX0 31 M_0_count 0 0 := ⟨c0_0_count, rfl, gAll_of 237 (by decide +kernel) (by decide +kernel), gAll_of 238 (by decide +kernel) (by decide +kernel), gAll_of 239 (by decide +kernel) (by decide +kernel), _, rfl, rfl⟩
theorem cv_0_32 : gCV RX0 32 M_8_add 1 8 := ⟨c0_8_add, rfl, gAll_of 245 (by decide +kernel) (by decide +kernel), gAll_of 246 (by decide +kernel) (by decide +kernel), gAll_of 247 (by decide +kernel) (by decide +kernel), _, rfl, rfl⟩
theorem cv_0_36 : gCV RX0 36 M_8_remove 1 8 := ⟨c0_8_remove, rfl, gAll_of 688 (by decide +kernel) (by decide +kernel), gAll_of 649 (by decide +kernel) (by decide +kernel), gAll_of 650 (by decide +kernel) (by decide +kernel), _, rfl, rfl⟩
theorem cn_0_40 : gCN RX0 40 M_9_closeGap 2 := ⟨c0_9_closeGap, rfl, ⟨"PluralMint", gOth_of 689 (by decide +kernel) (by decide +kernel)⟩, gAll_of 653 (by decide +kernel) (by decide +kernel)⟩
theorem cv_0_44 : gCV RX0 44 M_8_isEndOf 2 8 := ⟨c0_8_isEndOf, rfl, gAll_of 400 (by decide +kernel) (by decide +kernel), gAll_of 388 (by decide +kernel) (by decide +kernel), gAll_of 389 (by decide +kernel) (by decide +kernel), _, rfl, rfl⟩
theorem cv_0_48 : gCV RX0 48 M_0_meetsCondition 2 0 := ⟨c0_0_meetsCondition, rfl, gAll_of 401 (by decide +kernel) (by decide +kernel), gAll_of 403 (by decide +kernel) (by decide +kernel), gAll_of 0 (by decide +kernel) (by decide +kernel), _, rfl, rfl⟩
theorem cv_0_51 : gCV RX0 51 M_7_length 0 7 := ⟨c0_7_length, rfl, gAll_of 405 (by decide +kernel) (by decide +kernel), gAll_of 258 (by decide +kernel) (by decide +kernel), gAll_of 259 (by decide +kernel) (by decide +kernel), _, rfl, rfl⟩
theorem cv_0_56 : gCV RX0 56 M_8_lengthOf 1 8 := ⟨c0_8_lengthOf, rfl, gAll_of 395 (by decide +kernel) (by decide +kernel), gAll_of 367 (by decide +kernel) (by decide +kernel), gAll_of 368 (by decide +kernel) (by decide +kernel), _, rfl, rfl⟩
theorem cv_0_60 : gCV RX0 60 M_7_letter 1 7 := ⟨c0_7_letter, rfl, gAll_of 406 (by decide +kernel) (by decide +kernel), gAll_of 265 (by decide +kernel) (by decide +kernel), gAll_of 266 (by decide +kernel) (by decide +kernel), _, rfl, rfl⟩
theorem cs_0_64 : gCS RX0 64 M_0_isVowel 1 := ⟨c0_0_isVowel, gAll_of 407 (by decide +kernel) (by decide +kernel), gAll_of 408 (by decide +kernel) (by decide +kernel)⟩
theorem cv_0_68 : gCV RX0 68 M_0_fits 2 0 := ⟨c0_0_fits, rfl, gAll_of 396 (by decide +kernel) (by decide +kernel), gAll_of 397 (by decide +kernel) (by decide +kernel), gAll_of 398 (by decide +kernel) (by decide +kernel), _, rfl, rfl⟩
theorem cv_0_71 : gCV RX0 71 M_7_shorten 1 7 := ⟨c0_7_shorten, rfl, gAll_of 414 (by decide +kernel) (by decide +kernel), gAll_of 415 (by decide +kernel) (by decide +kernel), gAll_of 416 (by decide +kernel) (by decide +kernel), _, rfl, rfl⟩
theorem cv_0_74 : gCV RX0 74 M_8_appendTo 2 8 := ⟨c0_8_appendTo, rfl, gAll_of 419 (by decide +kernel) (by decide +kernel), gAll_of 363 (by decide +kernel) (by decide +kernel), gAll_of 364 (by decide +kernel) (by decide +kernel), _, rfl, rfl⟩
theorem cv_0_78 : gCV RX0 78 M_8_copyFrom 1 8 := ⟨c0_8_copyFrom, rfl, gAll_of 603 (by decide +kernel) (by decide +kernel), gAll_of 588 (by decide +kernel) (by decide +kernel), gAll_of 589 (by decide +kernel) (by decide +kernel), _, rfl, rfl⟩
theorem cn_0_82 : gCN RX0 82 M_9_copyNumbers 2 := ⟨c0_9_copyNumbers, rfl, ⟨"PluralMint", gOth_of 604 (by decide +kernel) (by decide +kernel)⟩, gAll_of 595 (by decide +kernel) (by decide +kernel)⟩
theorem oi_1_3 : Cond.methodLink RX1 3 Lib.objectInit ∈ gAll := gAll_of 51 (by decide +kernel) (by decide +kernel)
theorem fl_1_11 : gFl RX1 11 1 0 := ⟨_, tyX1, rfl, gok_1, by decide, Or.inl (gAll_of 52 (by decide +kernel) (by decide +kernel))⟩
theorem pt_1_11 : gPt RX1 11 1 0 (.int) := ⟨_, tyX1, rfl, gok_1, by decide, rfl, rfl, Or.inl (gAll_of 52 (by decide +kernel) (by decide +kernel))⟩
theorem fl_1_15 : gFl RX1 15 1 1 := ⟨_, tyX1, rfl, gok_1, by decide, Or.inl (gAll_of 53 (by decide +kernel) (by decide +kernel))⟩
theorem pt_1_15 : gPt RX1 15 1 1 (.int) := ⟨_, tyX1, rfl, gok_1, by decide, rfl, rfl, Or.inl (gAll_of 53 (by decide +kernel) (by decide +kernel))⟩
theorem cn_1_18 : gCN RX1 18 M_9_isSmallLetter 1 := ⟨c0_9_isSmallLetter, rfl, ⟨"PluralMint", gOth_of 757 (by decide +kernel) (by decide +kernel)⟩, gAll_of 758 (by decide +kernel) (by decide +kernel)⟩
theorem cv_1_22 : gCV RX1 22 M_1_takeLetter 0 1 := ⟨c0_1_takeLetter, rfl, gAll_of 760 (by decide +kernel) (by decide +kernel), gAll_of 762 (by decide +kernel) (by decide +kernel), gAll_of 7 (by decide +kernel) (by decide +kernel), _, rfl, rfl⟩
theorem cv_1_26 : gCV RX1 26 M_1_partAfter 1 1 := ⟨c0_1_partAfter, rfl, gAll_of 764 (by decide +kernel) (by decide +kernel), gAll_of 766 (by decide +kernel) (by decide +kernel), gAll_of 8 (by decide +kernel) (by decide +kernel), _, rfl, rfl⟩
theorem cv_1_30 : gCV RX1 30 M_1_mayEnd 0 1 := ⟨c0_1_mayEnd, rfl, gAll_of 768 (by decide +kernel) (by decide +kernel), gAll_of 769 (by decide +kernel) (by decide +kernel), gAll_of 770 (by decide +kernel) (by decide +kernel), _, rfl, rfl⟩
theorem oi_2_3 : Cond.methodLink RX2 3 Lib.objectInit ∈ gAll := gAll_of 122 (by decide +kernel) (by decide +kernel)
theorem nw_2_9 : gNw RX2 9 8 [.int 0, .null, .null, .int 0] := ⟨_, tyX8, rfl, gok_8, rfl, by decide +kernel, gAll_of 123 (by decide +kernel) (by decide +kernel), gAll_of 77 (by decide +kernel) (by decide +kernel), gAll_of 18 (by decide +kernel) (by decide +kernel)⟩
theorem ci_2_11 : gCI RX2 11 M_8_init 2 := ⟨c0_8_init, rfl, rfl, Or.inl (gAll_of 124 (by decide +kernel) (by decide +kernel)), rfl, gAll_of 79 (by decide +kernel) (by decide +kernel)⟩
theorem fl_2_14 : gFl RX2 14 2 0 := ⟨_, tyX2, rfl, gok_2, by decide, Or.inl (gAll_of 125 (by decide +kernel) (by decide +kernel))⟩
theorem pf_2_14 : gPf RX2 14 2 0 (.object "PluralMint$Words") := ⟨_, tyX2, rfl, gok_2, by decide, rfl, rfl, rfl, gAll_of 125 (by decide +kernel) (by decide +kernel)⟩
theorem fl_2_20 : gFl RX2 20 2 1 := ⟨_, tyX2, rfl, gok_2, by decide, Or.inl (gAll_of 126 (by decide +kernel) (by decide +kernel))⟩
theorem pf_2_20 : gPf RX2 20 2 1 (.array .int) := ⟨_, tyX2, rfl, gok_2, by decide, rfl, rfl, rfl, gAll_of 126 (by decide +kernel) (by decide +kernel)⟩
theorem fl_2_24 : gFl RX2 24 2 2 := ⟨_, tyX2, rfl, gok_2, by decide, Or.inl (gAll_of 127 (by decide +kernel) (by decide +kernel))⟩
theorem pf_2_24 : gPf RX2 24 2 2 (.array .int) := ⟨_, tyX2, rfl, gok_2, by decide, rfl, rfl, rfl, gAll_of 127 (by decide +kernel) (by decide +kernel)⟩
theorem cv_2_27 : gCV RX2 27 M_8_count 0 8 := ⟨c0_8_count, rfl, gAll_of 337 (by decide +kernel) (by decide +kernel), gAll_of 242 (by decide +kernel) (by decide +kernel), gAll_of 243 (by decide +kernel) (by decide +kernel), _, rfl, rfl⟩
theorem cv_2_31 : gCV RX2 31 M_8_isFull 0 8 := ⟨c0_8_isFull, rfl, gAll_of 558 (by decide +kernel) (by decide +kernel), gAll_of 250 (by decide +kernel) (by decide +kernel), gAll_of 251 (by decide +kernel) (by decide +kernel), _, rfl, rfl⟩
theorem cv_2_35 : gCV RX2 35 M_8_isSame 2 8 := ⟨c0_8_isSame, rfl, gAll_of 424 (by decide +kernel) (by decide +kernel), gAll_of 384 (by decide +kernel) (by decide +kernel), gAll_of 385 (by decide +kernel) (by decide +kernel), _, rfl, rfl⟩
theorem cv_2_39 : gCV RX2 39 M_2_count 0 2 := ⟨c0_2_count, rfl, gAll_of 513 (by decide +kernel) (by decide +kernel), gAll_of 334 (by decide +kernel) (by decide +kernel), gAll_of 335 (by decide +kernel) (by decide +kernel), _, rfl, rfl⟩
theorem cv_2_40 : gCV RX2 40 M_2_ownerOf 1 2 := ⟨c0_2_ownerOf, rfl, gAll_of 514 (by decide +kernel) (by decide +kernel), gAll_of 351 (by decide +kernel) (by decide +kernel), gAll_of 352 (by decide +kernel) (by decide +kernel), _, rfl, rfl⟩
theorem cv_2_44 : gCV RX2 44 M_2_bears 2 2 := ⟨c0_2_bears, rfl, gAll_of 553 (by decide +kernel) (by decide +kernel), gAll_of 421 (by decide +kernel) (by decide +kernel), gAll_of 422 (by decide +kernel) (by decide +kernel), _, rfl, rfl⟩
theorem cv_2_47 : gCV RX2 47 M_2_coinsIn 1 2 := ⟨c0_2_coinsIn, rfl, gAll_of 515 (by decide +kernel) (by decide +kernel), gAll_of 339 (by decide +kernel) (by decide +kernel), gAll_of 340 (by decide +kernel) (by decide +kernel), _, rfl, rfl⟩
theorem cv_2_50 : gCV RX2 50 M_8_add 1 8 := ⟨c0_8_add, rfl, gAll_of 615 (by decide +kernel) (by decide +kernel), gAll_of 246 (by decide +kernel) (by decide +kernel), gAll_of 247 (by decide +kernel) (by decide +kernel), _, rfl, rfl⟩
theorem mm_2_54 : Cond.methodLink RX2 54 Lib.Math.min.name ∈ gAll := gAll_of 642 (by decide +kernel) (by decide +kernel)
theorem cv_2_60 : gCV RX2 60 M_2_enlarge 2 2 := ⟨c0_2_enlarge, rfl, gAll_of 643 (by decide +kernel) (by decide +kernel), gAll_of 617 (by decide +kernel) (by decide +kernel), gAll_of 618 (by decide +kernel) (by decide +kernel), _, rfl, rfl⟩
theorem cv_2_63 : gCV RX2 63 M_2_removeEmpty 0 2 := ⟨c0_2_removeEmpty, rfl, gAll_of 644 (by decide +kernel) (by decide +kernel), gAll_of 645 (by decide +kernel) (by decide +kernel), gAll_of 646 (by decide +kernel) (by decide +kernel), _, rfl, rfl⟩
theorem cv_2_66 : gCV RX2 66 M_8_remove 1 8 := ⟨c0_8_remove, rfl, gAll_of 648 (by decide +kernel) (by decide +kernel), gAll_of 649 (by decide +kernel) (by decide +kernel), gAll_of 650 (by decide +kernel) (by decide +kernel), _, rfl, rfl⟩
theorem cn_2_70 : gCN RX2 70 M_9_closeGap 2 := ⟨c0_9_closeGap, rfl, ⟨"PluralMint", gOth_of 656 (by decide +kernel) (by decide +kernel)⟩, gAll_of 653 (by decide +kernel) (by decide +kernel)⟩
theorem cv_2_74 : gCV RX2 74 M_8_copyFrom 1 8 := ⟨c0_8_copyFrom, rfl, gAll_of 609 (by decide +kernel) (by decide +kernel), gAll_of 588 (by decide +kernel) (by decide +kernel), gAll_of 589 (by decide +kernel) (by decide +kernel), _, rfl, rfl⟩
theorem cn_2_78 : gCN RX2 78 M_9_copyNumbers 2 := ⟨c0_9_copyNumbers, rfl, ⟨"PluralMint", gOth_of 610 (by decide +kernel) (by decide +kernel)⟩, gAll_of 595 (by decide +kernel) (by decide +kernel)⟩
theorem oi_3_3 : Cond.methodLink RX3 3 Lib.objectInit ∈ gAll := gAll_of 169 (by decide +kernel) (by decide +kernel)
theorem nw_3_9 : gNw RX3 9 6 [.null, .null, .null, .null, .null, .int 0, .int 0] := ⟨_, tyX6, rfl, gok_6, rfl, by decide +kernel, gAll_of 170 (by decide +kernel) (by decide +kernel), gAll_of 71 (by decide +kernel) (by decide +kernel), gAll_of 17 (by decide +kernel) (by decide +kernel)⟩
theorem aw_3_9 : Cond.classLink RX3 9 "PluralMint$State" ∈ gAll := gAll_of 170 (by decide +kernel) (by decide +kernel)
theorem fl_3_11 : gFl RX3 11 3 0 := ⟨_, tyX3, rfl, gok_3, by decide, Or.inl (gAll_of 173 (by decide +kernel) (by decide +kernel))⟩
theorem pf_3_11 : gPf RX3 11 3 0 (.array (.object "PluralMint$State")) := ⟨_, tyX3, rfl, gok_3, by decide, rfl, rfl, rfl, gAll_of 173 (by decide +kernel) (by decide +kernel)⟩
theorem ci_3_17 : gCI RX3 17 M_6_init 0 := ⟨c0_6_init, rfl, rfl, Or.inr ⟨"PluralMint", gOth_of 172 (by decide +kernel) (by decide +kernel)⟩, rfl, gAll_of 73 (by decide +kernel) (by decide +kernel)⟩
theorem fl_3_18 : gFl RX3 18 3 1 := ⟨_, tyX3, rfl, gok_3, by decide, Or.inl (gAll_of 174 (by decide +kernel) (by decide +kernel))⟩
theorem pt_3_18 : gPt RX3 18 3 1 (.int) := ⟨_, tyX3, rfl, gok_3, by decide, rfl, rfl, Or.inl (gAll_of 174 (by decide +kernel) (by decide +kernel))⟩
theorem cv_3_22 : gCV RX3 22 M_3_moveOldestToEnd 0 3 := ⟨c0_3_moveOldestToEnd, rfl, gAll_of 579 (by decide +kernel) (by decide +kernel), gAll_of 581 (by decide +kernel) (by decide +kernel), gAll_of 3 (by decide +kernel) (by decide +kernel), _, rfl, rfl⟩
theorem cv_3_25 : gCV RX3 25 M_6_copyFrom 1 6 := ⟨c0_6_copyFrom, rfl, gAll_of 583 (by decide +kernel) (by decide +kernel), gAll_of 584 (by decide +kernel) (by decide +kernel), gAll_of 585 (by decide +kernel) (by decide +kernel), _, rfl, rfl⟩
theorem oi_4_1 : Cond.methodLink RX4 1 Lib.objectInit ∈ gAll := gAll_of 185 (by decide +kernel) (by decide +kernel)
theorem nw_4_7 : gNw RX4 7 7 [.null, .int 0] := ⟨_, tyX7, rfl, gok_7, rfl, by decide +kernel, gAll_of 186 (by decide +kernel) (by decide +kernel), gAll_of 187 (by decide +kernel) (by decide +kernel), gAll_of 24 (by decide +kernel) (by decide +kernel)⟩
theorem ci_4_9 : gCI RX4 9 M_7_init 0 := ⟨c0_7_init, rfl, rfl, Or.inr ⟨"PluralMint", gOth_of 188 (by decide +kernel) (by decide +kernel)⟩, rfl, gAll_of 189 (by decide +kernel) (by decide +kernel)⟩
theorem fl_4_10 : gFl RX4 10 4 3 := ⟨_, tyX4, rfl, gok_4, by decide, Or.inl (gAll_of 204 (by decide +kernel) (by decide +kernel))⟩
theorem pf_4_10 : gPf RX4 10 4 3 (.object "PluralMint$Word") := ⟨_, tyX4, rfl, gok_4, by decide, rfl, rfl, rfl, gAll_of 204 (by decide +kernel) (by decide +kernel)⟩
theorem fl_4_16 : gFl RX4 16 4 4 := ⟨_, tyX4, rfl, gok_4, by decide, Or.inl (gAll_of 206 (by decide +kernel) (by decide +kernel))⟩
theorem pf_4_16 : gPf RX4 16 4 4 (.object "PluralMint$Word") := ⟨_, tyX4, rfl, gok_4, by decide, rfl, rfl, rfl, gAll_of 206 (by decide +kernel) (by decide +kernel)⟩
theorem fl_4_19 : gFl RX4 19 4 0 := ⟨_, tyX4, rfl, gok_4, by decide, Or.inl (gAll_of 199 (by decide +kernel) (by decide +kernel))⟩
theorem pt_4_19 : gPt RX4 19 4 0 (.int) := ⟨_, tyX4, rfl, gok_4, by decide, rfl, rfl, Or.inl (gAll_of 199 (by decide +kernel) (by decide +kernel))⟩
theorem fl_4_25 : gFl RX4 25 4 1 := ⟨_, tyX4, rfl, gok_4, by decide, Or.inl (gAll_of 201 (by decide +kernel) (by decide +kernel))⟩
theorem pt_4_25 : gPt RX4 25 4 1 (.int) := ⟨_, tyX4, rfl, gok_4, by decide, rfl, rfl, Or.inl (gAll_of 201 (by decide +kernel) (by decide +kernel))⟩
theorem fl_4_28 : gFl RX4 28 4 2 := ⟨_, tyX4, rfl, gok_4, by decide, Or.inl (gAll_of 203 (by decide +kernel) (by decide +kernel))⟩
theorem pt_4_28 : gPt RX4 28 4 2 (.boolean) := ⟨_, tyX4, rfl, gok_4, by decide, rfl, rfl, Or.inl (gAll_of 203 (by decide +kernel) (by decide +kernel))⟩
theorem cv_4_32 : gCV RX4 32 M_7_clear 0 7 := ⟨c0_7_clear, rfl, gAll_of 791 (by decide +kernel) (by decide +kernel), gAll_of 359 (by decide +kernel) (by decide +kernel), gAll_of 360 (by decide +kernel) (by decide +kernel), _, rfl, rfl⟩
theorem cn_4_35 : gCN RX4 35 M_9_isSmallLetter 1 := ⟨c0_9_isSmallLetter, rfl, ⟨"PluralMint", gOth_of 796 (by decide +kernel) (by decide +kernel)⟩, gAll_of 758 (by decide +kernel) (by decide +kernel)⟩
theorem cv_4_41 : gCV RX4 41 M_4_takeLetter 1 4 := ⟨c0_4_takeLetter, rfl, gAll_of 797 (by decide +kernel) (by decide +kernel), gAll_of 799 (by decide +kernel) (by decide +kernel), gAll_of 10 (by decide +kernel) (by decide +kernel), _, rfl, rfl⟩
theorem cv_4_45 : gCV RX4 45 M_7_append 1 7 := ⟨c0_7_append, rfl, gAll_of 801 (by decide +kernel) (by decide +kernel), gAll_of 230 (by decide +kernel) (by decide +kernel), gAll_of 231 (by decide +kernel) (by decide +kernel), _, rfl, rfl⟩
theorem oi_5_3 : Cond.methodLink RX5 3 Lib.objectInit ∈ gAll := gAll_of 45 (by decide +kernel) (by decide +kernel)
theorem fl_5_9 : gFl RX5 9 5 0 := ⟨_, tyX5, rfl, gok_5, by decide, Or.inl (gAll_of 60 (by decide +kernel) (by decide +kernel))⟩
theorem pf_5_9 : gPf RX5 9 5 0 (.array .char) := ⟨_, tyX5, rfl, gok_5, by decide, rfl, rfl, rfl, gAll_of 60 (by decide +kernel) (by decide +kernel)⟩
theorem nw_5_15 : gNw RX5 15 1 [.int 0, .int 0] := ⟨_, tyX1, rfl, gok_1, rfl, by decide +kernel, gAll_of 46 (by decide +kernel) (by decide +kernel), gAll_of 47 (by decide +kernel) (by decide +kernel), gAll_of 16 (by decide +kernel) (by decide +kernel)⟩
theorem ci_5_17 : gCI RX5 17 M_1_init 0 := ⟨c0_1_init, rfl, rfl, Or.inr ⟨"PluralMint", gOth_of 48 (by decide +kernel) (by decide +kernel)⟩, rfl, gAll_of 49 (by decide +kernel) (by decide +kernel)⟩
theorem fl_5_18 : gFl RX5 18 5 2 := ⟨_, tyX5, rfl, gok_5, by decide, Or.inl (gAll_of 62 (by decide +kernel) (by decide +kernel))⟩
theorem pf_5_18 : gPf RX5 18 5 2 (.object "PluralMint$Grammar") := ⟨_, tyX5, rfl, gok_5, by decide, rfl, rfl, rfl, gAll_of 62 (by decide +kernel) (by decide +kernel)⟩
theorem fl_5_22 : gFl RX5 22 5 1 := ⟨_, tyX5, rfl, gok_5, by decide, Or.inl (gAll_of 61 (by decide +kernel) (by decide +kernel))⟩
theorem pt_5_22 : gPt RX5 22 5 1 (.int) := ⟨_, tyX5, rfl, gok_5, by decide, rfl, rfl, Or.inl (gAll_of 61 (by decide +kernel) (by decide +kernel))⟩
theorem cv_5_26 : gCV RX5 26 M_1_start 0 1 := ⟨c0_1_start, rfl, gAll_of 745 (by decide +kernel) (by decide +kernel), gAll_of 746 (by decide +kernel) (by decide +kernel), gAll_of 747 (by decide +kernel) (by decide +kernel), _, rfl, rfl⟩
theorem cv_5_29 : gCV RX5 29 M_5_sign 1 5 := ⟨c0_5_sign, rfl, gAll_of 749 (by decide +kernel) (by decide +kernel), gAll_of 751 (by decide +kernel) (by decide +kernel), gAll_of 6 (by decide +kernel) (by decide +kernel), _, rfl, rfl⟩
theorem cv_5_33 : gCV RX5 33 M_1_take 1 1 := ⟨c0_1_take, rfl, gAll_of 753 (by decide +kernel) (by decide +kernel), gAll_of 754 (by decide +kernel) (by decide +kernel), gAll_of 755 (by decide +kernel) (by decide +kernel), _, rfl, rfl⟩
theorem cv_5_37 : gCV RX5 37 M_1_mayEnd 0 1 := ⟨c0_1_mayEnd, rfl, gAll_of 772 (by decide +kernel) (by decide +kernel), gAll_of 769 (by decide +kernel) (by decide +kernel), gAll_of 770 (by decide +kernel) (by decide +kernel), _, rfl, rfl⟩
theorem cv_5_41 : gCV RX5 41 M_4_clear 0 4 := ⟨c0_4_clear, rfl, gAll_of 787 (by decide +kernel) (by decide +kernel), gAll_of 788 (by decide +kernel) (by decide +kernel), gAll_of 789 (by decide +kernel) (by decide +kernel), _, rfl, rfl⟩
theorem cv_5_46 : gCV RX5 46 M_4_take 1 4 := ⟨c0_4_take, rfl, gAll_of 792 (by decide +kernel) (by decide +kernel), gAll_of 793 (by decide +kernel) (by decide +kernel), gAll_of 794 (by decide +kernel) (by decide +kernel), _, rfl, rfl⟩
theorem cn_5_49 : gCN RX5 49 M_9_isSmallLetter 1 := ⟨c0_9_isSmallLetter, rfl, ⟨"PluralMint", gOth_of 939 (by decide +kernel) (by decide +kernel)⟩, gAll_of 758 (by decide +kernel) (by decide +kernel)⟩
theorem cv_5_52 : gCV RX5 52 M_7_clear 0 7 := ⟨c0_7_clear, rfl, gAll_of 945 (by decide +kernel) (by decide +kernel), gAll_of 359 (by decide +kernel) (by decide +kernel), gAll_of 360 (by decide +kernel) (by decide +kernel), _, rfl, rfl⟩
theorem cv_5_55 : gCV RX5 55 M_7_append 1 7 := ⟨c0_7_append, rfl, gAll_of 946 (by decide +kernel) (by decide +kernel), gAll_of 230 (by decide +kernel) (by decide +kernel), gAll_of 231 (by decide +kernel) (by decide +kernel), _, rfl, rfl⟩
theorem oi_6_3 : Cond.methodLink RX6 3 Lib.objectInit ∈ gAll := gAll_of 75 (by decide +kernel) (by decide +kernel)
theorem nw_6_9 : gNw RX6 9 8 [.int 0, .null, .null, .int 0] := ⟨_, tyX8, rfl, gok_8, rfl, by decide +kernel, gAll_of 76 (by decide +kernel) (by decide +kernel), gAll_of 77 (by decide +kernel) (by decide +kernel), gAll_of 18 (by decide +kernel) (by decide +kernel)⟩
theorem ci_6_11 : gCI RX6 11 M_8_init 2 := ⟨c0_8_init, rfl, rfl, Or.inl (gAll_of 78 (by decide +kernel) (by decide +kernel)), rfl, gAll_of 79 (by decide +kernel) (by decide +kernel)⟩
theorem fl_6_14 : gFl RX6 14 6 0 := ⟨_, tyX6, rfl, gok_6, by decide, Or.inl (gAll_of 135 (by decide +kernel) (by decide +kernel))⟩
theorem pf_6_14 : gPf RX6 14 6 0 (.object "PluralMint$Words") := ⟨_, tyX6, rfl, gok_6, by decide, rfl, rfl, rfl, gAll_of 135 (by decide +kernel) (by decide +kernel)⟩
theorem fl_6_20 : gFl RX6 20 6 1 := ⟨_, tyX6, rfl, gok_6, by decide, Or.inl (gAll_of 137 (by decide +kernel) (by decide +kernel))⟩
theorem pf_6_20 : gPf RX6 20 6 1 (.object "PluralMint$Words") := ⟨_, tyX6, rfl, gok_6, by decide, rfl, rfl, rfl, gAll_of 137 (by decide +kernel) (by decide +kernel)⟩
theorem fl_6_23 : gFl RX6 23 6 2 := ⟨_, tyX6, rfl, gok_6, by decide, Or.inl (gAll_of 139 (by decide +kernel) (by decide +kernel))⟩
theorem pf_6_23 : gPf RX6 23 6 2 (.object "PluralMint$Words") := ⟨_, tyX6, rfl, gok_6, by decide, rfl, rfl, rfl, gAll_of 139 (by decide +kernel) (by decide +kernel)⟩
theorem nw_6_26 : gNw RX6 26 0 [.null, .null, .null] := ⟨_, tyX0, rfl, gok_0, rfl, by decide +kernel, gAll_of 99 (by decide +kernel) (by decide +kernel), gAll_of 100 (by decide +kernel) (by decide +kernel), gAll_of 20 (by decide +kernel) (by decide +kernel)⟩
theorem ci_6_28 : gCI RX6 28 M_0_init 0 := ⟨c0_0_init, rfl, rfl, Or.inr ⟨"PluralMint", gOth_of 101 (by decide +kernel) (by decide +kernel)⟩, rfl, gAll_of 102 (by decide +kernel) (by decide +kernel)⟩
theorem fl_6_29 : gFl RX6 29 6 3 := ⟨_, tyX6, rfl, gok_6, by decide, Or.inl (gAll_of 141 (by decide +kernel) (by decide +kernel))⟩
theorem pf_6_29 : gPf RX6 29 6 3 (.object "PluralMint$Dies") := ⟨_, tyX6, rfl, gok_6, by decide, rfl, rfl, rfl, gAll_of 141 (by decide +kernel) (by decide +kernel)⟩
theorem nw_6_33 : gNw RX6 33 2 [.null, .null, .null] := ⟨_, tyX2, rfl, gok_2, rfl, by decide +kernel, gAll_of 117 (by decide +kernel) (by decide +kernel), gAll_of 118 (by decide +kernel) (by decide +kernel), gAll_of 21 (by decide +kernel) (by decide +kernel)⟩
theorem ci_6_35 : gCI RX6 35 M_2_init 0 := ⟨c0_2_init, rfl, rfl, Or.inr ⟨"PluralMint", gOth_of 119 (by decide +kernel) (by decide +kernel)⟩, rfl, gAll_of 120 (by decide +kernel) (by decide +kernel)⟩
theorem fl_6_36 : gFl RX6 36 6 4 := ⟨_, tyX6, rfl, gok_6, by decide, Or.inl (gAll_of 143 (by decide +kernel) (by decide +kernel))⟩
theorem pf_6_36 : gPf RX6 36 6 4 (.object "PluralMint$Heaps") := ⟨_, tyX6, rfl, gok_6, by decide, rfl, rfl, rfl, gAll_of 143 (by decide +kernel) (by decide +kernel)⟩
theorem nw_6_40 : gNw RX6 40 7 [.null, .int 0] := ⟨_, tyX7, rfl, gok_7, rfl, by decide +kernel, gAll_of 227 (by decide +kernel) (by decide +kernel), gAll_of 187 (by decide +kernel) (by decide +kernel), gAll_of 24 (by decide +kernel) (by decide +kernel)⟩
theorem ci_6_42 : gCI RX6 42 M_7_init 0 := ⟨c0_7_init, rfl, rfl, Or.inr ⟨"PluralMint", gOth_of 228 (by decide +kernel) (by decide +kernel)⟩, rfl, gAll_of 189 (by decide +kernel) (by decide +kernel)⟩
theorem cv_6_43 : gCV RX6 43 M_7_append 1 7 := ⟨c0_7_append, rfl, gAll_of 229 (by decide +kernel) (by decide +kernel), gAll_of 230 (by decide +kernel) (by decide +kernel), gAll_of 231 (by decide +kernel) (by decide +kernel), _, rfl, rfl⟩
theorem cv_6_47 : gCV RX6 47 M_0_add 3 0 := ⟨c0_0_add, rfl, gAll_of 233 (by decide +kernel) (by decide +kernel), gAll_of 234 (by decide +kernel) (by decide +kernel), gAll_of 235 (by decide +kernel) (by decide +kernel), _, rfl, rfl⟩
theorem cv_6_51 : gCV RX6 51 M_8_load 2 8 := ⟨c0_8_load, rfl, gAll_of 354 (by decide +kernel) (by decide +kernel), gAll_of 355 (by decide +kernel) (by decide +kernel), gAll_of 356 (by decide +kernel) (by decide +kernel), _, rfl, rfl⟩
theorem cv_6_55 : gCV RX6 55 M_6_makePlural 1 6 := ⟨c0_6_makePlural, rfl, gAll_of 375 (by decide +kernel) (by decide +kernel), gAll_of 376 (by decide +kernel) (by decide +kernel), gAll_of 377 (by decide +kernel) (by decide +kernel), _, rfl, rfl⟩
theorem cv_6_59 : gCV RX6 59 M_8_find 1 8 := ⟨c0_8_find, rfl, gAll_of 379 (by decide +kernel) (by decide +kernel), gAll_of 380 (by decide +kernel) (by decide +kernel), gAll_of 381 (by decide +kernel) (by decide +kernel), _, rfl, rfl⟩
theorem cv_6_63 : gCV RX6 63 M_0_choose 1 0 := ⟨c0_0_choose, rfl, gAll_of 391 (by decide +kernel) (by decide +kernel), gAll_of 392 (by decide +kernel) (by decide +kernel), gAll_of 393 (by decide +kernel) (by decide +kernel), _, rfl, rfl⟩
theorem cv_6_66 : gCV RX6 66 M_0_press 2 0 := ⟨c0_0_press, rfl, gAll_of 410 (by decide +kernel) (by decide +kernel), gAll_of 411 (by decide +kernel) (by decide +kernel), gAll_of 412 (by decide +kernel) (by decide +kernel), _, rfl, rfl⟩
theorem cv_6_69 : gCV RX6 69 M_2_ownerOf 1 2 := ⟨c0_2_ownerOf, rfl, gAll_of 350 (by decide +kernel) (by decide +kernel), gAll_of 351 (by decide +kernel) (by decide +kernel), gAll_of 352 (by decide +kernel) (by decide +kernel), _, rfl, rfl⟩
theorem cv_6_73 : gCV RX6 73 M_2_bears 2 2 := ⟨c0_2_bears, rfl, gAll_of 420 (by decide +kernel) (by decide +kernel), gAll_of 421 (by decide +kernel) (by decide +kernel), gAll_of 422 (by decide +kernel) (by decide +kernel), _, rfl, rfl⟩
theorem fl_6_77 : gFl RX6 77 4 0 := ⟨_, tyX4, rfl, gok_4, by decide, Or.inr ⟨"PluralMint", gOth_of 200 (by decide +kernel) (by decide +kernel)⟩⟩
theorem fl_6_83 : gFl RX6 83 4 3 := ⟨_, tyX4, rfl, gok_4, by decide, Or.inr ⟨"PluralMint", gOth_of 205 (by decide +kernel) (by decide +kernel)⟩⟩
theorem fl_6_87 : gFl RX6 87 4 4 := ⟨_, tyX4, rfl, gok_4, by decide, Or.inr ⟨"PluralMint", gOth_of 207 (by decide +kernel) (by decide +kernel)⟩⟩
theorem fl_6_90 : gFl RX6 90 4 1 := ⟨_, tyX4, rfl, gok_4, by decide, Or.inr ⟨"PluralMint", gOth_of 202 (by decide +kernel) (by decide +kernel)⟩⟩
theorem cv_6_93 : gCV RX6 93 M_8_add 1 8 := ⟨c0_8_add, rfl, gAll_of 806 (by decide +kernel) (by decide +kernel), gAll_of 246 (by decide +kernel) (by decide +kernel), gAll_of 247 (by decide +kernel) (by decide +kernel), _, rfl, rfl⟩
theorem cv_6_96 : gCV RX6 96 M_8_put 2 8 := ⟨c0_8_put, rfl, gAll_of 807 (by decide +kernel) (by decide +kernel), gAll_of 254 (by decide +kernel) (by decide +kernel), gAll_of 255 (by decide +kernel) (by decide +kernel), _, rfl, rfl⟩
theorem cv_6_99 : gCV RX6 99 M_8_copyFrom 1 8 := ⟨c0_8_copyFrom, rfl, gAll_of 587 (by decide +kernel) (by decide +kernel), gAll_of 588 (by decide +kernel) (by decide +kernel), gAll_of 589 (by decide +kernel) (by decide +kernel), _, rfl, rfl⟩
theorem cv_6_103 : gCV RX6 103 M_0_copyFrom 1 0 := ⟨c0_0_copyFrom, rfl, gAll_of 599 (by decide +kernel) (by decide +kernel), gAll_of 600 (by decide +kernel) (by decide +kernel), gAll_of 601 (by decide +kernel) (by decide +kernel), _, rfl, rfl⟩
theorem cv_6_106 : gCV RX6 106 M_2_copyFrom 1 2 := ⟨c0_2_copyFrom, rfl, gAll_of 605 (by decide +kernel) (by decide +kernel), gAll_of 606 (by decide +kernel) (by decide +kernel), gAll_of 607 (by decide +kernel) (by decide +kernel), _, rfl, rfl⟩
theorem fl_6_109 : gFl RX6 109 6 5 := ⟨_, tyX6, rfl, gok_6, by decide, Or.inl (gAll_of 146 (by decide +kernel) (by decide +kernel))⟩
theorem pt_6_109 : gPt RX6 109 6 5 (.int) := ⟨_, tyX6, rfl, gok_6, by decide, rfl, rfl, Or.inl (gAll_of 146 (by decide +kernel) (by decide +kernel))⟩
theorem fl_6_112 : gFl RX6 112 6 6 := ⟨_, tyX6, rfl, gok_6, by decide, Or.inl (gAll_of 148 (by decide +kernel) (by decide +kernel))⟩
theorem pt_6_112 : gPt RX6 112 6 6 (.int) := ⟨_, tyX6, rfl, gok_6, by decide, rfl, rfl, Or.inl (gAll_of 148 (by decide +kernel) (by decide +kernel))⟩
theorem oi_7_3 : Cond.methodLink RX7 3 Lib.objectInit ∈ gAll := gAll_of 191 (by decide +kernel) (by decide +kernel)
theorem fl_7_9 : gFl RX7 9 7 0 := ⟨_, tyX7, rfl, gok_7, by decide, Or.inl (gAll_of 192 (by decide +kernel) (by decide +kernel))⟩
theorem pf_7_9 : gPf RX7 9 7 0 (.array .char) := ⟨_, tyX7, rfl, gok_7, by decide, rfl, rfl, rfl, gAll_of 192 (by decide +kernel) (by decide +kernel)⟩
theorem fl_7_15 : gFl RX7 15 7 1 := ⟨_, tyX7, rfl, gok_7, by decide, Or.inl (gAll_of 193 (by decide +kernel) (by decide +kernel))⟩
theorem pt_7_15 : gPt RX7 15 7 1 (.int) := ⟨_, tyX7, rfl, gok_7, by decide, rfl, rfl, Or.inl (gAll_of 193 (by decide +kernel) (by decide +kernel))⟩
theorem mm_7_19 : Cond.methodLink RX7 19 Lib.Math.max.name ∈ gAll := gAll_of 418 (by decide +kernel) (by decide +kernel)
theorem cv_7_25 : gCV RX7 25 M_7_letter 1 7 := ⟨c0_7_letter, rfl, gAll_of 951 (by decide +kernel) (by decide +kernel), gAll_of 265 (by decide +kernel) (by decide +kernel), gAll_of 266 (by decide +kernel) (by decide +kernel), _, rfl, rfl⟩
theorem mm_7_29 : Cond.methodLink RX7 29 Lib.Math.min.name ∈ gAll := gAll_of 968 (by decide +kernel) (by decide +kernel)
theorem ac_7_32 : Cond.methodLink RX7 32 arraycopyName ∈ gAll := gAll_of 969 (by decide +kernel) (by decide +kernel)
theorem oi_8_3 : Cond.methodLink RX8 3 Lib.objectInit ∈ gAll := gAll_of 81 (by decide +kernel) (by decide +kernel)
theorem mm_8_9 : Cond.methodLink RX8 9 Lib.Math.max.name ∈ gAll := gAll_of 82 (by decide +kernel) (by decide +kernel)
theorem fl_8_15 : gFl RX8 15 8 0 := ⟨_, tyX8, rfl, gok_8, by decide, Or.inl (gAll_of 85 (by decide +kernel) (by decide +kernel))⟩
theorem pf_8_15 : gPf RX8 15 8 0 (.int) := ⟨_, tyX8, rfl, gok_8, by decide, rfl, rfl, rfl, gAll_of 85 (by decide +kernel) (by decide +kernel)⟩
theorem fl_8_21 : gFl RX8 21 8 1 := ⟨_, tyX8, rfl, gok_8, by decide, Or.inl (gAll_of 86 (by decide +kernel) (by decide +kernel))⟩
theorem pf_8_21 : gPf RX8 21 8 1 (.array .char) := ⟨_, tyX8, rfl, gok_8, by decide, rfl, rfl, rfl, gAll_of 86 (by decide +kernel) (by decide +kernel)⟩
theorem fl_8_25 : gFl RX8 25 8 2 := ⟨_, tyX8, rfl, gok_8, by decide, Or.inl (gAll_of 87 (by decide +kernel) (by decide +kernel))⟩
theorem pf_8_25 : gPf RX8 25 8 2 (.array .int) := ⟨_, tyX8, rfl, gok_8, by decide, rfl, rfl, rfl, gAll_of 87 (by decide +kernel) (by decide +kernel)⟩
theorem fl_8_29 : gFl RX8 29 8 3 := ⟨_, tyX8, rfl, gok_8, by decide, Or.inl (gAll_of 88 (by decide +kernel) (by decide +kernel))⟩
theorem pt_8_29 : gPt RX8 29 8 3 (.int) := ⟨_, tyX8, rfl, gok_8, by decide, rfl, rfl, Or.inl (gAll_of 88 (by decide +kernel) (by decide +kernel))⟩
theorem cv_8_32 : gCV RX8 32 M_8_isFull 0 8 := ⟨c0_8_isFull, rfl, gAll_of 249 (by decide +kernel) (by decide +kernel), gAll_of 250 (by decide +kernel) (by decide +kernel), gAll_of 251 (by decide +kernel) (by decide +kernel), _, rfl, rfl⟩
theorem cv_8_36 : gCV RX8 36 M_8_put 2 8 := ⟨c0_8_put, rfl, gAll_of 253 (by decide +kernel) (by decide +kernel), gAll_of 254 (by decide +kernel) (by decide +kernel), gAll_of 255 (by decide +kernel) (by decide +kernel), _, rfl, rfl⟩
theorem cv_8_40 : gCV RX8 40 M_7_length 0 7 := ⟨c0_7_length, rfl, gAll_of 257 (by decide +kernel) (by decide +kernel), gAll_of 258 (by decide +kernel) (by decide +kernel), gAll_of 259 (by decide +kernel) (by decide +kernel), _, rfl, rfl⟩
theorem mm_8_46 : Cond.methodLink RX8 46 Lib.Math.min.name ∈ gAll := gAll_of 261 (by decide +kernel) (by decide +kernel)
theorem cv_8_49 : gCV RX8 49 M_7_letter 1 7 := ⟨c0_7_letter, rfl, gAll_of 264 (by decide +kernel) (by decide +kernel), gAll_of 265 (by decide +kernel) (by decide +kernel), gAll_of 266 (by decide +kernel) (by decide +kernel), _, rfl, rfl⟩
theorem cn_8_53 : gCN RX8 53 M_9_closeGap 2 := ⟨c0_9_closeGap, rfl, ⟨"PluralMint", gOth_of 652 (by decide +kernel) (by decide +kernel)⟩, gAll_of 653 (by decide +kernel) (by decide +kernel)⟩
theorem cv_8_57 : gCV RX8 57 M_7_clear 0 7 := ⟨c0_7_clear, rfl, gAll_of 358 (by decide +kernel) (by decide +kernel), gAll_of 359 (by decide +kernel) (by decide +kernel), gAll_of 360 (by decide +kernel) (by decide +kernel), _, rfl, rfl⟩
theorem cv_8_60 : gCV RX8 60 M_8_appendTo 2 8 := ⟨c0_8_appendTo, rfl, gAll_of 362 (by decide +kernel) (by decide +kernel), gAll_of 363 (by decide +kernel) (by decide +kernel), gAll_of 364 (by decide +kernel) (by decide +kernel), _, rfl, rfl⟩
theorem cv_8_63 : gCV RX8 63 M_8_lengthOf 1 8 := ⟨c0_8_lengthOf, rfl, gAll_of 366 (by decide +kernel) (by decide +kernel), gAll_of 367 (by decide +kernel) (by decide +kernel), gAll_of 368 (by decide +kernel) (by decide +kernel), _, rfl, rfl⟩
theorem cv_8_67 : gCV RX8 67 M_8_letterOf 2 8 := ⟨c0_8_letterOf, rfl, gAll_of 370 (by decide +kernel) (by decide +kernel), gAll_of 371 (by decide +kernel) (by decide +kernel), gAll_of 372 (by decide +kernel) (by decide +kernel), _, rfl, rfl⟩
theorem cv_8_71 : gCV RX8 71 M_7_append 1 7 := ⟨c0_7_append, rfl, gAll_of 374 (by decide +kernel) (by decide +kernel), gAll_of 230 (by decide +kernel) (by decide +kernel), gAll_of 231 (by decide +kernel) (by decide +kernel), _, rfl, rfl⟩
theorem cv_8_75 : gCV RX8 75 M_8_isEndOf 2 8 := ⟨c0_8_isEndOf, rfl, gAll_of 387 (by decide +kernel) (by decide +kernel), gAll_of 388 (by decide +kernel) (by decide +kernel), gAll_of 389 (by decide +kernel) (by decide +kernel), _, rfl, rfl⟩
theorem cv_8_79 : gCV RX8 79 M_8_isSame 2 8 := ⟨c0_8_isSame, rfl, gAll_of 383 (by decide +kernel) (by decide +kernel), gAll_of 384 (by decide +kernel) (by decide +kernel), gAll_of 385 (by decide +kernel) (by decide +kernel), _, rfl, rfl⟩
theorem ac_8_82 : Cond.methodLink RX8 82 arraycopyName ∈ gAll := gAll_of 591 (by decide +kernel) (by decide +kernel)
theorem cn_8_88 : gCN RX8 88 M_9_copyNumbers 2 := ⟨c0_9_copyNumbers, rfl, ⟨"PluralMint", gOth_of 594 (by decide +kernel) (by decide +kernel)⟩, gAll_of 595 (by decide +kernel) (by decide +kernel)⟩
theorem oi_9_1 : Cond.methodLink RX9 1 Lib.objectInit ∈ gAll := gAll_of 37 (by decide +kernel) (by decide +kernel)
theorem nw_9_7 : gNw RX9 7 5 [.null, .int 0, .null] := ⟨_, tyX5, rfl, gok_5, rfl, by decide +kernel, gAll_of 40 (by decide +kernel) (by decide +kernel), gAll_of 41 (by decide +kernel) (by decide +kernel), gAll_of 15 (by decide +kernel) (by decide +kernel)⟩
theorem ci_9_9 : gCI RX9 9 M_5_init 0 := ⟨c0_5_init, rfl, rfl, Or.inr ⟨"PluralMint", gOth_of 42 (by decide +kernel) (by decide +kernel)⟩, rfl, gAll_of 43 (by decide +kernel) (by decide +kernel)⟩
theorem fl_9_10 : gFl RX9 10 9 0 := ⟨_, tyX9, rfl, gok_9, by decide, Or.inl (gAll_of 268 (by decide +kernel) (by decide +kernel))⟩
theorem pf_9_10 : gPf RX9 10 9 0 (.object "PluralMint$OrderText") := ⟨_, tyX9, rfl, gok_9, by decide, rfl, rfl, rfl, gAll_of 268 (by decide +kernel) (by decide +kernel)⟩
theorem nw_9_16 : gNw RX9 16 6 [.null, .null, .null, .null, .null, .int 0, .int 0] := ⟨_, tyX6, rfl, gok_6, rfl, by decide +kernel, gAll_of 70 (by decide +kernel) (by decide +kernel), gAll_of 71 (by decide +kernel) (by decide +kernel), gAll_of 17 (by decide +kernel) (by decide +kernel)⟩
theorem ci_9_18 : gCI RX9 18 M_6_init 0 := ⟨c0_6_init, rfl, rfl, Or.inr ⟨"PluralMint", gOth_of 72 (by decide +kernel) (by decide +kernel)⟩, rfl, gAll_of 73 (by decide +kernel) (by decide +kernel)⟩
theorem fl_9_19 : gFl RX9 19 9 1 := ⟨_, tyX9, rfl, gok_9, by decide, Or.inl (gAll_of 269 (by decide +kernel) (by decide +kernel))⟩
theorem pf_9_19 : gPf RX9 19 9 1 (.object "PluralMint$State") := ⟨_, tyX9, rfl, gok_9, by decide, rfl, rfl, rfl, gAll_of 269 (by decide +kernel) (by decide +kernel)⟩
theorem fl_9_23 : gFl RX9 23 9 2 := ⟨_, tyX9, rfl, gok_9, by decide, Or.inl (gAll_of 270 (by decide +kernel) (by decide +kernel))⟩
theorem pf_9_23 : gPf RX9 23 9 2 (.object "PluralMint$State") := ⟨_, tyX9, rfl, gok_9, by decide, rfl, rfl, rfl, gAll_of 270 (by decide +kernel) (by decide +kernel)⟩
theorem nw_9_26 : gNw RX9 26 3 [.null, .int 0] := ⟨_, tyX3, rfl, gok_3, rfl, by decide +kernel, gAll_of 164 (by decide +kernel) (by decide +kernel), gAll_of 165 (by decide +kernel) (by decide +kernel), gAll_of 22 (by decide +kernel) (by decide +kernel)⟩
theorem ci_9_28 : gCI RX9 28 M_3_init 0 := ⟨c0_3_init, rfl, rfl, Or.inl (gAll_of 166 (by decide +kernel) (by decide +kernel)), rfl, gAll_of 167 (by decide +kernel) (by decide +kernel)⟩
theorem fl_9_29 : gFl RX9 29 9 4 := ⟨_, tyX9, rfl, gok_9, by decide, Or.inl (gAll_of 272 (by decide +kernel) (by decide +kernel))⟩
theorem pf_9_29 : gPf RX9 29 9 4 (.object "PluralMint$History") := ⟨_, tyX9, rfl, gok_9, by decide, rfl, rfl, rfl, gAll_of 272 (by decide +kernel) (by decide +kernel)⟩
theorem fl_9_33 : gFl RX9 33 9 5 := ⟨_, tyX9, rfl, gok_9, by decide, Or.inl (gAll_of 273 (by decide +kernel) (by decide +kernel))⟩
theorem pf_9_33 : gPf RX9 33 9 5 (.object "PluralMint$State") := ⟨_, tyX9, rfl, gok_9, by decide, rfl, rfl, rfl, gAll_of 273 (by decide +kernel) (by decide +kernel)⟩
theorem nw_9_36 : gNw RX9 36 4 [.int 0, .int 0, .int 0, .null, .null] := ⟨_, tyX4, rfl, gok_4, rfl, by decide +kernel, gAll_of 180 (by decide +kernel) (by decide +kernel), gAll_of 181 (by decide +kernel) (by decide +kernel), gAll_of 23 (by decide +kernel) (by decide +kernel)⟩
theorem ci_9_38 : gCI RX9 38 M_4_init 0 := ⟨c0_4_init, rfl, rfl, Or.inr ⟨"PluralMint", gOth_of 182 (by decide +kernel) (by decide +kernel)⟩, rfl, gAll_of 183 (by decide +kernel) (by decide +kernel)⟩
theorem fl_9_39 : gFl RX9 39 9 6 := ⟨_, tyX9, rfl, gok_9, by decide, Or.inl (gAll_of 274 (by decide +kernel) (by decide +kernel))⟩
theorem pf_9_39 : gPf RX9 39 9 6 (.object "PluralMint$Order") := ⟨_, tyX9, rfl, gok_9, by decide, rfl, rfl, rfl, gAll_of 274 (by decide +kernel) (by decide +kernel)⟩
theorem nw_9_43 : gNw RX9 43 7 [.null, .int 0] := ⟨_, tyX7, rfl, gok_7, rfl, by decide +kernel, gAll_of 219 (by decide +kernel) (by decide +kernel), gAll_of 187 (by decide +kernel) (by decide +kernel), gAll_of 24 (by decide +kernel) (by decide +kernel)⟩
theorem ci_9_45 : gCI RX9 45 M_7_init 0 := ⟨c0_7_init, rfl, rfl, Or.inr ⟨"PluralMint", gOth_of 220 (by decide +kernel) (by decide +kernel)⟩, rfl, gAll_of 189 (by decide +kernel) (by decide +kernel)⟩
theorem fl_9_46 : gFl RX9 46 9 7 := ⟨_, tyX9, rfl, gok_9, by decide, Or.inl (gAll_of 275 (by decide +kernel) (by decide +kernel))⟩
theorem pf_9_46 : gPf RX9 46 9 7 (.object "PluralMint$Word") := ⟨_, tyX9, rfl, gok_9, by decide, rfl, rfl, rfl, gAll_of 275 (by decide +kernel) (by decide +kernel)⟩
theorem fl_9_50 : gFl RX9 50 9 8 := ⟨_, tyX9, rfl, gok_9, by decide, Or.inl (gAll_of 276 (by decide +kernel) (by decide +kernel))⟩
theorem pf_9_50 : gPf RX9 50 9 8 (.object "PluralMint$Word") := ⟨_, tyX9, rfl, gok_9, by decide, rfl, rfl, rfl, gAll_of 276 (by decide +kernel) (by decide +kernel)⟩
theorem fl_9_53 : gFl RX9 53 9 9 := ⟨_, tyX9, rfl, gok_9, by decide, Or.inl (gAll_of 277 (by decide +kernel) (by decide +kernel))⟩
theorem pf_9_53 : gPf RX9 53 9 9 (.object "PluralMint$Word") := ⟨_, tyX9, rfl, gok_9, by decide, rfl, rfl, rfl, gAll_of 277 (by decide +kernel) (by decide +kernel)⟩
theorem nw_9_56 : gNw RX9 56 8 [.int 0, .null, .null, .int 0] := ⟨_, tyX8, rfl, gok_8, rfl, by decide +kernel, gAll_of 221 (by decide +kernel) (by decide +kernel), gAll_of 77 (by decide +kernel) (by decide +kernel), gAll_of 18 (by decide +kernel) (by decide +kernel)⟩
theorem ci_9_58 : gCI RX9 58 M_8_init 2 := ⟨c0_8_init, rfl, rfl, Or.inl (gAll_of 222 (by decide +kernel) (by decide +kernel)), rfl, gAll_of 79 (by decide +kernel) (by decide +kernel)⟩
theorem fl_9_61 : gFl RX9 61 9 10 := ⟨_, tyX9, rfl, gok_9, by decide, Or.inl (gAll_of 278 (by decide +kernel) (by decide +kernel))⟩
theorem pf_9_61 : gPf RX9 61 9 10 (.object "PluralMint$Words") := ⟨_, tyX9, rfl, gok_9, by decide, rfl, rfl, rfl, gAll_of 278 (by decide +kernel) (by decide +kernel)⟩
theorem fl_9_65 : gFl RX9 65 9 11 := ⟨_, tyX9, rfl, gok_9, by decide, Or.inl (gAll_of 279 (by decide +kernel) (by decide +kernel))⟩
theorem pf_9_65 : gPf RX9 65 9 11 (.object "PluralMint$Words") := ⟨_, tyX9, rfl, gok_9, by decide, rfl, rfl, rfl, gAll_of 279 (by decide +kernel) (by decide +kernel)⟩
theorem cv_9_68 : gCV RX9 68 M_6_addFirstDie 0 6 := ⟨c0_6_addFirstDie, rfl, gAll_of 223 (by decide +kernel) (by decide +kernel), gAll_of 224 (by decide +kernel) (by decide +kernel), gAll_of 225 (by decide +kernel) (by decide +kernel), _, rfl, rfl⟩
theorem cv_9_71 : gCV RX9 71 M_9_checkNoun 1 9 := ⟨c0_9_checkNoun, rfl, gAll_of 437 (by decide +kernel) (by decide +kernel), gAll_of 439 (by decide +kernel) (by decide +kernel), gAll_of 1 (by decide +kernel) (by decide +kernel), _, rfl, rfl⟩
theorem cs_9_75 : gCS RX9 75 M_9_checkMany 1 := ⟨c0_9_checkMany, gAll_of 526 (by decide +kernel) (by decide +kernel), gAll_of 527 (by decide +kernel) (by decide +kernel)⟩
theorem cv_9_78 : gCV RX9 78 M_6_loadPlural 2 6 := ⟨c0_6_loadPlural, rfl, gAll_of 545 (by decide +kernel) (by decide +kernel), gAll_of 546 (by decide +kernel) (by decide +kernel), gAll_of 547 (by decide +kernel) (by decide +kernel), _, rfl, rfl⟩
theorem fl_9_82 : gFl RX9 82 6 4 := ⟨_, tyX6, rfl, gok_6, by decide, Or.inr ⟨"PluralMint", gOth_of 144 (by decide +kernel) (by decide +kernel)⟩⟩
theorem cv_9_86 : gCV RX9 86 M_2_find 2 2 := ⟨c0_2_find, rfl, gAll_of 549 (by decide +kernel) (by decide +kernel), gAll_of 550 (by decide +kernel) (by decide +kernel), gAll_of 551 (by decide +kernel) (by decide +kernel), _, rfl, rfl⟩
theorem cv_9_92 : gCV RX9 92 M_2_isFull 0 2 := ⟨c0_2_isFull, rfl, gAll_of 554 (by decide +kernel) (by decide +kernel), gAll_of 555 (by decide +kernel) (by decide +kernel), gAll_of 556 (by decide +kernel) (by decide +kernel), _, rfl, rfl⟩
theorem cv_9_103 : gCV RX9 103 M_3_record 1 3 := ⟨c0_3_record, rfl, gAll_of 575 (by decide +kernel) (by decide +kernel), gAll_of 576 (by decide +kernel) (by decide +kernel), gAll_of 577 (by decide +kernel) (by decide +kernel), _, rfl, rfl⟩
theorem cv_9_107 : gCV RX9 107 M_2_open 3 2 := ⟨c0_2_open, rfl, gAll_of 611 (by decide +kernel) (by decide +kernel), gAll_of 612 (by decide +kernel) (by decide +kernel), gAll_of 613 (by decide +kernel) (by decide +kernel), _, rfl, rfl⟩
theorem cv_9_111 : gCV RX9 111 M_2_enlarge 2 2 := ⟨c0_2_enlarge, rfl, gAll_of 616 (by decide +kernel) (by decide +kernel), gAll_of 617 (by decide +kernel) (by decide +kernel), gAll_of 618 (by decide +kernel) (by decide +kernel), _, rfl, rfl⟩
theorem fl_9_114 : gFl RX9 114 6 5 := ⟨_, tyX6, rfl, gok_6, by decide, Or.inr ⟨"PluralMint", gOth_of 145 (by decide +kernel) (by decide +kernel)⟩⟩
theorem pt_9_114 : gPt RX9 114 6 5 (.int) := ⟨_, tyX6, rfl, gok_6, by decide, rfl, rfl, Or.inr ⟨"PluralMint", gOth_of 145 (by decide +kernel) (by decide +kernel)⟩⟩
theorem cv_9_118 : gCV RX9 118 M_2_coinsWith 1 2 := ⟨c0_2_coinsWith, rfl, gAll_of 509 (by decide +kernel) (by decide +kernel), gAll_of 510 (by decide +kernel) (by decide +kernel), gAll_of 511 (by decide +kernel) (by decide +kernel), _, rfl, rfl⟩
theorem cv_9_124 : gCV RX9 124 M_2_takeOldest 2 2 := ⟨c0_2_takeOldest, rfl, gAll_of 638 (by decide +kernel) (by decide +kernel), gAll_of 639 (by decide +kernel) (by decide +kernel), gAll_of 640 (by decide +kernel) (by decide +kernel), _, rfl, rfl⟩
theorem fl_9_127 : gFl RX9 127 6 6 := ⟨_, tyX6, rfl, gok_6, by decide, Or.inr ⟨"PluralMint", gOth_of 147 (by decide +kernel) (by decide +kernel)⟩⟩
theorem pt_9_127 : gPt RX9 127 6 6 (.int) := ⟨_, tyX6, rfl, gok_6, by decide, rfl, rfl, Or.inr ⟨"PluralMint", gOth_of 147 (by decide +kernel) (by decide +kernel)⟩⟩
theorem cv_9_130 : gCV RX9 130 M_2_count 0 2 := ⟨c0_2_count, rfl, gAll_of 333 (by decide +kernel) (by decide +kernel), gAll_of 334 (by decide +kernel) (by decide +kernel), gAll_of 335 (by decide +kernel) (by decide +kernel), _, rfl, rfl⟩
theorem cv_9_134 : gCV RX9 134 M_6_isStale 2 6 := ⟨c0_6_isStale, rfl, gAll_of 346 (by decide +kernel) (by decide +kernel), gAll_of 347 (by decide +kernel) (by decide +kernel), gAll_of 348 (by decide +kernel) (by decide +kernel), _, rfl, rfl⟩
theorem cv_9_138 : gCV RX9 138 M_2_coinsIn 1 2 := ⟨c0_2_coinsIn, rfl, gAll_of 338 (by decide +kernel) (by decide +kernel), gAll_of 339 (by decide +kernel) (by decide +kernel), gAll_of 340 (by decide +kernel) (by decide +kernel), _, rfl, rfl⟩
theorem cv_9_141 : gCV RX9 141 M_2_empty 1 2 := ⟨c0_2_empty, rfl, gAll_of 661 (by decide +kernel) (by decide +kernel), gAll_of 662 (by decide +kernel) (by decide +kernel), gAll_of 663 (by decide +kernel) (by decide +kernel), _, rfl, rfl⟩
theorem cv_9_144 : gCV RX9 144 M_2_removeEmpty 0 2 := ⟨c0_2_removeEmpty, rfl, gAll_of 665 (by decide +kernel) (by decide +kernel), gAll_of 645 (by decide +kernel) (by decide +kernel), gAll_of 646 (by decide +kernel) (by decide +kernel), _, rfl, rfl⟩
theorem cv_9_147 : gCV RX9 147 M_9_checkDie 1 9 := ⟨c0_9_checkDie, rfl, gAll_of 678 (by decide +kernel) (by decide +kernel), gAll_of 680 (by decide +kernel) (by decide +kernel), gAll_of 4 (by decide +kernel) (by decide +kernel), _, rfl, rfl⟩
theorem fl_9_152 : gFl RX9 152 6 3 := ⟨_, tyX6, rfl, gok_6, by decide, Or.inr ⟨"PluralMint", gOth_of 142 (by decide +kernel) (by decide +kernel)⟩⟩
theorem cv_9_156 : gCV RX9 156 M_0_remove 1 0 := ⟨c0_0_remove, rfl, gAll_of 684 (by decide +kernel) (by decide +kernel), gAll_of 685 (by decide +kernel) (by decide +kernel), gAll_of 686 (by decide +kernel) (by decide +kernel), _, rfl, rfl⟩
theorem cv_9_161 : gCV RX9 161 M_0_count 0 0 := ⟨c0_0_count, rfl, gAll_of 670 (by decide +kernel) (by decide +kernel), gAll_of 238 (by decide +kernel) (by decide +kernel), gAll_of 239 (by decide +kernel) (by decide +kernel), _, rfl, rfl⟩
theorem fl_9_162 : gFl RX9 162 6 1 := ⟨_, tyX6, rfl, gok_6, by decide, Or.inr ⟨"PluralMint", gOth_of 138 (by decide +kernel) (by decide +kernel)⟩⟩
theorem cv_9_165 : gCV RX9 165 M_8_count 0 8 := ⟨c0_8_count, rfl, gAll_of 328 (by decide +kernel) (by decide +kernel), gAll_of 242 (by decide +kernel) (by decide +kernel), gAll_of 243 (by decide +kernel) (by decide +kernel), _, rfl, rfl⟩
theorem cv_9_168 : gCV RX9 168 M_8_remove 1 8 := ⟨c0_8_remove, rfl, gAll_of 698 (by decide +kernel) (by decide +kernel), gAll_of 649 (by decide +kernel) (by decide +kernel), gAll_of 650 (by decide +kernel) (by decide +kernel), _, rfl, rfl⟩
theorem fl_9_169 : gFl RX9 169 6 2 := ⟨_, tyX6, rfl, gok_6, by decide, Or.inr ⟨"PluralMint", gOth_of 140 (by decide +kernel) (by decide +kernel)⟩⟩
theorem cv_9_172 : gCV RX9 172 M_5_isFull 0 5 := ⟨c0_5_isFull, rfl, gAll_of 712 (by decide +kernel) (by decide +kernel), gAll_of 713 (by decide +kernel) (by decide +kernel), gAll_of 714 (by decide +kernel) (by decide +kernel), _, rfl, rfl⟩
theorem cv_9_175 : gCV RX9 175 M_5_append 1 5 := ⟨c0_5_append, rfl, gAll_of 717 (by decide +kernel) (by decide +kernel), gAll_of 718 (by decide +kernel) (by decide +kernel), gAll_of 719 (by decide +kernel) (by decide +kernel), _, rfl, rfl⟩
theorem cv_9_179 : gCV RX9 179 M_5_length 0 5 := ⟨c0_5_length, rfl, gAll_of 309 (by decide +kernel) (by decide +kernel), gAll_of 310 (by decide +kernel) (by decide +kernel), gAll_of 311 (by decide +kernel) (by decide +kernel), _, rfl, rfl⟩
theorem cv_9_182 : gCV RX9 182 M_5_clear 0 5 := ⟨c0_5_clear, rfl, gAll_of 313 (by decide +kernel) (by decide +kernel), gAll_of 314 (by decide +kernel) (by decide +kernel), gAll_of 315 (by decide +kernel) (by decide +kernel), _, rfl, rfl⟩
theorem cv_9_185 : gCV RX9 185 M_5_firstError 0 5 := ⟨c0_5_firstError, rfl, gAll_of 741 (by decide +kernel) (by decide +kernel), gAll_of 742 (by decide +kernel) (by decide +kernel), gAll_of 743 (by decide +kernel) (by decide +kernel), _, rfl, rfl⟩
theorem cv_9_188 : gCV RX9 188 M_9_checkTextIsValid 0 9 := ⟨c0_9_checkTextIsValid, rfl, gAll_of 737 (by decide +kernel) (by decide +kernel), gAll_of 739 (by decide +kernel) (by decide +kernel), gAll_of 5 (by decide +kernel) (by decide +kernel), _, rfl, rfl⟩
theorem cv_9_191 : gCV RX9 191 M_9_tryOrders 0 9 := ⟨c0_9_tryOrders, rfl, gAll_of 774 (by decide +kernel) (by decide +kernel), gAll_of 776 (by decide +kernel) (by decide +kernel), gAll_of 9 (by decide +kernel) (by decide +kernel), _, rfl, rfl⟩
theorem cv_9_196 : gCV RX9 196 M_6_copyFrom 1 6 := ⟨c0_6_copyFrom, rfl, gAll_of 778 (by decide +kernel) (by decide +kernel), gAll_of 584 (by decide +kernel) (by decide +kernel), gAll_of 585 (by decide +kernel) (by decide +kernel), _, rfl, rfl⟩
theorem cv_9_199 : gCV RX9 199 M_5_orders 0 5 := ⟨c0_5_orders, rfl, gAll_of 779 (by decide +kernel) (by decide +kernel), gAll_of 780 (by decide +kernel) (by decide +kernel), gAll_of 781 (by decide +kernel) (by decide +kernel), _, rfl, rfl⟩
theorem cv_9_202 : gCV RX9 202 M_3_count 0 3 := ⟨c0_3_count, rfl, gAll_of 835 (by decide +kernel) (by decide +kernel), gAll_of 836 (by decide +kernel) (by decide +kernel), gAll_of 837 (by decide +kernel) (by decide +kernel), _, rfl, rfl⟩
theorem cv_9_205 : gCV RX9 205 M_3_giveBack 1 3 := ⟨c0_3_giveBack, rfl, gAll_of 840 (by decide +kernel) (by decide +kernel), gAll_of 841 (by decide +kernel) (by decide +kernel), gAll_of 842 (by decide +kernel) (by decide +kernel), _, rfl, rfl⟩
theorem fl_9_208 : gFl RX9 208 9 3 := ⟨_, tyX9, rfl, gok_9, by decide, Or.inl (gAll_of 271 (by decide +kernel) (by decide +kernel))⟩
theorem pt_9_208 : gPt RX9 208 9 3 (.boolean) := ⟨_, tyX9, rfl, gok_9, by decide, rfl, rfl, Or.inl (gAll_of 271 (by decide +kernel) (by decide +kernel))⟩
theorem fl_9_212 : gFl RX9 212 6 0 := ⟨_, tyX6, rfl, gok_6, by decide, Or.inr ⟨"PluralMint", gOth_of 136 (by decide +kernel) (by decide +kernel)⟩⟩
theorem cv_9_217 : gCV RX9 217 M_8_lengthOf 1 8 := ⟨c0_8_lengthOf, rfl, gAll_of 876 (by decide +kernel) (by decide +kernel), gAll_of 367 (by decide +kernel) (by decide +kernel), gAll_of 368 (by decide +kernel) (by decide +kernel), _, rfl, rfl⟩
theorem cv_9_220 : gCV RX9 220 M_7_length 0 7 := ⟨c0_7_length, rfl, gAll_of 900 (by decide +kernel) (by decide +kernel), gAll_of 258 (by decide +kernel) (by decide +kernel), gAll_of 259 (by decide +kernel) (by decide +kernel), _, rfl, rfl⟩
theorem cs_9_221 : gCS RX9 221 M_9_checkPlace 2 := ⟨c0_9_checkPlace, gAll_of 912 (by decide +kernel) (by decide +kernel), gAll_of 913 (by decide +kernel) (by decide +kernel)⟩
theorem cv_9_224 : gCV RX9 224 M_7_letter 1 7 := ⟨c0_7_letter, rfl, gAll_of 916 (by decide +kernel) (by decide +kernel), gAll_of 265 (by decide +kernel) (by decide +kernel), gAll_of 266 (by decide +kernel) (by decide +kernel), _, rfl, rfl⟩
theorem cs_9_228 : gCS RX9 228 M_9_checkCount 1 := ⟨c0_9_checkCount, gAll_of 908 (by decide +kernel) (by decide +kernel), gAll_of 909 (by decide +kernel) (by decide +kernel)⟩
theorem cv_9_231 : gCV RX9 231 M_8_load 2 8 := ⟨c0_8_load, rfl, gAll_of 860 (by decide +kernel) (by decide +kernel), gAll_of 355 (by decide +kernel) (by decide +kernel), gAll_of 356 (by decide +kernel) (by decide +kernel), _, rfl, rfl⟩
theorem cv_9_234 : gCV RX9 234 M_8_find 1 8 := ⟨c0_8_find, rfl, gAll_of 884 (by decide +kernel) (by decide +kernel), gAll_of 380 (by decide +kernel) (by decide +kernel), gAll_of 381 (by decide +kernel) (by decide +kernel), _, rfl, rfl⟩
theorem cv_9_237 : gCV RX9 237 M_0_choose 1 0 := ⟨c0_0_choose, rfl, gAll_of 892 (by decide +kernel) (by decide +kernel), gAll_of 392 (by decide +kernel) (by decide +kernel), gAll_of 393 (by decide +kernel) (by decide +kernel), _, rfl, rfl⟩
theorem cv_9_240 : gCV RX9 240 M_8_clear 0 8 := ⟨c0_8_clear, rfl, gAll_of 855 (by decide +kernel) (by decide +kernel), gAll_of 856 (by decide +kernel) (by decide +kernel), gAll_of 857 (by decide +kernel) (by decide +kernel), _, rfl, rfl⟩
theorem cv_9_241 : gCV RX9 241 M_8_add 1 8 := ⟨c0_8_add, rfl, gAll_of 859 (by decide +kernel) (by decide +kernel), gAll_of 246 (by decide +kernel) (by decide +kernel), gAll_of 247 (by decide +kernel) (by decide +kernel), _, rfl, rfl⟩
theorem cv_9_245 : gCV RX9 245 M_8_countOf 1 8 := ⟨c0_8_countOf, rfl, gAll_of 861 (by decide +kernel) (by decide +kernel), gAll_of 862 (by decide +kernel) (by decide +kernel), gAll_of 863 (by decide +kernel) (by decide +kernel), _, rfl, rfl⟩
theorem cv_9_248 : gCV RX9 248 M_9_loadWantedPlural 0 9 := ⟨c0_9_loadWantedPlural, rfl, gAll_of 931 (by decide +kernel) (by decide +kernel), gAll_of 933 (by decide +kernel) (by decide +kernel), gAll_of 11 (by decide +kernel) (by decide +kernel), _, rfl, rfl⟩
theorem cv_9_251 : gCV RX9 251 M_7_isSame 1 7 := ⟨c0_7_isSame, rfl, gAll_of 947 (by decide +kernel) (by decide +kernel), gAll_of 948 (by decide +kernel) (by decide +kernel), gAll_of 949 (by decide +kernel) (by decide +kernel), _, rfl, rfl⟩
theorem cv_9_254 : gCV RX9 254 M_9_collectOrigins 0 9 := ⟨c0_9_collectOrigins, rfl, gAll_of 959 (by decide +kernel) (by decide +kernel), gAll_of 961 (by decide +kernel) (by decide +kernel), gAll_of 12 (by decide +kernel) (by decide +kernel), _, rfl, rfl⟩
theorem cv_9_257 : gCV RX9 257 M_0_fits 2 0 := ⟨c0_0_fits, rfl, gAll_of 989 (by decide +kernel) (by decide +kernel), gAll_of 397 (by decide +kernel) (by decide +kernel), gAll_of 398 (by decide +kernel) (by decide +kernel), _, rfl, rfl⟩
theorem cv_9_278 : gCV RX9 278 M_5_isWord 0 5 := ⟨c0_5_isWord, rfl, gAll_of 935 (by decide +kernel) (by decide +kernel), gAll_of 936 (by decide +kernel) (by decide +kernel), gAll_of 937 (by decide +kernel) (by decide +kernel), _, rfl, rfl⟩
theorem cv_9_283 : gCV RX9 283 M_5_load 1 5 := ⟨c0_5_load, rfl, gAll_of 941 (by decide +kernel) (by decide +kernel), gAll_of 942 (by decide +kernel) (by decide +kernel), gAll_of 943 (by decide +kernel) (by decide +kernel), _, rfl, rfl⟩
theorem cv_9_286 : gCV RX9 286 M_5_read 2 5 := ⟨c0_5_read, rfl, gAll_of 783 (by decide +kernel) (by decide +kernel), gAll_of 784 (by decide +kernel) (by decide +kernel), gAll_of 785 (by decide +kernel) (by decide +kernel), _, rfl, rfl⟩
theorem cv_9_290 : gCV RX9 290 M_6_accept 1 6 := ⟨c0_6_accept, rfl, gAll_of 802 (by decide +kernel) (by decide +kernel), gAll_of 803 (by decide +kernel) (by decide +kernel), gAll_of 804 (by decide +kernel) (by decide +kernel), _, rfl, rfl⟩
theorem cv_9_294 : gCV RX9 294 M_8_isSame 2 8 := ⟨c0_8_isSame, rfl, gAll_of 963 (by decide +kernel) (by decide +kernel), gAll_of 384 (by decide +kernel) (by decide +kernel), gAll_of 385 (by decide +kernel) (by decide +kernel), _, rfl, rfl⟩
theorem cv_9_296 : gCV RX9 296 M_7_copyFrom 1 7 := ⟨c0_7_copyFrom, rfl, gAll_of 964 (by decide +kernel) (by decide +kernel), gAll_of 965 (by decide +kernel) (by decide +kernel), gAll_of 966 (by decide +kernel) (by decide +kernel), _, rfl, rfl⟩
theorem cv_9_298 : gCV RX9 298 M_0_reverse 2 0 := ⟨c0_0_reverse, rfl, gAll_of 970 (by decide +kernel) (by decide +kernel), gAll_of 971 (by decide +kernel) (by decide +kernel), gAll_of 972 (by decide +kernel) (by decide +kernel), _, rfl, rfl⟩
theorem cv_9_301 : gCV RX9 301 M_6_makePlural 1 6 := ⟨c0_6_makePlural, rfl, gAll_of 974 (by decide +kernel) (by decide +kernel), gAll_of 376 (by decide +kernel) (by decide +kernel), gAll_of 377 (by decide +kernel) (by decide +kernel), _, rfl, rfl⟩
theorem mm_9_304 : Cond.methodLink RX9 304 Lib.Math.max.name ∈ gAll := gAll_of 655 (by decide +kernel) (by decide +kernel)
theorem mm_9_310 : Cond.methodLink RX9 310 Lib.Math.min.name ∈ gAll := gAll_of 597 (by decide +kernel) (by decide +kernel)
theorem ac_9_313 : Cond.methodLink RX9 313 arraycopyName ∈ gAll := gAll_of 598 (by decide +kernel) (by decide +kernel)
/-- java/lang/IllegalStateException of strike, at 55: g_throw -/
theorem at_9_100 : ∀ w ∈ vx_atS RX9 100 "java/lang/IllegalStateException" ["java/lang/RuntimeException", "java/lang/Exception"], w ∈ gAll ∨ w ∈ gOth := by decide +kernel
theorem ot_9_100 : ∀ w ∈ Cond.classLink RX9 96 "java/lang/IllegalStateException" :: Cond.initialized "java/lang/IllegalStateException" :: vx_atS RX9 100 "java/lang/IllegalStateException" ["java/lang/RuntimeException", "java/lang/Exception"], vx_ot w = true := by decide +kernel
theorem th_9_strike_55 : gTh RX9 96 98 100 "java/lang/IllegalStateException" "there would be too many heaps" := ⟨by decide +kernel, gAll_of 559 (by decide +kernel) (by decide +kernel), gAll_of 30 (by decide +kernel) (by decide +kernel), by decide +kernel, at_9_100, ot_9_100⟩
/-- java/lang/IllegalStateException of melt, at 24: g_throw -/
theorem th_9_melt_24 : gTh RX9 96 122 100 "java/lang/IllegalStateException" "the noun has fewer coins" := ⟨by decide +kernel, gAll_of 559 (by decide +kernel) (by decide +kernel), gAll_of 30 (by decide +kernel) (by decide +kernel), by decide +kernel, at_9_100, ot_9_100⟩
/-- java/lang/IllegalStateException of dropDie, at 9: g_throw -/
theorem th_9_dropDie_9 : gTh RX9 96 150 100 "java/lang/IllegalStateException" "die 0 stays" := ⟨by decide +kernel, gAll_of 559 (by decide +kernel) (by decide +kernel), gAll_of 30 (by decide +kernel) (by decide +kernel), by decide +kernel, at_9_100, ot_9_100⟩
/-- java/lang/IllegalStateException of dropIrregular, at 17: g_throw -/
theorem th_9_dropIrregular_17 : gTh RX9 96 166 100 "java/lang/IllegalStateException" "the table is empty" := ⟨by decide +kernel, gAll_of 559 (by decide +kernel) (by decide +kernel), gAll_of 30 (by decide +kernel) (by decide +kernel), by decide +kernel, at_9_100, ot_9_100⟩
/-- java/lang/IllegalStateException of type, at 10: g_throw -/
theorem th_9_type_10 : gTh RX9 96 173 100 "java/lang/IllegalStateException" "the text is full" := ⟨by decide +kernel, gAll_of 559 (by decide +kernel) (by decide +kernel), gAll_of 30 (by decide +kernel) (by decide +kernel), by decide +kernel, at_9_100, ot_9_100⟩
/-- java/lang/IllegalStateException of carryOut, at 12: g_throw -/
theorem th_9_carryOut_12 : gTh RX9 96 194 100 "java/lang/IllegalStateException" "an order cannot be carried out" := ⟨by decide +kernel, gAll_of 559 (by decide +kernel) (by decide +kernel), gAll_of 30 (by decide +kernel) (by decide +kernel), by decide +kernel, at_9_100, ot_9_100⟩
/-- java/lang/IllegalStateException of undo, at 10: g_throw -/
theorem th_9_undo_10 : gTh RX9 96 203 100 "java/lang/IllegalStateException" "no state is recorded" := ⟨by decide +kernel, gAll_of 559 (by decide +kernel) (by decide +kernel), gAll_of 30 (by decide +kernel) (by decide +kernel), by decide +kernel, at_9_100, ot_9_100⟩
/-- java/lang/IllegalStateException of restoreSnapshot, at 7: g_throw -/
theorem th_9_restoreSnapshot_7 : gTh RX9 96 215 100 "java/lang/IllegalStateException" "there is no snapshot" := ⟨by decide +kernel, gAll_of 559 (by decide +kernel) (by decide +kernel), gAll_of 30 (by decide +kernel) (by decide +kernel), by decide +kernel, at_9_100, ot_9_100⟩
/-- java/lang/IndexOutOfBoundsException of checkNoun, at 18: g_throwW -/
theorem at_9_264 : ∀ w ∈ vx_atS RX9 264 "java/lang/IndexOutOfBoundsException" ["java/lang/RuntimeException", "java/lang/Exception"], w ∈ gAll ∨ w ∈ gOth := by decide +kernel
theorem ot_9_264 : ∀ w ∈ Cond.classLink RX9 260 "java/lang/IndexOutOfBoundsException" :: Cond.initialized "java/lang/IndexOutOfBoundsException" :: vx_atS RX9 264 "java/lang/IndexOutOfBoundsException" ["java/lang/RuntimeException", "java/lang/Exception"], vx_ot w = true := by decide +kernel
theorem th_9_checkNoun_18 : gTh RX9 260 262 264 "java/lang/IndexOutOfBoundsException" "no such noun" := ⟨by decide +kernel, gAll_of 441 (by decide +kernel) (by decide +kernel), gAll_of 28 (by decide +kernel) (by decide +kernel), by decide +kernel, at_9_264, ot_9_264⟩
/-- java/lang/IndexOutOfBoundsException of checkDie, at 18: g_throwW -/
theorem th_9_checkDie_18 : gTh RX9 260 265 264 "java/lang/IndexOutOfBoundsException" "no such die" := ⟨by decide +kernel, gAll_of 441 (by decide +kernel) (by decide +kernel), gAll_of 28 (by decide +kernel) (by decide +kernel), by decide +kernel, at_9_264, ot_9_264⟩
/-- java/lang/IndexOutOfBoundsException of checkPlace, at 12: g_throwW -/
theorem th_9_checkPlace_12 : gTh RX9 260 267 264 "java/lang/IndexOutOfBoundsException" "no such letter" := ⟨by decide +kernel, gAll_of 441 (by decide +kernel) (by decide +kernel), gAll_of 28 (by decide +kernel) (by decide +kernel), by decide +kernel, at_9_264, ot_9_264⟩
/-- java/lang/IllegalArgumentException of checkMany, at 11: g_throwW -/
theorem at_9_273 : ∀ w ∈ vx_atS RX9 273 "java/lang/IllegalArgumentException" ["java/lang/RuntimeException", "java/lang/Exception"], w ∈ gAll ∨ w ∈ gOth := by decide +kernel
theorem ot_9_273 : ∀ w ∈ Cond.classLink RX9 269 "java/lang/IllegalArgumentException" :: Cond.initialized "java/lang/IllegalArgumentException" :: vx_atS RX9 273 "java/lang/IllegalArgumentException" ["java/lang/RuntimeException", "java/lang/Exception"], vx_ot w = true := by decide +kernel
theorem th_9_checkMany_11 : gTh RX9 269 271 273 "java/lang/IllegalArgumentException" "many is out of range" := ⟨by decide +kernel, gAll_of 529 (by decide +kernel) (by decide +kernel), gAll_of 29 (by decide +kernel) (by decide +kernel), by decide +kernel, at_9_273, ot_9_273⟩
/-- java/lang/IllegalArgumentException of checkCount, at 11: g_throwW -/
theorem th_9_checkCount_11 : gTh RX9 269 274 273 "java/lang/IllegalArgumentException" "count is out of range" := ⟨by decide +kernel, gAll_of 529 (by decide +kernel) (by decide +kernel), gAll_of 29 (by decide +kernel) (by decide +kernel), by decide +kernel, at_9_273, ot_9_273⟩
/-- java/lang/IllegalStateException of checkTextIsValid, at 11: g_throwW -/
theorem th_9_checkTextIsValid_11 : gTh RX9 96 276 100 "java/lang/IllegalStateException" "the text is not valid" := ⟨by decide +kernel, gAll_of 559 (by decide +kernel) (by decide +kernel), gAll_of 30 (by decide +kernel) (by decide +kernel), by decide +kernel, at_9_100, ot_9_100⟩
/-- java/lang/IllegalStateException of loadWantedPlural, at 10: g_throwW -/
theorem th_9_loadWantedPlural_10 : gTh RX9 96 281 100 "java/lang/IllegalStateException" "the text is not a single word" := ⟨by decide +kernel, gAll_of 559 (by decide +kernel) (by decide +kernel), gAll_of 30 (by decide +kernel) (by decide +kernel), by decide +kernel, at_9_100, ot_9_100⟩
theorem oi_i : Cond.instanceMethod Lib.objectInit ∈ gAll := gAll_of 38 (by decide +kernel) (by decide +kernel)
theorem oi_c : Cond.code Lib.objectInit ⟨#[0xb1]⟩ 1 none ∈ gAll := gAll_of 39 (by decide +kernel) (by decide +kernel)
theorem mm_max_s : Cond.static Lib.Math.max.name ∈ gAll := gAll_of 83 (by decide +kernel) (by decide +kernel)
theorem mm_max_c : Cond.code Lib.Math.max.name Lib.Math.max.code 2 (some .int) ∈ gAll := gAll_of 84 (by decide +kernel) (by decide +kernel)
theorem mm_min_s : Cond.static Lib.Math.min.name ∈ gAll := gAll_of 262 (by decide +kernel) (by decide +kernel)
theorem mm_min_c : Cond.code Lib.Math.min.name Lib.Math.min.code 2 (some .int) ∈ gAll := gAll_of 263 (by decide +kernel) (by decide +kernel)
theorem mm_i : Cond.initialized "java/lang/Math" ∈ gAll := gAll_of 19 (by decide +kernel) (by decide +kernel)
theorem ac_n : Cond.native arraycopyName ∈ gAll := gAll_of 593 (by decide +kernel) (by decide +kernel)
theorem ac_s : Cond.static arraycopyName ∈ gAll := gAll_of 592 (by decide +kernel) (by decide +kernel)
theorem ac_i : Cond.initialized "java/lang/System" ∈ gAll := gAll_of 31 (by decide +kernel) (by decide +kernel)
theorem ak_char : Cond.arrayClass .char ∈ gAll := gAll_of 59 (by decide +kernel) (by decide +kernel)
theorem ak_int : Cond.arrayClass .int ∈ gAll := gAll_of 98 (by decide +kernel) (by decide +kernel)
theorem ao_6 : Cond.arrayOver (.object RX6) ∈ gOth := gOth_of 171 (by decide +kernel) (by decide +kernel)
theorem ca_IndexOutOfBoundsException : Cond.castable "java/lang/IndexOutOfBoundsException" "java/lang/IndexOutOfBoundsException" ∈ gOth := gOth_of 443 (by decide +kernel) (by decide +kernel)
theorem ak_byte : Cond.arrayClass .byte ∈ gAll := gAll_of 508 (by decide +kernel) (by decide +kernel)
theorem ca_IllegalArgumentException : Cond.castable "java/lang/IllegalArgumentException" "java/lang/IllegalArgumentException" ∈ gOth := gOth_of 531 (by decide +kernel) (by decide +kernel)
theorem ca_IllegalStateException : Cond.castable "java/lang/IllegalStateException" "java/lang/IllegalStateException" ∈ gOth := gOth_of 561 (by decide +kernel) (by decide +kernel)
end
section
/-! ===== heaps that grow, and what lies in them ===== -/
def gExt (h h' : Hp_) (S A : List Nat) : Prop := A.Nodup ∧ (∀ x ∈ A, h x = none ∧ h' x ≠ none) ∧ (∀ q, h q ≠ none → h' q ≠ none) ∧ ∀ q, q ∉ S → h q ≠ none → h' q = h q
theorem gExt.refl {h : Hp_} : gExt h h [] [] := ⟨List.nodup_nil, fun x hx => (nomatch hx), fun _ q => q, fun _ _ _ => rfl⟩
theorem gExt.trans {h h1 h2 : Hp_} {S S1 A B : List Nat} (e1 : gExt h h1 S A) (e2 : gExt h1 h2 S1 B) (hs : ∀ x ∈ S1, x ∈ S ∨ x ∈ A) : gExt h h2 S (A ++ B) := by
  obtain ⟨a1, a2, a3, a4⟩ := e1
  obtain ⟨b1, b2, b3, b4⟩ := e2
  refine ⟨?_, ?_, fun q hq => b3 q (a3 q hq), ?_⟩
  · rw [List.nodup_append]
    exact ⟨a1, b1, fun x hx y hy e => (a2 x hx).2 (by rw [e]; exact (b2 y hy).1)⟩
  · intro x hx
    rcases List.mem_append.mp hx with hx | hx
    · exact ⟨(a2 x hx).1, b3 x (a2 x hx).2⟩
    · refine ⟨?_, (b2 x hx).2⟩
      cases hh : h x with
      | none => rfl
      | some e => exact absurd (b2 x hx).1 (a3 x (by rw [hh]; exact fun z => by cases z))
  · intro q hq hn
    rw [b4 q (fun hx => ?_) (a3 q hn), a4 q hq hn]
    rcases hs q hx with hx | hx
    · exact hq hx
    · exact hn (a2 q hx).1
theorem gExt.new {h : Hp_} {q : Nat} {e : Ent_} (hq : h q = none) : gExt h (gu h q e) [] [q] := by
  refine ⟨by simp, fun x hx => ?_, fun x hx => ?_, fun x _ hx => ?_⟩
  · rw [List.mem_singleton.mp hx]
    exact ⟨hq, by rw [gu_same]; exact fun z => by cases z⟩
  · by_cases n : x = q
    · rw [n, gu_same]; exact fun z => by cases z
    · rw [gu_ne n]; exact hx
  · exact gu_ne (fun n => hx (by rw [n]; exact hq))
theorem gExt.put {h : Hp_} {a : Nat} {e e0 : Ent_} (ha : h a = some e0) : gExt h (gu h a e) [a] [] := by
  refine ⟨List.nodup_nil, fun x hx => (nomatch hx), fun x hx => ?_, fun x hs _ => ?_⟩
  · by_cases n : x = a
    · rw [n, gu_same]; exact fun z => by cases z
    · rw [gu_ne n]; exact hx
  · exact gu_ne (fun n => hs (by rw [n]; exact List.mem_singleton.mpr rfl))
theorem gExt.weak {h h' : Hp_} {S S' A : List Nat} (e : gExt h h' S A) (hs : ∀ x ∈ S, x ∈ S') : gExt h h' S' A := ⟨e.1, e.2.1, e.2.2.1, fun q hq hn => e.2.2.2 q (fun z => hq (hs q z)) hn⟩
theorem gExt.keep {h h' : Hp_} {S A : List Nat} {x : Nat} {v : Ent_} (e : gExt h h' S A) (hx : h x = some v) (hs : x ∉ S) : h' x = some v := by rw [e.2.2.2 x hs (by rw [hx]; exact fun z => by cases z)]; exact hx
theorem gExt.fresh {h h' : Hp_} {S A : List Nat} {x y : Nat} {v : Ent_} (e : gExt h h' S A) (hx : h x = some v) (hy : y ∈ A) : x ≠ y := fun n => by rw [n, (e.2.1 y hy).1] at hx; cases hx
/-- an array of numbers, as far as it reaches -/
def arA (h : Hp_) (a : Nat) (ty : FieldType) (n : Nat) (f : Nat → Int32) : Prop := ∃ f', h a = some (.inl (false, ty, (n, .inl f'))) ∧ ∀ j, j < n → f' j = f j
theorem arA.keep {h h' : Hp_} {S A : List Nat} {a n : Nat} {ty : FieldType} {f : Nat → Int32} (H : arA h a ty n f) (e : gExt h h' S A) (hs : a ∉ S) : arA h' a ty n f := by
  obtain ⟨f', h1, h2⟩ := H
  exact ⟨f', e.keep h1 hs, h2⟩
theorem arA.at {h : Hp_} {a n : Nat} {ty : FieldType} {f : Nat → Int32} (H : h a = some (.inl (false, ty, (n, .inl f)))) : arA h a ty n f := ⟨f, H, fun _ _ => rfl⟩
/-- letters, lengths, count -/
abbrev W3_ : Type := (Nat → Int32) × (Nat → Int32) × Int32
def wsA (h : Hp_) (a la na rows width : Nat) (w : W3_) : Prop := h a = some (.inr (8, [.int (nI width), .ref la, .ref na, .int w.2.2])) ∧ arA h la .char (rows * width) w.1 ∧ arA h na .int rows w.2.1
theorem wsA.keep {h h' : Hp_} {S A : List Nat} {a la na rows width : Nat} {w : W3_} (H : wsA h a la na rows width w) (e : gExt h h' S A) (h1 : a ∉ S) (h2 : la ∉ S) (h3 : na ∉ S) : wsA h' a la na rows width w := ⟨e.keep H.1 h1, H.2.1.keep e h2, H.2.2.keep e h3⟩
def w30 : W3_ := (fun _ => 0, fun _ => 0, 0)
theorem nI_cl {n : Nat} (h : n < 2 ^ 31) : (nI n).toNatClampNeg = n := nI_clamp h
theorem gk_of {fr lo kc ks pc : Nat} {M : Mi_} {lv : List (Nat × Value)} {h : Hp_} {Q : Ot_ → Hp_ → Prop} {E : String} {h' : Hp_} (hh : M.2.2.2.2 = []) (hq : Q (.inr E) h') : gGX fr lo kc ks M pc lv E h' Q := gx_out M hh hq
/-! the rows that change the heap, each with the new heap under a name of its own -/
section GE
variable {fr lo kc ks pc : Nat} (M : Mi_) {lv : List (Nat × Value)} {st : List Value} {h : Hp_} {Q : Ot_ → Hp_ → Prop}
theorem e_put {idx ci k a : Nat} {fs : List Value} {v : Value} {t : FieldType} (d : decode M.2.1 pc = .ok (.putfield idx, 3)) (f : gPt M.1.cls idx ci k t) (hh : h a = some (.inr (ci, fs))) (hn : narrow t v = v) (hft : fits t v = true) (kk : ∀ h', h' a = some (.inr (ci, fs.set k v)) → gExt h h' [a] [] → gG fr lo kc ks M (pc + 3) lv st h' Q) : gG fr lo kc ks M pc lv (v :: .ref a :: st) h Q :=
  g_put M d f hh hn hft (kk _ gu_same (gExt.put hh))
theorem e_putF {idx ci k a : Nat} {fs : List Value} {v : Value} {t : FieldType} (d : decode M.2.1 pc = .ok (.putfield idx, 3)) (f : gPf M.1.cls idx ci k t) (hin : M.1.name = "<init>") (hh : h a = some (.inr (ci, fs))) (hn : narrow t v = v) (hft : fits t v = true) (kk : ∀ h', h' a = some (.inr (ci, fs.set k v)) → gExt h h' [a] [] → gG fr lo kc ks M (pc + 3) lv st h' Q) : gG fr lo kc ks M pc lv (v :: .ref a :: st) h Q :=
  g_putF M d f hin hh hn hft (kk _ gu_same (gExt.put hh))
theorem e_new {idx ci kc' ks' N : Nat} {fs : List Value} (d : decode M.2.1 pc = .ok (.new idx, 3)) (f : gNw M.1.cls idx ci fs) (hN : fs.length = N) (hkc : 1 + kc' ≤ kc) (hks : N + ks' ≤ ks) (kk : ∀ q h', h' q = some (.inr (ci, fs)) → gExt h h' [] [q] → gG fr lo kc' ks' M (pc + 3) lv (.ref q :: st) h' Q) : gG fr lo kc ks M pc lv st h Q :=
  g_new M d f hN hkc hks (fun q hq => kk q _ gu_same (gExt.new hq))
theorem e_newI {n : Int32} {N kc' ks' : Nat} (d : decode M.2.1 pc = .ok (.newarray .int, 2)) (hn : ¬ n < 0) (hN : n.toNatClampNeg = N) (hb8 : N ≤ 67108864) (hkc : 1 + kc' ≤ kc) (hks : N + ks' ≤ ks) (kk : ∀ q h', h' q = some (.inl (false, .int, (N, .inl (fun _ => 0)))) → gExt h h' [] [q] → gG fr lo kc' ks' M (pc + 2) lv (.ref q :: st) h' Q) : gG fr lo kc ks M pc lv (.int n :: st) h Q :=
  g_newarray M (ty := .int) d rfl ak_int (Or.inl rfl) hn hN hb8 hkc hks (fun q hq => kk q _ gu_same (gExt.new hq))
theorem e_newC {n : Int32} {N kc' ks' : Nat} (d : decode M.2.1 pc = .ok (.newarray .char, 2)) (hn : ¬ n < 0) (hN : n.toNatClampNeg = N) (hb8 : N ≤ 67108864) (hkc : 1 + kc' ≤ kc) (hks : N + ks' ≤ ks) (kk : ∀ q h', h' q = some (.inl (false, .char, (N, .inl (fun _ => 0)))) → gExt h h' [] [q] → gG fr lo kc' ks' M (pc + 2) lv (.ref q :: st) h' Q) : gG fr lo kc ks M pc lv (.int n :: st) h Q :=
  g_newarray M (ty := .char) d rfl ak_char (Or.inr (Or.inl rfl)) hn hN hb8 hkc hks (fun q hq => kk q _ gu_same (gExt.new hq))
theorem e_newA {idx : Nat} {E : String} {n : Int32} {N kc' ks' : Nat} (d : decode M.2.1 pc = .ok (.anewarray idx, 3)) (hw : Cond.classLink M.1.cls idx E ∈ gAll) (ho : Cond.arrayOver (.object E) ∈ gOth) (hn : ¬ n < 0) (hN : n.toNatClampNeg = N) (hb8 : N ≤ 67108864) (hkc : 1 + kc' ≤ kc) (hks : N + ks' ≤ ks) (kk : ∀ q h', h' q = some (.inl (false, .object E, (N, .inr (.inr (.inr (.inr (fun _ => none))))))) → gExt h h' [] [q] → gG fr lo kc' ks' M (pc + 3) lv (.ref q :: st) h' Q) : gG fr lo kc ks M pc lv (.int n :: st) h Q :=
  g_anewarray M d hw ho hn hN hb8 hkc hks (fun q hq => kk q _ gu_same (gExt.new hq))
theorem e_ias {a n : Nat} {f : Nat → Int32} {i x : Int32} (d : decode M.2.1 pc = .ok (.iastore, 1)) (hh : h a = some (.inl (false, .int, (n, .inl f)))) (hin : vp_in i n) (kk : ∀ h', h' a = some (.inl (false, .int, (n, .inl (upd f i.toNatClampNeg x)))) → gExt h h' [a] [] → gG fr lo kc ks M (pc + 1) lv st h' Q) : gG fr lo kc ks M pc lv (.int x :: .int i :: .ref a :: st) h Q :=
  g_iastore M d hh hin (kk _ gu_same (gExt.put hh))
theorem e_cas {a n : Nat} {f : Nat → Int32} {i x : Int32} (d : decode M.2.1 pc = .ok (.castore, 1)) (hh : h a = some (.inl (false, .char, (n, .inl f)))) (hin : vp_in i n) (hx : narrow .char (.int x) = .int x) (kk : ∀ h', h' a = some (.inl (false, .char, (n, .inl (upd f i.toNatClampNeg x)))) → gExt h h' [a] [] → gG fr lo kc ks M (pc + 1) lv st h' Q) : gG fr lo kc ks M pc lv (.int x :: .int i :: .ref a :: st) h Q :=
  g_castore M d hh hin hx (kk _ gu_same (gExt.put hh))
theorem e_aas {a n v ci : Nat} {E : String} {f : Nat → Option Nat} {i : Int32} {vs : List Value} {r : vw_C} (d : decode M.2.1 pc = .ok (.aastore, 1)) (hh : h a = some (.inl (false, .object E, (n, .inr (.inr (.inr (.inr f))))))) (hv : h v = some (.inr (ci, vs))) (hc : gCl[ci]? = some r) (hE : r.1 = E) (hin : vp_in i n) (kk : ∀ h', h' a = some (.inl (false, .object E, (n, .inr (.inr (.inr (.inr (va_up f i.toNatClampNeg (some v)))))))) → gExt h h' [a] [] → gG fr lo kc ks M (pc + 1) lv st h' Q) : gG fr lo kc ks M pc lv (.ref v :: .int i :: .ref a :: st) h Q :=
  g_aastore M d hh hv hc hE hin (kk _ gu_same (gExt.put hh))
theorem e_copy {idx a0 a n0 n1 : Nat} {ty : FieldType} {f g : Nat → Int32} {sp dp n : Int32} (d : decode M.2.1 pc = .ok (.invokestatic idx, 3)) (hw1 : Cond.methodLink M.1.cls idx arraycopyName ∈ gAll)
    (h0 : h a0 = some (.inl (false, ty, (n0, .inl f)))) (h1 : h a = some (.inl (false, ty, (n1, .inl g)))) (hprim : refKind ty = false) (s1 : ¬ sp < 0) (s2 : ¬ dp < 0) (s3 : ¬ n < 0) (s4 : sp.toNatClampNeg + n.toNatClampNeg ≤ n0) (s5 : dp.toNatClampNeg + n.toNatClampNeg ≤ n1) (hfit : ∀ i, i < n.toNatClampNeg → fits ty (.int (f (sp.toNatClampNeg + i))) = true)
    (hfr : 1 ≤ fr) (hlo : (st.map fun v => v.category).sum + (nativeFrameWords "java/lang/System" "arraycopy" 5 + 11) ≤ lo)
    (kk : ∀ h', h' a = some (.inl (false, ty, (n1, .inl (va_cpy f g sp.toNatClampNeg dp.toNatClampNeg n.toNatClampNeg)))) → gExt h h' [a] [] → gG fr lo kc ks M (pc + 3) lv st h' Q) : gG fr lo kc ks M pc lv (.int n :: .int dp :: .ref a :: .int sp :: .ref a0 :: st) h Q :=
  g_copy M d hw1 ac_n ac_s ac_i h0 h1 hprim s1 s2 s3 s4 s5 hfit hfr hlo (kk _ gu_same (gExt.put h1))
end GE
theorem gExt.new_ne {h h' : Hp_} {S A : List Nat} {x y : Nat} {v : Ent_} (e : gExt h h' S A) (hx : h x = some v) (hy : y ∈ A) : y ≠ x := fun n => e.fresh hx hy n.symm
/-- a Word: letters (16), length -/
def wdA (h : Hp_) (a la : Nat) (f : Nat → Int32) (n : Int32) : Prop := h a = some (.inr (7, [.ref la, .int n])) ∧ arA h la .char 16 f
theorem wdA.keep {h h' : Hp_} {S A : List Nat} {a la : Nat} {f : Nat → Int32} {n : Int32} (H : wdA h a la f n) (e : gExt h h' S A) (h1 : a ∉ S) (h2 : la ∉ S) : wdA h' a la f n := ⟨e.keep H.1 h1, H.2.keep e h2⟩
abbrev Di_ : Type := W3_ × W3_ × (Nat → Int32)
def diA (h : Hp_) (a e le ne d ld nd c : Nat) (v : Di_) : Prop := h a = some (.inr (0, [.ref e, .ref d, .ref c])) ∧ wsA h e le ne 12 4 v.1 ∧ wsA h d ld nd 12 4 v.2.1 ∧ arA h c .int 12 v.2.2
abbrev He_ : Type := W3_ × (Nat → Int32) × (Nat → Int32)
def heA (h : Hp_) (a m lm nm o c : Nat) (v : He_) : Prop := h a = some (.inr (2, [.ref m, .ref o, .ref c])) ∧ wsA h m lm nm 30 16 v.1 ∧ arA h o .int 30 v.2.1 ∧ arA h c .int 30 v.2.2
theorem diA.keep {h h' : Hp_} {S A : List Nat} {a e le ne d ld nd c : Nat} {v : Di_} (H : diA h a e le ne d ld nd c v) (x : gExt h h' S A) (hs : ∀ q ∈ [a, e, le, ne, d, ld, nd, c], q ∉ S) : diA h' a e le ne d ld nd c v :=
  ⟨x.keep H.1 (hs _ (by simp)), H.2.1.keep x (hs _ (by simp)) (hs _ (by simp)) (hs _ (by simp)), H.2.2.1.keep x (hs _ (by simp)) (hs _ (by simp)) (hs _ (by simp)), H.2.2.2.keep x (hs _ (by simp))⟩
theorem heA.keep {h h' : Hp_} {S A : List Nat} {a m lm nm o c : Nat} {v : He_} (H : heA h a m lm nm o c v) (x : gExt h h' S A) (hs : ∀ q ∈ [a, m, lm, nm, o, c], q ∉ S) : heA h' a m lm nm o c v :=
  ⟨x.keep H.1 (hs _ (by simp)), H.2.1.keep x (hs _ (by simp)) (hs _ (by simp)) (hs _ (by simp)), H.2.2.1.keep x (hs _ (by simp)), H.2.2.2.keep x (hs _ (by simp))⟩
def di0 : Di_ := (w30, w30, fun _ => 0)
def he0 : He_ := (w30, fun _ => 0, fun _ => 0)
/-- a State: its 24 cells by a map of places; nouns, irregular words, their plurals, dies, heaps, struck, melted -/
abbrev St_ : Type := W3_ × W3_ × W3_ × Di_ × He_ × Int32 × Int32
def stA (h : Hp_) (r : Nat → Nat) (v : St_) : Prop :=
  h (r 0) = some (.inr (6, [.ref (r 1), .ref (r 4), .ref (r 7), .ref (r 10), .ref (r 18), .int v.2.2.2.2.2.1, .int v.2.2.2.2.2.2])) ∧ wsA h (r 1) (r 2) (r 3) 20 12 v.1 ∧ wsA h (r 4) (r 5) (r 6) 10 12 v.2.1 ∧ wsA h (r 7) (r 8) (r 9) 10 12 v.2.2.1 ∧
  diA h (r 10) (r 11) (r 12) (r 13) (r 14) (r 15) (r 16) (r 17) v.2.2.2.1 ∧ heA h (r 18) (r 19) (r 20) (r 21) (r 22) (r 23) v.2.2.2.2.1
def st0 : St_ := (w30, w30, w30, di0, he0, 0, 0)
theorem stA.keep {h h' : Hp_} {S A : List Nat} {r : Nat → Nat} {v : St_} (H : stA h r v) (x : gExt h h' S A) (hs : ∀ k, k < 24 → r k ∉ S) : stA h' r v := by
  obtain ⟨h1, h2, h3, h4, h5, h6⟩ := H
  refine ⟨x.keep h1 (hs _ (by decide)), h2.keep x (hs _ (by decide)) (hs _ (by decide)) (hs _ (by decide)), h3.keep x (hs _ (by decide)) (hs _ (by decide)) (hs _ (by decide)), h4.keep x (hs _ (by decide)) (hs _ (by decide)) (hs _ (by decide)), h5.keep x (fun q hq => ?_), h6.keep x (fun q hq => ?_)⟩
  · simp only [List.mem_cons, List.not_mem_nil, or_false] at hq
    rcases hq with rfl | rfl | rfl | rfl | rfl | rfl | rfl | rfl <;> exact hs _ (by decide)
  · simp only [List.mem_cons, List.not_mem_nil, or_false] at hq
    rcases hq with rfl | rfl | rfl | rfl | rfl | rfl <;> exact hs _ (by decide)
theorem gExt.mem_ne {h h' : Hp_} {S A : List Nat} {a x : Nat} {v : Ent_} (e : gExt h h' S A) (ha : h a = some v) (hx : x ∈ A) : x ∉ [a] := by
  rw [List.mem_singleton]
  exact e.new_ne ha hx
theorem gExt.trans1 {h h1 h2 : Hp_} {S S1 A B : List Nat} (e1 : gExt h h1 S A) (e2 : gExt h1 h2 S1 B) (hs : S1.all (fun x => decide (x ∈ S ++ A)) = true) : gExt h h2 S (A ++ B) := e1.trans e2 (fun x hx => List.mem_append.mp (by simpa using List.all_eq_true.mp hs x hx))
end
section
set_option maxHeartbeats 4000000 in
set_option maxRecDepth 100000 in
theorem C_8_init {a rows width : Nat} {h : Hp_} {Q : Ot_ → Hp_ → Prop} (hr : rows ≤ 30) (hw : width ≤ 16) (h0 : h a = some (.inr (8, [.int 0, .null, .null, .int 0]))) (k : ∀ la na h', gExt h h' [a] [la, na] → wsA h' a la na rows width w30 → Q (.inl none) h') : gG 1 60 2 (rows * width + rows) M_8_init 0 (lv_args 0 [.ref a, .int (nI rows), .int (nI width)]) [] h Q := by
  have b1 : rows * width ≤ 480 := Nat.le_trans (Nat.mul_le_mul hr hw) (by decide)
  have mx : ∀ n : Nat, n < 2 ^ 31 → (if nI 0 < nI n then nI n else nI 0) = nI n := by
    intro n hn
    by_cases z : n = 0
    · subst z; rfl
    · rw [if_pos (nI_lt (by omega) hn)]
  refine g_aloadn M_8_init d_8_init_0 (by rfl) ?_
  refine g_objInit M_8_init d_8_init_1 oi_8_3 oi_i oi_c (Nat.le_of_ble_eq_true (by rfl)) (Nat.le_of_ble_eq_true (by rfl)) ?_
  refine g_aloadn M_8_init d_8_init_4 (by rfl) ?_
  refine g_iconst M_8_init (v := nI 0) d_8_init_5 (by decide) ?_
  refine g_iloadn M_8_init d_8_init_6 (by rfl) ?_
  refine g_max M_8_init d_8_init_7 mm_8_9 mm_max_s mm_i mm_max_c (Nat.le_of_ble_eq_true (by rfl)) (Nat.le_of_ble_eq_true (by rfl)) ?_
  rw [mx width (by omega)]
  refine e_putF M_8_init d_8_init_10 pf_8_15 rfl h0 rfl rfl (fun h1 v1 e1 => ?_)
  refine g_aloadn M_8_init d_8_init_13 (by rfl) ?_
  refine g_iconst M_8_init (v := nI 0) d_8_init_14 (by decide) ?_
  refine g_iloadn M_8_init d_8_init_15 (by rfl) ?_
  refine g_iloadn M_8_init d_8_init_16 (by rfl) ?_
  refine g_imul M_8_init d_8_init_17 ?_
  rw [pk_mul]
  refine g_max M_8_init d_8_init_18 mm_8_9 mm_max_s mm_i mm_max_c (Nat.le_of_ble_eq_true (by rfl)) (Nat.le_of_ble_eq_true (by rfl)) ?_
  rw [mx (rows * width) (by omega)]
  refine e_newC M_8_init (kc' := 1) (ks' := rows) (N := rows * width) d_8_init_21 (nI_pos (by omega)) (nI_cl (by omega)) (by omega) (by omega) (by omega) (fun la h2 g2 e2 => ?_)
  have v2 := e2.keep v1 (by simp)
  refine e_putF M_8_init d_8_init_23 pf_8_21 rfl v2 rfl rfl (fun h3 v3 e3 => ?_)
  have g3 := e3.keep g2 (by simpa using (e2.new_ne v1 (List.mem_singleton.mpr rfl)))
  refine g_aloadn M_8_init d_8_init_26 (by rfl) ?_
  refine g_iconst M_8_init (v := nI 0) d_8_init_27 (by decide) ?_
  refine g_iloadn M_8_init d_8_init_28 (by rfl) ?_
  refine g_max M_8_init d_8_init_29 mm_8_9 mm_max_s mm_i mm_max_c (Nat.le_of_ble_eq_true (by rfl)) (Nat.le_of_ble_eq_true (by rfl)) ?_
  rw [mx rows (by omega)]
  refine e_newI M_8_init (kc' := 0) (ks' := 0) (N := rows) d_8_init_32 (nI_pos (by omega)) (nI_cl (by omega)) (by omega) (by omega) (by omega) (fun na h4 n4 e4 => ?_)
  have v4 := e4.keep v3 (by simp)
  have g4 := e4.keep g3 (by simp)
  refine e_putF M_8_init d_8_init_34 pf_8_25 rfl v4 rfl rfl (fun h5 v5 e5 => ?_)
  have g5 := e5.keep g4 (by simpa using (e2.new_ne v1 (List.mem_singleton.mpr rfl)))
  have n5 := e5.keep n4 (by simpa using (e4.new_ne v3 (List.mem_singleton.mpr rfl)))
  refine g_vret M_8_init d_8_init_37 rfl (k la na _ ?_ ⟨v5, arA.at g5, arA.at n5⟩)
  have t1 := (e1.trans e2 (by simp)).trans e3 (by simp)
  exact (t1.trans e4 (by simp)).trans e5 (by simp)
set_option maxHeartbeats 4000000 in
set_option maxRecDepth 100000 in
theorem C_7_init {a : Nat} {h : Hp_} {Q : Ot_ → Hp_ → Prop} (h0 : h a = some (.inr (7, [.null, .int 0]))) (k : ∀ la h', gExt h h' [a] [la] → wdA h' a la (fun _ => 0) 0 → Q (.inl none) h') : gG 1 60 1 16 M_7_init 0 (lv_args 0 [.ref a]) [] h Q := by
  refine g_aloadn M_7_init d_7_init_0 (by rfl) ?_
  refine g_objInit M_7_init d_7_init_1 oi_7_3 oi_i oi_c (Nat.le_of_ble_eq_true (by rfl)) (Nat.le_of_ble_eq_true (by rfl)) ?_
  refine g_aloadn M_7_init d_7_init_4 (by rfl) ?_
  refine g_bipush M_7_init (v := nI 16) d_7_init_5 (by decide) ?_
  refine e_newC M_7_init (kc' := 0) (ks' := 0) (N := 16) d_7_init_7 (by decide) (by decide) (by decide) (by decide) (by decide) (fun la h2 g2 e2 => ?_)
  refine e_putF M_7_init d_7_init_9 pf_7_9 rfl (e2.keep h0 (by simp)) rfl rfl (fun h3 v3 e3 => ?_)
  exact g_vret M_7_init d_7_init_12 rfl (k la _ ((e2.weak (S' := [a]) (by simp)).trans e3 (by simp)) ⟨v3, arA.at (e3.keep g2 (e2.mem_ne h0 (List.mem_singleton.mpr rfl)))⟩)
set_option maxHeartbeats 4000000 in
set_option maxRecDepth 100000 in
theorem C_1_init {a : Nat} {h : Hp_} {Q : Ot_ → Hp_ → Prop} (k : Q (.inl none) h) : gG 1 60 0 0 M_1_init 0 (lv_args 0 [.ref a]) [] h Q := by
  refine g_aloadn M_1_init d_1_init_0 (by rfl) ?_
  refine g_objInit M_1_init d_1_init_1 oi_1_3 oi_i oi_c (Nat.le_of_ble_eq_true (by rfl)) (Nat.le_of_ble_eq_true (by rfl)) ?_
  exact g_vret M_1_init d_1_init_4 rfl k
set_option maxHeartbeats 4000000 in
set_option maxRecDepth 100000 in
theorem C_0_init {a : Nat} {h : Hp_} {Q : Ot_ → Hp_ → Prop} (h0 : h a = some (.inr (0, [.null, .null, .null]))) (k : ∀ e le ne d ld nd c h', gExt h h' [a] [e, le, ne, d, ld, nd, c] → diA h' a e le ne d ld nd c di0 → Q (.inl none) h') : gG 2 100 7 140 M_0_init 0 (lv_args 0 [.ref a]) [] h Q := by
  refine g_aloadn M_0_init d_0_init_0 (by rfl) ?_
  refine g_objInit M_0_init d_0_init_1 oi_0_3 oi_i oi_c (Nat.le_of_ble_eq_true (by rfl)) (Nat.le_of_ble_eq_true (by rfl)) ?_
  refine g_aloadn M_0_init d_0_init_4 (by rfl) ?_
  refine e_new M_0_init (kc' := 6) (ks' := 136) (N := 4) d_0_init_5 nw_0_9 rfl (by decide) (by decide) (fun e h1 u1 e1 => ?_)
  have v1 := e1.keep h0 (by simp)
  refine g_dup M_0_init d_0_init_8 (by rfl) ?_
  refine g_bipush M_0_init (v := nI 12) d_0_init_9 (by decide) ?_
  refine g_iconst M_0_init (v := nI 4) d_0_init_11 (by decide) ?_
  refine gc_I M_0_init 4 76 [.int (nI 12), .int (nI 4)] [.ref e, .ref a] d_0_init_12 ci_0_11 (by rfl) (by rfl) (Nat.le_of_ble_eq_true (by rfl)) (Nat.le_of_ble_eq_true (by rfl)) (by decide) (by decide) (by decide) (by decide) (C_8_init (by decide) (by decide) u1 (fun le ne h2 e2 w2 => ?_))
  have v2 := e2.keep v1 (by simpa using e1.fresh h0 (List.mem_singleton.mpr rfl))
  refine e_putF M_0_init d_0_init_15 pf_0_14 rfl v2 (by rfl) (by rfl) (fun h3 v3 e3 => ?_)
  refine g_aloadn M_0_init d_0_init_18 (by rfl) ?_
  refine e_new M_0_init (kc' := 3) (ks' := 72) (N := 4) d_0_init_19 nw_0_9 rfl (by decide) (by decide) (fun d h4 u4 e4 => ?_)
  have v4 := e4.keep v3 (by simp)
  refine g_dup M_0_init d_0_init_22 (by rfl) ?_
  refine g_bipush M_0_init (v := nI 12) d_0_init_23 (by decide) ?_
  refine g_iconst M_0_init (v := nI 4) d_0_init_25 (by decide) ?_
  refine gc_I M_0_init 1 12 [.int (nI 12), .int (nI 4)] [.ref d, .ref a] d_0_init_26 ci_0_11 (by rfl) (by rfl) (Nat.le_of_ble_eq_true (by rfl)) (Nat.le_of_ble_eq_true (by rfl)) (by decide) (by decide) (by decide) (by decide) (C_8_init (by decide) (by decide) u4 (fun ld nd h5 e5 w5 => ?_))
  have v5 := e5.keep v4 (by simpa using e4.fresh v3 (List.mem_singleton.mpr rfl))
  refine e_putF M_0_init d_0_init_29 pf_0_20 rfl v5 (by rfl) (by rfl) (fun h6 v6 e6 => ?_)
  refine g_aloadn M_0_init d_0_init_32 (by rfl) ?_
  refine g_bipush M_0_init (v := nI 12) d_0_init_33 (by decide) ?_
  refine e_newI M_0_init (kc' := 0) (ks' := 0) (N := 12) d_0_init_35 (by decide) (by decide) (by decide) (by decide) (by decide) (fun c h7 w7 e7 => ?_)
  have v7 := e7.keep v6 (by simp)
  refine e_putF M_0_init d_0_init_37 pf_0_23 rfl v7 (by rfl) (by rfl) (fun h8 v8 e8 => ?_)
  have t1 := (e1.weak (S' := [a]) (by simp)).trans e2 (by simp)
  have t2 := t1.trans e3 (by simp)
  have t3 := (t2.trans e4 (by simp)).trans e5 (by simp)
  have t4 := ((t3.trans e6 (by simp)).trans e7 (by simp)).trans e8 (by simp)
  have ne : ∀ x ∈ [e, le, ne, d, ld, nd, c], x ∉ [a] := fun x hx => t4.mem_ne h0 (by simpa using hx)
  have r7 := (e7.weak (S' := [a]) (by simp)).trans e8 (by simp)
  have r5 := e6.trans r7 (by simp)
  have r3 := ((e4.weak (S' := [a]) (by simp)).trans e5 (by simp)).trans r5 (by simp)
  have r2 := e3.trans r3 (by simp)
  exact g_vret M_0_init d_0_init_40 rfl (k e le _ d ld nd c _ t4 ⟨v8, w2.keep r2 (ne _ (by simp)) (ne _ (by simp)) (ne _ (by simp)), w5.keep r5 (ne _ (by simp)) (ne _ (by simp)) (ne _ (by simp)), arA.at (e8.keep w7 (ne _ (by simp)))⟩)
set_option maxHeartbeats 4000000 in
set_option maxRecDepth 100000 in
theorem C_2_init {a : Nat} {h : Hp_} {Q : Ot_ → Hp_ → Prop} (h0 : h a = some (.inr (2, [.null, .null, .null]))) (k : ∀ m lm nm o c h', gExt h h' [a] [m, lm, nm, o, c] → heA h' a m lm nm o c he0 → Q (.inl none) h') : gG 2 100 5 574 M_2_init 0 (lv_args 0 [.ref a]) [] h Q := by
  refine g_aloadn M_2_init d_2_init_0 (by rfl) ?_
  refine g_objInit M_2_init d_2_init_1 oi_2_3 oi_i oi_c (Nat.le_of_ble_eq_true (by rfl)) (Nat.le_of_ble_eq_true (by rfl)) ?_
  refine g_aloadn M_2_init d_2_init_4 (by rfl) ?_
  refine e_new M_2_init (kc' := 4) (ks' := 570) (N := 4) d_2_init_5 nw_2_9 rfl (by decide) (by decide) (fun m h1 u1 e1 => ?_)
  have v1 := e1.keep h0 (by simp)
  refine g_dup M_2_init d_2_init_8 (by rfl) ?_
  refine g_bipush M_2_init (v := nI 30) d_2_init_9 (by decide) ?_
  refine g_bipush M_2_init (v := nI 16) d_2_init_11 (by decide) ?_
  refine gc_I M_2_init 2 60 [.int (nI 30), .int (nI 16)] [.ref m, .ref a] d_2_init_13 ci_2_11 (by rfl) (by rfl) (Nat.le_of_ble_eq_true (by rfl)) (Nat.le_of_ble_eq_true (by rfl)) (by decide) (by decide) (by decide) (by decide) (C_8_init (by decide) (by decide) u1 (fun lm nm h2 e2 w2 => ?_))
  have v2 := e2.keep v1 (by simpa using e1.fresh h0 (List.mem_singleton.mpr rfl))
  refine e_putF M_2_init d_2_init_16 pf_2_14 rfl v2 (by rfl) (by rfl) (fun h3 v3 e3 => ?_)
  refine g_aloadn M_2_init d_2_init_19 (by rfl) ?_
  refine g_bipush M_2_init (v := nI 30) d_2_init_20 (by decide) ?_
  refine e_newI M_2_init (kc' := 1) (ks' := 30) (N := 30) d_2_init_22 (by decide) (by decide) (by decide) (by decide) (by decide) (fun o h4 w4 e4 => ?_)
  have v4 := e4.keep v3 (by simp)
  refine e_putF M_2_init d_2_init_24 pf_2_20 rfl v4 (by rfl) (by rfl) (fun h5 v5 e5 => ?_)
  refine g_aloadn M_2_init d_2_init_27 (by rfl) ?_
  refine g_bipush M_2_init (v := nI 30) d_2_init_28 (by decide) ?_
  refine e_newI M_2_init (kc' := 0) (ks' := 0) (N := 30) d_2_init_30 (by decide) (by decide) (by decide) (by decide) (by decide) (fun c h6 w6 e6 => ?_)
  have v6 := e6.keep v5 (by simp)
  refine e_putF M_2_init d_2_init_32 pf_2_24 rfl v6 (by rfl) (by rfl) (fun h7 v7 e7 => ?_)
  have t1 := (e1.weak (S' := [a]) (by simp)).trans e2 (by simp)
  have t2 := t1.trans e3 (by simp)
  have t3 := (t2.trans e4 (by simp)).trans e5 (by simp)
  have t4 := (t3.trans e6 (by simp)).trans e7 (by simp)
  have ne : ∀ x ∈ [m, lm, nm, o, c], x ∉ [a] := fun x hx => t4.mem_ne h0 (by simpa using hx)
  have r5 := (e6.weak (S' := [a]) (by simp)).trans e7 (by simp)
  have r4 := e5.trans r5 (by simp)
  have r2 := e3.trans ((e4.weak (S' := [a]) (by simp)).trans r4 (by simp)) (by simp)
  exact g_vret M_2_init d_2_init_35 rfl (k m lm nm o c _ t4 ⟨v7, w2.keep r2 (ne _ (by simp)) (ne _ (by simp)) (ne _ (by simp)), arA.at (r4.keep w4 (ne _ (by simp))), arA.at (e7.keep w6 (ne _ (by simp)))⟩)
set_option maxHeartbeats 4000000 in
set_option maxRecDepth 100000 in
theorem C_6_init {a : Nat} {h : Hp_} {Q : Ot_ → Hp_ → Prop} (h0 : h a = some (.inr (6, [.null, .null, .null, .null, .null, .int 0, .int 0]))) (k : ∀ A h', A.length = 23 → gExt h h' [a] A → stA h' (fun k => (a :: A).getD k 0) st0 → Q (.inl none) h') : gG 3 140 23 1252 M_6_init 0 (lv_args 0 [.ref a]) [] h Q := by
  refine g_aloadn M_6_init d_6_init_0 (by rfl) ?_
  refine g_objInit M_6_init d_6_init_1 oi_6_3 oi_i oi_c (Nat.le_of_ble_eq_true (by rfl)) (Nat.le_of_ble_eq_true (by rfl)) ?_
  refine g_aloadn M_6_init d_6_init_4 (by rfl) ?_
  refine e_new M_6_init (kc' := 22) (ks' := 1248) (N := 4) d_6_init_5 nw_6_9 rfl (by decide) (by decide) (fun q1 h1 u1 e1 => ?_)
  have v1 := e1.keep h0 (by simp)
  refine g_dup M_6_init d_6_init_8 (by rfl) ?_
  refine g_bipush M_6_init (v := nI 20) d_6_init_9 (by decide) ?_
  refine g_bipush M_6_init (v := nI 12) d_6_init_11 (by decide) ?_
  refine gc_I M_6_init 20 988 [.int (nI 20), .int (nI 12)] [.ref q1, .ref a] d_6_init_13 ci_6_11 (by rfl) (by rfl) (Nat.le_of_ble_eq_true (by rfl)) (Nat.le_of_ble_eq_true (by rfl)) (by decide) (by decide) (by decide) (by decide) (C_8_init (by decide) (by decide) u1 (fun q2 q3 h2 e2 w2 => ?_))
  have v2 := e2.keep v1 (by simpa using e1.fresh h0 (List.mem_singleton.mpr rfl))
  refine e_putF M_6_init d_6_init_16 pf_6_14 rfl v2 (by rfl) (by rfl) (fun h3 v3 e3 => ?_)
  refine g_aloadn M_6_init d_6_init_19 (by rfl) ?_
  refine e_new M_6_init (kc' := 19) (ks' := 984) (N := 4) d_6_init_20 nw_6_9 rfl (by decide) (by decide) (fun q4 h4 u4 e4 => ?_)
  have v4 := e4.keep v3 (by simp)
  refine g_dup M_6_init d_6_init_23 (by rfl) ?_
  refine g_bipush M_6_init (v := nI 10) d_6_init_24 (by decide) ?_
  refine g_bipush M_6_init (v := nI 12) d_6_init_26 (by decide) ?_
  refine gc_I M_6_init 17 854 [.int (nI 10), .int (nI 12)] [.ref q4, .ref a] d_6_init_28 ci_6_11 (by rfl) (by rfl) (Nat.le_of_ble_eq_true (by rfl)) (Nat.le_of_ble_eq_true (by rfl)) (by decide) (by decide) (by decide) (by decide) (C_8_init (by decide) (by decide) u4 (fun q5 q6 h5 e5 w5 => ?_))
  have v5 := e5.keep v4 (by simpa using e4.fresh v3 (List.mem_singleton.mpr rfl))
  refine e_putF M_6_init d_6_init_31 pf_6_20 rfl v5 (by rfl) (by rfl) (fun h6 v6 e6 => ?_)
  refine g_aloadn M_6_init d_6_init_34 (by rfl) ?_
  refine e_new M_6_init (kc' := 16) (ks' := 850) (N := 4) d_6_init_35 nw_6_9 rfl (by decide) (by decide) (fun q7 h7 u7 e7 => ?_)
  have v7 := e7.keep v6 (by simp)
  refine g_dup M_6_init d_6_init_38 (by rfl) ?_
  refine g_bipush M_6_init (v := nI 10) d_6_init_39 (by decide) ?_
  refine g_bipush M_6_init (v := nI 12) d_6_init_41 (by decide) ?_
  refine gc_I M_6_init 14 720 [.int (nI 10), .int (nI 12)] [.ref q7, .ref a] d_6_init_43 ci_6_11 (by rfl) (by rfl) (Nat.le_of_ble_eq_true (by rfl)) (Nat.le_of_ble_eq_true (by rfl)) (by decide) (by decide) (by decide) (by decide) (C_8_init (by decide) (by decide) u7 (fun q8 q9 h8 e8 w8 => ?_))
  have v8 := e8.keep v7 (by simpa using e7.fresh v6 (List.mem_singleton.mpr rfl))
  refine e_putF M_6_init d_6_init_46 pf_6_23 rfl v8 (by rfl) (by rfl) (fun h9 v9 e9 => ?_)
  refine g_aloadn M_6_init d_6_init_49 (by rfl) ?_
  refine e_new M_6_init (kc' := 13) (ks' := 717) (N := 3) d_6_init_50 nw_6_26 rfl (by decide) (by decide) (fun q10 h10 u10 e10 => ?_)
  have v10 := e10.keep v9 (by simp)
  refine g_dup M_6_init d_6_init_53 (by rfl) ?_
  refine gc_I M_6_init 6 577 [] [.ref q10, .ref a] d_6_init_54 ci_6_28 (by rfl) (by rfl) (Nat.le_of_ble_eq_true (by rfl)) (Nat.le_of_ble_eq_true (by rfl)) (by decide) (by decide) (by decide) (by decide) (C_0_init u10 (fun q11 q12 q13 q14 q15 q16 q17 h11 e11 w11 => ?_))
  have v11 := e11.keep v10 (by simpa using e10.fresh v9 (List.mem_singleton.mpr rfl))
  refine e_putF M_6_init d_6_init_57 pf_6_29 rfl v11 (by rfl) (by rfl) (fun h12 v12 e12 => ?_)
  refine g_aloadn M_6_init d_6_init_60 (by rfl) ?_
  refine e_new M_6_init (kc' := 5) (ks' := 574) (N := 3) d_6_init_61 nw_6_33 rfl (by decide) (by decide) (fun q18 h13 u13 e13 => ?_)
  have v13 := e13.keep v12 (by simp)
  refine g_dup M_6_init d_6_init_64 (by rfl) ?_
  refine gc_I M_6_init 0 0 [] [.ref q18, .ref a] d_6_init_65 ci_6_35 (by rfl) (by rfl) (Nat.le_of_ble_eq_true (by rfl)) (Nat.le_of_ble_eq_true (by rfl)) (by decide) (by decide) (by decide) (by decide) (C_2_init u13 (fun q19 q20 q21 q22 q23 h14 e14 w14 => ?_))
  have v14 := e14.keep v13 (by simpa using e13.fresh v12 (List.mem_singleton.mpr rfl))
  refine e_putF M_6_init d_6_init_68 pf_6_36 rfl v14 (by rfl) (by rfl) (fun h15 v15 e15 => ?_)
  have r14 := e15
  have r12 := ((e13.weak (S' := [a]) (by simp)).trans e14 (by simp)).trans r14 (by simp)
  have r11 := e12.trans r12 (by simp)
  have r9 := ((e10.weak (S' := [a]) (by simp)).trans e11 (by simp)).trans r11 (by simp)
  have r8 := e9.trans r9 (by simp)
  have r6 := ((e7.weak (S' := [a]) (by simp)).trans e8 (by simp)).trans r8 (by simp)
  have r5 := e6.trans r6 (by simp)
  have r3 := ((e4.weak (S' := [a]) (by simp)).trans e5 (by simp)).trans r5 (by simp)
  have r2 := e3.trans r3 (by simp)
  have t4 : gExt h _ [a] [q1, q2, q3, q4, q5, q6, q7, q8, q9, q10, q11, q12, q13, q14, q15, q16, q17, q18, q19, q20, q21, q22, q23] := ((e1.weak (S' := [a]) (by simp)).trans e2 (by simp)).trans r2 (by simp)
  have ne : ∀ x ∈ [q1, q2, q3, q4, q5, q6, q7, q8, q9, q10, q11, q12, q13, q14, q15, q16, q17, q18, q19, q20, q21, q22, q23], x ∉ [a] := fun x hx => t4.mem_ne h0 hx
  refine g_vret M_6_init d_6_init_71 rfl (k _ _ rfl t4 ⟨v15, w2.keep r2 (ne _ (by simp)) (ne _ (by simp)) (ne _ (by simp)), w5.keep r5 (ne _ (by simp)) (ne _ (by simp)) (ne _ (by simp)), w8.keep r8 (ne _ (by simp)) (ne _ (by simp)) (ne _ (by simp)), w11.keep r11 (fun q hq => ne _ (by simp only [List.mem_cons, List.not_mem_nil, or_false] at hq; rcases hq with rfl | rfl | rfl | rfl | rfl | rfl | rfl | rfl <;> simp)), w14.keep r14 (fun q hq => ne _ (by simp only [List.mem_cons, List.not_mem_nil, or_false] at hq; rcases hq with rfl | rfl | rfl | rfl | rfl | rfl <;> simp))⟩)
end
section
/-! ===== what the cells mean: words, lists of words, lists of numbers ===== -/
def gCh (x : Int32) : Prop := ∃ k : Nat, k < 65536 ∧ x = nI k
theorem gCh_n {x : Int32} (h : gCh x) : narrow .char (.int x) = .int x := by
  obtain ⟨k, h1, rfl⟩ := h
  exact (pk_charN h1).1
theorem gCh_f {x : Int32} (h : gCh x) : fits .char (.int x) = true := by
  obtain ⟨k, h1, rfl⟩ := h
  exact (pk_charN h1).2
theorem gCh_0 : gCh 0 := ⟨0, by decide, rfl⟩
theorem gCh_of {k : Nat} (h : k < 65536) : gCh (nI k) := ⟨k, h, rfl⟩
def okW (n : Nat) (w : List Nat) : Prop := w.length ≤ n ∧ ∀ x ∈ w, x < 65536
theorem okW.get {n : Nat} {w : List Nat} (h : okW n w) (j : Nat) : w.getD j 0 < 65536 := by
  by_cases hj : j < w.length
  · rw [List.getD_eq_getElem?_getD, List.getElem?_eq_getElem hj]
    exact h.2 _ (List.getElem_mem hj)
  · rw [List.getD_eq_getElem?_getD, List.getElem?_eq_none (by omega)]
    decide
/-- a Word that holds w -/
def wdR (h : Hp_) (a la : Nat) (w : List Nat) : Prop := okW 16 w ∧ h a = some (.inr (7, [.ref la, .int (nI w.length)])) ∧ ∃ f, h la = some (.inl (false, .char, (16, .inl f))) ∧ (∀ j, j < 16 → gCh (f j)) ∧ ∀ j, j < w.length → f j = nI (w.getD j 0)
/-- Words that hold ws -/
def wsR (h : Hp_) (a la na rows width : Nat) (ws : List (List Nat)) : Prop := ws.length ≤ rows ∧ (∀ w ∈ ws, okW width w) ∧ h a = some (.inr (8, [.int (nI width), .ref la, .ref na, .int (nI ws.length)])) ∧
  ∃ f g, h la = some (.inl (false, .char, (rows * width, .inl f))) ∧ h na = some (.inl (false, .int, (rows, .inl g))) ∧ (∀ j, j < rows * width → gCh (f j)) ∧ ∀ i, i < ws.length → g i = nI (ws.getD i []).length ∧ ∀ j, j < (ws.getD i []).length → f (i * width + j) = nI ((ws.getD i []).getD j 0)
/-- an array of n ints that begins with xs -/
def nmR (h : Hp_) (a n : Nat) (xs : List Int32) : Prop := xs.length ≤ n ∧ ∃ g, h a = some (.inl (false, .int, (n, .inl g))) ∧ ∀ i, i < xs.length → g i = xs.getD i 0
theorem wdR.keep {h h' : Hp_} {S A : List Nat} {a la : Nat} {w : List Nat} (H : wdR h a la w) (e : gExt h h' S A) (h1 : a ∉ S) (h2 : la ∉ S) : wdR h' a la w := by
  obtain ⟨k1, k2, f, k3, k4⟩ := H
  exact ⟨k1, e.keep k2 h1, f, e.keep k3 h2, k4⟩
theorem wsR.keep {h h' : Hp_} {S A : List Nat} {a la na rows width : Nat} {ws : List (List Nat)} (H : wsR h a la na rows width ws) (e : gExt h h' S A) (h1 : a ∉ S) (h2 : la ∉ S) (h3 : na ∉ S) : wsR h' a la na rows width ws := by
  obtain ⟨k1, k2, k3, f, g, k4, k5, k6⟩ := H
  exact ⟨k1, k2, e.keep k3 h1, f, g, e.keep k4 h2, e.keep k5 h3, k6⟩
theorem nmR.keep {h h' : Hp_} {S A : List Nat} {a n : Nat} {xs : List Int32} (H : nmR h a n xs) (e : gExt h h' S A) (h1 : a ∉ S) : nmR h' a n xs := by
  obtain ⟨k1, g, k2, k3⟩ := H
  exact ⟨k1, g, e.keep k2 h1, k3⟩
theorem wsA.toR {h : Hp_} {a la na rows width : Nat} (H : wsA h a la na rows width w30) : wsR h a la na rows width [] := by
  obtain ⟨h1, ⟨f, h2, h3⟩, g, h4, h5⟩ := H
  refine ⟨Nat.zero_le _, fun w hw => (nomatch hw), h1, f, g, h2, h4, fun j hj => ?_, fun i hi => absurd hi (Nat.not_lt_zero i)⟩
  rw [h3 j hj]
  exact gCh_0
theorem wdA.toR {h : Hp_} {a la : Nat} (H : wdA h a la (fun _ => 0) 0) : wdR h a la [] := by
  obtain ⟨h1, f, h2, h3⟩ := H
  refine ⟨⟨Nat.zero_le _, fun x hx => (nomatch hx)⟩, h1, f, h2, fun j hj => ?_, fun i hi => absurd hi (Nat.not_lt_zero i)⟩
  rw [h3 j hj]
  exact gCh_0
theorem arA.toR {h : Hp_} {a n : Nat} (H : arA h a .int n (fun _ => 0)) : nmR h a n [] := by
  obtain ⟨f, h2, h3⟩ := H
  exact ⟨Nat.zero_le _, f, h2, fun i hi => absurd hi (Nat.not_lt_zero i)⟩
/-- the dies: endings, what they add, conditions -/
abbrev Dl_ : Type := List (List Nat) × List (List Nat) × List Int32
def diR (h : Hp_) (r : Nat → Nat) (v : Dl_) : Prop := h (r 0) = some (.inr (0, [.ref (r 1), .ref (r 4), .ref (r 7)])) ∧ wsR h (r 1) (r 2) (r 3) 12 4 v.1 ∧ wsR h (r 4) (r 5) (r 6) 12 4 v.2.1 ∧ nmR h (r 7) 12 v.2.2 ∧ v.2.1.length = v.1.length ∧ v.2.2.length = v.1.length
/-- the heaps: marks, owners, coins -/
abbrev Hl_ : Type := List (List Nat) × List Int32 × List Int32
def heR (h : Hp_) (r : Nat → Nat) (v : Hl_) : Prop := h (r 0) = some (.inr (2, [.ref (r 1), .ref (r 4), .ref (r 5)])) ∧ wsR h (r 1) (r 2) (r 3) 30 16 v.1 ∧ nmR h (r 4) 30 v.2.1 ∧ nmR h (r 5) 30 v.2.2 ∧ v.2.1.length = v.1.length ∧ v.2.2.length = v.1.length
/-- a state: nouns, irregular words, their plurals, dies, heaps, struck, melted -/
abbrev Sl_ : Type := List (List Nat) × List (List Nat) × List (List Nat) × Dl_ × Hl_ × Int32 × Int32
def stR (h : Hp_) (r : Nat → Nat) (v : Sl_) : Prop :=
  h (r 0) = some (.inr (6, [.ref (r 1), .ref (r 4), .ref (r 7), .ref (r 10), .ref (r 18), .int v.2.2.2.2.2.1, .int v.2.2.2.2.2.2])) ∧ wsR h (r 1) (r 2) (r 3) 20 12 v.1 ∧ wsR h (r 4) (r 5) (r 6) 10 12 v.2.1 ∧ wsR h (r 7) (r 8) (r 9) 10 12 v.2.2.1 ∧
  diR h (fun k => r (10 + k)) v.2.2.2.1 ∧ heR h (fun k => r (18 + k)) v.2.2.2.2.1 ∧ v.2.2.1.length = v.2.1.length
theorem diR.keep {h h' : Hp_} {S A : List Nat} {r : Nat → Nat} {v : Dl_} (H : diR h r v) (x : gExt h h' S A) (hs : ∀ k, k < 8 → r k ∉ S) : diR h' r v := by
  obtain ⟨h1, h2, h3, h4, h5⟩ := H
  exact ⟨x.keep h1 (hs _ (by decide)), h2.keep x (hs _ (by decide)) (hs _ (by decide)) (hs _ (by decide)), h3.keep x (hs _ (by decide)) (hs _ (by decide)) (hs _ (by decide)), h4.keep x (hs _ (by decide)), h5⟩
theorem heR.keep {h h' : Hp_} {S A : List Nat} {r : Nat → Nat} {v : Hl_} (H : heR h r v) (x : gExt h h' S A) (hs : ∀ k, k < 6 → r k ∉ S) : heR h' r v := by
  obtain ⟨h1, h2, h3, h4, h5⟩ := H
  exact ⟨x.keep h1 (hs _ (by decide)), h2.keep x (hs _ (by decide)) (hs _ (by decide)) (hs _ (by decide)), h3.keep x (hs _ (by decide)), h4.keep x (hs _ (by decide)), h5⟩
theorem stR.keep {h h' : Hp_} {S A : List Nat} {r : Nat → Nat} {v : Sl_} (H : stR h r v) (x : gExt h h' S A) (hs : ∀ k, k < 24 → r k ∉ S) : stR h' r v := by
  obtain ⟨h1, h2, h3, h4, h5, h6, h7⟩ := H
  exact ⟨x.keep h1 (hs _ (by decide)), h2.keep x (hs _ (by decide)) (hs _ (by decide)) (hs _ (by decide)), h3.keep x (hs _ (by decide)) (hs _ (by decide)) (hs _ (by decide)), h4.keep x (hs _ (by decide)) (hs _ (by decide)) (hs _ (by decide)), h5.keep x (fun k hk => hs _ (by omega)), h6.keep x (fun k hk => hs _ (by omega)), h7⟩
theorem stA.toR {h : Hp_} {r : Nat → Nat} (H : stA h r st0) : stR h r ([], [], [], ([], [], []), ([], [], []), 0, 0) := by
  obtain ⟨h1, h2, h3, h4, ⟨d1, d2, d3, d4⟩, e1, e2, e3, e4⟩ := H
  exact ⟨h1, h2.toR, h3.toR, h4.toR, ⟨d1, d2.toR, d3.toR, d4.toR, rfl, rfl⟩, ⟨e1, e2.toR, e3.toR, e4.toR, rfl, rfl⟩, rfl⟩
end
section
set_option maxHeartbeats 4000000 in
set_option maxRecDepth 100000 in
theorem C_7_length {a : Nat} {v : Value} {n : Int32} {h : Hp_} {Q : Ot_ → Hp_ → Prop} (h0 : h a = some (.inr (7, [v, .int n]))) (k : Q (.inl (some (.int n))) h) : gG 1 60 0 0 M_7_length 0 (lv_args 0 [.ref a]) [] h Q := by
  refine g_aloadn M_7_length d_7_length_0 (by first | rfl | assumption) ?_
  refine g_get M_7_length d_7_length_1 fl_7_15 (by assumption) (by rfl) ?_
  exact g_iret M_7_length d_7_length_4 rfl rfl k
set_option maxHeartbeats 4000000 in
set_option maxRecDepth 100000 in
theorem C_7_letter {a la j : Nat} {w : List Nat} {h : Hp_} {Q : Ot_ → Hp_ → Prop} (R : wdR h a la w) (hj : j < 2 ^ 31) (k : Q (.inl (some (.int (nI (w.getD j 0))))) h) : gG 1 60 0 0 M_7_letter 0 (lv_args 0 [.ref a, .int (nI j)]) [] h Q := by
  obtain ⟨⟨hn, hx⟩, v, f, g, hc, hf⟩ := id R
  have out : ¬ j < w.length → gG 1 60 0 0 M_7_letter 25 (lv_args 0 [.ref a, .int (nI j)]) [] h Q := by
    intro hlt
    have e0 : w.getD j 0 = 0 := by rw [List.getD_eq_getElem?_getD, List.getElem?_eq_none (by omega)]; rfl
    rw [e0] at k
    refine g_iconst M_7_letter (v := nI 0) d_7_letter_25 (by decide) ?_
    refine g_istoren M_7_letter d_7_letter_26 (by decide) (by first | rfl | (simp only [gc]; simp [*])) ?_
    refine g_iloadn M_7_letter d_7_letter_27 (by first | rfl | assumption) ?_
    refine g_if_eq M_7_letter (tgt := 40) d_7_letter_28 (by decide) (fun _ => ?_) (fun c => absurd rfl c)
    refine g_iconst M_7_letter (v := nI 0) d_7_letter_40 (by decide) ?_
    exact g_iret M_7_letter d_7_letter_41 rfl (by decide) k
  refine g_iloadn M_7_letter d_7_letter_0 (by first | rfl | assumption) ?_
  refine g_if_lt M_7_letter (tgt := 25) d_7_letter_1 (by decide) (fun c => absurd c (nI_pos hj)) (fun _ => ?_)
  refine g_iloadn M_7_letter d_7_letter_4 (by first | rfl | assumption) ?_
  refine g_aloadn M_7_letter d_7_letter_5 (by first | rfl | assumption) ?_
  refine g_get M_7_letter d_7_letter_6 fl_7_15 (by assumption) (by rfl) ?_
  refine g_icmp_ge M_7_letter (tgt := 25) d_7_letter_9 (by decide) (fun c => out (by rw [nI_leI (by omega) hj] at c; omega)) (fun c => ?_)
  have hlt : j < w.length := by
    rcases Nat.lt_or_ge j w.length with q | q
    · exact q
    · exact absurd (nI_le q hj) c
  refine g_iloadn M_7_letter d_7_letter_12 (by first | rfl | assumption) ?_
  refine g_aloadn M_7_letter d_7_letter_13 (by first | rfl | assumption) ?_
  refine g_get M_7_letter d_7_letter_14 fl_7_9 (by assumption) (by rfl) ?_
  refine g_alen M_7_letter d_7_letter_17 (by assumption) ?_
  refine g_icmp_ge M_7_letter (tgt := 25) d_7_letter_18 (by decide) (fun c => absurd c (nI_ge (by omega) (by decide))) (fun _ => ?_)
  refine g_iconst M_7_letter (v := nI 1) d_7_letter_21 (by decide) ?_
  refine g_goto M_7_letter (tgt := 26) d_7_letter_22 (by decide) ?_
  refine g_istoren M_7_letter d_7_letter_26 (by decide) (by first | rfl | (simp only [gc]; simp [*])) ?_
  refine g_iloadn M_7_letter d_7_letter_27 (by first | rfl | assumption) ?_
  refine g_if_eq M_7_letter (tgt := 40) d_7_letter_28 (by decide) (fun c => absurd c (by decide)) (fun _ => ?_)
  refine g_aloadn M_7_letter d_7_letter_31 (by first | rfl | assumption) ?_
  refine g_get M_7_letter d_7_letter_32 fl_7_9 (by assumption) (by rfl) ?_
  refine g_iloadn M_7_letter d_7_letter_35 (by first | rfl | assumption) ?_
  refine g_caload M_7_letter d_7_letter_36 g (vp_in_nI (by omega) (by decide)) ?_
  rw [nI_cl hj, hf j hlt]
  refine g_goto M_7_letter (tgt := 41) d_7_letter_37 (by decide) ?_
  exact g_iret M_7_letter d_7_letter_41 rfl (gCh_n (gCh_of (R.1.get j))) k
theorem getD_app {w : List Nat} {c j : Nat} : (w ++ [c]).getD j 0 = if j = w.length then c else w.getD j 0 := by
  simp only [List.getD_eq_getElem?_getD, List.getElem?_append]
  by_cases h1 : j < w.length
  · rw [if_pos h1, if_neg (by omega)]
  · rw [if_neg h1]
    by_cases h2 : j = w.length
    · rw [if_pos h2, h2]; simp
    · rw [if_neg h2, List.getElem?_eq_none (by simp; omega), List.getElem?_eq_none (by omega)]
set_option maxHeartbeats 4000000 in
set_option maxRecDepth 100000 in
theorem C_7_append {a la c : Nat} {w : List Nat} {h : Hp_} {Q : Ot_ → Hp_ → Prop} (R : wdR h a la w) (hn : w.length < 16) (hc : c < 65536) (hne : a ≠ la) (k : ∀ h', gExt h h' [a, la] [] → wdR h' a la (w ++ [c]) → Q (.inl none) h') : gG 1 60 0 0 M_7_append 0 (lv_args 0 [.ref a, .int (nI c)]) [] h Q := by
  obtain ⟨⟨h16, hx⟩, v, f, g, hcc, hf⟩ := id R
  refine g_aloadn M_7_append d_7_append_0 (by first | rfl | assumption) ?_
  refine g_get M_7_append d_7_append_1 fl_7_15 (by assumption) (by rfl) ?_
  refine g_if_lt M_7_append (tgt := 39) d_7_append_4 (by decide) (fun c => absurd c (nI_pos (by omega))) (fun _ => ?_)
  refine g_aloadn M_7_append d_7_append_7 (by first | rfl | assumption) ?_
  refine g_get M_7_append d_7_append_8 fl_7_15 (by assumption) (by rfl) ?_
  refine g_aloadn M_7_append d_7_append_11 (by first | rfl | assumption) ?_
  refine g_get M_7_append d_7_append_12 fl_7_9 (by assumption) (by rfl) ?_
  refine g_alen M_7_append d_7_append_15 (by assumption) ?_
  refine g_icmp_ge M_7_append (tgt := 39) d_7_append_16 (by decide) (fun c => absurd c (nI_ge (by omega) (by decide))) (fun _ => ?_)
  refine g_aloadn M_7_append d_7_append_19 (by first | rfl | assumption) ?_
  refine g_get M_7_append d_7_append_20 fl_7_9 (by assumption) (by rfl) ?_
  refine g_aloadn M_7_append d_7_append_23 (by first | rfl | assumption) ?_
  refine g_get M_7_append d_7_append_24 fl_7_15 (by assumption) (by rfl) ?_
  refine g_iloadn M_7_append d_7_append_27 (by first | rfl | assumption) ?_
  refine e_cas M_7_append d_7_append_28 g (vp_in_nI (by omega) (by decide)) (gCh_n (gCh_of hc)) (fun h1 g1 e1 => ?_)
  have v1 := e1.keep v (by simpa using hne)
  refine g_aloadn M_7_append d_7_append_29 (by first | rfl | assumption) ?_
  refine g_dup M_7_append d_7_append_30 (by rfl) ?_
  refine g_get M_7_append d_7_append_31 fl_7_15 (by assumption) (by rfl) ?_
  refine g_iconst M_7_append (v := nI 1) d_7_append_34 (by decide) ?_
  refine g_iadd M_7_append d_7_append_35 ?_
  refine g_top M_7_append (congrArg Value.int (nI_1 w.length)) ?_
  refine e_put M_7_append d_7_append_36 pt_7_15 v1 (by rfl) (by rfl) (fun h2 v2 e2 => ?_)
  refine g_vret M_7_append d_7_append_39 rfl (k _ ((e1.weak (S' := [a, la]) (by simp)).trans e2 (by simp)) ⟨⟨by simp; omega, fun x hx9 => ?_⟩, by simpa using v2, _, e2.keep g1 (by simpa using hne.symm), fun j hj => ?_, fun j hj => ?_⟩)
  · rcases List.mem_append.mp hx9 with q | q
    · exact hx x q
    · rw [List.mem_singleton.mp q]; exact hc
  · unfold upd
    split
    · exact gCh_of hc
    · exact hcc j hj
  · rw [getD_app, nI_cl (by omega)]
    unfold upd
    simp only [List.length_append, List.length_cons, List.length_nil] at hj
    by_cases q : j = w.length
    · rw [if_pos q, if_pos q]
    · rw [if_neg q, if_neg q]
      exact hf j (by omega)
set_option maxHeartbeats 4000000 in
set_option maxRecDepth 100000 in
theorem C_8_count {a : Nat} {v1 v2 v3 : Value} {n : Int32} {h : Hp_} {Q : Ot_ → Hp_ → Prop} (h0 : h a = some (.inr (8, [v1, v2, v3, .int n]))) (k : Q (.inl (some (.int n))) h) : gG 1 60 0 0 M_8_count 0 (lv_args 0 [.ref a]) [] h Q := by
  refine g_aloadn M_8_count d_8_count_0 (by first | rfl | assumption) ?_
  refine g_get M_8_count d_8_count_1 fl_8_29 (by assumption) (by rfl) ?_
  exact g_iret M_8_count d_8_count_4 rfl rfl k
def bI (b : Bool) : Int32 := if b then 1 else 0
theorem bI_n (b : Bool) : narrow .boolean (.int (bI b)) = .int (bI b) := by cases b <;> decide
set_option maxHeartbeats 4000000 in
set_option maxRecDepth 100000 in
theorem C_8_isFull {a la na rows width : Nat} {ws : List (List Nat)} {h : Hp_} {Q : Ot_ → Hp_ → Prop} (R : wsR h a la na rows width ws) (hr : rows ≤ 30) (k : Q (.inl (some (.int (bI (decide (rows ≤ ws.length)))))) h) : gG 1 60 0 0 M_8_isFull 0 (lv_args 0 [.ref a]) [] h Q := by
  obtain ⟨hlen, hok, v, f, g, gl9, gn, hch, hall⟩ := id R
  refine g_aloadn M_8_isFull d_8_isFull_0 (by first | rfl | assumption) ?_
  refine g_get M_8_isFull d_8_isFull_1 fl_8_29 (by assumption) (by rfl) ?_
  refine g_aloadn M_8_isFull d_8_isFull_4 (by first | rfl | assumption) ?_
  refine g_get M_8_isFull d_8_isFull_5 fl_8_25 (by assumption) (by rfl) ?_
  refine g_alen M_8_isFull d_8_isFull_8 (by assumption) ?_
  refine g_icmp_lt M_8_isFull (tgt := 16) d_8_isFull_9 (by decide) (fun c => ?_) (fun c => ?_)
  · rw [nI_ltI (by omega) (by omega)] at c
    rw [decide_eq_false (by omega)] at k
    refine g_iconst M_8_isFull (v := nI 0) d_8_isFull_16 (by decide) ?_
    exact g_iret M_8_isFull d_8_isFull_17 rfl (by decide) k
  · rw [nI_ltI (by omega) (by omega)] at c
    rw [decide_eq_true (by omega)] at k
    refine g_iconst M_8_isFull (v := nI 1) d_8_isFull_12 (by decide) ?_
    refine g_goto M_8_isFull (tgt := 17) d_8_isFull_13 (by decide) ?_
    exact g_iret M_8_isFull d_8_isFull_17 rfl (by decide) k
end
section
theorem nI_mulbd {i rows width : Nat} (h : i < rows) : i * width + width ≤ rows * width := by
  have := Nat.mul_le_mul_right width (show i + 1 ≤ rows from h)
  rw [Nat.succ_mul] at this
  exact this
set_option maxHeartbeats 4000000 in
set_option maxRecDepth 100000 in
theorem C_8_put {a la na rows width c i aw lw : Nat} {f g : Nat → Int32} {w : List Nat} {h : Hp_} {Q : Ot_ → Hp_ → Prop} (hr : rows ≤ 30) (hw : width ≤ 16) (v : h a = some (.inr (8, [.int (nI width), .ref la, .ref na, .int (nI c)]))) (hf : h la = some (.inl (false, .char, (rows * width, .inl f)))) (hg : h na = some (.inl (false, .int, (rows, .inl g)))) (hch : ∀ j, j < rows * width → gCh (f j)) (hi : i < c) (hc : c ≤ rows) (R : wdR h aw lw w) (hlw : w.length ≤ width) (n1 : a ≠ la) (n2 : a ≠ na) (n3 : la ≠ na) (n4 : aw ≠ la ∧ aw ≠ na) (n5 : lw ≠ la ∧ lw ≠ na)
    (k : ∀ h' f' g', gExt h h' [la, na] [] → h' la = some (.inl (false, .char, (rows * width, .inl f'))) → h' na = some (.inl (false, .int, (rows, .inl g'))) → (∀ j, j < rows * width → gCh (f' j)) → g' i = nI w.length → (∀ q, q ≠ i → g' q = g q) → (∀ j, j < width → f' (i * width + j) = nI (w.getD j 0)) → (∀ q, q < i * width ∨ i * width + width ≤ q → f' q = f q) → Q (.inl none) h') : gG 2 100 0 0 M_8_put 0 (lv_args 0 [.ref a, .int (nI i), .ref aw]) [] h Q := by
  have b1 : rows * width ≤ 480 := Nat.le_trans (Nat.mul_le_mul hr hw) (by decide)
  have b2 : i * width + width ≤ rows * width := nI_mulbd (by omega)
  refine g_iloadn M_8_put d_8_put_0 (by first | rfl | assumption) ?_
  refine g_if_lt M_8_put (tgt := 21) d_8_put_1 (by decide) (fun c9 => absurd c9 (nI_pos (by omega))) (fun _ => ?_)
  refine g_iloadn M_8_put d_8_put_4 (by first | rfl | assumption) ?_
  refine g_aloadn M_8_put d_8_put_5 (by first | rfl | assumption) ?_
  refine g_get M_8_put d_8_put_6 fl_8_29 (by assumption) (by rfl) ?_
  refine g_icmp_ge M_8_put (tgt := 21) d_8_put_9 (by decide) (fun c9 => absurd c9 (nI_ge hi (by omega))) (fun _ => ?_)
  refine g_iloadn M_8_put d_8_put_12 (by first | rfl | assumption) ?_
  refine g_aloadn M_8_put d_8_put_13 (by first | rfl | assumption) ?_
  refine g_get M_8_put d_8_put_14 fl_8_25 (by assumption) (by rfl) ?_
  refine g_alen M_8_put d_8_put_17 (by assumption) ?_
  refine g_icmp_lt M_8_put (tgt := 22) d_8_put_18 (by decide) (fun _ => ?_) (fun c9 => absurd (nI_lt (by omega) (by omega)) c9)
  refine g_aloadn M_8_put d_8_put_22 (by first | rfl | assumption) ?_
  refine g_get M_8_put d_8_put_23 fl_8_25 (by assumption) (by rfl) ?_
  refine g_iloadn M_8_put d_8_put_26 (by first | rfl | assumption) ?_
  refine g_aloadn M_8_put d_8_put_27 (by first | rfl | assumption) ?_
  refine gc_V M_8_put 0 0 [] [.int (nI i), .ref na] d_8_put_28 cv_8_40 R.2.1 (by rfl) (by rfl) (Nat.le_of_ble_eq_true (by rfl)) (Nat.le_of_ble_eq_true (by rfl)) (by decide) (by decide) (by decide) (by decide) (C_7_length R.2.1 ?_)
  show gG _ _ _ _ _ _ _ _ _ _
  refine g_aloadn M_8_put d_8_put_31 (by first | rfl | assumption) ?_
  refine g_get M_8_put d_8_put_32 fl_8_15 (by assumption) (by rfl) ?_
  refine g_min M_8_put d_8_put_35 mm_8_46 mm_min_s mm_i mm_min_c (Nat.le_of_ble_eq_true (by rfl)) (Nat.le_of_ble_eq_true (by rfl)) ?_
  rw [if_neg (nI_nlt hlw (by omega))]
  refine e_ias M_8_put d_8_put_38 hg (vp_in_nI (by omega) (by omega)) (fun h1 g1 e1 => ?_)
  have v1 := e1.keep v (by simpa using n2)
  have f1 := e1.keep hf (by simpa using n3)
  have R1 := R.keep e1 (by simpa using n4.2) (by simpa using n5.2)
  rw [nI_cl (by omega)] at g1
  refine g_iconst M_8_put (v := nI 0) d_8_put_39 (by decide) ?_
  refine g_istoren M_8_put d_8_put_40 (by decide) (by first | rfl | (simp only [gc]; simp [*])) ?_
  have loop : ∀ n p, p + n = width → ∀ (h2 : Hp_) (f2 : Nat → Int32) (lv : List (Nat × Value)), gExt h1 h2 [la] [] → h2 la = some (.inl (false, .char, (rows * width, .inl f2))) → (∀ j, j < rows * width → gCh (f2 j)) → (∀ j, j < p → f2 (i * width + j) = nI (w.getD j 0)) → (∀ q, q < i * width ∨ i * width + width ≤ q → f2 q = f q) → gl lv 0 = some (.ref a) → gl lv 1 = some (.int (nI i)) → gl lv 2 = some (.ref aw) → gl lv 3 = some (.int (nI p)) → gG 2 100 0 0 M_8_put 41 lv [] h2 Q := by
    intro n
    induction n with
    | zero =>
      intro p hp h2 f2 lv e2 l2 c2 d2 o2 H0 H1 H2 H3
      have v2 := e2.keep v1 (by simpa using n1)
      have g2 := e2.keep g1 (by simpa using n3.symm)
      refine g_iloadn M_8_put d_8_put_41 (by first | rfl | assumption) ?_
      refine g_aloadn M_8_put d_8_put_42 (by first | rfl | assumption) ?_
      refine g_get M_8_put d_8_put_43 fl_8_15 (by assumption) (by rfl) ?_
      refine g_icmp_ge M_8_put (tgt := 92) d_8_put_46 (by decide) (fun _ => ?_) (fun c9 => absurd (nI_le (by omega) (by omega)) c9)
      refine g_vret M_8_put d_8_put_92 rfl (k h2 f2 _ ((e1.weak (S' := [la, na]) (by simp)).trans e2 (by simp)) l2 g2 c2 ?_ (fun q hq => ?_) (fun j hj => d2 j (by omega)) o2)
      · unfold upd; rw [if_pos rfl]
      · unfold upd; rw [if_neg hq]
    | succ n ih =>
      intro p hp h2 f2 lv e2 l2 c2 d2 o2 H0 H1 H2 H3
      have v2 := e2.keep v1 (by simpa using n1)
      have g2 := e2.keep g1 (by simpa using n3.symm)
      have R2 := R1.keep e2 (by simpa using n4.1) (by simpa using n5.1)
      refine g_iloadn M_8_put d_8_put_41 (by first | rfl | assumption) ?_
      refine g_aloadn M_8_put d_8_put_42 (by first | rfl | assumption) ?_
      refine g_get M_8_put d_8_put_43 fl_8_15 (by assumption) (by rfl) ?_
      refine g_icmp_ge M_8_put (tgt := 92) d_8_put_46 (by decide) (fun c9 => absurd c9 (nI_ge (by omega) (by omega))) (fun _ => ?_)
      refine g_iloadn M_8_put d_8_put_49 (by first | rfl | assumption) ?_
      refine g_aloadn M_8_put d_8_put_50 (by first | rfl | assumption) ?_
      refine g_get M_8_put d_8_put_51 fl_8_15 (by assumption) (by rfl) ?_
      refine g_imul M_8_put d_8_put_54 ?_
      rw [pk_mul]
      refine g_iloadn M_8_put d_8_put_55 (by first | rfl | assumption) ?_
      refine g_iadd M_8_put d_8_put_56 ?_
      rw [nI_add]
      refine g_istore M_8_put d_8_put_57 (by decide) (by first | rfl | (simp only [gc]; simp [*])) ?_
      refine g_iload M_8_put d_8_put_59 (by first | rfl | assumption) ?_
      refine g_if_lt M_8_put (tgt := 86) d_8_put_61 (by decide) (fun c9 => absurd c9 (nI_pos (by omega))) (fun _ => ?_)
      refine g_iload M_8_put d_8_put_64 (by first | rfl | assumption) ?_
      refine g_aloadn M_8_put d_8_put_66 (by first | rfl | assumption) ?_
      refine g_get M_8_put d_8_put_67 fl_8_21 (by assumption) (by rfl) ?_
      refine g_alen M_8_put d_8_put_70 (by assumption) ?_
      refine g_icmp_ge M_8_put (tgt := 86) d_8_put_71 (by decide) (fun c9 => absurd c9 (nI_ge (by omega) (by omega))) (fun _ => ?_)
      refine g_aloadn M_8_put d_8_put_74 (by first | rfl | assumption) ?_
      refine g_get M_8_put d_8_put_75 fl_8_21 (by assumption) (by rfl) ?_
      refine g_iload M_8_put d_8_put_78 (by first | rfl | assumption) ?_
      refine g_aloadn M_8_put d_8_put_80 (by first | rfl | assumption) ?_
      refine g_iloadn M_8_put d_8_put_81 (by first | rfl | assumption) ?_
      refine gc_V M_8_put 0 0 [.int (nI p)] [.int (nI (i * width + p)), .ref la] d_8_put_82 cv_8_49 R2.2.1 (by rfl) (by rfl) (Nat.le_of_ble_eq_true (by rfl)) (Nat.le_of_ble_eq_true (by rfl)) (by decide) (by decide) (by decide) (by decide) (C_7_letter R2 (by omega) ?_)
      refine e_cas M_8_put d_8_put_85 l2 (vp_in_nI (by omega) (by omega)) (gCh_n (gCh_of (R.1.get p))) (fun h3 l3 e3 => ?_)
      rw [nI_cl (by omega)] at l3
      refine g_iinc M_8_put d_8_put_86 (by first | rfl | assumption) (by decide) (by simp only [gc]; simp [gl, *]) (nI_1 p) ?_
      refine g_goto M_8_put (tgt := 41) d_8_put_89 (by decide) ?_
      refine ih (p + 1) (by omega) h3 _ _ (e2.trans e3 (by simp)) l3 (fun j hj => ?_) (fun j hj => ?_) (fun q hq => ?_) H0 H1 H2 rfl
      · unfold upd
        split
        · exact gCh_of (R.1.get p)
        · exact c2 j hj
      · unfold upd
        by_cases q : j = p
        · rw [q, if_pos rfl]
        · rw [if_neg (by omega)]; exact d2 j (by omega)
      · unfold upd
        rw [if_neg (by omega)]; exact o2 q hq
  refine loop width 0 (by omega) h1 f _ (gExt.refl.weak (by simp)) f1 hch (fun j hj => absurd hj (Nat.not_lt_zero j)) (fun _ _ => rfl) rfl rfl rfl rfl
theorem getD_appL {ws : List (List Nat)} {w : List Nat} {j : Nat} : (ws ++ [w]).getD j [] = if j = ws.length then w else ws.getD j [] := by
  simp only [List.getD_eq_getElem?_getD, List.getElem?_append]
  by_cases h1 : j < ws.length
  · rw [if_pos h1, if_neg (by omega)]
  · rw [if_neg h1]
    by_cases h2 : j = ws.length
    · rw [if_pos h2, h2]; simp
    · rw [if_neg h2, List.getElem?_eq_none (by simp; omega), List.getElem?_eq_none (by omega)]
set_option maxHeartbeats 4000000 in
set_option maxRecDepth 100000 in
theorem C_8_add {a la na rows width aw lw : Nat} {ws : List (List Nat)} {w : List Nat} {h : Hp_} {Q : Ot_ → Hp_ → Prop} (hr : rows ≤ 30) (hw : width ≤ 16) (RS : wsR h a la na rows width ws) (R : wdR h aw lw w) (hlw : w.length ≤ width) (n1 : a ≠ la) (n2 : a ≠ na) (n3 : la ≠ na) (n4 : aw ≠ a ∧ aw ≠ la ∧ aw ≠ na) (n5 : lw ≠ a ∧ lw ≠ la ∧ lw ≠ na)
    (kf : rows ≤ ws.length → Q (.inl (some (.int 0))) h) (kt : ws.length < rows → ∀ h', gExt h h' [a, la, na] [] → wsR h' a la na rows width (ws ++ [w]) → Q (.inl (some (.int 1))) h') : gG 3 130 0 0 M_8_add 0 (lv_args 0 [.ref a, .ref aw]) [] h Q := by
  obtain ⟨hlen, hok, v, f, g, hf, hg, hch, hall⟩ := id RS
  refine g_aloadn M_8_add d_8_add_0 (by first | rfl | assumption) ?_
  refine gc_V M_8_add 0 0 [] [] d_8_add_1 cv_8_32 v (by rfl) (by rfl) (Nat.le_of_ble_eq_true (by rfl)) (Nat.le_of_ble_eq_true (by rfl)) (by decide) (by decide) (by decide) (by decide) (C_8_isFull RS hr ?_)
  refine g_if_eq M_8_add (tgt := 9) d_8_add_4 (by decide) (fun c9 => ?_) (fun c9 => ?_)
  · have hlt : ws.length < rows := by
      rcases Nat.lt_or_ge ws.length rows with q | q
      · exact q
      · rw [decide_eq_true q] at c9; exact absurd c9 (by decide)
    refine g_aloadn M_8_add d_8_add_9 (by first | rfl | assumption) ?_
    refine g_dup M_8_add d_8_add_10 (by rfl) ?_
    refine g_get M_8_add d_8_add_11 fl_8_29 (by assumption) (by rfl) ?_
    refine g_iconst M_8_add (v := nI 1) d_8_add_14 (by decide) ?_
    refine g_iadd M_8_add d_8_add_15 ?_
    rw [nI_add]
    refine e_put M_8_add d_8_add_16 pt_8_29 v (by rfl) (by rfl) (fun h1 v1 e1 => ?_)
    have f1 := e1.keep hf (by simpa using n1.symm)
    have g1 := e1.keep hg (by simpa using n2.symm)
    have R1 := R.keep e1 (by simpa using n4.1) (by simpa using n5.1)
    have v1' : h1 a = some (.inr (8, [.int (nI width), .ref la, .ref na, .int (nI (ws.length + 1))])) := v1
    refine g_aloadn M_8_add d_8_add_19 (by first | rfl | assumption) ?_
    refine g_aloadn M_8_add d_8_add_20 (by first | rfl | assumption) ?_
    refine g_get M_8_add d_8_add_21 fl_8_29 v1' (by rfl) ?_
    refine g_iconst M_8_add (v := nI 1) d_8_add_24 (by decide) ?_
    refine g_isub M_8_add d_8_add_25 ?_
    rw [pk_sub (show 1 ≤ ws.length + 1 by omega)]
    refine g_aloadn M_8_add d_8_add_26 (by first | rfl | assumption) ?_
    refine gc_V M_8_add 0 0 [.int (nI (ws.length + 1 - 1)), .ref aw] [] d_8_add_27 cv_8_36 v1' (by rfl) (by rfl) (Nat.le_of_ble_eq_true (by rfl)) (Nat.le_of_ble_eq_true (by rfl)) (by decide) (by decide) (by decide) (by decide) (C_8_put hr hw v1' f1 g1 hch (by omega) (by omega) R1 hlw n1 n2 n3 n4.2 n5.2 (fun h2 f2 g2 e2 l2 m2 c2 x1 x2 x3 x4 => ?_))
    show gG _ _ _ _ _ _ _ _ _ _
    refine g_iconst M_8_add (v := 1) d_8_add_30 (by decide) ?_
    refine g_iret M_8_add d_8_add_31 rfl (by decide) (kt hlt h2 ((e1.weak (S' := [a, la, na]) (by simp)).trans e2 (by simp)) ?_)
    rw [show ws.length + 1 - 1 = ws.length by omega] at x1 x2 x3 x4
    refine ⟨by simp; omega, fun x hx => ?_, by simpa using e2.keep v1' (by simpa using ⟨n1, n2⟩), f2, g2, l2, m2, c2, fun i hi => ?_⟩
    · rcases List.mem_append.mp hx with q | q
      · exact hok x q
      · rw [List.mem_singleton.mp q]; exact ⟨hlw, R.1.2⟩
    · rw [getD_appL]
      simp only [List.length_append, List.length_cons, List.length_nil] at hi
      by_cases q : i = ws.length
      · rw [if_pos q, q]
        exact ⟨x1, fun j hj => x3 j (by omega)⟩
      · rw [if_neg q]
        have hi2 : i < ws.length := by omega
        refine ⟨(x2 i q).trans (hall i hi2).1, fun j hj => ?_⟩
        have hwi : (ws.getD i []).length ≤ width := by
          have hm : ws.getD i [] ∈ ws := by rw [List.getD_eq_getElem?_getD, List.getElem?_eq_getElem hi2]; exact List.getElem_mem hi2
          exact (hok _ hm).1
        have := nI_mulbd (width := width) hi2
        rw [x4 (i * width + j) (Or.inl (by omega))]
        exact (hall i hi2).2 j hj
  · have hge : rows ≤ ws.length := by
      rcases Nat.lt_or_ge ws.length rows with q | q
      · rw [decide_eq_false (by omega)] at c9; exact absurd rfl c9
      · exact q
    refine g_iconst M_8_add (v := 0) d_8_add_7 (by decide) ?_
    exact g_iret M_8_add d_8_add_8 rfl (by decide) (kf hge)
end
section
/-! ===== dies: count, add; the first die; order text, order, history: made ===== -/
def sepR (r : Nat → Nat) (n : Nat) : Prop := ∀ i j, i < n → j < n → r i = r j → i = j
def offR (r : Nat → Nat) (n x : Nat) : Prop := ∀ k, k < n → x ≠ r k
theorem sepR.ne {r : Nat → Nat} {n : Nat} (s : sepR r n) (i j : Nat) (hi : i < n) (hj : j < n) (h : i ≠ j) : r i ≠ r j := fun e => h (s i j hi hj e)
theorem nm_set {h' : Hp_} {a n : Nat} {xs : List Int32} {g : Nat → Int32} {x : Int32} (hl : xs.length < n) (hg : ∀ i, i < xs.length → g i = xs.getD i 0) (v : h' a = some (.inl (false, .int, (n, .inl (upd g xs.length x))))) : nmR h' a n (xs ++ [x]) := by
  refine ⟨by simp; omega, _, v, fun i hi => ?_⟩
  simp only [List.length_append, List.length_cons, List.length_nil] at hi
  unfold upd
  simp only [List.getD_eq_getElem?_getD, List.getElem?_append]
  by_cases q : i = xs.length
  · rw [if_pos q, if_neg (by omega), q]; simp
  · rw [if_neg q, if_pos (by omega), hg i (by omega), List.getD_eq_getElem?_getD]
set_option maxHeartbeats 4000000 in
set_option maxRecDepth 100000 in
theorem C_0_count {r : Nat → Nat} {v : Dl_} {h : Hp_} {Q : Ot_ → Hp_ → Prop} (D : diR h r v) (k : Q (.inl (some (.int (nI v.1.length)))) h) : gG 2 90 0 0 M_0_count 0 (lv_args 0 [.ref (r 0)]) [] h Q := by
  obtain ⟨v0, ⟨-, -, v1, -⟩, -⟩ := id D
  refine g_aloadn M_0_count d_0_count_0 (by first | rfl | assumption) ?_
  refine g_get M_0_count d_0_count_1 fl_0_14 (by assumption) (by rfl) ?_
  refine gc_V M_0_count 0 0 [] [] d_0_count_4 cv_0_27 v1 (by rfl) (by rfl) (Nat.le_of_ble_eq_true (by rfl)) (Nat.le_of_ble_eq_true (by rfl)) (by decide) (by decide) (by decide) (by decide) (C_8_count v1 ?_)
  exact g_iret M_0_count d_0_count_7 rfl rfl k
set_option maxHeartbeats 4000000 in
set_option maxRecDepth 100000 in
theorem C_0_add {r : Nat → Nat} {v : Dl_} {we le wa la : Nat} {e a : List Nat} {c : Int32} {h : Hp_} {Q : Ot_ → Hp_ → Prop} (s : sepR r 8) (D : diR h r v) (E : wdR h we le e) (AD : wdR h wa la a) (he : e.length ≤ 4) (ha : a.length ≤ 4) (o1 : offR r 8 we) (o2 : offR r 8 le) (o3 : offR r 8 wa) (o4 : offR r 8 la)
    (kf : 12 ≤ v.1.length → Q (.inl (some (.int 0))) h) (kt : v.1.length < 12 → ∀ h', gExt h h' ((List.range 8).map r) [] → diR h' r (v.1 ++ [e], v.2.1 ++ [a], v.2.2 ++ [c]) → Q (.inl (some (.int 1))) h') : gG 4 170 0 0 M_0_add 0 (lv_args 0 [.ref (r 0), .ref we, .ref wa, .int c]) [] h Q := by
  obtain ⟨v0, W1, W2, ⟨-, g, hg, hgv⟩, l1, l2⟩ := id D
  have hlen : v.1.length ≤ 12 := W1.1
  have mr : ∀ k, k < 8 → r k ∈ (List.range 8).map r := fun k hk => List.mem_map.mpr ⟨k, List.mem_range.mpr hk, rfl⟩
  refine g_aloadn M_0_add d_0_add_0 (by first | rfl | assumption) ?_
  refine gc_V M_0_add 0 0 [] [] d_0_add_1 cv_0_31 v0 (by rfl) (by rfl) (Nat.le_of_ble_eq_true (by rfl)) (Nat.le_of_ble_eq_true (by rfl)) (by decide) (by decide) (by decide) (by decide) (C_0_count D ?_)
  show gG _ _ _ _ _ _ _ _ _ _
  refine g_istore M_0_add d_0_add_4 (by decide) (by first | rfl | (simp only [gc]; simp [*])) ?_
  refine g_iload M_0_add d_0_add_6 (by first | rfl | assumption) ?_
  refine g_if_lt M_0_add (tgt := 21) d_0_add_8 (by decide) (fun c9 => absurd c9 (nI_pos (by omega))) (fun _ => ?_)
  refine g_iload M_0_add d_0_add_11 (by first | rfl | assumption) ?_
  refine g_aloadn M_0_add d_0_add_13 (by first | rfl | assumption) ?_
  refine g_get M_0_add d_0_add_14 fl_0_23 (by assumption) (by rfl) ?_
  refine g_alen M_0_add d_0_add_17 (by assumption) ?_
  refine g_icmp_lt M_0_add (tgt := 23) d_0_add_18 (by decide) (fun c9 => ?_) (fun c9 => ?_)
  · rw [nI_ltI (by omega) (by omega)] at c9
    refine g_aloadn M_0_add d_0_add_23 (by first | rfl | assumption) ?_
    refine g_get M_0_add d_0_add_24 fl_0_23 (by assumption) (by rfl) ?_
    refine g_iload M_0_add d_0_add_27 (by first | rfl | assumption) ?_
    refine g_iloadn M_0_add d_0_add_29 (by first | rfl | assumption) ?_
    refine e_ias M_0_add d_0_add_30 hg (vp_in_nI (by omega) (by decide)) (fun h1 g1 e1 => ?_)
    rw [nI_cl (by omega), ← l2] at g1
    have N1 := nm_set (by omega) hgv g1
    have W1' := W1.keep e1 (by simpa using s.ne 1 7 (by decide) (by decide) (by decide)) (by simpa using s.ne 2 7 (by decide) (by decide) (by decide)) (by simpa using s.ne 3 7 (by decide) (by decide) (by decide))
    have W2' := W2.keep e1 (by simpa using s.ne 4 7 (by decide) (by decide) (by decide)) (by simpa using s.ne 5 7 (by decide) (by decide) (by decide)) (by simpa using s.ne 6 7 (by decide) (by decide) (by decide))
    have v0' := e1.keep v0 (by simpa using s.ne 0 7 (by decide) (by decide) (by decide))
    have E' := E.keep e1 (by simpa using o1 7 (by decide)) (by simpa using o2 7 (by decide))
    have AD' := AD.keep e1 (by simpa using o3 7 (by decide)) (by simpa using o4 7 (by decide))
    refine g_aloadn M_0_add d_0_add_31 (by first | rfl | assumption) ?_
    refine g_get M_0_add d_0_add_32 fl_0_14 (by assumption) (by rfl) ?_
    refine g_aloadn M_0_add d_0_add_35 (by first | rfl | assumption) ?_
    refine gc_V M_0_add 0 0 [.ref we] [] d_0_add_36 cv_0_32 W1'.2.2.1 (by rfl) (by rfl) (Nat.le_of_ble_eq_true (by rfl)) (Nat.le_of_ble_eq_true (by rfl)) (by decide) (by decide) (by decide) (by decide) (C_8_add (by decide) (by decide) W1' E' he (s.ne 1 2 (by decide) (by decide) (by decide)) (s.ne 1 3 (by decide) (by decide) (by decide)) (s.ne 2 3 (by decide) (by decide) (by decide)) ⟨o1 1 (by decide), o1 2 (by decide), o1 3 (by decide)⟩ ⟨o2 1 (by decide), o2 2 (by decide), o2 3 (by decide)⟩ (fun q => absurd q (by omega)) (fun _ h2 e2 W1b => ?_))
    have v0b := e2.keep v0' (by simpa using ⟨s.ne 0 1 (by decide) (by decide) (by decide), s.ne 0 2 (by decide) (by decide) (by decide), s.ne 0 3 (by decide) (by decide) (by decide)⟩)
    have W2b := W2'.keep e2 (by simpa using ⟨s.ne 4 1 (by decide) (by decide) (by decide), s.ne 4 2 (by decide) (by decide) (by decide), s.ne 4 3 (by decide) (by decide) (by decide)⟩) (by simpa using ⟨s.ne 5 1 (by decide) (by decide) (by decide), s.ne 5 2 (by decide) (by decide) (by decide), s.ne 5 3 (by decide) (by decide) (by decide)⟩) (by simpa using ⟨s.ne 6 1 (by decide) (by decide) (by decide), s.ne 6 2 (by decide) (by decide) (by decide), s.ne 6 3 (by decide) (by decide) (by decide)⟩)
    have N1b := N1.keep e2 (by simpa using ⟨s.ne 7 1 (by decide) (by decide) (by decide), s.ne 7 2 (by decide) (by decide) (by decide), s.ne 7 3 (by decide) (by decide) (by decide)⟩)
    have ADb := AD'.keep e2 (by simpa using ⟨o3 1 (by decide), o3 2 (by decide), o3 3 (by decide)⟩) (by simpa using ⟨o4 1 (by decide), o4 2 (by decide), o4 3 (by decide)⟩)
    refine g_if_eq M_0_add (tgt := 57) d_0_add_39 (by decide) (fun c9 => absurd c9 (by decide)) (fun _ => ?_)
    refine g_aloadn M_0_add d_0_add_42 (by first | rfl | assumption) ?_
    refine g_get M_0_add d_0_add_43 fl_0_20 (by assumption) (by rfl) ?_
    refine g_aloadn M_0_add d_0_add_46 (by first | rfl | assumption) ?_
    refine gc_V M_0_add 0 0 [.ref wa] [] d_0_add_47 cv_0_32 W2b.2.2.1 (by rfl) (by rfl) (Nat.le_of_ble_eq_true (by rfl)) (Nat.le_of_ble_eq_true (by rfl)) (by decide) (by decide) (by decide) (by decide) (C_8_add (by decide) (by decide) W2b ADb ha (s.ne 4 5 (by decide) (by decide) (by decide)) (s.ne 4 6 (by decide) (by decide) (by decide)) (s.ne 5 6 (by decide) (by decide) (by decide)) ⟨o3 4 (by decide), o3 5 (by decide), o3 6 (by decide)⟩ ⟨o4 4 (by decide), o4 5 (by decide), o4 6 (by decide)⟩ (fun q => absurd q (by omega)) (fun _ h3 e3 W2c => ?_))
    have off : ∀ x : Nat, x ≠ 4 → x ≠ 5 → x ≠ 6 → x < 8 → r x ∉ [r 4, r 5, r 6] := fun x a1 a2 a3 a4 => by simpa using ⟨s.ne x 4 a4 (by decide) a1, s.ne x 5 a4 (by decide) a2, s.ne x 6 a4 (by decide) a3⟩
    refine g_if_eq M_0_add (tgt := 57) d_0_add_50 (by decide) (fun c9 => absurd c9 (by decide)) (fun _ => ?_)
    refine g_iconst M_0_add (v := 1) d_0_add_53 (by decide) ?_
    refine g_goto M_0_add (tgt := 58) d_0_add_54 (by decide) ?_
    refine g_iret M_0_add d_0_add_58 rfl (by decide) (kt c9 h3 ?_ ⟨e3.keep v0b (off 0 (by decide) (by decide) (by decide) (by decide)), W1b.keep e3 (off 1 (by decide) (by decide) (by decide) (by decide)) (off 2 (by decide) (by decide) (by decide) (by decide)) (off 3 (by decide) (by decide) (by decide) (by decide)), W2c, N1b.keep e3 (off 7 (by decide) (by decide) (by decide) (by decide)), by simp [l1], by simp [l2]⟩)
    have sub : ∀ l : List Nat, (∀ x ∈ l, ∃ k, k < 8 ∧ x = r k) → ∀ x ∈ l, x ∈ (List.range 8).map r ∨ x ∈ ([] : List Nat) := fun l hl x hx => by
      obtain ⟨k, hk, rfl⟩ := hl x hx
      exact Or.inl (mr k hk)
    have t1 := (e1.weak (S' := (List.range 8).map r) (fun x hx => by rw [List.mem_singleton.mp hx]; exact mr 7 (by decide)))
    have t2 := t1.trans e2 (sub _ (fun x hx => by
      simp only [List.mem_cons, List.not_mem_nil, or_false] at hx
      rcases hx with rfl | rfl | rfl
      · exact ⟨1, by decide, rfl⟩
      · exact ⟨2, by decide, rfl⟩
      · exact ⟨3, by decide, rfl⟩))
    exact t2.trans e3 (sub _ (fun x hx => by
      simp only [List.mem_cons, List.not_mem_nil, or_false] at hx
      rcases hx with rfl | rfl | rfl
      · exact ⟨4, by decide, rfl⟩
      · exact ⟨5, by decide, rfl⟩
      · exact ⟨6, by decide, rfl⟩))
  · have hge : 12 ≤ v.1.length := by
      rcases Nat.lt_or_ge v.1.length 12 with q | q
      · exact absurd (nI_lt q (by decide)) c9
      · exact q
    refine g_iconst M_0_add (v := 0) d_0_add_21 (by decide) ?_
    exact g_iret M_0_add d_0_add_22 rfl (by decide) (kf hge)
end
section
/-! ===== the first die; order text, order, history, the mint: made ===== -/
abbrev Nw_ : Sl_ := ([], [], [], ([[]], [[115]], [0]), ([], [], []), 0, 0)
abbrev N0_ : Sl_ := ([], [], [], ([], [], []), ([], [], []), 0, 0)
set_option maxHeartbeats 4000000 in
set_option maxRecDepth 100000 in
theorem C_6_addFirstDie {r : Nat → Nat} {h : Hp_} {Q : Ot_ → Hp_ → Prop} (s : sepR r 24) (D : stR h r N0_) (k : ∀ h' A, gExt h h' ((List.range 24).map r) A → stR h' r Nw_ → Q (.inl none) h') : gG 5 220 4 36 M_6_addFirstDie 0 (lv_args 0 [.ref (r 0)]) [] h Q := by
  have al : ∀ k, k < 24 → h (r k) ≠ none := by
    obtain ⟨a0, ⟨-, -, a1, f1, g1, a2, a3, -⟩, ⟨-, -, b1, f2, g2, b2, b3, -⟩, ⟨-, -, c1, f3, g3, c2, c3, -⟩, ⟨d0, ⟨-, -, d1, f4, g4, d2, d3, -⟩, ⟨-, -, e1, f5, g5, e2, e3, -⟩, ⟨-, g6, f6, -⟩, -⟩, ⟨p0, ⟨-, -, p1, f7, g7, p2, p3, -⟩, ⟨-, g8, f8, -⟩, ⟨-, g9, f9, -⟩, -⟩, -⟩ := id D
    intro k hk
    rcases k with _ | _ | _ | _ | _ | _ | _ | _ | _ | _ | _ | _ | _ | _ | _ | _ | _ | _ | _ | _ | _ | _ | _ | _ | k
    all_goals first | omega | (simp only [Nat.zero_add, Nat.reduceAdd] at *; simp [*])
  refine e_new M_6_addFirstDie (kc' := 3) (ks' := 34) (N := 2) d_6_addFirstDie_0 nw_6_40 rfl (by decide) (by decide) (fun w1 h1 u1 e1 => ?_)
  refine g_dup M_6_addFirstDie d_6_addFirstDie_3 (by rfl) ?_
  refine gc_I M_6_addFirstDie 2 18 [] [.ref w1] d_6_addFirstDie_4 ci_6_42 (by rfl) (by rfl) (Nat.le_of_ble_eq_true (by rfl)) (Nat.le_of_ble_eq_true (by rfl)) (by decide) (by decide) (by decide) (by decide) (C_7_init u1 (fun l1 h2 e2 W1 => ?_))
  have off : ∀ {h h' : Hp_} {S A : List Nat} (e : gExt h h' S A) (x : Nat), (∀ k, k < 24 → h (r k) ≠ none) → x ∈ A → offR r 24 x := fun e x al hx k hk q => al k hk (by rw [← q]; exact (e.2.1 x hx).1)
  have al1 : ∀ k, k < 24 → h1 (r k) ≠ none := fun k hk => e1.2.2.1 _ (al k hk)
  have al2 : ∀ k, k < 24 → h2 (r k) ≠ none := fun k hk => e2.2.2.1 _ (al1 k hk)
  have ow1 := off e1 w1 al (List.mem_singleton.mpr rfl)
  have ol1 := off e2 l1 al1 (List.mem_singleton.mpr rfl)
  have D1 := D.keep e1 (fun k hk => by simp)
  have D2 := D1.keep e2 (fun k hk => by simpa using (ow1 k hk).symm)
  show gG _ _ _ _ _ _ _ _ _ _
  refine g_astoren M_6_addFirstDie d_6_addFirstDie_7 (by decide) (by first | rfl | (simp only [gc]; simp [*])) ?_
  refine e_new M_6_addFirstDie (kc' := 1) (ks' := 16) (N := 2) d_6_addFirstDie_8 nw_6_40 rfl (by decide) (by decide) (fun w2 h3 u3 e3 => ?_)
  refine g_dup M_6_addFirstDie d_6_addFirstDie_11 (by rfl) ?_
  refine gc_I M_6_addFirstDie 0 0 [] [.ref w2] d_6_addFirstDie_12 ci_6_42 (by rfl) (by rfl) (Nat.le_of_ble_eq_true (by rfl)) (Nat.le_of_ble_eq_true (by rfl)) (by decide) (by decide) (by decide) (by decide) (C_7_init u3 (fun l2 h4 e4 W2 => ?_))
  have al3 : ∀ k, k < 24 → h3 (r k) ≠ none := fun k hk => e3.2.2.1 _ (al2 k hk)
  have ow2 := off e3 w2 al2 (List.mem_singleton.mpr rfl)
  have ol2 := off e4 l2 al3 (List.mem_singleton.mpr rfl)
  have D3 := D2.keep e3 (fun k hk => by simp)
  have D4 := D3.keep e4 (fun k hk => by simpa using (ow2 k hk).symm)
  have W1a := W1.toR.keep e3 (by simp) (by simp)
  have nw12 : w1 ≠ w2 := e3.fresh W1.toR.2.1 (List.mem_singleton.mpr rfl)
  obtain ⟨fz, hfz, -⟩ := id W1.toR.2.2
  have nl12 : l1 ≠ w2 := e3.fresh hfz (List.mem_singleton.mpr rfl)
  have W1b := W1a.keep e4 (by simpa using nw12) (by simpa using nl12)
  have n22 : w2 ≠ l2 := e4.fresh u3 (List.mem_singleton.mpr rfl)
  have nw1l2 : w1 ≠ l2 := e4.fresh W1a.2.1 (List.mem_singleton.mpr rfl)
  obtain ⟨fy, hfy, -⟩ := id W1a.2.2
  have nl1l2 : l1 ≠ l2 := e4.fresh hfy (List.mem_singleton.mpr rfl)
  show gG _ _ _ _ _ _ _ _ _ _
  refine g_astoren M_6_addFirstDie d_6_addFirstDie_15 (by decide) (by first | rfl | (simp only [gc]; simp [*])) ?_
  refine g_aloadn M_6_addFirstDie d_6_addFirstDie_16 (by first | rfl | assumption) ?_
  refine g_bipush M_6_addFirstDie (v := nI 115) d_6_addFirstDie_17 (by decide) ?_
  refine gc_V M_6_addFirstDie 0 0 [.int (nI 115)] [] d_6_addFirstDie_19 cv_6_43 W2.toR.2.1 (by rfl) (by rfl) (Nat.le_of_ble_eq_true (by rfl)) (Nat.le_of_ble_eq_true (by rfl)) (by decide) (by decide) (by decide) (by decide) (C_7_append W2.toR (by decide) (by decide) n22 (fun h5 e5 W2a => ?_))
  have D5 := D4.keep e5 (fun k hk => by simpa using ⟨(ow2 k hk).symm, (ol2 k hk).symm⟩)
  have W1c := W1b.keep e5 (by simpa using ⟨nw12, nw1l2⟩) (by simpa using ⟨nl12, nl1l2⟩)
  obtain ⟨a0, a1, a2, a3, a4, a5, a6⟩ := id D5
  show gG _ _ _ _ _ _ _ _ _ _
  refine g_aloadn M_6_addFirstDie d_6_addFirstDie_22 (by first | rfl | assumption) ?_
  refine g_get M_6_addFirstDie d_6_addFirstDie_23 fl_6_29 (by assumption) (by rfl) ?_
  refine g_aloadn M_6_addFirstDie d_6_addFirstDie_26 (by first | rfl | assumption) ?_
  refine g_aloadn M_6_addFirstDie d_6_addFirstDie_27 (by first | rfl | assumption) ?_
  refine g_iconst M_6_addFirstDie (v := nI 0) d_6_addFirstDie_28 (by decide) ?_
  refine gc_V M_6_addFirstDie 0 0 [.ref w1, .ref w2, .int (nI 0)] [] d_6_addFirstDie_29 cv_6_47 a4.1 (by rfl) (by rfl) (Nat.le_of_ble_eq_true (by rfl)) (Nat.le_of_ble_eq_true (by rfl)) (by decide) (by decide) (by decide) (by decide) (C_0_add (fun i j hi hj e => by have := s (10 + i) (10 + j) (by omega) (by omega) e; omega) a4 W1c W2a (by decide) (by decide) (fun k hk => ow1 _ (by omega)) (fun k hk => ol1 _ (by omega)) (fun k hk => ow2 _ (by omega)) (fun k hk => ol2 _ (by omega)) (fun q => absurd q (by decide)) (fun _ h6 e6 D6 => ?_))
  show gG _ _ _ _ _ _ _ _ _ _
  refine g_pop M_6_addFirstDie d_6_addFirstDie_32 (by rfl) ?_
  have sub6 : ∀ k, k < 24 → (k < 10 ∨ 18 ≤ k) → r k ∉ (List.range 8).map (fun k => r (10 + k)) := by
    intro k hk ho hx
    obtain ⟨j, hj, e⟩ := List.mem_map.mp hx
    have := s (10 + j) k (by have := List.mem_range.mp hj; omega) hk e
    have := List.mem_range.mp hj
    omega
  refine g_vret M_6_addFirstDie d_6_addFirstDie_33 rfl (k h6 ([w1] ++ [l1] ++ [w2] ++ [l2]) ?_ ⟨e6.keep a0 (sub6 0 (by decide) (by decide)), a1.keep e6 (sub6 1 (by decide) (by decide)) (sub6 2 (by decide) (by decide)) (sub6 3 (by decide) (by decide)), a2.keep e6 (sub6 4 (by decide) (by decide)) (sub6 5 (by decide) (by decide)) (sub6 6 (by decide) (by decide)), a3.keep e6 (sub6 7 (by decide) (by decide)) (sub6 8 (by decide) (by decide)) (sub6 9 (by decide) (by decide)), D6, a5.keep e6 (fun k hk => sub6 (18 + k) (by omega) (by omega)), a6⟩)
  have t2 := ((e1.weak (S' := (List.range 24).map r) (by simp)).trans e2 (by simp)).trans e3 (by simp)
  have t4 := t2.trans e4 (by simp)
  have t5 := t4.trans e5 (by simp)
  have t6 := t5.trans e6 (fun x hx => by
    obtain ⟨j, hj, rfl⟩ := List.mem_map.mp hx
    exact Or.inl (List.mem_map.mpr ⟨10 + j, List.mem_range.mpr (by have := List.mem_range.mp hj; omega), rfl⟩))
  simpa using t6
/-- the order text: its signs, its grammar -/
def txR (h : Hp_) (t s g : Nat) (tx : List Nat) : Prop := okW 60 tx ∧ h t = some (.inr (5, [.ref s, .int (nI tx.length), .ref g])) ∧ (∃ f, h s = some (.inl (false, .char, (60, .inl f))) ∧ (∀ j, j < 60 → gCh (f j)) ∧ ∀ j, j < tx.length → f j = nI (tx.getD j 0)) ∧ ∃ p l, h g = some (.inr (1, [.int p, .int l]))
set_option maxHeartbeats 4000000 in
set_option maxRecDepth 100000 in
theorem C_5_init {a : Nat} {h : Hp_} {Q : Ot_ → Hp_ → Prop} (h0 : h a = some (.inr (5, [.null, .int 0, .null]))) (k : ∀ s g h', gExt h h' [a] [s, g] → txR h' a s g [] → Q (.inl none) h') : gG 2 90 2 62 M_5_init 0 (lv_args 0 [.ref a]) [] h Q := by
  refine g_aloadn M_5_init d_5_init_0 (by first | rfl | assumption) ?_
  refine g_objInit M_5_init d_5_init_1 oi_5_3 oi_i oi_c (Nat.le_of_ble_eq_true (by rfl)) (Nat.le_of_ble_eq_true (by rfl)) ?_
  refine g_aloadn M_5_init d_5_init_4 (by first | rfl | assumption) ?_
  refine g_bipush M_5_init (v := nI 60) d_5_init_5 (by decide) ?_
  refine e_newC M_5_init (kc' := 1) (ks' := 2) (N := 60) d_5_init_7 (by decide) (by decide) (by decide) (by decide) (by decide) (fun s h1 w1 e1 => ?_)
  refine e_putF M_5_init d_5_init_9 pf_5_9 rfl (e1.keep h0 (by simp)) (by rfl) (by rfl) (fun h2 u2 e2 => ?_)
  refine g_aloadn M_5_init d_5_init_12 (by first | rfl | assumption) ?_
  refine e_new M_5_init (kc' := 0) (ks' := 0) (N := 2) d_5_init_13 nw_5_15 rfl (by decide) (by decide) (fun g h3 u3 e3 => ?_)
  have v3 := e3.keep u2 (by simp)
  refine g_dup M_5_init d_5_init_16 (by rfl) ?_
  refine gc_I M_5_init 0 0 [] [.ref g, .ref a] d_5_init_17 ci_5_17 (by rfl) (by rfl) (Nat.le_of_ble_eq_true (by rfl)) (Nat.le_of_ble_eq_true (by rfl)) (by decide) (by decide) (by decide) (by decide) (C_1_init ?_)
  show gG _ _ _ _ _ _ _ _ _ _
  refine e_putF M_5_init d_5_init_20 pf_5_18 rfl v3 (by rfl) (by rfl) (fun h4 u4 e4 => ?_)
  have ns : s ≠ a := e1.new_ne h0 (List.mem_singleton.mpr rfl)
  have ng : g ≠ a := e3.new_ne u2 (List.mem_singleton.mpr rfl)
  have w2 := e2.keep w1 (by simpa using ns)
  have w4 := e4.keep (e3.keep w2 (by simp)) (by simpa using ns)
  have t := (((e1.weak (S' := [a]) (by simp)).trans e2 (by simp)).trans e3 (by simp)).trans e4 (by simp)
  exact g_vret M_5_init d_5_init_23 rfl (k s g h4 t ⟨⟨by decide, fun x hx => (nomatch hx)⟩, u4, ⟨_, w4, fun j hj => gCh_0, fun j hj => absurd hj (Nat.not_lt_zero j)⟩, 0, 0, e4.keep u3 (by simpa using ng)⟩)
/-- an order being read: kind, condition, which word is being written, the two words -/
def orR (h : Hp_) (a f lf s ls : Nat) (kd cd is2 : Int32) (w1 w2 : List Nat) : Prop := h a = some (.inr (4, [.int kd, .int cd, .int is2, .ref f, .ref s])) ∧ wdR h f lf w1 ∧ wdR h s ls w2
set_option maxHeartbeats 4000000 in
set_option maxRecDepth 100000 in
theorem C_4_init {a : Nat} {h : Hp_} {Q : Ot_ → Hp_ → Prop} (h0 : h a = some (.inr (4, [.int 0, .int 0, .int 0, .null, .null]))) (k : ∀ f lf s ls h', gExt h h' [a] [f, lf, s, ls] → orR h' a f lf s ls 0 0 0 [] [] → Q (.inl none) h') : gG 2 90 4 36 M_4_init 0 (lv_args 0 [.ref a]) [] h Q := by
  refine g_aloadn M_4_init d_4_init_0 (by first | rfl | assumption) ?_
  refine g_objInit M_4_init d_4_init_1 oi_4_1 oi_i oi_c (Nat.le_of_ble_eq_true (by rfl)) (Nat.le_of_ble_eq_true (by rfl)) ?_
  refine g_aloadn M_4_init d_4_init_4 (by first | rfl | assumption) ?_
  refine e_new M_4_init (kc' := 3) (ks' := 34) (N := 2) d_4_init_5 nw_4_7 rfl (by decide) (by decide) (fun f h1 u1 e1 => ?_)
  have v1 := e1.keep h0 (by simp)
  refine g_dup M_4_init d_4_init_8 (by rfl) ?_
  refine gc_I M_4_init 2 18 [] [.ref f, .ref a] d_4_init_9 ci_4_9 (by rfl) (by rfl) (Nat.le_of_ble_eq_true (by rfl)) (Nat.le_of_ble_eq_true (by rfl)) (by decide) (by decide) (by decide) (by decide) (C_7_init u1 (fun lf h2 e2 W2 => ?_))
  have v2 := e2.keep v1 (by simpa using e1.fresh h0 (List.mem_singleton.mpr rfl))
  show gG _ _ _ _ _ _ _ _ _ _
  refine e_putF M_4_init d_4_init_12 pf_4_10 rfl v2 (by rfl) (by rfl) (fun h3 u3 e3 => ?_)
  refine g_aloadn M_4_init d_4_init_15 (by first | rfl | assumption) ?_
  refine e_new M_4_init (kc' := 1) (ks' := 16) (N := 2) d_4_init_16 nw_4_7 rfl (by decide) (by decide) (fun s h4 u4 e4 => ?_)
  have v4 := e4.keep u3 (by simp)
  refine g_dup M_4_init d_4_init_19 (by rfl) ?_
  refine gc_I M_4_init 0 0 [] [.ref s, .ref a] d_4_init_20 ci_4_9 (by rfl) (by rfl) (Nat.le_of_ble_eq_true (by rfl)) (Nat.le_of_ble_eq_true (by rfl)) (by decide) (by decide) (by decide) (by decide) (C_7_init u4 (fun ls h5 e5 W5 => ?_))
  have v5 := e5.keep v4 (by simpa using e4.fresh u3 (List.mem_singleton.mpr rfl))
  show gG _ _ _ _ _ _ _ _ _ _
  refine e_putF M_4_init d_4_init_23 pf_4_16 rfl v5 (by rfl) (by rfl) (fun h6 u6 e6 => ?_)
  have r5 := (e6.weak (S' := [a]) (by simp))
  have r3 := ((e4.weak (S' := [a]) (by simp)).trans e5 (by simp)).trans r5 (by simp)
  have r2 := e3.trans r3 (by simp)
  have t := ((e1.weak (S' := [a]) (by simp)).trans e2 (by simp)).trans r2 (by simp)
  have ne : ∀ x ∈ [f, lf, s, ls], x ∉ [a] := fun x hx => t.mem_ne h0 (by simpa using hx)
  exact g_vret M_4_init d_4_init_26 rfl (k f lf s ls h6 t ⟨u6, W2.toR.keep r2 (ne _ (by simp)) (ne _ (by simp)), W5.toR.keep r5 (ne _ (by simp)) (ne _ (by simp))⟩)
end
section
/-! ===== the history, made ===== -/
def stB (h : Hp_) (B : List Nat) (v : Sl_) : Prop := B.length = 24 ∧ stR h (fun k => B.getD k 0) v
theorem getD_mem {B : List Nat} {k : Nat} (hk : k < B.length) : B.getD k 0 ∈ B := by
  rw [List.getD_eq_getElem?_getD, List.getElem?_eq_getElem hk]
  exact List.getElem_mem hk
theorem stB.keep {h h' : Hp_} {S A B : List Nat} {v : Sl_} (H : stB h B v) (e : gExt h h' S A) (hs : ∀ x ∈ B, x ∉ S) : stB h' B v := ⟨H.1, H.2.keep e (fun k hk => hs _ (getD_mem (by rw [H.1]; exact hk)))⟩
theorem stB.of {h : Hp_} {a : Nat} {A : List Nat} (hl : A.length = 23) (H : stA h (fun k => (a :: A).getD k 0) st0) : stB h (a :: A) N0_ := ⟨by simp [hl], H.toR⟩
set_option maxHeartbeats 4000000 in
set_option maxRecDepth 100000 in
theorem C_3_init {a : Nat} {h : Hp_} {Q : Ot_ → Hp_ → Prop} (h0 : h a = some (.inr (3, [.null, .int 0]))) (k : ∀ arr B1 B2 B3 B4 h' f, gExt h h' [a] ([arr] ++ (B1 ++ (B2 ++ (B3 ++ B4)))) → h' a = some (.inr (3, [.ref arr, .int 0])) → h' arr = some (.inl (false, .object "PluralMint$State", (4, .inr (.inr (.inr (.inr f)))))) → f 0 = some (B1.getD 0 0) → f 1 = some (B2.getD 0 0) → f 2 = some (B3.getD 0 0) → f 3 = some (B4.getD 0 0) → stB h' B1 N0_ → stB h' B2 N0_ → stB h' B3 N0_ → stB h' B4 N0_ → Q (.inl none) h') : gG 4 200 97 5040 M_3_init 0 (lv_args 0 [.ref a]) [] h Q := by
  refine g_aloadn M_3_init d_3_init_0 (by first | rfl | assumption) ?_
  refine g_objInit M_3_init d_3_init_1 oi_3_3 oi_i oi_c (Nat.le_of_ble_eq_true (by rfl)) (Nat.le_of_ble_eq_true (by rfl)) ?_
  refine g_aloadn M_3_init d_3_init_4 (by first | rfl | assumption) ?_
  refine g_iconst M_3_init (v := nI 4) d_3_init_5 (by decide) ?_
  refine e_newA M_3_init (kc' := 96) (ks' := 5036) (N := 4) d_3_init_6 aw_3_9 ao_6 (by decide) (by decide) (by decide) (by decide) (by decide) (fun arr g0 w0 e0 => ?_)
  refine e_putF M_3_init d_3_init_9 pf_3_11 rfl (e0.keep h0 (by simp)) (by rfl) (by rfl) (fun g1 v0 e1 => ?_)
  have na : arr ≠ a := e0.new_ne h0 (List.mem_singleton.mpr rfl)
  have w0 := e1.keep w0 (by simpa using na)
  refine g_iconst M_3_init (v := nI 0) d_3_init_12 (by decide) ?_
  refine g_istoren M_3_init d_3_init_13 (by decide) (by first | rfl | (simp only [gc]; simp [*])) ?_
  refine g_iloadn M_3_init d_3_init_14 (by first | rfl | assumption) ?_
  refine g_aloadn M_3_init d_3_init_15 (by first | rfl | assumption) ?_
  refine g_get M_3_init d_3_init_16 fl_3_11 (by assumption) (by rfl) ?_
  refine g_alen M_3_init d_3_init_19 (by assumption) ?_
  refine g_icmp_ge M_3_init (tgt := 42) d_3_init_20 (by decide) (fun c9 => absurd c9 (by decide)) (fun _ => ?_)
  refine g_aloadn M_3_init d_3_init_23 (by first | rfl | assumption) ?_
  refine g_get M_3_init d_3_init_24 fl_3_11 (by assumption) (by rfl) ?_
  refine g_iloadn M_3_init d_3_init_27 (by first | rfl | assumption) ?_
  refine e_new M_3_init (kc' := 95) (ks' := 5029) (N := 7) d_3_init_28 nw_3_9 rfl (by decide) (by decide) (fun q0 x0 u0 ea0 => ?_)
  have v0a := ea0.keep v0 (by simp)
  have w0a := ea0.keep w0 (by simp)
  refine g_dup M_3_init d_3_init_31 (by rfl) ?_
  refine gc_I M_3_init 72 3777 [] [.ref q0, .int (nI 0), .ref arr] d_3_init_32 ci_3_17 (by rfl) (by rfl) (Nat.le_of_ble_eq_true (by rfl)) (Nat.le_of_ble_eq_true (by rfl)) (by decide) (by decide) (by decide) (by decide) (C_6_init u0 (fun A0 y0 hl0 eb0 s0 => ?_))
  have v0b := eb0.keep v0a (by simpa using ea0.fresh v0 (List.mem_singleton.mpr rfl))
  have w0b := eb0.keep w0a (by simpa using ea0.fresh w0 (List.mem_singleton.mpr rfl))
  have b0 := stB.of hl0 s0
  show gG _ _ _ _ _ _ _ _ _ _
  refine e_aas M_3_init d_3_init_35 w0b s0.1 (by rfl) (by rfl) (vp_in_nI (by decide) (by decide)) (fun z0 w1 ec0 => ?_)
  rw [nI_cl (by decide)] at w1
  have v1 := ec0.keep v0b (by simpa using na.symm)
  refine g_iinc M_3_init (v := nI 1) d_3_init_36 (by rfl) (by decide) (by rfl) (by decide) ?_
  refine g_goto M_3_init (tgt := 14) d_3_init_39 (by decide) ?_
  refine g_iloadn M_3_init d_3_init_14 (by first | rfl | assumption) ?_
  refine g_aloadn M_3_init d_3_init_15 (by first | rfl | assumption) ?_
  refine g_get M_3_init d_3_init_16 fl_3_11 (by assumption) (by rfl) ?_
  refine g_alen M_3_init d_3_init_19 (by assumption) ?_
  refine g_icmp_ge M_3_init (tgt := 42) d_3_init_20 (by decide) (fun c9 => absurd c9 (by decide)) (fun _ => ?_)
  refine g_aloadn M_3_init d_3_init_23 (by first | rfl | assumption) ?_
  refine g_get M_3_init d_3_init_24 fl_3_11 (by assumption) (by rfl) ?_
  refine g_iloadn M_3_init d_3_init_27 (by first | rfl | assumption) ?_
  refine e_new M_3_init (kc' := 71) (ks' := 3770) (N := 7) d_3_init_28 nw_3_9 rfl (by decide) (by decide) (fun q1 x1 u1 ea1 => ?_)
  have v1a := ea1.keep v1 (by simp)
  have w1a := ea1.keep w1 (by simp)
  refine g_dup M_3_init d_3_init_31 (by rfl) ?_
  refine gc_I M_3_init 48 2518 [] [.ref q1, .int (nI 1), .ref arr] d_3_init_32 ci_3_17 (by rfl) (by rfl) (Nat.le_of_ble_eq_true (by rfl)) (Nat.le_of_ble_eq_true (by rfl)) (by decide) (by decide) (by decide) (by decide) (C_6_init u1 (fun A1 y1 hl1 eb1 s1 => ?_))
  have v1b := eb1.keep v1a (by simpa using ea1.fresh v1 (List.mem_singleton.mpr rfl))
  have w1b := eb1.keep w1a (by simpa using ea1.fresh w1 (List.mem_singleton.mpr rfl))
  have b1 := stB.of hl1 s1
  show gG _ _ _ _ _ _ _ _ _ _
  refine e_aas M_3_init d_3_init_35 w1b s1.1 (by rfl) (by rfl) (vp_in_nI (by decide) (by decide)) (fun z1 w2 ec1 => ?_)
  rw [nI_cl (by decide)] at w2
  have v2 := ec1.keep v1b (by simpa using na.symm)
  refine g_iinc M_3_init (v := nI 2) d_3_init_36 (by rfl) (by decide) (by rfl) (by decide) ?_
  refine g_goto M_3_init (tgt := 14) d_3_init_39 (by decide) ?_
  refine g_iloadn M_3_init d_3_init_14 (by first | rfl | assumption) ?_
  refine g_aloadn M_3_init d_3_init_15 (by first | rfl | assumption) ?_
  refine g_get M_3_init d_3_init_16 fl_3_11 (by assumption) (by rfl) ?_
  refine g_alen M_3_init d_3_init_19 (by assumption) ?_
  refine g_icmp_ge M_3_init (tgt := 42) d_3_init_20 (by decide) (fun c9 => absurd c9 (by decide)) (fun _ => ?_)
  refine g_aloadn M_3_init d_3_init_23 (by first | rfl | assumption) ?_
  refine g_get M_3_init d_3_init_24 fl_3_11 (by assumption) (by rfl) ?_
  refine g_iloadn M_3_init d_3_init_27 (by first | rfl | assumption) ?_
  refine e_new M_3_init (kc' := 47) (ks' := 2511) (N := 7) d_3_init_28 nw_3_9 rfl (by decide) (by decide) (fun q2 x2 u2 ea2 => ?_)
  have v2a := ea2.keep v2 (by simp)
  have w2a := ea2.keep w2 (by simp)
  refine g_dup M_3_init d_3_init_31 (by rfl) ?_
  refine gc_I M_3_init 24 1259 [] [.ref q2, .int (nI 2), .ref arr] d_3_init_32 ci_3_17 (by rfl) (by rfl) (Nat.le_of_ble_eq_true (by rfl)) (Nat.le_of_ble_eq_true (by rfl)) (by decide) (by decide) (by decide) (by decide) (C_6_init u2 (fun A2 y2 hl2 eb2 s2 => ?_))
  have v2b := eb2.keep v2a (by simpa using ea2.fresh v2 (List.mem_singleton.mpr rfl))
  have w2b := eb2.keep w2a (by simpa using ea2.fresh w2 (List.mem_singleton.mpr rfl))
  have b2 := stB.of hl2 s2
  show gG _ _ _ _ _ _ _ _ _ _
  refine e_aas M_3_init d_3_init_35 w2b s2.1 (by rfl) (by rfl) (vp_in_nI (by decide) (by decide)) (fun z2 w3 ec2 => ?_)
  rw [nI_cl (by decide)] at w3
  have v3 := ec2.keep v2b (by simpa using na.symm)
  refine g_iinc M_3_init (v := nI 3) d_3_init_36 (by rfl) (by decide) (by rfl) (by decide) ?_
  refine g_goto M_3_init (tgt := 14) d_3_init_39 (by decide) ?_
  refine g_iloadn M_3_init d_3_init_14 (by first | rfl | assumption) ?_
  refine g_aloadn M_3_init d_3_init_15 (by first | rfl | assumption) ?_
  refine g_get M_3_init d_3_init_16 fl_3_11 (by assumption) (by rfl) ?_
  refine g_alen M_3_init d_3_init_19 (by assumption) ?_
  refine g_icmp_ge M_3_init (tgt := 42) d_3_init_20 (by decide) (fun c9 => absurd c9 (by decide)) (fun _ => ?_)
  refine g_aloadn M_3_init d_3_init_23 (by first | rfl | assumption) ?_
  refine g_get M_3_init d_3_init_24 fl_3_11 (by assumption) (by rfl) ?_
  refine g_iloadn M_3_init d_3_init_27 (by first | rfl | assumption) ?_
  refine e_new M_3_init (kc' := 23) (ks' := 1252) (N := 7) d_3_init_28 nw_3_9 rfl (by decide) (by decide) (fun q3 x3 u3 ea3 => ?_)
  have v3a := ea3.keep v3 (by simp)
  have w3a := ea3.keep w3 (by simp)
  refine g_dup M_3_init d_3_init_31 (by rfl) ?_
  refine gc_I M_3_init 0 0 [] [.ref q3, .int (nI 3), .ref arr] d_3_init_32 ci_3_17 (by rfl) (by rfl) (Nat.le_of_ble_eq_true (by rfl)) (Nat.le_of_ble_eq_true (by rfl)) (by decide) (by decide) (by decide) (by decide) (C_6_init u3 (fun A3 y3 hl3 eb3 s3 => ?_))
  have v3b := eb3.keep v3a (by simpa using ea3.fresh v3 (List.mem_singleton.mpr rfl))
  have w3b := eb3.keep w3a (by simpa using ea3.fresh w3 (List.mem_singleton.mpr rfl))
  have b3 := stB.of hl3 s3
  show gG _ _ _ _ _ _ _ _ _ _
  refine e_aas M_3_init d_3_init_35 w3b s3.1 (by rfl) (by rfl) (vp_in_nI (by decide) (by decide)) (fun z3 w4 ec3 => ?_)
  rw [nI_cl (by decide)] at w4
  have v4 := ec3.keep v3b (by simpa using na.symm)
  refine g_iinc M_3_init (v := nI 4) d_3_init_36 (by rfl) (by decide) (by rfl) (by decide) ?_
  refine g_goto M_3_init (tgt := 14) d_3_init_39 (by decide) ?_
  refine g_iloadn M_3_init d_3_init_14 (by first | rfl | assumption) ?_
  refine g_aloadn M_3_init d_3_init_15 (by first | rfl | assumption) ?_
  refine g_get M_3_init d_3_init_16 fl_3_11 (by assumption) (by rfl) ?_
  refine g_alen M_3_init d_3_init_19 (by assumption) ?_
  refine g_icmp_ge M_3_init (tgt := 42) d_3_init_20 (by decide) (fun _ => ?_) (fun c9 => absurd (show nI 4 ≤ nI 4 by decide) c9)
  have r3 := ec3.weak (S' := [arr]) (fun x hx => hx)
  have r2 := (((ec2.weak (S' := [arr]) (fun x hx => hx)).trans ea3 (by simp)).trans eb3 (by simp)).trans r3 (by simp)
  have r1 := (((ec1.weak (S' := [arr]) (fun x hx => hx)).trans ea2 (by simp)).trans eb2 (by simp)).trans r2 (by simp)
  have r0 := (((ec0.weak (S' := [arr]) (fun x hx => hx)).trans ea1 (by simp)).trans eb1 (by simp)).trans r1 (by simp)
  have T := (((e0.weak (S' := [a]) (by simp)).trans e1 (by simp)).trans ea0 (by simp)).trans eb0 (by simp)
  have T2 := T.trans r0 (by simp)
  have nar : ∀ (i : Nat) (hx hy : Hp_) (S A : List Nat) (q : Nat), True := fun _ _ _ _ _ _ => trivial
  have nb0 : ∀ x ∈ q0 :: A0, x ∉ [arr] := by
    intro x hx
    rcases List.mem_cons.mp hx with rfl | hx
    · exact ea0.mem_ne w0 (List.mem_singleton.mpr rfl)
    · exact eb0.mem_ne w0a hx
  have nb1 : ∀ x ∈ q1 :: A1, x ∉ [arr] := by
    intro x hx
    rcases List.mem_cons.mp hx with rfl | hx
    · exact ea1.mem_ne w1 (List.mem_singleton.mpr rfl)
    · exact eb1.mem_ne w1a hx
  have nb2 : ∀ x ∈ q2 :: A2, x ∉ [arr] := by
    intro x hx
    rcases List.mem_cons.mp hx with rfl | hx
    · exact ea2.mem_ne w2 (List.mem_singleton.mpr rfl)
    · exact eb2.mem_ne w2a hx
  have nb3 : ∀ x ∈ q3 :: A3, x ∉ [arr] := by
    intro x hx
    rcases List.mem_cons.mp hx with rfl | hx
    · exact ea3.mem_ne w3 (List.mem_singleton.mpr rfl)
    · exact eb3.mem_ne w3a hx
  refine g_vret M_3_init d_3_init_42 rfl (k arr (q0 :: A0) (q1 :: A1) (q2 :: A2) (q3 :: A3) z3 _ (by simpa using T2) v4 w4 rfl rfl rfl rfl (b0.keep r0 nb0) (b1.keep r1 nb1) (b2.keep r2 nb2) (b3.keep r3 nb3))
end
section
/-! ===== the mint: its cells by a map of blocks; made ===== -/
/-- block 0: the mint, its text, history, order, words; 1 now, 2 snapshot, 3 trial, 4 to 7 the recorded states -/
def okL (i j : Nat) : Prop := (i = 0 ∧ j < 23) ∨ (1 ≤ i ∧ i ≤ 7 ∧ j < 24)
def sepL (L : Nat → Nat → Nat) : Prop := ∀ i j i' j', okL i j → okL i' j' → L i j = L i' j' → i = i' ∧ j = j'
theorem txR.keep {h h' : Hp_} {S A : List Nat} {t s g : Nat} {tx : List Nat} (H : txR h t s g tx) (e : gExt h h' S A) (h1 : t ∉ S) (h2 : s ∉ S) (h3 : g ∉ S) : txR h' t s g tx := by
  obtain ⟨k1, k2, ⟨f, k3, k4⟩, p, l, k5⟩ := H
  exact ⟨k1, e.keep k2 h1, ⟨f, e.keep k3 h2, k4⟩, p, l, e.keep k5 h3⟩
theorem orR.keep {h h' : Hp_} {S A : List Nat} {a f lf s ls : Nat} {kd cd is2 : Int32} {w1 w2 : List Nat} (H : orR h a f lf s ls kd cd is2 w1 w2) (e : gExt h h' S A) (hs : a ∉ S) (h1 : f ∉ S) (h2 : lf ∉ S) (h3 : s ∉ S) (h4 : ls ∉ S) : orR h' a f lf s ls kd cd is2 w1 w2 :=
  ⟨e.keep H.1 hs, H.2.1.keep e h1 h2, H.2.2.keep e h3 h4⟩
/-- the recorded states: b i is the block (from 4) of the i-th -/
def hiR (h : Hp_) (L : Nat → Nat → Nat) (b : Nat → Nat) (rc : List Sl_) : Prop := rc.length ≤ 4 ∧ h (L 0 4) = some (.inr (3, [.ref (L 0 5), .int (nI rc.length)])) ∧ (∀ i, i < 4 → b i < 4) ∧ (∀ i j, i < 4 → j < 4 → b i = b j → i = j) ∧
  ∃ f, h (L 0 5) = some (.inl (false, .object "PluralMint$State", (4, .inr (.inr (.inr (.inr f)))))) ∧ ∀ i, i < 4 → f i = some (L (4 + b i) 0) ∧ ∃ s, stR h (L (4 + b i)) s ∧ (i < rc.length → s = rc.getD i N0_)
/-- rows to work on: their contents don't matter -/
def scR (h : Hp_) (L : Nat → Nat → Nat) : Prop := (∃ kd cd is2 w1 w2, orR h (L 0 6) (L 0 7) (L 0 8) (L 0 9) (L 0 10) kd cd is2 w1 w2) ∧ (∃ w, wdR h (L 0 11) (L 0 12) w) ∧ (∃ w, wdR h (L 0 13) (L 0 14) w) ∧ (∃ w, wdR h (L 0 15) (L 0 16) w) ∧ (∃ w, wsR h (L 0 17) (L 0 18) (L 0 19) 20 16 w) ∧ ∃ w, wsR h (L 0 20) (L 0 21) (L 0 22) 22 12 w
def mtR (h : Hp_) (L : Nat → Nat → Nat) (b : Nat → Nat) (tx : List Nat) (now : Sl_) (snap : Option Sl_) (rc : List Sl_) : Prop :=
  h (L 0 0) = some (.inr (9, [.ref (L 0 1), .ref (L 1 0), .ref (L 2 0), .int (bI snap.isSome), .ref (L 0 4), .ref (L 3 0), .ref (L 0 6), .ref (L 0 11), .ref (L 0 13), .ref (L 0 15), .ref (L 0 17), .ref (L 0 20)])) ∧
  txR h (L 0 1) (L 0 2) (L 0 3) tx ∧ stR h (L 1) now ∧ (∃ s, stR h (L 2) s ∧ ∀ z, snap = some z → s = z) ∧ (∃ s, stR h (L 3) s) ∧ hiR h L b rc ∧ scR h L
theorem hiR.keep {h h' : Hp_} {S A : List Nat} {L : Nat → Nat → Nat} {b : Nat → Nat} {rc : List Sl_} (H : hiR h L b rc) (e : gExt h h' S A) (h1 : L 0 4 ∉ S) (h2 : L 0 5 ∉ S) (h3 : ∀ i j, i < 4 → j < 24 → L (4 + i) j ∉ S) : hiR h' L b rc := by
  obtain ⟨k1, k2, k3, k4, f, k5, k6⟩ := H
  refine ⟨k1, e.keep k2 h1, k3, k4, f, e.keep k5 h2, fun i hi => ?_⟩
  obtain ⟨q1, s, q2, q3⟩ := k6 i hi
  exact ⟨q1, s, q2.keep e (fun j hj => h3 _ j (k3 i hi) hj), q3⟩
theorem scR.keep {h h' : Hp_} {S A : List Nat} {L : Nat → Nat → Nat} (H : scR h L) (e : gExt h h' S A) (hs : ∀ j, 6 ≤ j → j < 23 → L 0 j ∉ S) : scR h' L := by
  obtain ⟨⟨kd, cd, is2, w1, w2, k1⟩, ⟨w3, k2⟩, ⟨w4, k3⟩, ⟨w5, k4⟩, ⟨w6, k5⟩, w7, k6⟩ := H
  refine ⟨⟨kd, cd, is2, w1, w2, k1.keep e ?_ ?_ ?_ ?_ ?_⟩, ⟨w3, k2.keep e ?_ ?_⟩, ⟨w4, k3.keep e ?_ ?_⟩, ⟨w5, k4.keep e ?_ ?_⟩, ⟨w6, k5.keep e ?_ ?_ ?_⟩, w7, k6.keep e ?_ ?_ ?_⟩ <;> exact hs _ (by decide) (by decide)
/-- a step that changes the state of now alone -/
theorem mtR.now {h h' : Hp_} {A : List Nat} {L : Nat → Nat → Nat} {b : Nat → Nat} {tx : List Nat} {now now' : Sl_} {snap : Option Sl_} {rc : List Sl_} (H : mtR h L b tx now snap rc) (s : sepL L) (e : gExt h h' ((List.range 24).map (L 1)) A) (N : stR h' (L 1) now') : mtR h' L b tx now' snap rc := by
  have off : ∀ i j, okL i j → i ≠ 1 → L i j ∉ (List.range 24).map (L 1) := by
    intro i j ho hi hx
    obtain ⟨k, hk, q⟩ := List.mem_map.mp hx
    exact hi (s _ _ _ _ (Or.inr ⟨by decide, by decide, List.mem_range.mp hk⟩) ho q).1.symm
  obtain ⟨k1, k2, k3, ⟨s4, k4, k4'⟩, ⟨s5, k5⟩, k6, k7⟩ := H
  refine ⟨e.keep k1 (off 0 0 (Or.inl ⟨rfl, by decide⟩) (by decide)), k2.keep e (off _ _ (Or.inl ⟨rfl, by decide⟩) (by decide)) (off _ _ (Or.inl ⟨rfl, by decide⟩) (by decide)) (off _ _ (Or.inl ⟨rfl, by decide⟩) (by decide)), N, ⟨s4, k4.keep e (fun j hj => off _ _ (Or.inr ⟨by decide, by decide, hj⟩) (by decide)), k4'⟩, ⟨s5, k5.keep e (fun j hj => off _ _ (Or.inr ⟨by decide, by decide, hj⟩) (by decide))⟩, k6.keep e (off _ _ (Or.inl ⟨rfl, by decide⟩) (by decide)) (off _ _ (Or.inl ⟨rfl, by decide⟩) (by decide)) (fun i j hi hj => off _ _ (Or.inr ⟨by omega, by omega, hj⟩) (by omega)), k7.keep e (fun j _ hj => off _ _ (Or.inl ⟨rfl, hj⟩) (by decide))⟩
theorem stR.congr {h : Hp_} {r r' : Nat → Nat} {v : Sl_} (H : stR h r v) (e : ∀ k, k < 24 → r' k = r k) : stR h r' v := by
  obtain ⟨h1, h2, h3, h4, ⟨d1, d2, d3, d4, d5⟩, ⟨e1, e2, e3, e4, e5⟩, h7⟩ := H
  have q : ∀ k, k < 24 → r' k = r k := e
  refine ⟨?_, ?_, ?_, ?_, ⟨?_, ?_, ?_, ?_, d5⟩, ⟨?_, ?_, ?_, ?_, e5⟩, h7⟩
  · rw [q 0 (by decide), q 1 (by decide), q 4 (by decide), q 7 (by decide), q 10 (by decide), q 18 (by decide)]; exact h1
  · rw [q 1 (by decide), q 2 (by decide), q 3 (by decide)]; exact h2
  · rw [q 4 (by decide), q 5 (by decide), q 6 (by decide)]; exact h3
  · rw [q 7 (by decide), q 8 (by decide), q 9 (by decide)]; exact h4
  · show h (r' (10 + 0)) = some (.inr (0, [.ref (r' (10 + 1)), .ref (r' (10 + 4)), .ref (r' (10 + 7))]))
    rw [q _ (by decide), q _ (by decide), q _ (by decide), q _ (by decide)]; exact d1
  · show wsR h (r' (10 + 1)) (r' (10 + 2)) (r' (10 + 3)) 12 4 _
    rw [q _ (by decide), q _ (by decide), q _ (by decide)]; exact d2
  · show wsR h (r' (10 + 4)) (r' (10 + 5)) (r' (10 + 6)) 12 4 _
    rw [q _ (by decide), q _ (by decide), q _ (by decide)]; exact d3
  · show nmR h (r' (10 + 7)) 12 _
    rw [q _ (by decide)]; exact d4
  · show h (r' (18 + 0)) = some (.inr (2, [.ref (r' (18 + 1)), .ref (r' (18 + 4)), .ref (r' (18 + 5))]))
    rw [q _ (by decide), q _ (by decide), q _ (by decide), q _ (by decide)]; exact e1
  · show wsR h (r' (18 + 1)) (r' (18 + 2)) (r' (18 + 3)) 30 16 _
    rw [q _ (by decide), q _ (by decide), q _ (by decide)]; exact e2
  · show nmR h (r' (18 + 4)) 30 _
    rw [q _ (by decide)]; exact e3
  · show nmR h (r' (18 + 5)) 30 _
    rw [q _ (by decide)]; exact e4
def posL (i j : Nat) : Nat := if i = 0 then (if j < 4 then j else if j < 6 then 48 + j else 168 + j) else if i = 1 then 4 + j else if i = 2 then 28 + j else if i = 3 then 150 + j else 54 + 24 * (i - 4) + j
theorem posL_inj {i j i' j' : Nat} (h : okL i j) (h' : okL i' j') (e : posL i j = posL i' j') : i = i' ∧ j = j' := by
  unfold posL at e
  unfold okL at h h'
  split at e <;> split at e <;> (try split at e) <;> (try split at e) <;> (try split at e) <;> (try split at e) <;> (try split at e) <;> (try split at e) <;> omega
theorem posL_lt {i j : Nat} (h : okL i j) : posL i j < 191 := by
  unfold posL
  unfold okL at h
  split <;> (try split) <;> (try split) <;> (try split) <;> omega
theorem getD_skip {P X : List Nat} {n k : Nat} (h : P.length = n) : (P ++ X).getD (n + k) 0 = X.getD k 0 := by
  simp only [List.getD_eq_getElem?_getD]
  rw [List.getElem?_append_right (by omega)]
  congr 2
  omega
theorem getD_head {P X : List Nat} {k : Nat} (h : k < P.length) : (P ++ X).getD k 0 = P.getD k 0 := by
  simp only [List.getD_eq_getElem?_getD]
  rw [List.getElem?_append_left h]
theorem nodup_getD {T : List Nat} (hn : T.Nodup) {i j : Nat} (hi : i < T.length) (hj : j < T.length) (e : T.getD i 0 = T.getD j 0) : i = j := by
  rw [List.getD_eq_getElem?_getD, List.getD_eq_getElem?_getD, List.getElem?_eq_getElem hi, List.getElem?_eq_getElem hj] at e
  have e2 : T[i] = T[j] := e
  have hp := List.pairwise_iff_getElem.mp hn
  rcases Nat.lt_trichotomy i j with q | q | q
  · exact absurd e2 (hp i j hi hj q)
  · exact q
  · exact absurd e2.symm (hp j i hj hi q)
set_option maxHeartbeats 4000000 in
set_option maxRecDepth 100000 in
theorem C_9_init {a : Nat} {h : Hp_} {Q : Ot_ → Hp_ → Prop} (h0 : h a = some (.inr (9, [.null, .null, .null, .int 0, .null, .null, .null, .null, .null, .null, .null, .null]))) (k : ∀ L A h', sepL L → L 0 0 = a → (∀ i j, okL i j → L i j = a ∨ L i j ∈ A) → gExt h h' [a] A → mtR h' L id [] Nw_ none [] → Q (.inl none) h') : gG 6 250 194 9649 M_9_init 0 (lv_args 0 [.ref a]) [] h Q := by
  refine g_aloadn M_9_init d_9_init_0 (by first | rfl | assumption) ?_
  refine g_objInit M_9_init d_9_init_1 oi_9_1 oi_i oi_c (Nat.le_of_ble_eq_true (by rfl)) (Nat.le_of_ble_eq_true (by rfl)) ?_
  refine g_aloadn M_9_init d_9_init_4 (by first | rfl | assumption) ?_
  refine e_new M_9_init (kc' := 193) (ks' := 9646) (N := 3) d_9_init_5 nw_9_7 rfl (by decide) (by decide) (fun tx x1 u1 ea1 => ?_)
  have va1 := ea1.keep h0 (by simp)
  refine g_dup M_9_init d_9_init_8 (by rfl) ?_
  refine gc_I M_9_init 191 9584 [] [.ref tx, .ref a] d_9_init_9 ci_9_9 (by rfl) (by rfl) (Nat.le_of_ble_eq_true (by rfl)) (Nat.le_of_ble_eq_true (by rfl)) (by decide) (by decide) (by decide) (by decide) (C_5_init u1 (fun ts tg y1 eb1 W1 => ?_))
  have vb1 := eb1.keep va1 (by simpa using ea1.fresh h0 (List.mem_singleton.mpr rfl))
  show gG _ _ _ _ _ _ _ _ _ _
  refine e_putF M_9_init d_9_init_12 pf_9_10 rfl vb1 (by rfl) (by rfl) (fun z1 v1 ec1 => ?_)
  refine g_aloadn M_9_init d_9_init_15 (by first | rfl | assumption) ?_
  refine e_new M_9_init (kc' := 190) (ks' := 9577) (N := 7) d_9_init_16 nw_9_16 rfl (by decide) (by decide) (fun qn x2 u2 ea2 => ?_)
  have va2 := ea2.keep v1 (by simp)
  refine g_dup M_9_init d_9_init_19 (by rfl) ?_
  refine gc_I M_9_init 167 8325 [] [.ref qn, .ref a] d_9_init_20 ci_9_18 (by rfl) (by rfl) (Nat.le_of_ble_eq_true (by rfl)) (Nat.le_of_ble_eq_true (by rfl)) (by decide) (by decide) (by decide) (by decide) (C_6_init u2 (fun An y2 ln eb2 W2 => ?_))
  have vb2 := eb2.keep va2 (by simpa using ea2.fresh v1 (List.mem_singleton.mpr rfl))
  show gG _ _ _ _ _ _ _ _ _ _
  refine e_putF M_9_init d_9_init_23 pf_9_19 rfl vb2 (by rfl) (by rfl) (fun z2 v2 ec2 => ?_)
  refine g_aloadn M_9_init d_9_init_26 (by first | rfl | assumption) ?_
  refine e_new M_9_init (kc' := 166) (ks' := 8318) (N := 7) d_9_init_27 nw_9_16 rfl (by decide) (by decide) (fun qs x3 u3 ea3 => ?_)
  have va3 := ea3.keep v2 (by simp)
  refine g_dup M_9_init d_9_init_30 (by rfl) ?_
  refine gc_I M_9_init 143 7066 [] [.ref qs, .ref a] d_9_init_31 ci_9_18 (by rfl) (by rfl) (Nat.le_of_ble_eq_true (by rfl)) (Nat.le_of_ble_eq_true (by rfl)) (by decide) (by decide) (by decide) (by decide) (C_6_init u3 (fun As y3 lsn eb3 W3 => ?_))
  have vb3 := eb3.keep va3 (by simpa using ea3.fresh v2 (List.mem_singleton.mpr rfl))
  show gG _ _ _ _ _ _ _ _ _ _
  refine e_putF M_9_init d_9_init_34 pf_9_23 rfl vb3 (by rfl) (by rfl) (fun z3 v3 ec3 => ?_)
  refine g_aloadn M_9_init d_9_init_37 (by first | rfl | assumption) ?_
  refine e_new M_9_init (kc' := 142) (ks' := 7064) (N := 2) d_9_init_38 nw_9_26 rfl (by decide) (by decide) (fun hi x4 u4 ea4 => ?_)
  have va4 := ea4.keep v3 (by simp)
  refine g_dup M_9_init d_9_init_41 (by rfl) ?_
  refine gc_I M_9_init 45 2024 [] [.ref hi, .ref a] d_9_init_42 ci_9_28 (by rfl) (by rfl) (Nat.le_of_ble_eq_true (by rfl)) (Nat.le_of_ble_eq_true (by rfl)) (by decide) (by decide) (by decide) (by decide) (C_3_init u4 (fun arr B1 B2 B3 B4 y4 fh eb4 W4o W4a F0 F1 F2 F3 W4b1 W4b2 W4b3 W4b4 => ?_))
  have vb4 := eb4.keep va4 (by simpa using ea4.fresh v3 (List.mem_singleton.mpr rfl))
  show gG _ _ _ _ _ _ _ _ _ _
  refine e_putF M_9_init d_9_init_45 pf_9_29 rfl vb4 (by rfl) (by rfl) (fun z4 v4 ec4 => ?_)
  refine g_aloadn M_9_init d_9_init_48 (by first | rfl | assumption) ?_
  refine e_new M_9_init (kc' := 44) (ks' := 2017) (N := 7) d_9_init_49 nw_9_16 rfl (by decide) (by decide) (fun qt x5 u5 ea5 => ?_)
  have va5 := ea5.keep v4 (by simp)
  refine g_dup M_9_init d_9_init_52 (by rfl) ?_
  refine gc_I M_9_init 21 765 [] [.ref qt, .ref a] d_9_init_53 ci_9_18 (by rfl) (by rfl) (Nat.le_of_ble_eq_true (by rfl)) (Nat.le_of_ble_eq_true (by rfl)) (by decide) (by decide) (by decide) (by decide) (C_6_init u5 (fun At y5 lt5 eb5 W5 => ?_))
  have vb5 := eb5.keep va5 (by simpa using ea5.fresh v4 (List.mem_singleton.mpr rfl))
  show gG _ _ _ _ _ _ _ _ _ _
  refine e_putF M_9_init d_9_init_56 pf_9_33 rfl vb5 (by rfl) (by rfl) (fun z5 v5 ec5 => ?_)
  refine g_aloadn M_9_init d_9_init_59 (by first | rfl | assumption) ?_
  refine e_new M_9_init (kc' := 20) (ks' := 760) (N := 5) d_9_init_60 nw_9_36 rfl (by decide) (by decide) (fun qo x6 u6 ea6 => ?_)
  have va6 := ea6.keep v5 (by simp)
  refine g_dup M_9_init d_9_init_63 (by rfl) ?_
  refine gc_I M_9_init 16 724 [] [.ref qo, .ref a] d_9_init_64 ci_9_38 (by rfl) (by rfl) (Nat.le_of_ble_eq_true (by rfl)) (Nat.le_of_ble_eq_true (by rfl)) (by decide) (by decide) (by decide) (by decide) (C_4_init u6 (fun of ol os osl y6 eb6 W6 => ?_))
  have vb6 := eb6.keep va6 (by simpa using ea6.fresh v5 (List.mem_singleton.mpr rfl))
  show gG _ _ _ _ _ _ _ _ _ _
  refine e_putF M_9_init d_9_init_67 pf_9_39 rfl vb6 (by rfl) (by rfl) (fun z6 v6 ec6 => ?_)
  refine g_aloadn M_9_init d_9_init_70 (by first | rfl | assumption) ?_
  refine e_new M_9_init (kc' := 15) (ks' := 722) (N := 2) d_9_init_71 nw_9_43 rfl (by decide) (by decide) (fun wa x7 u7 ea7 => ?_)
  have va7 := ea7.keep v6 (by simp)
  refine g_dup M_9_init d_9_init_74 (by rfl) ?_
  refine gc_I M_9_init 14 706 [] [.ref wa, .ref a] d_9_init_75 ci_9_45 (by rfl) (by rfl) (Nat.le_of_ble_eq_true (by rfl)) (Nat.le_of_ble_eq_true (by rfl)) (by decide) (by decide) (by decide) (by decide) (C_7_init u7 (fun wal y7 eb7 W7 => ?_))
  have vb7 := eb7.keep va7 (by simpa using ea7.fresh v6 (List.mem_singleton.mpr rfl))
  show gG _ _ _ _ _ _ _ _ _ _
  refine e_putF M_9_init d_9_init_78 pf_9_46 rfl vb7 (by rfl) (by rfl) (fun z7 v7 ec7 => ?_)
  refine g_aloadn M_9_init d_9_init_81 (by first | rfl | assumption) ?_
  refine e_new M_9_init (kc' := 13) (ks' := 704) (N := 2) d_9_init_82 nw_9_43 rfl (by decide) (by decide) (fun pl x8 u8 ea8 => ?_)
  have va8 := ea8.keep v7 (by simp)
  refine g_dup M_9_init d_9_init_85 (by rfl) ?_
  refine gc_I M_9_init 12 688 [] [.ref pl, .ref a] d_9_init_86 ci_9_45 (by rfl) (by rfl) (Nat.le_of_ble_eq_true (by rfl)) (Nat.le_of_ble_eq_true (by rfl)) (by decide) (by decide) (by decide) (by decide) (C_7_init u8 (fun pll y8 eb8 W8 => ?_))
  have vb8 := eb8.keep va8 (by simpa using ea8.fresh v7 (List.mem_singleton.mpr rfl))
  show gG _ _ _ _ _ _ _ _ _ _
  refine e_putF M_9_init d_9_init_89 pf_9_50 rfl vb8 (by rfl) (by rfl) (fun z8 v8 ec8 => ?_)
  refine g_aloadn M_9_init d_9_init_92 (by first | rfl | assumption) ?_
  refine e_new M_9_init (kc' := 11) (ks' := 686) (N := 2) d_9_init_93 nw_9_43 rfl (by decide) (by decide) (fun og x9 u9 ea9 => ?_)
  have va9 := ea9.keep v8 (by simp)
  refine g_dup M_9_init d_9_init_96 (by rfl) ?_
  refine gc_I M_9_init 10 670 [] [.ref og, .ref a] d_9_init_97 ci_9_45 (by rfl) (by rfl) (Nat.le_of_ble_eq_true (by rfl)) (Nat.le_of_ble_eq_true (by rfl)) (by decide) (by decide) (by decide) (by decide) (C_7_init u9 (fun ogl y9 eb9 W9 => ?_))
  have vb9 := eb9.keep va9 (by simpa using ea9.fresh v8 (List.mem_singleton.mpr rfl))
  show gG _ _ _ _ _ _ _ _ _ _
  refine e_putF M_9_init d_9_init_100 pf_9_53 rfl vb9 (by rfl) (by rfl) (fun z9 v9 ec9 => ?_)
  refine g_aloadn M_9_init d_9_init_103 (by first | rfl | assumption) ?_
  refine e_new M_9_init (kc' := 9) (ks' := 666) (N := 4) d_9_init_104 nw_9_56 rfl (by decide) (by decide) (fun ps x10 u10 ea10 => ?_)
  have va10 := ea10.keep v9 (by simp)
  refine g_dup M_9_init d_9_init_107 (by rfl) ?_
  refine g_bipush M_9_init (v := nI 20) d_9_init_108 (by decide) ?_
  refine g_bipush M_9_init (v := nI 16) d_9_init_110 (by decide) ?_
  refine gc_I M_9_init 7 326 [.int (nI 20), .int (nI 16)] [.ref ps, .ref a] d_9_init_112 ci_9_58 (by rfl) (by rfl) (Nat.le_of_ble_eq_true (by rfl)) (Nat.le_of_ble_eq_true (by rfl)) (by decide) (by decide) (by decide) (by decide) (C_8_init (by decide) (by decide) u10 (fun pa pn y10 eb10 W10 => ?_))
  have vb10 := eb10.keep va10 (by simpa using ea10.fresh v9 (List.mem_singleton.mpr rfl))
  show gG _ _ _ _ _ _ _ _ _ _
  refine e_putF M_9_init d_9_init_115 pf_9_61 rfl vb10 (by rfl) (by rfl) (fun z10 v10 ec10 => ?_)
  refine g_aloadn M_9_init d_9_init_118 (by first | rfl | assumption) ?_
  refine e_new M_9_init (kc' := 6) (ks' := 322) (N := 4) d_9_init_119 nw_9_56 rfl (by decide) (by decide) (fun oz x11 u11 ea11 => ?_)
  have va11 := ea11.keep v10 (by simp)
  refine g_dup M_9_init d_9_init_122 (by rfl) ?_
  refine g_bipush M_9_init (v := nI 22) d_9_init_123 (by decide) ?_
  refine g_bipush M_9_init (v := nI 12) d_9_init_125 (by decide) ?_
  refine gc_I M_9_init 4 36 [.int (nI 22), .int (nI 12)] [.ref oz, .ref a] d_9_init_127 ci_9_58 (by rfl) (by rfl) (Nat.le_of_ble_eq_true (by rfl)) (Nat.le_of_ble_eq_true (by rfl)) (by decide) (by decide) (by decide) (by decide) (C_8_init (by decide) (by decide) u11 (fun oa on y11 eb11 W11 => ?_))
  have vb11 := eb11.keep va11 (by simpa using ea11.fresh v10 (List.mem_singleton.mpr rfl))
  show gG _ _ _ _ _ _ _ _ _ _
  refine e_putF M_9_init d_9_init_130 pf_9_65 rfl vb11 (by rfl) (by rfl) (fun z11 v11 ec11 => ?_)
  have r11 := ec11.weak (S' := [a]) (fun x hx => hx)
  have r10 := (((ec10.weak (S' := [a]) (fun x hx => hx)).trans ea11 (by simp)).trans eb11 (by simp)).trans r11 (by simp)
  have r9 := (((ec9.weak (S' := [a]) (fun x hx => hx)).trans ea10 (by simp)).trans eb10 (by simp)).trans r10 (by simp)
  have r8 := (((ec8.weak (S' := [a]) (fun x hx => hx)).trans ea9 (by simp)).trans eb9 (by simp)).trans r9 (by simp)
  have r7 := (((ec7.weak (S' := [a]) (fun x hx => hx)).trans ea8 (by simp)).trans eb8 (by simp)).trans r8 (by simp)
  have r6 := (((ec6.weak (S' := [a]) (fun x hx => hx)).trans ea7 (by simp)).trans eb7 (by simp)).trans r7 (by simp)
  have r5 := (((ec5.weak (S' := [a]) (fun x hx => hx)).trans ea6 (by simp)).trans eb6 (by simp)).trans r6 (by simp)
  have r4 := (((ec4.weak (S' := [a]) (fun x hx => hx)).trans ea5 (by simp)).trans eb5 (by simp)).trans r5 (by simp)
  have r3 := (((ec3.weak (S' := [a]) (fun x hx => hx)).trans ea4 (by simp)).trans eb4 (by simp)).trans r4 (by simp)
  have r2 := (((ec2.weak (S' := [a]) (fun x hx => hx)).trans ea3 (by simp)).trans eb3 (by simp)).trans r3 (by simp)
  have r1 := (((ec1.weak (S' := [a]) (fun x hx => hx)).trans ea2 (by simp)).trans eb2 (by simp)).trans r2 (by simp)
  have T0 := ((ea1.weak (S' := [a]) (by simp)).trans eb1 (by simp)).trans r1 (by simp)
  have T : gExt h z11 [a] ([tx, ts, tg] ++ ((qn :: An) ++ ((qs :: As) ++ ([hi, arr] ++ (B1 ++ (B2 ++ (B3 ++ (B4 ++ ((qt :: At) ++ [qo, of, ol, os, osl, wa, wal, pl, pll, og, ogl, ps, pa, pn, oz, oa, on]))))))))) := by simpa using T0
  have ne : ∀ x, x ∈ ([tx, ts, tg] ++ ((qn :: An) ++ ((qs :: As) ++ ([hi, arr] ++ (B1 ++ (B2 ++ (B3 ++ (B4 ++ ((qt :: At) ++ [qo, of, ol, os, osl, wa, wal, pl, pll, og, ogl, ps, pa, pn, oz, oa, on]))))))))) → x ∉ [a] := fun x hx => T.mem_ne h0 hx
  have ln1 : (qn :: An).length = 24 := by simp [ln]
  have ls1 : (qs :: As).length = 24 := by simp [lsn]
  have lt1 : (qt :: At).length = 24 := by simp [lt5]
  have lb1 := W4b1.1
  have lb2 := W4b2.1
  have lb3 := W4b3.1
  have lb4 := W4b4.1
  generalize hTT : ([tx, ts, tg] ++ ((qn :: An) ++ ((qs :: As) ++ ([hi, arr] ++ (B1 ++ (B2 ++ (B3 ++ (B4 ++ ((qt :: At) ++ [qo, of, ol, os, osl, wa, wal, pl, pll, og, ogl, ps, pa, pn, oz, oa, on]))))))))) = TT at T ne
  have hTl : (a :: TT).length = 191 := by rw [← hTT]; simp [ln, lsn, lt5, lb1, lb2, lb3, lb4]
  have hnd : (a :: TT).Nodup := by
    rw [List.nodup_cons]
    exact ⟨fun hx => ne a hx (List.mem_singleton.mpr rfl), T.1⟩
  obtain ⟨L, hL⟩ : ∃ L : Nat → Nat → Nat, L = fun i j => (a :: TT).getD (posL i j) 0 := ⟨_, rfl⟩
  have hLe : ∀ i j, L i j = (a :: TT).getD (posL i j) 0 := fun i j => by rw [hL]
  have sL : sepL L := by
    intro i j i' j' o1 o2 e
    rw [hLe, hLe] at e
    exact posL_inj o1 o2 (nodup_getD hnd (by rw [hTl]; exact posL_lt o1) (by rw [hTl]; exact posL_lt o2) e)
  have memL : ∀ i j, okL i j → L i j = a ∨ L i j ∈ TT := by
    intro i j o1
    rw [hLe]
    exact List.mem_cons.mp (getD_mem (by rw [hTl]; exact posL_lt o1))
  have sk : ∀ p : Nat, (a :: TT).getD (4 + p) 0 = ((qn :: An) ++ ((qs :: As) ++ ([hi, arr] ++ (B1 ++ (B2 ++ (B3 ++ (B4 ++ ((qt :: At) ++ [qo, of, ol, os, osl, wa, wal, pl, pll, og, ogl, ps, pa, pn, oz, oa, on])))))))).getD p 0 := by
    intro p
    rw [← hTT]
    exact getD_skip (P := [a, tx, ts, tg]) rfl
  have L1 : ∀ j, j < 24 → L 1 j = (qn :: An).getD j 0 := by
    intro j hj
    rw [hLe, show posL 1 j = 4 + j from rfl, sk, getD_head (by omega)]
  have L2 : ∀ j, j < 24 → L 2 j = (qs :: As).getD j 0 := by
    intro j hj
    rw [hLe, show posL 2 j = 4 + (24 + j) by show 28 + j = _; omega, sk, getD_skip ln1, getD_head (by omega)]
  have sk2 : ∀ p : Nat, (a :: TT).getD (52 + p) 0 = ([hi, arr] ++ (B1 ++ (B2 ++ (B3 ++ (B4 ++ ((qt :: At) ++ [qo, of, ol, os, osl, wa, wal, pl, pll, og, ogl, ps, pa, pn, oz, oa, on])))))).getD p 0 := by
    intro p
    rw [show 52 + p = 4 + (24 + (24 + p)) by omega, sk, getD_skip ln1, getD_skip ls1]
  have L4 : ∀ j, j < 24 → L 4 j = B1.getD j 0 := by
    intro j hj
    rw [hLe, show posL 4 j = 52 + (2 + j) by show 54 + 24 * 0 + j = _; omega, sk2, getD_skip (P := [hi, arr]) (n := 2) rfl, getD_head (by omega)]
  have L5 : ∀ j, j < 24 → L 5 j = B2.getD j 0 := by
    intro j hj
    rw [hLe, show posL 5 j = 52 + (2 + (24 + j)) by show 54 + 24 * 1 + j = _; omega, sk2, getD_skip (P := [hi, arr]) (n := 2) rfl, getD_skip lb1, getD_head (by omega)]
  have L6 : ∀ j, j < 24 → L 6 j = B3.getD j 0 := by
    intro j hj
    rw [hLe, show posL 6 j = 52 + (2 + (24 + (24 + j))) by show 54 + 24 * 2 + j = _; omega, sk2, getD_skip (P := [hi, arr]) (n := 2) rfl, getD_skip lb1, getD_skip lb2, getD_head (by omega)]
  have L7 : ∀ j, j < 24 → L 7 j = B4.getD j 0 := by
    intro j hj
    rw [hLe, show posL 7 j = 52 + (2 + (24 + (24 + (24 + j)))) by show 54 + 24 * 3 + j = _; omega, sk2, getD_skip (P := [hi, arr]) (n := 2) rfl, getD_skip lb1, getD_skip lb2, getD_skip lb3, getD_head (by omega)]
  have sk3 : ∀ p : Nat, (a :: TT).getD (150 + p) 0 = ((qt :: At) ++ [qo, of, ol, os, osl, wa, wal, pl, pll, og, ogl, ps, pa, pn, oz, oa, on]).getD p 0 := by
    intro p
    rw [show 150 + p = 52 + (2 + (24 + (24 + (24 + (24 + p))))) by omega, sk2, getD_skip (P := [hi, arr]) (n := 2) rfl, getD_skip lb1, getD_skip lb2, getD_skip lb3, getD_skip lb4]
  have L3 : ∀ j, j < 24 → L 3 j = (qt :: At).getD j 0 := by
    intro j hj
    rw [hLe, show posL 3 j = 150 + j from rfl, sk3, getD_head (by omega)]
  have Lm : ∀ j : Nat, L 0 (6 + j) = ([qo, of, ol, os, osl, wa, wal, pl, pll, og, ogl, ps, pa, pn, oz, oa, on] : List Nat).getD j 0 := by
    intro j
    rw [hLe, show posL 0 (6 + j) = 150 + (24 + j) by unfold posL; rw [if_pos rfl, if_neg (by omega), if_neg (by omega)]; omega, sk3, getD_skip lt1]
  have l00 : L 0 0 = a := by rw [hLe]; rfl
  have l01 : L 0 1 = tx := by rw [hLe, ← hTT]; rfl
  have l02 : L 0 2 = ts := by rw [hLe, ← hTT]; rfl
  have l03 : L 0 3 = tg := by rw [hLe, ← hTT]; rfl
  have l04 : L 0 4 = hi := by rw [hLe, show posL 0 4 = 52 + 0 from rfl, sk2]; rfl
  have l05 : L 0 5 = arr := by rw [hLe, show posL 0 5 = 52 + 1 from rfl, sk2]; rfl
  have l06 : L 0 6 = qo := Lm 0
  have l07 : L 0 7 = of := Lm 1
  have l08 : L 0 8 = ol := Lm 2
  have l09 : L 0 9 = os := Lm 3
  have l010 : L 0 10 = osl := Lm 4
  have l011 : L 0 11 = wa := Lm 5
  have l012 : L 0 12 = wal := Lm 6
  have l013 : L 0 13 = pl := Lm 7
  have l014 : L 0 14 = pll := Lm 8
  have l015 : L 0 15 = og := Lm 9
  have l016 : L 0 16 = ogl := Lm 10
  have l017 : L 0 17 = ps := Lm 11
  have l018 : L 0 18 = pa := Lm 12
  have l019 : L 0 19 = pn := Lm 13
  have l020 : L 0 20 = oz := Lm 14
  have l021 : L 0 21 = oa := Lm 15
  have l022 : L 0 22 = on := Lm 16
  have l10 : L 1 0 = qn := L1 0 (by decide)
  have l20 : L 2 0 = qs := L2 0 (by decide)
  have l30 : L 3 0 = qt := L3 0 (by decide)
  have al : ∀ x, x ∈ ([tx, ts, tg] ++ ((qn :: An) ++ ((qs :: As) ++ ([hi, arr] ++ (B1 ++ (B2 ++ (B3 ++ (B4 ++ ((qt :: At) ++ [qo, of, ol, os, osl, wa, wal, pl, pll, og, ogl, ps, pa, pn, oz, oa, on]))))))))) → x ∉ [a] := fun x hx => ne x (by rw [← hTT]; exact hx)
  have wB : ∀ (hx : Hp_) (B : List Nat) (A9 : List Nat) (v9 : Sl_), stB hx B v9 → gExt hx z11 [a] A9 → (∀ x ∈ B, x ∈ ([tx, ts, tg] ++ ((qn :: An) ++ ((qs :: As) ++ ([hi, arr] ++ (B1 ++ (B2 ++ (B3 ++ (B4 ++ ((qt :: At) ++ [qo, of, ol, os, osl, wa, wal, pl, pll, og, ogl, ps, pa, pn, oz, oa, on])))))))))) → stB z11 B v9 := fun hx B A9 v9 H e hm => H.keep e (fun x hx9 => al x (hm x hx9))
  have s2 := wB _ _ _ _ (stB.of ln W2) r2 (fun x hx => by simp only [List.mem_append]; exact Or.inr (Or.inl hx))
  have s3 := wB _ _ _ _ (stB.of lsn W3) r3 (fun x hx => by simp only [List.mem_append]; exact Or.inr (Or.inr (Or.inl hx)))
  have s5 := wB _ _ _ _ (stB.of lt5 W5) r5 (fun x hx => by simp only [List.mem_append]; exact Or.inr (Or.inr (Or.inr (Or.inr (Or.inr (Or.inr (Or.inr (Or.inr (Or.inl hx)))))))))
  have b1 := wB _ _ _ _ W4b1 r4 (fun x hx => by simp only [List.mem_append]; exact Or.inr (Or.inr (Or.inr (Or.inr (Or.inl hx)))))
  have b2 := wB _ _ _ _ W4b2 r4 (fun x hx => by simp only [List.mem_append]; exact Or.inr (Or.inr (Or.inr (Or.inr (Or.inr (Or.inl hx))))))
  have b3 := wB _ _ _ _ W4b3 r4 (fun x hx => by simp only [List.mem_append]; exact Or.inr (Or.inr (Or.inr (Or.inr (Or.inr (Or.inr (Or.inl hx)))))))
  have b4 := wB _ _ _ _ W4b4 r4 (fun x hx => by simp only [List.mem_append]; exact Or.inr (Or.inr (Or.inr (Or.inr (Or.inr (Or.inr (Or.inr (Or.inl hx))))))))
  have am : ∀ x, x ∈ [tx, ts, tg, hi, arr, qo, of, ol, os, osl, wa, wal, pl, pll, og, ogl, ps, pa, pn, oz, oa, on] → x ∉ [a] := by
    intro x hx
    refine al x ?_
    simp only [List.mem_cons, List.not_mem_nil, or_false] at hx
    simp only [List.mem_append, List.mem_cons, List.not_mem_nil, or_false]
    rcases hx with rfl | rfl | rfl | rfl | rfl | rfl | rfl | rfl | rfl | rfl | rfl | rfl | rfl | rfl | rfl | rfl | rfl | rfl | rfl | rfl | rfl | rfl <;> simp
  have MT : mtR z11 L id [] N0_ none [] := by
    refine ⟨?_, ?_, s2.2.congr L1, ⟨_, s3.2.congr L2, fun z hz => by cases hz⟩, ⟨_, s5.2.congr L3⟩, ⟨by decide, ?_, fun i hi => hi, fun i j _ _ e => e, fh, ?_, ?_⟩, ?_⟩
    · rw [l00, l01, l10, l20, l04, l30, l06, l011, l013, l015, l017, l020]; exact v11
    · rw [l01, l02, l03]; exact W1.keep r1 (am _ (by simp)) (am _ (by simp)) (am _ (by simp))
    · rw [l04, l05]; exact r4.keep W4o (am _ (by simp))
    · rw [l05]; exact r4.keep W4a (am _ (by simp))
    · intro i hi
      rcases i with _ | _ | _ | _ | i
      · exact ⟨by rw [show L (4 + id 0) 0 = _ from L4 0 (by decide)]; exact F0, _, b1.2.congr L4, fun z => absurd z (by decide)⟩
      · exact ⟨by rw [show L (4 + id 1) 0 = _ from L5 0 (by decide)]; exact F1, _, b2.2.congr L5, fun z => absurd z (by decide)⟩
      · exact ⟨by rw [show L (4 + id 2) 0 = _ from L6 0 (by decide)]; exact F2, _, b3.2.congr L6, fun z => absurd z (by decide)⟩
      · exact ⟨by rw [show L (4 + id 3) 0 = _ from L7 0 (by decide)]; exact F3, _, b4.2.congr L7, fun z => absurd z (by decide)⟩
      · omega
    · refine ⟨⟨0, 0, 0, [], [], ?_⟩, ⟨[], ?_⟩, ⟨[], ?_⟩, ⟨[], ?_⟩, ⟨[], ?_⟩, [], ?_⟩
      · rw [l06, l07, l08, l09, l010]; exact W6.keep r6 (am _ (by simp)) (am _ (by simp)) (am _ (by simp)) (am _ (by simp)) (am _ (by simp))
      · rw [l011, l012]; exact W7.toR.keep r7 (am _ (by simp)) (am _ (by simp))
      · rw [l013, l014]; exact W8.toR.keep r8 (am _ (by simp)) (am _ (by simp))
      · rw [l015, l016]; exact W9.toR.keep r9 (am _ (by simp)) (am _ (by simp))
      · rw [l017, l018, l019]; exact W10.toR.keep r10 (am _ (by simp)) (am _ (by simp)) (am _ (by simp))
      · rw [l020, l021, l022]; exact W11.toR.keep r11 (am _ (by simp)) (am _ (by simp)) (am _ (by simp))
  refine g_aloadn M_9_init d_9_init_133 (by first | rfl | assumption) ?_
  refine g_get M_9_init d_9_init_134 fl_9_19 (by assumption) (by rfl) ?_
  have sN : sepR (L 1) 24 := fun i j hi hj e => (sL 1 i 1 j (Or.inr ⟨by decide, by decide, hi⟩) (Or.inr ⟨by decide, by decide, hj⟩) e).2
  have hqn := MT.2.2.1.1
  rw [l10] at hqn
  refine gc_V M_9_init (fr' := 5) (lo' := 220) (kc' := 4) (ks' := 36) 0 0 [] [] d_9_init_137 cv_9_68 hqn (by rfl) (by rfl) (Nat.le_of_ble_eq_true (by rfl)) (Nat.le_of_ble_eq_true (by rfl)) (by decide) (by decide) (by decide) (by decide) ?_
  rw [← l10]
  refine C_6_addFirstDie sN MT.2.2.1 (fun h9 A9 e9 D9 => ?_)
  show gG _ _ _ _ _ _ _ _ _ _
  refine g_vret M_9_init d_9_init_140 rfl (k L (TT ++ A9) h9 sL l00 (fun i j o1 => (memL i j o1).imp id (fun q => List.mem_append.mpr (Or.inl q))) (T.trans e9 (fun x hx => ?_)) (MT.now sL e9 D9))
  obtain ⟨j, hj, rfl⟩ := List.mem_map.mp hx
  rcases memL 1 j (Or.inr ⟨by decide, by decide, List.mem_range.mp hj⟩) with q | q
  · exact Or.inl (List.mem_singleton.mpr q)
  · exact Or.inr q
end
section
/-! ===== copies: numbers, words, dies, heaps, states ===== -/
theorem va_cpy0 {f g : Nat → Int32} {n i : Nat} (hi : i < n) : va_cpy f g 0 0 n i = f i := by
  unfold va_cpy
  rw [if_pos ⟨Nat.zero_le _, by omega⟩]
  simp
theorem nm_cpy {h' : Hp_} {a n : Nat} {xs : List Int32} {f g : Nat → Int32} (hx : xs.length ≤ n) (hf : ∀ i, i < xs.length → f i = xs.getD i 0) (v : h' a = some (.inl (false, .int, (n, .inl (va_cpy f g 0 0 n))))) : nmR h' a n xs :=
  ⟨hx, _, v, fun i hi => by rw [va_cpy0 (by omega)]; exact hf i hi⟩
def offM (r0 r : Nat → Nat) (n : Nat) : Prop := ∀ i j, i < n → j < n → r0 i ≠ r j
theorem notin_map {r : Nat → Nat} {x n : Nat} (hx : ∀ k, k < n → x ≠ r k) : x ∉ (List.range n).map r := by
  intro q
  obtain ⟨k, hk, e⟩ := List.mem_map.mp q
  exact hx k (List.mem_range.mp hk) e.symm

set_option maxHeartbeats 4000000 in
set_option maxRecDepth 100000 in
theorem C_9_copyNumbers {a0 a n : Nat} {f g : Nat → Int32} {h : Hp_} {Q : Ot_ → Hp_ → Prop} (hn : n < 2 ^ 31) (h0 : h a0 = some (.inl (false, .int, (n, .inl f)))) (h1 : h a = some (.inl (false, .int, (n, .inl g)))) (k : ∀ h', gExt h h' [a] [] → h' a = some (.inl (false, .int, (n, .inl (va_cpy f g 0 0 n)))) → Q (.inl none) h') : gG 1 90 0 0 M_9_copyNumbers 0 (lv_args 0 [.ref a0, .ref a]) [] h Q := by
  refine g_aloadn M_9_copyNumbers d_9_copyNumbers_0 (by first | rfl | assumption) ?_
  refine g_iconst M_9_copyNumbers (v := nI 0) d_9_copyNumbers_1 (by decide) ?_
  refine g_aloadn M_9_copyNumbers d_9_copyNumbers_2 (by first | rfl | assumption) ?_
  refine g_iconst M_9_copyNumbers (v := nI 0) d_9_copyNumbers_3 (by decide) ?_
  refine g_aloadn M_9_copyNumbers d_9_copyNumbers_4 (by first | rfl | assumption) ?_
  refine g_alen M_9_copyNumbers d_9_copyNumbers_5 (by assumption) ?_
  refine g_aloadn M_9_copyNumbers d_9_copyNumbers_6 (by first | rfl | assumption) ?_
  refine g_alen M_9_copyNumbers d_9_copyNumbers_7 (by assumption) ?_
  refine g_min M_9_copyNumbers d_9_copyNumbers_8 mm_9_310 mm_min_s mm_i mm_min_c (Nat.le_of_ble_eq_true (by rfl)) (Nat.le_of_ble_eq_true (by rfl)) ?_
  rw [ite_self]
  refine e_copy M_9_copyNumbers d_9_copyNumbers_11 ac_9_313 h0 h1 rfl (by decide) (by decide) (nI_pos hn) (by rw [nI_cl (by decide), nI_cl (by omega)]; omega) (by rw [nI_cl (by decide), nI_cl (by omega)]; omega) (fun _ _ => rfl) (Nat.le_of_ble_eq_true (by rfl)) (Nat.le_of_ble_eq_true (by rfl)) (fun h2 v2 e2 => ?_)
  rw [nI_cl (by decide), nI_cl hn] at v2
  exact g_vret M_9_copyNumbers d_9_copyNumbers_14 rfl (k _ e2 v2)
set_option maxHeartbeats 4000000 in
set_option maxRecDepth 100000 in
theorem C_8_copyFrom {a la na a0 l0 n0 rows width : Nat} {ws vs : List (List Nat)} {h : Hp_} {Q : Ot_ → Hp_ → Prop} (hr : rows ≤ 30) (hw : width ≤ 16) (R0 : wsR h a0 l0 n0 rows width ws) (R : wsR h a la na rows width vs) (n1 : a ≠ la) (n2 : a ≠ na) (n3 : la ≠ na) (o : ∀ x ∈ [a0, l0, n0], x ∉ [a, la, na]) (k : ∀ h', gExt h h' [a, la, na] [] → wsR h' a la na rows width ws → Q (.inl none) h') : gG 2 130 0 0 M_8_copyFrom 0 (lv_args 0 [.ref a, .ref a0]) [] h Q := by
  obtain ⟨p1, p2, p3, f, g, p4, p5, p6, p7⟩ := id R0
  obtain ⟨-, -, q3, f', g', q4, q5, -, -⟩ := id R
  have hb : rows * width ≤ 30 * 16 := Nat.mul_le_mul hr hw
  have oo : ∀ x ∈ [a0, l0, n0], x ≠ a ∧ x ≠ la ∧ x ≠ na := fun x hx => by simpa using o x hx
  have o1 := oo a0 (by simp)
  have o2 := oo l0 (by simp)
  have o3 := oo n0 (by simp)
  refine g_aloadn M_8_copyFrom d_8_copyFrom_0 (by first | rfl | assumption) ?_
  refine g_get M_8_copyFrom d_8_copyFrom_1 fl_8_21 (by assumption) (by rfl) ?_
  refine g_iconst M_8_copyFrom (v := nI 0) d_8_copyFrom_4 (by decide) ?_
  refine g_aloadn M_8_copyFrom d_8_copyFrom_5 (by first | rfl | assumption) ?_
  refine g_get M_8_copyFrom d_8_copyFrom_6 fl_8_21 (by assumption) (by rfl) ?_
  refine g_iconst M_8_copyFrom (v := nI 0) d_8_copyFrom_9 (by decide) ?_
  refine g_aloadn M_8_copyFrom d_8_copyFrom_10 (by first | rfl | assumption) ?_
  refine g_get M_8_copyFrom d_8_copyFrom_11 fl_8_21 (by assumption) (by rfl) ?_
  refine g_alen M_8_copyFrom d_8_copyFrom_14 (by assumption) ?_
  refine g_aloadn M_8_copyFrom d_8_copyFrom_15 (by first | rfl | assumption) ?_
  refine g_get M_8_copyFrom d_8_copyFrom_16 fl_8_21 (by assumption) (by rfl) ?_
  refine g_alen M_8_copyFrom d_8_copyFrom_19 (by assumption) ?_
  refine g_min M_8_copyFrom d_8_copyFrom_20 mm_8_46 mm_min_s mm_i mm_min_c (Nat.le_of_ble_eq_true (by rfl)) (Nat.le_of_ble_eq_true (by rfl)) ?_
  rw [ite_self]
  refine e_copy M_8_copyFrom d_8_copyFrom_23 ac_8_82 p4 q4 rfl (by decide) (by decide) (nI_pos (by omega)) (by rw [nI_cl (by decide), nI_cl (by omega)]; omega) (by rw [nI_cl (by decide), nI_cl (by omega)]; omega) (fun i hi => ?_) (Nat.le_of_ble_eq_true (by rfl)) (Nat.le_of_ble_eq_true (by rfl)) (fun h2 v2 e2 => ?_)
  · rw [nI_cl (by decide)]
    rw [nI_cl (by omega)] at hi
    exact gCh_f (p6 _ (by omega))
  rw [nI_cl (by decide), nI_cl (by omega)] at v2
  have p3a := e2.keep p3 (by simpa using o1.2.1)
  have q3a := e2.keep q3 (by simpa using n1)
  have p5a := e2.keep p5 (by simpa using o3.2.1)
  have q5a := e2.keep q5 (by simpa using n3.symm)
  refine g_aloadn M_8_copyFrom d_8_copyFrom_26 (by first | rfl | assumption) ?_
  refine g_get M_8_copyFrom d_8_copyFrom_27 fl_8_25 (by assumption) (by rfl) ?_
  refine g_aloadn M_8_copyFrom d_8_copyFrom_30 (by first | rfl | assumption) ?_
  refine g_get M_8_copyFrom d_8_copyFrom_31 fl_8_25 (by assumption) (by rfl) ?_
  refine gc_N M_8_copyFrom 0 0 [.ref n0, .ref na] [] d_8_copyFrom_34 cn_8_88 (by rfl) (by rfl) (Nat.le_of_ble_eq_true (by rfl)) (Nat.le_of_ble_eq_true (by rfl)) (by decide) (by decide) (by decide) (by decide) (C_9_copyNumbers (by omega) p5a q5a (fun h3 e3 v3 => ?_))
  show gG _ _ _ _ _ _ _ _ _ _
  have p3b := e3.keep p3a (by simpa using o1.2.2)
  have q3b := e3.keep q3a (by simpa using n2)
  have v2b := e3.keep v2 (by simpa using n3)
  refine g_aloadn M_8_copyFrom d_8_copyFrom_37 (by first | rfl | assumption) ?_
  refine g_aloadn M_8_copyFrom d_8_copyFrom_38 (by first | rfl | assumption) ?_
  refine g_get M_8_copyFrom d_8_copyFrom_39 fl_8_29 (by assumption) (by rfl) ?_
  refine e_put M_8_copyFrom d_8_copyFrom_42 pt_8_29 (by assumption) (by rfl) (by rfl) (fun h4 v4 e4 => ?_)
  refine g_vret M_8_copyFrom d_8_copyFrom_45 rfl (k h4 ?_ ⟨p1, p2, v4, _, _, e4.keep v2b (by simpa using n1.symm), e4.keep v3 (by simpa using n2.symm), fun j hj => ?_, fun i hi => ⟨?_, fun j hj => ?_⟩⟩)
  · have t := ((e2.weak (S' := [a, la, na]) (by simp)).trans e3 (by simp)).trans e4 (by simp)
    simpa using t
  · rw [va_cpy0 hj]
    exact p6 j hj
  · rw [va_cpy0 (by omega)]
    exact (p7 i hi).1
  · have hww : (ws.getD i []).length ≤ width := by
      rw [List.getD_eq_getElem?_getD, List.getElem?_eq_getElem hi]
      exact (p2 _ (List.getElem_mem hi)).1
    have := nI_mulbd (width := width) (show i < rows by omega)
    rw [va_cpy0 (by omega)]
    exact (p7 i hi).2 j hj
set_option maxHeartbeats 4000000 in
set_option maxRecDepth 100000 in
theorem C_0_copyFrom {r r0 : Nat → Nat} {v w : Dl_} {h : Hp_} {Q : Ot_ → Hp_ → Prop} (s : sepR r 8) (o : offM r0 r 8) (D0 : diR h r0 v) (D : diR h r w) (k : ∀ h', gExt h h' ((List.range 8).map r) [] → diR h' r v → Q (.inl none) h') : gG 3 160 0 0 M_0_copyFrom 0 (lv_args 0 [.ref (r 0), .ref (r0 0)]) [] h Q := by
  obtain ⟨v0, W1, W2, ⟨-, g, hg, -⟩, -, -⟩ := id D
  have mr : ∀ k, k < 8 → r k ∈ (List.range 8).map r := fun k hk => List.mem_map.mpr ⟨k, List.mem_range.mpr hk, rfl⟩
  have off : ∀ k, k < 8 → r0 k ∉ (List.range 8).map r := fun k hk => notin_map (fun j hj => o k j hk hj)
  obtain ⟨z0, Z1, Z2, Z3, zl⟩ := id D0
  refine g_aloadn M_0_copyFrom d_0_copyFrom_0 (by first | rfl | assumption) ?_
  refine g_get M_0_copyFrom d_0_copyFrom_1 fl_0_14 (by assumption) (by rfl) ?_
  refine g_aloadn M_0_copyFrom d_0_copyFrom_4 (by first | rfl | assumption) ?_
  refine g_get M_0_copyFrom d_0_copyFrom_5 fl_0_14 (by assumption) (by rfl) ?_
  refine gc_V M_0_copyFrom 0 0 [.ref (r0 1)] [] d_0_copyFrom_8 cv_0_78 W1.2.2.1 (by rfl) (by rfl) (Nat.le_of_ble_eq_true (by rfl)) (Nat.le_of_ble_eq_true (by rfl)) (by decide) (by decide) (by decide) (by decide) (C_8_copyFrom (by decide) (by decide) Z1 W1 (s.ne 1 2 (by decide) (by decide) (by decide)) (s.ne 1 3 (by decide) (by decide) (by decide)) (s.ne 2 3 (by decide) (by decide) (by decide)) (fun x hx q => by simp only [List.mem_cons, List.not_mem_nil, or_false] at hx q; rcases hx with rfl | rfl | rfl <;> rcases q with q | q | q <;> exact absurd q (o _ _ (by decide) (by decide))) (fun h1 e1 X1 => ?_))
  have f1 := e1.weak (S' := (List.range 8).map r) (fun x hx => by simp only [List.mem_cons, List.not_mem_nil, or_false] at hx; rcases hx with rfl | rfl | rfl <;> exact mr _ (by decide))
  have D1 := D0.keep f1 off
  obtain ⟨z0a, Z1a, Z2a, Z3a, -⟩ := id D1
  have v0a := e1.keep v0 (fun q => by simp only [List.mem_cons, List.not_mem_nil, or_false] at q; rcases q with q | q | q <;> first | exact absurd q (s.ne _ _ (by decide) (by decide) (by decide)) | exact absurd q (o _ _ (by decide) (by decide)))
  have W2a := W2.keep e1 (fun q => by simp only [List.mem_cons, List.not_mem_nil, or_false] at q; rcases q with q | q | q <;> first | exact absurd q (s.ne _ _ (by decide) (by decide) (by decide)) | exact absurd q (o _ _ (by decide) (by decide))) (fun q => by simp only [List.mem_cons, List.not_mem_nil, or_false] at q; rcases q with q | q | q <;> first | exact absurd q (s.ne _ _ (by decide) (by decide) (by decide)) | exact absurd q (o _ _ (by decide) (by decide))) (fun q => by simp only [List.mem_cons, List.not_mem_nil, or_false] at q; rcases q with q | q | q <;> first | exact absurd q (s.ne _ _ (by decide) (by decide) (by decide)) | exact absurd q (o _ _ (by decide) (by decide)))
  have hga := e1.keep hg (fun q => by simp only [List.mem_cons, List.not_mem_nil, or_false] at q; rcases q with q | q | q <;> first | exact absurd q (s.ne _ _ (by decide) (by decide) (by decide)) | exact absurd q (o _ _ (by decide) (by decide)))
  show gG _ _ _ _ _ _ _ _ _ _
  refine g_aloadn M_0_copyFrom d_0_copyFrom_11 (by first | rfl | assumption) ?_
  refine g_get M_0_copyFrom d_0_copyFrom_12 fl_0_20 (by assumption) (by rfl) ?_
  refine g_aloadn M_0_copyFrom d_0_copyFrom_15 (by first | rfl | assumption) ?_
  refine g_get M_0_copyFrom d_0_copyFrom_16 fl_0_20 (by assumption) (by rfl) ?_
  refine gc_V M_0_copyFrom 0 0 [.ref (r0 4)] [] d_0_copyFrom_19 cv_0_78 W2a.2.2.1 (by rfl) (by rfl) (Nat.le_of_ble_eq_true (by rfl)) (Nat.le_of_ble_eq_true (by rfl)) (by decide) (by decide) (by decide) (by decide) (C_8_copyFrom (by decide) (by decide) Z2a W2a (s.ne 4 5 (by decide) (by decide) (by decide)) (s.ne 4 6 (by decide) (by decide) (by decide)) (s.ne 5 6 (by decide) (by decide) (by decide)) (fun x hx q => by simp only [List.mem_cons, List.not_mem_nil, or_false] at hx q; rcases hx with rfl | rfl | rfl <;> rcases q with q | q | q <;> exact absurd q (o _ _ (by decide) (by decide))) (fun h2 e2 X2 => ?_))
  have f2 := e2.weak (S' := (List.range 8).map r) (fun x hx => by simp only [List.mem_cons, List.not_mem_nil, or_false] at hx; rcases hx with rfl | rfl | rfl <;> exact mr _ (by decide))
  have D2 := D1.keep f2 off
  obtain ⟨z0b, Z1b, Z2b, ⟨zb, gz, hz, hzv⟩, zb1, zb2⟩ := id D2
  have v0b := e2.keep v0a (fun q => by simp only [List.mem_cons, List.not_mem_nil, or_false] at q; rcases q with q | q | q <;> first | exact absurd q (s.ne _ _ (by decide) (by decide) (by decide)) | exact absurd q (o _ _ (by decide) (by decide)))
  have X1b := X1.keep e2 (fun q => by simp only [List.mem_cons, List.not_mem_nil, or_false] at q; rcases q with q | q | q <;> first | exact absurd q (s.ne _ _ (by decide) (by decide) (by decide)) | exact absurd q (o _ _ (by decide) (by decide))) (fun q => by simp only [List.mem_cons, List.not_mem_nil, or_false] at q; rcases q with q | q | q <;> first | exact absurd q (s.ne _ _ (by decide) (by decide) (by decide)) | exact absurd q (o _ _ (by decide) (by decide))) (fun q => by simp only [List.mem_cons, List.not_mem_nil, or_false] at q; rcases q with q | q | q <;> first | exact absurd q (s.ne _ _ (by decide) (by decide) (by decide)) | exact absurd q (o _ _ (by decide) (by decide)))
  have hgb := e2.keep hga (fun q => by simp only [List.mem_cons, List.not_mem_nil, or_false] at q; rcases q with q | q | q <;> first | exact absurd q (s.ne _ _ (by decide) (by decide) (by decide)) | exact absurd q (o _ _ (by decide) (by decide)))
  show gG _ _ _ _ _ _ _ _ _ _
  refine g_aloadn M_0_copyFrom d_0_copyFrom_22 (by first | rfl | assumption) ?_
  refine g_get M_0_copyFrom d_0_copyFrom_23 fl_0_23 (by assumption) (by rfl) ?_
  refine g_aloadn M_0_copyFrom d_0_copyFrom_26 (by first | rfl | assumption) ?_
  refine g_get M_0_copyFrom d_0_copyFrom_27 fl_0_23 (by assumption) (by rfl) ?_
  refine gc_N M_0_copyFrom 0 0 [.ref (r0 7), .ref (r 7)] [] d_0_copyFrom_30 cn_0_82 (by rfl) (by rfl) (Nat.le_of_ble_eq_true (by rfl)) (Nat.le_of_ble_eq_true (by rfl)) (by decide) (by decide) (by decide) (by decide) (C_9_copyNumbers (by decide) hz hgb (fun h3 e3 v3 => ?_))
  show gG _ _ _ _ _ _ _ _ _ _
  refine g_vret M_0_copyFrom d_0_copyFrom_33 rfl (k h3 ?_ ⟨e3.keep v0b (fun q => by simp only [List.mem_cons, List.not_mem_nil, or_false] at q; rcases q with q <;> first | exact absurd q (s.ne _ _ (by decide) (by decide) (by decide)) | exact absurd q (o _ _ (by decide) (by decide))), X1b.keep e3 (fun q => by simp only [List.mem_cons, List.not_mem_nil, or_false] at q; rcases q with q <;> first | exact absurd q (s.ne _ _ (by decide) (by decide) (by decide)) | exact absurd q (o _ _ (by decide) (by decide))) (fun q => by simp only [List.mem_cons, List.not_mem_nil, or_false] at q; rcases q with q <;> first | exact absurd q (s.ne _ _ (by decide) (by decide) (by decide)) | exact absurd q (o _ _ (by decide) (by decide))) (fun q => by simp only [List.mem_cons, List.not_mem_nil, or_false] at q; rcases q with q <;> first | exact absurd q (s.ne _ _ (by decide) (by decide) (by decide)) | exact absurd q (o _ _ (by decide) (by decide))), X2.keep e3 (fun q => by simp only [List.mem_cons, List.not_mem_nil, or_false] at q; rcases q with q <;> first | exact absurd q (s.ne _ _ (by decide) (by decide) (by decide)) | exact absurd q (o _ _ (by decide) (by decide))) (fun q => by simp only [List.mem_cons, List.not_mem_nil, or_false] at q; rcases q with q <;> first | exact absurd q (s.ne _ _ (by decide) (by decide) (by decide)) | exact absurd q (o _ _ (by decide) (by decide))) (fun q => by simp only [List.mem_cons, List.not_mem_nil, or_false] at q; rcases q with q <;> first | exact absurd q (s.ne _ _ (by decide) (by decide) (by decide)) | exact absurd q (o _ _ (by decide) (by decide))), nm_cpy zb hzv v3, zl⟩)
  have t := (f1.trans f2 (fun x hx => Or.inl hx)).trans e3 (fun x hx => Or.inl (by rw [List.mem_singleton.mp hx]; exact mr 7 (by decide)))
  simpa using t
set_option maxHeartbeats 4000000 in
set_option maxRecDepth 100000 in
theorem C_2_copyFrom {r r0 : Nat → Nat} {v w : Hl_} {h : Hp_} {Q : Ot_ → Hp_ → Prop} (s : sepR r 6) (o : offM r0 r 6) (D0 : heR h r0 v) (D : heR h r w) (k : ∀ h', gExt h h' ((List.range 6).map r) [] → heR h' r v → Q (.inl none) h') : gG 3 160 0 0 M_2_copyFrom 0 (lv_args 0 [.ref (r 0), .ref (r0 0)]) [] h Q := by
  obtain ⟨v0, W1, ⟨-, g, hg, -⟩, ⟨-, g2, hg2, -⟩, -, -⟩ := id D
  have mr : ∀ k, k < 6 → r k ∈ (List.range 6).map r := fun k hk => List.mem_map.mpr ⟨k, List.mem_range.mpr hk, rfl⟩
  have off : ∀ k, k < 6 → r0 k ∉ (List.range 6).map r := fun k hk => notin_map (fun j hj => o k j hk hj)
  obtain ⟨z0, Z1, Z2, Z3, zl⟩ := id D0
  refine g_aloadn M_2_copyFrom d_2_copyFrom_0 (by first | rfl | assumption) ?_
  refine g_get M_2_copyFrom d_2_copyFrom_1 fl_2_14 (by assumption) (by rfl) ?_
  refine g_aloadn M_2_copyFrom d_2_copyFrom_4 (by first | rfl | assumption) ?_
  refine g_get M_2_copyFrom d_2_copyFrom_5 fl_2_14 (by assumption) (by rfl) ?_
  refine gc_V M_2_copyFrom 0 0 [.ref (r0 1)] [] d_2_copyFrom_8 cv_2_74 W1.2.2.1 (by rfl) (by rfl) (Nat.le_of_ble_eq_true (by rfl)) (Nat.le_of_ble_eq_true (by rfl)) (by decide) (by decide) (by decide) (by decide) (C_8_copyFrom (by decide) (by decide) Z1 W1 (s.ne 1 2 (by decide) (by decide) (by decide)) (s.ne 1 3 (by decide) (by decide) (by decide)) (s.ne 2 3 (by decide) (by decide) (by decide)) (fun x hx q => by simp only [List.mem_cons, List.not_mem_nil, or_false] at hx q; rcases hx with rfl | rfl | rfl <;> rcases q with q | q | q <;> exact absurd q (o _ _ (by decide) (by decide))) (fun h1 e1 X1 => ?_))
  have f1 := e1.weak (S' := (List.range 6).map r) (fun x hx => by simp only [List.mem_cons, List.not_mem_nil, or_false] at hx; rcases hx with rfl | rfl | rfl <;> exact mr _ (by decide))
  have D1 := D0.keep f1 off
  obtain ⟨z0a, Z1a, ⟨za, gz, hz, hzv⟩, Z3a, -⟩ := id D1
  have v0a := e1.keep v0 (fun q => by simp only [List.mem_cons, List.not_mem_nil, or_false] at q; rcases q with q | q | q <;> first | exact absurd q (s.ne _ _ (by decide) (by decide) (by decide)) | exact absurd q (o _ _ (by decide) (by decide)))
  have hga := e1.keep hg (fun q => by simp only [List.mem_cons, List.not_mem_nil, or_false] at q; rcases q with q | q | q <;> first | exact absurd q (s.ne _ _ (by decide) (by decide) (by decide)) | exact absurd q (o _ _ (by decide) (by decide)))
  have hg2a := e1.keep hg2 (fun q => by simp only [List.mem_cons, List.not_mem_nil, or_false] at q; rcases q with q | q | q <;> first | exact absurd q (s.ne _ _ (by decide) (by decide) (by decide)) | exact absurd q (o _ _ (by decide) (by decide)))
  show gG _ _ _ _ _ _ _ _ _ _
  refine g_aloadn M_2_copyFrom d_2_copyFrom_11 (by first | rfl | assumption) ?_
  refine g_get M_2_copyFrom d_2_copyFrom_12 fl_2_20 (by assumption) (by rfl) ?_
  refine g_aloadn M_2_copyFrom d_2_copyFrom_15 (by first | rfl | assumption) ?_
  refine g_get M_2_copyFrom d_2_copyFrom_16 fl_2_20 (by assumption) (by rfl) ?_
  refine gc_N M_2_copyFrom 0 0 [.ref (r0 4), .ref (r 4)] [] d_2_copyFrom_19 cn_2_78 (by rfl) (by rfl) (Nat.le_of_ble_eq_true (by rfl)) (Nat.le_of_ble_eq_true (by rfl)) (by decide) (by decide) (by decide) (by decide) (C_9_copyNumbers (by decide) hz hga (fun h2 e2 v2 => ?_))
  have f2 := e2.weak (S' := (List.range 6).map r) (fun x hx => by rw [List.mem_singleton.mp hx]; exact mr 4 (by decide))
  have D2 := D1.keep f2 off
  obtain ⟨z0b, Z1b, Z2b, ⟨zb, gy, hy, hyv⟩, -⟩ := id D2
  have v0b := e2.keep v0a (fun q => by simp only [List.mem_cons, List.not_mem_nil, or_false] at q; rcases q with q <;> first | exact absurd q (s.ne _ _ (by decide) (by decide) (by decide)) | exact absurd q (o _ _ (by decide) (by decide)))
  have X1b := X1.keep e2 (fun q => by simp only [List.mem_cons, List.not_mem_nil, or_false] at q; rcases q with q <;> first | exact absurd q (s.ne _ _ (by decide) (by decide) (by decide)) | exact absurd q (o _ _ (by decide) (by decide))) (fun q => by simp only [List.mem_cons, List.not_mem_nil, or_false] at q; rcases q with q <;> first | exact absurd q (s.ne _ _ (by decide) (by decide) (by decide)) | exact absurd q (o _ _ (by decide) (by decide))) (fun q => by simp only [List.mem_cons, List.not_mem_nil, or_false] at q; rcases q with q <;> first | exact absurd q (s.ne _ _ (by decide) (by decide) (by decide)) | exact absurd q (o _ _ (by decide) (by decide)))
  have hg2b := e2.keep hg2a (fun q => by simp only [List.mem_cons, List.not_mem_nil, or_false] at q; rcases q with q <;> first | exact absurd q (s.ne _ _ (by decide) (by decide) (by decide)) | exact absurd q (o _ _ (by decide) (by decide)))
  have N2 := nm_cpy za hzv v2
  show gG _ _ _ _ _ _ _ _ _ _
  refine g_aloadn M_2_copyFrom d_2_copyFrom_22 (by first | rfl | assumption) ?_
  refine g_get M_2_copyFrom d_2_copyFrom_23 fl_2_24 (by assumption) (by rfl) ?_
  refine g_aloadn M_2_copyFrom d_2_copyFrom_26 (by first | rfl | assumption) ?_
  refine g_get M_2_copyFrom d_2_copyFrom_27 fl_2_24 (by assumption) (by rfl) ?_
  refine gc_N M_2_copyFrom 0 0 [.ref (r0 5), .ref (r 5)] [] d_2_copyFrom_30 cn_2_78 (by rfl) (by rfl) (Nat.le_of_ble_eq_true (by rfl)) (Nat.le_of_ble_eq_true (by rfl)) (by decide) (by decide) (by decide) (by decide) (C_9_copyNumbers (by decide) hy hg2b (fun h3 e3 v3 => ?_))
  show gG _ _ _ _ _ _ _ _ _ _
  refine g_vret M_2_copyFrom d_2_copyFrom_33 rfl (k h3 ?_ ⟨e3.keep v0b (fun q => by simp only [List.mem_cons, List.not_mem_nil, or_false] at q; rcases q with q <;> first | exact absurd q (s.ne _ _ (by decide) (by decide) (by decide)) | exact absurd q (o _ _ (by decide) (by decide))), X1b.keep e3 (fun q => by simp only [List.mem_cons, List.not_mem_nil, or_false] at q; rcases q with q <;> first | exact absurd q (s.ne _ _ (by decide) (by decide) (by decide)) | exact absurd q (o _ _ (by decide) (by decide))) (fun q => by simp only [List.mem_cons, List.not_mem_nil, or_false] at q; rcases q with q <;> first | exact absurd q (s.ne _ _ (by decide) (by decide) (by decide)) | exact absurd q (o _ _ (by decide) (by decide))) (fun q => by simp only [List.mem_cons, List.not_mem_nil, or_false] at q; rcases q with q <;> first | exact absurd q (s.ne _ _ (by decide) (by decide) (by decide)) | exact absurd q (o _ _ (by decide) (by decide))), N2.keep e3 (fun q => by simp only [List.mem_cons, List.not_mem_nil, or_false] at q; rcases q with q <;> first | exact absurd q (s.ne _ _ (by decide) (by decide) (by decide)) | exact absurd q (o _ _ (by decide) (by decide))), nm_cpy zb hyv v3, zl⟩)
  have t := (f1.trans f2 (fun x hx => Or.inl hx)).trans e3 (fun x hx => Or.inl (by rw [List.mem_singleton.mp hx]; exact mr 5 (by decide)))
  simpa using t
set_option maxHeartbeats 4000000 in
set_option maxRecDepth 100000 in
theorem C_6_copyFrom {r r0 : Nat → Nat} {v w : Sl_} {h : Hp_} {Q : Ot_ → Hp_ → Prop} (s : sepR r 24) (o : offM r0 r 24) (D0 : stR h r0 v) (D : stR h r w) (k : ∀ h', gExt h h' ((List.range 24).map r) [] → stR h' r v → Q (.inl none) h') : gG 4 190 0 0 M_6_copyFrom 0 (lv_args 0 [.ref (r 0), .ref (r0 0)]) [] h Q := by
  obtain ⟨v0, W1, W2, W3, DD, HH, -⟩ := id D
  have mr : ∀ k, k < 24 → r k ∈ (List.range 24).map r := fun k hk => List.mem_map.mpr ⟨k, List.mem_range.mpr hk, rfl⟩
  have off : ∀ k, k < 24 → r0 k ∉ (List.range 24).map r := fun k hk => notin_map (fun j hj => o k j hk hj)
  obtain ⟨z0, Z1, Z2, Z3, ZD, ZH, zl⟩ := id D0
  refine g_aloadn M_6_copyFrom d_6_copyFrom_0 (by first | rfl | assumption) ?_
  refine g_get M_6_copyFrom d_6_copyFrom_1 fl_6_14 (by assumption) (by rfl) ?_
  refine g_aloadn M_6_copyFrom d_6_copyFrom_4 (by first | rfl | assumption) ?_
  refine g_get M_6_copyFrom d_6_copyFrom_5 fl_6_14 (by assumption) (by rfl) ?_
  refine gc_V M_6_copyFrom 0 0 [.ref (r0 1)] [] d_6_copyFrom_8 cv_6_99 W1.2.2.1 (by rfl) (by rfl) (Nat.le_of_ble_eq_true (by rfl)) (Nat.le_of_ble_eq_true (by rfl)) (by decide) (by decide) (by decide) (by decide) (C_8_copyFrom (by decide) (by decide) Z1 W1 (s.ne 1 2 (by decide) (by decide) (by decide)) (s.ne 1 3 (by decide) (by decide) (by decide)) (s.ne 2 3 (by decide) (by decide) (by decide)) (fun x hx q => by simp only [List.mem_cons, List.not_mem_nil, or_false] at hx q; rcases hx with rfl | rfl | rfl <;> rcases q with q | q | q <;> exact absurd q (o _ _ (by decide) (by decide))) (fun h1 e1 X1 => ?_))
  have f1 := e1.weak (S' := ((List.range 24).map r)) (fun x hx => by simp only [List.mem_cons, List.not_mem_nil, or_false] at hx; rcases hx with rfl | rfl | rfl <;> exact mr _ (by decide))
  have D1 := D0.keep f1 off
  obtain ⟨z0a, -, Z2a, -, -, -, -⟩ := id D1
  have v0a := e1.keep v0 (fun q => by simp only [List.mem_cons, List.not_mem_nil, or_false] at q; rcases q with q | q | q <;> first | exact absurd q (s.ne _ _ (by decide) (by decide) (by decide)) | exact absurd q (o _ _ (by decide) (by decide)))
  have W2a := W2.keep e1 (fun q => by simp only [List.mem_cons, List.not_mem_nil, or_false] at q; rcases q with q | q | q <;> first | exact absurd q (s.ne _ _ (by decide) (by decide) (by decide)) | exact absurd q (o _ _ (by decide) (by decide))) (fun q => by simp only [List.mem_cons, List.not_mem_nil, or_false] at q; rcases q with q | q | q <;> first | exact absurd q (s.ne _ _ (by decide) (by decide) (by decide)) | exact absurd q (o _ _ (by decide) (by decide))) (fun q => by simp only [List.mem_cons, List.not_mem_nil, or_false] at q; rcases q with q | q | q <;> first | exact absurd q (s.ne _ _ (by decide) (by decide) (by decide)) | exact absurd q (o _ _ (by decide) (by decide)))
  have W3a := W3.keep e1 (fun q => by simp only [List.mem_cons, List.not_mem_nil, or_false] at q; rcases q with q | q | q <;> first | exact absurd q (s.ne _ _ (by decide) (by decide) (by decide)) | exact absurd q (o _ _ (by decide) (by decide))) (fun q => by simp only [List.mem_cons, List.not_mem_nil, or_false] at q; rcases q with q | q | q <;> first | exact absurd q (s.ne _ _ (by decide) (by decide) (by decide)) | exact absurd q (o _ _ (by decide) (by decide))) (fun q => by simp only [List.mem_cons, List.not_mem_nil, or_false] at q; rcases q with q | q | q <;> first | exact absurd q (s.ne _ _ (by decide) (by decide) (by decide)) | exact absurd q (o _ _ (by decide) (by decide)))
  show gG _ _ _ _ _ _ _ _ _ _
  refine g_aloadn M_6_copyFrom d_6_copyFrom_11 (by first | rfl | assumption) ?_
  refine g_get M_6_copyFrom d_6_copyFrom_12 fl_6_20 (by assumption) (by rfl) ?_
  refine g_aloadn M_6_copyFrom d_6_copyFrom_15 (by first | rfl | assumption) ?_
  refine g_get M_6_copyFrom d_6_copyFrom_16 fl_6_20 (by assumption) (by rfl) ?_
  refine gc_V M_6_copyFrom 0 0 [.ref (r0 4)] [] d_6_copyFrom_19 cv_6_99 W2a.2.2.1 (by rfl) (by rfl) (Nat.le_of_ble_eq_true (by rfl)) (Nat.le_of_ble_eq_true (by rfl)) (by decide) (by decide) (by decide) (by decide) (C_8_copyFrom (by decide) (by decide) Z2a W2a (s.ne 4 5 (by decide) (by decide) (by decide)) (s.ne 4 6 (by decide) (by decide) (by decide)) (s.ne 5 6 (by decide) (by decide) (by decide)) (fun x hx q => by simp only [List.mem_cons, List.not_mem_nil, or_false] at hx q; rcases hx with rfl | rfl | rfl <;> rcases q with q | q | q <;> exact absurd q (o _ _ (by decide) (by decide))) (fun h2 e2 X2 => ?_))
  have f2 := e2.weak (S' := ((List.range 24).map r)) (fun x hx => by simp only [List.mem_cons, List.not_mem_nil, or_false] at hx; rcases hx with rfl | rfl | rfl <;> exact mr _ (by decide))
  have D2 := D1.keep f2 off
  obtain ⟨z0b, -, -, Z3b, -, -, -⟩ := id D2
  have v0b := e2.keep v0a (fun q => by simp only [List.mem_cons, List.not_mem_nil, or_false] at q; rcases q with q | q | q <;> first | exact absurd q (s.ne _ _ (by decide) (by decide) (by decide)) | exact absurd q (o _ _ (by decide) (by decide)))
  have X1b := X1.keep e2 (fun q => by simp only [List.mem_cons, List.not_mem_nil, or_false] at q; rcases q with q | q | q <;> first | exact absurd q (s.ne _ _ (by decide) (by decide) (by decide)) | exact absurd q (o _ _ (by decide) (by decide))) (fun q => by simp only [List.mem_cons, List.not_mem_nil, or_false] at q; rcases q with q | q | q <;> first | exact absurd q (s.ne _ _ (by decide) (by decide) (by decide)) | exact absurd q (o _ _ (by decide) (by decide))) (fun q => by simp only [List.mem_cons, List.not_mem_nil, or_false] at q; rcases q with q | q | q <;> first | exact absurd q (s.ne _ _ (by decide) (by decide) (by decide)) | exact absurd q (o _ _ (by decide) (by decide)))
  have W3b := W3a.keep e2 (fun q => by simp only [List.mem_cons, List.not_mem_nil, or_false] at q; rcases q with q | q | q <;> first | exact absurd q (s.ne _ _ (by decide) (by decide) (by decide)) | exact absurd q (o _ _ (by decide) (by decide))) (fun q => by simp only [List.mem_cons, List.not_mem_nil, or_false] at q; rcases q with q | q | q <;> first | exact absurd q (s.ne _ _ (by decide) (by decide) (by decide)) | exact absurd q (o _ _ (by decide) (by decide))) (fun q => by simp only [List.mem_cons, List.not_mem_nil, or_false] at q; rcases q with q | q | q <;> first | exact absurd q (s.ne _ _ (by decide) (by decide) (by decide)) | exact absurd q (o _ _ (by decide) (by decide)))
  show gG _ _ _ _ _ _ _ _ _ _
  refine g_aloadn M_6_copyFrom d_6_copyFrom_22 (by first | rfl | assumption) ?_
  refine g_get M_6_copyFrom d_6_copyFrom_23 fl_6_23 (by assumption) (by rfl) ?_
  refine g_aloadn M_6_copyFrom d_6_copyFrom_26 (by first | rfl | assumption) ?_
  refine g_get M_6_copyFrom d_6_copyFrom_27 fl_6_23 (by assumption) (by rfl) ?_
  refine gc_V M_6_copyFrom 0 0 [.ref (r0 7)] [] d_6_copyFrom_30 cv_6_99 W3b.2.2.1 (by rfl) (by rfl) (Nat.le_of_ble_eq_true (by rfl)) (Nat.le_of_ble_eq_true (by rfl)) (by decide) (by decide) (by decide) (by decide) (C_8_copyFrom (by decide) (by decide) Z3b W3b (s.ne 7 8 (by decide) (by decide) (by decide)) (s.ne 7 9 (by decide) (by decide) (by decide)) (s.ne 8 9 (by decide) (by decide) (by decide)) (fun x hx q => by simp only [List.mem_cons, List.not_mem_nil, or_false] at hx q; rcases hx with rfl | rfl | rfl <;> rcases q with q | q | q <;> exact absurd q (o _ _ (by decide) (by decide))) (fun h3 e3 X3 => ?_))
  have f3 := e3.weak (S' := ((List.range 24).map r)) (fun x hx => by simp only [List.mem_cons, List.not_mem_nil, or_false] at hx; rcases hx with rfl | rfl | rfl <;> exact mr _ (by decide))
  have D3 := D2.keep f3 off
  obtain ⟨z0c, -, -, -, ZDc, -, -⟩ := id D3
  have v0c := e3.keep v0b (fun q => by simp only [List.mem_cons, List.not_mem_nil, or_false] at q; rcases q with q | q | q <;> first | exact absurd q (s.ne _ _ (by decide) (by decide) (by decide)) | exact absurd q (o _ _ (by decide) (by decide)))
  have X1c := X1b.keep e3 (fun q => by simp only [List.mem_cons, List.not_mem_nil, or_false] at q; rcases q with q | q | q <;> first | exact absurd q (s.ne _ _ (by decide) (by decide) (by decide)) | exact absurd q (o _ _ (by decide) (by decide))) (fun q => by simp only [List.mem_cons, List.not_mem_nil, or_false] at q; rcases q with q | q | q <;> first | exact absurd q (s.ne _ _ (by decide) (by decide) (by decide)) | exact absurd q (o _ _ (by decide) (by decide))) (fun q => by simp only [List.mem_cons, List.not_mem_nil, or_false] at q; rcases q with q | q | q <;> first | exact absurd q (s.ne _ _ (by decide) (by decide) (by decide)) | exact absurd q (o _ _ (by decide) (by decide)))
  have X2c := X2.keep e3 (fun q => by simp only [List.mem_cons, List.not_mem_nil, or_false] at q; rcases q with q | q | q <;> first | exact absurd q (s.ne _ _ (by decide) (by decide) (by decide)) | exact absurd q (o _ _ (by decide) (by decide))) (fun q => by simp only [List.mem_cons, List.not_mem_nil, or_false] at q; rcases q with q | q | q <;> first | exact absurd q (s.ne _ _ (by decide) (by decide) (by decide)) | exact absurd q (o _ _ (by decide) (by decide))) (fun q => by simp only [List.mem_cons, List.not_mem_nil, or_false] at q; rcases q with q | q | q <;> first | exact absurd q (s.ne _ _ (by decide) (by decide) (by decide)) | exact absurd q (o _ _ (by decide) (by decide)))
  have t3 := (f1.trans f2 (fun x hx => Or.inl hx)).trans f3 (fun x hx => Or.inl hx)
  have DDc : diR h3 (fun k => r (10 + k)) w.2.2.2.1 := ((DD.keep e1 (fun k hk => by intro q; simp only [List.mem_cons, List.not_mem_nil, or_false] at q; rcases q with q | q | q <;> exact absurd q (s.ne _ _ (by omega) (by decide) (by omega)))).keep e2 (fun k hk => by intro q; simp only [List.mem_cons, List.not_mem_nil, or_false] at q; rcases q with q | q | q <;> exact absurd q (s.ne _ _ (by omega) (by decide) (by omega)))).keep e3 (fun k hk => by intro q; simp only [List.mem_cons, List.not_mem_nil, or_false] at q; rcases q with q | q | q <;> exact absurd q (s.ne _ _ (by omega) (by decide) (by omega)))
  have HHc : heR h3 (fun k => r (18 + k)) w.2.2.2.2.1 := ((HH.keep e1 (fun k hk => by intro q; simp only [List.mem_cons, List.not_mem_nil, or_false] at q; rcases q with q | q | q <;> exact absurd q (s.ne _ _ (by omega) (by decide) (by omega)))).keep e2 (fun k hk => by intro q; simp only [List.mem_cons, List.not_mem_nil, or_false] at q; rcases q with q | q | q <;> exact absurd q (s.ne _ _ (by omega) (by decide) (by omega)))).keep e3 (fun k hk => by intro q; simp only [List.mem_cons, List.not_mem_nil, or_false] at q; rcases q with q | q | q <;> exact absurd q (s.ne _ _ (by omega) (by decide) (by omega)))
  show gG _ _ _ _ _ _ _ _ _ _
  refine g_aloadn M_6_copyFrom d_6_copyFrom_33 (by first | rfl | assumption) ?_
  refine g_get M_6_copyFrom d_6_copyFrom_34 fl_6_29 (by assumption) (by rfl) ?_
  refine g_aloadn M_6_copyFrom d_6_copyFrom_37 (by first | rfl | assumption) ?_
  refine g_get M_6_copyFrom d_6_copyFrom_38 fl_6_29 (by assumption) (by rfl) ?_
  refine gc_V M_6_copyFrom 0 0 [.ref (r0 10)] [] d_6_copyFrom_41 cv_6_103 DDc.1 (by rfl) (by rfl) (Nat.le_of_ble_eq_true (by rfl)) (Nat.le_of_ble_eq_true (by rfl)) (by decide) (by decide) (by decide) (by decide) (C_0_copyFrom (r := fun k => r (10 + k)) (r0 := fun k => r0 (10 + k)) (fun i j hi hj e => by have := s _ _ (by omega) (by omega) e; omega) (fun i j hi hj => o _ _ (by omega) (by omega)) ZDc DDc (fun h4 e4 XD => ?_))
  have f4 := e4.weak (S' := ((List.range 24).map r)) (fun x hx => by obtain ⟨j, hj, rfl⟩ := List.mem_map.mp hx; exact mr _ (by have := List.mem_range.mp hj; omega))
  have D4 := D3.keep f4 off
  obtain ⟨z0d, -, -, -, -, ZHd, -⟩ := id D4
  have v0d := e4.keep v0c (notin_map (fun j hj => s.ne 0 (10 + j) (by decide) (by omega) (by omega)))
  have X1d := X1c.keep e4 (notin_map (fun j hj => s.ne 1 (10 + j) (by decide) (by omega) (by omega))) (notin_map (fun j hj => s.ne 2 (10 + j) (by decide) (by omega) (by omega))) (notin_map (fun j hj => s.ne 3 (10 + j) (by decide) (by omega) (by omega)))
  have X2d := X2c.keep e4 (notin_map (fun j hj => s.ne 4 (10 + j) (by decide) (by omega) (by omega))) (notin_map (fun j hj => s.ne 5 (10 + j) (by decide) (by omega) (by omega))) (notin_map (fun j hj => s.ne 6 (10 + j) (by decide) (by omega) (by omega)))
  have X3d := X3.keep e4 (notin_map (fun j hj => s.ne 7 (10 + j) (by decide) (by omega) (by omega))) (notin_map (fun j hj => s.ne 8 (10 + j) (by decide) (by omega) (by omega))) (notin_map (fun j hj => s.ne 9 (10 + j) (by decide) (by omega) (by omega)))
  have HHd := HHc.keep e4 (fun k hk => notin_map (fun j hj => s.ne (18 + k) (10 + j) (by omega) (by omega) (by omega)))
  show gG _ _ _ _ _ _ _ _ _ _
  refine g_aloadn M_6_copyFrom d_6_copyFrom_44 (by first | rfl | assumption) ?_
  refine g_get M_6_copyFrom d_6_copyFrom_45 fl_6_36 (by assumption) (by rfl) ?_
  refine g_aloadn M_6_copyFrom d_6_copyFrom_48 (by first | rfl | assumption) ?_
  refine g_get M_6_copyFrom d_6_copyFrom_49 fl_6_36 (by assumption) (by rfl) ?_
  refine gc_V M_6_copyFrom 0 0 [.ref (r0 18)] [] d_6_copyFrom_52 cv_6_106 HHd.1 (by rfl) (by rfl) (Nat.le_of_ble_eq_true (by rfl)) (Nat.le_of_ble_eq_true (by rfl)) (by decide) (by decide) (by decide) (by decide) (C_2_copyFrom (r := fun k => r (18 + k)) (r0 := fun k => r0 (18 + k)) (fun i j hi hj e => by have := s _ _ (by omega) (by omega) e; omega) (fun i j hi hj => o _ _ (by omega) (by omega)) ZHd HHd (fun h5 e5 XH => ?_))
  have f5 := e5.weak (S' := ((List.range 24).map r)) (fun x hx => by obtain ⟨j, hj, rfl⟩ := List.mem_map.mp hx; exact mr _ (by have := List.mem_range.mp hj; omega))
  have D5 := D4.keep f5 off
  obtain ⟨z0e, -⟩ := id D5
  have v0e := e5.keep v0d (notin_map (fun j hj => s.ne 0 (18 + j) (by decide) (by omega) (by omega)))
  have X1e := X1d.keep e5 (notin_map (fun j hj => s.ne 1 (18 + j) (by decide) (by omega) (by omega))) (notin_map (fun j hj => s.ne 2 (18 + j) (by decide) (by omega) (by omega))) (notin_map (fun j hj => s.ne 3 (18 + j) (by decide) (by omega) (by omega)))
  have X2e := X2d.keep e5 (notin_map (fun j hj => s.ne 4 (18 + j) (by decide) (by omega) (by omega))) (notin_map (fun j hj => s.ne 5 (18 + j) (by decide) (by omega) (by omega))) (notin_map (fun j hj => s.ne 6 (18 + j) (by decide) (by omega) (by omega)))
  have X3e := X3d.keep e5 (notin_map (fun j hj => s.ne 7 (18 + j) (by decide) (by omega) (by omega))) (notin_map (fun j hj => s.ne 8 (18 + j) (by decide) (by omega) (by omega))) (notin_map (fun j hj => s.ne 9 (18 + j) (by decide) (by omega) (by omega)))
  have XDe := XD.keep e5 (fun k hk => notin_map (fun j hj => s.ne (10 + k) (18 + j) (by omega) (by omega) (by omega)))
  show gG _ _ _ _ _ _ _ _ _ _
  refine g_aloadn M_6_copyFrom d_6_copyFrom_55 (by first | rfl | assumption) ?_
  refine g_aloadn M_6_copyFrom d_6_copyFrom_56 (by first | rfl | assumption) ?_
  refine g_get M_6_copyFrom d_6_copyFrom_57 fl_6_109 (by assumption) (by rfl) ?_
  refine e_put M_6_copyFrom d_6_copyFrom_60 pt_6_109 v0e (by rfl) (by rfl) (fun h6 v6 e6 => ?_)
  have z0f := e6.keep z0e (fun q => by simp only [List.mem_cons, List.not_mem_nil, or_false] at q; rcases q with q <;> first | exact absurd q (s.ne _ _ (by decide) (by decide) (by decide)) | exact absurd q (o _ _ (by decide) (by decide)))
  refine g_aloadn M_6_copyFrom d_6_copyFrom_63 (by first | rfl | assumption) ?_
  refine g_aloadn M_6_copyFrom d_6_copyFrom_64 (by first | rfl | assumption) ?_
  refine g_get M_6_copyFrom d_6_copyFrom_65 fl_6_112 (by assumption) (by rfl) ?_
  refine e_put M_6_copyFrom d_6_copyFrom_68 pt_6_112 v6 (by rfl) (by rfl) (fun h7 v7 e7 => ?_)
  have t5 := ((t3.trans f4 (fun x hx => Or.inl hx)).trans f5 (fun x hx => Or.inl hx)).trans ((e6.weak (S' := [r 0]) (fun x hx => hx)).trans e7 (fun x hx => Or.inl hx)) (fun x hx => Or.inl (by rw [List.mem_singleton.mp hx]; exact mr 0 (by decide)))
  have e67 := (e6.weak (S' := [r 0]) (fun x hx => hx)).trans e7 (fun x hx => Or.inl hx)
  refine g_vret M_6_copyFrom d_6_copyFrom_71 rfl (k h7 (by simpa using t5) ⟨v7, X1e.keep e67 (fun q => by simp only [List.mem_cons, List.not_mem_nil, or_false] at q; rcases q with q <;> first | exact absurd q (s.ne _ _ (by decide) (by decide) (by decide)) | exact absurd q (o _ _ (by decide) (by decide))) (fun q => by simp only [List.mem_cons, List.not_mem_nil, or_false] at q; rcases q with q <;> first | exact absurd q (s.ne _ _ (by decide) (by decide) (by decide)) | exact absurd q (o _ _ (by decide) (by decide))) (fun q => by simp only [List.mem_cons, List.not_mem_nil, or_false] at q; rcases q with q <;> first | exact absurd q (s.ne _ _ (by decide) (by decide) (by decide)) | exact absurd q (o _ _ (by decide) (by decide))), X2e.keep e67 (fun q => by simp only [List.mem_cons, List.not_mem_nil, or_false] at q; rcases q with q <;> first | exact absurd q (s.ne _ _ (by decide) (by decide) (by decide)) | exact absurd q (o _ _ (by decide) (by decide))) (fun q => by simp only [List.mem_cons, List.not_mem_nil, or_false] at q; rcases q with q <;> first | exact absurd q (s.ne _ _ (by decide) (by decide) (by decide)) | exact absurd q (o _ _ (by decide) (by decide))) (fun q => by simp only [List.mem_cons, List.not_mem_nil, or_false] at q; rcases q with q <;> first | exact absurd q (s.ne _ _ (by decide) (by decide) (by decide)) | exact absurd q (o _ _ (by decide) (by decide))), X3e.keep e67 (fun q => by simp only [List.mem_cons, List.not_mem_nil, or_false] at q; rcases q with q <;> first | exact absurd q (s.ne _ _ (by decide) (by decide) (by decide)) | exact absurd q (o _ _ (by decide) (by decide))) (fun q => by simp only [List.mem_cons, List.not_mem_nil, or_false] at q; rcases q with q <;> first | exact absurd q (s.ne _ _ (by decide) (by decide) (by decide)) | exact absurd q (o _ _ (by decide) (by decide))) (fun q => by simp only [List.mem_cons, List.not_mem_nil, or_false] at q; rcases q with q <;> first | exact absurd q (s.ne _ _ (by decide) (by decide) (by decide)) | exact absurd q (o _ _ (by decide) (by decide))), XDe.keep e67 (fun k hk => by intro q; exact absurd (List.mem_singleton.mp q) (s.ne _ _ (by omega) (by decide) (by omega))), XH.keep e67 (fun k hk => by intro q; exact absurd (List.mem_singleton.mp q) (s.ne _ _ (by omega) (by decide) (by omega))), zl⟩)
end
section
/-! ===== small methods, the frame of a call ===== -/
def gChg (L : Nat → Nat → Nat) (h h' : Hp_) : Prop := ∀ y v, h y = some v → (∀ i j, okL i j → y ≠ L i j) → h' y = some v
theorem gChg.rfl' {L : Nat → Nat → Nat} {h : Hp_} : gChg L h h := fun _ _ q _ => q
theorem gChg.of {L : Nat → Nat → Nat} {h h' : Hp_} {S A : List Nat} (e : gExt h h' S A) (hs : ∀ x ∈ S, ∃ i j, okL i j ∧ x = L i j) : gChg L h h' := fun y v q n => e.keep q (fun m => by
  obtain ⟨i, j, h1, h2⟩ := hs y m
  exact n i j h1 h2)
theorem gChg.tr {L : Nat → Nat → Nat} {h h1 h2 : Hp_} (a : gChg L h h1) (b : gChg L h1 h2) : gChg L h h2 := fun y v q n => b y v (a y v q n) n
theorem ok0 {j : Nat} (h : j < 23) : okL 0 j := Or.inl ⟨rfl, h⟩
theorem okB {i j : Nat} (h1 : 1 ≤ i) (h2 : i ≤ 7) (h : j < 24) : okL i j := Or.inr ⟨h1, h2, h⟩
theorem gChg.blk {L : Nat → Nat → Nat} {h h' : Hp_} {A : List Nat} {i : Nat} (h1 : 1 ≤ i) (h2 : i ≤ 7) (e : gExt h h' ((List.range 24).map (L i)) A) : gChg L h h' := gChg.of e (fun x hx => by
  obtain ⟨j, hj, rfl⟩ := List.mem_map.mp hx
  exact ⟨i, j, okB h1 h2 (List.mem_range.mp hj), rfl⟩)
theorem gChg.one {L : Nat → Nat → Nat} {h h' : Hp_} {A : List Nat} {i j : Nat} (o : okL i j) (e : gExt h h' [L i j] A) : gChg L h h' := gChg.of e (fun x hx => ⟨i, j, o, List.mem_singleton.mp hx⟩)
theorem sepL.r {L : Nat → Nat → Nat} (s : sepL L) {i : Nat} (h1 : 1 ≤ i) (h2 : i ≤ 7) : sepR (L i) 24 := fun j k hj hk e => (s _ _ _ _ (okB h1 h2 hj) (okB h1 h2 hk) e).2
theorem sepL.off {L : Nat → Nat → Nat} (s : sepL L) {i i' : Nat} (h1 : 1 ≤ i) (h2 : i ≤ 7) (h3 : 1 ≤ i') (h4 : i' ≤ 7) (n : i ≠ i') : offM (L i) (L i') 24 := fun j k hj hk e => n (s _ _ _ _ (okB h1 h2 hj) (okB h3 h4 hk) e).1
theorem i32_01 {x : Int32} (h1 : ¬ x < 0) (h2 : x < nI 1) : x = 0 := by
  have h2' : x < 1 := h2
  rw [Int32.lt_iff_toInt_lt] at h1 h2'
  apply Int32.toInt_inj.mp
  have e0 : (0 : Int32).toInt = 0 := by decide
  have e1 : (1 : Int32).toInt = 1 := by decide
  omega
abbrev IOB_ : String := "java/lang/IndexOutOfBoundsException"
abbrev ISE_ : String := "java/lang/IllegalStateException"

set_option maxHeartbeats 4000000 in
set_option maxRecDepth 100000 in
theorem C_5_length {a : Nat} {v w : Value} {n : Int32} {h : Hp_} {Q : Ot_ → Hp_ → Prop} (h0 : h a = some (.inr (5, [v, .int n, w]))) (k : Q (.inl (some (.int n))) h) : gG 1 60 0 0 M_5_length 0 (lv_args 0 [.ref a]) [] h Q := by
  refine g_aloadn M_5_length d_5_length_0 (by first | rfl | assumption) ?_
  refine g_get M_5_length d_5_length_1 fl_5_22 (by assumption) (by rfl) ?_
  exact g_iret M_5_length d_5_length_4 rfl rfl k
set_option maxHeartbeats 4000000 in
set_option maxRecDepth 100000 in
theorem C_3_count {a : Nat} {v : Value} {n : Int32} {h : Hp_} {Q : Ot_ → Hp_ → Prop} (h0 : h a = some (.inr (3, [v, .int n]))) (k : Q (.inl (some (.int n))) h) : gG 1 60 0 0 M_3_count 0 (lv_args 0 [.ref a]) [] h Q := by
  refine g_aloadn M_3_count d_3_count_0 (by first | rfl | assumption) ?_
  refine g_get M_3_count d_3_count_1 fl_3_18 (by assumption) (by rfl) ?_
  exact g_iret M_3_count d_3_count_4 rfl rfl k
set_option maxHeartbeats 4000000 in
set_option maxRecDepth 100000 in
theorem C_2_count {r : Nat → Nat} {v : Hl_} {h : Hp_} {Q : Ot_ → Hp_ → Prop} (D : heR h r v) (k : Q (.inl (some (.int (nI v.1.length)))) h) : gG 2 90 0 0 M_2_count 0 (lv_args 0 [.ref (r 0)]) [] h Q := by
  obtain ⟨v0, ⟨-, -, v1, -⟩, -⟩ := id D
  refine g_aloadn M_2_count d_2_count_0 (by first | rfl | assumption) ?_
  refine g_get M_2_count d_2_count_1 fl_2_14 (by assumption) (by rfl) ?_
  refine gc_V M_2_count 0 0 [] [] d_2_count_4 cv_2_27 v1 (by rfl) (by rfl) (Nat.le_of_ble_eq_true (by rfl)) (Nat.le_of_ble_eq_true (by rfl)) (by decide) (by decide) (by decide) (by decide) (C_8_count v1 ?_)
  exact g_iret M_2_count d_2_count_7 rfl rfl k
set_option maxHeartbeats 4000000 in
set_option maxRecDepth 100000 in
theorem C_5_isFull {a s n : Nat} {w : Value} {f : Nat → Int32} {h : Hp_} {Q : Ot_ → Hp_ → Prop} (hn : n ≤ 60) (h0 : h a = some (.inr (5, [.ref s, .int (nI n), w]))) (h1 : h s = some (.inl (false, .char, (60, .inl f)))) (k : Q (.inl (some (.int (bI (decide (60 ≤ n)))))) h) : gG 1 60 0 0 M_5_isFull 0 (lv_args 0 [.ref a]) [] h Q := by
  refine g_aloadn M_5_isFull d_5_isFull_0 (by first | rfl | assumption) ?_
  refine g_get M_5_isFull d_5_isFull_1 fl_5_22 (by assumption) (by rfl) ?_
  refine g_aloadn M_5_isFull d_5_isFull_4 (by first | rfl | assumption) ?_
  refine g_get M_5_isFull d_5_isFull_5 fl_5_9 (by assumption) (by rfl) ?_
  refine g_alen M_5_isFull d_5_isFull_8 (by assumption) ?_
  refine g_icmp_lt M_5_isFull (tgt := 16) d_5_isFull_9 (by decide) (fun c => ?_) (fun c => ?_)
  · rw [nI_ltI (by omega) (by decide)] at c
    rw [show decide (60 ≤ n) = false from decide_eq_false (by omega)] at k
    refine g_iconst M_5_isFull (v := nI 0) d_5_isFull_16 (by decide) ?_
    exact g_iret M_5_isFull d_5_isFull_17 rfl (by decide) k
  · rw [nI_ltI (by omega) (by decide)] at c
    rw [show decide (60 ≤ n) = true from decide_eq_true (by omega)] at k
    refine g_iconst M_5_isFull (v := nI 1) d_5_isFull_12 (by decide) ?_
    refine g_goto M_5_isFull (tgt := 17) d_5_isFull_13 (by decide) ?_
    exact g_iret M_5_isFull d_5_isFull_17 rfl (by decide) k
set_option maxHeartbeats 4000000 in
set_option maxRecDepth 100000 in
theorem C_5_append {t s g c : Nat} {tx : List Nat} {h : Hp_} {Q : Ot_ → Hp_ → Prop} (R : txR h t s g tx) (hn : tx.length < 60) (hc : c < 65536) (n1 : t ≠ s) (n2 : g ≠ t) (n3 : g ≠ s) (k : ∀ h', gExt h h' [t, s] [] → txR h' t s g (tx ++ [c]) → Q (.inl none) h') : gG 1 60 0 0 M_5_append 0 (lv_args 0 [.ref t, .int (nI c)]) [] h Q := by
  obtain ⟨⟨h16, hx⟩, v, ⟨f, g1, hcc, hf⟩, p, l, hg⟩ := id R
  refine g_aloadn M_5_append d_5_append_0 (by first | rfl | assumption) ?_
  refine g_get M_5_append d_5_append_1 fl_5_22 (by assumption) (by rfl) ?_
  refine g_if_lt M_5_append (tgt := 39) d_5_append_4 (by decide) (fun c => absurd c (nI_pos (by omega))) (fun _ => ?_)
  refine g_aloadn M_5_append d_5_append_7 (by first | rfl | assumption) ?_
  refine g_get M_5_append d_5_append_8 fl_5_22 (by assumption) (by rfl) ?_
  refine g_aloadn M_5_append d_5_append_11 (by first | rfl | assumption) ?_
  refine g_get M_5_append d_5_append_12 fl_5_9 (by assumption) (by rfl) ?_
  refine g_alen M_5_append d_5_append_15 (by assumption) ?_
  refine g_icmp_ge M_5_append (tgt := 39) d_5_append_16 (by decide) (fun c => absurd c (nI_ge (by omega) (by decide))) (fun _ => ?_)
  refine g_aloadn M_5_append d_5_append_19 (by first | rfl | assumption) ?_
  refine g_get M_5_append d_5_append_20 fl_5_9 (by assumption) (by rfl) ?_
  refine g_aloadn M_5_append d_5_append_23 (by first | rfl | assumption) ?_
  refine g_get M_5_append d_5_append_24 fl_5_22 (by assumption) (by rfl) ?_
  refine g_iloadn M_5_append d_5_append_27 (by first | rfl | assumption) ?_
  refine e_cas M_5_append d_5_append_28 g1 (vp_in_nI (by omega) (by decide)) (gCh_n (gCh_of hc)) (fun h1 u1 e1 => ?_)
  rw [nI_cl (by omega)] at u1
  have v1 := e1.keep v (by simpa using n1)
  refine g_aloadn M_5_append d_5_append_29 (by first | rfl | assumption) ?_
  refine g_dup M_5_append d_5_append_30 (by rfl) ?_
  refine g_get M_5_append d_5_append_31 fl_5_22 (by assumption) (by rfl) ?_
  refine g_iconst M_5_append (v := nI 1) d_5_append_34 (by decide) ?_
  refine g_iadd M_5_append d_5_append_35 ?_
  refine e_put M_5_append d_5_append_36 pt_5_22 v1 (by rfl) (by rfl) (fun h2 v2 e2 => ?_)
  have u2 := e2.keep u1 (by simpa using n1.symm)
  have e := (e1.weak (S' := [t, s]) (by simp)).trans e2 (by simp)
  have hl : nI tx.length + nI 1 = nI (tx ++ [c]).length := by
    rw [List.length_append]
    exact nI_add _ _
  refine g_vret M_5_append d_5_append_39 rfl (k h2 (by simpa using e) ⟨⟨by simp; omega, fun x hx2 => ?_⟩, by rw [← hl]; exact v2, ⟨_, u2, fun j hj => ?_, fun j hj => ?_⟩, p, l, e2.keep (e1.keep hg (by simpa using n3)) (by simpa using n2)⟩)
  · rcases List.mem_append.mp hx2 with q | q
    · exact hx x q
    · rw [List.mem_singleton.mp q]; exact hc
  · unfold upd
    split
    · exact gCh_of hc
    · exact hcc j hj
  · rw [getD_app]
    unfold upd
    simp only [List.length_append, List.length_cons, List.length_nil] at hj
    split
    · rfl
    · exact hf j (by omega)
set_option maxHeartbeats 4000000 in
set_option maxRecDepth 100000 in
theorem C_5_clear {a : Nat} {v w : Value} {n : Int32} {h : Hp_} {Q : Ot_ → Hp_ → Prop} (h0 : h a = some (.inr (5, [v, .int n, w]))) (k : ∀ h', gExt h h' [a] [] → h' a = some (.inr (5, [v, .int (nI 0), w])) → Q (.inl none) h') : gG 1 60 0 0 M_5_clear 0 (lv_args 0 [.ref a]) [] h Q := by
  refine g_aloadn M_5_clear d_5_clear_0 (by first | rfl | assumption) ?_
  refine g_iconst M_5_clear (v := nI 0) d_5_clear_1 (by decide) ?_
  refine e_put M_5_clear d_5_clear_2 pt_5_22 h0 (by rfl) (by rfl) (fun h1 v1 e1 => ?_)
  exact g_vret M_5_clear d_5_clear_5 rfl (k h1 e1 v1)
set_option maxHeartbeats 4000000 in
set_option maxRecDepth 100000 in
theorem C_8_clear {a la na rows width : Nat} {ws : List (List Nat)} {h : Hp_} {Q : Ot_ → Hp_ → Prop} (n1 : la ≠ a) (n2 : na ≠ a) (R : wsR h a la na rows width ws) (k : ∀ h', gExt h h' [a] [] → wsR h' a la na rows width [] → Q (.inl none) h') : gG 1 60 0 0 M_8_clear 0 (lv_args 0 [.ref a]) [] h Q := by
  obtain ⟨p1, p2, p3, f, g, p4, p5, p6, p7⟩ := id R
  refine g_aloadn M_8_clear d_8_clear_0 (by first | rfl | assumption) ?_
  refine g_iconst M_8_clear (v := nI 0) d_8_clear_1 (by decide) ?_
  refine e_put M_8_clear d_8_clear_2 pt_8_29 p3 (by rfl) (by rfl) (fun h1 v1 e1 => ?_)
  exact g_vret M_8_clear d_8_clear_5 rfl (k h1 e1 ⟨Nat.zero_le _, fun w hw => (nomatch hw), v1, f, g, e1.keep p4 (by simpa using n1), e1.keep p5 (by simpa using n2), p6, fun i hi => absurd hi (Nat.not_lt_zero i)⟩)
set_option maxHeartbeats 4000000 in
set_option maxRecDepth 100000 in
theorem C_1_start {a : Nat} {p l : Int32} {h : Hp_} {Q : Ot_ → Hp_ → Prop} (h0 : h a = some (.inr (1, [.int p, .int l]))) (k : ∀ h', gExt h h' [a] [] → h' a = some (.inr (1, [.int (nI 0), .int (nI 0)])) → Q (.inl none) h') : gG 1 60 0 0 M_1_start 0 (lv_args 0 [.ref a]) [] h Q := by
  refine g_aloadn M_1_start d_1_start_0 (by first | rfl | assumption) ?_
  refine g_iconst M_1_start (v := nI 0) d_1_start_1 (by decide) ?_
  refine e_put M_1_start d_1_start_2 pt_1_11 h0 (by rfl) (by rfl) (fun h1 v1 e1 => ?_)
  refine g_aloadn M_1_start d_1_start_5 (by first | rfl | assumption) ?_
  refine g_iconst M_1_start (v := nI 0) d_1_start_6 (by decide) ?_
  refine e_put M_1_start d_1_start_7 pt_1_15 v1 (by rfl) (by rfl) (fun h2 v2 e2 => ?_)
  exact g_vret M_1_start d_1_start_10 rfl (k h2 (by simpa using (e1.trans e2 (by simp))) v2)
set_option maxHeartbeats 4000000 in
set_option maxRecDepth 100000 in
theorem C_1_mayEnd0 {a : Nat} {h : Hp_} {Q : Ot_ → Hp_ → Prop} (h0 : h a = some (.inr (1, [.int (nI 0), .int (nI 0)]))) (k : Q (.inl (some (.int 0))) h) : gG 1 60 0 0 M_1_mayEnd 0 (lv_args 0 [.ref a]) [] h Q := by
  refine g_aloadn M_1_mayEnd d_1_mayEnd_0 (by first | rfl | assumption) ?_
  refine g_get M_1_mayEnd d_1_mayEnd_1 fl_1_11 (by assumption) (by rfl) ?_
  refine g_iconst M_1_mayEnd (v := nI 1) d_1_mayEnd_4 (by decide) ?_
  refine g_icmp_eq M_1_mayEnd (tgt := 31) d_1_mayEnd_5 (by decide) (fun c => absurd c (by decide)) (fun _ => ?_)
  refine g_aloadn M_1_mayEnd d_1_mayEnd_8 (by first | rfl | assumption) ?_
  refine g_get M_1_mayEnd d_1_mayEnd_9 fl_1_11 (by assumption) (by rfl) ?_
  refine g_iconst M_1_mayEnd (v := nI 2) d_1_mayEnd_12 (by decide) ?_
  refine g_icmp_eq M_1_mayEnd (tgt := 24) d_1_mayEnd_13 (by decide) (fun c => absurd c (by decide)) (fun _ => ?_)
  refine g_aloadn M_1_mayEnd d_1_mayEnd_16 (by first | rfl | assumption) ?_
  refine g_get M_1_mayEnd d_1_mayEnd_17 fl_1_11 (by assumption) (by rfl) ?_
  refine g_iconst M_1_mayEnd (v := nI 5) d_1_mayEnd_20 (by decide) ?_
  refine g_icmp_ne M_1_mayEnd (tgt := 35) d_1_mayEnd_21 (by decide) (fun _ => ?_) (fun c => absurd c (by decide))
  refine g_iconst M_1_mayEnd (v := nI 0) d_1_mayEnd_35 (by decide) ?_
  exact g_iret M_1_mayEnd d_1_mayEnd_36 rfl (by decide) k
set_option maxHeartbeats 4000000 in
set_option maxRecDepth 100000 in
theorem C_5_firstError0 {t s g : Nat} {p l : Int32} {h : Hp_} {Q : Ot_ → Hp_ → Prop} (n1 : t ≠ g) (h0 : h t = some (.inr (5, [.ref s, .int (nI 0), .ref g]))) (h1 : h g = some (.inr (1, [.int p, .int l]))) (k : ∀ h', gExt h h' [g] [] → Q (.inl (some (.int (nI 0)))) h') : gG 3 110 0 0 M_5_firstError 0 (lv_args 0 [.ref t]) [] h Q := by
  refine g_aloadn M_5_firstError d_5_firstError_0 (by first | rfl | assumption) ?_
  refine g_get M_5_firstError d_5_firstError_1 fl_5_18 (by assumption) (by rfl) ?_
  refine gc_V M_5_firstError 0 0 [] [] d_5_firstError_4 cv_5_26 h1 (by rfl) (by rfl) (Nat.le_of_ble_eq_true (by rfl)) (Nat.le_of_ble_eq_true (by rfl)) (by decide) (by decide) (by decide) (by decide) (C_1_start h1 (fun h2 e2 v2 => ?_))
  have u2 := e2.keep h0 (by simpa using n1)
  show gG _ _ _ _ _ _ _ _ _ _
  refine g_iconst M_5_firstError (v := nI 0) d_5_firstError_7 (by decide) ?_
  refine g_istoren M_5_firstError d_5_firstError_8 (by decide) (by first | rfl | (simp only [gc]; simp [*])) ?_
  refine g_iloadn M_5_firstError d_5_firstError_9 (by first | rfl | assumption) ?_
  refine g_aloadn M_5_firstError d_5_firstError_10 (by first | rfl | assumption) ?_
  refine g_get M_5_firstError d_5_firstError_11 fl_5_22 (by assumption) (by rfl) ?_
  refine g_icmp_ge M_5_firstError (tgt := 40) d_5_firstError_14 (by decide) (fun _ => ?_) (fun c => absurd (show nI 0 ≤ nI 0 by decide) c)
  refine g_aloadn M_5_firstError d_5_firstError_40 (by first | rfl | assumption) ?_
  refine g_get M_5_firstError d_5_firstError_41 fl_5_18 (by assumption) (by rfl) ?_
  refine gc_V M_5_firstError 0 0 [] [] d_5_firstError_44 cv_5_37 v2 (by rfl) (by rfl) (Nat.le_of_ble_eq_true (by rfl)) (Nat.le_of_ble_eq_true (by rfl)) (by decide) (by decide) (by decide) (by decide) (C_1_mayEnd0 v2 ?_)
  show gG _ _ _ _ _ _ _ _ _ _
  refine g_if_eq M_5_firstError (tgt := 54) d_5_firstError_47 (by decide) (fun _ => ?_) (fun c => absurd rfl c)
  refine g_aloadn M_5_firstError d_5_firstError_54 (by first | rfl | assumption) ?_
  refine g_get M_5_firstError d_5_firstError_55 fl_5_22 (by assumption) (by rfl) ?_
  exact g_iret M_5_firstError d_5_firstError_58 rfl rfl (k _ e2)
set_option maxHeartbeats 4000000 in
set_option maxRecDepth 100000 in
theorem C_5_isWord0 {t : Nat} {v w : Value} {h : Hp_} {Q : Ot_ → Hp_ → Prop} (h0 : h t = some (.inr (5, [v, .int (nI 0), w]))) (k : Q (.inl (some (.int 0))) h) : gG 3 110 0 0 M_5_isWord 0 (lv_args 0 [.ref t]) [] h Q := by
  refine g_iconst M_5_isWord (v := nI 0) d_5_isWord_0 (by decide) ?_
  refine g_istoren M_5_isWord d_5_isWord_1 (by decide) (by first | rfl | (simp only [gc]; simp [*])) ?_
  refine g_iloadn M_5_isWord d_5_isWord_2 (by first | rfl | assumption) ?_
  refine g_aloadn M_5_isWord d_5_isWord_3 (by first | rfl | assumption) ?_
  refine g_get M_5_isWord d_5_isWord_4 fl_5_22 (by assumption) (by rfl) ?_
  refine g_icmp_ge M_5_isWord (tgt := 29) d_5_isWord_7 (by decide) (fun _ => ?_) (fun c => absurd (show nI 0 ≤ nI 0 by decide) c)
  refine g_aloadn M_5_isWord d_5_isWord_29 (by first | rfl | assumption) ?_
  refine g_get M_5_isWord d_5_isWord_30 fl_5_22 (by assumption) (by rfl) ?_
  refine g_iconst M_5_isWord (v := nI 1) d_5_isWord_33 (by decide) ?_
  refine g_icmp_lt M_5_isWord (tgt := 50) d_5_isWord_34 (by decide) (fun _ => ?_) (fun c => absurd (show nI 0 < nI 1 by decide) c)
  refine g_iconst M_5_isWord (v := nI 0) d_5_isWord_50 (by decide) ?_
  exact g_iret M_5_isWord d_5_isWord_51 rfl (by decide) k
set_option maxHeartbeats 4000000 in
set_option maxRecDepth 100000 in
theorem C_9_checkNoun {L : Nat → Nat → Nat} {h : Hp_} {Q : Ot_ → Hp_ → Prop} {b : Nat → Nat} {tx : List Nat} {now : Sl_} {snap : Option Sl_} {rc : List Sl_} {x : Int32} (H : mtR h L b tx now snap rc) (kin : ¬ x < 0 → x < nI now.1.length → Q (.inl none) h) (kout : x < 0 ∨ ¬ x < nI now.1.length → Q (.inr IOB_) h) : gG 6 200 1 6 M_9_checkNoun 0 (lv_args 0 [.ref (L 0 0), .int x]) [] h Q := by
  obtain ⟨m0, -, S1, -⟩ := id H
  obtain ⟨a0, a1, a2, a3, a4, a5, -⟩ := id S1
  refine g_iloadn M_9_checkNoun d_9_checkNoun_0 (by first | rfl | assumption) ?_
  refine g_if_lt M_9_checkNoun (tgt := 18) d_9_checkNoun_1 (by decide) (fun c => ?_) (fun c => ?_)
  · exact g_throwW M_9_checkNoun th_9_checkNoun_18 rfl d_9_checkNoun_18 d_9_checkNoun_21 d_9_checkNoun_22 d_9_checkNoun_25 d_9_checkNoun_28 (Nat.le_of_ble_eq_true (by rfl)) (Nat.le_of_ble_eq_true (by rfl)) (Nat.le_of_ble_eq_true (by rfl)) (Nat.le_of_ble_eq_true (by rfl)) (kout (Or.inl c))
  refine g_iloadn M_9_checkNoun d_9_checkNoun_4 (by first | rfl | assumption) ?_
  refine g_aloadn M_9_checkNoun d_9_checkNoun_5 (by first | rfl | assumption) ?_
  refine g_get M_9_checkNoun d_9_checkNoun_6 fl_9_19 (by assumption) (by rfl) ?_
  refine g_get M_9_checkNoun d_9_checkNoun_9 fl_9_212 (by assumption) (by rfl) ?_
  refine gc_V M_9_checkNoun 1 6 [] [.int x] d_9_checkNoun_12 cv_9_165 a1.2.2.1 (by rfl) (by rfl) (Nat.le_of_ble_eq_true (by rfl)) (Nat.le_of_ble_eq_true (by rfl)) (by decide) (by decide) (by decide) (by decide) (C_8_count a1.2.2.1 ?_)
  show gG _ _ _ _ _ _ _ _ _ _
  refine g_icmp_lt M_9_checkNoun (tgt := 29) d_9_checkNoun_15 (by decide) (fun d => ?_) (fun d => ?_)
  · exact g_vret M_9_checkNoun d_9_checkNoun_29 rfl (kin c d)
  exact g_throwW M_9_checkNoun th_9_checkNoun_18 rfl d_9_checkNoun_18 d_9_checkNoun_21 d_9_checkNoun_22 d_9_checkNoun_25 d_9_checkNoun_28 (Nat.le_of_ble_eq_true (by rfl)) (Nat.le_of_ble_eq_true (by rfl)) (Nat.le_of_ble_eq_true (by rfl)) (Nat.le_of_ble_eq_true (by rfl)) (kout (Or.inr d))
set_option maxHeartbeats 4000000 in
set_option maxRecDepth 100000 in
theorem C_9_checkDie {L : Nat → Nat → Nat} {h : Hp_} {Q : Ot_ → Hp_ → Prop} {b : Nat → Nat} {tx : List Nat} {now : Sl_} {snap : Option Sl_} {rc : List Sl_} {x : Int32} (H : mtR h L b tx now snap rc) (kin : ¬ x < 0 → x < nI now.2.2.2.1.1.length → Q (.inl none) h) (kout : x < 0 ∨ ¬ x < nI now.2.2.2.1.1.length → Q (.inr IOB_) h) : gG 6 200 1 6 M_9_checkDie 0 (lv_args 0 [.ref (L 0 0), .int x]) [] h Q := by
  obtain ⟨m0, -, S1, -⟩ := id H
  obtain ⟨a0, a1, a2, a3, a4, a5, -⟩ := id S1
  refine g_iloadn M_9_checkDie d_9_checkDie_0 (by first | rfl | assumption) ?_
  refine g_if_lt M_9_checkDie (tgt := 18) d_9_checkDie_1 (by decide) (fun c => ?_) (fun c => ?_)
  · exact g_throwW M_9_checkDie th_9_checkDie_18 rfl d_9_checkDie_18 d_9_checkDie_21 d_9_checkDie_22 d_9_checkDie_25 d_9_checkDie_28 (Nat.le_of_ble_eq_true (by rfl)) (Nat.le_of_ble_eq_true (by rfl)) (Nat.le_of_ble_eq_true (by rfl)) (Nat.le_of_ble_eq_true (by rfl)) (kout (Or.inl c))
  refine g_iloadn M_9_checkDie d_9_checkDie_4 (by first | rfl | assumption) ?_
  refine g_aloadn M_9_checkDie d_9_checkDie_5 (by first | rfl | assumption) ?_
  refine g_get M_9_checkDie d_9_checkDie_6 fl_9_19 (by assumption) (by rfl) ?_
  refine g_get M_9_checkDie d_9_checkDie_9 fl_9_152 (by assumption) (by rfl) ?_
  refine gc_V M_9_checkDie 1 6 [] [.int x] d_9_checkDie_12 cv_9_161 a4.1 (by rfl) (by rfl) (Nat.le_of_ble_eq_true (by rfl)) (Nat.le_of_ble_eq_true (by rfl)) (by decide) (by decide) (by decide) (by decide) (C_0_count a4 ?_)
  show gG _ _ _ _ _ _ _ _ _ _
  refine g_icmp_lt M_9_checkDie (tgt := 29) d_9_checkDie_15 (by decide) (fun d => ?_) (fun d => ?_)
  · exact g_vret M_9_checkDie d_9_checkDie_29 rfl (kin c d)
  exact g_throwW M_9_checkDie th_9_checkDie_18 rfl d_9_checkDie_18 d_9_checkDie_21 d_9_checkDie_22 d_9_checkDie_25 d_9_checkDie_28 (Nat.le_of_ble_eq_true (by rfl)) (Nat.le_of_ble_eq_true (by rfl)) (Nat.le_of_ble_eq_true (by rfl)) (Nat.le_of_ble_eq_true (by rfl)) (kout (Or.inr d))
end
section
/-! ===== Word and Words: the rest ===== -/
def fst (P : Nat → Bool) (n : Nat) : Option Nat := (List.range n).find? P
def oI : Option Nat → Int32
  | some i => nI i
  | none => -1
theorem fst_some {P : Nat → Bool} {n i : Nat} (hi : i < n) (hp : P i = true) (hj : ∀ j, j < i → P j = false) : fst P n = some i := by
  unfold fst
  rw [List.find?_range_eq_some]
  exact ⟨hp, List.mem_range.mpr hi, fun j h => by rw [hj j h]; rfl⟩
theorem fst_none {P : Nat → Bool} {n : Nat} (hj : ∀ j, j < n → P j = false) : fst P n = none := by
  unfold fst
  rw [List.find?_range_eq_none]
  exact fun j h => by rw [hj j h]; rfl
theorem getD_ext {w v : List Nat} (hl : w.length = v.length) (h : ∀ j, j < w.length → w.getD j 0 = v.getD j 0) : w = v := by
  apply List.ext_getElem hl
  intro j h1 h2
  have := h j h1
  rw [List.getD_eq_getElem?_getD, List.getD_eq_getElem?_getD, List.getElem?_eq_getElem h1, List.getElem?_eq_getElem h2] at this
  exact this
theorem nI_sub {a b : Nat} (h : b ≤ a) : nI a - nI b = nI (a - b) := by
  have e : nI a = nI (a - b) + nI b := by rw [nI_add]; congr 1; omega
  rw [e]
  exact Int32.add_sub_cancel _ _
theorem nI_subneg {a b : Nat} (h : a < b) (hb : b < 2 ^ 31) : nI a - nI b < 0 := by
  have e : nI a - nI b = -(nI (b - a)) := by
    rw [← nI_sub (Nat.le_of_lt h), Int32.neg_sub]
  rw [e, Int32.lt_iff_toInt_lt, Int32.toInt_neg, nI_toInt (by omega)]
  have : (0 : Int32).toInt = 0 := by decide
  rw [this]
  have hb2 : ((b - a : Nat) : Int) < 2 ^ 31 := by have : b - a < 2 ^ 31 := by omega
                                                  exact_mod_cast this
  have : (-((b - a : Nat) : Int)).bmod (2 ^ 32) = -((b - a : Nat) : Int) := Int.bmod_eq_of_le (by omega) (by omega)
  rw [this]
  omega
theorem take_snoc {w : List Nat} {p : Nat} (h : p < w.length) : w.take p ++ [w.getD p 0] = w.take (p + 1) := by
  rw [List.take_succ, List.getD_eq_getElem?_getD, List.getElem?_eq_getElem h]
  rfl
theorem row_lt {ws : List (List Nat)} {i p : Nat} (h : p < (ws.getD i []).length) : i < ws.length := by
  rcases Nat.lt_or_ge i ws.length with q | q
  · exact q
  · rw [List.getD_eq_getElem?_getD, List.getElem?_eq_none q] at h
    exact absurd h (Nat.not_lt_zero p)
theorem wd_get {ws : List (List Nat)} {n i : Nat} (h : ∀ w ∈ ws, okW n w) : okW n (ws.getD i []) := by
  rw [List.getD_eq_getElem?_getD]
  cases e : ws[i]? with
  | none => exact ⟨Nat.zero_le _, fun x hx => nomatch hx⟩
  | some w => exact h w (List.mem_of_getElem? e)

set_option maxHeartbeats 4000000 in
set_option maxRecDepth 100000 in
theorem C_7_clear {a la : Nat} {w : List Nat} {h : Hp_} {Q : Ot_ → Hp_ → Prop} (n1 : la ≠ a) (R : wdR h a la w) (k : ∀ h', gExt h h' [a] [] → wdR h' a la [] → Q (.inl none) h') : gG 1 60 0 0 M_7_clear 0 (lv_args 0 [.ref a]) [] h Q := by
  obtain ⟨⟨hn, hx⟩, v, f, g, hc, hf⟩ := id R
  refine g_aloadn M_7_clear d_7_clear_0 (by first | rfl | assumption) ?_
  refine g_iconst M_7_clear (v := nI 0) d_7_clear_1 (by decide) ?_
  refine e_put M_7_clear d_7_clear_2 pt_7_15 v (by rfl) (by rfl) (fun h1 v1 e1 => ?_)
  exact g_vret M_7_clear d_7_clear_5 rfl (k h1 e1 ⟨⟨Nat.zero_le _, fun x hx => (nomatch hx)⟩, v1, f, e1.keep g (by simpa using n1), hc, fun j hj => absurd hj (Nat.not_lt_zero j)⟩)
set_option maxHeartbeats 4000000 in
set_option maxRecDepth 100000 in
theorem C_7_shorten {a la n : Nat} {w : List Nat} {h : Hp_} {Q : Ot_ → Hp_ → Prop} (hn16 : n < 2 ^ 31) (n1 : la ≠ a) (R : wdR h a la w) (k : ∀ h', gExt h h' [a] [] → wdR h' a la (w.take (w.length - n)) → Q (.inl none) h') : gG 1 60 0 0 M_7_shorten 0 (lv_args 0 [.ref a, .int (nI n)]) [] h Q := by
  obtain ⟨⟨hn, hx⟩, v, f, g, hc, hf⟩ := id R
  refine g_aloadn M_7_shorten d_7_shorten_0 (by first | rfl | assumption) ?_
  refine g_iconst M_7_shorten (v := nI 0) d_7_shorten_1 (by decide) ?_
  refine g_aloadn M_7_shorten d_7_shorten_2 (by first | rfl | assumption) ?_
  refine g_get M_7_shorten d_7_shorten_3 fl_7_15 (by assumption) (by rfl) ?_
  refine g_iloadn M_7_shorten d_7_shorten_6 (by first | rfl | assumption) ?_
  refine g_isub M_7_shorten d_7_shorten_7 ?_
  refine g_max M_7_shorten d_7_shorten_8 mm_7_19 mm_max_s mm_i mm_max_c (Nat.le_of_ble_eq_true (by rfl)) (Nat.le_of_ble_eq_true (by rfl)) ?_
  have e : (if nI 0 < nI w.length - nI n then nI w.length - nI n else nI 0) = nI (w.take (w.length - n)).length := by
    rw [List.length_take]
    by_cases q : n ≤ w.length
    · rw [nI_sub q]
      split
      · congr 1; omega
      · rename_i c
        have c2 : ¬ nI 0 < nI (w.length - n) := c
        rw [nI_ltI (by decide) (by omega)] at c2
        congr 1; omega
    · have c := nI_subneg (show w.length < n by omega) hn16
      rw [if_neg (fun d => absurd (Int32.lt_trans d c) (by decide))]
      congr 1; omega
  rw [e]
  refine e_put M_7_shorten d_7_shorten_11 pt_7_15 v (by rfl) (by rfl) (fun h1 v1 e1 => ?_)
  refine g_vret M_7_shorten d_7_shorten_14 rfl (k h1 e1 ⟨⟨by rw [List.length_take]; omega, fun x hx2 => hx x (List.mem_of_mem_take hx2)⟩, v1, f, e1.keep g (by simpa using n1), hc, fun j hj => ?_⟩)
  rw [List.length_take] at hj
  rw [hf j (by omega), List.getD_eq_getElem?_getD, List.getD_eq_getElem?_getD, List.getElem?_take, if_pos (by omega)]
set_option maxHeartbeats 4000000 in
set_option maxRecDepth 100000 in
theorem C_7_isSame {a la b lb : Nat} {w v : List Nat} {h : Hp_} {Q : Ot_ → Hp_ → Prop} (R : wdR h a la w) (V : wdR h b lb v) (k : Q (.inl (some (.int (bI (decide (w = v)))))) h) : gG 2 100 0 0 M_7_isSame 0 (lv_args 0 [.ref a, .ref b]) [] h Q := by
  have r0 := R.2.1
  have v0 := V.2.1
  have hw := R.1.1
  have hv := V.1.1
  refine g_aloadn M_7_isSame d_7_isSame_0 (by first | rfl | assumption) ?_
  refine g_get M_7_isSame d_7_isSame_1 fl_7_15 (by assumption) (by rfl) ?_
  refine g_aloadn M_7_isSame d_7_isSame_4 (by first | rfl | assumption) ?_
  refine g_get M_7_isSame d_7_isSame_5 fl_7_15 (by assumption) (by rfl) ?_
  refine g_icmp_eq M_7_isSame (tgt := 13) d_7_isSame_8 (by decide) (fun c => ?_) (fun c => ?_)
  rotate_left
  · rw [decide_eq_false (fun e => c (by rw [e]))] at k
    refine g_iconst M_7_isSame (v := nI 0) d_7_isSame_11 (by decide) ?_
    exact g_iret M_7_isSame d_7_isSame_12 rfl (by decide) k
  have hl : w.length = v.length := (nI_eq (by omega) (by omega)).mp c
  refine g_iconst M_7_isSame (v := nI 0) d_7_isSame_13 (by decide) ?_
  refine g_istoren M_7_isSame d_7_isSame_14 (by decide) (by first | rfl | (simp only [gc]; simp [*])) ?_
  have loop : ∀ n p, p + n = w.length → (∀ j, j < p → w.getD j 0 = v.getD j 0) → ∀ lv : List (Nat × Value), gl lv 0 = some (.ref a) → gl lv 1 = some (.ref b) → gl lv 2 = some (.int (nI p)) → gG 2 100 0 0 M_7_isSame 15 lv [] h Q := by
    intro n
    induction n with
    | zero =>
      intro p hp hj lv H0 H1 H2
      refine g_iloadn M_7_isSame d_7_isSame_15 (by first | rfl | assumption) ?_
      refine g_aloadn M_7_isSame d_7_isSame_16 (by first | rfl | assumption) ?_
      refine g_get M_7_isSame d_7_isSame_17 fl_7_15 (by assumption) (by rfl) ?_
      refine g_icmp_ge M_7_isSame (tgt := 44) d_7_isSame_20 (by decide) (fun _ => ?_) (fun c => absurd (nI_le (by omega) (by omega)) c)
      rw [decide_eq_true (getD_ext hl (fun j h9 => hj j (by omega)))] at k
      refine g_iconst M_7_isSame (v := nI 1) d_7_isSame_44 (by decide) ?_
      exact g_iret M_7_isSame d_7_isSame_45 rfl (by decide) k
    | succ n ih =>
      intro p hp hj lv H0 H1 H2
      refine g_iloadn M_7_isSame d_7_isSame_15 (by first | rfl | assumption) ?_
      refine g_aloadn M_7_isSame d_7_isSame_16 (by first | rfl | assumption) ?_
      refine g_get M_7_isSame d_7_isSame_17 fl_7_15 (by assumption) (by rfl) ?_
      refine g_icmp_ge M_7_isSame (tgt := 44) d_7_isSame_20 (by decide) (fun c => absurd c (nI_ge (by omega) (by omega))) (fun _ => ?_)
      refine g_aloadn M_7_isSame d_7_isSame_23 (by first | rfl | assumption) ?_
      refine g_iloadn M_7_isSame d_7_isSame_24 (by first | rfl | assumption) ?_
      refine gc_V M_7_isSame 0 0 [.int (nI p)] [] d_7_isSame_25 cv_7_25 r0 (by rfl) (by rfl) (Nat.le_of_ble_eq_true (by rfl)) (Nat.le_of_ble_eq_true (by rfl)) (by decide) (by decide) (by decide) (by decide) (C_7_letter R (by omega) ?_)
      show gG _ _ _ _ _ _ _ _ _ _
      refine g_aloadn M_7_isSame d_7_isSame_28 (by first | rfl | assumption) ?_
      refine g_iloadn M_7_isSame d_7_isSame_29 (by first | rfl | assumption) ?_
      refine gc_V M_7_isSame 0 0 [.int (nI p)] [_] d_7_isSame_30 cv_7_25 v0 (by rfl) (by rfl) (Nat.le_of_ble_eq_true (by rfl)) (Nat.le_of_ble_eq_true (by rfl)) (by decide) (by decide) (by decide) (by decide) (C_7_letter V (by omega) ?_)
      show gG _ _ _ _ _ _ _ _ _ _
      refine g_icmp_eq M_7_isSame (tgt := 38) d_7_isSame_33 (by decide) (fun c => ?_) (fun c => ?_)
      · have ce := (nI_eq (Nat.lt_trans (R.1.get p) (by decide)) (Nat.lt_trans (V.1.get p) (by decide))).mp c
        refine g_iinc M_7_isSame (v := nI (p + 1)) d_7_isSame_38 H2 (by decide) (by first | rfl | (simp only [gc]; simp [*])) (nI_add p 1) ?_
        refine g_goto M_7_isSame (tgt := 15) d_7_isSame_41 (by decide) ?_
        refine ih (p + 1) (by omega) (fun j h9 => ?_) _ H0 H1 rfl
        rcases Nat.lt_succ_iff_lt_or_eq.mp h9 with q | q
        · exact hj j q
        · rw [q]; exact ce
      · rw [decide_eq_false (fun e => c (by rw [e]))] at k
        refine g_iconst M_7_isSame (v := nI 0) d_7_isSame_36 (by decide) ?_
        exact g_iret M_7_isSame d_7_isSame_37 rfl (by decide) k
  exact loop w.length 0 (by omega) (fun j h9 => absurd h9 (Nat.not_lt_zero j)) _ rfl rfl rfl
set_option maxHeartbeats 4000000 in
set_option maxRecDepth 100000 in
theorem C_7_copyFrom {a la b lb : Nat} {w v : List Nat} {h : Hp_} {Q : Ot_ → Hp_ → Prop} (R : wdR h a la w) (V : wdR h b lb v) (n1 : a ≠ la) (n2 : b ≠ la) (k : ∀ h', gExt h h' [a, la] [] → wdR h' a la v → Q (.inl none) h') : gG 1 90 0 0 M_7_copyFrom 0 (lv_args 0 [.ref a, .ref b]) [] h Q := by
  obtain ⟨r1, r2, f, r3, r4, r5⟩ := id R
  obtain ⟨v1, v2, g, v3, v4, v5⟩ := id V
  refine g_aloadn M_7_copyFrom d_7_copyFrom_0 (by first | rfl | assumption) ?_
  refine g_get M_7_copyFrom d_7_copyFrom_1 fl_7_9 (by assumption) (by rfl) ?_
  refine g_iconst M_7_copyFrom (v := nI 0) d_7_copyFrom_4 (by decide) ?_
  refine g_aloadn M_7_copyFrom d_7_copyFrom_5 (by first | rfl | assumption) ?_
  refine g_get M_7_copyFrom d_7_copyFrom_6 fl_7_9 (by assumption) (by rfl) ?_
  refine g_iconst M_7_copyFrom (v := nI 0) d_7_copyFrom_9 (by decide) ?_
  refine g_aloadn M_7_copyFrom d_7_copyFrom_10 (by first | rfl | assumption) ?_
  refine g_get M_7_copyFrom d_7_copyFrom_11 fl_7_9 (by assumption) (by rfl) ?_
  refine g_alen M_7_copyFrom d_7_copyFrom_14 (by assumption) ?_
  refine g_aloadn M_7_copyFrom d_7_copyFrom_15 (by first | rfl | assumption) ?_
  refine g_get M_7_copyFrom d_7_copyFrom_16 fl_7_9 (by assumption) (by rfl) ?_
  refine g_alen M_7_copyFrom d_7_copyFrom_19 (by assumption) ?_
  refine g_min M_7_copyFrom d_7_copyFrom_20 mm_7_29 mm_min_s mm_i mm_min_c (Nat.le_of_ble_eq_true (by rfl)) (Nat.le_of_ble_eq_true (by rfl)) ?_
  rw [ite_self]
  refine e_copy M_7_copyFrom d_7_copyFrom_23 ac_7_32 v3 r3 rfl (by decide) (by decide) (by decide) (by decide) (by decide) (fun i hi => ?_) (Nat.le_of_ble_eq_true (by rfl)) (Nat.le_of_ble_eq_true (by rfl)) (fun h2 u2 e2 => ?_)
  · rw [nI_cl (by decide)]
    rw [nI_cl (by decide)] at hi
    exact gCh_f (v4 _ (by omega))
  rw [nI_cl (by decide), nI_cl (by decide)] at u2
  have ra := e2.keep r2 (by simpa using n1)
  have vb := e2.keep v2 (by simpa using n2)
  refine g_aloadn M_7_copyFrom d_7_copyFrom_26 (by first | rfl | assumption) ?_
  refine g_aloadn M_7_copyFrom d_7_copyFrom_27 (by first | rfl | assumption) ?_
  refine g_get M_7_copyFrom d_7_copyFrom_28 fl_7_15 (by assumption) (by rfl) ?_
  refine e_put M_7_copyFrom d_7_copyFrom_31 pt_7_15 ra (by rfl) (by rfl) (fun h3 u3 e3 => ?_)
  refine g_vret M_7_copyFrom d_7_copyFrom_34 rfl (k h3 ?_ ⟨v1, u3, _, e3.keep u2 (by simpa using n1.symm), fun j hj => ?_, fun j hj => ?_⟩)
  · have t := (e2.weak (S' := [a, la]) (by simp)).trans e3 (by simp)
    simpa using t
  · rw [va_cpy0 hj]; exact v4 j hj
  · rw [va_cpy0 (by have := v1.1; omega)]; exact v5 j hj
set_option maxHeartbeats 4000000 in
set_option maxRecDepth 100000 in
theorem C_8_lengthOf {a la na rows width : Nat} {ws : List (List Nat)} {i : Nat} {h : Hp_} {Q : Ot_ → Hp_ → Prop} (hr : rows ≤ 30) (R : wsR h a la na rows width ws) (hi : i < 2 ^ 31) (k : Q (.inl (some (.int (nI (ws.getD i []).length)))) h) : gG 1 60 0 0 M_8_lengthOf 0 (lv_args 0 [.ref a, .int (nI i)]) [] h Q := by
  obtain ⟨p1, p2, p3, f, g, p4, p5, p6, p7⟩ := id R
  refine g_iloadn M_8_lengthOf d_8_lengthOf_0 (by first | rfl | assumption) ?_
  refine g_if_lt M_8_lengthOf (tgt := 30) d_8_lengthOf_1 (by decide) (fun c => absurd c (nI_pos hi)) (fun _ => ?_)
  refine g_iloadn M_8_lengthOf d_8_lengthOf_4 (by first | rfl | assumption) ?_
  refine g_aloadn M_8_lengthOf d_8_lengthOf_5 (by first | rfl | assumption) ?_
  refine g_get M_8_lengthOf d_8_lengthOf_6 fl_8_29 (by assumption) (by rfl) ?_
  refine g_icmp_ge M_8_lengthOf (tgt := 30) d_8_lengthOf_9 (by decide) (fun c => ?_) (fun c => ?_)
  · rw [nI_leI (by omega) hi] at c
    rw [List.getD_eq_getElem?_getD, List.getElem?_eq_none c] at k
    refine g_iconst M_8_lengthOf (v := nI 0) d_8_lengthOf_30 (by decide) ?_
    exact g_iret M_8_lengthOf d_8_lengthOf_31 rfl rfl k
  · rw [nI_leI (by omega) hi] at c
    refine g_iloadn M_8_lengthOf d_8_lengthOf_12 (by first | rfl | assumption) ?_
    refine g_aloadn M_8_lengthOf d_8_lengthOf_13 (by first | rfl | assumption) ?_
    refine g_get M_8_lengthOf d_8_lengthOf_14 fl_8_25 (by assumption) (by rfl) ?_
    refine g_alen M_8_lengthOf d_8_lengthOf_17 (by assumption) ?_
    refine g_icmp_ge M_8_lengthOf (tgt := 30) d_8_lengthOf_18 (by decide) (fun c9 => absurd c9 (nI_ge (by omega) (by omega))) (fun _ => ?_)
    refine g_aloadn M_8_lengthOf d_8_lengthOf_21 (by first | rfl | assumption) ?_
    refine g_get M_8_lengthOf d_8_lengthOf_22 fl_8_25 (by assumption) (by rfl) ?_
    refine g_iloadn M_8_lengthOf d_8_lengthOf_25 (by first | rfl | assumption) ?_
    refine g_iaload M_8_lengthOf d_8_lengthOf_26 p5 (vp_in_nI (by omega) (by omega)) ?_
    rw [nI_cl hi, (p7 i (by omega)).1]
    refine g_goto M_8_lengthOf (tgt := 31) d_8_lengthOf_27 (by decide) ?_
    exact g_iret M_8_lengthOf d_8_lengthOf_31 rfl rfl k
set_option maxHeartbeats 4000000 in
set_option maxRecDepth 100000 in
theorem C_8_letterOf {a la na rows width : Nat} {ws : List (List Nat)} {i j : Nat} {h : Hp_} {Q : Ot_ → Hp_ → Prop} (hr : rows ≤ 30) (hw : width ≤ 16) (R : wsR h a la na rows width ws) (hi : i < ws.length) (hj : j < (ws.getD i []).length) (k : Q (.inl (some (.int (nI ((ws.getD i []).getD j 0))))) h) : gG 1 60 0 0 M_8_letterOf 0 (lv_args 0 [.ref a, .int (nI i), .int (nI j)]) [] h Q := by
  obtain ⟨p1, p2, p3, f, g, p4, p5, p6, p7⟩ := id R
  have b1 : rows * width ≤ 480 := Nat.le_trans (Nat.mul_le_mul hr hw) (by decide)
  have b2 : i * width + width ≤ rows * width := nI_mulbd (by omega)
  have b3 := (wd_get (i := i) p2).1
  have ix : nI i * nI width + nI j = nI (i * width + j) := by
    rw [show nI i * nI width = nI (i * width) from (Int32.ofNat_mul i width).symm, nI_add]
  refine g_iloadn M_8_letterOf d_8_letterOf_0 (by first | rfl | assumption) ?_
  refine g_aloadn M_8_letterOf d_8_letterOf_1 (by first | rfl | assumption) ?_
  refine g_get M_8_letterOf d_8_letterOf_2 fl_8_15 (by assumption) (by rfl) ?_
  refine g_imul M_8_letterOf d_8_letterOf_5 ?_
  refine g_iloadn M_8_letterOf d_8_letterOf_6 (by first | rfl | assumption) ?_
  refine g_iadd M_8_letterOf d_8_letterOf_7 ?_
  rw [ix]
  refine g_istoren M_8_letterOf d_8_letterOf_8 (by decide) (by first | rfl | (simp only [gc]; simp [*])) ?_
  refine g_iloadn M_8_letterOf d_8_letterOf_9 (by first | rfl | assumption) ?_
  refine g_if_lt M_8_letterOf (tgt := 31) d_8_letterOf_10 (by decide) (fun c => absurd c (nI_pos (by omega))) (fun _ => ?_)
  refine g_iloadn M_8_letterOf d_8_letterOf_13 (by first | rfl | assumption) ?_
  refine g_aloadn M_8_letterOf d_8_letterOf_14 (by first | rfl | assumption) ?_
  refine g_get M_8_letterOf d_8_letterOf_15 fl_8_21 (by assumption) (by rfl) ?_
  refine g_alen M_8_letterOf d_8_letterOf_18 (by assumption) ?_
  refine g_icmp_ge M_8_letterOf (tgt := 31) d_8_letterOf_19 (by decide) (fun c => absurd c (nI_ge (by omega) (by omega))) (fun _ => ?_)
  refine g_aloadn M_8_letterOf d_8_letterOf_22 (by first | rfl | assumption) ?_
  refine g_get M_8_letterOf d_8_letterOf_23 fl_8_21 (by assumption) (by rfl) ?_
  refine g_iloadn M_8_letterOf d_8_letterOf_26 (by first | rfl | assumption) ?_
  refine g_caload M_8_letterOf d_8_letterOf_27 p4 (vp_in_nI (by omega) (by omega)) ?_
  rw [nI_cl (by omega), (p7 i hi).2 j hj]
  refine g_goto M_8_letterOf (tgt := 32) d_8_letterOf_28 (by decide) ?_
  exact g_iret M_8_letterOf d_8_letterOf_32 rfl (gCh_n (gCh_of ((wd_get p2).get j))) k
set_option maxHeartbeats 4000000 in
set_option maxRecDepth 100000 in
theorem C_8_appendTo {a la na rows width : Nat} {ws : List (List Nat)} {i aw lw : Nat} {w : List Nat} {h : Hp_} {Q : Ot_ → Hp_ → Prop} (hr : rows ≤ 30) (hw : width ≤ 16) (R : wsR h a la na rows width ws) (hi : i < 2 ^ 31) (D : wdR h aw lw w) (hlen : w.length + (ws.getD i []).length ≤ 16) (n0 : aw ≠ lw) (o : ∀ x ∈ [a, la, na], x ∉ [aw, lw]) (k : ∀ h', gExt h h' [aw, lw] [] → wdR h' aw lw (w ++ ws.getD i []) → Q (.inl none) h') : gG 2 100 0 0 M_8_appendTo 0 (lv_args 0 [.ref a, .int (nI i), .ref aw]) [] h Q := by
  have r0 := R.2.2.1
  have bw := (wd_get (i := i) R.2.1)
  have oa := o a (by simp)
  have ola := o la (by simp)
  have ona := o na (by simp)
  refine g_aloadn M_8_appendTo d_8_appendTo_0 (by first | rfl | assumption) ?_
  refine g_iloadn M_8_appendTo d_8_appendTo_1 (by first | rfl | assumption) ?_
  refine gc_V M_8_appendTo 0 0 [.int (nI i)] [] d_8_appendTo_2 cv_8_63 r0 (by rfl) (by rfl) (Nat.le_of_ble_eq_true (by rfl)) (Nat.le_of_ble_eq_true (by rfl)) (by decide) (by decide) (by decide) (by decide) (C_8_lengthOf hr R hi ?_)
  show gG _ _ _ _ _ _ _ _ _ _
  refine g_istoren M_8_appendTo d_8_appendTo_5 (by decide) (by first | rfl | (simp only [gc]; simp [*])) ?_
  refine g_iconst M_8_appendTo (v := nI 0) d_8_appendTo_6 (by decide) ?_
  refine g_istore M_8_appendTo d_8_appendTo_7 (by decide) (by first | rfl | (simp only [gc]; simp [*])) ?_
  have loop : ∀ n p, p + n = (ws.getD i []).length → ∀ (h2 : Hp_) (lv : List (Nat × Value)), gExt h h2 [aw, lw] [] → wdR h2 aw lw (w ++ (ws.getD i []).take p) → gl lv 0 = some (.ref a) → gl lv 1 = some (.int (nI i)) → gl lv 2 = some (.ref aw) → gl lv 3 = some (.int (nI (ws.getD i []).length)) → gl lv 4 = some (.int (nI p)) → gG 2 100 0 0 M_8_appendTo 9 lv [] h2 Q := by
    intro n
    induction n with
    | zero =>
      intro p hp h2 lv e2 D2 H0 H1 H2 H3 H4
      have D3 : wdR h2 aw lw (w ++ ws.getD i []) := by rw [List.take_of_length_le (by omega)] at D2; exact D2
      refine g_iload M_8_appendTo d_8_appendTo_9 (by first | rfl | assumption) ?_
      refine g_iloadn M_8_appendTo d_8_appendTo_11 (by first | rfl | assumption) ?_
      refine g_icmp_ge M_8_appendTo (tgt := 32) d_8_appendTo_12 (by decide) (fun _ => ?_) (fun c => absurd (nI_le (by omega) (by omega)) c)
      exact g_vret M_8_appendTo d_8_appendTo_32 rfl (k h2 e2 D3)
    | succ n ih =>
      intro p hp h2 lv e2 D2 H0 H1 H2 H3 H4
      have R2 := R.keep e2 oa ola ona
      have il : i < ws.length := row_lt (p := p) (by omega)
      have lt : (w ++ (ws.getD i []).take p).length < 16 := by rw [List.length_append, List.length_take]; omega
      refine g_iload M_8_appendTo d_8_appendTo_9 (by first | rfl | assumption) ?_
      refine g_iloadn M_8_appendTo d_8_appendTo_11 (by first | rfl | assumption) ?_
      refine g_icmp_ge M_8_appendTo (tgt := 32) d_8_appendTo_12 (by decide) (fun c => absurd c (nI_ge (by omega) (by omega))) (fun _ => ?_)
      refine g_aloadn M_8_appendTo d_8_appendTo_15 (by first | rfl | assumption) ?_
      refine g_aloadn M_8_appendTo d_8_appendTo_16 (by first | rfl | assumption) ?_
      refine g_iloadn M_8_appendTo d_8_appendTo_17 (by first | rfl | assumption) ?_
      refine g_iload M_8_appendTo d_8_appendTo_18 (by first | rfl | assumption) ?_
      refine gc_V M_8_appendTo 0 0 [.int (nI i), .int (nI p)] [.ref aw] d_8_appendTo_20 cv_8_67 R2.2.2.1 (by rfl) (by rfl) (Nat.le_of_ble_eq_true (by rfl)) (Nat.le_of_ble_eq_true (by rfl)) (by decide) (by decide) (by decide) (by decide) (C_8_letterOf hr hw R2 il (by omega) ?_)
      show gG _ _ _ _ _ _ _ _ _ _
      refine gc_V M_8_appendTo 0 0 [_] [] d_8_appendTo_23 cv_8_71 D2.2.1 (by rfl) (by rfl) (Nat.le_of_ble_eq_true (by rfl)) (Nat.le_of_ble_eq_true (by rfl)) (by decide) (by decide) (by decide) (by decide) (C_7_append D2 lt (bw.get p) n0 (fun h3 e3 D3 => ?_))
      show gG _ _ _ _ _ _ _ _ _ _
      refine g_iinc M_8_appendTo (v := nI (p + 1)) d_8_appendTo_26 H4 (by decide) (by first | rfl | (simp only [gc]; simp [*])) (nI_add p 1) ?_
      refine g_goto M_8_appendTo (tgt := 9) d_8_appendTo_29 (by decide) ?_
      refine ih (p + 1) (by omega) h3 _ (by simpa using e2.trans e3 (fun x hx => Or.inl hx)) ?_ H0 H1 H2 H3 rfl
      rw [← take_snoc (show p < (ws.getD i []).length by omega), ← List.append_assoc]
      exact D3
  exact loop (ws.getD i []).length 0 (by omega) h _ (gExt.refl.weak (by simp)) (by simpa using D) rfl rfl rfl rfl rfl
set_option maxHeartbeats 4000000 in
set_option maxRecDepth 100000 in
theorem C_8_load {a la na rows width : Nat} {ws : List (List Nat)} {i aw lw : Nat} {w : List Nat} {h : Hp_} {Q : Ot_ → Hp_ → Prop} (hr : rows ≤ 30) (hw : width ≤ 16) (R : wsR h a la na rows width ws) (hi : i < 2 ^ 31) (D : wdR h aw lw w) (n0 : aw ≠ lw) (o : ∀ x ∈ [a, la, na], x ∉ [aw, lw]) (k : ∀ h', gExt h h' [aw, lw] [] → wdR h' aw lw (ws.getD i []) → Q (.inl none) h') : gG 3 130 0 0 M_8_load 0 (lv_args 0 [.ref a, .int (nI i), .ref aw]) [] h Q := by
  have oo : ∀ x ∈ [a, la, na], x ∉ [aw] := fun x hx q => o x hx (by rw [List.mem_singleton.mp q]; simp)
  refine g_aloadn M_8_load d_8_load_0 (by first | rfl | assumption) ?_
  refine gc_V M_8_load 0 0 [] [] d_8_load_1 cv_8_57 D.2.1 (by rfl) (by rfl) (Nat.le_of_ble_eq_true (by rfl)) (Nat.le_of_ble_eq_true (by rfl)) (by decide) (by decide) (by decide) (by decide) (C_7_clear n0.symm D (fun h1 e1 D1 => ?_))
  have R1 := R.keep e1 (oo a (by simp)) (oo la (by simp)) (oo na (by simp))
  show gG _ _ _ _ _ _ _ _ _ _
  refine g_aloadn M_8_load d_8_load_4 (by first | rfl | assumption) ?_
  refine g_iloadn M_8_load d_8_load_5 (by first | rfl | assumption) ?_
  refine g_aloadn M_8_load d_8_load_6 (by first | rfl | assumption) ?_
  refine gc_V M_8_load 0 0 [.int (nI i), .ref aw] [] d_8_load_7 cv_8_60 R1.2.2.1 (by rfl) (by rfl) (Nat.le_of_ble_eq_true (by rfl)) (Nat.le_of_ble_eq_true (by rfl)) (by decide) (by decide) (by decide) (by decide) (C_8_appendTo hr hw R1 hi D1 (by rw [List.length_nil, Nat.zero_add]; exact Nat.le_trans (wd_get (i := i) R1.2.1).1 hw) n0 o (fun h2 e2 D2 => ?_))
  show gG _ _ _ _ _ _ _ _ _ _
  have t := (e1.weak (S' := [aw, lw]) (by simp)).trans e2 (fun x hx => Or.inl hx)
  exact g_vret M_8_load d_8_load_10 rfl (k h2 (by simpa using t) (by simpa using D2))
end
section
/-! ===== Words: comparing, finding ===== -/
/-- a word ends with e -/
def eW (e w : List Nat) : Bool := decide (e.length ≤ w.length ∧ ∀ j, j < e.length → e.getD j 0 = w.getD (w.length - e.length + j) 0)
theorem eW_iff {e w : List Nat} : eW e w = true ↔ ∃ v, w = v ++ e := by
  unfold eW
  rw [decide_eq_true_iff]
  constructor
  · rintro ⟨h1, h2⟩
    refine ⟨w.take (w.length - e.length), ?_⟩
    have hd : w.drop (w.length - e.length) = e := by
      apply getD_ext
      · rw [List.length_drop]; omega
      · intro j hj
        rw [List.length_drop] at hj
        rw [h2 j (by omega), List.getD_eq_getElem?_getD, List.getD_eq_getElem?_getD, List.getElem?_drop]
    exact (List.take_append_drop (w.length - e.length) w).symm.trans (by rw [hd])
  · rintro ⟨v, rfl⟩
    refine ⟨by rw [List.length_append]; omega, fun j hj => ?_⟩
    rw [List.length_append, List.getD_eq_getElem?_getD, List.getD_eq_getElem?_getD, List.getElem?_append_right (by omega)]
    congr 2
    omega

set_option maxHeartbeats 4000000 in
set_option maxRecDepth 100000 in
theorem C_8_isEndOf {a la na rows width : Nat} {ws : List (List Nat)} {i aw lw : Nat} {w : List Nat} {h : Hp_} {Q : Ot_ → Hp_ → Prop} (hr : rows ≤ 30) (hw : width ≤ 16) (R : wsR h a la na rows width ws) (hi : i < 2 ^ 31) (D : wdR h aw lw w) (k : Q (.inl (some (.int (bI (eW (ws.getD i []) w))))) h) : gG 2 100 0 0 M_8_isEndOf 0 (lv_args 0 [.ref a, .int (nI i), .ref aw]) [] h Q := by
  have r0 := R.2.2.1
  have d0 := D.2.1
  have bw := (wd_get (i := i) R.2.1)
  have bl := bw.1
  have dl := D.1.1
  refine g_aloadn M_8_isEndOf d_8_isEndOf_0 (by first | rfl | assumption) ?_
  refine g_iloadn M_8_isEndOf d_8_isEndOf_1 (by first | rfl | assumption) ?_
  refine gc_V M_8_isEndOf 0 0 [.int (nI i)] [] d_8_isEndOf_2 cv_8_63 r0 (by rfl) (by rfl) (Nat.le_of_ble_eq_true (by rfl)) (Nat.le_of_ble_eq_true (by rfl)) (by decide) (by decide) (by decide) (by decide) (C_8_lengthOf hr R hi ?_)
  show gG _ _ _ _ _ _ _ _ _ _
  refine g_istoren M_8_isEndOf d_8_isEndOf_5 (by decide) (by first | rfl | (simp only [gc]; simp [*])) ?_
  refine g_aloadn M_8_isEndOf d_8_isEndOf_6 (by first | rfl | assumption) ?_
  refine gc_V M_8_isEndOf 0 0 [] [] d_8_isEndOf_7 cv_8_40 d0 (by rfl) (by rfl) (Nat.le_of_ble_eq_true (by rfl)) (Nat.le_of_ble_eq_true (by rfl)) (by decide) (by decide) (by decide) (by decide) (C_7_length d0 ?_)
  show gG _ _ _ _ _ _ _ _ _ _
  refine g_iloadn M_8_isEndOf d_8_isEndOf_10 (by first | rfl | assumption) ?_
  refine g_isub M_8_isEndOf d_8_isEndOf_11 ?_
  by_cases ql : (ws.getD i []).length ≤ w.length
  rotate_left
  · have c0 := nI_subneg (show w.length < (ws.getD i []).length by omega) (by omega)
    have ef : eW (ws.getD i []) w = false := decide_eq_false (fun z => ql z.1)
    rw [ef] at k
    refine g_istore M_8_isEndOf d_8_isEndOf_12 (by decide) (by first | rfl | (simp only [gc]; simp [*])) ?_
    refine g_iload M_8_isEndOf d_8_isEndOf_14 (by first | rfl | assumption) ?_
    refine g_if_ge M_8_isEndOf (tgt := 21) d_8_isEndOf_16 (by decide) (fun c => absurd c0 (Int32.not_lt.mpr c)) (fun _ => ?_)
    refine g_iconst M_8_isEndOf (v := nI 0) d_8_isEndOf_19 (by decide) ?_
    exact g_iret M_8_isEndOf d_8_isEndOf_20 rfl (by decide) k
  rw [nI_sub ql]
  refine g_istore M_8_isEndOf d_8_isEndOf_12 (by decide) (by first | rfl | (simp only [gc]; simp [*])) ?_
  refine g_iload M_8_isEndOf d_8_isEndOf_14 (by first | rfl | assumption) ?_
  refine g_if_ge M_8_isEndOf (tgt := 21) d_8_isEndOf_16 (by decide) (fun _ => ?_) (fun c => absurd (Int32.not_lt.mp (nI_pos (by omega))) c)
  refine g_iconst M_8_isEndOf (v := nI 0) d_8_isEndOf_21 (by decide) ?_
  refine g_istore M_8_isEndOf d_8_isEndOf_22 (by decide) (by first | rfl | (simp only [gc]; simp [*])) ?_
  have loop : ∀ n p, p + n = (ws.getD i []).length → (∀ j, j < p → (ws.getD i []).getD j 0 = w.getD (w.length - (ws.getD i []).length + j) 0) → ∀ lv : List (Nat × Value), gl lv 0 = some (.ref a) → gl lv 1 = some (.int (nI i)) → gl lv 2 = some (.ref aw) → gl lv 3 = some (.int (nI (ws.getD i []).length)) → gl lv 4 = some (.int (nI (w.length - (ws.getD i []).length))) → gl lv 5 = some (.int (nI p)) → gG 2 100 0 0 M_8_isEndOf 24 lv [] h Q := by
    intro n
    induction n with
    | zero =>
      intro p hp hj lv H0 H1 H2 H3 H4 H5
      have et : eW (ws.getD i []) w = true := decide_eq_true ⟨ql, fun j h9 => hj j (by omega)⟩
      rw [et] at k
      refine g_iload M_8_isEndOf d_8_isEndOf_24 (by first | rfl | assumption) ?_
      refine g_iloadn M_8_isEndOf d_8_isEndOf_26 (by first | rfl | assumption) ?_
      refine g_icmp_ge M_8_isEndOf (tgt := 57) d_8_isEndOf_27 (by decide) (fun _ => ?_) (fun c => absurd (nI_le (by omega) (by omega)) c)
      refine g_iconst M_8_isEndOf (v := nI 1) d_8_isEndOf_57 (by decide) ?_
      exact g_iret M_8_isEndOf d_8_isEndOf_58 rfl (by decide) k
    | succ n ih =>
      intro p hp hj lv H0 H1 H2 H3 H4 H5
      have il : i < ws.length := row_lt (p := p) (by omega)
      refine g_iload M_8_isEndOf d_8_isEndOf_24 (by first | rfl | assumption) ?_
      refine g_iloadn M_8_isEndOf d_8_isEndOf_26 (by first | rfl | assumption) ?_
      refine g_icmp_ge M_8_isEndOf (tgt := 57) d_8_isEndOf_27 (by decide) (fun c => absurd c (nI_ge (by omega) (by omega))) (fun _ => ?_)
      refine g_aloadn M_8_isEndOf d_8_isEndOf_30 (by first | rfl | assumption) ?_
      refine g_iloadn M_8_isEndOf d_8_isEndOf_31 (by first | rfl | assumption) ?_
      refine g_iload M_8_isEndOf d_8_isEndOf_32 (by first | rfl | assumption) ?_
      refine gc_V M_8_isEndOf 0 0 [.int (nI i), .int (nI p)] [] d_8_isEndOf_34 cv_8_67 r0 (by rfl) (by rfl) (Nat.le_of_ble_eq_true (by rfl)) (Nat.le_of_ble_eq_true (by rfl)) (by decide) (by decide) (by decide) (by decide) (C_8_letterOf hr hw R il (by omega) ?_)
      show gG _ _ _ _ _ _ _ _ _ _
      refine g_aloadn M_8_isEndOf d_8_isEndOf_37 (by first | rfl | assumption) ?_
      refine g_iload M_8_isEndOf d_8_isEndOf_38 (by first | rfl | assumption) ?_
      refine g_iload M_8_isEndOf d_8_isEndOf_40 (by first | rfl | assumption) ?_
      refine g_iadd M_8_isEndOf d_8_isEndOf_42 ?_
      rw [nI_add]
      refine gc_V M_8_isEndOf 0 0 [_] [_] d_8_isEndOf_43 cv_8_49 d0 (by rfl) (by rfl) (Nat.le_of_ble_eq_true (by rfl)) (Nat.le_of_ble_eq_true (by rfl)) (by decide) (by decide) (by decide) (by decide) (C_7_letter D (by omega) ?_)
      show gG _ _ _ _ _ _ _ _ _ _
      refine g_icmp_eq M_8_isEndOf (tgt := 51) d_8_isEndOf_46 (by decide) (fun c => ?_) (fun c => ?_)
      · have ce := (nI_eq (Nat.lt_trans (bw.get p) (by decide)) (Nat.lt_trans (D.1.get _) (by decide))).mp c
        refine g_iinc M_8_isEndOf (v := nI (p + 1)) d_8_isEndOf_51 H5 (by decide) (by first | rfl | (simp only [gc]; simp [*])) (nI_add p 1) ?_
        refine g_goto M_8_isEndOf (tgt := 24) d_8_isEndOf_54 (by decide) ?_
        refine ih (p + 1) (by omega) (fun j h9 => ?_) _ H0 H1 H2 H3 H4 rfl
        rcases Nat.lt_succ_iff_lt_or_eq.mp h9 with q | q
        · exact hj j q
        · rw [q]; exact ce
      · have ef : eW (ws.getD i []) w = false := decide_eq_false (fun z => c (by rw [z.2 p (by omega)]))
        rw [ef] at k
        refine g_iconst M_8_isEndOf (v := nI 0) d_8_isEndOf_49 (by decide) ?_
        exact g_iret M_8_isEndOf d_8_isEndOf_50 rfl (by decide) k
  exact loop (ws.getD i []).length 0 (by omega) (fun j h9 => absurd h9 (Nat.not_lt_zero j)) _ rfl rfl rfl rfl rfl rfl
set_option maxHeartbeats 4000000 in
set_option maxRecDepth 100000 in
theorem C_8_isSame {a la na rows width : Nat} {ws : List (List Nat)} {i aw lw : Nat} {w : List Nat} {h : Hp_} {Q : Ot_ → Hp_ → Prop} (hr : rows ≤ 30) (hw : width ≤ 16) (R : wsR h a la na rows width ws) (hi : i < 2 ^ 31) (D : wdR h aw lw w) (k : Q (.inl (some (.int (bI (decide (ws.getD i [] = w)))))) h) : gG 3 130 0 0 M_8_isSame 0 (lv_args 0 [.ref a, .int (nI i), .ref aw]) [] h Q := by
  have r0 := R.2.2.1
  have d0 := D.2.1
  have bl := (wd_get (i := i) R.2.1).1
  have dl := D.1.1
  refine g_aloadn M_8_isSame d_8_isSame_0 (by first | rfl | assumption) ?_
  refine g_iloadn M_8_isSame d_8_isSame_1 (by first | rfl | assumption) ?_
  refine gc_V M_8_isSame 0 0 [.int (nI i)] [] d_8_isSame_2 cv_8_63 r0 (by rfl) (by rfl) (Nat.le_of_ble_eq_true (by rfl)) (Nat.le_of_ble_eq_true (by rfl)) (by decide) (by decide) (by decide) (by decide) (C_8_lengthOf hr R hi ?_)
  show gG _ _ _ _ _ _ _ _ _ _
  refine g_aloadn M_8_isSame d_8_isSame_5 (by first | rfl | assumption) ?_
  refine gc_V M_8_isSame 0 0 [] [_] d_8_isSame_6 cv_8_40 d0 (by rfl) (by rfl) (Nat.le_of_ble_eq_true (by rfl)) (Nat.le_of_ble_eq_true (by rfl)) (by decide) (by decide) (by decide) (by decide) (C_7_length d0 ?_)
  show gG _ _ _ _ _ _ _ _ _ _
  refine g_icmp_ne M_8_isSame (tgt := 25) d_8_isSame_9 (by decide) (fun c => ?_) (fun c => ?_)
  · rw [decide_eq_false (fun z => c (by rw [z]))] at k
    refine g_iconst M_8_isSame (v := nI 0) d_8_isSame_25 (by decide) ?_
    exact g_iret M_8_isSame d_8_isSame_26 rfl (by decide) k
  have cl := (nI_eq (by omega) (by omega)).mp c
  refine g_aloadn M_8_isSame d_8_isSame_12 (by first | rfl | assumption) ?_
  refine g_iloadn M_8_isSame d_8_isSame_13 (by first | rfl | assumption) ?_
  refine g_aloadn M_8_isSame d_8_isSame_14 (by first | rfl | assumption) ?_
  refine gc_V M_8_isSame 0 0 [.int (nI i), .ref aw] [] d_8_isSame_15 cv_8_75 r0 (by rfl) (by rfl) (Nat.le_of_ble_eq_true (by rfl)) (Nat.le_of_ble_eq_true (by rfl)) (by decide) (by decide) (by decide) (by decide) (C_8_isEndOf hr hw R hi D ?_)
  show gG _ _ _ _ _ _ _ _ _ _
  cases e : eW (ws.getD i []) w with
  | false =>
    have ne : ws.getD i [] ≠ w := fun z => by
      rw [z] at e
      have e9 : eW w w = true := eW_iff.mpr ⟨[], rfl⟩
      rw [e9] at e
      cases e
    rw [decide_eq_false ne] at k
    refine g_if_eq M_8_isSame (tgt := 25) d_8_isSame_18 (by decide) (fun _ => ?_) (fun c9 => absurd rfl c9)
    refine g_iconst M_8_isSame (v := nI 0) d_8_isSame_25 (by decide) ?_
    exact g_iret M_8_isSame d_8_isSame_26 rfl (by decide) k
  | true =>
    obtain ⟨v, hv⟩ := eW_iff.mp e
    have v0 : v = [] := by
      have := congrArg List.length hv
      rw [List.length_append] at this
      exact List.eq_nil_of_length_eq_zero (by omega)
    rw [v0] at hv
    rw [decide_eq_true (show ws.getD i [] = w by rw [hv]; rfl)] at k
    refine g_if_eq M_8_isSame (tgt := 25) d_8_isSame_18 (by decide) (fun c9 => absurd c9 (by decide)) (fun _ => ?_)
    refine g_iconst M_8_isSame (v := nI 1) d_8_isSame_21 (by decide) ?_
    refine g_goto M_8_isSame (tgt := 26) d_8_isSame_22 (by decide) ?_
    exact g_iret M_8_isSame d_8_isSame_26 rfl (by decide) k
set_option maxHeartbeats 4000000 in
set_option maxRecDepth 100000 in
theorem C_8_find {a la na rows width : Nat} {ws : List (List Nat)} {aw lw : Nat} {w : List Nat} {h : Hp_} {Q : Ot_ → Hp_ → Prop} (hr : rows ≤ 30) (hw : width ≤ 16) (R : wsR h a la na rows width ws) (D : wdR h aw lw w) (k : Q (.inl (some (.int (oI (fst (fun i => decide (ws.getD i [] = w)) ws.length))))) h) : gG 4 160 0 0 M_8_find 0 (lv_args 0 [.ref a, .ref aw]) [] h Q := by
  have r0 := R.2.2.1
  have rl := R.1
  refine g_iconst M_8_find (v := nI 0) d_8_find_0 (by decide) ?_
  refine g_istoren M_8_find d_8_find_1 (by decide) (by first | rfl | (simp only [gc]; simp [*])) ?_
  have loop : ∀ n p, p + n = ws.length → (∀ j, j < p → decide (ws.getD j [] = w) = false) → ∀ lv : List (Nat × Value), gl lv 0 = some (.ref a) → gl lv 1 = some (.ref aw) → gl lv 2 = some (.int (nI p)) → gG 4 160 0 0 M_8_find 2 lv [] h Q := by
    intro n
    induction n with
    | zero =>
      intro p hp hj lv H0 H1 H2
      rw [fst_none (fun j h9 => hj j (by omega))] at k
      refine g_iloadn M_8_find d_8_find_2 (by first | rfl | assumption) ?_
      refine g_aloadn M_8_find d_8_find_3 (by first | rfl | assumption) ?_
      refine g_get M_8_find d_8_find_4 fl_8_29 (by assumption) (by rfl) ?_
      refine g_icmp_ge M_8_find (tgt := 27) d_8_find_7 (by decide) (fun _ => ?_) (fun c => absurd (nI_le (by omega) (by omega)) c)
      refine g_iconst M_8_find (v := -1) d_8_find_27 (by decide) ?_
      exact g_iret M_8_find d_8_find_28 rfl rfl k
    | succ n ih =>
      intro p hp hj lv H0 H1 H2
      refine g_iloadn M_8_find d_8_find_2 (by first | rfl | assumption) ?_
      refine g_aloadn M_8_find d_8_find_3 (by first | rfl | assumption) ?_
      refine g_get M_8_find d_8_find_4 fl_8_29 (by assumption) (by rfl) ?_
      refine g_icmp_ge M_8_find (tgt := 27) d_8_find_7 (by decide) (fun c => absurd c (nI_ge (by omega) (by omega))) (fun _ => ?_)
      refine g_aloadn M_8_find d_8_find_10 (by first | rfl | assumption) ?_
      refine g_iloadn M_8_find d_8_find_11 (by first | rfl | assumption) ?_
      refine g_aloadn M_8_find d_8_find_12 (by first | rfl | assumption) ?_
      refine gc_V M_8_find 0 0 [.int (nI p), .ref aw] [] d_8_find_13 cv_8_79 r0 (by rfl) (by rfl) (Nat.le_of_ble_eq_true (by rfl)) (Nat.le_of_ble_eq_true (by rfl)) (by decide) (by decide) (by decide) (by decide) (C_8_isSame hr hw R (by omega) D ?_)
      show gG _ _ _ _ _ _ _ _ _ _
      cases e : decide (ws.getD p [] = w) with
      | false =>
        refine g_if_eq M_8_find (tgt := 21) d_8_find_16 (by decide) (fun _ => ?_) (fun c9 => absurd rfl c9)
        refine g_iinc M_8_find (v := nI (p + 1)) d_8_find_21 H2 (by decide) (by first | rfl | (simp only [gc]; simp [*])) (nI_add p 1) ?_
        refine g_goto M_8_find (tgt := 2) d_8_find_24 (by decide) ?_
        refine ih (p + 1) (by omega) (fun j h9 => ?_) _ H0 H1 rfl
        rcases Nat.lt_succ_iff_lt_or_eq.mp h9 with q | q
        · exact hj j q
        · rw [q]; exact e
      | true =>
        rw [fst_some (i := p) (by omega) e hj] at k
        refine g_if_eq M_8_find (tgt := 21) d_8_find_16 (by decide) (fun c9 => absurd c9 (by decide)) (fun _ => ?_)
        refine g_iloadn M_8_find d_8_find_19 (by first | rfl | assumption) ?_
        exact g_iret M_8_find d_8_find_20 rfl rfl k
  exact loop ws.length 0 (by omega) (fun j h9 => absurd h9 (Nat.not_lt_zero j)) _ rfl rfl rfl
set_option maxHeartbeats 4000000 in
set_option maxRecDepth 100000 in
theorem C_8_countOf {a la na rows width : Nat} {ws : List (List Nat)} {aw lw : Nat} {w : List Nat} {h : Hp_} {Q : Ot_ → Hp_ → Prop} (hr : rows ≤ 30) (hw : width ≤ 16) (R : wsR h a la na rows width ws) (D : wdR h aw lw w) (k : Q (.inl (some (.int (nI (ws.countP (fun x => decide (x = w))))))) h) : gG 4 160 0 0 M_8_countOf 0 (lv_args 0 [.ref a, .ref aw]) [] h Q := by
  have r0 := R.2.2.1
  have rl := R.1
  refine g_iconst M_8_countOf (v := nI 0) d_8_countOf_0 (by decide) ?_
  refine g_istoren M_8_countOf d_8_countOf_1 (by decide) (by first | rfl | (simp only [gc]; simp [*])) ?_
  refine g_iconst M_8_countOf (v := nI 0) d_8_countOf_2 (by decide) ?_
  refine g_istoren M_8_countOf d_8_countOf_3 (by decide) (by first | rfl | (simp only [gc]; simp [*])) ?_
  have loop : ∀ n p, p + n = ws.length → ∀ lv : List (Nat × Value), gl lv 0 = some (.ref a) → gl lv 1 = some (.ref aw) → gl lv 2 = some (.int (nI ((ws.take p).countP (fun x => decide (x = w))))) → gl lv 3 = some (.int (nI p)) → gG 4 160 0 0 M_8_countOf 4 lv [] h Q := by
    intro n
    induction n with
    | zero =>
      intro p hp lv H0 H1 H2 H3
      rw [List.take_of_length_le (by omega)] at H2
      refine g_iloadn M_8_countOf d_8_countOf_4 (by first | rfl | assumption) ?_
      refine g_aloadn M_8_countOf d_8_countOf_5 (by first | rfl | assumption) ?_
      refine g_get M_8_countOf d_8_countOf_6 fl_8_29 (by assumption) (by rfl) ?_
      refine g_icmp_ge M_8_countOf (tgt := 30) d_8_countOf_9 (by decide) (fun _ => ?_) (fun c => absurd (nI_le (by omega) (by omega)) c)
      refine g_iloadn M_8_countOf d_8_countOf_30 (by first | rfl | assumption) ?_
      exact g_iret M_8_countOf d_8_countOf_31 rfl rfl k
    | succ n ih =>
      intro p hp lv H0 H1 H2 H3
      have et : (ws.take (p + 1)).countP (fun x => decide (x = w)) = (ws.take p).countP (fun x => decide (x = w)) + if decide (ws.getD p [] = w) = true then 1 else 0 := by
        rw [List.take_succ, List.countP_append, List.getD_eq_getElem?_getD, List.getElem?_eq_getElem (show p < ws.length by omega)]
        simp [List.countP_cons]
      refine g_iloadn M_8_countOf d_8_countOf_4 (by first | rfl | assumption) ?_
      refine g_aloadn M_8_countOf d_8_countOf_5 (by first | rfl | assumption) ?_
      refine g_get M_8_countOf d_8_countOf_6 fl_8_29 (by assumption) (by rfl) ?_
      refine g_icmp_ge M_8_countOf (tgt := 30) d_8_countOf_9 (by decide) (fun c => absurd c (nI_ge (by omega) (by omega))) (fun _ => ?_)
      refine g_aloadn M_8_countOf d_8_countOf_12 (by first | rfl | assumption) ?_
      refine g_iloadn M_8_countOf d_8_countOf_13 (by first | rfl | assumption) ?_
      refine g_aloadn M_8_countOf d_8_countOf_14 (by first | rfl | assumption) ?_
      refine gc_V M_8_countOf 0 0 [.int (nI p), .ref aw] [] d_8_countOf_15 cv_8_79 r0 (by rfl) (by rfl) (Nat.le_of_ble_eq_true (by rfl)) (Nat.le_of_ble_eq_true (by rfl)) (by decide) (by decide) (by decide) (by decide) (C_8_isSame hr hw R (by omega) D ?_)
      show gG _ _ _ _ _ _ _ _ _ _
      cases e : decide (ws.getD p [] = w) with
      | false =>
        rw [e, if_neg (by decide)] at et
        refine g_if_eq M_8_countOf (tgt := 24) d_8_countOf_18 (by decide) (fun _ => ?_) (fun c9 => absurd rfl c9)
        refine g_iinc M_8_countOf (v := nI (p + 1)) d_8_countOf_24 H3 (by decide) (by first | rfl | (simp only [gc]; simp [*])) (nI_add p 1) ?_
        refine g_goto M_8_countOf (tgt := 4) d_8_countOf_27 (by decide) ?_
        exact ih (p + 1) (by omega) _ H0 H1 (by rw [et]; exact H2) rfl
      | true =>
        rw [e, if_pos rfl] at et
        refine g_if_eq M_8_countOf (tgt := 24) d_8_countOf_18 (by decide) (fun c9 => absurd c9 (by decide)) (fun _ => ?_)
        refine g_iinc M_8_countOf (v := nI ((ws.take p).countP (fun x => decide (x = w)) + 1)) d_8_countOf_21 H2 (by decide) (by first | rfl | (simp only [gc]; simp [*])) (nI_add _ 1) ?_
        refine g_iinc M_8_countOf (v := nI (p + 1)) d_8_countOf_24 H3 (by decide) (by first | rfl | (simp only [gc]; simp [*])) (nI_add p 1) ?_
        refine g_goto M_8_countOf (tgt := 4) d_8_countOf_27 (by decide) ?_
        exact ih (p + 1) (by omega) _ H0 H1 (by rw [et]; rfl) rfl
  exact loop ws.length 0 (by omega) _ rfl rfl rfl rfl
end
section
/-! ===== closing gaps; Words.remove ===== -/
theorem nm_erase {h' : Hp_} {a n i : Nat} {xs : List Int32} {g g' : Nat → Int32} (hl : xs.length ≤ n) (hi : i < xs.length) (hg : ∀ j, j < xs.length → g j = xs.getD j 0) (hg' : ∀ j, g' j = if i ≤ j ∧ j < n - 1 then g (j + 1) else g j) (v : h' a = some (.inl (false, .int, (n, .inl g')))) : nmR h' a n (xs.eraseIdx i) := by
  have hll : (xs.eraseIdx i).length = xs.length - 1 := by rw [List.length_eraseIdx, if_pos hi]
  refine ⟨by omega, g', v, fun j hj => ?_⟩
  rw [hll] at hj
  rw [hg' j, List.getD_eq_getElem?_getD, List.getElem?_eraseIdx]
  by_cases q : j < i
  · rw [if_neg (by omega), if_pos q, hg j (by omega), List.getD_eq_getElem?_getD]
  · rw [if_pos (by omega), if_neg q, hg (j + 1) (by omega), List.getD_eq_getElem?_getD]
theorem er_get {ws : List (List Nat)} {i j : Nat} : (ws.eraseIdx i).getD j [] = if j < i then ws.getD j [] else ws.getD (j + 1) [] := by
  rw [List.getD_eq_getElem?_getD, List.getElem?_eraseIdx]
  split <;> rw [List.getD_eq_getElem?_getD]

set_option maxHeartbeats 4000000 in
set_option maxRecDepth 100000 in
theorem C_9_closeGap {a n i : Nat} {f : Nat → Int32} {h : Hp_} {Q : Ot_ → Hp_ → Prop} (hn : n < 2 ^ 31) (hi : i < n) (h1 : h a = some (.inl (false, .int, (n, .inl f)))) (k : ∀ h' f', gExt h h' [a] [] → h' a = some (.inl (false, .int, (n, .inl f'))) → (∀ j, f' j = if i ≤ j ∧ j < n - 1 then f (j + 1) else f j) → Q (.inl none) h') : gG 1 60 0 0 M_9_closeGap 0 (lv_args 0 [.ref a, .int (nI i)]) [] h Q := by
  refine g_iconst M_9_closeGap (v := nI 0) d_9_closeGap_0 (by decide) ?_
  refine g_iloadn M_9_closeGap d_9_closeGap_1 (by first | rfl | assumption) ?_
  refine g_max M_9_closeGap d_9_closeGap_2 mm_9_304 mm_max_s mm_i mm_max_c (Nat.le_of_ble_eq_true (by rfl)) (Nat.le_of_ble_eq_true (by rfl)) ?_
  have em : (if nI 0 < nI i then nI i else nI 0) = nI i := by
    by_cases q : 0 < i
    · rw [if_pos (nI_lt q (by omega))]
    · have : i = 0 := by omega
      subst this
      rfl
  rw [em]
  refine g_istoren M_9_closeGap d_9_closeGap_5 (by decide) (by first | rfl | (simp only [gc]; simp [*])) ?_
  have loop : ∀ t p, p + t = n - 1 → i ≤ p → ∀ (h2 : Hp_) (f2 : Nat → Int32) (lv : List (Nat × Value)), gExt h h2 [a] [] → h2 a = some (.inl (false, .int, (n, .inl f2))) → (∀ j, f2 j = if i ≤ j ∧ j < p then f (j + 1) else f j) → gl lv 0 = some (.ref a) → gl lv 1 = some (.int (nI i)) → gl lv 2 = some (.int (nI p)) → gG 1 60 0 0 M_9_closeGap 6 lv [] h2 Q := by
    intro t
    induction t with
    | zero =>
      intro p hp hip h2 f2 lv e2 w2 F H0 H1 H2
      refine g_iloadn M_9_closeGap d_9_closeGap_6 (by first | rfl | assumption) ?_
      refine g_aloadn M_9_closeGap d_9_closeGap_7 (by first | rfl | assumption) ?_
      refine g_alen M_9_closeGap d_9_closeGap_8 (by assumption) ?_
      refine g_iconst M_9_closeGap (v := nI 1) d_9_closeGap_9 (by decide) ?_
      refine g_isub M_9_closeGap d_9_closeGap_10 ?_
      rw [nI_sub (by omega)]
      refine g_icmp_ge M_9_closeGap (tgt := 28) d_9_closeGap_11 (by decide) (fun _ => ?_) (fun c => absurd (nI_le (by omega) (by omega)) c)
      exact g_vret M_9_closeGap d_9_closeGap_28 rfl (k h2 f2 e2 w2 (fun j => by rw [F j, show p = n - 1 by omega]))
    | succ t ih =>
      intro p hp hip h2 f2 lv e2 w2 F H0 H1 H2
      refine g_iloadn M_9_closeGap d_9_closeGap_6 (by first | rfl | assumption) ?_
      refine g_aloadn M_9_closeGap d_9_closeGap_7 (by first | rfl | assumption) ?_
      refine g_alen M_9_closeGap d_9_closeGap_8 (by assumption) ?_
      refine g_iconst M_9_closeGap (v := nI 1) d_9_closeGap_9 (by decide) ?_
      refine g_isub M_9_closeGap d_9_closeGap_10 ?_
      rw [nI_sub (by omega)]
      refine g_icmp_ge M_9_closeGap (tgt := 28) d_9_closeGap_11 (by decide) (fun c => absurd c (nI_ge (by omega) (by omega))) (fun _ => ?_)
      refine g_aloadn M_9_closeGap d_9_closeGap_14 (by first | rfl | assumption) ?_
      refine g_iloadn M_9_closeGap d_9_closeGap_15 (by first | rfl | assumption) ?_
      refine g_aloadn M_9_closeGap d_9_closeGap_16 (by first | rfl | assumption) ?_
      refine g_iloadn M_9_closeGap d_9_closeGap_17 (by first | rfl | assumption) ?_
      refine g_iconst M_9_closeGap (v := nI 1) d_9_closeGap_18 (by decide) ?_
      refine g_iadd M_9_closeGap d_9_closeGap_19 ?_
      rw [nI_add]
      refine g_iaload M_9_closeGap d_9_closeGap_20 w2 (vp_in_nI (by omega) (by omega)) ?_
      refine e_ias M_9_closeGap d_9_closeGap_21 w2 (vp_in_nI (by omega) (by omega)) (fun h3 w3 e3 => ?_)
      rw [nI_cl (by omega), nI_cl (by omega)] at w3
      refine g_iinc M_9_closeGap (v := nI (p + 1)) d_9_closeGap_22 H2 (by decide) (by first | rfl | (simp only [gc]; simp [*])) (nI_add p 1) ?_
      refine g_goto M_9_closeGap (tgt := 6) d_9_closeGap_25 (by decide) ?_
      refine ih (p + 1) (by omega) (by omega) h3 _ _ (by simpa using e2.trans e3 (by simp)) w3 (fun j => ?_) H0 H1 rfl
      unfold upd
      split
      · rename_i q
        subst q
        rw [if_pos ⟨hip, by omega⟩, F (j + 1), if_neg (by omega)]
      · rw [F j]
        by_cases z : i ≤ j ∧ j < p
        · rw [if_pos z, if_pos ⟨z.1, by omega⟩]
        · rw [if_neg z, if_neg (by omega)]
  exact loop (n - 1 - i) i (by omega) (Nat.le_refl _) h f _ (gExt.refl.weak (by simp)) h1 (fun j => by rw [if_neg (by omega)]) rfl rfl rfl
set_option maxHeartbeats 4000000 in
set_option maxRecDepth 100000 in
theorem C_8_remove {a la na rows width : Nat} {ws : List (List Nat)} {i : Nat} {h : Hp_} {Q : Ot_ → Hp_ → Prop} (hr : rows ≤ 30) (hw : width ≤ 16) (hi : i < ws.length) (n1 : a ≠ la) (n2 : a ≠ na) (n3 : la ≠ na) (R : wsR h a la na rows width ws) (k : ∀ h', gExt h h' [a, la, na] [] → wsR h' a la na rows width (ws.eraseIdx i) → Q (.inl none) h') : gG 2 100 0 0 M_8_remove 0 (lv_args 0 [.ref a, .int (nI i)]) [] h Q := by
  obtain ⟨p1, p2, p3, f, g, p4, p5, p6, p7⟩ := id R
  have b1 : rows * width ≤ 480 := Nat.le_trans (Nat.mul_le_mul hr hw) (by decide)
  have b2 : i * width + width ≤ rows * width := nI_mulbd (by omega)
  have ix : nI i * nI width = nI (i * width) := (Int32.ofNat_mul i width).symm
  refine g_iloadn M_8_remove d_8_remove_0 (by first | rfl | assumption) ?_
  refine g_if_lt M_8_remove (tgt := 12) d_8_remove_1 (by decide) (fun c => absurd c (nI_pos (by omega))) (fun _ => ?_)
  refine g_iloadn M_8_remove d_8_remove_4 (by first | rfl | assumption) ?_
  refine g_aloadn M_8_remove d_8_remove_5 (by first | rfl | assumption) ?_
  refine g_get M_8_remove d_8_remove_6 fl_8_29 (by assumption) (by rfl) ?_
  refine g_icmp_lt M_8_remove (tgt := 13) d_8_remove_9 (by decide) (fun _ => ?_) (fun c => absurd (nI_lt hi (by omega)) c)
  refine g_iloadn M_8_remove d_8_remove_13 (by first | rfl | assumption) ?_
  refine g_aloadn M_8_remove d_8_remove_14 (by first | rfl | assumption) ?_
  refine g_get M_8_remove d_8_remove_15 fl_8_15 (by assumption) (by rfl) ?_
  refine g_imul M_8_remove d_8_remove_18 ?_
  rw [ix]
  refine g_istoren M_8_remove d_8_remove_19 (by decide) (by first | rfl | (simp only [gc]; simp [*])) ?_
  have fin : ∀ (h2 : Hp_) (f2 : Nat → Int32) (lv : List (Nat × Value)), gExt h h2 [la] [] → h2 la = some (.inl (false, .char, (rows * width, .inl f2))) → (∀ q, f2 q = if i * width ≤ q ∧ q < rows * width - width then f (q + width) else f q) → gl lv 0 = some (.ref a) → gl lv 1 = some (.int (nI i)) → gG 2 100 0 0 M_8_remove 61 lv [] h2 Q := by
    intro h2 f2 lv e2 w2 F H0 H1
    have u2 := e2.keep p3 (by simpa using n1)
    have g2 := e2.keep p5 (by simpa using n3.symm)
    refine g_aloadn M_8_remove d_8_remove_61 (by first | rfl | assumption) ?_
    refine g_get M_8_remove d_8_remove_62 fl_8_25 (by assumption) (by rfl) ?_
    refine g_iloadn M_8_remove d_8_remove_65 (by first | rfl | assumption) ?_
    refine gc_N M_8_remove 0 0 [.ref na, .int (nI i)] [] d_8_remove_66 cn_8_53 (by rfl) (by rfl) (Nat.le_of_ble_eq_true (by rfl)) (Nat.le_of_ble_eq_true (by rfl)) (by decide) (by decide) (by decide) (by decide) (C_9_closeGap (by omega) (by omega) g2 (fun h3 g' e3 v3 G => ?_))
    have u3 := e3.keep u2 (by simpa using n2)
    have w3 := e3.keep w2 (by simpa using n3)
    show gG _ _ _ _ _ _ _ _ _ _
    refine g_aloadn M_8_remove d_8_remove_69 (by first | rfl | assumption) ?_
    refine g_dup M_8_remove d_8_remove_70 (by rfl) ?_
    refine g_get M_8_remove d_8_remove_71 fl_8_29 (by assumption) (by rfl) ?_
    refine g_iconst M_8_remove (v := nI 1) d_8_remove_74 (by decide) ?_
    refine g_isub M_8_remove d_8_remove_75 ?_
    rw [nI_sub (by omega)]
    refine e_put M_8_remove d_8_remove_76 pt_8_29 u3 (by rfl) (by rfl) (fun h4 v4 e4 => ?_)
    have hll : (ws.eraseIdx i).length = ws.length - 1 := by rw [List.length_eraseIdx, if_pos hi]
    have t := ((e2.weak (S' := [a, la, na]) (by simp)).trans e3 (by simp)).trans e4 (by simp)
    refine g_vret M_8_remove d_8_remove_79 rfl (k h4 (by simpa using t) ⟨by omega, fun w hw9 => p2 w (List.mem_of_mem_eraseIdx hw9), by rw [hll]; exact v4, f2, g', e4.keep w3 (by simpa using n1.symm), e4.keep v3 (by simpa using n2.symm), fun j hj => ?_, fun r hr9 => ?_⟩)
    · rw [F j]
      split
      · exact p6 _ (by omega)
      · exact p6 _ hj
    · rw [hll] at hr9
      rw [er_get]
      have b9 : r * width + width ≤ rows * width := nI_mulbd (by omega)
      by_cases q : r < i
      · rw [if_pos q]
        have b8 : r * width + width ≤ i * width := by
          have := Nat.mul_le_mul_right width (show r + 1 ≤ i by omega)
          rw [Nat.add_mul, Nat.one_mul] at this
          exact this
        refine ⟨by rw [G r, if_neg (by omega)]; exact (p7 r (by omega)).1, fun j hj => ?_⟩
        have hjw : j < width := Nat.lt_of_lt_of_le hj (wd_get p2).1
        rw [F _, if_neg (by omega)]
        exact (p7 r (by omega)).2 j hj
      · rw [if_neg q]
        have b8 : i * width ≤ r * width := Nat.mul_le_mul_right width (by omega)
        have b7 : (r + 1) * width + width ≤ rows * width := nI_mulbd (by omega)
        have b6 : (r + 1) * width = r * width + width := by rw [Nat.add_mul, Nat.one_mul]
        refine ⟨by rw [G r, if_pos (by omega)]; exact (p7 (r + 1) (by omega)).1, fun j hj => ?_⟩
        have hjw : j < width := Nat.lt_of_lt_of_le hj (wd_get p2).1
        rw [F _, if_pos (by omega), show r * width + j + width = (r + 1) * width + j by omega]
        exact (p7 (r + 1) (by omega)).2 j hj
  have loop : ∀ t p, p + t = rows * width - width → i * width ≤ p → ∀ (h2 : Hp_) (f2 : Nat → Int32) (lv : List (Nat × Value)), gExt h h2 [la] [] → h2 la = some (.inl (false, .char, (rows * width, .inl f2))) → (∀ q, f2 q = if i * width ≤ q ∧ q < p then f (q + width) else f q) → gl lv 0 = some (.ref a) → gl lv 1 = some (.int (nI i)) → gl lv 2 = some (.int (nI p)) → gG 2 100 0 0 M_8_remove 20 lv [] h2 Q := by
    intro t
    induction t with
    | zero =>
      intro p hp hip h2 f2 lv e2 w2 F H0 H1 H2
      have u2 := e2.keep p3 (by simpa using n1)
      refine g_iloadn M_8_remove d_8_remove_20 (by first | rfl | assumption) ?_
      refine g_aloadn M_8_remove d_8_remove_21 (by first | rfl | assumption) ?_
      refine g_get M_8_remove d_8_remove_22 fl_8_21 (by assumption) (by rfl) ?_
      refine g_alen M_8_remove d_8_remove_25 (by assumption) ?_
      refine g_aloadn M_8_remove d_8_remove_26 (by first | rfl | assumption) ?_
      refine g_get M_8_remove d_8_remove_27 fl_8_15 (by assumption) (by rfl) ?_
      refine g_isub M_8_remove d_8_remove_30 ?_
      rw [nI_sub (by omega)]
      refine g_icmp_ge M_8_remove (tgt := 61) d_8_remove_31 (by decide) (fun _ => ?_) (fun c => absurd (nI_le (by omega) (by omega)) c)
      exact fin h2 f2 lv e2 w2 (fun q => by rw [F q, show p = rows * width - width by omega]) H0 H1
    | succ t ih =>
      intro p hp hip h2 f2 lv e2 w2 F H0 H1 H2
      have u2 := e2.keep p3 (by simpa using n1)
      refine g_iloadn M_8_remove d_8_remove_20 (by first | rfl | assumption) ?_
      refine g_aloadn M_8_remove d_8_remove_21 (by first | rfl | assumption) ?_
      refine g_get M_8_remove d_8_remove_22 fl_8_21 (by assumption) (by rfl) ?_
      refine g_alen M_8_remove d_8_remove_25 (by assumption) ?_
      refine g_aloadn M_8_remove d_8_remove_26 (by first | rfl | assumption) ?_
      refine g_get M_8_remove d_8_remove_27 fl_8_15 (by assumption) (by rfl) ?_
      refine g_isub M_8_remove d_8_remove_30 ?_
      rw [nI_sub (by omega)]
      refine g_icmp_ge M_8_remove (tgt := 61) d_8_remove_31 (by decide) (fun c => absurd c (nI_ge (by omega) (by omega))) (fun _ => ?_)
      refine g_iloadn M_8_remove d_8_remove_34 (by first | rfl | assumption) ?_
      refine g_if_lt M_8_remove (tgt := 55) d_8_remove_35 (by decide) (fun c => absurd c (nI_pos (by omega))) (fun _ => ?_)
      refine g_aloadn M_8_remove d_8_remove_38 (by first | rfl | assumption) ?_
      refine g_get M_8_remove d_8_remove_39 fl_8_21 (by assumption) (by rfl) ?_
      refine g_iloadn M_8_remove d_8_remove_42 (by first | rfl | assumption) ?_
      refine g_aloadn M_8_remove d_8_remove_43 (by first | rfl | assumption) ?_
      refine g_get M_8_remove d_8_remove_44 fl_8_21 (by assumption) (by rfl) ?_
      refine g_iloadn M_8_remove d_8_remove_47 (by first | rfl | assumption) ?_
      refine g_aloadn M_8_remove d_8_remove_48 (by first | rfl | assumption) ?_
      refine g_get M_8_remove d_8_remove_49 fl_8_15 (by assumption) (by rfl) ?_
      refine g_iadd M_8_remove d_8_remove_52 ?_
      rw [nI_add]
      refine g_caload M_8_remove d_8_remove_53 w2 (vp_in_nI (by omega) (by omega)) ?_
      have fc : gCh (f2 (nI (p + width)).toNatClampNeg) := by
        rw [nI_cl (by omega), F _]
        split
        · exact p6 _ (by omega)
        · exact p6 _ (by omega)
      refine e_cas M_8_remove d_8_remove_54 w2 (vp_in_nI (by omega) (by omega)) (gCh_n fc) (fun h3 w3 e3 => ?_)
      rw [nI_cl (by omega), nI_cl (by omega)] at w3
      refine g_iinc M_8_remove (v := nI (p + 1)) d_8_remove_55 H2 (by decide) (by first | rfl | (simp only [gc]; simp [*])) (nI_add p 1) ?_
      refine g_goto M_8_remove (tgt := 20) d_8_remove_58 (by decide) ?_
      refine ih (p + 1) (by omega) (by omega) h3 _ _ (by simpa using e2.trans e3 (by simp)) w3 (fun j => ?_) H0 H1 rfl
      unfold upd
      split
      · rename_i q
        subst q
        rw [if_pos ⟨hip, by omega⟩, F (j + width)]
        split
        · rename_i z
          exact absurd z.2 (by omega)
        · rfl
      · rw [F j]
        by_cases z : i * width ≤ j ∧ j < p
        · rw [if_pos z, if_pos ⟨z.1, by omega⟩]
        · rw [if_neg z, if_neg (by omega)]
  exact loop (rows * width - width - i * width) (i * width) (by omega) (Nat.le_refl _) h f _ (gExt.refl.weak (by simp)) p4 (fun j => by rw [if_neg (by omega)]) rfl rfl rfl
end
section
/-! ===== dies: fits, choose, press, reverse, remove ===== -/
def vow (x : Nat) : Bool := x == 97 || x == 101 || x == 105 || x == 111 || x == 117
def mC (c : Int32) (e w : List Nat) : Bool := decide (c = 0) || (decide (e.length + 1 ≤ w.length) && (vow (w.getD (w.length - (e.length + 1)) 0) == decide (c = nI 2)))
def fitD (v : Dl_) (d : Nat) (w : List Nat) : Bool := eW (v.1.getD d []) w && mC (v.2.2.getD d 0) (v.1.getD d []) w
def chG (v : Dl_) (w : List Nat) : Nat → Nat
  | 0 => 0
  | k + 1 => if (v.1.getD (chG v w k) []).length ≤ (v.1.getD (k + 1) []).length ∧ fitD v (k + 1) w = true then k + 1 else chG v w k
def chD (v : Dl_) (w : List Nat) : Nat := chG v w (v.1.length - 1)
def prD (v : Dl_) (d : Nat) (w : List Nat) : List Nat := w.take (w.length - (v.1.getD d []).length) ++ v.2.1.getD d []
def rvD (v : Dl_) (d : Nat) (w : List Nat) : List Nat := w.take (w.length - (v.2.1.getD d []).length) ++ v.1.getD d []
theorem chG_lt {v : Dl_} {w : List Nat} {k : Nat} : chG v w k ≤ k := by
  induction k with
  | zero => exact Nat.le_refl _
  | succ k ih =>
    unfold chG
    split
    · exact Nat.le_refl _
    · omega
theorem nI_sub1 {a b : Nat} : nI a - nI b - nI 1 = nI a - nI (b + 1) := by
  rw [← nI_add]
  generalize nI a = x
  generalize nI b = y
  generalize nI 1 = z
  rw [Int32.sub_eq_add_neg, Int32.sub_eq_add_neg, Int32.sub_eq_add_neg, Int32.neg_add, Int32.add_assoc, Int32.sub_eq_add_neg]

set_option maxHeartbeats 4000000 in
set_option maxRecDepth 100000 in
theorem C_0_isVowel {c : Nat} {h : Hp_} {Q : Ot_ → Hp_ → Prop} (hc : c < 65536) (k : Q (.inl (some (.int (bI (vow c))))) h) : gG 1 60 0 0 M_0_isVowel 0 (lv_args 0 [.int (nI c)]) [] h Q := by
  have q : ∀ n, n < 65536 → nI c = nI n → c = n := fun n hn e => (nI_eq (by omega) (by omega)).mp e
  have yes : vow c = true → gG 1 60 0 0 M_0_isVowel 30 (lv_args 0 [.int (nI c)]) [] h Q := by
    intro e
    rw [e] at k
    refine g_iconst M_0_isVowel (v := nI 1) d_0_isVowel_30 (by decide) ?_
    refine g_goto M_0_isVowel (tgt := 35) d_0_isVowel_31 (by decide) ?_
    exact g_iret M_0_isVowel d_0_isVowel_35 rfl (by decide) k
  refine g_iloadn M_0_isVowel d_0_isVowel_0 (by first | rfl | assumption) ?_
  refine g_bipush M_0_isVowel (v := nI 97) d_0_isVowel_1 (by decide) ?_
  refine g_icmp_eq M_0_isVowel (tgt := 30) d_0_isVowel_3 (by decide) (fun e => yes (by rw [q 97 (by decide) e]; rfl)) (fun n1 => ?_)
  refine g_iloadn M_0_isVowel d_0_isVowel_6 (by first | rfl | assumption) ?_
  refine g_bipush M_0_isVowel (v := nI 101) d_0_isVowel_7 (by decide) ?_
  refine g_icmp_eq M_0_isVowel (tgt := 30) d_0_isVowel_9 (by decide) (fun e => yes (by rw [q 101 (by decide) e]; rfl)) (fun n2 => ?_)
  refine g_iloadn M_0_isVowel d_0_isVowel_12 (by first | rfl | assumption) ?_
  refine g_bipush M_0_isVowel (v := nI 105) d_0_isVowel_13 (by decide) ?_
  refine g_icmp_eq M_0_isVowel (tgt := 30) d_0_isVowel_15 (by decide) (fun e => yes (by rw [q 105 (by decide) e]; rfl)) (fun n3 => ?_)
  refine g_iloadn M_0_isVowel d_0_isVowel_18 (by first | rfl | assumption) ?_
  refine g_bipush M_0_isVowel (v := nI 111) d_0_isVowel_19 (by decide) ?_
  refine g_icmp_eq M_0_isVowel (tgt := 30) d_0_isVowel_21 (by decide) (fun e => yes (by rw [q 111 (by decide) e]; rfl)) (fun n4 => ?_)
  refine g_iloadn M_0_isVowel d_0_isVowel_24 (by first | rfl | assumption) ?_
  refine g_bipush M_0_isVowel (v := nI 117) d_0_isVowel_25 (by decide) ?_
  refine g_icmp_ne M_0_isVowel (tgt := 34) d_0_isVowel_27 (by decide) (fun n5 => ?_) (fun e => yes (by rw [q 117 (by decide) e]; rfl))
  have no : vow c = false := by
    have e1 : c ≠ 97 := fun e => n1 (by rw [e])
    have e2 : c ≠ 101 := fun e => n2 (by rw [e])
    have e3 : c ≠ 105 := fun e => n3 (by rw [e])
    have e4 : c ≠ 111 := fun e => n4 (by rw [e])
    have e5 : c ≠ 117 := fun e => n5 (by rw [e])
    simp [vow, e1, e2, e3, e4, e5]
  rw [no] at k
  refine g_iconst M_0_isVowel (v := nI 0) d_0_isVowel_34 (by decide) ?_
  exact g_iret M_0_isVowel d_0_isVowel_35 rfl (by decide) k
set_option maxHeartbeats 4000000 in
set_option maxRecDepth 100000 in
theorem C_0_meets {r : Nat → Nat} {v : Dl_} {d aw lw : Nat} {w : List Nat} {h : Hp_} {Q : Ot_ → Hp_ → Prop} (D : diR h r v) (hd : d < v.1.length) (W : wdR h aw lw w) (k : Q (.inl (some (.int (bI (mC (v.2.2.getD d 0) (v.1.getD d []) w))))) h) : gG 2 110 0 0 M_0_meetsCondition 0 (lv_args 0 [.ref (r 0), .int (nI d), .ref aw]) [] h Q := by
  obtain ⟨v0, E, A9, ⟨cl, g, g1, g2⟩, l1, l2⟩ := id D
  have el := E.1
  have w0 := W.2.1
  have wl := W.1.1
  have bl := (wd_get (i := d) E.2.1).1
  refine g_iloadn M_0_meetsCondition d_0_meetsCondition_0 (by first | rfl | assumption) ?_
  refine g_if_lt M_0_meetsCondition (tgt := 22) d_0_meetsCondition_1 (by decide) (fun c => absurd c (nI_pos (by omega))) (fun _ => ?_)
  refine g_iloadn M_0_meetsCondition d_0_meetsCondition_4 (by first | rfl | assumption) ?_
  refine g_aloadn M_0_meetsCondition d_0_meetsCondition_5 (by first | rfl | assumption) ?_
  refine g_get M_0_meetsCondition d_0_meetsCondition_6 fl_0_23 (by assumption) (by rfl) ?_
  refine g_alen M_0_meetsCondition d_0_meetsCondition_9 (by assumption) ?_
  refine g_icmp_ge M_0_meetsCondition (tgt := 22) d_0_meetsCondition_10 (by decide) (fun c => absurd c (nI_ge (by omega) (by omega))) (fun _ => ?_)
  refine g_aloadn M_0_meetsCondition d_0_meetsCondition_13 (by first | rfl | assumption) ?_
  refine g_get M_0_meetsCondition d_0_meetsCondition_14 fl_0_23 (by assumption) (by rfl) ?_
  refine g_iloadn M_0_meetsCondition d_0_meetsCondition_17 (by first | rfl | assumption) ?_
  refine g_iaload M_0_meetsCondition d_0_meetsCondition_18 g1 (vp_in_nI (by omega) (by decide)) ?_
  rw [nI_cl (by omega), g2 d (by omega)]
  refine g_goto M_0_meetsCondition (tgt := 23) d_0_meetsCondition_19 (by decide) ?_
  refine g_istoren M_0_meetsCondition d_0_meetsCondition_23 (by decide) (by first | rfl | (simp only [gc]; simp [*])) ?_
  refine g_aloadn M_0_meetsCondition d_0_meetsCondition_24 (by first | rfl | assumption) ?_
  refine gc_V M_0_meetsCondition 0 0 [] [] d_0_meetsCondition_25 cv_0_51 w0 (by rfl) (by rfl) (Nat.le_of_ble_eq_true (by rfl)) (Nat.le_of_ble_eq_true (by rfl)) (by decide) (by decide) (by decide) (by decide) (C_7_length w0 ?_)
  show gG _ _ _ _ _ _ _ _ _ _
  refine g_aloadn M_0_meetsCondition d_0_meetsCondition_28 (by first | rfl | assumption) ?_
  refine g_get M_0_meetsCondition d_0_meetsCondition_29 fl_0_14 (by assumption) (by rfl) ?_
  refine g_iloadn M_0_meetsCondition d_0_meetsCondition_32 (by first | rfl | assumption) ?_
  refine gc_V M_0_meetsCondition 0 0 [.int (nI d)] [_] d_0_meetsCondition_33 cv_0_56 E.2.2.1 (by rfl) (by rfl) (Nat.le_of_ble_eq_true (by rfl)) (Nat.le_of_ble_eq_true (by rfl)) (by decide) (by decide) (by decide) (by decide) (C_8_lengthOf (by decide) E (by omega) ?_)
  show gG _ _ _ _ _ _ _ _ _ _
  refine g_isub M_0_meetsCondition d_0_meetsCondition_36 ?_
  refine g_iconst M_0_meetsCondition (v := nI 1) d_0_meetsCondition_37 (by decide) ?_
  refine g_isub M_0_meetsCondition d_0_meetsCondition_38 ?_
  rw [nI_sub1]
  refine g_istore M_0_meetsCondition d_0_meetsCondition_39 (by decide) (by first | rfl | (simp only [gc]; simp [*])) ?_
  refine g_iloadn M_0_meetsCondition d_0_meetsCondition_41 (by first | rfl | assumption) ?_
  by_cases c0 : v.2.2.getD d 0 = 0
  · refine g_if_ne M_0_meetsCondition (tgt := 47) d_0_meetsCondition_42 (by decide) (fun c => absurd c0 c) (fun _ => ?_)
    have ef : mC (v.2.2.getD d 0) (v.1.getD d []) w = true := by unfold mC; rw [decide_eq_true c0]; rfl
    rw [ef] at k
    refine g_iconst M_0_meetsCondition (v := nI 1) d_0_meetsCondition_45 (by decide) ?_
    exact g_iret M_0_meetsCondition d_0_meetsCondition_46 rfl (by decide) k
  refine g_if_ne M_0_meetsCondition (tgt := 47) d_0_meetsCondition_42 (by decide) (fun _ => ?_) (fun c => absurd c c0)
  by_cases ql : (v.1.getD d []).length + 1 ≤ w.length
  rotate_left
  · have ef : mC (v.2.2.getD d 0) (v.1.getD d []) w = false := by unfold mC; rw [decide_eq_false c0, decide_eq_false ql]; rfl
    rw [ef] at k
    refine g_iload M_0_meetsCondition d_0_meetsCondition_47 (by first | rfl | assumption) ?_
    refine g_if_lt M_0_meetsCondition (tgt := 78) d_0_meetsCondition_49 (by decide) (fun _ => ?_) (fun c => absurd (nI_subneg (by omega) (by omega)) c)
    refine g_iconst M_0_meetsCondition (v := nI 0) d_0_meetsCondition_78 (by decide) ?_
    exact g_iret M_0_meetsCondition d_0_meetsCondition_79 rfl (by decide) k
  have ef : mC (v.2.2.getD d 0) (v.1.getD d []) w = (vow (w.getD (w.length - ((v.1.getD d []).length + 1)) 0) == decide (v.2.2.getD d 0 = nI 2)) := by unfold mC; rw [decide_eq_false c0, decide_eq_true ql]; rfl
  rw [ef] at k
  rw [nI_sub ql]
  refine g_iload M_0_meetsCondition d_0_meetsCondition_47 (by first | rfl | assumption) ?_
  refine g_if_lt M_0_meetsCondition (tgt := 78) d_0_meetsCondition_49 (by decide) (fun c => absurd c (nI_pos (by omega))) (fun _ => ?_)
  refine g_aloadn M_0_meetsCondition d_0_meetsCondition_52 (by first | rfl | assumption) ?_
  refine g_iload M_0_meetsCondition d_0_meetsCondition_53 (by first | rfl | assumption) ?_
  refine gc_V M_0_meetsCondition 0 0 [_] [] d_0_meetsCondition_55 cv_0_60 w0 (by rfl) (by rfl) (Nat.le_of_ble_eq_true (by rfl)) (Nat.le_of_ble_eq_true (by rfl)) (by decide) (by decide) (by decide) (by decide) (C_7_letter W (by omega) ?_)
  show gG _ _ _ _ _ _ _ _ _ _
  refine gc_S M_0_meetsCondition 0 0 [_] [] d_0_meetsCondition_58 cs_0_64 (by rfl) (by rfl) (by rfl) (Nat.le_of_ble_eq_true (by rfl)) (Nat.le_of_ble_eq_true (by rfl)) (by decide) (by decide) (by decide) (by decide) (C_0_isVowel (W.1.get _) ?_)
  show gG _ _ _ _ _ _ _ _ _ _
  refine g_iloadn M_0_meetsCondition d_0_meetsCondition_61 (by first | rfl | assumption) ?_
  refine g_iconst M_0_meetsCondition (v := nI 2) d_0_meetsCondition_62 (by decide) ?_
  generalize vow (w.getD (w.length - ((v.1.getD d []).length + 1)) 0) = b at k ⊢
  by_cases c2 : v.2.2.getD d 0 = nI 2
  · rw [decide_eq_true c2] at k
    refine g_icmp_ne M_0_meetsCondition (tgt := 70) d_0_meetsCondition_63 (by decide) (fun c => absurd c2 c) (fun _ => ?_)
    refine g_iconst M_0_meetsCondition (v := nI 1) d_0_meetsCondition_66 (by decide) ?_
    refine g_goto M_0_meetsCondition (tgt := 71) d_0_meetsCondition_67 (by decide) ?_
    cases b
    · refine g_icmp_ne M_0_meetsCondition (tgt := 78) d_0_meetsCondition_71 (by decide) (fun _ => ?_) (fun c => absurd c (by decide))
      refine g_iconst M_0_meetsCondition (v := nI 0) d_0_meetsCondition_78 (by decide) ?_
      exact g_iret M_0_meetsCondition d_0_meetsCondition_79 rfl (by decide) k
    · refine g_icmp_ne M_0_meetsCondition (tgt := 78) d_0_meetsCondition_71 (by decide) (fun c => absurd rfl c) (fun _ => ?_)
      refine g_iconst M_0_meetsCondition (v := nI 1) d_0_meetsCondition_74 (by decide) ?_
      refine g_goto M_0_meetsCondition (tgt := 79) d_0_meetsCondition_75 (by decide) ?_
      exact g_iret M_0_meetsCondition d_0_meetsCondition_79 rfl (by decide) k
  · rw [decide_eq_false c2] at k
    refine g_icmp_ne M_0_meetsCondition (tgt := 70) d_0_meetsCondition_63 (by decide) (fun _ => ?_) (fun c => absurd c c2)
    refine g_iconst M_0_meetsCondition (v := nI 0) d_0_meetsCondition_70 (by decide) ?_
    cases b
    · refine g_icmp_ne M_0_meetsCondition (tgt := 78) d_0_meetsCondition_71 (by decide) (fun c => absurd rfl c) (fun _ => ?_)
      refine g_iconst M_0_meetsCondition (v := nI 1) d_0_meetsCondition_74 (by decide) ?_
      refine g_goto M_0_meetsCondition (tgt := 79) d_0_meetsCondition_75 (by decide) ?_
      exact g_iret M_0_meetsCondition d_0_meetsCondition_79 rfl (by decide) k
    · refine g_icmp_ne M_0_meetsCondition (tgt := 78) d_0_meetsCondition_71 (by decide) (fun _ => ?_) (fun c => absurd c (by decide))
      refine g_iconst M_0_meetsCondition (v := nI 0) d_0_meetsCondition_78 (by decide) ?_
      exact g_iret M_0_meetsCondition d_0_meetsCondition_79 rfl (by decide) k
set_option maxHeartbeats 4000000 in
set_option maxRecDepth 100000 in
theorem C_0_fits {r : Nat → Nat} {v : Dl_} {d aw lw : Nat} {w : List Nat} {h : Hp_} {Q : Ot_ → Hp_ → Prop} (D : diR h r v) (hd : d < v.1.length) (W : wdR h aw lw w) (k : Q (.inl (some (.int (bI (fitD v d w))))) h) : gG 3 150 0 0 M_0_fits 0 (lv_args 0 [.ref (r 0), .int (nI d), .ref aw]) [] h Q := by
  obtain ⟨v0, E, A9, -, l1, l2⟩ := id D
  have el := E.1
  refine g_aloadn M_0_fits d_0_fits_0 (by first | rfl | assumption) ?_
  refine g_get M_0_fits d_0_fits_1 fl_0_14 (by assumption) (by rfl) ?_
  refine g_iloadn M_0_fits d_0_fits_4 (by first | rfl | assumption) ?_
  refine g_aloadn M_0_fits d_0_fits_5 (by first | rfl | assumption) ?_
  refine gc_V M_0_fits 0 0 [.int (nI d), .ref aw] [] d_0_fits_6 cv_0_44 E.2.2.1 (by rfl) (by rfl) (Nat.le_of_ble_eq_true (by rfl)) (Nat.le_of_ble_eq_true (by rfl)) (by decide) (by decide) (by decide) (by decide) (C_8_isEndOf (by decide) (by decide) E (by omega) W ?_)
  show gG _ _ _ _ _ _ _ _ _ _
  cases e : eW (v.1.getD d []) w with
  | false =>
    rw [show fitD v d w = false by unfold fitD; rw [e]; rfl] at k
    refine g_if_eq M_0_fits (tgt := 25) d_0_fits_9 (by decide) (fun _ => ?_) (fun c9 => absurd rfl c9)
    refine g_iconst M_0_fits (v := nI 0) d_0_fits_25 (by decide) ?_
    exact g_iret M_0_fits d_0_fits_26 rfl (by decide) k
  | true =>
    refine g_if_eq M_0_fits (tgt := 25) d_0_fits_9 (by decide) (fun c9 => absurd c9 (by decide)) (fun _ => ?_)
    refine g_aloadn M_0_fits d_0_fits_12 (by first | rfl | assumption) ?_
    refine g_iloadn M_0_fits d_0_fits_13 (by first | rfl | assumption) ?_
    refine g_aloadn M_0_fits d_0_fits_14 (by first | rfl | assumption) ?_
    refine gc_V M_0_fits 0 0 [.int (nI d), .ref aw] [] d_0_fits_15 cv_0_48 v0 (by rfl) (by rfl) (Nat.le_of_ble_eq_true (by rfl)) (Nat.le_of_ble_eq_true (by rfl)) (by decide) (by decide) (by decide) (by decide) (C_0_meets D hd W ?_)
    show gG _ _ _ _ _ _ _ _ _ _
    cases e2 : mC (v.2.2.getD d 0) (v.1.getD d []) w with
    | false =>
      rw [show fitD v d w = false by unfold fitD; rw [e, e2]; rfl] at k
      refine g_if_eq M_0_fits (tgt := 25) d_0_fits_18 (by decide) (fun _ => ?_) (fun c9 => absurd rfl c9)
      refine g_iconst M_0_fits (v := nI 0) d_0_fits_25 (by decide) ?_
      exact g_iret M_0_fits d_0_fits_26 rfl (by decide) k
    | true =>
      rw [show fitD v d w = true by unfold fitD; rw [e, e2]; rfl] at k
      refine g_if_eq M_0_fits (tgt := 25) d_0_fits_18 (by decide) (fun c9 => absurd c9 (by decide)) (fun _ => ?_)
      refine g_iconst M_0_fits (v := nI 1) d_0_fits_21 (by decide) ?_
      refine g_goto M_0_fits (tgt := 26) d_0_fits_22 (by decide) ?_
      exact g_iret M_0_fits d_0_fits_26 rfl (by decide) k
set_option maxHeartbeats 4000000 in
set_option maxRecDepth 100000 in
theorem C_0_choose {r : Nat → Nat} {v : Dl_} {aw lw : Nat} {w : List Nat} {h : Hp_} {Q : Ot_ → Hp_ → Prop} (D : diR h r v) (hd : 0 < v.1.length) (W : wdR h aw lw w) (k : Q (.inl (some (.int (nI (chD v w))))) h) : gG 4 180 0 0 M_0_choose 0 (lv_args 0 [.ref (r 0), .ref aw]) [] h Q := by
  obtain ⟨v0, E, A9, -, l1, l2⟩ := id D
  have el := E.1
  refine g_iconst M_0_choose (v := nI 0) d_0_choose_0 (by decide) ?_
  refine g_istoren M_0_choose d_0_choose_1 (by decide) (by first | rfl | (simp only [gc]; simp [*])) ?_
  refine g_iconst M_0_choose (v := nI 1) d_0_choose_2 (by decide) ?_
  refine g_istoren M_0_choose d_0_choose_3 (by decide) (by first | rfl | (simp only [gc]; simp [*])) ?_
  have loop : ∀ n p, p + n = v.1.length - 1 → ∀ lv : List (Nat × Value), gl lv 0 = some (.ref (r 0)) → gl lv 1 = some (.ref aw) → gl lv 2 = some (.int (nI (chG v w p))) → gl lv 3 = some (.int (nI (p + 1))) → gG 4 180 0 0 M_0_choose 4 lv [] h Q := by
    intro n
    induction n with
    | zero =>
      intro p hp lv H0 H1 H2 H3
      have e : chD v w = chG v w p := by unfold chD; rw [← hp]; rfl
      rw [e] at k
      refine g_iloadn M_0_choose d_0_choose_4 (by first | rfl | assumption) ?_
      refine g_aloadn M_0_choose d_0_choose_5 (by first | rfl | assumption) ?_
      refine gc_V M_0_choose 0 0 [] [.int (nI (p + 1))] d_0_choose_6 cv_0_31 v0 (by rfl) (by rfl) (Nat.le_of_ble_eq_true (by rfl)) (Nat.le_of_ble_eq_true (by rfl)) (by decide) (by decide) (by decide) (by decide) (C_0_count D ?_)
      show gG _ _ _ _ _ _ _ _ _ _
      refine g_icmp_ge M_0_choose (tgt := 48) d_0_choose_9 (by decide) (fun _ => ?_) (fun c => absurd (nI_le (by omega) (by omega)) c)
      refine g_iloadn M_0_choose d_0_choose_48 (by first | rfl | assumption) ?_
      exact g_iret M_0_choose d_0_choose_49 rfl rfl k
    | succ n ih =>
      intro p hp lv H0 H1 H2 H3
      have cb := chG_lt (v := v) (w := w) (k := p)
      have b1 := (wd_get (i := p + 1) E.2.1).1
      have b2 := (wd_get (i := chG v w p) E.2.1).1
      refine g_iloadn M_0_choose d_0_choose_4 (by first | rfl | assumption) ?_
      refine g_aloadn M_0_choose d_0_choose_5 (by first | rfl | assumption) ?_
      refine gc_V M_0_choose 0 0 [] [.int (nI (p + 1))] d_0_choose_6 cv_0_31 v0 (by rfl) (by rfl) (Nat.le_of_ble_eq_true (by rfl)) (Nat.le_of_ble_eq_true (by rfl)) (by decide) (by decide) (by decide) (by decide) (C_0_count D ?_)
      show gG _ _ _ _ _ _ _ _ _ _
      refine g_icmp_ge M_0_choose (tgt := 48) d_0_choose_9 (by decide) (fun c => absurd c (nI_ge (by omega) (by omega))) (fun _ => ?_)
      refine g_aloadn M_0_choose d_0_choose_12 (by first | rfl | assumption) ?_
      refine g_get M_0_choose d_0_choose_13 fl_0_14 (by assumption) (by rfl) ?_
      refine g_iloadn M_0_choose d_0_choose_16 (by first | rfl | assumption) ?_
      refine gc_V M_0_choose 0 0 [.int (nI (p + 1))] [] d_0_choose_17 cv_0_56 E.2.2.1 (by rfl) (by rfl) (Nat.le_of_ble_eq_true (by rfl)) (Nat.le_of_ble_eq_true (by rfl)) (by decide) (by decide) (by decide) (by decide) (C_8_lengthOf (by decide) E (by omega) ?_)
      show gG _ _ _ _ _ _ _ _ _ _
      refine g_aloadn M_0_choose d_0_choose_20 (by first | rfl | assumption) ?_
      refine g_get M_0_choose d_0_choose_21 fl_0_14 (by assumption) (by rfl) ?_
      refine g_iloadn M_0_choose d_0_choose_24 (by first | rfl | assumption) ?_
      refine gc_V M_0_choose 0 0 [.int (nI (chG v w p))] [_] d_0_choose_25 cv_0_56 E.2.2.1 (by rfl) (by rfl) (Nat.le_of_ble_eq_true (by rfl)) (Nat.le_of_ble_eq_true (by rfl)) (by decide) (by decide) (by decide) (by decide) (C_8_lengthOf (by decide) E (by omega) ?_)
      show gG _ _ _ _ _ _ _ _ _ _
      have keepit : chG v w (p + 1) = chG v w p → ∀ lv : List (Nat × Value), gl lv 0 = some (.ref (r 0)) → gl lv 1 = some (.ref aw) → gl lv 2 = some (.int (nI (chG v w p))) → gl lv 3 = some (.int (nI (p + 1))) → gG 4 180 0 0 M_0_choose 42 lv [] h Q := by
        intro e lv H0 H1 H2 H3
        refine g_iinc M_0_choose (v := nI (p + 1 + 1)) d_0_choose_42 H3 (by decide) (by first | rfl | (simp only [gc]; simp [*])) (nI_add (p + 1) 1) ?_
        refine g_goto M_0_choose (tgt := 4) d_0_choose_45 (by decide) ?_
        exact ih (p + 1) (by omega) _ H0 H1 (by rw [e]; exact H2) rfl
      refine g_icmp_lt M_0_choose (tgt := 42) d_0_choose_28 (by decide) (fun c => ?_) (fun c => ?_)
      · rw [nI_ltI (by omega) (by omega)] at c
        exact keepit (by rw [chG, if_neg (by omega)]) lv H0 H1 H2 H3
      · rw [nI_ltI (by omega) (by omega)] at c
        refine g_aloadn M_0_choose d_0_choose_31 (by first | rfl | assumption) ?_
        refine g_iloadn M_0_choose d_0_choose_32 (by first | rfl | assumption) ?_
        refine g_aloadn M_0_choose d_0_choose_33 (by first | rfl | assumption) ?_
        refine gc_V M_0_choose 0 0 [.int (nI (p + 1)), .ref aw] [] d_0_choose_34 cv_0_68 v0 (by rfl) (by rfl) (Nat.le_of_ble_eq_true (by rfl)) (Nat.le_of_ble_eq_true (by rfl)) (by decide) (by decide) (by decide) (by decide) (C_0_fits D (by omega) W ?_)
        show gG _ _ _ _ _ _ _ _ _ _
        cases e : fitD v (p + 1) w with
        | false =>
          refine g_if_eq M_0_choose (tgt := 42) d_0_choose_37 (by decide) (fun _ => ?_) (fun c9 => absurd rfl c9)
          exact keepit (by rw [chG, if_neg (by rw [e]; simp)]) lv H0 H1 H2 H3
        | true =>
          refine g_if_eq M_0_choose (tgt := 42) d_0_choose_37 (by decide) (fun c9 => absurd c9 (by decide)) (fun _ => ?_)
          refine g_iloadn M_0_choose d_0_choose_40 (by first | rfl | assumption) ?_
          refine g_istoren M_0_choose d_0_choose_41 (by decide) (by first | rfl | (simp only [gc]; simp [*])) ?_
          refine g_iinc M_0_choose (v := nI (p + 1 + 1)) d_0_choose_42 H3 (by decide) (by first | rfl | (simp only [gc]; simp [*])) (nI_add (p + 1) 1) ?_
          refine g_goto M_0_choose (tgt := 4) d_0_choose_45 (by decide) ?_
          exact ih (p + 1) (by omega) _ H0 H1 (by rw [chG, if_pos ⟨by omega, e⟩]; rfl) rfl
  exact loop (v.1.length - 1) 0 (by omega) _ rfl rfl rfl rfl
set_option maxHeartbeats 4000000 in
set_option maxRecDepth 100000 in
theorem C_0_press {r : Nat → Nat} {v : Dl_} {d aw lw : Nat} {w : List Nat} {h : Hp_} {Q : Ot_ → Hp_ → Prop} (D : diR h r v) (hd : d < v.1.length) (W : wdR h aw lw w) (hw : w.length ≤ 12) (n0 : aw ≠ lw) (o : ∀ x, x < 8 → r x ≠ aw ∧ r x ≠ lw) (k : ∀ h', gExt h h' [aw, lw] [] → wdR h' aw lw (prD v d w) → Q (.inl none) h') : gG 3 130 0 0 M_0_press 0 (lv_args 0 [.ref (r 0), .int (nI d), .ref aw]) [] h Q := by
  obtain ⟨v0, E, A9, -, l1, l2⟩ := id D
  have el := E.1
  have bl := (wd_get (i := d) E.2.1).1
  have al := (wd_get (i := d) A9.2.1).1
  refine g_aloadn M_0_press d_0_press_0 (by first | rfl | assumption) ?_
  refine g_aloadn M_0_press d_0_press_1 (by first | rfl | assumption) ?_
  refine g_get M_0_press d_0_press_2 fl_0_14 (by assumption) (by rfl) ?_
  refine g_iloadn M_0_press d_0_press_5 (by first | rfl | assumption) ?_
  refine gc_V M_0_press 0 0 [.int (nI d)] [.ref aw] d_0_press_6 cv_0_56 E.2.2.1 (by rfl) (by rfl) (Nat.le_of_ble_eq_true (by rfl)) (Nat.le_of_ble_eq_true (by rfl)) (by decide) (by decide) (by decide) (by decide) (C_8_lengthOf (by decide) E (by omega) ?_)
  show gG _ _ _ _ _ _ _ _ _ _
  refine gc_V M_0_press 0 0 [_] [] d_0_press_9 cv_0_71 W.2.1 (by rfl) (by rfl) (Nat.le_of_ble_eq_true (by rfl)) (Nat.le_of_ble_eq_true (by rfl)) (by decide) (by decide) (by decide) (by decide) (C_7_shorten (by omega) n0.symm W (fun h1 e1 W1 => ?_))
  have v01 := e1.keep v0 (by simpa using (o 0 (by decide)).1)
  have A1 := A9.keep e1 (by simpa using (o 4 (by decide)).1) (by simpa using (o 5 (by decide)).1) (by simpa using (o 6 (by decide)).1)
  show gG _ _ _ _ _ _ _ _ _ _
  refine g_aloadn M_0_press d_0_press_12 (by first | rfl | assumption) ?_
  refine g_get M_0_press d_0_press_13 fl_0_20 (by assumption) (by rfl) ?_
  refine g_iloadn M_0_press d_0_press_16 (by first | rfl | assumption) ?_
  refine g_aloadn M_0_press d_0_press_17 (by first | rfl | assumption) ?_
  refine gc_V M_0_press 0 0 [.int (nI d), .ref aw] [] d_0_press_18 cv_0_74 A1.2.2.1 (by rfl) (by rfl) (Nat.le_of_ble_eq_true (by rfl)) (Nat.le_of_ble_eq_true (by rfl)) (by decide) (by decide) (by decide) (by decide) (C_8_appendTo (by decide) (by decide) A1 (by omega) W1 (by rw [List.length_take]; omega) n0 (fun x hx q => by simp only [List.mem_cons, List.not_mem_nil, or_false] at hx q; rcases hx with rfl | rfl | rfl <;> rcases q with q | q <;> first | exact (o _ (by decide)).1 q | exact (o _ (by decide)).2 q) (fun h2 e2 W2 => ?_))
  show gG _ _ _ _ _ _ _ _ _ _
  have t := (e1.weak (S' := [aw, lw]) (by simp)).trans e2 (fun x hx => Or.inl hx)
  exact g_vret M_0_press d_0_press_21 rfl (k h2 (by simpa using t) W2)
set_option maxHeartbeats 4000000 in
set_option maxRecDepth 100000 in
theorem C_0_reverse {r : Nat → Nat} {v : Dl_} {d aw lw : Nat} {w : List Nat} {h : Hp_} {Q : Ot_ → Hp_ → Prop} (D : diR h r v) (hd : d < v.1.length) (W : wdR h aw lw w) (hw : w.length ≤ 12) (n0 : aw ≠ lw) (o : ∀ x, x < 8 → r x ≠ aw ∧ r x ≠ lw) (kf : eW (v.2.1.getD d []) w = false → Q (.inl (some (.int 0))) h) (kt : eW (v.2.1.getD d []) w = true → ∀ h', gExt h h' [aw, lw] [] → wdR h' aw lw (rvD v d w) → Q (.inl (some (.int (bI (decide (1 ≤ (rvD v d w).length ∧ (rvD v d w).length ≤ 12)))))) h') : gG 3 130 0 0 M_0_reverse 0 (lv_args 0 [.ref (r 0), .int (nI d), .ref aw]) [] h Q := by
  obtain ⟨v0, E, A9, -, l1, l2⟩ := id D
  have el := E.1
  have bl := (wd_get (i := d) E.2.1).1
  have al := (wd_get (i := d) A9.2.1).1
  refine g_aloadn M_0_reverse d_0_reverse_0 (by first | rfl | assumption) ?_
  refine g_get M_0_reverse d_0_reverse_1 fl_0_20 (by assumption) (by rfl) ?_
  refine g_iloadn M_0_reverse d_0_reverse_4 (by first | rfl | assumption) ?_
  refine g_aloadn M_0_reverse d_0_reverse_5 (by first | rfl | assumption) ?_
  refine gc_V M_0_reverse 0 0 [.int (nI d), .ref aw] [] d_0_reverse_6 cv_0_44 A9.2.2.1 (by rfl) (by rfl) (Nat.le_of_ble_eq_true (by rfl)) (Nat.le_of_ble_eq_true (by rfl)) (by decide) (by decide) (by decide) (by decide) (C_8_isEndOf (by decide) (by decide) A9 (by omega) W ?_)
  show gG _ _ _ _ _ _ _ _ _ _
  cases e : eW (v.2.1.getD d []) w with
  | false =>
    refine g_if_ne M_0_reverse (tgt := 14) d_0_reverse_9 (by decide) (fun c9 => absurd rfl c9) (fun _ => ?_)
    refine g_iconst M_0_reverse (v := nI 0) d_0_reverse_12 (by decide) ?_
    exact g_iret M_0_reverse d_0_reverse_13 rfl (by decide) (kf e)
  | true =>
    refine g_if_ne M_0_reverse (tgt := 14) d_0_reverse_9 (by decide) (fun _ => ?_) (fun c9 => absurd c9 (by decide))
    refine g_aloadn M_0_reverse d_0_reverse_14 (by first | rfl | assumption) ?_
    refine g_aloadn M_0_reverse d_0_reverse_15 (by first | rfl | assumption) ?_
    refine g_get M_0_reverse d_0_reverse_16 fl_0_20 (by assumption) (by rfl) ?_
    refine g_iloadn M_0_reverse d_0_reverse_19 (by first | rfl | assumption) ?_
    refine gc_V M_0_reverse 0 0 [.int (nI d)] [.ref aw] d_0_reverse_20 cv_0_56 A9.2.2.1 (by rfl) (by rfl) (Nat.le_of_ble_eq_true (by rfl)) (Nat.le_of_ble_eq_true (by rfl)) (by decide) (by decide) (by decide) (by decide) (C_8_lengthOf (by decide) A9 (by omega) ?_)
    show gG _ _ _ _ _ _ _ _ _ _
    refine gc_V M_0_reverse 0 0 [_] [] d_0_reverse_23 cv_0_71 W.2.1 (by rfl) (by rfl) (Nat.le_of_ble_eq_true (by rfl)) (Nat.le_of_ble_eq_true (by rfl)) (by decide) (by decide) (by decide) (by decide) (C_7_shorten (by omega) n0.symm W (fun h1 e1 W1 => ?_))
    have v01 := e1.keep v0 (by simpa using (o 0 (by decide)).1)
    have E1 := E.keep e1 (by simpa using (o 1 (by decide)).1) (by simpa using (o 2 (by decide)).1) (by simpa using (o 3 (by decide)).1)
    show gG _ _ _ _ _ _ _ _ _ _
    refine g_aloadn M_0_reverse d_0_reverse_26 (by first | rfl | assumption) ?_
    refine g_get M_0_reverse d_0_reverse_27 fl_0_14 (by assumption) (by rfl) ?_
    refine g_iloadn M_0_reverse d_0_reverse_30 (by first | rfl | assumption) ?_
    refine g_aloadn M_0_reverse d_0_reverse_31 (by first | rfl | assumption) ?_
    refine gc_V M_0_reverse 0 0 [.int (nI d), .ref aw] [] d_0_reverse_32 cv_0_74 E1.2.2.1 (by rfl) (by rfl) (Nat.le_of_ble_eq_true (by rfl)) (Nat.le_of_ble_eq_true (by rfl)) (by decide) (by decide) (by decide) (by decide) (C_8_appendTo (by decide) (by decide) E1 (by omega) W1 (by rw [List.length_take]; omega) n0 (fun x hx q => by simp only [List.mem_cons, List.not_mem_nil, or_false] at hx q; rcases hx with rfl | rfl | rfl <;> rcases q with q | q <;> first | exact (o _ (by decide)).1 q | exact (o _ (by decide)).2 q) (fun h2 e2 W2 => ?_))
    show gG _ _ _ _ _ _ _ _ _ _
    have t := (e1.weak (S' := [aw, lw]) (by simp)).trans e2 (fun x hx => Or.inl hx)
    have t2 : gExt h h2 [aw, lw] [] := by simpa using t
    have W3 : wdR h2 aw lw (rvD v d w) := W2
    have w3 := W3.2.1
    have b3 := W3.1.1
    have k2 := kt e h2 t2 W3
    refine g_aloadn M_0_reverse d_0_reverse_35 (by first | rfl | assumption) ?_
    refine gc_V M_0_reverse 0 0 [] [] d_0_reverse_36 cv_0_51 w3 (by rfl) (by rfl) (Nat.le_of_ble_eq_true (by rfl)) (Nat.le_of_ble_eq_true (by rfl)) (by decide) (by decide) (by decide) (by decide) (C_7_length w3 ?_)
    show gG _ _ _ _ _ _ _ _ _ _
    refine g_iconst M_0_reverse (v := nI 1) d_0_reverse_39 (by decide) ?_
    by_cases q1 : 1 ≤ (rvD v d w).length
    rotate_left
    · rw [decide_eq_false (fun z => q1 z.1)] at k2
      refine g_icmp_lt M_0_reverse (tgt := 56) d_0_reverse_40 (by decide) (fun _ => ?_) (fun c => absurd (nI_lt (by omega) (by decide)) c)
      refine g_iconst M_0_reverse (v := nI 0) d_0_reverse_56 (by decide) ?_
      exact g_iret M_0_reverse d_0_reverse_57 rfl (by decide) k2
    refine g_icmp_lt M_0_reverse (tgt := 56) d_0_reverse_40 (by decide) (fun c => absurd c (nI_nlt q1 (by omega))) (fun _ => ?_)
    refine g_aloadn M_0_reverse d_0_reverse_43 (by first | rfl | assumption) ?_
    refine gc_V M_0_reverse 0 0 [] [] d_0_reverse_44 cv_0_51 w3 (by rfl) (by rfl) (Nat.le_of_ble_eq_true (by rfl)) (Nat.le_of_ble_eq_true (by rfl)) (by decide) (by decide) (by decide) (by decide) (C_7_length w3 ?_)
    show gG _ _ _ _ _ _ _ _ _ _
    refine g_bipush M_0_reverse (v := nI 12) d_0_reverse_47 (by decide) ?_
    by_cases q2 : (rvD v d w).length ≤ 12
    rotate_left
    · rw [decide_eq_false (fun z => q2 z.2)] at k2
      refine g_icmp_gt M_0_reverse (tgt := 56) d_0_reverse_49 (by decide) (fun _ => ?_) (fun c => absurd (nI_lt (by omega) (by omega)) c)
      refine g_iconst M_0_reverse (v := nI 0) d_0_reverse_56 (by decide) ?_
      exact g_iret M_0_reverse d_0_reverse_57 rfl (by decide) k2
    rw [decide_eq_true ⟨q1, q2⟩] at k2
    refine g_icmp_gt M_0_reverse (tgt := 56) d_0_reverse_49 (by decide) (fun c => absurd c (nI_nlt q2 (by decide))) (fun _ => ?_)
    refine g_iconst M_0_reverse (v := nI 1) d_0_reverse_52 (by decide) ?_
    refine g_goto M_0_reverse (tgt := 57) d_0_reverse_53 (by decide) ?_
    exact g_iret M_0_reverse d_0_reverse_57 rfl (by decide) k2
set_option maxHeartbeats 4000000 in
set_option maxRecDepth 100000 in
theorem C_0_remove {r : Nat → Nat} {v : Dl_} {d : Nat} {h : Hp_} {Q : Ot_ → Hp_ → Prop} (s : sepR r 8) (D : diR h r v) (hd : d < v.1.length) (k : ∀ h', gExt h h' ((List.range 8).map r) [] → diR h' r (v.1.eraseIdx d, v.2.1.eraseIdx d, v.2.2.eraseIdx d) → Q (.inl none) h') : gG 3 130 0 0 M_0_remove 0 (lv_args 0 [.ref (r 0), .int (nI d)]) [] h Q := by
  obtain ⟨v0, E, A9, ⟨cl, g, g1, g2⟩, l1, l2⟩ := id D
  have el := E.1
  have mr : ∀ k, k < 8 → r k ∈ (List.range 8).map r := fun k hk => List.mem_map.mpr ⟨k, List.mem_range.mpr hk, rfl⟩
  refine g_aloadn M_0_remove d_0_remove_0 (by first | rfl | assumption) ?_
  refine g_get M_0_remove d_0_remove_1 fl_0_14 (by assumption) (by rfl) ?_
  refine g_iloadn M_0_remove d_0_remove_4 (by first | rfl | assumption) ?_
  refine gc_V M_0_remove 0 0 [.int (nI d)] [] d_0_remove_5 cv_0_36 E.2.2.1 (by rfl) (by rfl) (Nat.le_of_ble_eq_true (by rfl)) (Nat.le_of_ble_eq_true (by rfl)) (by decide) (by decide) (by decide) (by decide) (C_8_remove (by decide) (by decide) hd (s.ne 1 2 (by decide) (by decide) (by decide)) (s.ne 1 3 (by decide) (by decide) (by decide)) (s.ne 2 3 (by decide) (by decide) (by decide)) E (fun h1 e1 E1 => ?_))
  have v01 := e1.keep v0 (fun q => by simp only [List.mem_cons, List.not_mem_nil, or_false] at q; rcases q with q | q | q <;> exact absurd q (s.ne _ _ (by decide) (by decide) (by decide)))
  have A1 := A9.keep e1 (fun q => by simp only [List.mem_cons, List.not_mem_nil, or_false] at q; rcases q with q | q | q <;> exact absurd q (s.ne _ _ (by decide) (by decide) (by decide))) (fun q => by simp only [List.mem_cons, List.not_mem_nil, or_false] at q; rcases q with q | q | q <;> exact absurd q (s.ne _ _ (by decide) (by decide) (by decide))) (fun q => by simp only [List.mem_cons, List.not_mem_nil, or_false] at q; rcases q with q | q | q <;> exact absurd q (s.ne _ _ (by decide) (by decide) (by decide)))
  have g11 := e1.keep g1 (fun q => by simp only [List.mem_cons, List.not_mem_nil, or_false] at q; rcases q with q | q | q <;> exact absurd q (s.ne _ _ (by decide) (by decide) (by decide)))
  show gG _ _ _ _ _ _ _ _ _ _
  refine g_aloadn M_0_remove d_0_remove_8 (by first | rfl | assumption) ?_
  refine g_get M_0_remove d_0_remove_9 fl_0_20 (by assumption) (by rfl) ?_
  refine g_iloadn M_0_remove d_0_remove_12 (by first | rfl | assumption) ?_
  refine gc_V M_0_remove 0 0 [.int (nI d)] [] d_0_remove_13 cv_0_36 A1.2.2.1 (by rfl) (by rfl) (Nat.le_of_ble_eq_true (by rfl)) (Nat.le_of_ble_eq_true (by rfl)) (by decide) (by decide) (by decide) (by decide) (C_8_remove (by decide) (by decide) (by omega) (s.ne 4 5 (by decide) (by decide) (by decide)) (s.ne 4 6 (by decide) (by decide) (by decide)) (s.ne 5 6 (by decide) (by decide) (by decide)) A1 (fun h2 e2 A2 => ?_))
  have v02 := e2.keep v01 (fun q => by simp only [List.mem_cons, List.not_mem_nil, or_false] at q; rcases q with q | q | q <;> exact absurd q (s.ne _ _ (by decide) (by decide) (by decide)))
  have E2 := E1.keep e2 (fun q => by simp only [List.mem_cons, List.not_mem_nil, or_false] at q; rcases q with q | q | q <;> exact absurd q (s.ne _ _ (by decide) (by decide) (by decide))) (fun q => by simp only [List.mem_cons, List.not_mem_nil, or_false] at q; rcases q with q | q | q <;> exact absurd q (s.ne _ _ (by decide) (by decide) (by decide))) (fun q => by simp only [List.mem_cons, List.not_mem_nil, or_false] at q; rcases q with q | q | q <;> exact absurd q (s.ne _ _ (by decide) (by decide) (by decide)))
  have g12 := e2.keep g11 (fun q => by simp only [List.mem_cons, List.not_mem_nil, or_false] at q; rcases q with q | q | q <;> exact absurd q (s.ne _ _ (by decide) (by decide) (by decide)))
  show gG _ _ _ _ _ _ _ _ _ _
  refine g_aloadn M_0_remove d_0_remove_16 (by first | rfl | assumption) ?_
  refine g_get M_0_remove d_0_remove_17 fl_0_23 (by assumption) (by rfl) ?_
  refine g_iloadn M_0_remove d_0_remove_20 (by first | rfl | assumption) ?_
  refine gc_N M_0_remove 0 0 [.ref (r 7), .int (nI d)] [] d_0_remove_21 cn_0_40 (by rfl) (by rfl) (Nat.le_of_ble_eq_true (by rfl)) (Nat.le_of_ble_eq_true (by rfl)) (by decide) (by decide) (by decide) (by decide) (C_9_closeGap (by decide) (by omega) g12 (fun h3 g' e3 v3 G => ?_))
  show gG _ _ _ _ _ _ _ _ _ _
  have f1 := e1.weak (S' := (List.range 8).map r) (fun x hx => by simp only [List.mem_cons, List.not_mem_nil, or_false] at hx; rcases hx with rfl | rfl | rfl <;> exact mr _ (by decide))
  have t := (f1.trans e2 (fun x hx => Or.inl (by simp only [List.mem_cons, List.not_mem_nil, or_false] at hx; rcases hx with rfl | rfl | rfl <;> exact mr _ (by decide)))).trans e3 (fun x hx => Or.inl (by rw [List.mem_singleton.mp hx]; exact mr 7 (by decide)))
  have N3 := nm_erase cl (by omega) g2 G v3
  refine g_vret M_0_remove d_0_remove_24 rfl (k h3 (by simpa using t) ⟨e3.keep v02 (fun q => by simp only [List.mem_cons, List.not_mem_nil, or_false] at q; rcases q with q <;> exact absurd q (s.ne _ _ (by decide) (by decide) (by decide))), E2.keep e3 (fun q => by simp only [List.mem_cons, List.not_mem_nil, or_false] at q; rcases q with q <;> exact absurd q (s.ne _ _ (by decide) (by decide) (by decide))) (fun q => by simp only [List.mem_cons, List.not_mem_nil, or_false] at q; rcases q with q <;> exact absurd q (s.ne _ _ (by decide) (by decide) (by decide))) (fun q => by simp only [List.mem_cons, List.not_mem_nil, or_false] at q; rcases q with q <;> exact absurd q (s.ne _ _ (by decide) (by decide) (by decide))), A2.keep e3 (fun q => by simp only [List.mem_cons, List.not_mem_nil, or_false] at q; rcases q with q <;> exact absurd q (s.ne _ _ (by decide) (by decide) (by decide))) (fun q => by simp only [List.mem_cons, List.not_mem_nil, or_false] at q; rcases q with q <;> exact absurd q (s.ne _ _ (by decide) (by decide) (by decide))) (fun q => by simp only [List.mem_cons, List.not_mem_nil, or_false] at q; rcases q with q <;> exact absurd q (s.ne _ _ (by decide) (by decide) (by decide))), N3, ?_, ?_⟩)
  · rw [List.length_eraseIdx, List.length_eraseIdx, if_pos (by omega), if_pos hd, l1]
  · rw [List.length_eraseIdx, List.length_eraseIdx, if_pos (by omega), if_pos hd, l2]
end
section
/-! ===== heaps as triples: mark, owner, coins ===== -/
abbrev Hn_ : Type := List (List Nat × Nat × Nat)
abbrev hx (v : Hn_) (i : Nat) : List Nat × Nat × Nat := v.getD i ([], 0, 0)
def hL (v : Hn_) : Hl_ := (v.map (fun x => x.1), v.map (fun x => nI x.2.1), v.map (fun x => nI x.2.2))
def heN (h : Hp_) (r : Nat → Nat) (v : Hn_) : Prop := heR h r (hL v) ∧ ∀ x ∈ v, x.2.1 < 2 ^ 30 ∧ x.2.2 < 2 ^ 30
theorem hx_mem {v : Hn_} {i : Nat} (h : i < v.length) : hx v i ∈ v := by
  unfold hx
  rw [List.getD_eq_getElem?_getD, List.getElem?_eq_getElem h]
  exact List.getElem_mem h
theorem hL_m {v : Hn_} {i : Nat} : (hL v).1.getD i [] = (hx v i).1 := by
  unfold hL hx
  simp only [List.getD_eq_getElem?_getD, List.getElem?_map]
  cases v[i]? <;> rfl
theorem hL_o {v : Hn_} {i : Nat} : (hL v).2.1.getD i 0 = nI (hx v i).2.1 := by
  unfold hL hx
  simp only [List.getD_eq_getElem?_getD, List.getElem?_map]
  cases v[i]? <;> rfl
theorem hL_c {v : Hn_} {i : Nat} : (hL v).2.2.getD i 0 = nI (hx v i).2.2 := by
  unfold hL hx
  simp only [List.getD_eq_getElem?_getD, List.getElem?_map]
  cases v[i]? <;> rfl
theorem hL_l {v : Hn_} : (hL v).1.length = v.length ∧ (hL v).2.1.length = v.length ∧ (hL v).2.2.length = v.length := by
  unfold hL
  exact ⟨List.length_map _, List.length_map _, List.length_map _⟩
theorem heN.le {h : Hp_} {r : Nat → Nat} {v : Hn_} (D : heN h r v) : v.length ≤ 30 := by
  have := D.1.2.1.1
  rw [hL_l.1] at this
  exact this
theorem heN.keep {h h' : Hp_} {S A : List Nat} {r : Nat → Nat} {v : Hn_} (H : heN h r v) (x : gExt h h' S A) (hs : ∀ k, k < 6 → r k ∉ S) : heN h' r v := ⟨H.1.keep x hs, H.2⟩

set_option maxHeartbeats 4000000 in
set_option maxRecDepth 100000 in
theorem C_2_isFull {r : Nat → Nat} {v : Hn_} {h : Hp_} {Q : Ot_ → Hp_ → Prop} (D : heN h r v) (k : Q (.inl (some (.int (bI (decide (30 ≤ v.length)))))) h) : gG 2 90 0 0 M_2_isFull 0 (lv_args 0 [.ref (r 0)]) [] h Q := by
  obtain ⟨v0, W1, ⟨-, g, g1, g2⟩, ⟨-, g', c1, c2⟩, -, -⟩ := id D.1
  have vl := D.le
  rw [← hL_l.1] at k
  refine g_aloadn M_2_isFull d_2_isFull_0 (by first | rfl | assumption) ?_
  refine g_get M_2_isFull d_2_isFull_1 fl_2_14 (by assumption) (by rfl) ?_
  refine gc_V M_2_isFull 0 0 [] [] d_2_isFull_4 cv_2_31 W1.2.2.1 (by rfl) (by rfl) (Nat.le_of_ble_eq_true (by rfl)) (Nat.le_of_ble_eq_true (by rfl)) (by decide) (by decide) (by decide) (by decide) (C_8_isFull W1 (by decide) ?_)
  show gG _ _ _ _ _ _ _ _ _ _
  exact g_iret M_2_isFull d_2_isFull_7 rfl (bI_n _) k
set_option maxHeartbeats 4000000 in
set_option maxRecDepth 100000 in
theorem C_2_ownerOf {r : Nat → Nat} {v : Hn_} {h : Hp_} {Q : Ot_ → Hp_ → Prop} {i : Nat} (D : heN h r v) (hi : i < v.length) (k : Q (.inl (some (.int (nI (hx v i).2.1)))) h) : gG 1 60 0 0 M_2_ownerOf 0 (lv_args 0 [.ref (r 0), .int (nI i)]) [] h Q := by
  obtain ⟨v0, W1, ⟨-, g, g1, g2⟩, ⟨-, g', c1, c2⟩, -, -⟩ := id D.1
  have vl := D.le
  refine g_iloadn M_2_ownerOf d_2_ownerOf_0 (by first | rfl | assumption) ?_
  refine g_if_lt M_2_ownerOf (tgt := 22) d_2_ownerOf_1 (by decide) (fun c => absurd c (nI_pos (by omega))) (fun _ => ?_)
  refine g_iloadn M_2_ownerOf d_2_ownerOf_4 (by first | rfl | assumption) ?_
  refine g_aloadn M_2_ownerOf d_2_ownerOf_5 (by first | rfl | assumption) ?_
  refine g_get M_2_ownerOf d_2_ownerOf_6 fl_2_20 (by assumption) (by rfl) ?_
  refine g_alen M_2_ownerOf d_2_ownerOf_9 (by assumption) ?_
  refine g_icmp_ge M_2_ownerOf (tgt := 22) d_2_ownerOf_10 (by decide) (fun c => absurd c (nI_ge (by omega) (by decide))) (fun _ => ?_)
  refine g_aloadn M_2_ownerOf d_2_ownerOf_13 (by first | rfl | assumption) ?_
  refine g_get M_2_ownerOf d_2_ownerOf_14 fl_2_20 (by assumption) (by rfl) ?_
  refine g_iloadn M_2_ownerOf d_2_ownerOf_17 (by first | rfl | assumption) ?_
  refine g_iaload M_2_ownerOf d_2_ownerOf_18 g1 (vp_in_nI (by omega) (by decide)) ?_
  rw [nI_cl (by omega), g2 i (by have := @hL_l v; omega), hL_o]
  refine g_goto M_2_ownerOf (tgt := 23) d_2_ownerOf_19 (by decide) ?_
  exact g_iret M_2_ownerOf d_2_ownerOf_23 rfl rfl k
set_option maxHeartbeats 4000000 in
set_option maxRecDepth 100000 in
theorem C_2_coinsIn {r : Nat → Nat} {v : Hn_} {h : Hp_} {Q : Ot_ → Hp_ → Prop} {i : Nat} (D : heN h r v) (hi : i < v.length) (k : Q (.inl (some (.int (nI (hx v i).2.2)))) h) : gG 1 60 0 0 M_2_coinsIn 0 (lv_args 0 [.ref (r 0), .int (nI i)]) [] h Q := by
  obtain ⟨v0, W1, ⟨-, g, g1, g2⟩, ⟨-, g', c1, c2⟩, -, -⟩ := id D.1
  have vl := D.le
  refine g_iloadn M_2_coinsIn d_2_coinsIn_0 (by first | rfl | assumption) ?_
  refine g_if_lt M_2_coinsIn (tgt := 22) d_2_coinsIn_1 (by decide) (fun c => absurd c (nI_pos (by omega))) (fun _ => ?_)
  refine g_iloadn M_2_coinsIn d_2_coinsIn_4 (by first | rfl | assumption) ?_
  refine g_aloadn M_2_coinsIn d_2_coinsIn_5 (by first | rfl | assumption) ?_
  refine g_get M_2_coinsIn d_2_coinsIn_6 fl_2_24 (by assumption) (by rfl) ?_
  refine g_alen M_2_coinsIn d_2_coinsIn_9 (by assumption) ?_
  refine g_icmp_ge M_2_coinsIn (tgt := 22) d_2_coinsIn_10 (by decide) (fun c => absurd c (nI_ge (by omega) (by decide))) (fun _ => ?_)
  refine g_aloadn M_2_coinsIn d_2_coinsIn_13 (by first | rfl | assumption) ?_
  refine g_get M_2_coinsIn d_2_coinsIn_14 fl_2_24 (by assumption) (by rfl) ?_
  refine g_iloadn M_2_coinsIn d_2_coinsIn_17 (by first | rfl | assumption) ?_
  refine g_iaload M_2_coinsIn d_2_coinsIn_18 c1 (vp_in_nI (by omega) (by decide)) ?_
  rw [nI_cl (by omega), c2 i (by have := @hL_l v; omega), hL_c]
  refine g_goto M_2_coinsIn (tgt := 23) d_2_coinsIn_19 (by decide) ?_
  exact g_iret M_2_coinsIn d_2_coinsIn_23 rfl rfl k
set_option maxHeartbeats 4000000 in
set_option maxRecDepth 100000 in
theorem C_2_bears {r : Nat → Nat} {v : Hn_} {h : Hp_} {Q : Ot_ → Hp_ → Prop} {i aw lw : Nat} {w : List Nat} (D : heN h r v) (hi : i < v.length) (W : wdR h aw lw w) (k : Q (.inl (some (.int (bI (decide ((hx v i).1 = w)))))) h) : gG 4 170 0 0 M_2_bears 0 (lv_args 0 [.ref (r 0), .int (nI i), .ref aw]) [] h Q := by
  obtain ⟨v0, W1, ⟨-, g, g1, g2⟩, ⟨-, g', c1, c2⟩, -, -⟩ := id D.1
  have vl := D.le
  rw [← hL_m] at k
  refine g_aloadn M_2_bears d_2_bears_0 (by first | rfl | assumption) ?_
  refine g_get M_2_bears d_2_bears_1 fl_2_14 (by assumption) (by rfl) ?_
  refine g_iloadn M_2_bears d_2_bears_4 (by first | rfl | assumption) ?_
  refine g_aloadn M_2_bears d_2_bears_5 (by first | rfl | assumption) ?_
  refine gc_V M_2_bears 0 0 [.int (nI i), .ref aw] [] d_2_bears_6 cv_2_35 W1.2.2.1 (by rfl) (by rfl) (Nat.le_of_ble_eq_true (by rfl)) (Nat.le_of_ble_eq_true (by rfl)) (by decide) (by decide) (by decide) (by decide) (C_8_isSame (by decide) (by decide) W1 (by omega) W ?_)
  show gG _ _ _ _ _ _ _ _ _ _
  exact g_iret M_2_bears d_2_bears_9 rfl (bI_n _) k
set_option maxHeartbeats 4000000 in
set_option maxRecDepth 100000 in
theorem C_2_find {r : Nat → Nat} {v : Hn_} {h : Hp_} {Q : Ot_ → Hp_ → Prop} {n aw lw : Nat} {w : List Nat} (D : heN h r v) (hn : n < 2 ^ 30) (W : wdR h aw lw w) (k : Q (.inl (some (.int (oI (fst (fun i => decide ((hx v i).2.1 = n ∧ (hx v i).1 = w)) v.length))))) h) : gG 5 210 0 0 M_2_find 0 (lv_args 0 [.ref (r 0), .int (nI n), .ref aw]) [] h Q := by
  obtain ⟨v0, W1, ⟨-, g, g1, g2⟩, ⟨-, g', c1, c2⟩, -, -⟩ := id D.1
  have vl := D.le
  refine g_iconst M_2_find (v := nI 0) d_2_find_0 (by decide) ?_
  refine g_istoren M_2_find d_2_find_1 (by decide) (by first | rfl | (simp only [gc]; simp [*])) ?_
  have loop : ∀ t p, p + t = v.length → (∀ j, j < p → decide ((hx v j).2.1 = n ∧ (hx v j).1 = w) = false) → ∀ lv : List (Nat × Value), gl lv 0 = some (.ref (r 0)) → gl lv 1 = some (.int (nI n)) → gl lv 2 = some (.ref aw) → gl lv 3 = some (.int (nI p)) → gG 5 210 0 0 M_2_find 2 lv [] h Q := by
    intro t
    induction t with
    | zero =>
      intro p hp hj lv H0 H1 H2 H3
      rw [fst_none (fun j h9 => hj j (by omega))] at k
      refine g_iloadn M_2_find d_2_find_2 (by first | rfl | assumption) ?_
      refine g_aloadn M_2_find d_2_find_3 (by first | rfl | assumption) ?_
      refine gc_V M_2_find 0 0 [] [.int (nI p)] d_2_find_4 cv_2_39 v0 (by rfl) (by rfl) (Nat.le_of_ble_eq_true (by rfl)) (Nat.le_of_ble_eq_true (by rfl)) (by decide) (by decide) (by decide) (by decide) (C_2_count D.1 ?_)
      rw [hL_l.1]
      show gG _ _ _ _ _ _ _ _ _ _
      refine g_icmp_ge M_2_find (tgt := 36) d_2_find_7 (by decide) (fun _ => ?_) (fun c => absurd (nI_le (by omega) (by omega)) c)
      refine g_iconst M_2_find (v := -1) d_2_find_36 (by decide) ?_
      exact g_iret M_2_find d_2_find_37 rfl rfl k
    | succ t ih =>
      intro p hp hj lv H0 H1 H2 H3
      have ob := (D.2 _ (hx_mem (show p < v.length by omega))).1
      have next : decide ((hx v p).2.1 = n ∧ (hx v p).1 = w) = false → ∀ lv : List (Nat × Value), gl lv 0 = some (.ref (r 0)) → gl lv 1 = some (.int (nI n)) → gl lv 2 = some (.ref aw) → gl lv 3 = some (.int (nI p)) → gG 5 210 0 0 M_2_find 30 lv [] h Q := by
        intro e lv H0 H1 H2 H3
        refine g_iinc M_2_find (v := nI (p + 1)) d_2_find_30 H3 (by decide) (by first | rfl | (simp only [gc]; simp [*])) (nI_add p 1) ?_
        refine g_goto M_2_find (tgt := 2) d_2_find_33 (by decide) ?_
        refine ih (p + 1) (by omega) (fun j h9 => ?_) _ H0 H1 H2 rfl
        rcases Nat.lt_succ_iff_lt_or_eq.mp h9 with q | q
        · exact hj j q
        · rw [q]; exact e
      refine g_iloadn M_2_find d_2_find_2 (by first | rfl | assumption) ?_
      refine g_aloadn M_2_find d_2_find_3 (by first | rfl | assumption) ?_
      refine gc_V M_2_find 0 0 [] [.int (nI p)] d_2_find_4 cv_2_39 v0 (by rfl) (by rfl) (Nat.le_of_ble_eq_true (by rfl)) (Nat.le_of_ble_eq_true (by rfl)) (by decide) (by decide) (by decide) (by decide) (C_2_count D.1 ?_)
      rw [hL_l.1]
      show gG _ _ _ _ _ _ _ _ _ _
      refine g_icmp_ge M_2_find (tgt := 36) d_2_find_7 (by decide) (fun c => absurd c (nI_ge (by omega) (by omega))) (fun _ => ?_)
      refine g_aloadn M_2_find d_2_find_10 (by first | rfl | assumption) ?_
      refine g_iloadn M_2_find d_2_find_11 (by first | rfl | assumption) ?_
      refine gc_V M_2_find 0 0 [.int (nI p)] [] d_2_find_12 cv_2_40 v0 (by rfl) (by rfl) (Nat.le_of_ble_eq_true (by rfl)) (Nat.le_of_ble_eq_true (by rfl)) (by decide) (by decide) (by decide) (by decide) (C_2_ownerOf D (by omega) ?_)
      show gG _ _ _ _ _ _ _ _ _ _
      refine g_iloadn M_2_find d_2_find_15 (by first | rfl | assumption) ?_
      refine g_icmp_ne M_2_find (tgt := 30) d_2_find_16 (by decide) (fun c => ?_) (fun c => ?_)
      · exact next (decide_eq_false (fun z => c (by rw [z.1]))) lv H0 H1 H2 H3
      have ce := (nI_eq (by omega) (by omega)).mp c
      refine g_aloadn M_2_find d_2_find_19 (by first | rfl | assumption) ?_
      refine g_iloadn M_2_find d_2_find_20 (by first | rfl | assumption) ?_
      refine g_aloadn M_2_find d_2_find_21 (by first | rfl | assumption) ?_
      refine gc_V M_2_find 0 0 [.int (nI p), .ref aw] [] d_2_find_22 cv_2_44 v0 (by rfl) (by rfl) (Nat.le_of_ble_eq_true (by rfl)) (Nat.le_of_ble_eq_true (by rfl)) (by decide) (by decide) (by decide) (by decide) (C_2_bears D (by omega) W ?_)
      show gG _ _ _ _ _ _ _ _ _ _
      cases e : decide ((hx v p).1 = w) with
      | false =>
        refine g_if_eq M_2_find (tgt := 30) d_2_find_25 (by decide) (fun _ => ?_) (fun c9 => absurd rfl c9)
        exact next (decide_eq_false (fun z => (of_decide_eq_false e) z.2)) lv H0 H1 H2 H3
      | true =>
        rw [fst_some (i := p) (by omega) (decide_eq_true ⟨ce, of_decide_eq_true e⟩) hj] at k
        refine g_if_eq M_2_find (tgt := 30) d_2_find_25 (by decide) (fun c9 => absurd c9 (by decide)) (fun _ => ?_)
        refine g_iloadn M_2_find d_2_find_28 (by first | rfl | assumption) ?_
        exact g_iret M_2_find d_2_find_29 rfl rfl k
  exact loop v.length 0 (by omega) (fun j h9 => absurd h9 (Nat.not_lt_zero j)) _ rfl rfl rfl rfl
/-- the coins of a noun -/
def cW (n : Nat) : Hn_ → Nat
  | [] => 0
  | x :: t => (if x.2.1 = n then x.2.2 else 0) + cW n t
theorem cW_app {n : Nat} {a b : Hn_} : cW n (a ++ b) = cW n a + cW n b := by
  induction a with
  | nil => simp [cW]
  | cons x t ih => simp only [List.cons_append, cW, ih]; omega
theorem hn_snoc {v : Hn_} {p : Nat} (h : p < v.length) : v.take (p + 1) = v.take p ++ [hx v p] := by
  unfold hx
  rw [List.take_succ, List.getD_eq_getElem?_getD, List.getElem?_eq_getElem h]
  rfl

set_option maxHeartbeats 4000000 in
set_option maxRecDepth 100000 in
theorem C_2_coinsWith {r : Nat → Nat} {v : Hn_} {h : Hp_} {Q : Ot_ → Hp_ → Prop} {n : Nat} (D : heN h r v) (hn : n < 2 ^ 30) (k : Q (.inl (some (.int (nI (cW n v))))) h) : gG 3 130 0 0 M_2_coinsWith 0 (lv_args 0 [.ref (r 0), .int (nI n)]) [] h Q := by
  obtain ⟨v0, W1, ⟨-, g, g1, g2⟩, ⟨-, g', c1, c2⟩, -, -⟩ := id D.1
  have vl := D.le
  refine g_iconst M_2_coinsWith (v := nI 0) d_2_coinsWith_0 (by decide) ?_
  refine g_istoren M_2_coinsWith d_2_coinsWith_1 (by decide) (by first | rfl | (simp only [gc]; simp [*])) ?_
  refine g_iconst M_2_coinsWith (v := nI 0) d_2_coinsWith_2 (by decide) ?_
  refine g_istoren M_2_coinsWith d_2_coinsWith_3 (by decide) (by first | rfl | (simp only [gc]; simp [*])) ?_
  have loop : ∀ t p, p + t = v.length → ∀ lv : List (Nat × Value), gl lv 0 = some (.ref (r 0)) → gl lv 1 = some (.int (nI n)) → gl lv 2 = some (.int (nI (cW n (v.take p)))) → gl lv 3 = some (.int (nI p)) → gG 3 130 0 0 M_2_coinsWith 4 lv [] h Q := by
    intro t
    induction t with
    | zero =>
      intro p hp lv H0 H1 H2 H3
      rw [List.take_of_length_le (by omega)] at H2
      refine g_iloadn M_2_coinsWith d_2_coinsWith_4 (by first | rfl | assumption) ?_
      refine g_aloadn M_2_coinsWith d_2_coinsWith_5 (by first | rfl | assumption) ?_
      refine gc_V M_2_coinsWith 0 0 [] [.int (nI p)] d_2_coinsWith_6 cv_2_39 v0 (by rfl) (by rfl) (Nat.le_of_ble_eq_true (by rfl)) (Nat.le_of_ble_eq_true (by rfl)) (by decide) (by decide) (by decide) (by decide) (C_2_count D.1 ?_)
      rw [hL_l.1]
      show gG _ _ _ _ _ _ _ _ _ _
      refine g_icmp_ge M_2_coinsWith (tgt := 35) d_2_coinsWith_9 (by decide) (fun _ => ?_) (fun c => absurd (nI_le (by omega) (by omega)) c)
      refine g_iloadn M_2_coinsWith d_2_coinsWith_35 (by first | rfl | assumption) ?_
      exact g_iret M_2_coinsWith d_2_coinsWith_36 rfl rfl k
    | succ t ih =>
      intro p hp lv H0 H1 H2 H3
      have ob := (D.2 _ (hx_mem (show p < v.length by omega))).1
      have et : cW n (v.take (p + 1)) = cW n (v.take p) + if (hx v p).2.1 = n then (hx v p).2.2 else 0 := by
        rw [hn_snoc (by omega), cW_app]
        simp [cW]
      refine g_iloadn M_2_coinsWith d_2_coinsWith_4 (by first | rfl | assumption) ?_
      refine g_aloadn M_2_coinsWith d_2_coinsWith_5 (by first | rfl | assumption) ?_
      refine gc_V M_2_coinsWith 0 0 [] [.int (nI p)] d_2_coinsWith_6 cv_2_39 v0 (by rfl) (by rfl) (Nat.le_of_ble_eq_true (by rfl)) (Nat.le_of_ble_eq_true (by rfl)) (by decide) (by decide) (by decide) (by decide) (C_2_count D.1 ?_)
      rw [hL_l.1]
      show gG _ _ _ _ _ _ _ _ _ _
      refine g_icmp_ge M_2_coinsWith (tgt := 35) d_2_coinsWith_9 (by decide) (fun c => absurd c (nI_ge (by omega) (by omega))) (fun _ => ?_)
      refine g_aloadn M_2_coinsWith d_2_coinsWith_12 (by first | rfl | assumption) ?_
      refine g_iloadn M_2_coinsWith d_2_coinsWith_13 (by first | rfl | assumption) ?_
      refine gc_V M_2_coinsWith 0 0 [.int (nI p)] [] d_2_coinsWith_14 cv_2_40 v0 (by rfl) (by rfl) (Nat.le_of_ble_eq_true (by rfl)) (Nat.le_of_ble_eq_true (by rfl)) (by decide) (by decide) (by decide) (by decide) (C_2_ownerOf D (by omega) ?_)
      show gG _ _ _ _ _ _ _ _ _ _
      refine g_iloadn M_2_coinsWith d_2_coinsWith_17 (by first | rfl | assumption) ?_
      refine g_icmp_ne M_2_coinsWith (tgt := 29) d_2_coinsWith_18 (by decide) (fun c => ?_) (fun c => ?_)
      · rw [if_neg (fun z => c (by rw [z]))] at et
        refine g_iinc M_2_coinsWith (v := nI (p + 1)) d_2_coinsWith_29 H3 (by decide) (by first | rfl | (simp only [gc]; simp [*])) (nI_add p 1) ?_
        refine g_goto M_2_coinsWith (tgt := 4) d_2_coinsWith_32 (by decide) ?_
        exact ih (p + 1) (by omega) _ H0 H1 (by rw [et]; exact H2) rfl
      · rw [if_pos ((nI_eq (by omega) (by omega)).mp c)] at et
        refine g_iloadn M_2_coinsWith d_2_coinsWith_21 (by first | rfl | assumption) ?_
        refine g_aloadn M_2_coinsWith d_2_coinsWith_22 (by first | rfl | assumption) ?_
        refine g_iloadn M_2_coinsWith d_2_coinsWith_23 (by first | rfl | assumption) ?_
        refine gc_V M_2_coinsWith 0 0 [.int (nI p)] [_] d_2_coinsWith_24 cv_2_47 v0 (by rfl) (by rfl) (Nat.le_of_ble_eq_true (by rfl)) (Nat.le_of_ble_eq_true (by rfl)) (by decide) (by decide) (by decide) (by decide) (C_2_coinsIn D (by omega) ?_)
        show gG _ _ _ _ _ _ _ _ _ _
        refine g_iadd M_2_coinsWith d_2_coinsWith_27 ?_
        rw [nI_add]
        refine g_istoren M_2_coinsWith d_2_coinsWith_28 (by decide) (by first | rfl | (simp only [gc]; simp [*])) ?_
        refine g_iinc M_2_coinsWith (v := nI (p + 1)) d_2_coinsWith_29 H3 (by decide) (by first | rfl | (simp only [gc]; simp [*])) (nI_add p 1) ?_
        refine g_goto M_2_coinsWith (tgt := 4) d_2_coinsWith_32 (by decide) ?_
        exact ih (p + 1) (by omega) _ H0 H1 (by rw [et]; rfl) rfl
  exact loop v.length 0 (by omega) _ rfl rfl rfl rfl
end
section
/-! ===== heaps: open, enlarge, empty, remove those without coins ===== -/
theorem hL_set {v : Hn_} {i c : Nat} : hL (v.set i ((hx v i).1, (hx v i).2.1, c)) = ((hL v).1, (hL v).2.1, (hL v).2.2.set i (nI c)) := by
  have e : ∀ {β : Type} (f : List Nat × Nat × Nat → β), f ((hx v i).1, (hx v i).2.1, c) = f (hx v i) → (v.set i ((hx v i).1, (hx v i).2.1, c)).map f = v.map f := by
    intro β f hf
    rw [List.map_set, hf]
    by_cases hi : i < v.length
    · apply List.ext_getElem?
      intro j
      rw [List.getElem?_set]
      split
      · rename_i q
        subst q
        rw [List.length_map, if_pos hi, List.getElem?_map, List.getElem?_eq_getElem hi]
        show some (f (hx v i)) = some (f v[i])
        unfold hx
        rw [List.getD_eq_getElem?_getD, List.getElem?_eq_getElem hi]
        rfl
      · rfl
    · rw [List.set_eq_of_length_le (by rw [List.length_map]; omega)]
  unfold hL
  rw [e _ rfl, e _ rfl, List.map_set]
theorem nm_upd {h' : Hp_} {a n i : Nat} {xs : List Int32} {g : Nat → Int32} {x : Int32} (hl : xs.length ≤ n) (hg : ∀ j, j < xs.length → g j = xs.getD j 0) (v : h' a = some (.inl (false, .int, (n, .inl (upd g i x))))) : nmR h' a n (xs.set i x) := by
  refine ⟨by rw [List.length_set]; exact hl, _, v, fun j hj => ?_⟩
  rw [List.length_set] at hj
  unfold upd
  rw [List.getD_eq_getElem?_getD, List.getElem?_set]
  by_cases q : j = i
  · subst q
    rw [if_pos rfl, if_pos rfl, if_pos hj]
    rfl
  · rw [if_neg q, if_neg (fun z => q z.symm), hg j hj, List.getD_eq_getElem?_getD]
/-- a heap's coins set -/
abbrev hset (v : Hn_) (i c : Nat) : Hn_ := v.set i ((hx v i).1, (hx v i).2.1, c)
theorem hset_ok {v : Hn_} {i c : Nat} (hi : i < v.length) (hc : c < 2 ^ 30) (H : ∀ x ∈ v, x.2.1 < 2 ^ 30 ∧ x.2.2 < 2 ^ 30) : ∀ x ∈ hset v i c, x.2.1 < 2 ^ 30 ∧ x.2.2 < 2 ^ 30 := by
  intro x hm
  rcases List.mem_or_eq_of_mem_set hm with q | q
  · exact H x q
  · rw [q]; exact ⟨(H _ (hx_mem hi)).1, hc⟩

set_option maxHeartbeats 4000000 in
set_option maxRecDepth 100000 in
theorem C_2_enlarge {r : Nat → Nat} {v : Hn_} {h : Hp_} {Q : Ot_ → Hp_ → Prop} {i c : Nat} {x : Int32} (s : sepR r 6) (D : heN h r v) (hi : i < v.length) (hc : c < 2 ^ 30) (hx9 : nI (hx v i).2.2 + x = nI c) (k : ∀ h', gExt h h' [r 5] [] → heN h' r (hset v i c) → Q (.inl none) h') : gG 1 60 0 0 M_2_enlarge 0 (lv_args 0 [.ref (r 0), .int (nI i), .int x]) [] h Q := by
  obtain ⟨v0, W1, ⟨ol, g, g1, g2⟩, ⟨cl, g', c1, c2⟩, l1, l2⟩ := id D.1
  have vl := D.le
  refine g_iloadn M_2_enlarge d_2_enlarge_0 (by first | rfl | assumption) ?_
  refine g_if_lt M_2_enlarge (tgt := 23) d_2_enlarge_1 (by decide) (fun c9 => absurd c9 (nI_pos (by omega))) (fun _ => ?_)
  refine g_iloadn M_2_enlarge d_2_enlarge_4 (by first | rfl | assumption) ?_
  refine g_aloadn M_2_enlarge d_2_enlarge_5 (by first | rfl | assumption) ?_
  refine g_get M_2_enlarge d_2_enlarge_6 fl_2_24 (by assumption) (by rfl) ?_
  refine g_alen M_2_enlarge d_2_enlarge_9 (by assumption) ?_
  refine g_icmp_ge M_2_enlarge (tgt := 23) d_2_enlarge_10 (by decide) (fun c9 => absurd c9 (nI_ge (by omega) (by decide))) (fun _ => ?_)
  refine g_aloadn M_2_enlarge d_2_enlarge_13 (by first | rfl | assumption) ?_
  refine g_get M_2_enlarge d_2_enlarge_14 fl_2_24 (by assumption) (by rfl) ?_
  refine g_iloadn M_2_enlarge d_2_enlarge_17 (by first | rfl | assumption) ?_
  refine g_dup2 M_2_enlarge d_2_enlarge_18 (by rfl) (by rfl) ?_
  refine g_iaload M_2_enlarge d_2_enlarge_19 c1 (vp_in_nI (by omega) (by decide)) ?_
  rw [nI_cl (by omega), c2 i (by have := @hL_l v; omega), hL_c]
  refine g_iloadn M_2_enlarge d_2_enlarge_20 (by first | rfl | assumption) ?_
  refine g_iadd M_2_enlarge d_2_enlarge_21 ?_
  rw [hx9]
  refine e_ias M_2_enlarge d_2_enlarge_22 c1 (vp_in_nI (by omega) (by decide)) (fun h1 u1 e1 => ?_)
  rw [nI_cl (by omega)] at u1
  have N1 := nm_upd cl c2 u1
  refine g_vret M_2_enlarge d_2_enlarge_23 rfl (k h1 e1 ⟨?_, hset_ok hi hc D.2⟩)
  rw [hL_set]
  exact ⟨e1.keep v0 (fun q => by simp only [List.mem_cons, List.not_mem_nil, or_false] at q; rcases q with q <;> exact absurd q (s.ne _ _ (by decide) (by decide) (by decide))), W1.keep e1 (fun q => by simp only [List.mem_cons, List.not_mem_nil, or_false] at q; rcases q with q <;> exact absurd q (s.ne _ _ (by decide) (by decide) (by decide))) (fun q => by simp only [List.mem_cons, List.not_mem_nil, or_false] at q; rcases q with q <;> exact absurd q (s.ne _ _ (by decide) (by decide) (by decide))) (fun q => by simp only [List.mem_cons, List.not_mem_nil, or_false] at q; rcases q with q <;> exact absurd q (s.ne _ _ (by decide) (by decide) (by decide))), (show nmR h (r 4) 30 (hL v).2.1 from ⟨ol, g, g1, g2⟩).keep e1 (fun q => by simp only [List.mem_cons, List.not_mem_nil, or_false] at q; rcases q with q <;> exact absurd q (s.ne _ _ (by decide) (by decide) (by decide))), N1, l1, by rw [List.length_set]; exact l2⟩
set_option maxHeartbeats 4000000 in
set_option maxRecDepth 100000 in
theorem C_2_empty {r : Nat → Nat} {v : Hn_} {h : Hp_} {Q : Ot_ → Hp_ → Prop} {i c : Nat} (s : sepR r 6) (D : heN h r v) (hi : i < v.length) (hc : c < 2 ^ 30) (hx9 : c = 0) (k : ∀ h', gExt h h' [r 5] [] → heN h' r (hset v i c) → Q (.inl none) h') : gG 1 60 0 0 M_2_empty 0 (lv_args 0 [.ref (r 0), .int (nI i)]) [] h Q := by
  obtain ⟨v0, W1, ⟨ol, g, g1, g2⟩, ⟨cl, g', c1, c2⟩, l1, l2⟩ := id D.1
  have vl := D.le
  refine g_iloadn M_2_empty d_2_empty_0 (by first | rfl | assumption) ?_
  refine g_if_lt M_2_empty (tgt := 20) d_2_empty_1 (by decide) (fun c9 => absurd c9 (nI_pos (by omega))) (fun _ => ?_)
  refine g_iloadn M_2_empty d_2_empty_4 (by first | rfl | assumption) ?_
  refine g_aloadn M_2_empty d_2_empty_5 (by first | rfl | assumption) ?_
  refine g_get M_2_empty d_2_empty_6 fl_2_24 (by assumption) (by rfl) ?_
  refine g_alen M_2_empty d_2_empty_9 (by assumption) ?_
  refine g_icmp_ge M_2_empty (tgt := 20) d_2_empty_10 (by decide) (fun c9 => absurd c9 (nI_ge (by omega) (by decide))) (fun _ => ?_)
  refine g_aloadn M_2_empty d_2_empty_13 (by first | rfl | assumption) ?_
  refine g_get M_2_empty d_2_empty_14 fl_2_24 (by assumption) (by rfl) ?_
  refine g_iloadn M_2_empty d_2_empty_17 (by first | rfl | assumption) ?_
  refine g_iconst M_2_empty (v := nI 0) d_2_empty_18 (by decide) ?_
  refine e_ias M_2_empty d_2_empty_19 c1 (vp_in_nI (by omega) (by decide)) (fun h1 u1 e1 => ?_)
  rw [nI_cl (by omega)] at u1
  have N1 := nm_upd cl c2 u1
  refine g_vret M_2_empty d_2_empty_20 rfl (k h1 e1 ⟨?_, hset_ok hi hc D.2⟩)
  rw [hL_set]
  subst hx9
  exact ⟨e1.keep v0 (fun q => by simp only [List.mem_cons, List.not_mem_nil, or_false] at q; rcases q with q <;> exact absurd q (s.ne _ _ (by decide) (by decide) (by decide))), W1.keep e1 (fun q => by simp only [List.mem_cons, List.not_mem_nil, or_false] at q; rcases q with q <;> exact absurd q (s.ne _ _ (by decide) (by decide) (by decide))) (fun q => by simp only [List.mem_cons, List.not_mem_nil, or_false] at q; rcases q with q <;> exact absurd q (s.ne _ _ (by decide) (by decide) (by decide))) (fun q => by simp only [List.mem_cons, List.not_mem_nil, or_false] at q; rcases q with q <;> exact absurd q (s.ne _ _ (by decide) (by decide) (by decide))), (show nmR h (r 4) 30 (hL v).2.1 from ⟨ol, g, g1, g2⟩).keep e1 (fun q => by simp only [List.mem_cons, List.not_mem_nil, or_false] at q; rcases q with q <;> exact absurd q (s.ne _ _ (by decide) (by decide) (by decide))), N1, l1, by rw [List.length_set]; exact l2⟩
set_option maxHeartbeats 4000000 in
set_option maxRecDepth 100000 in
theorem C_2_open {r : Nat → Nat} {v : Hn_} {h : Hp_} {Q : Ot_ → Hp_ → Prop} {n c aw lw : Nat} {w : List Nat} (s : sepR r 6) (D : heN h r v) (hl : v.length < 30) (hn : n < 2 ^ 30) (hc : c < 2 ^ 30) (W : wdR h aw lw w) (o : ∀ x, x < 6 → r x ≠ aw ∧ r x ≠ lw) (k : ∀ h', gExt h h' ((List.range 6).map r) [] → heN h' r (v ++ [(w, n, c)]) → Q (.inl none) h') : gG 4 170 0 0 M_2_open 0 (lv_args 0 [.ref (r 0), .int (nI n), .ref aw, .int (nI c)]) [] h Q := by
  obtain ⟨v0, W1, ⟨ol, g, g1, g2⟩, ⟨cl, g', c1, c2⟩, l1, l2⟩ := id D.1
  have vl := D.le
  have mr : ∀ k, k < 6 → r k ∈ (List.range 6).map r := fun k hk => List.mem_map.mpr ⟨k, List.mem_range.mpr hk, rfl⟩
  have hl1 := @hL_l v
  refine g_aloadn M_2_open d_2_open_0 (by first | rfl | assumption) ?_
  refine gc_V M_2_open 0 0 [] [] d_2_open_1 cv_2_39 v0 (by rfl) (by rfl) (Nat.le_of_ble_eq_true (by rfl)) (Nat.le_of_ble_eq_true (by rfl)) (by decide) (by decide) (by decide) (by decide) (C_2_count D.1 ?_)
  rw [hL_l.1]
  show gG _ _ _ _ _ _ _ _ _ _
  refine g_istore M_2_open d_2_open_4 (by decide) (by first | rfl | (simp only [gc]; simp [*])) ?_
  refine g_iload M_2_open d_2_open_6 (by first | rfl | assumption) ?_
  refine g_if_lt M_2_open (tgt := 56) d_2_open_8 (by decide) (fun c9 => absurd c9 (nI_pos (by omega))) (fun _ => ?_)
  refine g_iload M_2_open d_2_open_11 (by first | rfl | assumption) ?_
  refine g_aloadn M_2_open d_2_open_13 (by first | rfl | assumption) ?_
  refine g_get M_2_open d_2_open_14 fl_2_20 (by assumption) (by rfl) ?_
  refine g_alen M_2_open d_2_open_17 (by assumption) ?_
  refine g_icmp_ge M_2_open (tgt := 56) d_2_open_18 (by decide) (fun c9 => absurd c9 (nI_ge (by omega) (by decide))) (fun _ => ?_)
  refine g_iload M_2_open d_2_open_21 (by first | rfl | assumption) ?_
  refine g_aloadn M_2_open d_2_open_23 (by first | rfl | assumption) ?_
  refine g_get M_2_open d_2_open_24 fl_2_24 (by assumption) (by rfl) ?_
  refine g_alen M_2_open d_2_open_27 (by assumption) ?_
  refine g_icmp_ge M_2_open (tgt := 56) d_2_open_28 (by decide) (fun c9 => absurd c9 (nI_ge (by omega) (by decide))) (fun _ => ?_)
  refine g_aloadn M_2_open d_2_open_31 (by first | rfl | assumption) ?_
  refine g_get M_2_open d_2_open_32 fl_2_14 (by assumption) (by rfl) ?_
  refine g_aloadn M_2_open d_2_open_35 (by first | rfl | assumption) ?_
  refine gc_V M_2_open 0 0 [.ref aw] [] d_2_open_36 cv_2_50 W1.2.2.1 (by rfl) (by rfl) (Nat.le_of_ble_eq_true (by rfl)) (Nat.le_of_ble_eq_true (by rfl)) (by decide) (by decide) (by decide) (by decide) (C_8_add (by decide) (by decide) W1 W W.1.1 (s.ne 1 2 (by decide) (by decide) (by decide)) (s.ne 1 3 (by decide) (by decide) (by decide)) (s.ne 2 3 (by decide) (by decide) (by decide)) ⟨(o 1 (by decide)).1.symm, (o 2 (by decide)).1.symm, (o 3 (by decide)).1.symm⟩ ⟨(o 1 (by decide)).2.symm, (o 2 (by decide)).2.symm, (o 3 (by decide)).2.symm⟩ (fun q => absurd q (by omega)) (fun _ h1 e1 X1 => ?_))
  have v01 := e1.keep v0 (fun q => by simp only [List.mem_cons, List.not_mem_nil, or_false] at q; rcases q with q | q | q <;> exact absurd q (s.ne _ _ (by decide) (by decide) (by decide)))
  have g11 := e1.keep g1 (fun q => by simp only [List.mem_cons, List.not_mem_nil, or_false] at q; rcases q with q | q | q <;> exact absurd q (s.ne _ _ (by decide) (by decide) (by decide)))
  have c11 := e1.keep c1 (fun q => by simp only [List.mem_cons, List.not_mem_nil, or_false] at q; rcases q with q | q | q <;> exact absurd q (s.ne _ _ (by decide) (by decide) (by decide)))
  show gG _ _ _ _ _ _ _ _ _ _
  refine g_pop M_2_open d_2_open_39 (by rfl) ?_
  refine g_aloadn M_2_open d_2_open_40 (by first | rfl | assumption) ?_
  refine g_get M_2_open d_2_open_41 fl_2_20 (by assumption) (by rfl) ?_
  refine g_iload M_2_open d_2_open_44 (by first | rfl | assumption) ?_
  refine g_iloadn M_2_open d_2_open_46 (by first | rfl | assumption) ?_
  refine e_ias M_2_open d_2_open_47 g11 (vp_in_nI (by omega) (by decide)) (fun h2 u2 e2 => ?_)
  rw [nI_cl (by omega), ← hL_l.2.1] at u2
  have N2 := nm_set (by omega) g2 u2
  have v02 := e2.keep v01 (fun q => by simp only [List.mem_cons, List.not_mem_nil, or_false] at q; rcases q with q <;> exact absurd q (s.ne _ _ (by decide) (by decide) (by decide)))
  have X2 := X1.keep e2 (fun q => by simp only [List.mem_cons, List.not_mem_nil, or_false] at q; rcases q with q <;> exact absurd q (s.ne _ _ (by decide) (by decide) (by decide))) (fun q => by simp only [List.mem_cons, List.not_mem_nil, or_false] at q; rcases q with q <;> exact absurd q (s.ne _ _ (by decide) (by decide) (by decide))) (fun q => by simp only [List.mem_cons, List.not_mem_nil, or_false] at q; rcases q with q <;> exact absurd q (s.ne _ _ (by decide) (by decide) (by decide)))
  have c12 := e2.keep c11 (fun q => by simp only [List.mem_cons, List.not_mem_nil, or_false] at q; rcases q with q <;> exact absurd q (s.ne _ _ (by decide) (by decide) (by decide)))
  refine g_aloadn M_2_open d_2_open_48 (by first | rfl | assumption) ?_
  refine g_get M_2_open d_2_open_49 fl_2_24 (by assumption) (by rfl) ?_
  refine g_iload M_2_open d_2_open_52 (by first | rfl | assumption) ?_
  refine g_iloadn M_2_open d_2_open_54 (by first | rfl | assumption) ?_
  refine e_ias M_2_open d_2_open_55 c12 (vp_in_nI (by omega) (by decide)) (fun h3 u3 e3 => ?_)
  rw [nI_cl (by omega), ← hL_l.2.2] at u3
  have N3 := nm_set (by omega) c2 u3
  have f1 := e1.weak (S' := (List.range 6).map r) (fun x hx => by simp only [List.mem_cons, List.not_mem_nil, or_false] at hx; rcases hx with rfl | rfl | rfl <;> exact mr _ (by decide))
  have t := (f1.trans e2 (fun x hx => Or.inl (by rw [List.mem_singleton.mp hx]; exact mr 4 (by decide)))).trans e3 (fun x hx => Or.inl (by rw [List.mem_singleton.mp hx]; exact mr 5 (by decide)))
  refine g_vret M_2_open d_2_open_56 rfl (k h3 (by simpa using t) ⟨?_, fun x hx9 => ?_⟩)
  · have eL : hL (v ++ [(w, n, c)]) = ((hL v).1 ++ [w], (hL v).2.1 ++ [nI n], (hL v).2.2 ++ [nI c]) := by unfold hL; simp
    rw [eL]
    exact ⟨e3.keep v02 (fun q => by simp only [List.mem_cons, List.not_mem_nil, or_false] at q; rcases q with q <;> exact absurd q (s.ne _ _ (by decide) (by decide) (by decide))), X2.keep e3 (fun q => by simp only [List.mem_cons, List.not_mem_nil, or_false] at q; rcases q with q <;> exact absurd q (s.ne _ _ (by decide) (by decide) (by decide))) (fun q => by simp only [List.mem_cons, List.not_mem_nil, or_false] at q; rcases q with q <;> exact absurd q (s.ne _ _ (by decide) (by decide) (by decide))) (fun q => by simp only [List.mem_cons, List.not_mem_nil, or_false] at q; rcases q with q <;> exact absurd q (s.ne _ _ (by decide) (by decide) (by decide))), N2.keep e3 (fun q => by simp only [List.mem_cons, List.not_mem_nil, or_false] at q; rcases q with q <;> exact absurd q (s.ne _ _ (by decide) (by decide) (by decide))), N3, by simp [l1], by simp [l2]⟩
  · rcases List.mem_append.mp hx9 with q | q
    · exact D.2 x q
    · rw [List.mem_singleton.mp q]; exact ⟨hn, hc⟩
end
section
/-! ===== heaps: those without coins go; the oldest coins are taken ===== -/
theorem gc_i {lv : List (Nat × Value)} {i : Nat} {x : Int32} (h : gl lv i = some (.int x)) : gc lv (i + 1) = true := by
  show (match gl lv i with | some (.long _) => false | some (.double _) => false | _ => true) = true
  rw [h]
theorem er_map {α β : Type} {f : α → β} {l : List α} {i : Nat} : (l.eraseIdx i).map f = (l.map f).eraseIdx i := by
  apply List.ext_getElem?
  intro j
  simp only [List.getElem?_map, List.getElem?_eraseIdx]
  split <;> rfl
theorem hL_er {v : Hn_} {i : Nat} : hL (v.eraseIdx i) = ((hL v).1.eraseIdx i, (hL v).2.1.eraseIdx i, (hL v).2.2.eraseIdx i) := by
  unfold hL
  rw [er_map, er_map, er_map]
theorem hn_drop {v : Hn_} {p : Nat} (h : p < v.length) : v.drop p = hx v p :: v.drop (p + 1) := by
  rw [List.drop_eq_getElem_cons h]
  unfold hx
  rw [List.getD_eq_getElem?_getD, List.getElem?_eq_getElem h]
  rfl
theorem hx_mid {a b : Hn_} {x : List Nat × Nat × Nat} {p : Nat} (h : a.length = p) : hx (a ++ x :: b) p = x := by
  subst h
  unfold hx
  rw [List.getD_eq_getElem?_getD, List.getElem?_append_right (Nat.le_refl _), Nat.sub_self]
  rfl
theorem er_mid {a b : Hn_} {x : List Nat × Nat × Nat} {p : Nat} (h : a.length = p) : (a ++ x :: b).eraseIdx p = a ++ b := by
  subst h
  rw [List.eraseIdx_append_of_length_le (Nat.le_refl _), Nat.sub_self]
  rfl
theorem set_mid {a b : Hn_} {x y : List Nat × Nat × Nat} {p : Nat} (h : a.length = p) : (a ++ x :: b).set p y = a ++ y :: b := by
  subst h
  rw [List.set_append_right _ _ (Nat.le_refl _), Nat.sub_self]
  rfl
def nzH (x : List Nat × Nat × Nat) : Bool := decide (x.2.2 ≠ 0)
def reU (v : Hn_) (p : Nat) : Hn_ := v.take p ++ (v.drop p).filter nzH

set_option maxHeartbeats 4000000 in
set_option maxRecDepth 100000 in
theorem C_2_removeEmpty {r : Nat → Nat} {v : Hn_} {h : Hp_} {Q : Ot_ → Hp_ → Prop} (s : sepR r 6) (D : heN h r v) (k : ∀ h', gExt h h' ((List.range 6).map r) [] → heN h' r (v.filter nzH) → Q (.inl none) h') : gG 3 130 0 0 M_2_removeEmpty 0 (lv_args 0 [.ref (r 0)]) [] h Q := by
  have vl := D.le
  have mr : ∀ k, k < 6 → r k ∈ (List.range 6).map r := fun k hk => List.mem_map.mpr ⟨k, List.mem_range.mpr hk, rfl⟩
  have sub3 : ∀ x ∈ [r 1, r 2, r 3], x ∈ (List.range 6).map r := fun x hx => by simp only [List.mem_cons, List.not_mem_nil, or_false] at hx; rcases hx with rfl | rfl | rfl <;> exact mr _ (by decide)
  have Dv := D.2
  refine g_aloadn M_2_removeEmpty d_2_removeEmpty_0 (by first | rfl | assumption) ?_
  refine gc_V M_2_removeEmpty 0 0 [] [] d_2_removeEmpty_1 cv_2_39 D.1.1 (by rfl) (by rfl) (Nat.le_of_ble_eq_true (by rfl)) (Nat.le_of_ble_eq_true (by rfl)) (by decide) (by decide) (by decide) (by decide) (C_2_count D.1 ?_)
  rw [hL_l.1]
  show gG _ _ _ _ _ _ _ _ _ _
  refine g_iconst M_2_removeEmpty (v := nI 1) d_2_removeEmpty_4 (by decide) ?_
  refine g_isub M_2_removeEmpty d_2_removeEmpty_5 ?_
  refine g_istoren M_2_removeEmpty d_2_removeEmpty_6 (by decide) (by first | rfl | (simp only [gc]; simp [*])) ?_
  have loop : ∀ p, p ≤ v.length → ∀ (h2 : Hp_) (lv : List (Nat × Value)), gExt h h2 ((List.range 6).map r) [] → heN h2 r (reU v p) → gl lv 0 = some (.ref (r 0)) → gl lv 1 = some (.int (nI p - nI 1)) → gG 3 130 0 0 M_2_removeEmpty 7 lv [] h2 Q := by
    intro p
    induction p with
    | zero =>
      intro hp h2 lv e2 D2 H0 H1
      have D3 : heN h2 r (v.filter nzH) := D2
      refine g_iloadn M_2_removeEmpty d_2_removeEmpty_7 (by first | rfl | assumption) ?_
      refine g_if_lt M_2_removeEmpty (tgt := 49) d_2_removeEmpty_8 (by decide) (fun _ => ?_) (fun c => absurd (by decide) c)
      exact g_vret M_2_removeEmpty d_2_removeEmpty_49 rfl (k h2 e2 D3)
    | succ p ih =>
      intro hp h2 lv e2 D2 H0 H1
      have hlen : (v.take p).length = p := by rw [List.length_take]; omega
      have eU : reU v (p + 1) = v.take p ++ hx v p :: (v.drop (p + 1)).filter nzH := by
        unfold reU
        rw [hn_snoc (by omega), List.append_assoc]
        rfl
      have cb := (Dv _ (hx_mem (show p < v.length by omega))).2
      have il : p < (reU v (p + 1)).length := by rw [eU, List.length_append, List.length_cons]; omega
      have ex : hx (reU v (p + 1)) p = hx v p := by rw [eU, hx_mid hlen]
      have ei : nI (p + 1) - nI 1 = nI p := by rw [nI_sub (by omega)]; rfl
      rw [ei] at H1
      have next : ∀ (h3 : Hp_), gExt h h3 ((List.range 6).map r) [] → heN h3 r (reU v p) → ∀ lv : List (Nat × Value), gl lv 0 = some (.ref (r 0)) → gl lv 1 = some (.int (nI p)) → gG 3 130 0 0 M_2_removeEmpty 43 lv [] h3 Q := by
        intro h3 e3 D3 lv H0 H1
        refine g_iinc M_2_removeEmpty (v := nI p - nI 1) d_2_removeEmpty_43 H1 (by decide) (by first | rfl | (simp only [gc]; simp [*])) (by rw [Int32.sub_eq_add_neg]; exact congrArg (nI p + ·) (by decide)) ?_
        refine g_goto M_2_removeEmpty (tgt := 7) d_2_removeEmpty_46 (by decide) ?_
        exact ih (by omega) h3 _ e3 D3 H0 rfl
      obtain ⟨v0, W1, ⟨ol, g, g1, g2⟩, ⟨cl, g', c1, c2⟩, l1, l2⟩ := id D2.1
      refine g_iloadn M_2_removeEmpty d_2_removeEmpty_7 (by first | rfl | assumption) ?_
      refine g_if_lt M_2_removeEmpty (tgt := 49) d_2_removeEmpty_8 (by decide) (fun c => absurd c (nI_pos (by omega))) (fun _ => ?_)
      refine g_aloadn M_2_removeEmpty d_2_removeEmpty_11 (by first | rfl | assumption) ?_
      refine g_iloadn M_2_removeEmpty d_2_removeEmpty_12 (by first | rfl | assumption) ?_
      refine gc_V M_2_removeEmpty 0 0 [.int (nI p)] [] d_2_removeEmpty_13 cv_2_47 v0 (by rfl) (by rfl) (Nat.le_of_ble_eq_true (by rfl)) (Nat.le_of_ble_eq_true (by rfl)) (by decide) (by decide) (by decide) (by decide) (C_2_coinsIn D2 il ?_)
      rw [ex]
      show gG _ _ _ _ _ _ _ _ _ _
      refine g_if_ne M_2_removeEmpty (tgt := 43) d_2_removeEmpty_16 (by decide) (fun c => ?_) (fun c => ?_)
      · have ek : reU v p = reU v (p + 1) := by
          rw [eU]
          unfold reU
          rw [hn_drop (show p < v.length by omega), List.filter_cons, if_pos (show nzH (hx v p) = true from decide_eq_true (fun z => c (by rw [z]; rfl)))]
        exact next h2 e2 (by rw [ek]; exact D2) lv H0 H1
      · have z0 : (hx v p).2.2 = 0 := (nI_eq (by omega) (by decide)).mp c
        have ek : (reU v (p + 1)).eraseIdx p = reU v p := by
          rw [eU, er_mid hlen]
          unfold reU
          rw [hn_drop (show p < v.length by omega), List.filter_cons, if_neg (show ¬ nzH (hx v p) = true by unfold nzH; rw [decide_eq_true_iff]; exact fun z => z z0)]
        have hl9 := @hL_l (reU v (p + 1))
        refine g_aloadn M_2_removeEmpty d_2_removeEmpty_19 (by first | rfl | assumption) ?_
        refine g_get M_2_removeEmpty d_2_removeEmpty_20 fl_2_14 (by assumption) (by rfl) ?_
        refine g_iloadn M_2_removeEmpty d_2_removeEmpty_23 (by first | rfl | assumption) ?_
        refine gc_V M_2_removeEmpty 0 0 [.int (nI p)] [] d_2_removeEmpty_24 cv_2_66 W1.2.2.1 (by rfl) (by rfl) (Nat.le_of_ble_eq_true (by rfl)) (Nat.le_of_ble_eq_true (by rfl)) (by decide) (by decide) (by decide) (by decide) (C_8_remove (by decide) (by decide) (by omega) (s.ne 1 2 (by decide) (by decide) (by decide)) (s.ne 1 3 (by decide) (by decide) (by decide)) (s.ne 2 3 (by decide) (by decide) (by decide)) W1 (fun h3 e3 W3 => ?_))
        have v03 := e3.keep v0 (fun q => by simp only [List.mem_cons, List.not_mem_nil, or_false] at q; rcases q with q | q | q <;> exact absurd q (s.ne _ _ (by decide) (by decide) (by decide)))
        have g13 := e3.keep g1 (fun q => by simp only [List.mem_cons, List.not_mem_nil, or_false] at q; rcases q with q | q | q <;> exact absurd q (s.ne _ _ (by decide) (by decide) (by decide)))
        have c13 := e3.keep c1 (fun q => by simp only [List.mem_cons, List.not_mem_nil, or_false] at q; rcases q with q | q | q <;> exact absurd q (s.ne _ _ (by decide) (by decide) (by decide)))
        show gG _ _ _ _ _ _ _ _ _ _
        refine g_aloadn M_2_removeEmpty d_2_removeEmpty_27 (by first | rfl | assumption) ?_
        refine g_get M_2_removeEmpty d_2_removeEmpty_28 fl_2_20 (by assumption) (by rfl) ?_
        refine g_iloadn M_2_removeEmpty d_2_removeEmpty_31 (by first | rfl | assumption) ?_
        refine gc_N M_2_removeEmpty 0 0 [.ref (r 4), .int (nI p)] [] d_2_removeEmpty_32 cn_2_70 (by rfl) (by rfl) (Nat.le_of_ble_eq_true (by rfl)) (Nat.le_of_ble_eq_true (by rfl)) (by decide) (by decide) (by decide) (by decide) (C_9_closeGap (by decide) (by omega) g13 (fun h4 f4 e4 w4 G4 => ?_))
        have v04 := e4.keep v03 (fun q => by simp only [List.mem_cons, List.not_mem_nil, or_false] at q; rcases q with q <;> exact absurd q (s.ne _ _ (by decide) (by decide) (by decide)))
        have W4 := W3.keep e4 (fun q => by simp only [List.mem_cons, List.not_mem_nil, or_false] at q; rcases q with q <;> exact absurd q (s.ne _ _ (by decide) (by decide) (by decide))) (fun q => by simp only [List.mem_cons, List.not_mem_nil, or_false] at q; rcases q with q <;> exact absurd q (s.ne _ _ (by decide) (by decide) (by decide))) (fun q => by simp only [List.mem_cons, List.not_mem_nil, or_false] at q; rcases q with q <;> exact absurd q (s.ne _ _ (by decide) (by decide) (by decide)))
        have c14 := e4.keep c13 (fun q => by simp only [List.mem_cons, List.not_mem_nil, or_false] at q; rcases q with q <;> exact absurd q (s.ne _ _ (by decide) (by decide) (by decide)))
        have N4 := nm_erase ol (by omega) g2 G4 w4
        show gG _ _ _ _ _ _ _ _ _ _
        refine g_aloadn M_2_removeEmpty d_2_removeEmpty_35 (by first | rfl | assumption) ?_
        refine g_get M_2_removeEmpty d_2_removeEmpty_36 fl_2_24 (by assumption) (by rfl) ?_
        refine g_iloadn M_2_removeEmpty d_2_removeEmpty_39 (by first | rfl | assumption) ?_
        refine gc_N M_2_removeEmpty 0 0 [.ref (r 5), .int (nI p)] [] d_2_removeEmpty_40 cn_2_70 (by rfl) (by rfl) (Nat.le_of_ble_eq_true (by rfl)) (Nat.le_of_ble_eq_true (by rfl)) (by decide) (by decide) (by decide) (by decide) (C_9_closeGap (by decide) (by omega) c14 (fun h5 f5 e5 w5 G5 => ?_))
        have N5 := nm_erase cl (by omega) c2 G5 w5
        show gG _ _ _ _ _ _ _ _ _ _
        have t := ((e2.trans e3 (fun x hx => Or.inl (sub3 x hx))).trans e4 (fun x hx => Or.inl (by rw [List.mem_singleton.mp hx]; exact mr 4 (by decide)))).trans e5 (fun x hx => Or.inl (by rw [List.mem_singleton.mp hx]; exact mr 5 (by decide)))
        refine next h5 (by simpa using t) ⟨?_, fun x hx9 => ?_⟩ _ H0 H1
        · rw [← ek, hL_er]
          exact ⟨e5.keep v04 (fun q => by simp only [List.mem_cons, List.not_mem_nil, or_false] at q; rcases q with q <;> exact absurd q (s.ne _ _ (by decide) (by decide) (by decide))), W4.keep e5 (fun q => by simp only [List.mem_cons, List.not_mem_nil, or_false] at q; rcases q with q <;> exact absurd q (s.ne _ _ (by decide) (by decide) (by decide))) (fun q => by simp only [List.mem_cons, List.not_mem_nil, or_false] at q; rcases q with q <;> exact absurd q (s.ne _ _ (by decide) (by decide) (by decide))) (fun q => by simp only [List.mem_cons, List.not_mem_nil, or_false] at q; rcases q with q <;> exact absurd q (s.ne _ _ (by decide) (by decide) (by decide))), N4.keep e5 (fun q => by simp only [List.mem_cons, List.not_mem_nil, or_false] at q; rcases q with q <;> exact absurd q (s.ne _ _ (by decide) (by decide) (by decide))), N5, by simp only [List.length_eraseIdx]; rw [l1], by simp only [List.length_eraseIdx]; rw [l2]⟩
        · rw [← ek] at hx9
          exact D2.2 x (List.mem_of_mem_eraseIdx hx9)
  exact loop v.length (Nat.le_refl _) h _ (gExt.refl.weak (by simp)) (by unfold reU; rw [List.take_length, List.drop_length]; simpa using D) rfl rfl
/-- the oldest coins of a noun are taken -/
def tkO (n : Nat) : Nat → Hn_ → Hn_
  | _, [] => []
  | m, x :: t => if x.2.1 = n then (x.1, x.2.1, x.2.2 - min m x.2.2) :: tkO n (m - min m x.2.2) t else x :: tkO n m t
def lfO (n : Nat) : Nat → Hn_ → Nat
  | m, [] => m
  | m, x :: t => if x.2.1 = n then lfO n (m - min m x.2.2) t else lfO n m t
theorem tkO_app {n : Nat} {a b : Hn_} : ∀ m, tkO n m (a ++ b) = tkO n m a ++ tkO n (lfO n m a) b := by
  induction a with
  | nil => intro m; rfl
  | cons x t ih =>
    intro m
    simp only [List.cons_append, tkO, lfO]
    split <;> rw [ih] <;> rfl
theorem lfO_app {n : Nat} {a b : Hn_} : ∀ m, lfO n m (a ++ b) = lfO n (lfO n m a) b := by
  induction a with
  | nil => intro m; rfl
  | cons x t ih =>
    intro m
    simp only [List.cons_append, lfO]
    split <;> rw [ih]
theorem tkO_len {n : Nat} {a : Hn_} : ∀ m, (tkO n m a).length = a.length := by
  induction a with
  | nil => intro m; rfl
  | cons x t ih =>
    intro m
    simp only [tkO]
    split <;> simp [ih]
theorem lfO_le {n : Nat} {a : Hn_} : ∀ m, lfO n m a ≤ m := by
  induction a with
  | nil => intro m; exact Nat.le_refl _
  | cons x t ih =>
    intro m
    simp only [lfO]
    split
    · exact Nat.le_trans (ih _) (Nat.sub_le _ _)
    · exact ih _

set_option maxHeartbeats 4000000 in
set_option maxRecDepth 100000 in
theorem C_2_takeOldest {r : Nat → Nat} {v : Hn_} {h : Hp_} {Q : Ot_ → Hp_ → Prop} {n c : Nat} (s : sepR r 6) (D : heN h r v) (hn : n < 2 ^ 30) (hc : c < 2 ^ 30) (k : ∀ h', gExt h h' ((List.range 6).map r) [] → heN h' r ((tkO n c v).filter nzH) → Q (.inl none) h') : gG 4 170 0 0 M_2_takeOldest 0 (lv_args 0 [.ref (r 0), .int (nI n), .int (nI c)]) [] h Q := by
  have vl := D.le
  have Dv := D.2
  have mr : ∀ k, k < 6 → r k ∈ (List.range 6).map r := fun k hk => List.mem_map.mpr ⟨k, List.mem_range.mpr hk, rfl⟩
  refine g_iloadn M_2_takeOldest d_2_takeOldest_0 (by first | rfl | assumption) ?_
  refine g_istoren M_2_takeOldest d_2_takeOldest_1 (by decide) (by first | rfl | (simp only [gc]; simp [*])) ?_
  refine g_iconst M_2_takeOldest (v := nI 0) d_2_takeOldest_2 (by decide) ?_
  refine g_istore M_2_takeOldest d_2_takeOldest_3 (by decide) (by first | rfl | (simp only [gc]; simp [*])) ?_
  have loop : ∀ t p, p + t = v.length → ∀ (h2 : Hp_) (lv : List (Nat × Value)), gExt h h2 ((List.range 6).map r) [] → heN h2 r (tkO n c (v.take p) ++ v.drop p) → gl lv 0 = some (.ref (r 0)) → gl lv 1 = some (.int (nI n)) → gl lv 2 = some (.int (nI c)) → gl lv 3 = some (.int (nI (lfO n c (v.take p)))) → gl lv 4 = some (.int (nI p)) → gG 4 170 0 0 M_2_takeOldest 5 lv [] h2 Q := by
    intro t
    induction t with
    | zero =>
      intro p hp h2 lv e2 D2 H0 H1 H2 H3 H4
      have l9 : (tkO n c (v.take p) ++ v.drop p).length = v.length := by rw [List.length_append, tkO_len, List.length_take, List.length_drop]; omega
      have D3 : heN h2 r (tkO n c v) := by rw [List.take_of_length_le (by omega), List.drop_eq_nil_of_le (by omega), List.append_nil] at D2; exact D2
      refine g_iload M_2_takeOldest d_2_takeOldest_5 (by first | rfl | assumption) ?_
      refine g_aloadn M_2_takeOldest d_2_takeOldest_7 (by first | rfl | assumption) ?_
      refine gc_V M_2_takeOldest 0 0 [] [.int (nI p)] d_2_takeOldest_8 cv_2_39 D2.1.1 (by rfl) (by rfl) (Nat.le_of_ble_eq_true (by rfl)) (Nat.le_of_ble_eq_true (by rfl)) (by decide) (by decide) (by decide) (by decide) (C_2_count D2.1 ?_)
      rw [hL_l.1, l9]
      show gG _ _ _ _ _ _ _ _ _ _
      refine g_icmp_ge M_2_takeOldest (tgt := 56) d_2_takeOldest_11 (by decide) (fun _ => ?_) (fun c9 => absurd (nI_le (by omega) (by omega)) c9)
      refine g_aloadn M_2_takeOldest d_2_takeOldest_56 (by first | rfl | assumption) ?_
      refine gc_V M_2_takeOldest 0 0 [] [] d_2_takeOldest_57 cv_2_63 D3.1.1 (by rfl) (by rfl) (Nat.le_of_ble_eq_true (by rfl)) (Nat.le_of_ble_eq_true (by rfl)) (by decide) (by decide) (by decide) (by decide) (C_2_removeEmpty s D3 (fun h3 e3 D4 => ?_))
      show gG _ _ _ _ _ _ _ _ _ _
      exact g_vret M_2_takeOldest d_2_takeOldest_60 rfl (k h3 (by simpa using e2.trans e3 (fun x hx => Or.inl hx)) D4)
    | succ t ih =>
      intro p hp h2 lv e2 D2 H0 H1 H2 H3 H4
      have l9 : (tkO n c (v.take p) ++ v.drop p).length = v.length := by rw [List.length_append, tkO_len, List.length_take, List.length_drop]; omega
      have hlen : (tkO n c (v.take p)).length = p := by rw [tkO_len, List.length_take]; omega
      have ex : hx (tkO n c (v.take p) ++ v.drop p) p = hx v p := by rw [hn_drop (by omega), hx_mid hlen]
      have xb := Dv _ (hx_mem (show p < v.length by omega))
      have lb := lfO_le (n := n) (a := v.take p) c
      refine g_iload M_2_takeOldest d_2_takeOldest_5 (by first | rfl | assumption) ?_
      refine g_aloadn M_2_takeOldest d_2_takeOldest_7 (by first | rfl | assumption) ?_
      refine gc_V M_2_takeOldest 0 0 [] [.int (nI p)] d_2_takeOldest_8 cv_2_39 D2.1.1 (by rfl) (by rfl) (Nat.le_of_ble_eq_true (by rfl)) (Nat.le_of_ble_eq_true (by rfl)) (by decide) (by decide) (by decide) (by decide) (C_2_count D2.1 ?_)
      rw [hL_l.1, l9]
      show gG _ _ _ _ _ _ _ _ _ _
      refine g_icmp_ge M_2_takeOldest (tgt := 56) d_2_takeOldest_11 (by decide) (fun c9 => absurd c9 (nI_ge (by omega) (by omega))) (fun _ => ?_)
      refine g_aloadn M_2_takeOldest d_2_takeOldest_14 (by first | rfl | assumption) ?_
      refine g_iload M_2_takeOldest d_2_takeOldest_15 (by first | rfl | assumption) ?_
      refine gc_V M_2_takeOldest 0 0 [.int (nI p)] [] d_2_takeOldest_17 cv_2_40 D2.1.1 (by rfl) (by rfl) (Nat.le_of_ble_eq_true (by rfl)) (Nat.le_of_ble_eq_true (by rfl)) (by decide) (by decide) (by decide) (by decide) (C_2_ownerOf D2 (by omega) ?_)
      rw [ex]
      show gG _ _ _ _ _ _ _ _ _ _
      refine g_iloadn M_2_takeOldest d_2_takeOldest_20 (by first | rfl | assumption) ?_
      refine g_icmp_ne M_2_takeOldest (tgt := 50) d_2_takeOldest_21 (by decide) (fun c9 => ?_) (fun c9 => ?_)
      · have no : ¬ (hx v p).2.1 = n := fun z => c9 (by rw [z])
        have e5 : tkO n c (v.take (p + 1)) ++ v.drop (p + 1) = tkO n c (v.take p) ++ v.drop p := by
          rw [hn_snoc (by omega), tkO_app, hn_drop (show p < v.length by omega), List.append_assoc]
          simp only [tkO]
          rw [if_neg no]
          rfl
        have e6 : lfO n c (v.take (p + 1)) = lfO n c (v.take p) := by
          rw [hn_snoc (by omega), lfO_app]
          simp only [lfO]
          rw [if_neg no]
        refine g_iinc M_2_takeOldest (v := nI (p + 1)) d_2_takeOldest_50 H4 (by decide) (by first | rfl | (simp only [gc]; simp [*])) (nI_add p 1) ?_
        refine g_goto M_2_takeOldest (tgt := 5) d_2_takeOldest_53 (by decide) ?_
        exact ih (p + 1) (by omega) h2 _ e2 (by rw [e5]; exact D2) H0 H1 H2 (by rw [e6]; exact H3) rfl
      have yes : (hx v p).2.1 = n := (nI_eq (by omega) (by omega)).mp c9
      generalize hlf : lfO n c (v.take p) = lf at *
      have e5 : tkO n c (v.take (p + 1)) ++ v.drop (p + 1) = hset (tkO n c (v.take p) ++ v.drop p) p ((hx v p).2.2 - min lf (hx v p).2.2) := by
        unfold hset
        rw [ex]
        rw [hn_snoc (by omega), tkO_app, hlf, hn_drop (show p < v.length by omega), set_mid hlen, List.append_assoc]
        simp only [tkO]
        rw [if_pos yes]
        rfl
      have e6 : lfO n c (v.take (p + 1)) = lf - min lf (hx v p).2.2 := by
        rw [hn_snoc (by omega), lfO_app, hlf]
        simp only [lfO]
        rw [if_pos yes]
      refine g_iloadn M_2_takeOldest d_2_takeOldest_24 (by first | rfl | assumption) ?_
      refine g_aloadn M_2_takeOldest d_2_takeOldest_25 (by first | rfl | assumption) ?_
      refine g_iload M_2_takeOldest d_2_takeOldest_26 (by first | rfl | assumption) ?_
      refine gc_V M_2_takeOldest 0 0 [.int (nI p)] [_] d_2_takeOldest_28 cv_2_47 D2.1.1 (by rfl) (by rfl) (Nat.le_of_ble_eq_true (by rfl)) (Nat.le_of_ble_eq_true (by rfl)) (by decide) (by decide) (by decide) (by decide) (C_2_coinsIn D2 (by omega) ?_)
      rw [ex]
      show gG _ _ _ _ _ _ _ _ _ _
      refine g_min M_2_takeOldest d_2_takeOldest_31 mm_2_54 mm_min_s mm_i mm_min_c (Nat.le_of_ble_eq_true (by rfl)) (Nat.le_of_ble_eq_true (by rfl)) ?_
      have em : (if nI (hx v p).2.2 < nI lf then nI (hx v p).2.2 else nI lf) = nI (min lf (hx v p).2.2) := by
        by_cases q : (hx v p).2.2 < lf
        · rw [if_pos (nI_lt q (by omega)), Nat.min_eq_right (by omega)]
        · rw [if_neg (nI_nlt (by omega) (by omega)), Nat.min_eq_left (by omega)]
      rw [em]
      refine g_istore M_2_takeOldest d_2_takeOldest_34 (by decide) (by first | rfl | (simp only [gc]; simp [*])) ?_
      refine g_aloadn M_2_takeOldest d_2_takeOldest_36 (by first | rfl | assumption) ?_
      refine g_iload M_2_takeOldest d_2_takeOldest_37 (by first | rfl | assumption) ?_
      refine g_iload M_2_takeOldest d_2_takeOldest_39 (by first | rfl | assumption) ?_
      refine g_ineg M_2_takeOldest d_2_takeOldest_41 ?_
      refine gc_V M_2_takeOldest 0 0 [.int (nI p), .int (-nI (min lf (hx v p).2.2))] [] d_2_takeOldest_42 cv_2_60 D2.1.1 (by rfl) (by rfl) (Nat.le_of_ble_eq_true (by rfl)) (Nat.le_of_ble_eq_true (by rfl)) (by decide) (by decide) (by decide) (by decide) (C_2_enlarge (c := (hx v p).2.2 - min lf (hx v p).2.2) s D2 (by omega) (by omega) (by rw [ex, ← Int32.sub_eq_add_neg, nI_sub (Nat.min_le_right _ _)]) (fun h3 e3 D3 => ?_))
      show gG _ _ _ _ _ _ _ _ _ _
      refine g_iloadn M_2_takeOldest d_2_takeOldest_45 (by first | rfl | assumption) ?_
      refine g_iload M_2_takeOldest d_2_takeOldest_46 (by first | rfl | assumption) ?_
      refine g_isub M_2_takeOldest d_2_takeOldest_48 ?_
      rw [nI_sub (Nat.min_le_left _ _)]
      refine g_istoren M_2_takeOldest d_2_takeOldest_49 (by decide) (gc_i (i := 2) (x := nI c) H2) ?_
      refine g_iinc M_2_takeOldest (v := nI (p + 1)) d_2_takeOldest_50 H4 (by decide) (by first | rfl | (simp only [gc]; simp [*])) (nI_add p 1) ?_
      refine g_goto M_2_takeOldest (tgt := 5) d_2_takeOldest_53 (by decide) ?_
      exact ih (p + 1) (by omega) h3 _ (by simpa using e2.trans e3 (fun x hx => Or.inl (by rw [List.mem_singleton.mp hx]; exact mr 5 (by decide)))) (by rw [e5]; exact D3) H0 H1 H2 (by rw [e6]; rfl) rfl
  exact loop v.length 0 (by omega) h _ (gExt.refl.weak (by simp)) (by simpa [tkO] using D) rfl rfl rfl rfl rfl
end
section
/-! ===== a state in plain numbers; its plurals ===== -/
/-- nouns, irregular words, their plurals, dies, heaps, struck, melted -/
abbrev Sn_ : Type := List (List Nat) × List (List Nat) × List (List Nat) × Dl_ × Hn_ × Nat × Nat
def sL (x : Sn_) : Sl_ := (x.1, x.2.1, x.2.2.1, x.2.2.2.1, hL x.2.2.2.2.1, nI x.2.2.2.2.2.1, nI x.2.2.2.2.2.2)
def stN (h : Hp_) (r : Nat → Nat) (x : Sn_) : Prop := stR h r (sL x) ∧ (∀ y ∈ x.2.2.2.2.1, y.2.1 < 2 ^ 30 ∧ y.2.2 < 2 ^ 30) ∧ 0 < x.2.2.2.1.1.length
theorem stN.keep {h h' : Hp_} {S A : List Nat} {r : Nat → Nat} {x : Sn_} (H : stN h r x) (e : gExt h h' S A) (hs : ∀ k, k < 24 → r k ∉ S) : stN h' r x := ⟨H.1.keep e hs, H.2⟩
theorem stN.he {h : Hp_} {r : Nat → Nat} {x : Sn_} (H : stN h r x) : heN h (fun k => r (18 + k)) x.2.2.2.2.1 := ⟨H.1.2.2.2.2.2.1, H.2.1⟩
/-- the plural of a word -/
def plS (x : Sn_) (w : List Nat) : List Nat := match fst (fun i => decide (x.2.1.getD i [] = w)) x.2.1.length with
  | some i => x.2.2.1.getD i []
  | none => prD x.2.2.2.1 (chD x.2.2.2.1 w) w
theorem fst_lt {P : Nat → Bool} {n i : Nat} (h : fst P n = some i) : i < n := by
  unfold fst at h
  rw [List.find?_range_eq_some] at h
  exact List.mem_range.mp h.2.1
theorem chD_lt {v : Dl_} {w : List Nat} (h : 0 < v.1.length) : chD v w < v.1.length := by
  have := chG_lt (v := v) (w := w) (k := v.1.length - 1)
  unfold chD
  omega

set_option maxHeartbeats 4000000 in
set_option maxRecDepth 100000 in
theorem C_6_makePlural {r : Nat → Nat} {x : Sn_} {aw lw : Nat} {w : List Nat} {h : Hp_} {Q : Ot_ → Hp_ → Prop} (D : stN h r x) (W : wdR h aw lw w) (hw : w.length ≤ 12) (n0 : aw ≠ lw) (o : ∀ k, k < 24 → r k ≠ aw ∧ r k ≠ lw) (k : ∀ h', gExt h h' [aw, lw] [] → wdR h' aw lw (plS x w) → Q (.inl none) h') : gG 5 220 0 0 M_6_makePlural 0 (lv_args 0 [.ref (r 0), .ref aw]) [] h Q := by
  obtain ⟨v0, W1, W2, W3, DD, HH, l1⟩ := id D.1
  have iwl := W2.1
  refine g_aloadn M_6_makePlural d_6_makePlural_0 (by first | rfl | assumption) ?_
  refine g_get M_6_makePlural d_6_makePlural_1 fl_6_20 (by assumption) (by rfl) ?_
  refine g_aloadn M_6_makePlural d_6_makePlural_4 (by first | rfl | assumption) ?_
  refine gc_V M_6_makePlural 0 0 [.ref aw] [] d_6_makePlural_5 cv_6_59 W2.2.2.1 (by rfl) (by rfl) (Nat.le_of_ble_eq_true (by rfl)) (Nat.le_of_ble_eq_true (by rfl)) (by decide) (by decide) (by decide) (by decide) (C_8_find (by decide) (by decide) W2 W ?_)
  show gG _ _ _ _ _ _ _ _ _ _
  refine g_istoren M_6_makePlural d_6_makePlural_8 (by decide) (by first | rfl | (simp only [gc]; simp [*])) ?_
  refine g_iloadn M_6_makePlural d_6_makePlural_9 (by first | rfl | assumption) ?_
  refine g_iconst M_6_makePlural (v := -1) d_6_makePlural_10 (by decide) ?_
  cases e : fst (fun i => decide ((sL x).2.1.getD i [] = w)) (sL x).2.1.length with
  | some i =>
    have il : i < (sL x).2.1.length := fst_lt e
    have ep : plS x w = (sL x).2.2.1.getD i [] := by unfold plS; rw [show fst (fun i => decide (x.2.1.getD i [] = w)) x.2.1.length = some i from e]; rfl
    have ne : ¬ oI (some i) = -1 := fun z => by
      have z2 : nI i < 0 := by rw [show nI i = -1 from z]; decide
      exact nI_pos (by omega) z2
    refine g_icmp_eq M_6_makePlural (tgt := 26) d_6_makePlural_11 (by decide) (fun c => absurd c ne) (fun _ => ?_)
    refine g_aloadn M_6_makePlural d_6_makePlural_14 (by first | rfl | assumption) ?_
    refine g_get M_6_makePlural d_6_makePlural_15 fl_6_23 (by assumption) (by rfl) ?_
    refine g_iloadn M_6_makePlural d_6_makePlural_18 (by first | rfl | assumption) ?_
    refine g_aloadn M_6_makePlural d_6_makePlural_19 (by first | rfl | assumption) ?_
    refine gc_V M_6_makePlural 0 0 [.int (nI i), .ref aw] [] d_6_makePlural_20 cv_6_51 W3.2.2.1 (by rfl) (by rfl) (Nat.le_of_ble_eq_true (by rfl)) (Nat.le_of_ble_eq_true (by rfl)) (by decide) (by decide) (by decide) (by decide) (C_8_load (by decide) (by decide) W3 (by omega) W n0 (fun y hy q => by simp only [List.mem_cons, List.not_mem_nil, or_false] at hy q; rcases hy with rfl | rfl | rfl <;> rcases q with q | q <;> first | exact (o _ (by decide)).1 q | exact (o _ (by decide)).2 q) (fun h1 e1 X1 => ?_))
    show gG _ _ _ _ _ _ _ _ _ _
    refine g_goto M_6_makePlural (tgt := 42) d_6_makePlural_23 (by decide) ?_
    exact g_vret M_6_makePlural d_6_makePlural_42 rfl (k h1 e1 (by rw [ep]; exact X1))
  | none =>
    have ep : plS x w = prD x.2.2.2.1 (chD x.2.2.2.1 w) w := by unfold plS; rw [show fst (fun i => decide (x.2.1.getD i [] = w)) x.2.1.length = none from e]
    refine g_icmp_eq M_6_makePlural (tgt := 26) d_6_makePlural_11 (by decide) (fun _ => ?_) (fun c => absurd rfl c)
    refine g_aloadn M_6_makePlural d_6_makePlural_26 (by first | rfl | assumption) ?_
    refine g_get M_6_makePlural d_6_makePlural_27 fl_6_29 (by assumption) (by rfl) ?_
    refine g_aloadn M_6_makePlural d_6_makePlural_30 (by first | rfl | assumption) ?_
    refine g_get M_6_makePlural d_6_makePlural_31 fl_6_29 (by assumption) (by rfl) ?_
    refine g_aloadn M_6_makePlural d_6_makePlural_34 (by first | rfl | assumption) ?_
    refine gc_V M_6_makePlural 0 0 [.ref aw] [.ref (r 10)] d_6_makePlural_35 cv_6_63 DD.1 (by rfl) (by rfl) (Nat.le_of_ble_eq_true (by rfl)) (Nat.le_of_ble_eq_true (by rfl)) (by decide) (by decide) (by decide) (by decide) (C_0_choose DD D.2.2 W ?_)
    show gG _ _ _ _ _ _ _ _ _ _
    refine g_aloadn M_6_makePlural d_6_makePlural_38 (by first | rfl | assumption) ?_
    refine gc_V M_6_makePlural 0 0 [.int _, .ref aw] [] d_6_makePlural_39 cv_6_66 DD.1 (by rfl) (by rfl) (Nat.le_of_ble_eq_true (by rfl)) (Nat.le_of_ble_eq_true (by rfl)) (by decide) (by decide) (by decide) (by decide) (C_0_press DD (chD_lt D.2.2) W hw n0 (fun y hy => o _ (by omega)) (fun h1 e1 X1 => ?_))
    show gG _ _ _ _ _ _ _ _ _ _
    exact g_vret M_6_makePlural d_6_makePlural_42 rfl (k h1 e1 (by rw [ep]; exact X1))
set_option maxHeartbeats 4000000 in
set_option maxRecDepth 100000 in
theorem C_6_loadPlural {r : Nat → Nat} {x : Sn_} {aw lw : Nat} {w : List Nat} {h : Hp_} {Q : Ot_ → Hp_ → Prop} {n : Nat} (D : stN h r x) (hn : n < 2 ^ 31) (W : wdR h aw lw w) (n0 : aw ≠ lw) (o : ∀ k, k < 24 → r k ≠ aw ∧ r k ≠ lw) (k : ∀ h', gExt h h' [aw, lw] [] → wdR h' aw lw (plS x (x.1.getD n [])) → Q (.inl none) h') : gG 6 260 0 0 M_6_loadPlural 0 (lv_args 0 [.ref (r 0), .int (nI n), .ref aw]) [] h Q := by
  obtain ⟨v0, W1, W2, W3, DD, HH, l1⟩ := id D.1
  have off : ∀ k, k < 24 → r k ∉ [aw, lw] := fun k hk => by simpa using o k hk
  refine g_aloadn M_6_loadPlural d_6_loadPlural_0 (by first | rfl | assumption) ?_
  refine g_get M_6_loadPlural d_6_loadPlural_1 fl_6_14 (by assumption) (by rfl) ?_
  refine g_iloadn M_6_loadPlural d_6_loadPlural_4 (by first | rfl | assumption) ?_
  refine g_aloadn M_6_loadPlural d_6_loadPlural_5 (by first | rfl | assumption) ?_
  refine gc_V M_6_loadPlural 0 0 [.int (nI n), .ref aw] [] d_6_loadPlural_6 cv_6_51 W1.2.2.1 (by rfl) (by rfl) (Nat.le_of_ble_eq_true (by rfl)) (Nat.le_of_ble_eq_true (by rfl)) (by decide) (by decide) (by decide) (by decide) (C_8_load (by decide) (by decide) W1 hn W n0 (fun y hy q => by simp only [List.mem_cons, List.not_mem_nil, or_false] at hy q; rcases hy with rfl | rfl | rfl <;> rcases q with q | q <;> first | exact (o _ (by decide)).1 q | exact (o _ (by decide)).2 q) (fun h1 e1 X1 => ?_))
  have D1 := D.keep e1 off
  show gG _ _ _ _ _ _ _ _ _ _
  refine g_aloadn M_6_loadPlural d_6_loadPlural_9 (by first | rfl | assumption) ?_
  refine g_aloadn M_6_loadPlural d_6_loadPlural_10 (by first | rfl | assumption) ?_
  refine gc_V M_6_loadPlural 0 0 [.ref aw] [] d_6_loadPlural_11 cv_6_55 D1.1.1 (by rfl) (by rfl) (Nat.le_of_ble_eq_true (by rfl)) (Nat.le_of_ble_eq_true (by rfl)) (by decide) (by decide) (by decide) (by decide) (C_6_makePlural D1 X1 (wd_get W1.2.1).1 n0 o (fun h2 e2 X2 => ?_))
  show gG _ _ _ _ _ _ _ _ _ _
  exact g_vret M_6_loadPlural d_6_loadPlural_14 rfl (k h2 (by simpa using e1.trans e2 (fun y hy => Or.inl hy)) X2)
set_option maxHeartbeats 4000000 in
set_option maxRecDepth 100000 in
theorem C_6_isStale {r : Nat → Nat} {x : Sn_} {aw lw : Nat} {w : List Nat} {h : Hp_} {Q : Ot_ → Hp_ → Prop} {i : Nat} (D : stN h r x) (hi : i < x.2.2.2.2.1.length) (W : wdR h aw lw w) (n0 : aw ≠ lw) (o : ∀ k, k < 24 → r k ≠ aw ∧ r k ≠ lw) (k : ∀ h' w', gExt h h' [aw, lw] [] → wdR h' aw lw w' → Q (.inl (some (.int (bI (!(decide ((hx x.2.2.2.2.1 i).1 = plS x (x.1.getD (hx x.2.2.2.2.1 i).2.1 []))))))) ) h') : gG 6 260 0 0 M_6_isStale 0 (lv_args 0 [.ref (r 0), .int (nI i), .ref aw]) [] h Q := by
  obtain ⟨v0, W1, W2, W3, DD, HH, l1⟩ := id D.1
  have off : ∀ k, k < 24 → r k ∉ [aw, lw] := fun k hk => by simpa using o k hk
  have ob := (D.2.1 _ (hx_mem hi)).1
  refine g_aloadn M_6_isStale d_6_isStale_0 (by first | rfl | assumption) ?_
  refine g_get M_6_isStale d_6_isStale_1 fl_6_14 (by assumption) (by rfl) ?_
  refine g_aloadn M_6_isStale d_6_isStale_4 (by first | rfl | assumption) ?_
  refine g_get M_6_isStale d_6_isStale_5 fl_6_36 (by assumption) (by rfl) ?_
  refine g_iloadn M_6_isStale d_6_isStale_8 (by first | rfl | assumption) ?_
  refine gc_V M_6_isStale 0 0 [.int (nI i)] [_] d_6_isStale_9 cv_6_69 HH.1 (by rfl) (by rfl) (Nat.le_of_ble_eq_true (by rfl)) (Nat.le_of_ble_eq_true (by rfl)) (by decide) (by decide) (by decide) (by decide) (C_2_ownerOf D.he hi ?_)
  show gG _ _ _ _ _ _ _ _ _ _
  refine g_aloadn M_6_isStale d_6_isStale_12 (by first | rfl | assumption) ?_
  refine gc_V M_6_isStale 0 0 [.int (nI (hx x.2.2.2.2.1 i).2.1), .ref aw] [] d_6_isStale_13 cv_6_51 W1.2.2.1 (by rfl) (by rfl) (Nat.le_of_ble_eq_true (by rfl)) (Nat.le_of_ble_eq_true (by rfl)) (by decide) (by decide) (by decide) (by decide) (C_8_load (by decide) (by decide) W1 (by omega) W n0 (fun y hy q => by simp only [List.mem_cons, List.not_mem_nil, or_false] at hy q; rcases hy with rfl | rfl | rfl <;> rcases q with q | q <;> first | exact (o _ (by decide)).1 q | exact (o _ (by decide)).2 q) (fun h1 e1 X1 => ?_))
  have D1 := D.keep e1 off
  show gG _ _ _ _ _ _ _ _ _ _
  refine g_aloadn M_6_isStale d_6_isStale_16 (by first | rfl | assumption) ?_
  refine g_aloadn M_6_isStale d_6_isStale_17 (by first | rfl | assumption) ?_
  refine gc_V M_6_isStale 0 0 [.ref aw] [] d_6_isStale_18 cv_6_55 D1.1.1 (by rfl) (by rfl) (Nat.le_of_ble_eq_true (by rfl)) (Nat.le_of_ble_eq_true (by rfl)) (by decide) (by decide) (by decide) (by decide) (C_6_makePlural D1 X1 (wd_get W1.2.1).1 n0 o (fun h2 e2 X2 => ?_))
  have D2 := D1.keep e2 off
  obtain ⟨v02, -, -, -, -, HH2, -⟩ := id D2.1
  show gG _ _ _ _ _ _ _ _ _ _
  refine g_aloadn M_6_isStale d_6_isStale_21 (by first | rfl | assumption) ?_
  refine g_get M_6_isStale d_6_isStale_22 fl_6_36 (by assumption) (by rfl) ?_
  refine g_iloadn M_6_isStale d_6_isStale_25 (by first | rfl | assumption) ?_
  refine g_aloadn M_6_isStale d_6_isStale_26 (by first | rfl | assumption) ?_
  refine gc_V M_6_isStale 0 0 [.int (nI i), .ref aw] [] d_6_isStale_27 cv_6_73 HH2.1 (by rfl) (by rfl) (Nat.le_of_ble_eq_true (by rfl)) (Nat.le_of_ble_eq_true (by rfl)) (by decide) (by decide) (by decide) (by decide) (C_2_bears D2.he hi X2 ?_)
  show gG _ _ _ _ _ _ _ _ _ _
  have k2 := k h2 _ (by simpa using e1.trans e2 (fun y hy => Or.inl hy)) X2
  have es : (sL x).1 = x.1 := rfl
  rw [es]
  cases e : decide ((hx x.2.2.2.2.1 i).1 = plS x (x.1.getD (hx x.2.2.2.2.1 i).2.1 [])) with
  | false =>
    rw [e] at k2
    refine g_if_ne M_6_isStale (tgt := 37) d_6_isStale_30 (by decide) (fun c9 => absurd rfl c9) (fun _ => ?_)
    refine g_iconst M_6_isStale (v := nI 1) d_6_isStale_33 (by decide) ?_
    refine g_goto M_6_isStale (tgt := 38) d_6_isStale_34 (by decide) ?_
    exact g_iret M_6_isStale d_6_isStale_38 rfl (by decide) k2
  | true =>
    rw [e] at k2
    refine g_if_ne M_6_isStale (tgt := 37) d_6_isStale_30 (by decide) (fun _ => ?_) (fun c9 => absurd c9 (by decide))
    refine g_iconst M_6_isStale (v := nI 0) d_6_isStale_37 (by decide) ?_
    exact g_iret M_6_isStale d_6_isStale_38 rfl (by decide) k2
end
section
set_option maxHeartbeats 4000000 in
set_option maxRecDepth 100000 in
theorem C_8_putW {a la na rows width i aw lw : Nat} {ws : List (List Nat)} {w : List Nat} {h : Hp_} {Q : Ot_ → Hp_ → Prop} (hr : rows ≤ 30) (hw : width ≤ 16) (R : wsR h a la na rows width ws) (hi : i < ws.length) (D : wdR h aw lw w) (hlw : w.length ≤ width) (n1 : a ≠ la) (n2 : a ≠ na) (n3 : la ≠ na) (n4 : aw ≠ la ∧ aw ≠ na) (n5 : lw ≠ la ∧ lw ≠ na)
    (k : ∀ h', gExt h h' [la, na] [] → wsR h' a la na rows width (ws.set i w) → Q (.inl none) h') : gG 2 100 0 0 M_8_put 0 (lv_args 0 [.ref a, .int (nI i), .ref aw]) [] h Q := by
  obtain ⟨p1, p2, p3, f, g, p4, p5, p6, p7⟩ := id R
  refine C_8_put hr hw p3 p4 p5 p6 hi p1 D hlw n1 n2 n3 n4 n5 (fun h' f' g' e1 q1 q2 q3 q4 q5 q6 q7 => k h' e1 ⟨by rw [List.length_set]; exact p1, fun y hy => ?_, by rw [List.length_set]; exact e1.keep p3 (by simpa using ⟨n1, n2⟩), f', g', q1, q2, q3, fun r hr9 => ?_⟩)
  · rcases List.mem_or_eq_of_mem_set hy with z | z
    · exact p2 y z
    · rw [z]; exact ⟨hlw, D.1.2⟩
  · rw [List.length_set] at hr9
    have eg : (ws.set i w).getD r [] = if r = i then w else ws.getD r [] := by
      rw [List.getD_eq_getElem?_getD, List.getElem?_set]
      by_cases z : i = r
      · subst z
        rw [if_pos rfl, if_pos hi, if_pos rfl]
        rfl
      · rw [if_neg z, if_neg (fun y => z y.symm), List.getD_eq_getElem?_getD]
    rw [eg]
    by_cases z : r = i
    · subst z
      rw [if_pos rfl]
      exact ⟨q4, fun j hj => q6 j (by omega)⟩
    · rw [if_neg z]
      refine ⟨by rw [q5 r z]; exact (p7 r hr9).1, fun j hj => ?_⟩
      have hjw : j < width := Nat.lt_of_lt_of_le hj (wd_get p2).1
      have hh : r * width + j < i * width ∨ i * width + width ≤ r * width + j := by
        rcases Nat.lt_or_gt_of_ne z with y | y
        · have := Nat.mul_le_mul_right width (show r + 1 ≤ i by omega)
          rw [Nat.add_mul, Nat.one_mul] at this
          exact Or.inl (by omega)
        · have := Nat.mul_le_mul_right width (show i + 1 ≤ r by omega)
          rw [Nat.add_mul, Nat.one_mul] at this
          exact Or.inr (by omega)
      rw [q7 _ hh]
      exact (p7 r hr9).2 j hj
end
section
/-! ===== a state takes an order ===== -/
def acS (x : Sn_) (kd cd : Int32) (w1 w2 : List Nat) : Option Sn_ :=
  if kd = nI 2 then (if x.2.2.2.1.1.length < 12 then some (x.1, x.2.1, x.2.2.1, (x.2.2.2.1.1 ++ [w1], x.2.2.2.1.2.1 ++ [w2], x.2.2.2.1.2.2 ++ [cd]), x.2.2.2.2) else none)
  else if kd = 0 then (if (fst (fun i => decide (x.1.getD i [] = w1)) x.1.length).isSome then none else if x.1.length < 20 then some (x.1 ++ [w1], x.2) else none)
  else match fst (fun i => decide (x.2.1.getD i [] = w1)) x.2.1.length with
    | none => if x.2.1.length < 10 then some (x.1, x.2.1 ++ [w1], x.2.2.1 ++ [w2], x.2.2.2) else none
    | some i => some (x.1, x.2.1, x.2.2.1.set i w2, x.2.2.2)
theorem oI_ne {o : Option Nat} {n : Nat} (h : ∀ i, o = some i → i < n) (hn : n ≤ 30) (hs : o.isSome = true) : ¬ oI o = -1 := by
  cases o with
  | none => cases hs
  | some i =>
    intro z
    have z2 : nI i < 0 := by rw [show nI i = -1 from z]; decide
    exact nI_pos (by have := h i rfl; omega) z2

set_option maxHeartbeats 4000000 in
set_option maxRecDepth 100000 in
theorem C_6_accept {r : Nat → Nat} {x : Sn_} {a f lf s ls : Nat} {kd cd is2 : Int32} {w1 w2 : List Nat} {h : Hp_} {Q : Ot_ → Hp_ → Prop} (sp : sepR r 24) (D : stN h r x) (O : orR h a f lf s ls kd cd is2 w1 w2) (len4 : kd = nI 2 → w1.length ≤ 4 ∧ w2.length ≤ 4) (len12 : w1.length ≤ 12 ∧ w2.length ≤ 12) (oo : ∀ k, k < 24 → r k ≠ a ∧ r k ≠ f ∧ r k ≠ lf ∧ r k ≠ s ∧ r k ≠ ls) (kf : acS x kd cd w1 w2 = none → Q (.inl (some (.int 0))) h) (kt : ∀ x', acS x kd cd w1 w2 = some x' → ∀ h', gExt h h' ((List.range 24).map r) [] → stN h' r x' → Q (.inl (some (.int 1))) h') : gG 5 220 0 0 M_6_accept 0 (lv_args 0 [.ref (r 0), .ref a]) [] h Q := by
  obtain ⟨v0, W1, W2, W3, DD, HH, l1⟩ := id D.1
  have mr : ∀ k, k < 24 → r k ∈ (List.range 24).map r := fun k hk => List.mem_map.mpr ⟨k, List.mem_range.mpr hk, rfl⟩
  obtain ⟨o0, F, S⟩ := id O
  have nl := W1.1
  have il := W2.1
  refine g_aloadn M_6_accept d_6_accept_0 (by first | rfl | assumption) ?_
  refine g_get M_6_accept d_6_accept_1 fl_6_77 (by assumption) (by rfl) ?_
  refine g_iconst M_6_accept (v := nI 2) d_6_accept_4 (by decide) ?_
  by_cases k2 : kd = nI 2
  · refine g_icmp_ne M_6_accept (tgt := 28) d_6_accept_5 (by decide) (fun c => absurd k2 c) (fun _ => ?_)
    refine g_aloadn M_6_accept d_6_accept_8 (by first | rfl | assumption) ?_
    refine g_get M_6_accept d_6_accept_9 fl_6_29 (by assumption) (by rfl) ?_
    refine g_aloadn M_6_accept d_6_accept_12 (by first | rfl | assumption) ?_
    refine g_get M_6_accept d_6_accept_13 fl_6_83 (by assumption) (by rfl) ?_
    refine g_aloadn M_6_accept d_6_accept_16 (by first | rfl | assumption) ?_
    refine g_get M_6_accept d_6_accept_17 fl_6_87 (by assumption) (by rfl) ?_
    refine g_aloadn M_6_accept d_6_accept_20 (by first | rfl | assumption) ?_
    refine g_get M_6_accept d_6_accept_21 fl_6_90 (by assumption) (by rfl) ?_
    refine gc_V M_6_accept 0 0 [.ref f, .ref s, .int cd] [] d_6_accept_24 cv_6_47 DD.1 (by rfl) (by rfl) (Nat.le_of_ble_eq_true (by rfl)) (Nat.le_of_ble_eq_true (by rfl)) (by decide) (by decide) (by decide) (by decide) (C_0_add (r := fun k => r (10 + k)) (fun i j hi hj e => by have := sp _ _ (by omega) (by omega) e; omega) DD F S (len4 k2).1 (len4 k2).2 (fun k hk => (oo _ (by omega)).2.1.symm) (fun k hk => (oo _ (by omega)).2.2.1.symm) (fun k hk => (oo _ (by omega)).2.2.2.1.symm) (fun k hk => (oo _ (by omega)).2.2.2.2.symm) (fun q => ?_) (fun q h1 e1 D1 => ?_))
    · show gG _ _ _ _ _ _ _ _ _ _
      refine g_iret M_6_accept d_6_accept_27 rfl (by decide) (kf ?_)
      unfold acS
      rw [if_pos k2, if_neg (show ¬ x.2.2.2.1.1.length < 12 from Nat.not_lt.mpr q)]
    · show gG _ _ _ _ _ _ _ _ _ _
      have off : ∀ k, k < 24 → (k < 10 ∨ 18 ≤ k) → r k ∉ (List.range 8).map (fun k => r (10 + k)) := fun k hk ho => notin_map (fun j hj => sp.ne k (10 + j) hk (by omega) (by omega))
      have f1 := e1.weak (S' := (List.range 24).map r) (fun y hy => by obtain ⟨j, hj, rfl⟩ := List.mem_map.mp hy; exact mr _ (by have := List.mem_range.mp hj; omega))
      refine g_iret M_6_accept d_6_accept_27 rfl (by decide) (kt (x.1, x.2.1, x.2.2.1, (x.2.2.2.1.1 ++ [w1], x.2.2.2.1.2.1 ++ [w2], x.2.2.2.1.2.2 ++ [cd]), x.2.2.2.2) ?_ h1 f1 ⟨⟨e1.keep v0 (off 0 (by decide) (by decide)), W1.keep e1 (off 1 (by decide) (by decide)) (off 2 (by decide) (by decide)) (off 3 (by decide) (by decide)), W2.keep e1 (off 4 (by decide) (by decide)) (off 5 (by decide) (by decide)) (off 6 (by decide) (by decide)), W3.keep e1 (off 7 (by decide) (by decide)) (off 8 (by decide) (by decide)) (off 9 (by decide) (by decide)), D1, HH.keep e1 (fun k hk => off (18 + k) (by omega) (by omega)), l1⟩, D.2.1, ?_⟩)
      · unfold acS
        rw [if_pos k2, if_pos (show x.2.2.2.1.1.length < 12 from q)]
      · simp
  refine g_icmp_ne M_6_accept (tgt := 28) d_6_accept_5 (by decide) (fun _ => ?_) (fun c => absurd c k2)
  refine g_aloadn M_6_accept d_6_accept_28 (by first | rfl | assumption) ?_
  refine g_get M_6_accept d_6_accept_29 fl_6_77 (by assumption) (by rfl) ?_
  by_cases k0 : kd = 0
  · refine g_if_ne M_6_accept (tgt := 70) d_6_accept_32 (by decide) (fun c => absurd k0 c) (fun _ => ?_)
    refine g_aloadn M_6_accept d_6_accept_35 (by first | rfl | assumption) ?_
    refine g_get M_6_accept d_6_accept_36 fl_6_14 (by assumption) (by rfl) ?_
    refine g_aloadn M_6_accept d_6_accept_39 (by first | rfl | assumption) ?_
    refine g_get M_6_accept d_6_accept_40 fl_6_83 (by assumption) (by rfl) ?_
    refine gc_V M_6_accept 0 0 [.ref f] [] d_6_accept_43 cv_6_59 W1.2.2.1 (by rfl) (by rfl) (Nat.le_of_ble_eq_true (by rfl)) (Nat.le_of_ble_eq_true (by rfl)) (by decide) (by decide) (by decide) (by decide) (C_8_find (by decide) (by decide) W1 F ?_)
    show gG _ _ _ _ _ _ _ _ _ _
    refine g_iconst M_6_accept (v := -1) d_6_accept_46 (by decide) ?_
    have zero : acS x kd cd w1 w2 = none → gG 5 220 0 0 M_6_accept 68 (lv_args 0 [.ref (r 0), .ref a]) [] h Q := by
      intro e
      refine g_iconst M_6_accept (v := nI 0) d_6_accept_68 (by decide) ?_
      exact g_iret M_6_accept d_6_accept_69 rfl (by decide) (kf e)
    cases e : (fst (fun i => decide (x.1.getD i [] = w1)) x.1.length).isSome with
    | true =>
      have ne := oI_ne (n := x.1.length) (fun i hi => fst_lt hi) (Nat.le_trans nl (by decide)) e
      refine g_icmp_ne M_6_accept (tgt := 68) d_6_accept_47 (by decide) (fun _ => zero ?_) (fun c => absurd c ne)
      unfold acS
      rw [if_neg k2, if_pos k0, e]
      rfl
    | false =>
      have en : fst (fun i => decide (x.1.getD i [] = w1)) x.1.length = none := by simpa using e
      refine g_icmp_ne M_6_accept (tgt := 68) d_6_accept_47 (by decide) (fun c => absurd (by rw [show fst (fun i => decide ((sL x).1.getD i [] = w1)) (sL x).1.length = none from en]; rfl) c) (fun _ => ?_)
      refine g_aloadn M_6_accept d_6_accept_50 (by first | rfl | assumption) ?_
      refine g_get M_6_accept d_6_accept_51 fl_6_14 (by assumption) (by rfl) ?_
      refine g_aloadn M_6_accept d_6_accept_54 (by first | rfl | assumption) ?_
      refine g_get M_6_accept d_6_accept_55 fl_6_83 (by assumption) (by rfl) ?_
      refine gc_V M_6_accept 0 0 [.ref f] [] d_6_accept_58 cv_6_93 W1.2.2.1 (by rfl) (by rfl) (Nat.le_of_ble_eq_true (by rfl)) (Nat.le_of_ble_eq_true (by rfl)) (by decide) (by decide) (by decide) (by decide) (C_8_add (by decide) (by decide) W1 F len12.1 (sp.ne 1 2 (by decide) (by decide) (by decide)) (sp.ne 1 3 (by decide) (by decide) (by decide)) (sp.ne 2 3 (by decide) (by decide) (by decide)) ⟨(oo 1 (by decide)).2.1.symm, (oo 2 (by decide)).2.1.symm, (oo 3 (by decide)).2.1.symm⟩ ⟨(oo 1 (by decide)).2.2.1.symm, (oo 2 (by decide)).2.2.1.symm, (oo 3 (by decide)).2.2.1.symm⟩ (fun q => ?_) (fun q h1 e1 X1 => ?_))
      · show gG _ _ _ _ _ _ _ _ _ _
        refine g_if_eq M_6_accept (tgt := 68) d_6_accept_61 (by decide) (fun _ => zero ?_) (fun c => absurd rfl c)
        unfold acS
        rw [if_neg k2, if_pos k0, e, if_neg (by decide), if_neg (show ¬ x.1.length < 20 from Nat.not_lt.mpr q)]
      · show gG _ _ _ _ _ _ _ _ _ _
        refine g_if_eq M_6_accept (tgt := 68) d_6_accept_61 (by decide) (fun c => absurd c (by decide)) (fun _ => ?_)
        refine g_iconst M_6_accept (v := nI 1) d_6_accept_64 (by decide) ?_
        refine g_goto M_6_accept (tgt := 69) d_6_accept_65 (by decide) ?_
        have f1 := e1.weak (S' := (List.range 24).map r) (fun y hy => by simp only [List.mem_cons, List.not_mem_nil, or_false] at hy; rcases hy with rfl | rfl | rfl <;> exact mr _ (by decide))
        refine g_iret M_6_accept d_6_accept_69 rfl (by decide) (kt (x.1 ++ [w1], x.2) ?_ h1 f1 ⟨⟨e1.keep v0 (fun q => by simp only [List.mem_cons, List.not_mem_nil, or_false] at q; rcases q with q | q | q <;> exact absurd q (sp.ne _ _ (by decide) (by decide) (by decide))), X1, W2.keep e1 (fun q => by simp only [List.mem_cons, List.not_mem_nil, or_false] at q; rcases q with q | q | q <;> exact absurd q (sp.ne _ _ (by decide) (by decide) (by decide))) (fun q => by simp only [List.mem_cons, List.not_mem_nil, or_false] at q; rcases q with q | q | q <;> exact absurd q (sp.ne _ _ (by decide) (by decide) (by decide))) (fun q => by simp only [List.mem_cons, List.not_mem_nil, or_false] at q; rcases q with q | q | q <;> exact absurd q (sp.ne _ _ (by decide) (by decide) (by decide))), W3.keep e1 (fun q => by simp only [List.mem_cons, List.not_mem_nil, or_false] at q; rcases q with q | q | q <;> exact absurd q (sp.ne _ _ (by decide) (by decide) (by decide))) (fun q => by simp only [List.mem_cons, List.not_mem_nil, or_false] at q; rcases q with q | q | q <;> exact absurd q (sp.ne _ _ (by decide) (by decide) (by decide))) (fun q => by simp only [List.mem_cons, List.not_mem_nil, or_false] at q; rcases q with q | q | q <;> exact absurd q (sp.ne _ _ (by decide) (by decide) (by decide))), DD.keep e1 (fun k hk q => by simp only [List.mem_cons, List.not_mem_nil, or_false] at q; rcases q with q | q | q <;> exact absurd q (sp.ne _ _ (by omega) (by decide) (by omega))), HH.keep e1 (fun k hk q => by simp only [List.mem_cons, List.not_mem_nil, or_false] at q; rcases q with q | q | q <;> exact absurd q (sp.ne _ _ (by omega) (by decide) (by omega))), l1⟩, D.2.1, D.2.2⟩)
        unfold acS
        rw [if_neg k2, if_pos k0, e, if_neg (by decide), if_pos (show x.1.length < 20 from q)]
  refine g_if_ne M_6_accept (tgt := 70) d_6_accept_32 (by decide) (fun _ => ?_) (fun c => absurd c k0)
  refine g_aloadn M_6_accept d_6_accept_70 (by first | rfl | assumption) ?_
  refine g_get M_6_accept d_6_accept_71 fl_6_20 (by assumption) (by rfl) ?_
  refine g_aloadn M_6_accept d_6_accept_74 (by first | rfl | assumption) ?_
  refine g_get M_6_accept d_6_accept_75 fl_6_83 (by assumption) (by rfl) ?_
  refine gc_V M_6_accept 0 0 [.ref f] [] d_6_accept_78 cv_6_59 W2.2.2.1 (by rfl) (by rfl) (Nat.le_of_ble_eq_true (by rfl)) (Nat.le_of_ble_eq_true (by rfl)) (by decide) (by decide) (by decide) (by decide) (C_8_find (by decide) (by decide) W2 F ?_)
  show gG _ _ _ _ _ _ _ _ _ _
  refine g_istoren M_6_accept d_6_accept_81 (by decide) (by first | rfl | (simp only [gc]; simp [*])) ?_
  refine g_iloadn M_6_accept d_6_accept_82 (by first | rfl | assumption) ?_
  refine g_iconst M_6_accept (v := -1) d_6_accept_83 (by decide) ?_
  cases e : fst (fun i => decide (x.2.1.getD i [] = w1)) x.2.1.length with
  | none =>
    have e9 : fst (fun i => decide ((sL x).2.1.getD i [] = w1)) (sL x).2.1.length = none := e
    rw [e9]
    refine g_icmp_ne M_6_accept (tgt := 121) d_6_accept_84 (by decide) (fun c => absurd rfl c) (fun _ => ?_)
    have zero : acS x kd cd w1 w2 = none → ∀ lv : List (Nat × Value), gG 5 220 0 0 M_6_accept 119 lv [] h Q := by
      intro e lv
      refine g_iconst M_6_accept (v := nI 0) d_6_accept_119 (by decide) ?_
      exact g_iret M_6_accept d_6_accept_120 rfl (by decide) (kf e)
    refine g_aloadn M_6_accept d_6_accept_87 (by first | rfl | assumption) ?_
    refine g_get M_6_accept d_6_accept_88 fl_6_20 (by assumption) (by rfl) ?_
    refine g_aloadn M_6_accept d_6_accept_91 (by first | rfl | assumption) ?_
    refine g_get M_6_accept d_6_accept_92 fl_6_83 (by assumption) (by rfl) ?_
    refine gc_V M_6_accept 0 0 [.ref f] [] d_6_accept_95 cv_6_93 W2.2.2.1 (by rfl) (by rfl) (Nat.le_of_ble_eq_true (by rfl)) (Nat.le_of_ble_eq_true (by rfl)) (by decide) (by decide) (by decide) (by decide) (C_8_add (by decide) (by decide) W2 F len12.1 (sp.ne 4 5 (by decide) (by decide) (by decide)) (sp.ne 4 6 (by decide) (by decide) (by decide)) (sp.ne 5 6 (by decide) (by decide) (by decide)) ⟨(oo 4 (by decide)).2.1.symm, (oo 5 (by decide)).2.1.symm, (oo 6 (by decide)).2.1.symm⟩ ⟨(oo 4 (by decide)).2.2.1.symm, (oo 5 (by decide)).2.2.1.symm, (oo 6 (by decide)).2.2.1.symm⟩ (fun q => ?_) (fun q h1 e1 X1 => ?_))
    · show gG _ _ _ _ _ _ _ _ _ _
      refine g_if_eq M_6_accept (tgt := 119) d_6_accept_98 (by decide) (fun _ => zero ?_ _) (fun c => absurd rfl c)
      unfold acS
      rw [if_neg k2, if_neg k0, e]
      exact if_neg (show ¬ x.2.1.length < 10 from Nat.not_lt.mpr q)
    · show gG _ _ _ _ _ _ _ _ _ _
      refine g_if_eq M_6_accept (tgt := 119) d_6_accept_98 (by decide) (fun c => absurd c (by decide)) (fun _ => ?_)
      have v01 := e1.keep v0 (fun q => by simp only [List.mem_cons, List.not_mem_nil, or_false] at q; rcases q with q | q | q <;> exact absurd q (sp.ne _ _ (by decide) (by decide) (by decide)))
      have Y3 := W3.keep e1 (fun q => by simp only [List.mem_cons, List.not_mem_nil, or_false] at q; rcases q with q | q | q <;> exact absurd q (sp.ne _ _ (by decide) (by decide) (by decide))) (fun q => by simp only [List.mem_cons, List.not_mem_nil, or_false] at q; rcases q with q | q | q <;> exact absurd q (sp.ne _ _ (by decide) (by decide) (by decide))) (fun q => by simp only [List.mem_cons, List.not_mem_nil, or_false] at q; rcases q with q | q | q <;> exact absurd q (sp.ne _ _ (by decide) (by decide) (by decide)))
      have o01 := e1.keep o0 (by simpa using ⟨(oo 4 (by decide)).1.symm, (oo 5 (by decide)).1.symm, (oo 6 (by decide)).1.symm⟩)
      have S1 := S.keep e1 (by simpa using ⟨(oo 4 (by decide)).2.2.2.1.symm, (oo 5 (by decide)).2.2.2.1.symm, (oo 6 (by decide)).2.2.2.1.symm⟩) (by simpa using ⟨(oo 4 (by decide)).2.2.2.2.symm, (oo 5 (by decide)).2.2.2.2.symm, (oo 6 (by decide)).2.2.2.2.symm⟩)
      refine g_aloadn M_6_accept d_6_accept_101 (by first | rfl | assumption) ?_
      refine g_get M_6_accept d_6_accept_102 fl_6_23 (by assumption) (by rfl) ?_
      refine g_aloadn M_6_accept d_6_accept_105 (by first | rfl | assumption) ?_
      refine g_get M_6_accept d_6_accept_106 fl_6_87 (by assumption) (by rfl) ?_
      refine gc_V M_6_accept 0 0 [.ref s] [] d_6_accept_109 cv_6_93 Y3.2.2.1 (by rfl) (by rfl) (Nat.le_of_ble_eq_true (by rfl)) (Nat.le_of_ble_eq_true (by rfl)) (by decide) (by decide) (by decide) (by decide) (C_8_add (by decide) (by decide) Y3 S1 len12.2 (sp.ne 7 8 (by decide) (by decide) (by decide)) (sp.ne 7 9 (by decide) (by decide) (by decide)) (sp.ne 8 9 (by decide) (by decide) (by decide)) ⟨(oo 7 (by decide)).2.2.2.1.symm, (oo 8 (by decide)).2.2.2.1.symm, (oo 9 (by decide)).2.2.2.1.symm⟩ ⟨(oo 7 (by decide)).2.2.2.2.symm, (oo 8 (by decide)).2.2.2.2.symm, (oo 9 (by decide)).2.2.2.2.symm⟩ (fun q9 => absurd (show (sL x).2.1.length < 10 from q) (by rw [← l1]; omega)) (fun q9 h2 e2 X2 => ?_))
      show gG _ _ _ _ _ _ _ _ _ _
      refine g_if_eq M_6_accept (tgt := 119) d_6_accept_112 (by decide) (fun c => absurd c (by decide)) (fun _ => ?_)
      refine g_iconst M_6_accept (v := nI 1) d_6_accept_115 (by decide) ?_
      refine g_goto M_6_accept (tgt := 120) d_6_accept_116 (by decide) ?_
      have f1 := e1.weak (S' := (List.range 24).map r) (fun y hy => by simp only [List.mem_cons, List.not_mem_nil, or_false] at hy; rcases hy with rfl | rfl | rfl <;> exact mr _ (by decide))
      have f2 := f1.trans (e2.weak (S' := (List.range 24).map r) (fun y hy => by simp only [List.mem_cons, List.not_mem_nil, or_false] at hy; rcases hy with rfl | rfl | rfl <;> exact mr _ (by decide))) (fun y hy => Or.inl hy)
      refine g_iret M_6_accept d_6_accept_120 rfl (by decide) (kt (x.1, x.2.1 ++ [w1], x.2.2.1 ++ [w2], x.2.2.2) ?_ h2 (by simpa using f2) ⟨⟨e2.keep v01 (fun q => by simp only [List.mem_cons, List.not_mem_nil, or_false] at q; rcases q with q | q | q <;> exact absurd q (sp.ne _ _ (by decide) (by decide) (by decide))), (W1.keep e1 (fun q => by simp only [List.mem_cons, List.not_mem_nil, or_false] at q; rcases q with q | q | q <;> exact absurd q (sp.ne _ _ (by decide) (by decide) (by decide))) (fun q => by simp only [List.mem_cons, List.not_mem_nil, or_false] at q; rcases q with q | q | q <;> exact absurd q (sp.ne _ _ (by decide) (by decide) (by decide))) (fun q => by simp only [List.mem_cons, List.not_mem_nil, or_false] at q; rcases q with q | q | q <;> exact absurd q (sp.ne _ _ (by decide) (by decide) (by decide)))).keep e2 (fun q => by simp only [List.mem_cons, List.not_mem_nil, or_false] at q; rcases q with q | q | q <;> exact absurd q (sp.ne _ _ (by decide) (by decide) (by decide))) (fun q => by simp only [List.mem_cons, List.not_mem_nil, or_false] at q; rcases q with q | q | q <;> exact absurd q (sp.ne _ _ (by decide) (by decide) (by decide))) (fun q => by simp only [List.mem_cons, List.not_mem_nil, or_false] at q; rcases q with q | q | q <;> exact absurd q (sp.ne _ _ (by decide) (by decide) (by decide))), X1.keep e2 (fun q => by simp only [List.mem_cons, List.not_mem_nil, or_false] at q; rcases q with q | q | q <;> exact absurd q (sp.ne _ _ (by decide) (by decide) (by decide))) (fun q => by simp only [List.mem_cons, List.not_mem_nil, or_false] at q; rcases q with q | q | q <;> exact absurd q (sp.ne _ _ (by decide) (by decide) (by decide))) (fun q => by simp only [List.mem_cons, List.not_mem_nil, or_false] at q; rcases q with q | q | q <;> exact absurd q (sp.ne _ _ (by decide) (by decide) (by decide))), X2, (DD.keep e1 (fun k hk q => by simp only [List.mem_cons, List.not_mem_nil, or_false] at q; rcases q with q | q | q <;> exact absurd q (sp.ne _ _ (by omega) (by decide) (by omega)))).keep e2 (fun k hk q => by simp only [List.mem_cons, List.not_mem_nil, or_false] at q; rcases q with q | q | q <;> exact absurd q (sp.ne _ _ (by omega) (by decide) (by omega))), (HH.keep e1 (fun k hk q => by simp only [List.mem_cons, List.not_mem_nil, or_false] at q; rcases q with q | q | q <;> exact absurd q (sp.ne _ _ (by omega) (by decide) (by omega)))).keep e2 (fun k hk q => by simp only [List.mem_cons, List.not_mem_nil, or_false] at q; rcases q with q | q | q <;> exact absurd q (sp.ne _ _ (by omega) (by decide) (by omega))), ?_⟩, D.2.1, D.2.2⟩)
      · unfold acS
        rw [if_neg k2, if_neg k0, e]
        exact if_pos (show x.2.1.length < 10 from q)
      · show (x.2.2.1 ++ [w2]).length = (x.2.1 ++ [w1]).length
        rw [List.length_append, List.length_append, show x.2.2.1.length = x.2.1.length from l1]
        rfl
  | some i =>
    have e9 : fst (fun i => decide ((sL x).2.1.getD i [] = w1)) (sL x).2.1.length = some i := e
    have il9 : i < (sL x).2.2.1.length := by rw [l1]; exact fst_lt e
    rw [e9]
    refine g_icmp_ne M_6_accept (tgt := 121) d_6_accept_84 (by decide) (fun _ => ?_) (fun c => absurd c (oI_ne (n := x.2.1.length) (fun j hj => by cases hj; exact fst_lt e) (Nat.le_trans il (by decide)) rfl))
    refine g_aloadn M_6_accept d_6_accept_121 (by first | rfl | assumption) ?_
    refine g_get M_6_accept d_6_accept_122 fl_6_23 (by assumption) (by rfl) ?_
    refine g_iloadn M_6_accept d_6_accept_125 (by first | rfl | assumption) ?_
    refine g_aloadn M_6_accept d_6_accept_126 (by first | rfl | assumption) ?_
    refine g_get M_6_accept d_6_accept_127 fl_6_87 (by assumption) (by rfl) ?_
    refine gc_V M_6_accept 0 0 [.int (nI i), .ref s] [] d_6_accept_130 cv_6_96 W3.2.2.1 (by rfl) (by rfl) (Nat.le_of_ble_eq_true (by rfl)) (Nat.le_of_ble_eq_true (by rfl)) (by decide) (by decide) (by decide) (by decide) (C_8_putW (by decide) (by decide) W3 il9 S len12.2 (sp.ne 7 8 (by decide) (by decide) (by decide)) (sp.ne 7 9 (by decide) (by decide) (by decide)) (sp.ne 8 9 (by decide) (by decide) (by decide)) ⟨(oo 8 (by decide)).2.2.2.1.symm, (oo 9 (by decide)).2.2.2.1.symm⟩ ⟨(oo 8 (by decide)).2.2.2.2.symm, (oo 9 (by decide)).2.2.2.2.symm⟩ (fun h1 e1 X1 => ?_))
    show gG _ _ _ _ _ _ _ _ _ _
    refine g_iconst M_6_accept (v := nI 1) d_6_accept_133 (by decide) ?_
    have f1 := e1.weak (S' := (List.range 24).map r) (fun y hy => by simp only [List.mem_cons, List.not_mem_nil, or_false] at hy; rcases hy with rfl | rfl <;> exact mr _ (by decide))
    refine g_iret M_6_accept d_6_accept_134 rfl (by decide) (kt (x.1, x.2.1, x.2.2.1.set i w2, x.2.2.2) ?_ h1 f1 ⟨⟨e1.keep v0 (fun q => by simp only [List.mem_cons, List.not_mem_nil, or_false] at q; rcases q with q | q <;> exact absurd q (sp.ne _ _ (by decide) (by decide) (by decide))), W1.keep e1 (fun q => by simp only [List.mem_cons, List.not_mem_nil, or_false] at q; rcases q with q | q <;> exact absurd q (sp.ne _ _ (by decide) (by decide) (by decide))) (fun q => by simp only [List.mem_cons, List.not_mem_nil, or_false] at q; rcases q with q | q <;> exact absurd q (sp.ne _ _ (by decide) (by decide) (by decide))) (fun q => by simp only [List.mem_cons, List.not_mem_nil, or_false] at q; rcases q with q | q <;> exact absurd q (sp.ne _ _ (by decide) (by decide) (by decide))), W2.keep e1 (fun q => by simp only [List.mem_cons, List.not_mem_nil, or_false] at q; rcases q with q | q <;> exact absurd q (sp.ne _ _ (by decide) (by decide) (by decide))) (fun q => by simp only [List.mem_cons, List.not_mem_nil, or_false] at q; rcases q with q | q <;> exact absurd q (sp.ne _ _ (by decide) (by decide) (by decide))) (fun q => by simp only [List.mem_cons, List.not_mem_nil, or_false] at q; rcases q with q | q <;> exact absurd q (sp.ne _ _ (by decide) (by decide) (by decide))), X1, DD.keep e1 (fun k hk q => by simp only [List.mem_cons, List.not_mem_nil, or_false] at q; rcases q with q | q <;> exact absurd q (sp.ne _ _ (by omega) (by decide) (by omega))), HH.keep e1 (fun k hk q => by simp only [List.mem_cons, List.not_mem_nil, or_false] at q; rcases q with q | q <;> exact absurd q (sp.ne _ _ (by omega) (by decide) (by omega))), ?_⟩, D.2.1, D.2.2⟩)
    · unfold acS
      rw [if_neg k2, if_neg k0, e]
    · show (x.2.2.1.set i w2).length = x.2.1.length
      rw [List.length_set]
      exact l1
end
section
/-! ===== history: record, give back ===== -/
def rotB (b : Nat → Nat) (i : Nat) : Nat := if i < 3 then b (i + 1) else b 0
def recd (rc : List Sl_) (now : Sl_) : List Sl_ := (if rc.length = 4 then rc.drop 1 else rc) ++ [now]
/-- cells of the history and of its states -/
def hisS (L : Nat → Nat → Nat) (S : List Nat) : Prop := ∀ x ∈ S, ∃ i j, ((i = 0 ∧ (j = 4 ∨ j = 5)) ∨ (4 ≤ i ∧ i ≤ 7 ∧ j < 24)) ∧ x = L i j
theorem stR.obj {h : Hp_} {r : Nat → Nat} {v : Sl_} (H : stR h r v) : ∃ fs, h (r 0) = some (.inr (6, fs)) := ⟨_, H.1⟩

set_option maxHeartbeats 4000000 in
set_option maxRecDepth 100000 in
theorem C_3_moveOldest {L : Nat → Nat → Nat} {b : Nat → Nat} {rc : List Sl_} {h : Hp_} {Q : Ot_ → Hp_ → Prop} (s : sepL L) (H : hiR h L b rc) (k : ∀ h', gExt h h' [L 0 5] [] → (∃ f', h' (L 0 5) = some (.inl (false, .object "PluralMint$State", (4, .inr (.inr (.inr (.inr f')))))) ∧ ∀ i, i < 4 → f' i = some (L (4 + rotB b i) 0)) → Q (.inl none) h') : gG 1 60 0 0 M_3_moveOldestToEnd 0 (lv_args 0 [.ref (L 0 4)]) [] h Q := by
  obtain ⟨rl, q0, hb, hinj, f, q1, q2⟩ := id H
  have F0 := (q2 0 (by decide)).1
  have F1 := (q2 1 (by decide)).1
  have F2 := (q2 2 (by decide)).1
  have F3 := (q2 3 (by decide)).1
  have ob : ∀ j, j < 4 → ∃ fs, h (L (4 + b j) 0) = some (.inr (6, fs)) := fun j hj => by
    obtain ⟨_, z, hz, _⟩ := q2 j hj
    exact hz.obj
  obtain ⟨fs0, O0⟩ := ob 0 (by decide)
  obtain ⟨fs1, O1⟩ := ob 1 (by decide)
  obtain ⟨fs2, O2⟩ := ob 2 (by decide)
  obtain ⟨fs3, O3⟩ := ob 3 (by decide)
  have n45 : L 0 4 ∉ [L 0 5] := fun q => absurd (s 0 4 0 5 (ok0 (by decide)) (ok0 (by decide)) (List.mem_singleton.mp q)).2 (by decide)
  have nb : ∀ j, j < 4 → L (4 + b j) 0 ∉ [L 0 5] := fun j hj q => absurd (s _ _ 0 5 (okB (by omega) (by have := hb j hj; omega) (by decide)) (ok0 (by decide)) (List.mem_singleton.mp q)).1 (by omega)
  refine g_iconst M_3_moveOldestToEnd (v := nI 0) d_3_moveOldestToEnd_0 (by decide) ?_
  refine g_istoren M_3_moveOldestToEnd d_3_moveOldestToEnd_1 (by decide) (by first | rfl | (simp only [gc]; simp [*])) ?_
  refine g_iloadn M_3_moveOldestToEnd d_3_moveOldestToEnd_2 (by first | rfl | assumption) ?_
  refine g_aloadn M_3_moveOldestToEnd d_3_moveOldestToEnd_3 (by first | rfl | assumption) ?_
  refine g_get M_3_moveOldestToEnd d_3_moveOldestToEnd_4 fl_3_11 q0 (by rfl) ?_
  refine g_alen M_3_moveOldestToEnd d_3_moveOldestToEnd_7 q1 ?_
  refine g_iconst M_3_moveOldestToEnd (v := nI 1) d_3_moveOldestToEnd_8 (by decide) ?_
  refine g_isub M_3_moveOldestToEnd d_3_moveOldestToEnd_9 ?_
  refine g_icmp_ge M_3_moveOldestToEnd (tgt := 49) d_3_moveOldestToEnd_10 (by decide) (fun c => absurd c (by decide)) (fun _ => ?_)
  refine g_aloadn M_3_moveOldestToEnd d_3_moveOldestToEnd_13 (by first | rfl | assumption) ?_
  refine g_get M_3_moveOldestToEnd d_3_moveOldestToEnd_14 fl_3_11 q0 (by rfl) ?_
  refine g_iloadn M_3_moveOldestToEnd d_3_moveOldestToEnd_17 (by first | rfl | assumption) ?_
  refine g_aaload M_3_moveOldestToEnd d_3_moveOldestToEnd_18 (q := L (4 + b 0) 0) q1 (vp_in_nI (by decide) (by decide)) (by rw [nI_cl (by decide)]; simp [va_up, F0, F1, F2, F3]) ?_
  refine g_astoren M_3_moveOldestToEnd d_3_moveOldestToEnd_19 (by decide) (by first | rfl | (simp only [gc]; simp [*])) ?_
  refine g_aloadn M_3_moveOldestToEnd d_3_moveOldestToEnd_20 (by first | rfl | assumption) ?_
  refine g_get M_3_moveOldestToEnd d_3_moveOldestToEnd_21 fl_3_11 q0 (by rfl) ?_
  refine g_iloadn M_3_moveOldestToEnd d_3_moveOldestToEnd_24 (by first | rfl | assumption) ?_
  refine g_aloadn M_3_moveOldestToEnd d_3_moveOldestToEnd_25 (by first | rfl | assumption) ?_
  refine g_get M_3_moveOldestToEnd d_3_moveOldestToEnd_26 fl_3_11 q0 (by rfl) ?_
  refine g_iloadn M_3_moveOldestToEnd d_3_moveOldestToEnd_29 (by first | rfl | assumption) ?_
  refine g_iconst M_3_moveOldestToEnd (v := nI 1) d_3_moveOldestToEnd_30 (by decide) ?_
  refine g_iadd M_3_moveOldestToEnd d_3_moveOldestToEnd_31 ?_
  rw [nI_add]
  refine g_aaload M_3_moveOldestToEnd d_3_moveOldestToEnd_32 (q := L (4 + b 1) 0) q1 (vp_in_nI (by decide) (by decide)) (by rw [nI_cl (by decide)]; simp [va_up, F0, F1, F2, F3]) ?_
  refine e_aas M_3_moveOldestToEnd d_3_moveOldestToEnd_33 q1 O1 (by rfl) (by rfl) (vp_in_nI (by decide) (by decide)) (fun x0 w0 ex0 => ?_)
  rw [nI_cl (by decide)] at w0
  have ox0 := ex0.keep q0 n45
  have P00 := ex0.keep O0 (nb 0 (by decide))
  have P01 := ex0.keep O1 (nb 1 (by decide))
  have P02 := ex0.keep O2 (nb 2 (by decide))
  have P03 := ex0.keep O3 (nb 3 (by decide))
  refine g_aloadn M_3_moveOldestToEnd d_3_moveOldestToEnd_34 (by first | rfl | assumption) ?_
  refine g_get M_3_moveOldestToEnd d_3_moveOldestToEnd_35 fl_3_11 ox0 (by rfl) ?_
  refine g_iloadn M_3_moveOldestToEnd d_3_moveOldestToEnd_38 (by first | rfl | assumption) ?_
  refine g_iconst M_3_moveOldestToEnd (v := nI 1) d_3_moveOldestToEnd_39 (by decide) ?_
  refine g_iadd M_3_moveOldestToEnd d_3_moveOldestToEnd_40 ?_
  rw [nI_add]
  refine g_aloadn M_3_moveOldestToEnd d_3_moveOldestToEnd_41 (by first | rfl | assumption) ?_
  refine e_aas M_3_moveOldestToEnd d_3_moveOldestToEnd_42 w0 P00 (by rfl) (by rfl) (vp_in_nI (by decide) (by decide)) (fun y0 u0 ey0 => ?_)
  rw [nI_cl (by decide)] at u0
  have oy0 := ey0.keep ox0 n45
  have R00 := ey0.keep P00 (nb 0 (by decide))
  have R01 := ey0.keep P01 (nb 1 (by decide))
  have R02 := ey0.keep P02 (nb 2 (by decide))
  have R03 := ey0.keep P03 (nb 3 (by decide))
  refine g_iinc M_3_moveOldestToEnd (v := nI 1) d_3_moveOldestToEnd_43 (by rfl) (by decide) (by first | rfl | (simp only [gc]; simp [*])) (by decide) ?_
  refine g_goto M_3_moveOldestToEnd (tgt := 2) d_3_moveOldestToEnd_46 (by decide) ?_
  refine g_iloadn M_3_moveOldestToEnd d_3_moveOldestToEnd_2 (by first | rfl | assumption) ?_
  refine g_aloadn M_3_moveOldestToEnd d_3_moveOldestToEnd_3 (by first | rfl | assumption) ?_
  refine g_get M_3_moveOldestToEnd d_3_moveOldestToEnd_4 fl_3_11 oy0 (by rfl) ?_
  refine g_alen M_3_moveOldestToEnd d_3_moveOldestToEnd_7 u0 ?_
  refine g_iconst M_3_moveOldestToEnd (v := nI 1) d_3_moveOldestToEnd_8 (by decide) ?_
  refine g_isub M_3_moveOldestToEnd d_3_moveOldestToEnd_9 ?_
  refine g_icmp_ge M_3_moveOldestToEnd (tgt := 49) d_3_moveOldestToEnd_10 (by decide) (fun c => absurd c (by decide)) (fun _ => ?_)
  refine g_aloadn M_3_moveOldestToEnd d_3_moveOldestToEnd_13 (by first | rfl | assumption) ?_
  refine g_get M_3_moveOldestToEnd d_3_moveOldestToEnd_14 fl_3_11 oy0 (by rfl) ?_
  refine g_iloadn M_3_moveOldestToEnd d_3_moveOldestToEnd_17 (by first | rfl | assumption) ?_
  refine g_aaload M_3_moveOldestToEnd d_3_moveOldestToEnd_18 (q := L (4 + b 0) 0) u0 (vp_in_nI (by decide) (by decide)) (by rw [nI_cl (by decide)]; simp [va_up, F0, F1, F2, F3]) ?_
  refine g_astoren M_3_moveOldestToEnd d_3_moveOldestToEnd_19 (by decide) (by first | rfl | (simp only [gc]; simp [*])) ?_
  refine g_aloadn M_3_moveOldestToEnd d_3_moveOldestToEnd_20 (by first | rfl | assumption) ?_
  refine g_get M_3_moveOldestToEnd d_3_moveOldestToEnd_21 fl_3_11 oy0 (by rfl) ?_
  refine g_iloadn M_3_moveOldestToEnd d_3_moveOldestToEnd_24 (by first | rfl | assumption) ?_
  refine g_aloadn M_3_moveOldestToEnd d_3_moveOldestToEnd_25 (by first | rfl | assumption) ?_
  refine g_get M_3_moveOldestToEnd d_3_moveOldestToEnd_26 fl_3_11 oy0 (by rfl) ?_
  refine g_iloadn M_3_moveOldestToEnd d_3_moveOldestToEnd_29 (by first | rfl | assumption) ?_
  refine g_iconst M_3_moveOldestToEnd (v := nI 1) d_3_moveOldestToEnd_30 (by decide) ?_
  refine g_iadd M_3_moveOldestToEnd d_3_moveOldestToEnd_31 ?_
  rw [nI_add]
  refine g_aaload M_3_moveOldestToEnd d_3_moveOldestToEnd_32 (q := L (4 + b 2) 0) u0 (vp_in_nI (by decide) (by decide)) (by rw [nI_cl (by decide)]; simp [va_up, F0, F1, F2, F3]) ?_
  refine e_aas M_3_moveOldestToEnd d_3_moveOldestToEnd_33 u0 R02 (by rfl) (by rfl) (vp_in_nI (by decide) (by decide)) (fun x1 w1 ex1 => ?_)
  rw [nI_cl (by decide)] at w1
  have ox1 := ex1.keep oy0 n45
  have P10 := ex1.keep R00 (nb 0 (by decide))
  have P11 := ex1.keep R01 (nb 1 (by decide))
  have P12 := ex1.keep R02 (nb 2 (by decide))
  have P13 := ex1.keep R03 (nb 3 (by decide))
  refine g_aloadn M_3_moveOldestToEnd d_3_moveOldestToEnd_34 (by first | rfl | assumption) ?_
  refine g_get M_3_moveOldestToEnd d_3_moveOldestToEnd_35 fl_3_11 ox1 (by rfl) ?_
  refine g_iloadn M_3_moveOldestToEnd d_3_moveOldestToEnd_38 (by first | rfl | assumption) ?_
  refine g_iconst M_3_moveOldestToEnd (v := nI 1) d_3_moveOldestToEnd_39 (by decide) ?_
  refine g_iadd M_3_moveOldestToEnd d_3_moveOldestToEnd_40 ?_
  rw [nI_add]
  refine g_aloadn M_3_moveOldestToEnd d_3_moveOldestToEnd_41 (by first | rfl | assumption) ?_
  refine e_aas M_3_moveOldestToEnd d_3_moveOldestToEnd_42 w1 P10 (by rfl) (by rfl) (vp_in_nI (by decide) (by decide)) (fun y1 u1 ey1 => ?_)
  rw [nI_cl (by decide)] at u1
  have oy1 := ey1.keep ox1 n45
  have R10 := ey1.keep P10 (nb 0 (by decide))
  have R11 := ey1.keep P11 (nb 1 (by decide))
  have R12 := ey1.keep P12 (nb 2 (by decide))
  have R13 := ey1.keep P13 (nb 3 (by decide))
  refine g_iinc M_3_moveOldestToEnd (v := nI 2) d_3_moveOldestToEnd_43 (by rfl) (by decide) (by first | rfl | (simp only [gc]; simp [*])) (by decide) ?_
  refine g_goto M_3_moveOldestToEnd (tgt := 2) d_3_moveOldestToEnd_46 (by decide) ?_
  refine g_iloadn M_3_moveOldestToEnd d_3_moveOldestToEnd_2 (by first | rfl | assumption) ?_
  refine g_aloadn M_3_moveOldestToEnd d_3_moveOldestToEnd_3 (by first | rfl | assumption) ?_
  refine g_get M_3_moveOldestToEnd d_3_moveOldestToEnd_4 fl_3_11 oy1 (by rfl) ?_
  refine g_alen M_3_moveOldestToEnd d_3_moveOldestToEnd_7 u1 ?_
  refine g_iconst M_3_moveOldestToEnd (v := nI 1) d_3_moveOldestToEnd_8 (by decide) ?_
  refine g_isub M_3_moveOldestToEnd d_3_moveOldestToEnd_9 ?_
  refine g_icmp_ge M_3_moveOldestToEnd (tgt := 49) d_3_moveOldestToEnd_10 (by decide) (fun c => absurd c (by decide)) (fun _ => ?_)
  refine g_aloadn M_3_moveOldestToEnd d_3_moveOldestToEnd_13 (by first | rfl | assumption) ?_
  refine g_get M_3_moveOldestToEnd d_3_moveOldestToEnd_14 fl_3_11 oy1 (by rfl) ?_
  refine g_iloadn M_3_moveOldestToEnd d_3_moveOldestToEnd_17 (by first | rfl | assumption) ?_
  refine g_aaload M_3_moveOldestToEnd d_3_moveOldestToEnd_18 (q := L (4 + b 0) 0) u1 (vp_in_nI (by decide) (by decide)) (by rw [nI_cl (by decide)]; simp [va_up, F0, F1, F2, F3]) ?_
  refine g_astoren M_3_moveOldestToEnd d_3_moveOldestToEnd_19 (by decide) (by first | rfl | (simp only [gc]; simp [*])) ?_
  refine g_aloadn M_3_moveOldestToEnd d_3_moveOldestToEnd_20 (by first | rfl | assumption) ?_
  refine g_get M_3_moveOldestToEnd d_3_moveOldestToEnd_21 fl_3_11 oy1 (by rfl) ?_
  refine g_iloadn M_3_moveOldestToEnd d_3_moveOldestToEnd_24 (by first | rfl | assumption) ?_
  refine g_aloadn M_3_moveOldestToEnd d_3_moveOldestToEnd_25 (by first | rfl | assumption) ?_
  refine g_get M_3_moveOldestToEnd d_3_moveOldestToEnd_26 fl_3_11 oy1 (by rfl) ?_
  refine g_iloadn M_3_moveOldestToEnd d_3_moveOldestToEnd_29 (by first | rfl | assumption) ?_
  refine g_iconst M_3_moveOldestToEnd (v := nI 1) d_3_moveOldestToEnd_30 (by decide) ?_
  refine g_iadd M_3_moveOldestToEnd d_3_moveOldestToEnd_31 ?_
  rw [nI_add]
  refine g_aaload M_3_moveOldestToEnd d_3_moveOldestToEnd_32 (q := L (4 + b 3) 0) u1 (vp_in_nI (by decide) (by decide)) (by rw [nI_cl (by decide)]; simp [va_up, F0, F1, F2, F3]) ?_
  refine e_aas M_3_moveOldestToEnd d_3_moveOldestToEnd_33 u1 R13 (by rfl) (by rfl) (vp_in_nI (by decide) (by decide)) (fun x2 w2 ex2 => ?_)
  rw [nI_cl (by decide)] at w2
  have ox2 := ex2.keep oy1 n45
  have P20 := ex2.keep R10 (nb 0 (by decide))
  have P21 := ex2.keep R11 (nb 1 (by decide))
  have P22 := ex2.keep R12 (nb 2 (by decide))
  have P23 := ex2.keep R13 (nb 3 (by decide))
  refine g_aloadn M_3_moveOldestToEnd d_3_moveOldestToEnd_34 (by first | rfl | assumption) ?_
  refine g_get M_3_moveOldestToEnd d_3_moveOldestToEnd_35 fl_3_11 ox2 (by rfl) ?_
  refine g_iloadn M_3_moveOldestToEnd d_3_moveOldestToEnd_38 (by first | rfl | assumption) ?_
  refine g_iconst M_3_moveOldestToEnd (v := nI 1) d_3_moveOldestToEnd_39 (by decide) ?_
  refine g_iadd M_3_moveOldestToEnd d_3_moveOldestToEnd_40 ?_
  rw [nI_add]
  refine g_aloadn M_3_moveOldestToEnd d_3_moveOldestToEnd_41 (by first | rfl | assumption) ?_
  refine e_aas M_3_moveOldestToEnd d_3_moveOldestToEnd_42 w2 P20 (by rfl) (by rfl) (vp_in_nI (by decide) (by decide)) (fun y2 u2 ey2 => ?_)
  rw [nI_cl (by decide)] at u2
  have oy2 := ey2.keep ox2 n45
  have R20 := ey2.keep P20 (nb 0 (by decide))
  have R21 := ey2.keep P21 (nb 1 (by decide))
  have R22 := ey2.keep P22 (nb 2 (by decide))
  have R23 := ey2.keep P23 (nb 3 (by decide))
  refine g_iinc M_3_moveOldestToEnd (v := nI 3) d_3_moveOldestToEnd_43 (by rfl) (by decide) (by first | rfl | (simp only [gc]; simp [*])) (by decide) ?_
  refine g_goto M_3_moveOldestToEnd (tgt := 2) d_3_moveOldestToEnd_46 (by decide) ?_
  refine g_iloadn M_3_moveOldestToEnd d_3_moveOldestToEnd_2 (by first | rfl | assumption) ?_
  refine g_aloadn M_3_moveOldestToEnd d_3_moveOldestToEnd_3 (by first | rfl | assumption) ?_
  refine g_get M_3_moveOldestToEnd d_3_moveOldestToEnd_4 fl_3_11 oy2 (by rfl) ?_
  refine g_alen M_3_moveOldestToEnd d_3_moveOldestToEnd_7 u2 ?_
  refine g_iconst M_3_moveOldestToEnd (v := nI 1) d_3_moveOldestToEnd_8 (by decide) ?_
  refine g_isub M_3_moveOldestToEnd d_3_moveOldestToEnd_9 ?_
  refine g_icmp_ge M_3_moveOldestToEnd (tgt := 49) d_3_moveOldestToEnd_10 (by decide) (fun _ => ?_) (fun c => absurd (by decide) c)
  have t0 := ex0.trans ey0 (fun y hy => Or.inl hy)
  have t1 := (t0.trans ex1 (fun y hy => Or.inl hy)).trans ey1 (fun y hy => Or.inl hy)
  have t2 := (t1.trans ex2 (fun y hy => Or.inl hy)).trans ey2 (fun y hy => Or.inl hy)
  refine g_vret M_3_moveOldestToEnd d_3_moveOldestToEnd_49 rfl (k _ (by simpa using t2) ⟨_, u2, fun i hi => ?_⟩)
  have h4 : i = 0 ∨ i = 1 ∨ i = 2 ∨ i = 3 := by omega
  rcases h4 with rfl | rfl | rfl | rfl <;> simp [va_up, rotB]
end
section
/-! ===== history: record ===== -/
set_option maxHeartbeats 4000000 in
set_option maxRecDepth 100000 in
theorem C_3_rectail {L : Nat → Nat → Nat} {b : Nat → Nat} {rc : List Sl_} {now : Sl_} {h : Hp_} {Q : Ot_ → Hp_ → Prop} (s : sepL L) (H : hiR h L b rc) (hp : rc.length < 4) (N : stR h (L 1) now) (lv : List (Nat × Value)) (H0 : gl lv 0 = some (.ref (L 0 4))) (H1 : gl lv 1 = some (.ref (L 1 0))) (k : ∀ h' S, gExt h h' S [] → hisS L S → hiR h' L b (rc ++ [now]) → Q (.inl none) h') : gG 5 220 0 0 M_3_record 27 lv [] h Q := by
  obtain ⟨rl, q0, hb, hinj, f, q1, q2⟩ := id H
  obtain ⟨f0, zs, Z, -⟩ := q2 rc.length hp
  have bp := hb rc.length hp
  refine g_aloadn M_3_record d_3_record_27 (by first | rfl | assumption) ?_
  refine g_get M_3_record d_3_record_28 fl_3_18 (by assumption) (by rfl) ?_
  refine g_if_lt M_3_record (tgt := 81) d_3_record_31 (by decide) (fun c => absurd c (nI_pos (by omega))) (fun _ => ?_)
  refine g_aloadn M_3_record d_3_record_34 (by first | rfl | assumption) ?_
  refine g_get M_3_record d_3_record_35 fl_3_18 (by assumption) (by rfl) ?_
  refine g_aloadn M_3_record d_3_record_38 (by first | rfl | assumption) ?_
  refine g_get M_3_record d_3_record_39 fl_3_11 (by assumption) (by rfl) ?_
  refine g_alen M_3_record d_3_record_42 (by assumption) ?_
  refine g_icmp_ge M_3_record (tgt := 81) d_3_record_43 (by decide) (fun c => absurd c (nI_ge hp (by decide))) (fun _ => ?_)
  refine g_aloadn M_3_record d_3_record_46 (by first | rfl | assumption) ?_
  refine g_get M_3_record d_3_record_47 fl_3_11 (by assumption) (by rfl) ?_
  refine g_aloadn M_3_record d_3_record_50 (by first | rfl | assumption) ?_
  refine g_get M_3_record d_3_record_51 fl_3_18 (by assumption) (by rfl) ?_
  refine g_aaload M_3_record d_3_record_54 q1 (vp_in_nI (by omega) (by decide)) (by rw [nI_cl (by omega)]; exact f0) ?_
  refine g_ifnull M_3_record d_3_record_55 ?_
  refine g_aloadn M_3_record d_3_record_58 (by first | rfl | assumption) ?_
  refine g_get M_3_record d_3_record_59 fl_3_11 (by assumption) (by rfl) ?_
  refine g_aloadn M_3_record d_3_record_62 (by first | rfl | assumption) ?_
  refine g_get M_3_record d_3_record_63 fl_3_18 (by assumption) (by rfl) ?_
  refine g_aaload M_3_record d_3_record_66 q1 (vp_in_nI (by omega) (by decide)) (by rw [nI_cl (by omega)]; exact f0) ?_
  refine g_aloadn M_3_record d_3_record_67 (by first | rfl | assumption) ?_
  refine gc_V M_3_record 0 0 [.ref (L 1 0)] [] d_3_record_68 cv_3_25 Z.1 (by rfl) (by rfl) (Nat.le_of_ble_eq_true (by rfl)) (Nat.le_of_ble_eq_true (by rfl)) (by decide) (by decide) (by decide) (by decide) (C_6_copyFrom (s.r (by omega) (by omega)) (s.off (by decide) (by decide) (by omega) (by omega) (by omega)) N Z (fun h1 e1 S3 => ?_))
  have nB : ∀ i j, okL i j → i ≠ 4 + b rc.length → L i j ∉ (List.range 24).map (L (4 + b rc.length)) := fun i j ok n => notin_map (fun q hq e => n (s _ _ _ _ ok (okB (by omega) (by omega) hq) e).1)
  have q01 := e1.keep q0 (nB 0 4 (ok0 (by decide)) (by omega))
  have q11 := e1.keep q1 (nB 0 5 (ok0 (by decide)) (by omega))
  show gG _ _ _ _ _ _ _ _ _ _
  refine g_aloadn M_3_record d_3_record_71 (by first | rfl | assumption) ?_
  refine g_dup M_3_record d_3_record_72 (by rfl) ?_
  refine g_get M_3_record d_3_record_73 fl_3_18 (by assumption) (by rfl) ?_
  refine g_iconst M_3_record (v := nI 1) d_3_record_76 (by decide) ?_
  refine g_iadd M_3_record d_3_record_77 ?_
  rw [nI_add]
  refine e_put M_3_record d_3_record_78 pt_3_18 q01 (by rfl) (by rfl) (fun h2 q02 e2 => ?_)
  have n4 : ∀ i j, okL i j → ¬ (i = 0 ∧ j = 4) → L i j ∉ [L 0 4] := fun i j ok n q => n (s _ _ _ _ ok (ok0 (by decide)) (List.mem_singleton.mp q))
  have t := (e1.weak (S' := (List.range 24).map (L (4 + b rc.length)) ++ [L 0 4]) (fun y hy => List.mem_append.mpr (Or.inl hy))).trans e2 (fun y hy => Or.inl (List.mem_append.mpr (Or.inr hy)))
  refine g_vret M_3_record d_3_record_81 rfl (k h2 _ (by simpa using t) (fun y hy => ?_) ⟨by rw [List.length_append]; exact hp, by rw [List.length_append]; exact q02, hb, hinj, f, e2.keep q11 (n4 0 5 (ok0 (by decide)) (by omega)), fun i hi => ⟨(q2 i hi).1, ?_⟩⟩)
  · have hy' : y ∈ (List.range 24).map (L (4 + b rc.length)) ++ [L 0 4] := by simpa using hy
    rcases List.mem_append.mp hy' with z | z
    · obtain ⟨j, hj, rfl⟩ := List.mem_map.mp z
      exact ⟨4 + b rc.length, j, Or.inr ⟨by omega, by omega, List.mem_range.mp hj⟩, rfl⟩
    · exact ⟨0, 4, Or.inl ⟨rfl, Or.inl rfl⟩, List.mem_singleton.mp z⟩
  · by_cases e : i = rc.length
    · subst e
      refine ⟨now, S3.keep e2 (fun j hj => n4 _ _ (okB (by omega) (by omega) hj) (by omega)), fun _ => ?_⟩
      rw [List.getD_eq_getElem?_getD, List.getElem?_append_right (Nat.le_refl _), Nat.sub_self]
      rfl
    · obtain ⟨-, zi, Zi, vi⟩ := q2 i hi
      have nbi : b i ≠ b rc.length := fun z => e (hinj _ _ hi hp z)
      have bi := hb i hi
      refine ⟨zi, (Zi.keep e1 (fun j hj => nB _ _ (okB (by omega) (by omega) hj) (by omega))).keep e2 (fun j hj => n4 _ _ (okB (by omega) (by omega) hj) (by omega)), fun hl => ?_⟩
      rw [List.length_append] at hl
      have hl2 : i < rc.length := by
        have : i < rc.length + 1 := hl
        omega
      rw [vi hl2, List.getD_eq_getElem?_getD, List.getD_eq_getElem?_getD, List.getElem?_append_left hl2]
set_option maxHeartbeats 4000000 in
set_option maxRecDepth 100000 in
theorem C_3_record {L : Nat → Nat → Nat} {b : Nat → Nat} {rc : List Sl_} {now : Sl_} {h : Hp_} {Q : Ot_ → Hp_ → Prop} (s : sepL L) (H : hiR h L b rc) (N : stR h (L 1) now) (k : ∀ h' b' S, gExt h h' S [] → hisS L S → hiR h' L b' (recd rc now) → Q (.inl none) h') : gG 5 220 0 0 M_3_record 0 (lv_args 0 [.ref (L 0 4), .ref (L 1 0)]) [] h Q := by
  obtain ⟨rl, q0, hb, hinj, f, q1, q2⟩ := id H
  refine g_aloadn M_3_record d_3_record_0 (by first | rfl | assumption) ?_
  refine g_get M_3_record d_3_record_1 fl_3_18 (by assumption) (by rfl) ?_
  refine g_aloadn M_3_record d_3_record_4 (by first | rfl | assumption) ?_
  refine g_get M_3_record d_3_record_5 fl_3_11 (by assumption) (by rfl) ?_
  refine g_alen M_3_record d_3_record_8 (by assumption) ?_
  by_cases hp : rc.length = 4
  rotate_left
  · refine g_icmp_lt M_3_record (tgt := 27) d_3_record_9 (by decide) (fun _ => ?_) (fun c => absurd (nI_lt (by omega) (by decide)) c)
    exact C_3_rectail s H (by omega) N _ rfl rfl (fun h' S e hs R => k h' b S e hs (by unfold recd; rw [if_neg hp]; exact R))
  refine g_icmp_lt M_3_record (tgt := 27) d_3_record_9 (by decide) (fun c => absurd c (by rw [hp]; decide)) (fun _ => ?_)
  refine g_aloadn M_3_record d_3_record_12 (by first | rfl | assumption) ?_
  refine gc_V M_3_record 0 0 [] [] d_3_record_13 cv_3_22 q0 (by rfl) (by rfl) (Nat.le_of_ble_eq_true (by rfl)) (Nat.le_of_ble_eq_true (by rfl)) (by decide) (by decide) (by decide) (by decide) (C_3_moveOldest s H (fun h1 e1 ⟨f1, w1, F1⟩ => ?_))
  have n5 : ∀ i j, okL i j → ¬ (i = 0 ∧ j = 5) → L i j ∉ [L 0 5] := fun i j ok n q => n (s _ _ _ _ ok (ok0 (by decide)) (List.mem_singleton.mp q))
  have n4 : ∀ i j, okL i j → ¬ (i = 0 ∧ j = 4) → L i j ∉ [L 0 4] := fun i j ok n q => n (s _ _ _ _ ok (ok0 (by decide)) (List.mem_singleton.mp q))
  have q01 := e1.keep q0 (n5 0 4 (ok0 (by decide)) (by omega))
  show gG _ _ _ _ _ _ _ _ _ _
  refine g_aloadn M_3_record d_3_record_16 (by first | rfl | assumption) ?_
  refine g_aloadn M_3_record d_3_record_17 (by first | rfl | assumption) ?_
  refine g_get M_3_record d_3_record_18 fl_3_11 (by assumption) (by rfl) ?_
  refine g_alen M_3_record d_3_record_21 (by assumption) ?_
  refine g_iconst M_3_record (v := nI 1) d_3_record_22 (by decide) ?_
  refine g_isub M_3_record d_3_record_23 ?_
  rw [nI_sub (by decide)]
  refine e_put M_3_record d_3_record_24 pt_3_18 q01 (by rfl) (by rfl) (fun h2 q02 e2 => ?_)
  have t := (e1.weak (S' := [L 0 5, L 0 4]) (by simp)).trans e2 (by simp)
  have rb : ∀ i, i < 4 → rotB b i < 4 := fun i hi => by unfold rotB; split <;> exact hb _ (by omega)
  have hd : (rc.drop 1).length = 3 := by rw [List.length_drop]; omega
  have H2 : hiR h2 L (rotB b) (rc.drop 1) := by
    refine ⟨by omega, by rw [hd]; exact q02, rb, fun i j hi hj e => ?_, f1, e2.keep w1 (n4 0 5 (ok0 (by decide)) (by omega)), fun i hi => ⟨F1 i hi, ?_⟩⟩
    · unfold rotB at e
      split at e <;> split at e
      · have := hinj _ _ (by omega) (by omega) e; omega
      · have := hinj _ _ (by omega) (by omega) e; omega
      · have := hinj _ _ (by omega) (by omega) e; omega
      · omega
    · have K : ∀ z v, z < 4 → stR h (L (4 + b z)) v → stR h2 (L (4 + b z)) v := fun z v hz Z => (Z.keep e1 (fun j hj => n5 _ _ (okB (by omega) (by have := hb z hz; omega) hj) (by omega))).keep e2 (fun j hj => n4 _ _ (okB (by omega) (by have := hb z hz; omega) hj) (by omega))
      unfold rotB
      split
      · obtain ⟨-, zi, Zi, vi⟩ := q2 (i + 1) (by omega)
        refine ⟨zi, K _ _ (by omega) Zi, fun hl => ?_⟩
        rw [vi (by omega), List.getD_eq_getElem?_getD, List.getD_eq_getElem?_getD, List.getElem?_drop, Nat.add_comm]
      · obtain ⟨-, zi, Zi, vi⟩ := q2 0 (by omega)
        exact ⟨zi, K _ _ (by omega) Zi, fun hl => by omega⟩
  have N2 := (N.keep e1 (fun j hj => n5 _ _ (okB (by decide) (by decide) hj) (by omega))).keep e2 (fun j hj => n4 _ _ (okB (by decide) (by decide) hj) (by omega))
  refine C_3_rectail s H2 (by omega) N2 _ rfl rfl (fun h' S e hs R => ?_)
  have t2 := (t.weak (S' := [L 0 5, L 0 4] ++ S) (fun y hy => List.mem_append.mpr (Or.inl hy))).trans e (fun y hy => Or.inl (List.mem_append.mpr (Or.inr hy)))
  refine k h' (rotB b) _ (by simpa using t2) (fun y hy => ?_) (by unfold recd; rw [if_pos hp]; exact R)
  have hy' : y ∈ [L 0 5, L 0 4] ++ S := by simpa using hy
  rcases List.mem_append.mp hy' with z | z
  · simp only [List.mem_cons, List.not_mem_nil, or_false] at z
    rcases z with z | z
    · exact ⟨0, 5, Or.inl ⟨rfl, Or.inr rfl⟩, z⟩
    · exact ⟨0, 4, Or.inl ⟨rfl, Or.inl rfl⟩, z⟩
  · exact hs y z
end
section
/-! ===== history: give back ===== -/
set_option maxHeartbeats 4000000 in
set_option maxRecDepth 100000 in
theorem C_3_giveBack {L : Nat → Nat → Nat} {b : Nat → Nat} {rc : List Sl_} {now z9 : Sl_} {h : Hp_} {Q : Ot_ → Hp_ → Prop} (s : sepL L) (H : hiR h L b (rc ++ [z9])) (N : stR h (L 1) now) (k : ∀ h', gExt h h' ((List.range 24).map (L 1) ++ [L 0 4]) [] → hiR h' L b rc → stR h' (L 1) z9 → Q (.inl none) h') : gG 5 220 0 0 M_3_giveBack 0 (lv_args 0 [.ref (L 0 4), .ref (L 1 0)]) [] h Q := by
  obtain ⟨rl, q0, hb, hinj, f, q1, q2⟩ := id H
  have ll : (rc ++ [z9]).length = rc.length + 1 := by rw [List.length_append]; rfl
  rw [ll] at rl q0
  obtain ⟨f0, zs, Z, vz⟩ := q2 rc.length (by omega)
  have bp := hb rc.length (by omega)
  have ez : zs = z9 := by
    rw [vz (by omega), List.getD_eq_getElem?_getD, List.getElem?_append_right (Nat.le_refl _), Nat.sub_self]
    rfl
  subst ez
  refine g_aloadn M_3_giveBack d_3_giveBack_0 (by first | rfl | assumption) ?_
  refine g_get M_3_giveBack d_3_giveBack_1 fl_3_18 (by assumption) (by rfl) ?_
  refine g_iconst M_3_giveBack (v := nI 1) d_3_giveBack_4 (by decide) ?_
  refine g_isub M_3_giveBack d_3_giveBack_5 ?_
  rw [nI_sub (by omega), show rc.length + 1 - 1 = rc.length from rfl]
  refine g_istoren M_3_giveBack d_3_giveBack_6 (by decide) (by first | rfl | (simp only [gc]; simp [*])) ?_
  refine g_iloadn M_3_giveBack d_3_giveBack_7 (by first | rfl | assumption) ?_
  refine g_if_lt M_3_giveBack (tgt := 44) d_3_giveBack_8 (by decide) (fun c => absurd c (nI_pos (by omega))) (fun _ => ?_)
  refine g_iloadn M_3_giveBack d_3_giveBack_11 (by first | rfl | assumption) ?_
  refine g_aloadn M_3_giveBack d_3_giveBack_12 (by first | rfl | assumption) ?_
  refine g_get M_3_giveBack d_3_giveBack_13 fl_3_11 (by assumption) (by rfl) ?_
  refine g_alen M_3_giveBack d_3_giveBack_16 (by assumption) ?_
  refine g_icmp_ge M_3_giveBack (tgt := 44) d_3_giveBack_17 (by decide) (fun c => absurd c (nI_ge (by omega) (by decide))) (fun _ => ?_)
  refine g_aloadn M_3_giveBack d_3_giveBack_20 (by first | rfl | assumption) ?_
  refine g_get M_3_giveBack d_3_giveBack_21 fl_3_11 (by assumption) (by rfl) ?_
  refine g_iloadn M_3_giveBack d_3_giveBack_24 (by first | rfl | assumption) ?_
  refine g_aaload M_3_giveBack d_3_giveBack_25 q1 (vp_in_nI (by omega) (by decide)) (by rw [nI_cl (by omega)]; exact f0) ?_
  refine g_ifnull M_3_giveBack d_3_giveBack_26 ?_
  refine g_aloadn M_3_giveBack d_3_giveBack_29 (by first | rfl | assumption) ?_
  refine g_aloadn M_3_giveBack d_3_giveBack_30 (by first | rfl | assumption) ?_
  refine g_get M_3_giveBack d_3_giveBack_31 fl_3_11 (by assumption) (by rfl) ?_
  refine g_iloadn M_3_giveBack d_3_giveBack_34 (by first | rfl | assumption) ?_
  refine g_aaload M_3_giveBack d_3_giveBack_35 q1 (vp_in_nI (by omega) (by decide)) (by rw [nI_cl (by omega)]; exact f0) ?_
  refine gc_V M_3_giveBack 0 0 [.ref (L (4 + b rc.length) 0)] [] d_3_giveBack_36 cv_3_25 N.1 (by rfl) (by rfl) (Nat.le_of_ble_eq_true (by rfl)) (Nat.le_of_ble_eq_true (by rfl)) (by decide) (by decide) (by decide) (by decide) (C_6_copyFrom (s.r (by decide) (by decide)) (s.off (by omega) (by omega) (by decide) (by decide) (by omega)) Z N (fun h1 e1 S3 => ?_))
  have nB : ∀ i j, okL i j → i ≠ 1 → L i j ∉ (List.range 24).map (L 1) := fun i j ok n => notin_map (fun q hq e => n (s _ _ _ _ ok (okB (by decide) (by decide) hq) e).1)
  have q01 := e1.keep q0 (nB 0 4 (ok0 (by decide)) (by decide))
  have q11 := e1.keep q1 (nB 0 5 (ok0 (by decide)) (by decide))
  show gG _ _ _ _ _ _ _ _ _ _
  refine g_aloadn M_3_giveBack d_3_giveBack_39 (by first | rfl | assumption) ?_
  refine g_iloadn M_3_giveBack d_3_giveBack_40 (by first | rfl | assumption) ?_
  refine e_put M_3_giveBack d_3_giveBack_41 pt_3_18 q01 (by rfl) (by rfl) (fun h2 q02 e2 => ?_)
  have n4 : ∀ i j, okL i j → ¬ (i = 0 ∧ j = 4) → L i j ∉ [L 0 4] := fun i j ok n q => n (s _ _ _ _ ok (ok0 (by decide)) (List.mem_singleton.mp q))
  have t := (e1.weak (S' := (List.range 24).map (L 1) ++ [L 0 4]) (fun y hy => List.mem_append.mpr (Or.inl hy))).trans e2 (fun y hy => Or.inl (List.mem_append.mpr (Or.inr hy)))
  refine g_vret M_3_giveBack d_3_giveBack_44 rfl (k h2 (by simpa using t) ⟨by omega, q02, hb, hinj, f, e2.keep q11 (n4 0 5 (ok0 (by decide)) (by omega)), fun i hi => ?_⟩ (S3.keep e2 (fun j hj => n4 _ _ (okB (by decide) (by decide) hj) (by omega))))
  obtain ⟨fi, zi, Zi, vi⟩ := q2 i hi
  have bi := hb i hi
  refine ⟨fi, zi, (Zi.keep e1 (fun j hj => nB _ _ (okB (by omega) (by omega) hj) (by omega))).keep e2 (fun j hj => n4 _ _ (okB (by omega) (by omega) hj) (by omega)), fun hl => ?_⟩
  rw [vi (by omega), List.getD_eq_getElem?_getD, List.getD_eq_getElem?_getD, List.getElem?_append_left hl]
end
