section GROWS
variable {fr lo kc ks pc : Nat} (M : Mi_) {lv : List (Nat × Value)} {st : List Value} {h : Hp_} {Q : Ot_ → Hp_ → Prop}
theorem g_iload {i : Nat} {x : Int32} (d : decode M.2.1 pc = .ok (.iload i, 2)) (hl : gl lv i = some (.int x)) (k : gG fr lo kc ks M (pc + 2) lv (.int x :: st) h Q) : gG fr lo kc ks M pc lv (st) h Q := by
  intro l D B p e R s m args below meth c H locs cells slots mc ms ls C hW hS hL
  exact lv_iload C.1 C.2.1 d (hL.2.2 _ _ hl) (k C hW hS hL)
theorem g_iloadn {i : Fin 4} {x : Int32} (d : decode M.2.1 pc = .ok (.iload_n i, 1)) (hl : gl lv (i : Nat) = some (.int x)) (k : gG fr lo kc ks M (pc + 1) lv (.int x :: st) h Q) : gG fr lo kc ks M pc lv (st) h Q := by
  intro l D B p e R s m args below meth c H locs cells slots mc ms ls C hW hS hL
  exact lv_iload_n C.1 C.2.1 d rfl (hL.2.2 _ _ hl) (k C hW hS hL)
theorem g_lload {i : Nat} {x : Int64} (d : decode M.2.1 pc = .ok (.lload i, 2)) (hl : gl lv i = some (.long x)) (k : gG fr lo kc ks M (pc + 2) lv (.long x :: st) h Q) : gG fr lo kc ks M pc lv (st) h Q := by
  intro l D B p e R s m args below meth c H locs cells slots mc ms ls C hW hS hL
  exact lv_lload C.1 C.2.1 d (hL.2.2 _ _ hl) (k C hW hS hL)
theorem g_lloadn {i : Fin 4} {x : Int64} (d : decode M.2.1 pc = .ok (.lload_n i, 1)) (hl : gl lv (i : Nat) = some (.long x)) (k : gG fr lo kc ks M (pc + 1) lv (.long x :: st) h Q) : gG fr lo kc ks M pc lv (st) h Q := by
  intro l D B p e R s m args below meth c H locs cells slots mc ms ls C hW hS hL
  exact lv_lload_n C.1 C.2.1 d rfl (hL.2.2 _ _ hl) (k C hW hS hL)
theorem g_aload {i x : Nat} (d : decode M.2.1 pc = .ok (.aload i, 2)) (hl : gl lv i = some (.ref x)) (k : gG fr lo kc ks M (pc + 2) lv (.ref x :: st) h Q) : gG fr lo kc ks M pc lv (st) h Q := by
  intro l D B p e R s m args below meth c H locs cells slots mc ms ls C hW hS hL
  exact lv_aload C.1 C.2.1 d (hL.2.2 _ _ hl) (k C hW hS hL)
theorem g_aloadn {i : Fin 4} {x : Nat} (d : decode M.2.1 pc = .ok (.aload_n i, 1)) (hl : gl lv (i : Nat) = some (.ref x)) (k : gG fr lo kc ks M (pc + 1) lv (.ref x :: st) h Q) : gG fr lo kc ks M pc lv (st) h Q := by
  intro l D B p e R s m args below meth c H locs cells slots mc ms ls C hW hS hL
  exact lv_aload_n C.1 C.2.1 d rfl (hL.2.2 _ _ hl) (k C hW hS hL)
theorem g_istore {i : Nat} {x : Int32} (d : decode M.2.1 pc = .ok (.istore i, 2)) (hi : i < M.2.2.1) (hc : gc lv i = true) (k : gG fr lo kc ks M (pc + 2) ((i, .int x) :: lv) st h Q) : gG fr lo kc ks M pc lv (.int x :: st) h Q := by
  intro l D B p e R s m args below meth c H locs cells slots mc ms ls C hW hS hL
  obtain ⟨ls', e', hL'⟩ := gL_store (v := .int x) hL hi rfl hc
  have hx := C.1
  have hb := C.2.1
  intro T hT X
  obtain ⟨t, a, b⟩ := k C hW hS hL' T hT X
  refine ⟨t, ?_, b⟩
  jvm_step X.here [X.here.top, ↓top_set X.here.top, hx, hb, d, e']
  exact a
theorem g_istoren {i : Fin 4} {x : Int32} (d : decode M.2.1 pc = .ok (.istore_n i, 1)) (hi : (i : Nat) < M.2.2.1) (hc : gc lv (i : Nat) = true) (k : gG fr lo kc ks M (pc + 1) (((i : Nat), .int x) :: lv) st h Q) : gG fr lo kc ks M pc lv (.int x :: st) h Q := by
  intro l D B p e R s m args below meth c H locs cells slots mc ms ls C hW hS hL
  obtain ⟨ls', e', hL'⟩ := gL_store (v := .int x) hL hi rfl hc
  have hx := C.1
  have hb := C.2.1
  intro T hT X
  obtain ⟨t, a, b⟩ := k C hW hS hL' T hT X
  refine ⟨t, ?_, b⟩
  jvm_step X.here [X.here.top, ↓top_set X.here.top, hx, hb, d, e']
  exact a
theorem g_astore {i : Nat} {x : Nat} (d : decode M.2.1 pc = .ok (.astore i, 2)) (hi : i < M.2.2.1) (hc : gc lv i = true) (k : gG fr lo kc ks M (pc + 2) ((i, .ref x) :: lv) st h Q) : gG fr lo kc ks M pc lv (.ref x :: st) h Q := by
  intro l D B p e R s m args below meth c H locs cells slots mc ms ls C hW hS hL
  obtain ⟨ls', e', hL'⟩ := gL_store (v := .ref x) hL hi rfl hc
  have hx := C.1
  have hb := C.2.1
  intro T hT X
  obtain ⟨t, a, b⟩ := k C hW hS hL' T hT X
  refine ⟨t, ?_, b⟩
  jvm_step X.here [X.here.top, ↓top_set X.here.top, hx, hb, d, e', Value.isRef]
  exact a
theorem g_astoren {i : Fin 4} {x : Nat} (d : decode M.2.1 pc = .ok (.astore_n i, 1)) (hi : (i : Nat) < M.2.2.1) (hc : gc lv (i : Nat) = true) (k : gG fr lo kc ks M (pc + 1) (((i : Nat), .ref x) :: lv) st h Q) : gG fr lo kc ks M pc lv (.ref x :: st) h Q := by
  intro l D B p e R s m args below meth c H locs cells slots mc ms ls C hW hS hL
  obtain ⟨ls', e', hL'⟩ := gL_store (v := .ref x) hL hi rfl hc
  have hx := C.1
  have hb := C.2.1
  intro T hT X
  obtain ⟨t, a, b⟩ := k C hW hS hL' T hT X
  refine ⟨t, ?_, b⟩
  jvm_step X.here [X.here.top, ↓top_set X.here.top, hx, hb, d, e', Value.isRef]
  exact a
theorem g_iinc {i : Nat} {n : Int} {x v : Int32} (d : decode M.2.1 pc = .ok (.iinc i n, 3)) (hl : gl lv i = some (.int x)) (hi : i < M.2.2.1) (hc : gc lv i = true) (hv : x + Int32.ofInt n = v) (k : gG fr lo kc ks M (pc + 3) ((i, .int v) :: lv) st h Q) : gG fr lo kc ks M pc lv st h Q := by
  subst hv
  intro l D B p e R s m args below meth c H locs cells slots mc ms ls C hW hS hL
  obtain ⟨ls', e', hL'⟩ := gL_store (v := .int (x + Int32.ofInt n)) hL hi rfl hc
  have hg := hL.2.2 _ _ hl
  have hx := C.1
  have hb := C.2.1
  intro T hT X
  obtain ⟨t, a, b⟩ := k C hW hS hL' T hT X
  refine ⟨t, ?_, b⟩
  jvm_step X.here [X.here.top, ↓top_set X.here.top, hx, hb, d, hg, e']
  exact a
theorem g_iconst {n : Int} {v : Int32} (d : decode M.2.1 pc = .ok (.iconst n, 1)) (hv : Int32.ofInt n = v) (k : gG fr lo kc ks M (pc + 1) lv (.int v :: st) h Q) : gG fr lo kc ks M pc lv (st) h Q := by
  intro l D B p e R s m args below meth c H locs cells slots mc ms ls C hW hS hL
  exact lv_iconst C.1 C.2.1 d hv (k C hW hS hL)
theorem g_bipush {n : Int} {v : Int32} (d : decode M.2.1 pc = .ok (.bipush n, 2)) (hv : (Int8.ofInt n).toInt32 = v) (k : gG fr lo kc ks M (pc + 2) lv (.int v :: st) h Q) : gG fr lo kc ks M pc lv (st) h Q := by
  intro l D B p e R s m args below meth c H locs cells slots mc ms ls C hW hS hL
  exact lv_bipush C.1 C.2.1 d hv (k C hW hS hL)
theorem g_sipush {n : Int} {v : Int32} (d : decode M.2.1 pc = .ok (.sipush n, 3)) (hv : (Int16.ofInt n).toInt32 = v) (k : gG fr lo kc ks M (pc + 3) lv (.int v :: st) h Q) : gG fr lo kc ks M pc lv (st) h Q := by
  intro l D B p e R s m args below meth c H locs cells slots mc ms ls C hW hS hL
  exact lv_sipush C.1 C.2.1 d hv (k C hW hS hL)
theorem g_top {x y : Value} (e : x = y) (k : gG fr lo kc ks M pc lv (y :: st) h Q) : gG fr lo kc ks M pc lv (x :: st) h Q := by rw [e]; exact k
theorem g_lconst {n : Fin 2} (d : decode M.2.1 pc = .ok (.lconst n, 1))  (k : gG fr lo kc ks M (pc + 1) lv (.long (Int64.ofNat (n : Nat)) :: st) h Q) : gG fr lo kc ks M pc lv (st) h Q := by
  intro l D B p e R s m args below meth c H locs cells slots mc ms ls C hW hS hL
  exact lv_lconst C.1 C.2.1 d rfl (k C hW hS hL)
theorem g_ldc2 {idx : Nat} {v : Int64} (d : decode M.2.1 pc = .ok (.ldc2_w idx, 3)) (hw : Cond.constantLong M.1.cls idx v ∈ gAll) (k : gG fr lo kc ks M (pc + 3) lv (.long v :: st) h Q) : gG fr lo kc ks M pc lv (st) h Q := by
  intro l D B p e R s m args below meth c H locs cells slots mc ms ls C hW hS hL
  exact lv_ldc2 C.1 C.2.1 C.2.2.2.2.1 (C.2.2.2.2.2.1 _ hw) d (k C hW hS hL)
theorem g_ldc {idx : Nat} {v : Int32} (d : decode M.2.1 pc = .ok (.ldc idx, 2)) (hw : Cond.constant M.1.cls idx v ∈ gAll) (k : gG fr lo kc ks M (pc + 2) lv (.int v :: st) h Q) : gG fr lo kc ks M pc lv (st) h Q := by
  intro l D B p e R s m args below meth c H locs cells slots mc ms ls C hW hS hL
  exact lv_ldc C.1 C.2.1 C.2.2.2.2.1 (C.2.2.2.2.2.1 _ hw) d (k C hW hS hL)
theorem g_dup {v : Value} (d : decode M.2.1 pc = .ok (.dup, 1)) (hv : v.category = 1) (k : gG fr lo kc ks M (pc + 1) lv (v :: v :: st) h Q) : gG fr lo kc ks M pc lv (v :: st) h Q := by
  intro l D B p e R s m args below meth c H locs cells slots mc ms ls C hW hS hL
  exact lv_dup C.1 C.2.1 d hv (k C hW hS hL)
theorem g_dup2 {v w : Value} (d : decode M.2.1 pc = .ok (.dup2, 1)) (hv : v.category = 1) (hw : w.category = 1) (k : gG fr lo kc ks M (pc + 1) lv (v :: w :: v :: w :: st) h Q) : gG fr lo kc ks M pc lv (v :: w :: st) h Q := by
  intro l D B p e R s m args below meth c H locs cells slots mc ms ls C hW hS hL
  exact lv_dup2_11 C.1 C.2.1 d hv hw (k C hW hS hL)
theorem g_pop {v : Value} (d : decode M.2.1 pc = .ok (.pop, 1)) (hv : v.category = 1) (k : gG fr lo kc ks M (pc + 1) lv (st) h Q) : gG fr lo kc ks M pc lv (v :: st) h Q := by
  intro l D B p e R s m args below meth c H locs cells slots mc ms ls C hW hS hL
  exact lv_pop C.1 C.2.1 d hv (k C hW hS hL)
theorem g_iadd {x y : Int32} (d : decode M.2.1 pc = .ok (.iadd, 1))  (k : gG fr lo kc ks M (pc + 1) lv (.int (x + y) :: st) h Q) : gG fr lo kc ks M pc lv (.int y :: .int x :: st) h Q := by
  intro l D B p e R s m args below meth c H locs cells slots mc ms ls C hW hS hL
  exact lv_iadd C.1 C.2.1 d (k C hW hS hL)
theorem g_isub {x y : Int32} (d : decode M.2.1 pc = .ok (.isub, 1))  (k : gG fr lo kc ks M (pc + 1) lv (.int (x - y) :: st) h Q) : gG fr lo kc ks M pc lv (.int y :: .int x :: st) h Q := by
  intro l D B p e R s m args below meth c H locs cells slots mc ms ls C hW hS hL
  exact lv_isub C.1 C.2.1 d (k C hW hS hL)
theorem g_imul {x y : Int32} (d : decode M.2.1 pc = .ok (.imul, 1))  (k : gG fr lo kc ks M (pc + 1) lv (.int (x * y) :: st) h Q) : gG fr lo kc ks M pc lv (.int y :: .int x :: st) h Q := by
  intro l D B p e R s m args below meth c H locs cells slots mc ms ls C hW hS hL
  exact lv_imul C.1 C.2.1 d (k C hW hS hL)
theorem g_iand {x y : Int32} (d : decode M.2.1 pc = .ok (.iand, 1))  (k : gG fr lo kc ks M (pc + 1) lv (.int (x &&& y) :: st) h Q) : gG fr lo kc ks M pc lv (.int y :: .int x :: st) h Q := by
  intro l D B p e R s m args below meth c H locs cells slots mc ms ls C hW hS hL
  exact lv_iand C.1 C.2.1 d (k C hW hS hL)
theorem g_ior {x y : Int32} (d : decode M.2.1 pc = .ok (.ior, 1))  (k : gG fr lo kc ks M (pc + 1) lv (.int (x ||| y) :: st) h Q) : gG fr lo kc ks M pc lv (.int y :: .int x :: st) h Q := by
  intro l D B p e R s m args below meth c H locs cells slots mc ms ls C hW hS hL
  exact lv_ior C.1 C.2.1 d (k C hW hS hL)
theorem g_ixor {x y : Int32} (d : decode M.2.1 pc = .ok (.ixor, 1))  (k : gG fr lo kc ks M (pc + 1) lv (.int (x ^^^ y) :: st) h Q) : gG fr lo kc ks M pc lv (.int y :: .int x :: st) h Q := by
  intro l D B p e R s m args below meth c H locs cells slots mc ms ls C hW hS hL
  exact lv_ixor C.1 C.2.1 d (k C hW hS hL)
theorem g_ladd {x y : Int64} (d : decode M.2.1 pc = .ok (.ladd, 1))  (k : gG fr lo kc ks M (pc + 1) lv (.long (x + y) :: st) h Q) : gG fr lo kc ks M pc lv (.long y :: .long x :: st) h Q := by
  intro l D B p e R s m args below meth c H locs cells slots mc ms ls C hW hS hL
  exact lv_ladd C.1 C.2.1 d (k C hW hS hL)
theorem g_lsub {x y : Int64} (d : decode M.2.1 pc = .ok (.lsub, 1))  (k : gG fr lo kc ks M (pc + 1) lv (.long (x - y) :: st) h Q) : gG fr lo kc ks M pc lv (.long y :: .long x :: st) h Q := by
  intro l D B p e R s m args below meth c H locs cells slots mc ms ls C hW hS hL
  exact lv_lsub C.1 C.2.1 d (k C hW hS hL)
theorem g_lmul {x y : Int64} (d : decode M.2.1 pc = .ok (.lmul, 1))  (k : gG fr lo kc ks M (pc + 1) lv (.long (x * y) :: st) h Q) : gG fr lo kc ks M pc lv (.long y :: .long x :: st) h Q := by
  intro l D B p e R s m args below meth c H locs cells slots mc ms ls C hW hS hL
  exact lv_lmul C.1 C.2.1 d (k C hW hS hL)
theorem g_ineg {x : Int32} (d : decode M.2.1 pc = .ok (.ineg, 1))  (k : gG fr lo kc ks M (pc + 1) lv (.int (-x) :: st) h Q) : gG fr lo kc ks M pc lv (.int x :: st) h Q := by
  intro l D B p e R s m args below meth c H locs cells slots mc ms ls C hW hS hL
  exact lv_ineg C.1 C.2.1 d (k C hW hS hL)
theorem g_i2l {x : Int32} (d : decode M.2.1 pc = .ok (.i2l, 1))  (k : gG fr lo kc ks M (pc + 1) lv (.long x.toInt64 :: st) h Q) : gG fr lo kc ks M pc lv (.int x :: st) h Q := by
  intro l D B p e R s m args below meth c H locs cells slots mc ms ls C hW hS hL
  exact lv_i2l C.1 C.2.1 d rfl (k C hW hS hL)
theorem g_i2c {x : Int32} (d : decode M.2.1 pc = .ok (.i2c, 1))  (k : gG fr lo kc ks M (pc + 1) lv (.int (x.toUInt32 % 65536).toInt32 :: st) h Q) : gG fr lo kc ks M pc lv (.int x :: st) h Q := by
  intro l D B p e R s m args below meth c H locs cells slots mc ms ls C hW hS hL
  exact lv_i2c C.1 C.2.1 d rfl (k C hW hS hL)
theorem g_lcmp {x y : Int64} (d : decode M.2.1 pc = .ok (.lcmp, 1))  (k : gG fr lo kc ks M (pc + 1) lv (.int (lg_cmp x y) :: st) h Q) : gG fr lo kc ks M pc lv (.long y :: .long x :: st) h Q := by
  intro l D B p e R s m args below meth c H locs cells slots mc ms ls C hW hS hL
  exact W.lcmp C.1 C.2.1 d (k C hW hS hL)
theorem g_icmp_eq {x y : Int32} {off : Int} {tgt : Nat} (d : decode M.2.1 pc = .ok (.if_icmp .eq off, 3)) (ht : (pc : Int) + off = (tgt : Int)) (kt : x = y → gG fr lo kc ks M tgt lv st h Q) (kf : ¬ x = y → gG fr lo kc ks M (pc + 3) lv st h Q) : gG fr lo kc ks M pc lv (.int y :: .int x :: st) h Q := by
  intro l D B p e R s m args below meth c H locs cells slots mc ms ls C hW hS hL
  exact lv_icmp_eq C.1 C.2.1 d ht (fun q => kt q C hW hS hL) (fun q => kf q C hW hS hL)
theorem g_if_eq {x : Int32} {off : Int} {tgt : Nat} (d : decode M.2.1 pc = .ok (.ifCond .eq off, 3)) (ht : (pc : Int) + off = (tgt : Int)) (kt : x = 0 → gG fr lo kc ks M tgt lv st h Q) (kf : ¬ x = 0 → gG fr lo kc ks M (pc + 3) lv st h Q) : gG fr lo kc ks M pc lv (.int x :: st) h Q := by
  intro l D B p e R s m args below meth c H locs cells slots mc ms ls C hW hS hL
  exact lv_if_eq C.1 C.2.1 d ht (fun q => kt q C hW hS hL) (fun q => kf q C hW hS hL)
theorem g_icmp_ne {x y : Int32} {off : Int} {tgt : Nat} (d : decode M.2.1 pc = .ok (.if_icmp .ne off, 3)) (ht : (pc : Int) + off = (tgt : Int)) (kt : ¬ x = y → gG fr lo kc ks M tgt lv st h Q) (kf : x = y → gG fr lo kc ks M (pc + 3) lv st h Q) : gG fr lo kc ks M pc lv (.int y :: .int x :: st) h Q := by
  intro l D B p e R s m args below meth c H locs cells slots mc ms ls C hW hS hL
  exact lv_icmp_ne C.1 C.2.1 d ht (fun q => kt q C hW hS hL) (fun q => kf q C hW hS hL)
theorem g_if_ne {x : Int32} {off : Int} {tgt : Nat} (d : decode M.2.1 pc = .ok (.ifCond .ne off, 3)) (ht : (pc : Int) + off = (tgt : Int)) (kt : ¬ x = 0 → gG fr lo kc ks M tgt lv st h Q) (kf : x = 0 → gG fr lo kc ks M (pc + 3) lv st h Q) : gG fr lo kc ks M pc lv (.int x :: st) h Q := by
  intro l D B p e R s m args below meth c H locs cells slots mc ms ls C hW hS hL
  exact lv_if_ne C.1 C.2.1 d ht (fun q => kt q C hW hS hL) (fun q => kf q C hW hS hL)
theorem g_icmp_lt {x y : Int32} {off : Int} {tgt : Nat} (d : decode M.2.1 pc = .ok (.if_icmp .lt off, 3)) (ht : (pc : Int) + off = (tgt : Int)) (kt : x < y → gG fr lo kc ks M tgt lv st h Q) (kf : ¬ x < y → gG fr lo kc ks M (pc + 3) lv st h Q) : gG fr lo kc ks M pc lv (.int y :: .int x :: st) h Q := by
  intro l D B p e R s m args below meth c H locs cells slots mc ms ls C hW hS hL
  exact lv_icmp_lt C.1 C.2.1 d ht (fun q => kt q C hW hS hL) (fun q => kf q C hW hS hL)
theorem g_if_lt {x : Int32} {off : Int} {tgt : Nat} (d : decode M.2.1 pc = .ok (.ifCond .lt off, 3)) (ht : (pc : Int) + off = (tgt : Int)) (kt : x < 0 → gG fr lo kc ks M tgt lv st h Q) (kf : ¬ x < 0 → gG fr lo kc ks M (pc + 3) lv st h Q) : gG fr lo kc ks M pc lv (.int x :: st) h Q := by
  intro l D B p e R s m args below meth c H locs cells slots mc ms ls C hW hS hL
  exact lv_if_lt C.1 C.2.1 d ht (fun q => kt q C hW hS hL) (fun q => kf q C hW hS hL)
theorem g_icmp_le {x y : Int32} {off : Int} {tgt : Nat} (d : decode M.2.1 pc = .ok (.if_icmp .le off, 3)) (ht : (pc : Int) + off = (tgt : Int)) (kt : x ≤ y → gG fr lo kc ks M tgt lv st h Q) (kf : ¬ x ≤ y → gG fr lo kc ks M (pc + 3) lv st h Q) : gG fr lo kc ks M pc lv (.int y :: .int x :: st) h Q := by
  intro l D B p e R s m args below meth c H locs cells slots mc ms ls C hW hS hL
  exact lv_icmp_le C.1 C.2.1 d ht (fun q => kt q C hW hS hL) (fun q => kf q C hW hS hL)
theorem g_if_le {x : Int32} {off : Int} {tgt : Nat} (d : decode M.2.1 pc = .ok (.ifCond .le off, 3)) (ht : (pc : Int) + off = (tgt : Int)) (kt : x ≤ 0 → gG fr lo kc ks M tgt lv st h Q) (kf : ¬ x ≤ 0 → gG fr lo kc ks M (pc + 3) lv st h Q) : gG fr lo kc ks M pc lv (.int x :: st) h Q := by
  intro l D B p e R s m args below meth c H locs cells slots mc ms ls C hW hS hL
  exact lv_if_le C.1 C.2.1 d ht (fun q => kt q C hW hS hL) (fun q => kf q C hW hS hL)
theorem g_icmp_gt {x y : Int32} {off : Int} {tgt : Nat} (d : decode M.2.1 pc = .ok (.if_icmp .gt off, 3)) (ht : (pc : Int) + off = (tgt : Int)) (kt : y < x → gG fr lo kc ks M tgt lv st h Q) (kf : ¬ y < x → gG fr lo kc ks M (pc + 3) lv st h Q) : gG fr lo kc ks M pc lv (.int y :: .int x :: st) h Q := by
  intro l D B p e R s m args below meth c H locs cells slots mc ms ls C hW hS hL
  exact lv_icmp_gt C.1 C.2.1 d ht (fun q => kt q C hW hS hL) (fun q => kf q C hW hS hL)
theorem g_if_gt {x : Int32} {off : Int} {tgt : Nat} (d : decode M.2.1 pc = .ok (.ifCond .gt off, 3)) (ht : (pc : Int) + off = (tgt : Int)) (kt : 0 < x → gG fr lo kc ks M tgt lv st h Q) (kf : ¬ 0 < x → gG fr lo kc ks M (pc + 3) lv st h Q) : gG fr lo kc ks M pc lv (.int x :: st) h Q := by
  intro l D B p e R s m args below meth c H locs cells slots mc ms ls C hW hS hL
  exact lv_if_gt C.1 C.2.1 d ht (fun q => kt q C hW hS hL) (fun q => kf q C hW hS hL)
theorem g_icmp_ge {x y : Int32} {off : Int} {tgt : Nat} (d : decode M.2.1 pc = .ok (.if_icmp .ge off, 3)) (ht : (pc : Int) + off = (tgt : Int)) (kt : y ≤ x → gG fr lo kc ks M tgt lv st h Q) (kf : ¬ y ≤ x → gG fr lo kc ks M (pc + 3) lv st h Q) : gG fr lo kc ks M pc lv (.int y :: .int x :: st) h Q := by
  intro l D B p e R s m args below meth c H locs cells slots mc ms ls C hW hS hL
  exact lv_icmp_ge C.1 C.2.1 d ht (fun q => kt q C hW hS hL) (fun q => kf q C hW hS hL)
theorem g_if_ge {x : Int32} {off : Int} {tgt : Nat} (d : decode M.2.1 pc = .ok (.ifCond .ge off, 3)) (ht : (pc : Int) + off = (tgt : Int)) (kt : 0 ≤ x → gG fr lo kc ks M tgt lv st h Q) (kf : ¬ 0 ≤ x → gG fr lo kc ks M (pc + 3) lv st h Q) : gG fr lo kc ks M pc lv (.int x :: st) h Q := by
  intro l D B p e R s m args below meth c H locs cells slots mc ms ls C hW hS hL
  exact lv_if_ge C.1 C.2.1 d ht (fun q => kt q C hW hS hL) (fun q => kf q C hW hS hL)
theorem g_goto {off : Int} {tgt : Nat} (d : decode M.2.1 pc = .ok (.goto off, 3)) (ht : (pc : Int) + off = (tgt : Int)) (k : gG fr lo kc ks M tgt lv st h Q) : gG fr lo kc ks M pc lv st h Q := by
  intro l D B p e R s m args below meth c H locs cells slots mc ms ls C hW hS hL
  exact lv_goto C.1 C.2.1 d ht (k C hW hS hL)
theorem g_ifnull {x : Nat} {off : Int} (d : decode M.2.1 pc = .ok (.ifnull off, 3)) (k : gG fr lo kc ks M (pc + 3) lv st h Q) : gG fr lo kc ks M pc lv (.ref x :: st) h Q := by
  intro l D B p e R s m args below meth c H locs cells slots mc ms ls C hW hS hL
  exact lv_ifnull C.1 C.2.1 d (k C hW hS hL)
theorem g_tableIn {dflt a b : Int} {offs : Array Int} {len : Nat} {x : Int32} {off : Int} {tgt : Nat} (d : decode M.2.1 pc = .ok (.tableswitch dflt a b offs, len)) (h1 : ¬ x.toInt < a) (h2 : ¬ b < x.toInt) (ho : offs[(x.toInt - a).toNat]? = some off) (ht : (pc : Int) + off = (tgt : Int)) (k : gG fr lo kc ks M tgt lv st h Q) : gG fr lo kc ks M pc lv (.int x :: st) h Q := by
  intro l D B p e R s m args below meth c H locs cells slots mc ms ls C hW hS hL
  exact lv_tableIn C.1 C.2.1 d h1 h2 ho ht (k C hW hS hL)
theorem g_tableOut {dflt a b : Int} {offs : Array Int} {len : Nat} {x : Int32} {tgt : Nat} (d : decode M.2.1 pc = .ok (.tableswitch dflt a b offs, len)) (h1 : x.toInt < a ∨ b < x.toInt) (ht : (pc : Int) + dflt = (tgt : Int)) (k : gG fr lo kc ks M tgt lv st h Q) : gG fr lo kc ks M pc lv (.int x :: st) h Q := by
  intro l D B p e R s m args below meth c H locs cells slots mc ms ls C hW hS hL
  exact lv_tableOut C.1 C.2.1 d h1 ht (k C hW hS hL)
end GROWS
