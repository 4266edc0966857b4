section
-- ===== PART A: goes FIRST, ahead of the names: the tables' words, and 'selects' of the private methods out of them =====
/-- a private method of a class that the tables say can be made, by its rows of tables_1 -/
def lw_okq (q : MethodName × Nat) : Prop := (q.1.cls ≠ "java/lang/invoke/MethodHandle" ∧ q.1.cls ≠ "java/lang/invoke/VarHandle") ∧ Cond.instantiable q.1.cls q.2 ∈ tables_1 ∧ Cond.privateMethod q.1 ∈ tables_1 ∧ Cond.instanceMethod q.1 ∈ tables_1
theorem lw_p0 : lw_okq (⟨"PluralMint$History", "moveOldestToEnd", "()V"⟩, 2) := ⟨⟨by decide +kernel, by decide +kernel⟩, List.mem_of_getElem? (i := 153) (by decide +kernel), List.mem_of_getElem? (i := 302) (by decide +kernel), List.mem_of_getElem? (i := 303) (by decide +kernel)⟩
theorem lw_p1 : lw_okq (⟨"PluralMint$Dies", "meetsCondition", "(ILPluralMint$Word;)Z"⟩, 3) := ⟨⟨by decide +kernel, by decide +kernel⟩, List.mem_of_getElem? (i := 88) (by decide +kernel), List.mem_of_getElem? (i := 394) (by decide +kernel), List.mem_of_getElem? (i := 395) (by decide +kernel)⟩
theorem lw_p2 : lw_okq (⟨"PluralMint$OrderText", "sign", "(I)C"⟩, 3) := ⟨⟨by decide +kernel, by decide +kernel⟩, List.mem_of_getElem? (i := 29) (by decide +kernel), List.mem_of_getElem? (i := 465) (by decide +kernel), List.mem_of_getElem? (i := 466) (by decide +kernel)⟩
theorem lw_p3 : lw_okq (⟨"PluralMint$Grammar", "takeLetter", "()Z"⟩, 2) := ⟨⟨by decide +kernel, by decide +kernel⟩, List.mem_of_getElem? (i := 35) (by decide +kernel), List.mem_of_getElem? (i := 476) (by decide +kernel), List.mem_of_getElem? (i := 477) (by decide +kernel)⟩
theorem lw_p4 : lw_okq (⟨"PluralMint$Grammar", "partAfter", "(C)I"⟩, 2) := ⟨⟨by decide +kernel, by decide +kernel⟩, List.mem_of_getElem? (i := 35) (by decide +kernel), List.mem_of_getElem? (i := 480) (by decide +kernel), List.mem_of_getElem? (i := 481) (by decide +kernel)⟩
theorem lw_p5 : lw_okq (⟨"PluralMint", "checkNoun", "(I)V"⟩, 12) := ⟨⟨by decide +kernel, by decide +kernel⟩, List.mem_of_getElem? (i := 21) (by decide +kernel), List.mem_of_getElem? (i := 560) (by decide +kernel), List.mem_of_getElem? (i := 561) (by decide +kernel)⟩
theorem lw_p6 : lw_okq (⟨"java/lang/Throwable", "fillInStackTrace", "(I)Ljava/lang/Throwable;"⟩, 6) := ⟨⟨by decide +kernel, by decide +kernel⟩, List.mem_of_getElem? (i := 602) (by decide +kernel), List.mem_of_getElem? (i := 600) (by decide +kernel), List.mem_of_getElem? (i := 601) (by decide +kernel)⟩
theorem lw_p7 : lw_okq (⟨"PluralMint", "checkDie", "(I)V"⟩, 12) := ⟨⟨by decide +kernel, by decide +kernel⟩, List.mem_of_getElem? (i := 21) (by decide +kernel), List.mem_of_getElem? (i := 713) (by decide +kernel), List.mem_of_getElem? (i := 714) (by decide +kernel)⟩
theorem lw_p8 : lw_okq (⟨"PluralMint", "checkTextIsValid", "()V"⟩, 12) := ⟨⟨by decide +kernel, by decide +kernel⟩, List.mem_of_getElem? (i := 21) (by decide +kernel), List.mem_of_getElem? (i := 757) (by decide +kernel), List.mem_of_getElem? (i := 758) (by decide +kernel)⟩
theorem lw_p9 : lw_okq (⟨"PluralMint", "tryOrders", "()I"⟩, 12) := ⟨⟨by decide +kernel, by decide +kernel⟩, List.mem_of_getElem? (i := 21) (by decide +kernel), List.mem_of_getElem? (i := 762) (by decide +kernel), List.mem_of_getElem? (i := 763) (by decide +kernel)⟩
theorem lw_p10 : lw_okq (⟨"PluralMint$Order", "takeLetter", "(C)V"⟩, 5) := ⟨⟨by decide +kernel, by decide +kernel⟩, List.mem_of_getElem? (i := 169) (by decide +kernel), List.mem_of_getElem? (i := 784) (by decide +kernel), List.mem_of_getElem? (i := 785) (by decide +kernel)⟩
theorem lw_p11 : lw_okq (⟨"PluralMint", "loadWantedPlural", "()V"⟩, 12) := ⟨⟨by decide +kernel, by decide +kernel⟩, List.mem_of_getElem? (i := 21) (by decide +kernel), List.mem_of_getElem? (i := 885) (by decide +kernel), List.mem_of_getElem? (i := 886) (by decide +kernel)⟩
theorem lw_p12 : lw_okq (⟨"PluralMint", "collectOrigins", "()V"⟩, 12) := ⟨⟨by decide +kernel, by decide +kernel⟩, List.mem_of_getElem? (i := 21) (by decide +kernel), List.mem_of_getElem? (i := 913) (by decide +kernel), List.mem_of_getElem? (i := 914) (by decide +kernel)⟩
theorem lw_p13 : lw_okq (⟨"PluralMintModel", "isNoun", "(I)Z"⟩, 20) := ⟨⟨by decide +kernel, by decide +kernel⟩, List.mem_of_getElem? (i := 951) (by decide +kernel), List.mem_of_getElem? (i := 1026) (by decide +kernel), List.mem_of_getElem? (i := 1027) (by decide +kernel)⟩
theorem lw_p14 : lw_okq (⟨"PluralMintModel", "fails", "(I)I"⟩, 20) := ⟨⟨by decide +kernel, by decide +kernel⟩, List.mem_of_getElem? (i := 951) (by decide +kernel), List.mem_of_getElem? (i := 1033) (by decide +kernel), List.mem_of_getElem? (i := 1034) (by decide +kernel)⟩
theorem lw_p15 : lw_okq (⟨"PluralMintModel", "heapFor", "(I)I"⟩, 20) := ⟨⟨by decide +kernel, by decide +kernel⟩, List.mem_of_getElem? (i := 951) (by decide +kernel), List.mem_of_getElem? (i := 1038) (by decide +kernel), List.mem_of_getElem? (i := 1039) (by decide +kernel)⟩
def lw_privs_1 : List (MethodName × Nat) := [(⟨"PluralMint$History", "moveOldestToEnd", "()V"⟩, 2), (⟨"PluralMint$Dies", "meetsCondition", "(ILPluralMint$Word;)Z"⟩, 3), (⟨"PluralMint$OrderText", "sign", "(I)C"⟩, 3), (⟨"PluralMint$Grammar", "takeLetter", "()Z"⟩, 2), (⟨"PluralMint$Grammar", "partAfter", "(C)I"⟩, 2), (⟨"PluralMint", "checkNoun", "(I)V"⟩, 12), (⟨"java/lang/Throwable", "fillInStackTrace", "(I)Ljava/lang/Throwable;"⟩, 6), (⟨"PluralMint", "checkDie", "(I)V"⟩, 12), (⟨"PluralMint", "checkTextIsValid", "()V"⟩, 12), (⟨"PluralMint", "tryOrders", "()I"⟩, 12), (⟨"PluralMint$Order", "takeLetter", "(C)V"⟩, 5), (⟨"PluralMint", "loadWantedPlural", "()V"⟩, 12), (⟨"PluralMint", "collectOrigins", "()V"⟩, 12), (⟨"PluralMintModel", "isNoun", "(I)Z"⟩, 20), (⟨"PluralMintModel", "fails", "(I)I"⟩, 20), (⟨"PluralMintModel", "heapFor", "(I)I"⟩, 20)]
theorem lw_r1 : ∀ q ∈ lw_privs_1, lw_okq q := List.forall_mem_cons.mpr ⟨lw_p0, List.forall_mem_cons.mpr ⟨lw_p1, List.forall_mem_cons.mpr ⟨lw_p2, List.forall_mem_cons.mpr ⟨lw_p3, List.forall_mem_cons.mpr ⟨lw_p4, List.forall_mem_cons.mpr ⟨lw_p5, List.forall_mem_cons.mpr ⟨lw_p6, List.forall_mem_cons.mpr ⟨lw_p7, List.forall_mem_cons.mpr ⟨lw_p8, List.forall_mem_cons.mpr ⟨lw_p9, List.forall_mem_cons.mpr ⟨lw_p10, List.forall_mem_cons.mpr ⟨lw_p11, List.forall_mem_cons.mpr ⟨lw_p12, List.forall_mem_cons.mpr ⟨lw_p13, List.forall_mem_cons.mpr ⟨lw_p14, List.forall_mem_cons.mpr ⟨lw_p15, fun _ h => absurd h List.not_mem_nil⟩⟩⟩⟩⟩⟩⟩⟩⟩⟩⟩⟩⟩⟩⟩⟩
theorem lw_p16 : lw_okq (⟨"PluralMintModel", "isStale", "(I)Z"⟩, 20) := ⟨⟨by decide +kernel, by decide +kernel⟩, List.mem_of_getElem? (i := 951) (by decide +kernel), List.mem_of_getElem? (i := 1042) (by decide +kernel), List.mem_of_getElem? (i := 1043) (by decide +kernel)⟩
theorem lw_p17 : lw_okq (⟨"PluralMintModel", "makesOf", "(I)V"⟩, 20) := ⟨⟨by decide +kernel, by decide +kernel⟩, List.mem_of_getElem? (i := 951) (by decide +kernel), List.mem_of_getElem? (i := 1046) (by decide +kernel), List.mem_of_getElem? (i := 1047) (by decide +kernel)⟩
theorem lw_p18 : lw_okq (⟨"PluralMintModel", "makes", "([II)V"⟩, 20) := ⟨⟨by decide +kernel, by decide +kernel⟩, List.mem_of_getElem? (i := 951) (by decide +kernel), List.mem_of_getElem? (i := 1050) (by decide +kernel), List.mem_of_getElem? (i := 1051) (by decide +kernel)⟩
theorem lw_p19 : lw_okq (⟨"PluralMintModel", "inTable", "([II)I"⟩, 20) := ⟨⟨by decide +kernel, by decide +kernel⟩, List.mem_of_getElem? (i := 951) (by decide +kernel), List.mem_of_getElem? (i := 1054) (by decide +kernel), List.mem_of_getElem? (i := 1055) (by decide +kernel)⟩
theorem lw_p20 : lw_okq (⟨"PluralMintModel", "dieBy", "([II)I"⟩, 20) := ⟨⟨by decide +kernel, by decide +kernel⟩, List.mem_of_getElem? (i := 951) (by decide +kernel), List.mem_of_getElem? (i := 1064) (by decide +kernel), List.mem_of_getElem? (i := 1065) (by decide +kernel)⟩
theorem lw_p21 : lw_okq (⟨"PluralMintModel", "fits", "(I[II)Z"⟩, 20) := ⟨⟨by decide +kernel, by decide +kernel⟩, List.mem_of_getElem? (i := 951) (by decide +kernel), List.mem_of_getElem? (i := 1068) (by decide +kernel), List.mem_of_getElem? (i := 1069) (by decide +kernel)⟩
theorem lw_p22 : lw_okq (⟨"PluralMintModel", "records", "()V"⟩, 20) := ⟨⟨by decide +kernel, by decide +kernel⟩, List.mem_of_getElem? (i := 951) (by decide +kernel), List.mem_of_getElem? (i := 1081) (by decide +kernel), List.mem_of_getElem? (i := 1082) (by decide +kernel)⟩
theorem lw_p23 : lw_okq (⟨"PluralMintModel", "coins", "(I)I"⟩, 20) := ⟨⟨by decide +kernel, by decide +kernel⟩, List.mem_of_getElem? (i := 951) (by decide +kernel), List.mem_of_getElem? (i := 1085) (by decide +kernel), List.mem_of_getElem? (i := 1086) (by decide +kernel)⟩
theorem lw_p24 : lw_okq (⟨"PluralMintModel", "closes", "()V"⟩, 20) := ⟨⟨by decide +kernel, by decide +kernel⟩, List.mem_of_getElem? (i := 951) (by decide +kernel), List.mem_of_getElem? (i := 1093) (by decide +kernel), List.mem_of_getElem? (i := 1094) (by decide +kernel)⟩
theorem lw_p25 : lw_okq (⟨"PluralMintModel", "stale", "()I"⟩, 20) := ⟨⟨by decide +kernel, by decide +kernel⟩, List.mem_of_getElem? (i := 951) (by decide +kernel), List.mem_of_getElem? (i := 1101) (by decide +kernel), List.mem_of_getElem? (i := 1102) (by decide +kernel)⟩
theorem lw_p26 : lw_okq (⟨"PluralMintModel", "isDie", "(I)Z"⟩, 20) := ⟨⟨by decide +kernel, by decide +kernel⟩, List.mem_of_getElem? (i := 951) (by decide +kernel), List.mem_of_getElem? (i := 1109) (by decide +kernel), List.mem_of_getElem? (i := 1110) (by decide +kernel)⟩
theorem lw_p27 : lw_okq (⟨"PluralMintModel", "errorOfText", "()I"⟩, 20) := ⟨⟨by decide +kernel, by decide +kernel⟩, List.mem_of_getElem? (i := 951) (by decide +kernel), List.mem_of_getElem? (i := 1129) (by decide +kernel), List.mem_of_getElem? (i := 1130) (by decide +kernel)⟩
theorem lw_p28 : lw_okq (⟨"PluralMintModel", "readsOrder", "()Z"⟩, 20) := ⟨⟨by decide +kernel, by decide +kernel⟩, List.mem_of_getElem? (i := 951) (by decide +kernel), List.mem_of_getElem? (i := 1133) (by decide +kernel), List.mem_of_getElem? (i := 1134) (by decide +kernel)⟩
theorem lw_p29 : lw_okq (⟨"PluralMintModel", "takesOne", "(I)Z"⟩, 20) := ⟨⟨by decide +kernel, by decide +kernel⟩, List.mem_of_getElem? (i := 951) (by decide +kernel), List.mem_of_getElem? (i := 1137) (by decide +kernel), List.mem_of_getElem? (i := 1138) (by decide +kernel)⟩
theorem lw_p30 : lw_okq (⟨"PluralMintModel", "isHere", "(II)Z"⟩, 20) := ⟨⟨by decide +kernel, by decide +kernel⟩, List.mem_of_getElem? (i := 951) (by decide +kernel), List.mem_of_getElem? (i := 1141) (by decide +kernel), List.mem_of_getElem? (i := 1142) (by decide +kernel)⟩
theorem lw_p31 : lw_okq (⟨"PluralMintModel", "readsLetters", "([II)I"⟩, 20) := ⟨⟨by decide +kernel, by decide +kernel⟩, List.mem_of_getElem? (i := 951) (by decide +kernel), List.mem_of_getElem? (i := 1145) (by decide +kernel), List.mem_of_getElem? (i := 1146) (by decide +kernel)⟩
def lw_privs_2 : List (MethodName × Nat) := [(⟨"PluralMintModel", "isStale", "(I)Z"⟩, 20), (⟨"PluralMintModel", "makesOf", "(I)V"⟩, 20), (⟨"PluralMintModel", "makes", "([II)V"⟩, 20), (⟨"PluralMintModel", "inTable", "([II)I"⟩, 20), (⟨"PluralMintModel", "dieBy", "([II)I"⟩, 20), (⟨"PluralMintModel", "fits", "(I[II)Z"⟩, 20), (⟨"PluralMintModel", "records", "()V"⟩, 20), (⟨"PluralMintModel", "coins", "(I)I"⟩, 20), (⟨"PluralMintModel", "closes", "()V"⟩, 20), (⟨"PluralMintModel", "stale", "()I"⟩, 20), (⟨"PluralMintModel", "isDie", "(I)Z"⟩, 20), (⟨"PluralMintModel", "errorOfText", "()I"⟩, 20), (⟨"PluralMintModel", "readsOrder", "()Z"⟩, 20), (⟨"PluralMintModel", "takesOne", "(I)Z"⟩, 20), (⟨"PluralMintModel", "isHere", "(II)Z"⟩, 20), (⟨"PluralMintModel", "readsLetters", "([II)I"⟩, 20)]
theorem lw_r2 : ∀ q ∈ lw_privs_2, lw_okq q := List.forall_mem_cons.mpr ⟨lw_p16, List.forall_mem_cons.mpr ⟨lw_p17, List.forall_mem_cons.mpr ⟨lw_p18, List.forall_mem_cons.mpr ⟨lw_p19, List.forall_mem_cons.mpr ⟨lw_p20, List.forall_mem_cons.mpr ⟨lw_p21, List.forall_mem_cons.mpr ⟨lw_p22, List.forall_mem_cons.mpr ⟨lw_p23, List.forall_mem_cons.mpr ⟨lw_p24, List.forall_mem_cons.mpr ⟨lw_p25, List.forall_mem_cons.mpr ⟨lw_p26, List.forall_mem_cons.mpr ⟨lw_p27, List.forall_mem_cons.mpr ⟨lw_p28, List.forall_mem_cons.mpr ⟨lw_p29, List.forall_mem_cons.mpr ⟨lw_p30, List.forall_mem_cons.mpr ⟨lw_p31, fun _ h => absurd h List.not_mem_nil⟩⟩⟩⟩⟩⟩⟩⟩⟩⟩⟩⟩⟩⟩⟩⟩
theorem lw_p32 : lw_okq (⟨"PluralMintModel", "told", "(I)I"⟩, 20) := ⟨⟨by decide +kernel, by decide +kernel⟩, List.mem_of_getElem? (i := 951) (by decide +kernel), List.mem_of_getElem? (i := 1149) (by decide +kernel), List.mem_of_getElem? (i := 1150) (by decide +kernel)⟩
theorem lw_p33 : lw_okq (⟨"PluralMintModel", "tries", "()V"⟩, 20) := ⟨⟨by decide +kernel, by decide +kernel⟩, List.mem_of_getElem? (i := 951) (by decide +kernel), List.mem_of_getElem? (i := 1157) (by decide +kernel), List.mem_of_getElem? (i := 1158) (by decide +kernel)⟩
theorem lw_p34 : lw_okq (⟨"PluralMintModel", "doesAll", "()V"⟩, 20) := ⟨⟨by decide +kernel, by decide +kernel⟩, List.mem_of_getElem? (i := 951) (by decide +kernel), List.mem_of_getElem? (i := 1161) (by decide +kernel), List.mem_of_getElem? (i := 1162) (by decide +kernel)⟩
theorem lw_p35 : lw_okq (⟨"PluralMintModel", "does", "()Z"⟩, 20) := ⟨⟨by decide +kernel, by decide +kernel⟩, List.mem_of_getElem? (i := 951) (by decide +kernel), List.mem_of_getElem? (i := 1165) (by decide +kernel), List.mem_of_getElem? (i := 1166) (by decide +kernel)⟩
theorem lw_p36 : lw_okq (⟨"PluralMintModel", "isInBook", "()Z"⟩, 20) := ⟨⟨by decide +kernel, by decide +kernel⟩, List.mem_of_getElem? (i := 951) (by decide +kernel), List.mem_of_getElem? (i := 1169) (by decide +kernel), List.mem_of_getElem? (i := 1170) (by decide +kernel)⟩
theorem lw_p37 : lw_okq (⟨"PluralMintModel", "recalls", "()I"⟩, 20) := ⟨⟨by decide +kernel, by decide +kernel⟩, List.mem_of_getElem? (i := 951) (by decide +kernel), List.mem_of_getElem? (i := 1227) (by decide +kernel), List.mem_of_getElem? (i := 1228) (by decide +kernel)⟩
theorem lw_p38 : lw_okq (⟨"PluralMintModel", "isWord", "()Z"⟩, 20) := ⟨⟨by decide +kernel, by decide +kernel⟩, List.mem_of_getElem? (i := 951) (by decide +kernel), List.mem_of_getElem? (i := 1231) (by decide +kernel), List.mem_of_getElem? (i := 1232) (by decide +kernel)⟩
theorem lw_p39 : lw_okq (⟨"PluralMintModel", "finds", "([II)V"⟩, 20) := ⟨⟨by decide +kernel, by decide +kernel⟩, List.mem_of_getElem? (i := 951) (by decide +kernel), List.mem_of_getElem? (i := 1243) (by decide +kernel), List.mem_of_getElem? (i := 1244) (by decide +kernel)⟩
def lw_privs_3 : List (MethodName × Nat) := [(⟨"PluralMintModel", "told", "(I)I"⟩, 20), (⟨"PluralMintModel", "tries", "()V"⟩, 20), (⟨"PluralMintModel", "doesAll", "()V"⟩, 20), (⟨"PluralMintModel", "does", "()Z"⟩, 20), (⟨"PluralMintModel", "isInBook", "()Z"⟩, 20), (⟨"PluralMintModel", "recalls", "()I"⟩, 20), (⟨"PluralMintModel", "isWord", "()Z"⟩, 20), (⟨"PluralMintModel", "finds", "([II)V"⟩, 20)]
theorem lw_r3 : ∀ q ∈ lw_privs_3, lw_okq q := List.forall_mem_cons.mpr ⟨lw_p32, List.forall_mem_cons.mpr ⟨lw_p33, List.forall_mem_cons.mpr ⟨lw_p34, List.forall_mem_cons.mpr ⟨lw_p35, List.forall_mem_cons.mpr ⟨lw_p36, List.forall_mem_cons.mpr ⟨lw_p37, List.forall_mem_cons.mpr ⟨lw_p38, List.forall_mem_cons.mpr ⟨lw_p39, fun _ h => absurd h List.not_mem_nil⟩⟩⟩⟩⟩⟩⟩⟩
def lw_privs : List (MethodName × Nat) := lw_privs_1 ++ (lw_privs_2 ++ (lw_privs_3))
def lw_tbl : List Cond := k2_sels lw_privs ++ tables_1
theorem lw_privs_ok : ∀ q ∈ lw_privs, lw_okq q := by
  show ∀ q ∈ lw_privs_1 ++ (lw_privs_2 ++ (lw_privs_3)), lw_okq q
  exact List.forall_mem_append.mpr ⟨lw_r1, List.forall_mem_append.mpr ⟨lw_r2, lw_r3⟩⟩
-- ===== end of PART A; then your names; then what follows =====
/-! ===== BEGIN words of one list among another's, by their places ===== -/
theorem goodIn_r {big : List Cond} (ws : List Cond) (ps : List Nat) (hp : ws = ps.filterMap (fun i => big[i]?)) (h : ws.all goodWord = true) : GoodIn big ws := by
  intro w hw
  have h1 := List.all_eq_true.mp h w hw
  rw [hp] at hw
  obtain ⟨i, -, hi⟩ := List.mem_filterMap.mp hw
  have hm : w ∈ big := by first | exact List.mem_of_getElem? hi | exact List.getElem?_mem hi
  exact ⟨hm, good_of_word h1⟩
theorem goodIn_app {big a b : List Cond} (ha : GoodIn big a) (hb : GoodIn big b) : GoodIn big (a ++ b) := fun w h => (List.mem_append.mp h).elim (ha w) (hb w)
theorem goodIn_ca {big a b : List Cond} {c : Cond} (ha : GoodIn big (c :: a)) (hb : GoodIn big b) : GoodIn big (c :: (a ++ b)) := fun w h => (List.mem_cons.mp h).elim (fun e => ha w (List.mem_cons.mpr (Or.inl e))) (fun h => (List.mem_append.mp h).elim (fun h => ha w (List.mem_cons.mpr (Or.inr h))) (hb w))
theorem goodIn_sub {big ws : List Cond} (hm : ∀ w ∈ ws, w ∈ big) (h : ws.all goodWord = true) : GoodIn big ws := fun w hw => ⟨hm w hw, good_of_word (List.all_eq_true.mp h w hw)⟩
/-! ===== END ===== -/

/-! ===== BEGIN exceptions that leave a method, and their catching by the caller (launches without stack traces) ===== -/
section VXA
/-! The laws vx_back, vx_callV, vx_callS, vx_callSW, vx_throw0, vx_throwS follow proofs of the library, with one case more: JvmDerived/Free/Laws.lean (Back.of_free), Shelf42/LK1.lean (callV, callS), Shelf/KitTraced.lean (throwNew0V, throwNewS). -/
/-- where a method has thrown q: the class by its name, the cell, what was written, the world -/
def vx_T (XC : String → State → State → Prop) (st : State) (q : Addr) (t : State) (mc ms : Nat) (free : Addr → Prop) : Prop :=
  ∃ (E : String) (ce : Cell) (L : List Loc), XC E st t ∧ t.heap[q]? = some ce ∧ ce.vm = .none ∧ st.vm.findClass E = some ce.cls ∧ st.WarmedH t.vm ∧ st.sameButNew ({ t with vm := st.vm } : State) L mc ms ∧ ∀ z ∈ L, free z.base
def vx_Q (Qc : Array Value → State → Outcome → State → Prop) (XC : String → State → State → Prop) (mc ms : Nat) (free : Addr → Prop) : Array Value → State → Outcome → State → Prop := fun a st o t =>
  (Qc a st o t ∧ ∃ L, FrameEnd st o t L mc ms ∧ ∀ q ∈ L, free q.base) ∨ ∃ q, o = .threw q ∧ vx_T XC st q t mc ms free
/-- a callee that returns or throws -/
def vx_Met (l : Launch) (y : MethodName) (ws : List Cond) (rm : Room) (Pc : Array Value → State → Prop) (Qc : Array Value → State → Outcome → State → Prop) (XC : String → State → State → Prop) (mc ms : Nat) (free : Addr → Prop) : Prop :=
  MetFree l y (headSpec ws rm) Pc (fun _ _ _ _ _ => True) (vx_Q Qc XC mc ms free)
def vx_Post (XC : String → State → State → Prop) (mc ms : Nat) (free : Addr → Prop) : Pt → Array Value → Addr → Pt → Prop := fun A a q B =>
  ∃ (g : JFrame) (mk : MethodId) (t : State) (L : List Loc) (E : String) (ce : Cell), B.U.heap = t.heap ∧ B.U.vm = t.vm ∧ XC E (A.U.calling g mk a) t ∧ t.heap[q]? = some ce ∧ ce.vm = .none ∧ A.U.vm.findClass E = some ce.cls ∧ B.locs = A.locs ++ L ∧ (∀ z ∈ L, free z.base) ∧ B.cells = A.cells + mc ∧ B.slots = A.slots + ms
def vx_Back (l : Launch) (R : Room) (p : Program) (e : Env) (below : List Frame) (s : State) (sargs : Array Value) (y : MethodName) (len W9 : Nat)
    (Pre : Pt → Array Value → Prop) (Post : Pt → Array Value → Option Value → Pt → Prop) (PostX : Pt → Array Value → Addr → Pt → Prop) : Prop :=
  ∀ (m : MethodId) (meth : Method) (c : Code) (A : Pt) (g : JFrame) (ig : Instr) (mk : MethodId) (a : Array Value),
    Stand p l e R s m sargs below meth c A.U A.locs A.cells A.slots → g.method = m → g.locals.size = c.maxLocals → decode c.code g.pc = .ok (ig, len) →
    2 * g.monitorRoom + (g.stack.map fun v => v.category).sum ≤ W9 → A.U.methodNamed? y = some mk → Pre A a →
    (∃ (v : Option Value) (B : Pt), Stand p l e R s m sargs below meth c B.U B.locs B.cells B.slots ∧ Post A a v B ∧
      Steps p.tables e below (doInvoke e (A.U.setTop g) [] mk a).1 (B.U.setTop { g with pc := g.pc + len, stack := v.toList ++ g.stack })) ∨
    (∃ (q : Addr) (B : Pt), Stand p l e R s m sargs below meth c B.U B.locs B.cells B.slots ∧ PostX A a q B ∧
      Steps p.tables e below (doInvoke e (A.U.setTop g) [] mk a).1 ((B.U.setTop g).pushFrame (.throwing q)))
section Payer
variable {l : Launch} {R : Room} {p : Program} {e : Env} {below : List Frame} {s : State} {sargs : Array Value} {y : MethodName} {len W9 : Nat}
theorem vx_back {ws : List Cond} {rm : Room} {Pc : Array Value → State → Prop} {Qc : Array Value → State → Outcome → State → Prop} {XC : String → State → State → Prop} {mc ms : Nat} {free : Addr → Prop} {bytes : ByteArray} {maxL : Nat} {ret : Option FieldType}
    (hM : vx_Met l y ws rm Pc Qc XC mc ms free) (hblind : FrameBlind Pc) (hrc : rm.cells = mc) (hrs : rm.slots = ms)
    (hframes : rm.frames + 1 ≤ R.frames) (hlocals : W9 + (maxL + 11) + rm.locals ≤ R.locals)
    (hws : ∀ w ∈ ws, ∀ a' U, s.WarmedH U.vm → w.before a' U = true) (hcode : Cond.code y bytes maxL ret ∈ ws) (hinit : ∀ a' U, s.WarmedH U.vm → (Cond.initialized y.cls).before a' U = true) :
    vx_Back l R p e below s sargs y len W9 (PreOf R mc ms Pc) (PostOf Qc mc ms free) (vx_Post XC mc ms free) := by
  intro m meth c A g ig mk a X hg hsize hdg hW hn hp
  have h1 : (headSpec ws rm).pre.before a A.U = true := atoms_intro fun w hw => hws w hw _ _ X.warmed
  have h2 : (Cond.code y bytes maxL ret).before a A.U = true := hws _ hcode _ _ X.warmed
  have h3 : (Cond.initialized y.cls).before a A.U = true := hinit _ _ X.warmed
  have h4 : A.cells + (headSpec ws rm).room.cells ≤ R.cells := by rw [show (headSpec ws rm).room.cells = mc from hrc]; exact hp.1
  have h5 : A.slots + (headSpec ws rm).room.slots ≤ R.slots := by rw [show (headSpec ws rm).room.slots = ms from hrs]; exact hp.2.1
  have hPc : Pc a (A.U.calling g mk a) := hblind _ _ _ _ hp.2.2
  obtain ⟨U, Ls, c0, s0⟩ := A
  dsimp only [Pt.U, Pt.locs, Pt.cells, Pt.slots] at h1 h2 h3 h4 h5 X hn hPc ⊢
  obtain ⟨methY, cY, hmY, hcY, -, hlY, -, -, -, -⟩ := Cond.code_spec hn h2
  obtain ⟨kY, hkY, -⟩ := className_of_methodNamed hn
  have hinitY : kY.init = .initialized := Cond.initialized_spec (findClass_of_methodNamed hn) hkY h3
  have h : At U g.method c below := by rw [hg]; exact X.here
  have hlocals9 : W9 + (maxL + 11) + (headSpec ws rm).room.locals ≤ R.locals := hlocals
  have happ : (headSpec ws rm).appliesLoose y e.platform (U.calling g mk a) = true :=
    Spec.appliesLoose_calling (g := g) h hdg hn hkY hinitY
      (X.room_calling (g := g) (R' := (headSpec ws rm).room) hsize hmY hcY hframes (by rw [hlY]; omega) h4 h5) h1
  obtain ⟨mid, hmid⟩ := h.above
  have hfr : (U.setTop g).frames = (.java g :: mid) ++ below := by rw [State.frames_setTop' g h.top, hmid]; rfl
  obtain ⟨o, s₂, hsteps, -, hend, hq⟩ := Steps.callFree hM p X.admits X.cas X.clock (acts := []) hfr happ hPc trivial
  have hq' : vx_Q Qc XC mc ms free a (U.calling g mk a) o s₂ := hq
  rw [State.frames_setTop' g h.top] at hend
  obtain ⟨g₀, hg0⟩ := Option.isSome_iff_exists.mp h.top
  obtain ⟨r, hr⟩ := State.topJava?_eq_some.mp hg0
  have hr' : (({ U with heap := s₂.heap, slotsUsed := s₂.slotsUsed } : State).setVm s₂.vm).frames = .java g₀ :: r := hr
  rcases hq' with ⟨hqc, L, hfe, hL⟩ | ⟨q, rfl, E, ce, L, hx, hce, hcv, hcl, hW₂, hsm, hL⟩
  · obtain ⟨⟨v, rfl⟩, hW₂, e2, q2, q3, q4, q5, q6⟩ := id hfe
    have e3 : s₂ = ({ (U.calling g mk a).setFrames s₂.frames with heap := s₂.heap, slotsUsed := s₂.slotsUsed } : State).setVm s₂.vm := by
      have : s₂ = ({ s₂ with vm := (U.calling g mk a).vm } : State).setVm s₂.vm := rfl
      rw [e2] at this
      exact this
    obtain ⟨c₂, i₂, len₂, hc₂, hd₂, hf₂⟩ := hend
    have hW' : U.WarmedH s₂.vm := hW₂
    have hcc : c₂ = c := by
      have h1 : s₂.code? g.method = U.code? g.method := by
        rw [State.code?_eq, State.code?_eq, hW'.alike.method?]
      exact Option.some.inj (hc₂.symm.trans (h1.trans h.code))
    subst hcc
    have hlen : len₂ = len := by rw [hdg] at hd₂; cases hd₂; rfl
    subst hlen
    have hs₂ : s₂ = (({ U with heap := s₂.heap, slotsUsed := s₂.slotsUsed } : State).setVm s₂.vm).setTop { g with pc := g.pc + len₂, stack := v.toList ++ g.stack } := by
      refine e3.trans ?_
      rw [hf₂, State.calling_eq h.top, State.setFrames_setFrames, State.setTop_of_frames _ hr', hr]
      rfl
    have hsame : U.sameButNew ({ U with heap := s₂.heap, slotsUsed := s₂.slotsUsed } : State) L mc ms := by
      refine ⟨?_, q2, q3, q4, q5, q6⟩
      obtain ⟨t, ht, -⟩ := State.frames_cons hr
      show ({ U with heap := s₂.heap, slotsUsed := s₂.slotsUsed } : State) = { U.setFrames U.frames with heap := s₂.heap, slotsUsed := s₂.slotsUsed }
      rw [State.setFrames_self ht]
    subst hg
    refine Or.inl ⟨v, ⟨(({ U with heap := s₂.heap, slotsUsed := s₂.slotsUsed } : State).setVm s₂.vm), Ls ++ L, c0 + mc, s0 + ms⟩,
      ⟨X.admits, X.cas, X.clock, X.frames, X.room, X.hears, X.method, X.code, (X.here.setHeapUsed s₂.heap s₂.slotsUsed).setVm hW'.alike, X.tail, State.WarmedH.trans X.warmed hW', X.limits, X.bytes, X.same.trans (hsame.setVm s.vm)⟩,
      ⟨g, mk, s₂, L, rfl, rfl, hqc, rfl, hL, rfl, rfl⟩, ?_⟩
    show Steps p.tables e below _ ((({ U with heap := s₂.heap, slotsUsed := s₂.slotsUsed } : State).setVm s₂.vm).setTop { g with pc := g.pc + len₂, stack := v.toList ++ g.stack })
    rw [← hs₂]
    exact hsteps
  · obtain ⟨e2, q2, q3, q4, q5, q6⟩ := id hsm
    have e3 : s₂ = ({ (U.calling g mk a).setFrames s₂.frames with heap := s₂.heap, slotsUsed := s₂.slotsUsed } : State).setVm s₂.vm := by
      have : s₂ = ({ s₂ with vm := (U.calling g mk a).vm } : State).setVm s₂.vm := rfl
      rw [e2] at this
      exact this
    have hf₂ : s₂.frames = .throwing q :: .java g :: U.frames.tail := hend
    have hW' : U.WarmedH s₂.vm := hW₂
    have hs₂ : s₂ = ((({ U with heap := s₂.heap, slotsUsed := s₂.slotsUsed } : State).setVm s₂.vm).setTop g).pushFrame (.throwing q) := by
      refine e3.trans ?_
      rw [hf₂, State.calling_eq h.top, State.setFrames_setFrames, State.pushFrame, State.frames_setTop _ hr', State.setTop_of_frames _ hr', State.setFrames_setFrames, hr]
      rfl
    have hsame : U.sameButNew ({ U with heap := s₂.heap, slotsUsed := s₂.slotsUsed } : State) L mc ms := by
      refine ⟨?_, q2, q3, q4, q5, q6⟩
      obtain ⟨t, ht, -⟩ := State.frames_cons hr
      show ({ U with heap := s₂.heap, slotsUsed := s₂.slotsUsed } : State) = { U.setFrames U.frames with heap := s₂.heap, slotsUsed := s₂.slotsUsed }
      rw [State.setFrames_self ht]
    subst hg
    refine Or.inr ⟨q, ⟨(({ U with heap := s₂.heap, slotsUsed := s₂.slotsUsed } : State).setVm s₂.vm), Ls ++ L, c0 + mc, s0 + ms⟩,
      ⟨X.admits, X.cas, X.clock, X.frames, X.room, X.hears, X.method, X.code, (X.here.setHeapUsed s₂.heap s₂.slotsUsed).setVm hW'.alike, X.tail, State.WarmedH.trans X.warmed hW', X.limits, X.bytes, X.same.trans (hsame.setVm s.vm)⟩,
      ⟨g, mk, s₂, L, E, ce, rfl, rfl, hx, hce, hcv, hcl, rfl, hL, rfl, rfl⟩, ?_⟩
    show Steps p.tables e below _ (((({ U with heap := s₂.heap, slotsUsed := s₂.slotsUsed } : State).setVm s₂.vm).setTop g).pushFrame (.throwing q))
    rw [← hs₂]
    exact hsteps
end Payer
section Calls
variable {p : Program} {l : Launch} {e : Env} {R : Room} {s : State} {m : MethodId} {args : Array Value} {below : List Frame} {meth : Method} {c : Code} {T : State} {locs : List Loc} {cells slots : Nat}
theorem vx_callV (X : Stand p l e R s m args below meth c T locs cells slots) (hexec : p.tables.exec = Jvm.exec) {own C : String} {index : Nat} {y : MethodName} {bytes : ByteArray} {maxL : Nat} {ret : Option FieldType}
    (hown : s.vm.findClass own = some m.cls) (hlink : (Cond.methodLink own index y).before args s = true) (hinst : (Cond.instanceMethod y).before args s = true) (hsel : (Cond.selects C y y).before args s = true)
    (hcode : (Cond.code y bytes maxL ret).before args s = true) (hy : y.cls ≠ "java/lang/invoke/MethodHandle" ∧ y.cls ≠ "java/lang/invoke/VarHandle")
    {W9 : Nat} {Pre : Pt → Array Value → Prop} {Post : Pt → Array Value → Option Value → Pt → Prop} {PostX : Pt → Array Value → Addr → Pt → Prop} (hK : vx_Back l R p e below s args y 3 W9 Pre Post PostX)
    {b : Addr} {cellB : Cell} (hcell : T.heap[b]? = some cellB) (hobj : cellB.vm.isStatics = false) (hcls : s.vm.findClass C = some cellB.cls)
    {g : JFrame} (hg : g.method = m) (hsize : g.locals.size = c.maxLocals) {argsL rest : List Value} (hlen : ∀ sig, parseMethodDescriptor y.desc = some sig → argsL.length = sig.parameters.length)
    (hstack : g.stack = argsL.reverse ++ .ref b :: rest) (hW : 2 * g.monitorRoom + (rest.map fun v => v.category).sum ≤ W9) (hdg : decode c.code g.pc = .ok (.invokevirtual index, 3))
    (hpre : ∀ vm₁, s.WarmedH vm₁ → Pre ⟨T.setVm vm₁, locs, cells, slots⟩ (Value.ref b :: argsL).toArray) :
    (∃ (v : Option Value) (vm₁ : Vm) (B : Pt), s.WarmedH vm₁ ∧ Stand p l e R s m args below meth c B.U B.locs B.cells B.slots ∧ Post ⟨T.setVm vm₁, locs, cells, slots⟩ (Value.ref b :: argsL).toArray v B ∧
      ∀ target, Steps p.tables e below (B.U.setTop { g with pc := g.pc + 3, stack := v.toList ++ rest }) target → Steps p.tables e below (T.setTop g) target) ∨
    (∃ (q : Addr) (vm₁ : Vm) (B : Pt), s.WarmedH vm₁ ∧ Stand p l e R s m args below meth c B.U B.locs B.cells B.slots ∧ PostX ⟨T.setVm vm₁, locs, cells, slots⟩ (Value.ref b :: argsL).toArray q B ∧
      Steps p.tables e below (T.setTop g) ((B.U.setTop { g with stack := rest }).pushFrame (.throwing q))) := by
  obtain ⟨mk, methM, hnamed, hmethM, hstM, habM⟩ := Cond.instanceMethod_spec hinst
  obtain ⟨methM', cM, hmethM', -, -, -, -, -, -, hsigM⟩ := Cond.code_spec hnamed hcode
  cases hmethM.symm.trans hmethM'
  obtain ⟨c2, r2, m2, q1, q2, q3, q4, kP, hkP, hkPi⟩ := Cond.selects_spec hsel
  cases hcls.symm.trans q1
  cases (State.methodFound?_of_named hnamed hy).symm.trans q2
  cases hnamed.symm.trans q3
  have hselP : selectMethod e.platform s.vm cellB.cls mk = .method mk := by rw [Launch.admits_selectMethod X.admits]; exact q4
  obtain ⟨vm₁, X₁, hstep₁⟩ := X.invokevirtual hexec hown hlink hnamed hmethM hstM hkP hkPi hy (a := b) (cell := cellB) hcell
    (fun z h => by rw [h] at hobj; cases hobj) hselP hmethM habM hkP hkPi (g := g) hg (argsL := argsL) (rest := rest) (hlen _ hsigM) hstack hdg
  rcases hK m meth c ⟨T.setVm vm₁, locs, cells, slots⟩ { g with stack := rest } (.invokevirtual index) mk (Value.ref b :: argsL).toArray X₁ hg hsize hdg hW (X₁.named hnamed) (hpre vm₁ X₁.warmed) with ⟨v, B, X', hpost, hsteps⟩ | ⟨q, B, X', hpost, hsteps⟩
  · exact Or.inl ⟨v, vm₁, B, X₁.warmed, X', hpost, fun target h => hstep₁ _ fun acts => by rw [doInvoke_state]; exact hsteps.trans h⟩
  · exact Or.inr ⟨q, vm₁, B, X₁.warmed, X', hpost, hstep₁ _ fun acts => by rw [doInvoke_state]; exact hsteps⟩
theorem vx_callS (X : Stand p l e R s m args below meth c T locs cells slots) (hexec : p.tables.exec = Jvm.exec) {own : String} {index : Nat} {y : MethodName} {bytes : ByteArray} {maxL : Nat} {ret : Option FieldType}
    (hown : s.vm.findClass own = some m.cls) (hlink : (Cond.methodLink own index y).before args s = true) (hstat : (Cond.static y).before args s = true) (hinit : (Cond.initialized y.cls).before args s = true)
    (hcode : (Cond.code y bytes maxL ret).before args s = true) (hy : y.cls ≠ "java/lang/invoke/MethodHandle" ∧ y.cls ≠ "java/lang/invoke/VarHandle")
    {W9 : Nat} {Pre : Pt → Array Value → Prop} {Post : Pt → Array Value → Option Value → Pt → Prop} {PostX : Pt → Array Value → Addr → Pt → Prop} (hK : vx_Back l R p e below s args y 3 W9 Pre Post PostX)
    {g : JFrame} (hg : g.method = m) (hsize : g.locals.size = c.maxLocals) {argsL rest : List Value} (hlen : ∀ sig, parseMethodDescriptor y.desc = some sig → argsL.length = sig.parameters.length)
    (hstack : g.stack = argsL.reverse ++ rest) (hW : 2 * g.monitorRoom + (rest.map fun v => v.category).sum ≤ W9) (hdg : decode c.code g.pc = .ok (.invokestatic index, 3))
    (hpre : ∀ vm₁, s.WarmedH vm₁ → Pre ⟨T.setVm vm₁, locs, cells, slots⟩ argsL.toArray) :
    (∃ (v : Option Value) (vm₁ : Vm) (B : Pt), s.WarmedH vm₁ ∧ Stand p l e R s m args below meth c B.U B.locs B.cells B.slots ∧ Post ⟨T.setVm vm₁, locs, cells, slots⟩ argsL.toArray v B ∧
      ∀ target, Steps p.tables e below (B.U.setTop { g with pc := g.pc + 3, stack := v.toList ++ rest }) target → Steps p.tables e below (T.setTop g) target) ∨
    (∃ (q : Addr) (vm₁ : Vm) (B : Pt), s.WarmedH vm₁ ∧ Stand p l e R s m args below meth c B.U B.locs B.cells B.slots ∧ PostX ⟨T.setVm vm₁, locs, cells, slots⟩ argsL.toArray q B ∧
      Steps p.tables e below (T.setTop g) ((B.U.setTop { g with stack := rest }).pushFrame (.throwing q))) := by
  obtain ⟨mk, hnamed⟩ := Cond.code_named hcode
  obtain ⟨methM, cM, hmethM, -, -, -, -, -, -, hsigM⟩ := Cond.code_spec hnamed hcode
  have hstatic : methM.isStatic = true := Cond.static_spec hnamed hmethM hstat
  obtain ⟨kP, hkP, -⟩ := className_of_methodNamed hnamed
  have hinitP : kP.init = .initialized := Cond.initialized_spec (findClass_of_methodNamed hnamed) hkP hinit
  obtain ⟨vm₁, X₁, hstep₁⟩ := X.invokestatic hexec hown hlink hnamed hmethM hstatic hkP hinitP hy (g := g) hg (argsL := argsL) (rest := rest) (hlen _ hsigM) hstack hdg
  rcases hK m meth c ⟨T.setVm vm₁, locs, cells, slots⟩ { g with stack := rest } (.invokestatic index) mk argsL.toArray X₁ hg hsize hdg hW (X₁.named hnamed) (hpre vm₁ X₁.warmed) with ⟨v, B, X', hpost, hsteps⟩ | ⟨q, B, X', hpost, hsteps⟩
  · exact Or.inl ⟨v, vm₁, B, X₁.warmed, X', hpost, fun target h => hstep₁ _ fun acts => by rw [doInvoke_state]; exact hsteps.trans h⟩
  · exact Or.inr ⟨q, vm₁, B, X₁.warmed, X', hpost, hstep₁ _ fun acts => by rw [doInvoke_state]; exact hsteps⟩
end Calls
theorem vx_cls {s : State} {T : State} {vm₁ : Vm} {E : String} {k : ClassId} (hW : s.WarmedH vm₁) (h : (T.setVm vm₁).vm.findClass E = some k) : s.vm.findClass E = some k := by
  have h1 : vm₁.findClass E = some k := h
  rw [hW.alike.findClass] at h1
  exact h1
/-- the method's frame g, with q thrown over it -/
def vx_W (p : Program) (l : Launch) (e : Env) (R : Room) (s : State) (m : MethodId) (args : Array Value) (below : List Frame) (meth : Method) (c : Code) (H : Heap) (locs : List Loc) (cells slots : Nat) (Q : State → Prop) (g : JFrame) (q : Addr) : Prop :=
  ∀ T : State, T.heap = H → Stand p l e R s m args below meth c T locs cells slots → ∃ t, Steps p.tables e below ((T.setTop g).pushFrame (.throwing q)) t ∧ Q t
def vx_Run (p : Program) (l : Launch) (e : Env) (R : Room) (s : State) (m : MethodId) (args : Array Value) (below : List Frame) (meth : Method) (c : Code) (H : Heap) (locs : List Loc) (cells slots mc ms : Nat) (g : JFrame) (rest : List Value) (Qa : State → Outcome → State → Prop) (XC : String → State → State → Prop) (free : Addr → Prop) : Prop :=
  ∀ T : State, T.heap = H → Stand p l e R s m args below meth c T locs cells slots →
    (∃ (v : Option Value) (st₀ t T' : State) (L : List Loc), st₀.heap = H ∧ Stand p l e R s m args below meth c T' (locs ++ L) (cells + mc) (slots + ms) ∧ (∀ q ∈ L, free q.base) ∧ T'.heap = t.heap ∧ T'.vm = t.vm ∧ Qa st₀ (.returned v) t ∧
      Goes p e below T g T' { g with pc := g.pc + 3, stack := v.toList ++ rest }) ∨
    (∃ (q : Addr) (st₀ t T' : State) (L : List Loc) (E : String) (ce : Cell), st₀.heap = H ∧ Stand p l e R s m args below meth c T' (locs ++ L) (cells + mc) (slots + ms) ∧ (∀ z ∈ L, free z.base) ∧ T'.heap = t.heap ∧ T'.vm = t.vm ∧ XC E st₀ t ∧ t.heap[q]? = some ce ∧ ce.vm = .none ∧ s.vm.findClass E = some ce.cls ∧
      Steps p.tables e below (T.setTop g) ((T'.setTop { g with stack := rest }).pushFrame (.throwing q)))
def vx_X {S : Type} (px : S → Prop) (B : String → S → State → Prop) (A : Nat → Prop) : String → State → State → Prop := fun E st t => ∃ u : S, px u ∧ B E u t ∧ va_F A st t
section Runs
variable {p : Program} {l : Launch} {e : Env} {R : Room} {s : State} {m : MethodId} {args : Array Value} {below : List Frame} {meth : Method} {c : Code} {H : Heap} {locs : List Loc} {cells slots : Nat}
variable {y : MethodName} {bytes cc : ByteArray} {maxL nL mc ms n index : Nat} {ret : Option FieldType} {ws : List Cond} {rm : Room} {Pc : Array Value → State → Prop} {Qc : Array Value → State → Outcome → State → Prop} {XC : String → State → State → Prop} {free : Addr → Prop} {Ts : List Cond} {own C : String} {b : Addr} {As rest : List Value} {g : JFrame}
theorem vx_callBack (cb : CallB R s args own index y bytes maxL ret ws rm mc ms n) (hM : vx_Met l y ws rm Pc Qc XC mc ms free) (hbl : FrameBlind Pc) : vx_Back l R p e below s args y 3 8 (PreOf R mc ms Pc) (PostOf Qc mc ms free) (vx_Post XC mc ms free) := by
  obtain ⟨hrc, hrs, hfr, hlo, hws, hcw, -, hini, -⟩ := cb
  exact vx_back (bytes := bytes) (maxL := maxL) (ret := ret) hM hbl hrc hrs hfr hlo hws hcw (fun a' U hW => word_at hW (Or.inl (by first | rfl | simp [Cond.onTables, Cond.keeps, Cond.steady])) hini)
theorem vx_runV (S : CallFix p m c cc nL s args Ts own) (hM : vx_Met l y ws rm Pc Qc XC mc ms free) (cw : CallW R s args own C index y bytes maxL ret ws rm mc ms n) (hp : PreV s H C b Pc As)
    (hg : g.method = m) (hn : As.length = n) (hsize : g.locals.size = nL) (hstack : g.stack = As.reverse ++ .ref b :: rest) (hW : 2 * g.monitorRoom + (rest.map fun v => v.category).sum ≤ 8) (hdg : decode cc g.pc = .ok (.invokevirtual index, 3)) (hf : cells + mc ≤ R.cells ∧ slots + ms ≤ R.slots) :
    vx_Run p l e R s m args below meth c H locs cells slots mc ms g rest (Qc (Value.ref b :: As).toArray) XC free := by
  have hK : vx_Back l R p e below s args y 3 8 (PreOf R mc ms Pc) (PostOf Qc mc ms free) (vx_Post XC mc ms free) := vx_callBack cw.1 hM hp.1
  obtain ⟨⟨-, -, -, -, -, -, hcode, -, hy, hlen, hl⟩, hin, hse⟩ := cw
  obtain ⟨hx, hb, hml, ho, -⟩ := S
  obtain ⟨-, ⟨cellB, hcB, hoB, hclB⟩, hPc⟩ := hp
  intro T hT X
  rcases vx_callV X hx (C := C) (bytes := bytes) (maxL := maxL) (ret := ret) ho hl hin hse hcode hy hK (by rw [hT]; exact hcB) hoB hclB hg (hsize.trans hml.symm) (argsL := As) (rest := rest) (fun sig h => hn.trans (hlen sig h)) hstack hW (by rw [hb]; exact hdg)
    (fun vm₁ hW₁ => ⟨hf.1, hf.2, hPc (T.setVm vm₁) hT hW₁⟩) with ⟨v, vm₁, ⟨U', l2, c2, s2⟩, hW₁, X', ⟨g', mk, t, L, e1, e2, hq, h1, hL, h2, h3⟩, st⟩ | ⟨q, vm₁, ⟨U', l2, c2, s2⟩, hW₁, X', ⟨g', mk, t, L, E, ce, e1, e2, hq, hce, hcv, hcl, h1, hL, h2, h3⟩, st⟩
  · dsimp only [Pt.U, Pt.locs, Pt.cells, Pt.slots] at X' e1 e2 h1 h2 h3 st
    subst h1; subst h2; subst h3
    exact Or.inl ⟨v, (T.setVm vm₁).calling g' mk (Value.ref b :: As).toArray, t, U', L, hT, X', hL, e1, e2, hq, st⟩
  · dsimp only [Pt.U, Pt.locs, Pt.cells, Pt.slots] at X' e1 e2 h1 h2 h3 st hcl
    subst h1; subst h2; subst h3
    exact Or.inr ⟨q, (T.setVm vm₁).calling g' mk (Value.ref b :: As).toArray, t, U', L, E, ce, hT, X', hL, e1, e2, hq, hce, hcv, vx_cls hW₁ hcl, st⟩
theorem vx_runS (S : CallFix p m c cc nL s args Ts own) (hM : vx_Met l y ws rm Pc Qc XC mc ms free) (cw : CallB R s args own index y bytes maxL ret ws rm mc ms n ∧ (Cond.static y).before args s = true) (hp : PreS s H Pc As)
    (hg : g.method = m) (hn : As.length = n) (hsize : g.locals.size = nL) (hstack : g.stack = As.reverse ++ rest) (hW : 2 * g.monitorRoom + (rest.map fun v => v.category).sum ≤ 8) (hdg : decode cc g.pc = .ok (.invokestatic index, 3)) (hf : cells + mc ≤ R.cells ∧ slots + ms ≤ R.slots) :
    vx_Run p l e R s m args below meth c H locs cells slots mc ms g rest (Qc As.toArray) XC free := by
  have hK : vx_Back l R p e below s args y 3 8 (PreOf R mc ms Pc) (PostOf Qc mc ms free) (vx_Post XC mc ms free) := vx_callBack cw.1 hM hp.1
  obtain ⟨⟨-, -, -, -, -, -, hcode, hini, hy, hlen, hl⟩, hstt⟩ := cw
  obtain ⟨hx, hb, hml, ho, -⟩ := S
  intro T hT X
  rcases vx_callS X hx (bytes := bytes) (maxL := maxL) (ret := ret) ho hl hstt hini hcode hy hK hg (hsize.trans hml.symm) (argsL := As) (rest := rest) (fun sig h => hn.trans (hlen sig h)) hstack hW (by rw [hb]; exact hdg)
    (fun vm₁ hW₁ => ⟨hf.1, hf.2, hp.2 (T.setVm vm₁) hT hW₁⟩) with ⟨v, vm₁, ⟨U', l2, c2, s2⟩, hW₁, X', ⟨g', mk, t, L, e1, e2, hq, h1, hL, h2, h3⟩, st⟩ | ⟨q, vm₁, ⟨U', l2, c2, s2⟩, hW₁, X', ⟨g', mk, t, L, E, ce, e1, e2, hq, hce, hcv, hcl, h1, hL, h2, h3⟩, st⟩
  · dsimp only [Pt.U, Pt.locs, Pt.cells, Pt.slots] at X' e1 e2 h1 h2 h3 st
    subst h1; subst h2; subst h3
    exact Or.inl ⟨v, (T.setVm vm₁).calling g' mk As.toArray, t, U', L, hT, X', hL, e1, e2, hq, st⟩
  · dsimp only [Pt.U, Pt.locs, Pt.cells, Pt.slots] at X' e1 e2 h1 h2 h3 st hcl
    subst h1; subst h2; subst h3
    exact Or.inr ⟨q, (T.setVm vm₁).calling g' mk As.toArray, t, U', L, E, ce, hT, X', hL, e1, e2, hq, hce, hcv, vx_cls hW₁ hcl, st⟩
end Runs
section Rows
variable {p : Program} {l : Launch} {e : Env} {R : Room} {s : State} {m : MethodId} {args : Array Value} {below : List Frame} {meth : Method} {c : Code} {H : Heap} {locs : List Loc} {cells slots : Nat} {Q : State → Prop}
variable {mc ms : Nat} {free : Addr → Prop} {A0 A1 : Nat → Prop} {H0 : Heap} {a : Array Value} {pc : Nat} {ls : Array Slot} {st0 rest : List Value}
theorem vx_keep {st₀ t T' : State} {L : List Loc} (h0 : st₀.heap = H) (e1 : T'.heap = t.heap) (hS : va_S A0 H0 H locs) (hA : ∀ q, q < H.size → A1 q → A0 q) (hf : ∀ q, free q → A0 q) (hL : ∀ q ∈ L, free q.base) (hF : va_F A1 st₀ t) :
    H.size ≤ T'.heap.size ∧ (∀ q : Nat, q < H.size → ¬ A1 q → T'.heap[q]? = H[q]?) ∧ va_S A0 H0 T'.heap (locs ++ L) := by
  obtain ⟨hz, hk⟩ := hF
  rw [h0] at hz hk
  exact ⟨by rw [e1]; exact hz, fun q h1 h2 => by rw [e1]; exact hk q h1 h2,
    ⟨Nat.le_trans hS.1 (by rw [e1]; exact hz), fun q h1 h2 => by rw [e1, hk q (Nat.lt_of_lt_of_le h1 hS.1) (fun z => h2 (hA q (Nat.lt_of_lt_of_le h1 hS.1) z))]; exact hS.2.1 q h1 h2, fun q hq => by
      rcases List.mem_append.mp hq with h | h
      · exact hS.2.2 q h
      · exact hf _ (hL q h)⟩⟩
theorem vx_calli {S SX : Type} {post : Int32 → S → Prop} {px : SX → Prop} {B : S → State → Prop} {BX : String → SX → State → Prop} {AX : Nat → Prop} (hr : vx_Run p l e R s m args below meth c H locs cells slots mc ms (F0 m pc ls st0) rest (va_Qi post B A1 a) (vx_X px BX AX) free) (hS : va_S A0 H0 H locs) (hA : ∀ q, q < H.size → A1 q → A0 q) (hf : ∀ q, free q → A0 q) (hAX : ∀ q, q < H.size → AX q → A0 q)
    (kx : ∀ (E : String) (ce : Cell) (q9 : Addr) (u : SX) (t : State) (H1 : Heap) (locs1 : List Loc), t.heap = H1 → s.vm.Alike t.vm → px u → BX E u t → H.size ≤ H1.size → (∀ q : Nat, q < H.size → ¬ AX q → H1[q]? = H[q]?) → va_S A0 H0 H1 locs1 → H1[q9]? = some ce → ce.vm = .none → s.vm.findClass E = some ce.cls → vx_W p l e R s m args below meth c H1 locs1 (cells + mc) (slots + ms) Q (F0 m pc ls rest) q9)
    (kk : ∀ (r : Int32) (u : S) (t : State) (H1 : Heap) (locs1 : List Loc), t.heap = H1 → s.vm.Alike t.vm → post r u → B u t → H.size ≤ H1.size → (∀ q : Nat, q < H.size → ¬ A1 q → H1[q]? = H[q]?) → va_S A0 H0 H1 locs1 → W p l e R s m args below meth c H1 locs1 (cells + mc) (slots + ms) Q (F0 m (pc + 3) ls (.int r :: rest))) : W p l e R s m args below meth c H locs cells slots Q (F0 m pc ls st0) := by
  intro T hT X
  rcases hr T hT X with ⟨v, st₀, t, T', L, h0, X', hL, e1, e2, ⟨⟨r, u, hv, hp, hb⟩, hF⟩, st⟩ | ⟨q, st₀, t, T', L, E, ce, h0, X', hL, e1, e2, ⟨u, hp, hb, hF⟩, hce, hcv, hcl, st⟩
  · cases hv
    obtain ⟨k1, k2, k3⟩ := vx_keep h0 e1 hS hA hf hL hF
    obtain ⟨t2, a1, b1⟩ := kk r u t T'.heap (locs ++ L) e1.symm (by rw [← e2]; exact X'.warmed.alike) hp hb k1 k2 k3 T' rfl X'
    exact ⟨t2, st t2 a1, b1⟩
  · obtain ⟨k1, k2, k3⟩ := vx_keep h0 e1 hS hAX hf hL hF
    obtain ⟨t2, a1, b1⟩ := kx E ce q u t T'.heap (locs ++ L) e1.symm (by rw [← e2]; exact X'.warmed.alike) hp hb k1 k2 k3 (by rw [e1]; exact hce) hcv hcl T' rfl X'
    exact ⟨t2, st.trans a1, b1⟩
theorem vx_calll {S SX : Type} {post : Int64 → S → Prop} {px : SX → Prop} {B : S → State → Prop} {BX : String → SX → State → Prop} {AX : Nat → Prop} (hr : vx_Run p l e R s m args below meth c H locs cells slots mc ms (F0 m pc ls st0) rest (va_Ql post B A1 a) (vx_X px BX AX) free) (hS : va_S A0 H0 H locs) (hA : ∀ q, q < H.size → A1 q → A0 q) (hf : ∀ q, free q → A0 q) (hAX : ∀ q, q < H.size → AX q → A0 q)
    (kx : ∀ (E : String) (ce : Cell) (q9 : Addr) (u : SX) (t : State) (H1 : Heap) (locs1 : List Loc), t.heap = H1 → s.vm.Alike t.vm → px u → BX E u t → H.size ≤ H1.size → (∀ q : Nat, q < H.size → ¬ AX q → H1[q]? = H[q]?) → va_S A0 H0 H1 locs1 → H1[q9]? = some ce → ce.vm = .none → s.vm.findClass E = some ce.cls → vx_W p l e R s m args below meth c H1 locs1 (cells + mc) (slots + ms) Q (F0 m pc ls rest) q9)
    (kk : ∀ (r : Int64) (u : S) (t : State) (H1 : Heap) (locs1 : List Loc), t.heap = H1 → s.vm.Alike t.vm → post r u → B u t → H.size ≤ H1.size → (∀ q : Nat, q < H.size → ¬ A1 q → H1[q]? = H[q]?) → va_S A0 H0 H1 locs1 → W p l e R s m args below meth c H1 locs1 (cells + mc) (slots + ms) Q (F0 m (pc + 3) ls (.long r :: rest))) : W p l e R s m args below meth c H locs cells slots Q (F0 m pc ls st0) := by
  intro T hT X
  rcases hr T hT X with ⟨v, st₀, t, T', L, h0, X', hL, e1, e2, ⟨⟨r, u, hv, hp, hb⟩, hF⟩, st⟩ | ⟨q, st₀, t, T', L, E, ce, h0, X', hL, e1, e2, ⟨u, hp, hb, hF⟩, hce, hcv, hcl, st⟩
  · cases hv
    obtain ⟨k1, k2, k3⟩ := vx_keep h0 e1 hS hA hf hL hF
    obtain ⟨t2, a1, b1⟩ := kk r u t T'.heap (locs ++ L) e1.symm (by rw [← e2]; exact X'.warmed.alike) hp hb k1 k2 k3 T' rfl X'
    exact ⟨t2, st t2 a1, b1⟩
  · obtain ⟨k1, k2, k3⟩ := vx_keep h0 e1 hS hAX hf hL hF
    obtain ⟨t2, a1, b1⟩ := kx E ce q u t T'.heap (locs ++ L) e1.symm (by rw [← e2]; exact X'.warmed.alike) hp hb k1 k2 k3 (by rw [e1]; exact hce) hcv hcl T' rfl X'
    exact ⟨t2, st.trans a1, b1⟩
theorem vx_callf {S SX : Type} {post : UInt32 → S → Prop} {px : SX → Prop} {B : S → State → Prop} {BX : String → SX → State → Prop} {AX : Nat → Prop} (hr : vx_Run p l e R s m args below meth c H locs cells slots mc ms (F0 m pc ls st0) rest (va_Qf post B A1 a) (vx_X px BX AX) free) (hS : va_S A0 H0 H locs) (hA : ∀ q, q < H.size → A1 q → A0 q) (hf : ∀ q, free q → A0 q) (hAX : ∀ q, q < H.size → AX q → A0 q)
    (kx : ∀ (E : String) (ce : Cell) (q9 : Addr) (u : SX) (t : State) (H1 : Heap) (locs1 : List Loc), t.heap = H1 → s.vm.Alike t.vm → px u → BX E u t → H.size ≤ H1.size → (∀ q : Nat, q < H.size → ¬ AX q → H1[q]? = H[q]?) → va_S A0 H0 H1 locs1 → H1[q9]? = some ce → ce.vm = .none → s.vm.findClass E = some ce.cls → vx_W p l e R s m args below meth c H1 locs1 (cells + mc) (slots + ms) Q (F0 m pc ls rest) q9)
    (kk : ∀ (r : UInt32) (u : S) (t : State) (H1 : Heap) (locs1 : List Loc), t.heap = H1 → s.vm.Alike t.vm → post r u → B u t → H.size ≤ H1.size → (∀ q : Nat, q < H.size → ¬ A1 q → H1[q]? = H[q]?) → va_S A0 H0 H1 locs1 → W p l e R s m args below meth c H1 locs1 (cells + mc) (slots + ms) Q (F0 m (pc + 3) ls (.float r :: rest))) : W p l e R s m args below meth c H locs cells slots Q (F0 m pc ls st0) := by
  intro T hT X
  rcases hr T hT X with ⟨v, st₀, t, T', L, h0, X', hL, e1, e2, ⟨⟨r, u, hv, hp, hb⟩, hF⟩, st⟩ | ⟨q, st₀, t, T', L, E, ce, h0, X', hL, e1, e2, ⟨u, hp, hb, hF⟩, hce, hcv, hcl, st⟩
  · cases hv
    obtain ⟨k1, k2, k3⟩ := vx_keep h0 e1 hS hA hf hL hF
    obtain ⟨t2, a1, b1⟩ := kk r u t T'.heap (locs ++ L) e1.symm (by rw [← e2]; exact X'.warmed.alike) hp hb k1 k2 k3 T' rfl X'
    exact ⟨t2, st t2 a1, b1⟩
  · obtain ⟨k1, k2, k3⟩ := vx_keep h0 e1 hS hAX hf hL hF
    obtain ⟨t2, a1, b1⟩ := kx E ce q u t T'.heap (locs ++ L) e1.symm (by rw [← e2]; exact X'.warmed.alike) hp hb k1 k2 k3 (by rw [e1]; exact hce) hcv hcl T' rfl X'
    exact ⟨t2, st.trans a1, b1⟩
theorem vx_calld {S SX : Type} {post : UInt64 → S → Prop} {px : SX → Prop} {B : S → State → Prop} {BX : String → SX → State → Prop} {AX : Nat → Prop} (hr : vx_Run p l e R s m args below meth c H locs cells slots mc ms (F0 m pc ls st0) rest (va_Qd post B A1 a) (vx_X px BX AX) free) (hS : va_S A0 H0 H locs) (hA : ∀ q, q < H.size → A1 q → A0 q) (hf : ∀ q, free q → A0 q) (hAX : ∀ q, q < H.size → AX q → A0 q)
    (kx : ∀ (E : String) (ce : Cell) (q9 : Addr) (u : SX) (t : State) (H1 : Heap) (locs1 : List Loc), t.heap = H1 → s.vm.Alike t.vm → px u → BX E u t → H.size ≤ H1.size → (∀ q : Nat, q < H.size → ¬ AX q → H1[q]? = H[q]?) → va_S A0 H0 H1 locs1 → H1[q9]? = some ce → ce.vm = .none → s.vm.findClass E = some ce.cls → vx_W p l e R s m args below meth c H1 locs1 (cells + mc) (slots + ms) Q (F0 m pc ls rest) q9)
    (kk : ∀ (r : UInt64) (u : S) (t : State) (H1 : Heap) (locs1 : List Loc), t.heap = H1 → s.vm.Alike t.vm → post r u → B u t → H.size ≤ H1.size → (∀ q : Nat, q < H.size → ¬ A1 q → H1[q]? = H[q]?) → va_S A0 H0 H1 locs1 → W p l e R s m args below meth c H1 locs1 (cells + mc) (slots + ms) Q (F0 m (pc + 3) ls (.double r :: rest))) : W p l e R s m args below meth c H locs cells slots Q (F0 m pc ls st0) := by
  intro T hT X
  rcases hr T hT X with ⟨v, st₀, t, T', L, h0, X', hL, e1, e2, ⟨⟨r, u, hv, hp, hb⟩, hF⟩, st⟩ | ⟨q, st₀, t, T', L, E, ce, h0, X', hL, e1, e2, ⟨u, hp, hb, hF⟩, hce, hcv, hcl, st⟩
  · cases hv
    obtain ⟨k1, k2, k3⟩ := vx_keep h0 e1 hS hA hf hL hF
    obtain ⟨t2, a1, b1⟩ := kk r u t T'.heap (locs ++ L) e1.symm (by rw [← e2]; exact X'.warmed.alike) hp hb k1 k2 k3 T' rfl X'
    exact ⟨t2, st t2 a1, b1⟩
  · obtain ⟨k1, k2, k3⟩ := vx_keep h0 e1 hS hAX hf hL hF
    obtain ⟨t2, a1, b1⟩ := kx E ce q u t T'.heap (locs ++ L) e1.symm (by rw [← e2]; exact X'.warmed.alike) hp hb k1 k2 k3 (by rw [e1]; exact hce) hcv hcl T' rfl X'
    exact ⟨t2, st.trans a1, b1⟩
theorem vx_callv {S SX : Type} {post : S → Prop} {px : SX → Prop} {B : S → State → Prop} {BX : String → SX → State → Prop} {AX : Nat → Prop} (hr : vx_Run p l e R s m args below meth c H locs cells slots mc ms (F0 m pc ls st0) rest (va_Qv post B A1 a) (vx_X px BX AX) free) (hS : va_S A0 H0 H locs) (hA : ∀ q, q < H.size → A1 q → A0 q) (hf : ∀ q, free q → A0 q) (hAX : ∀ q, q < H.size → AX q → A0 q)
    (kx : ∀ (E : String) (ce : Cell) (q9 : Addr) (u : SX) (t : State) (H1 : Heap) (locs1 : List Loc), t.heap = H1 → s.vm.Alike t.vm → px u → BX E u t → H.size ≤ H1.size → (∀ q : Nat, q < H.size → ¬ AX q → H1[q]? = H[q]?) → va_S A0 H0 H1 locs1 → H1[q9]? = some ce → ce.vm = .none → s.vm.findClass E = some ce.cls → vx_W p l e R s m args below meth c H1 locs1 (cells + mc) (slots + ms) Q (F0 m pc ls rest) q9)
    (kk : ∀ (u : S) (t : State) (H1 : Heap) (locs1 : List Loc), t.heap = H1 → s.vm.Alike t.vm → post u → B u t → H.size ≤ H1.size → (∀ q : Nat, q < H.size → ¬ A1 q → H1[q]? = H[q]?) → va_S A0 H0 H1 locs1 → W p l e R s m args below meth c H1 locs1 (cells + mc) (slots + ms) Q (F0 m (pc + 3) ls (rest))) : W p l e R s m args below meth c H locs cells slots Q (F0 m pc ls st0) := by
  intro T hT X
  rcases hr T hT X with ⟨v, st₀, t, T', L, h0, X', hL, e1, e2, ⟨⟨u, hv, hp, hb⟩, hF⟩, st⟩ | ⟨q, st₀, t, T', L, E, ce, h0, X', hL, e1, e2, ⟨u, hp, hb, hF⟩, hce, hcv, hcl, st⟩
  · cases hv
    obtain ⟨k1, k2, k3⟩ := vx_keep h0 e1 hS hA hf hL hF
    obtain ⟨t2, a1, b1⟩ := kk u t T'.heap (locs ++ L) e1.symm (by rw [← e2]; exact X'.warmed.alike) hp hb k1 k2 k3 T' rfl X'
    exact ⟨t2, st t2 a1, b1⟩
  · obtain ⟨k1, k2, k3⟩ := vx_keep h0 e1 hS hAX hf hL hF
    obtain ⟨t2, a1, b1⟩ := kx E ce q u t T'.heap (locs ++ L) e1.symm (by rw [← e2]; exact X'.warmed.alike) hp hb k1 k2 k3 (by rw [e1]; exact hce) hcv hcl T' rfl X'
    exact ⟨t2, st.trans a1, b1⟩
/-- caught by the row x of this method's table; the rows ahead don't take it -/
theorem vx_catch {own name : String} {E : String} {ce : Cell} {q : Addr} (hown : s.vm.findClass own = some m.cls) (pre : List ExceptionTableEntry) (x : ExceptionTableEntry) (suf : List ExceptionTableEntry) (hsplit : c.exceptionTable.toList = pre ++ x :: suf)
    (hpass : ∀ z ∈ pre, covers z pc = false ∨ (z.catchType ≠ 0 ∧ ∃ nm : String, (Cond.classLink own z.catchType nm).before args s = true ∧ va_Nc E nm s)) (hx : covers x pc = true) (h0 : x.catchType ≠ 0)
    (hlink : (Cond.classLink own x.catchType name).before args s = true) (hcast : (Cond.castable E name).before args s = true) (hcell : H[q]? = some ce) (hv : ce.vm = .none) (hcl : s.vm.findClass E = some ce.cls)
    (kk : W p l e R s m args below meth c H locs cells slots Q (F0 m x.handlerPc ls [.ref q])) : vx_W p l e R s m args below meth c H locs cells slots Q (F0 m pc ls rest) q := by
  intro T hT X
  have hpl : e.platform.magicAccessors = ({} : Platform).magicAccessors := by rw [X.admits.platform]
  obtain ⟨c3, c4, hc3, hc4, hasg⟩ := Cond.castable_spec hcast
  cases Option.some.inj (hc3.symm.trans hcl)
  obtain ⟨c5, hc5, hcl5⟩ := Cond.classLink_spec hown hlink e.platform hpl
  cases Option.some.inj (hc4.symm.trans hc5)
  obtain ⟨vm', X', st⟩ := X.thenCaughtThrough q (g := F0 m pc ls rest) rfl (Steps.refl _) (by rw [hT]; exact hcell) (by rw [hv]; rfl) (by obtain ⟨k9, h9, -⟩ := Vm.findClass_spec hcl; exact ⟨k9, h9⟩) pre x suf hsplit
    (fun z hz => by
      rcases hpass z hz with h | ⟨hz0, nm, hl1, hn1⟩
      · exact Or.inl h
      · obtain ⟨c6, hc6, hcl6⟩ := Cond.classLink_spec hown hl1 e.platform hpl
        obtain ⟨a8, b8, h1, h2, h3⟩ := hn1
        cases Option.some.inj (h1.symm.trans hcl)
        cases Option.some.inj (h2.symm.trans hc6)
        exact Or.inr ⟨hz0, _, hcl6, h3⟩) hx (Or.inr ⟨h0, c4, hcl5, hasg⟩)
  obtain ⟨t, a1, b1⟩ := kk (T.setVm vm') hT X'
  exact ⟨t, st.trans a1, b1⟩
end Rows
section Ends
variable {p : Program} {l : Launch} {e : Env} {R : Room} {s : State} {m : MethodId} {args : Array Value} {below : List Frame} {meth : Method} {c : Code} {H : Heap} {locs : List Loc} {cells slots : Nat} {Q : State → Prop}
variable {mc ms : Nat} {free : Addr → Prop} {A0 A1 : Nat → Prop} {H0 : Heap} {a : Array Value} {ls : Array Slot} {st0 rest : List Value}
variable {Qc : Array Value → State → Outcome → State → Prop} {XC : String → State → State → Prop}
/-- what a body that may throw owes at its end -/
def vx_MQ (below : List Frame) (Qc : Array Value → State → Outcome → State → Prop) (XC : String → State → State → Prop) (a : Array Value) (s : State) (mc ms : Nat) (free : Addr → Prop) : State → Prop := fun t =>
  ∃ o, t.status = .running ∧ Ended t below o ∧ vx_Q Qc XC mc ms free a s o t
theorem vx_ret {g : JFrame} {mc ms : Nat} (k : W p l e R s m args below meth c H locs cells slots (MQ below Qc args s mc ms free) g) : W p l e R s m args below meth c H locs cells slots (vx_MQ below Qc XC args s mc ms free) g := by
  intro T hT X
  obtain ⟨t, a1, o, b1, b2, b3, b4⟩ := k T hT X
  exact ⟨t, a1, o, b1, b2, Or.inl ⟨b3, b4⟩⟩
/-- not caught here: it goes on to the caller -/
theorem vx_widen {g : JFrame} {q : Addr} {k n : Nat} (h1 : cells ≤ k) (h2 : slots ≤ n) (kk : vx_W p l e R s m args below meth c H locs k n Q g q) : vx_W p l e R s m args below meth c H locs cells slots Q g q := fun T hT X => kk T hT (stand_widen X h1 h2)
theorem vx_out {pc : Nat} {E : String} {ce : Cell} {q : Addr} {mc ms : Nat} (hout : ∀ x ∈ c.exceptionTable.toList, covers x pc = false) (hlocks : meth.locks = false) (hcell : H[q]? = some ce) (hv : ce.vm = .none) (hcl : s.vm.findClass E = some ce.cls)
    (hx : ∀ t : State, t.heap = H → s.vm.Alike t.vm → XC E s t) (hf : ∀ z ∈ locs, free z.base) (hc : cells ≤ mc) (hs : slots ≤ ms) :
    vx_W p l e R s m args below meth c H locs cells slots (vx_MQ below Qc XC args s mc ms free) (F0 m pc ls rest) q := by
  intro T hT X
  obtain ⟨st1, hrun, hend, hW, hsm⟩ := X.leaveThrown q (g := F0 m pc ls rest) rfl rfl rfl hout hlocks
  have hcell9 : (T.setFrames (.throwing q :: below)).heap[q]? = some ce := by
    show T.heap[q]? = some ce
    rw [hT]; exact hcell
  exact ⟨_, st1, .threw q, hrun, hend, Or.inr ⟨q, rfl, E, ce, locs, hx _ hT hW.alike, hcell9, hv, hcl, hW, hsm.mono hc hs, hf⟩⟩
theorem vx_frame {U : State} {k n : Nat} (h : s.sameButNew ({ U with vm := s.vm } : State) locs k n) : s.heap.size ≤ U.heap.size ∧ ∀ q : Nat, q < s.heap.size → (∀ z ∈ locs, z.base ≠ q) → U.heap[q]? = s.heap[q]? := by
  obtain ⟨-, h2, -, -, -, h6⟩ := h
  refine ⟨h2, fun q hq hz => ?_⟩
  obtain ⟨c9, e1, e2, e3, e4⟩ := h6 q _ (Array.getElem?_eq_getElem hq)
  have hs : c9.slots = (s.heap[q]).slots := Array.ext_getElem? fun i => e4 i fun hm => hz _ hm rfl
  have h9 : c9 = s.heap[q] := by
    rw [hs] at e2
    exact e2
  have e5 : U.heap[q]? = some c9 := e1
  rw [e5, h9, Array.getElem?_eq_getElem hq]
/-- the words of a throw but the four that speak of the heap -/
def vx_no (w : Cond) : Bool := decide (w ≠ .isRef (.static Bundle.tN "UNASSIGNED_STACK" Bundle.steD)) && decide (w ≠ .isRef (.static Bundle.tN "SUPPRESSED_SENTINEL" Bundle.listD)) && decide (w ≠ .laysStatic Bundle.tN "UNASSIGNED_STACK" Bundle.steD) && decide (w ≠ .laysStatic Bundle.tN "SUPPRESSED_SENTINEL" Bundle.listD)
def vx_at0 (own : String) (ic : Nat) (X : String) (names : List String) : List Cond := (Bundle.ownAtoms0 own ic X names).filter vx_no
def vx_atS (own : String) (ic : Nat) (X : String) (names : List String) : List Cond := (Bundle.ownAtoms own ic X names).filter vx_no
/-- a word that the tables alone decide, or a good one -/
def vx_ot (w : Cond) : Bool := w.onTables || goodWord w
theorem vx_ot_at {args a' : Array Value} {s U : State} {w : Cond} (hW : s.WarmedH U.vm) (hvm : s.vm = U.vm) (hg : vx_ot w = true) (h : w.before args s = true) : w.before a' U = true := by
  simp only [vx_ot, Bool.or_eq_true] at hg
  rcases hg with hg | hg
  · exact va_tabs hg hvm h
  · exact word_at hW (good_of_word hg) h
/-- a list's words: the good ones out of the method's own list, the others by premises of their own -/
theorem vx_hat {args : Array Value} {s : State} {L B : List Cond} (h1 : ∀ w ∈ L.filter goodWord, w.before args s = true) (h2 : ∀ w ∈ L.filter (fun w => !goodWord w), w ∈ B) (h3 : ∀ w ∈ B, w.before args s = true) : ∀ w ∈ L, w.before args s = true := by
  intro w hw
  by_cases g : goodWord w = true
  · exact h1 w (List.mem_filter.mpr ⟨hw, g⟩)
  · refine h3 w (h2 w (List.mem_filter.mpr ⟨hw, ?_⟩))
    show (!goodWord w) = true
    cases hgw : goodWord w
    · rfl
    · exact absurd hgw g
theorem vx_c {args : Array Value} {s : State} {w : Cond} {B : List Cond} (h : w.before args s = true) (t : ∀ w ∈ B, w.before args s = true) : ∀ w' ∈ w :: B, w'.before args s = true := fun w' h' => (List.mem_cons.mp h').elim (fun e => by rw [e]; exact h) (t w')
theorem vx_n {args : Array Value} {s : State} : ∀ w ∈ ([] : List Cond), w.before args s = true := fun _ h => nomatch h
theorem vx_own {args : Array Value} {s : State} {L : List Cond} (h1 : ∀ w ∈ L.filter vx_no, w.before args s = true)
    (hU : (Cond.isRef (.static Bundle.tN "UNASSIGNED_STACK" Bundle.steD)).before args s = true) (hN : (Cond.isRef (.static Bundle.tN "SUPPRESSED_SENTINEL" Bundle.listD)).before args s = true)
    (lU : (Cond.laysStatic Bundle.tN "UNASSIGNED_STACK" Bundle.steD).before args s = true) (lN : (Cond.laysStatic Bundle.tN "SUPPRESSED_SENTINEL" Bundle.listD).before args s = true) : ∀ w ∈ L, w.before args s = true := by
  intro w hw
  by_cases e1 : w = .isRef (.static Bundle.tN "UNASSIGNED_STACK" Bundle.steD)
  · rw [e1]; exact hU
  · by_cases e2 : w = .isRef (.static Bundle.tN "SUPPRESSED_SENTINEL" Bundle.listD)
    · rw [e2]; exact hN
    · by_cases e3 : w = .laysStatic Bundle.tN "UNASSIGNED_STACK" Bundle.steD
      · rw [e3]; exact lU
      · by_cases e4 : w = .laysStatic Bundle.tN "SUPPRESSED_SENTINEL" Bundle.listD
        · rw [e4]; exact lN
        · exact h1 w (List.mem_filter.mpr ⟨hw, by unfold vx_no; rw [decide_eq_true e1, decide_eq_true e2, decide_eq_true e3, decide_eq_true e4]; rfl⟩)
/-- where a static field lies, its class's statics cell in H -/
def vx_L (C n d : String) (A : Nat → Prop) (U : State) (H : Heap) : Prop := ∃ (c : ClassId) (k : Class) (i : Nat) (f : Field) (a : Nat) (cell : Cell), U.vm.findClass C = some c ∧ U.fieldFound? C n d = some (c, k, i, f) ∧ f.isStatic = true ∧ k.statics = some a ∧ H[a]? = some cell ∧ cell.vm.isStatics = true ∧ cell.cls = c ∧ f.slot < cell.slots.size ∧ k.staticTypes[f.slot]? = some f.type ∧ ¬ A a
theorem vx_L.moved {C n d : String} {A : Nat → Prop} {u U : State} {H : Heap} (hvm : u.vm.Alike U.vm) (h : vx_L C n d A u H) : vx_L C n d A U H := by
  obtain ⟨c, k, i, f, a, cell, h1, h2, h3, h4, h5, h6, h7, h8, h9, h10⟩ := h
  obtain ⟨k', hi', he⟩ := State.fieldFound?_setVm hvm h2
  exact ⟨c, k', i, f, a, cell, by rw [hvm.findClass]; exact h1, hi', h3, by rw [he]; exact h4, h5, h6, h7, h8, by rw [he]; exact h9, h10⟩
theorem vx_L.kept {C n d : String} {A : Nat → Prop} {U : State} {H H1 : Heap} (h : vx_L C n d A U H) (hq : ∀ a : Nat, a < H.size → ¬ A a → H1[a]? = H[a]?) : vx_L C n d A U H1 := by
  obtain ⟨c, k, i, f, a, cell, h1, h2, h3, h4, h5, h6, h7, h8, h9, h10⟩ := h
  exact ⟨c, k, i, f, a, cell, h1, h2, h3, h4, by rw [hq a (Array.getElem?_eq_some_iff.mp h5).1 h10]; exact h5, h6, h7, h8, h9, h10⟩
theorem vx_L.narrow {C n d : String} {A B : Nat → Prop} {U : State} {H : Heap} (h : vx_L C n d A U H) (hAB : ∀ q, B q → A q) : vx_L C n d B U H := by
  obtain ⟨c, k, i, f, a, cell, h1, h2, h3, h4, h5, h6, h7, h8, h9, h10⟩ := h
  exact ⟨c, k, i, f, a, cell, h1, h2, h3, h4, h5, h6, h7, h8, h9, fun z => h10 (hAB _ z)⟩
theorem vx_L.word {C n d : String} {A : Nat → Prop} {s : State} {args : Array Value} (h : vx_L C n d A s s.heap) : (Cond.laysStatic C n d).before args s = true := by
  obtain ⟨c, k, i, f, a, cell, h1, h2, h3, h4, h5, h6, h7, h8, h9, -⟩ := h
  show (Cond.laysStatic C n d).holds args s none s [] = true
  exact Cond.laysStatic_of h1 h2 h3 h4 h5 h6 h7 h8 h9
/-- .. and what it holds: null or some reference -/
def vx_Zq (C n d : String) (A : Nat → Prop) (U : State) (H : Heap) : Prop := va_Zq C n d A U H ∧ vx_L C n d A U H
theorem vx_Zq.moved {C n d : String} {A : Nat → Prop} {u U : State} {H : Heap} (hvm : u.vm.Alike U.vm) (h : vx_Zq C n d A u H) : vx_Zq C n d A U H := ⟨va_Zq.moved hvm h.1, vx_L.moved hvm h.2⟩
theorem vx_Zq.kept {C n d : String} {A : Nat → Prop} {U : State} {H H1 : Heap} (h : vx_Zq C n d A U H) (hq : ∀ a : Nat, a < H.size → ¬ A a → H1[a]? = H[a]?) : vx_Zq C n d A U H1 := ⟨va_Zq.kept h.1 hq, vx_L.kept h.2 hq⟩
theorem vx_Zq.narrow {C n d : String} {A B : Nat → Prop} {U : State} {H : Heap} (h : vx_Zq C n d A U H) (hAB : ∀ q, B q → A q) : vx_Zq C n d B U H := ⟨va_Zq.narrow h.1 hAB, vx_L.narrow h.2 hAB⟩
theorem vx_Zqof {args : Array Value} {s : State} {C n d : String} {A : Nat → Prop} (hl : (Cond.laysStatic C n d).before args s = true) (hini : (Cond.initialized C).before args s = true) (h : (Cond.isRef (.static C n d)).before args s = true) (hA : ∀ a : Nat, a < s.heap.size → ¬ A a) : vx_Zq C n d A s s.heap := by
  refine ⟨va_Zqof hl hini h hA, ?_⟩
  obtain ⟨c, k, i, f, a, cell, h1, h2, h3, h4, h5, h6, h7, h8, h9⟩ := Cond.laysStatic_spec hl
  exact ⟨c, k, i, f, a, cell, h1, h2, h3, h4, h5, h6, h7, h8, h9, hA a (Array.getElem?_eq_some_iff.mp h5).1⟩
theorem vx_isRef {C n d : String} {v : Value} {A : Nat → Prop} {s : State} {args : Array Value} (h : va_Z C n d v A s s.heap) (hv : v.isRef = true) : (Cond.isRef (.static C n d)).before args s = true := by
  obtain ⟨cf, kf, fi, f, a, cell, h1, h2, h3, h4, h5, h6, h7, -⟩ := h
  have he : (Term.static C n d).eval args s none [] s = some v := by
    simp [Term.eval, State.fieldNamed?, h1, h2, h4, h5, h6, h7]
  simp only [Cond.before, Cond.holds, Cond.value, he]
  cases v <;> simp_all [Value.isRef]
theorem vx_isRefq {C n d : String} {A : Nat → Prop} {s : State} {args : Array Value} (h : va_Zq C n d A s s.heap) : (Cond.isRef (.static C n d)).before args s = true := by
  rcases h with h | ⟨t, h⟩
  · exact vx_isRef h rfl
  · exact vx_isRef h rfl
/-- the same frame, seen from here: as if the method were called anew in this heap -/
theorem vx_rebase {T : State} (X : Stand p l e R s m args below meth c T locs cells slots) {R' : Room} (hf : R'.frames ≤ R.frames) (hl : R'.locals ≤ R.locals) (hc : cells + R'.cells ≤ R.cells) (hs : slots + R'.slots ≤ R.slots) :
    Stand p l e R' ((T.setVm s.vm).setFrames (.invoking m args :: below)) m args below meth c T [] 0 0 := by
  have htop : (T.setVm s.vm).topJava?.isSome := X.here.top
  have hF : ((T.setVm s.vm).setFrames (.invoking m args :: below)).frames = .invoking m args :: below := State.frames_setFrames _ (State.cur_lt_of_top htop)
  obtain ⟨g₀, hg0⟩ := Option.isSome_iff_exists.mp htop
  obtain ⟨r, hr⟩ := State.topJava?_eq_some.mp hg0
  have hl9 : e.platform.stackLimits (T.setVm s.vm).me = e.platform.stackLimits s.me := X.limits
  have hb9 : (T.setVm s.vm).me.stackBytes = s.me.stackBytes := X.bytes
  refine ⟨X.admits, X.cas, X.clock, hF, ?_, X.hears, X.method, X.code, X.here, X.tail, X.warmed, ?_, ?_, ?_⟩
  · have h := X.room
    have hU : ((T.setVm s.vm).setFrames (.invoking m args :: below)).localsInUse = s.localsInUse := by
      rw [State.localsInUse_invoking hF (meth := meth) (c := c) X.method X.code, State.localsInUse_invoking X.frames X.method X.code]
    simp only [State.hasRoom, Bool.and_eq_true, decide_eq_true_eq] at h ⊢
    obtain ⟨⟨⟨⟨h1, h2, h3, h4, h5, h6⟩, h7⟩, h8⟩, h9⟩ := h
    rw [X.frames, List.length_cons] at h2 h3
    have q1 := X.heapSize
    have q2 := X.used
    simp only [hF, hU, List.length_cons, State.stackLimits_setFrames, State.stackBytes_setFrames, hl9, hb9]
    refine ⟨⟨⟨⟨by omega, by omega, by omega, by omega, by omega, h6⟩, ?_⟩, ?_⟩, X.book⟩
    · show T.heap.size + R'.cells ≤ e.platform.maxCells
      omega
    · show T.slotsUsed + R'.slots ≤ e.platform.maxSlots
      omega
  · rw [State.stackLimits_setFrames]; rfl
  · rw [State.stackBytes_setFrames]; rfl
  · refine ⟨?_, Nat.le_refl _, Nat.le_refl _, ?_, ?_, fun a c9 h9 => ⟨c9, h9, rfl, rfl, fun _ _ => rfl⟩⟩
    · obtain ⟨t, ht, -⟩ := State.frames_cons hr
      show T.setVm s.vm = { ((T.setVm s.vm).setFrames (.invoking m args :: below)).setFrames (T.setVm s.vm).frames with heap := T.heap, slotsUsed := T.slotsUsed }
      rw [State.setFrames_setFrames, State.setFrames_self ht]
      rfl
    · show T.slotsUsed = T.slotsUsed + ((T.heap.toList.drop T.heap.size).map (·.slots.size)).sum
      rw [List.drop_eq_nil_of_le (Nat.le_of_eq Array.length_toList)]
      rfl
    · show ((T.heap.toList.drop T.heap.size).map (·.slots.size)).sum ≤ 0
      rw [List.drop_eq_nil_of_le (Nat.le_of_eq Array.length_toList)]
      exact Nat.le_refl _
/-- 'throw new E()': new; dup; invokespecial; athrow -/
theorem vx_throw0 {cc : ByteArray} {pc : Nat} (hexec : p.tables.exec = Jvm.exec) (hb : c.code = cc) (hl : l.stackTraces = false) {own cls : String} {names : List String} {ik ic mc ms : Nat} {A : Nat → Prop}
    (hown : s.vm.findClass own = some m.cls) (hcls : Bundle.fit cls = true) (hnames : ∀ n ∈ names, Bundle.fit n = true)
    (hk : (Cond.classLink own ik cls).before args s = true) (hini : (Cond.initialized cls).before args s = true) (hat : ∀ w ∈ vx_at0 own ic cls names, w.before args s = true)
    (hgood : ∀ w ∈ Cond.classLink own ik cls :: Cond.initialized cls :: vx_at0 own ic cls names, vx_ot w = true)
    (hU : vx_Zq Bundle.tN "UNASSIGNED_STACK" Bundle.steD A s s.heap) (hN : vx_Zq Bundle.tN "SUPPRESSED_SENTINEL" Bundle.listD A s s.heap) (hS : va_S A s.heap H locs) (hsize : ls.size = c.maxLocals)
    (d0 : decode cc pc = .ok (.new ik, 3)) (d3 : decode cc (pc + 3) = .ok (.dup, 1)) (d4 : decode cc (pc + 4) = .ok (.invokespecial ic, 3)) (d7 : decode cc (pc + 7) = .ok (.athrow, 1))
    (hout : ∀ x ∈ c.exceptionTable.toList, covers x (pc + 7) = false)
    (hRframes : names.length + 3 < R.frames) (hRlocals : (rest.map fun v => v.category).sum + (13 * (names.length + 1) + 42) ≤ R.locals) (hRcells : cells + 1 ≤ R.cells) (hRslots : slots + 6 ≤ R.slots) (hlocks : meth.locks = false)
    (hx : ∀ t : State, s.vm.Alike t.vm → H.size ≤ t.heap.size → (∀ q : Nat, q < H.size → t.heap[q]? = H[q]?) → XC cls s t)
    (hf : ∀ z ∈ locs, free z.base) (hc : cells + 1 ≤ mc) (hs : slots + 6 ≤ ms) :
    W p l e R s m args below meth c H locs cells slots (vx_MQ below Qc XC args s mc ms free) (F0 m pc ls rest) := by
  intro T hT X
  have htr : e.platform.stackTraces = false := (show e.platform.stackTraces = l.stackTraces by rw [X.admits.platform]).trans hl
  have Y := vx_rebase X (R' := { frames := R.frames, locals := R.locals, cells := 1, slots := 6 }) (Nat.le_refl _) (Nat.le_refl _) hRcells hRslots
  obtain ⟨s', hA⟩ : ∃ z, z = (T.setVm s.vm).setFrames (.invoking m args :: below) := ⟨_, rfl⟩
  rw [← hA] at Y
  have hvm : s'.vm = s.vm := by rw [hA]; rfl
  have hhp : s'.heap = H := by rw [hA]; exact hT
  have hW0 : s.WarmedH s'.vm := by rw [hvm]; exact State.WarmedH.refl s
  have hat' : ∀ w ∈ vx_at0 own ic cls names, w.before args s' = true := fun w hw => vx_ot_at hW0 hvm.symm (hgood w (List.mem_cons_of_mem _ (List.mem_cons_of_mem _ hw))) (hat w hw)
  have hk' : (Cond.classLink own ik cls).before args s' = true := vx_ot_at hW0 hvm.symm (hgood _ List.mem_cons_self) hk
  have hini' : (Cond.initialized cls).before args s' = true := vx_ot_at hW0 hvm.symm (hgood _ (List.mem_cons_of_mem _ List.mem_cons_self)) hini
  have hU' : vx_Zq Bundle.tN "UNASSIGNED_STACK" Bundle.steD A s' s'.heap := by rw [hhp]; exact vx_Zq.moved hW0.alike (hU.kept hS.2.1)
  have hN' : vx_Zq Bundle.tN "SUPPRESSED_SENTINEL" Bundle.listD A s' s'.heap := by rw [hhp]; exact vx_Zq.moved hW0.alike (hN.kept hS.2.1)
  have h : ∀ w ∈ Bundle.ownAtoms0 own ic cls names, w.before args s' = true := vx_own hat' (vx_isRefq hU'.1) (vx_isRefq hN'.1) hU'.2.word hN'.2.word
  have hown' : s'.vm.findClass own = some m.cls := by rw [hvm]; exact hown
  have hins : (Cond.instantiable cls 6).before args s' = true := h _ (by simp [Bundle.ownAtoms0])
  obtain ⟨vm₁, cX, kX, hfX, hkX, -, -, X₁, st1⟩ := Y.newCold hexec (own := own) (C := cls) (index := ik) (n := 6) hown' hk' hins hini'
    (g := F0 m pc ls rest) rfl (by rw [hb]; exact d0) (Nat.le_refl _) (Nat.le_refl _)
  generalize hT1 : (T.setVm vm₁).pushCell { cls := cX, slots := kX.instanceTypes.map defaultValue, vm := .none } = T1 at X₁ st1
  have hcat : (Value.ref T.heap.size).category = 1 := rfl
  have hcellA : T1.heap[T.heap.size]? = some (freshCell cX kX) := by rw [← hT1]; exact State.heap_pushCell_size _ _
  have d3' : decode c.code (pc + 3) = .ok (.dup, 1) := by rw [hb]; exact d3
  obtain ⟨U, hsteps, hrun, hend, hW, hsame, ce, hce, hO⟩ := X₁.ctorThrow0 hexec htr (own := own) (cls := cls) (names := names) (ic := ic) hown' hcls hnames h (fun x hx => nomatch hx) hfX hkX hcellA (by rw [hhp, hT]; exact Nat.le_refl _)
    (g := { method := m, pc := pc + 4, locals := ls, stack := .ref T.heap.size :: .ref T.heap.size :: rest, locked := none }) rfl hsize rfl rfl (rest := rest) rfl
    (by rw [hb]; exact d4) (by rw [hb]; exact d7) hout hRframes (by simp only [List.map_cons, List.sum_cons, hcat]; omega) hlocks
  obtain ⟨f1, f2⟩ := vx_frame hsame
  rw [hhp] at f1 f2
  have hWs : s.WarmedH U.vm := State.WarmedH.trans hW0 hW
  have hcl : s.vm.findClass cls = some ce.cls := by
    have h9 := hO.cls
    rw [hvm] at h9
    exact h9
  have hall : s.sameButNew ({ U with vm := s.vm } : State) locs mc ms := by
    subst hA
    obtain ⟨e1, e2⟩ := hsame
    rw [State.setFrames_setFrames] at e1
    have h2 : (T.setVm s.vm).sameButNew ({ U with vm := s.vm } : State) [] (0 + 1) (0 + 6) := ⟨e1, e2⟩
    have h3 := X.same.trans h2
    rw [List.append_nil] at h3
    exact h3.mono hc hs
  refine ⟨U, ?_, .threw T.heap.size, hrun, hend, Or.inr ⟨T.heap.size, rfl, cls, ce, locs, hx U hWs.alike f1 (fun q hq => f2 q hq (fun z hz => nomatch hz)), hce, hO.vm, hcl, hWs, hall, hf⟩⟩
  refine st1 _ ?_
  show Steps p.tables e below (T1.setTop { method := m, pc := pc + 3, locals := ls, stack := .ref T.heap.size :: rest, locked := none }) _
  jvm_step X₁.here [X₁.here.top, hexec, d3', Value.category]
  exact hsteps
/-- 'throw new E("text")': new; dup; ldc; invokespecial; athrow -/
theorem vx_throwS {cc : ByteArray} {pc : Nat} (hexec : p.tables.exec = Jvm.exec) (hb : c.code = cc) (hl : l.stackTraces = false) {own cls text : String} {names : List String} {ik is ic mc ms sa : Nat} {A : Nat → Prop}
    (hown : s.vm.findClass own = some m.cls) (hcls : Bundle.fit cls = true) (hnames : ∀ n ∈ names, Bundle.fit n = true)
    (hk : (Cond.classLink own ik cls).before args s = true) (hini : (Cond.initialized cls).before args s = true) (hstr : vk_R own is text sa s) (hat : ∀ w ∈ vx_atS own ic cls names, w.before args s = true)
    (hgood : ∀ w ∈ Cond.classLink own ik cls :: Cond.initialized cls :: vx_atS own ic cls names, vx_ot w = true)
    (hU : vx_Zq Bundle.tN "UNASSIGNED_STACK" Bundle.steD A s s.heap) (hN : vx_Zq Bundle.tN "SUPPRESSED_SENTINEL" Bundle.listD A s s.heap) (hS : va_S A s.heap H locs) (hsize : ls.size = c.maxLocals)
    (d0 : decode cc pc = .ok (.new ik, 3)) (d3 : decode cc (pc + 3) = .ok (.dup, 1)) (d4 : decode cc (pc + 4) = .ok (.ldc is, 2)) (d6 : decode cc (pc + 6) = .ok (.invokespecial ic, 3)) (d9 : decode cc (pc + 9) = .ok (.athrow, 1))
    (hout : ∀ x ∈ c.exceptionTable.toList, covers x (pc + 9) = false)
    (hRframes : names.length + 3 < R.frames) (hRlocals : (rest.map fun v => v.category).sum + (13 * (names.length + 1) + 43) ≤ R.locals) (hRcells : cells + 1 ≤ R.cells) (hRslots : slots + 6 ≤ R.slots) (hlocks : meth.locks = false)
    (hx : ∀ t : State, s.vm.Alike t.vm → H.size ≤ t.heap.size → (∀ q : Nat, q < H.size → t.heap[q]? = H[q]?) → XC cls s t)
    (hf : ∀ z ∈ locs, free z.base) (hc : cells + 1 ≤ mc) (hs : slots + 6 ≤ ms) :
    W p l e R s m args below meth c H locs cells slots (vx_MQ below Qc XC args s mc ms free) (F0 m pc ls rest) := by
  intro T hT X
  have htr : e.platform.stackTraces = false := (show e.platform.stackTraces = l.stackTraces by rw [X.admits.platform]).trans hl
  have Y := vx_rebase X (R' := { frames := R.frames, locals := R.locals, cells := 1, slots := 6 }) (Nat.le_refl _) (Nat.le_refl _) hRcells hRslots
  obtain ⟨s', hA⟩ : ∃ z, z = (T.setVm s.vm).setFrames (.invoking m args :: below) := ⟨_, rfl⟩
  rw [← hA] at Y
  have hvm : s'.vm = s.vm := by rw [hA]; rfl
  have hhp : s'.heap = H := by rw [hA]; exact hT
  have hW0 : s.WarmedH s'.vm := by rw [hvm]; exact State.WarmedH.refl s
  have hat' : ∀ w ∈ vx_atS own ic cls names, w.before args s' = true := fun w hw => vx_ot_at hW0 hvm.symm (hgood w (List.mem_cons_of_mem _ (List.mem_cons_of_mem _ hw))) (hat w hw)
  have hk' : (Cond.classLink own ik cls).before args s' = true := vx_ot_at hW0 hvm.symm (hgood _ List.mem_cons_self) hk
  have hini' : (Cond.initialized cls).before args s' = true := vx_ot_at hW0 hvm.symm (hgood _ (List.mem_cons_of_mem _ List.mem_cons_self)) hini
  have hU' : vx_Zq Bundle.tN "UNASSIGNED_STACK" Bundle.steD A s' s'.heap := by rw [hhp]; exact vx_Zq.moved hW0.alike (hU.kept hS.2.1)
  have hN' : vx_Zq Bundle.tN "SUPPRESSED_SENTINEL" Bundle.listD A s' s'.heap := by rw [hhp]; exact vx_Zq.moved hW0.alike (hN.kept hS.2.1)
  have h : ∀ w ∈ Bundle.ownAtoms own ic cls names, w.before args s' = true := vx_own hat' (vx_isRefq hU'.1) (vx_isRefq hN'.1) hU'.2.word hN'.2.word
  have hown' : s'.vm.findClass own = some m.cls := by rw [hvm]; exact hown
  have hins : (Cond.instantiable cls 6).before args s' = true := h _ (by simp [Bundle.ownAtoms])
  obtain ⟨vm₁, cX, kX, hfX, hkX, -, -, X₁, st1⟩ := Y.newCold hexec (own := own) (C := cls) (index := ik) (n := 6) hown' hk' hins hini'
    (g := F0 m pc ls rest) rfl (by rw [hb]; exact d0) (Nat.le_refl _) (Nat.le_refl _)
  generalize hT1 : (T.setVm vm₁).pushCell { cls := cX, slots := kX.instanceTypes.map defaultValue, vm := .none } = T1 at X₁ st1
  have hcat : (Value.ref T.heap.size).category = 1 := rfl
  have hcellA : T1.heap[T.heap.size]? = some (freshCell cX kX) := by rw [← hT1]; exact State.heap_pushCell_size _ _
  have d3' : decode c.code (pc + 3) = .ok (.dup, 1) := by rw [hb]; exact d3
  have d4' : decode c.code (pc + 4) = .ok (.ldc is, 2) := by rw [hb]; exact d4
  have hstr' : vk_R own is text sa s' := vk_R.warm hW0 hstr
  obtain ⟨U, hsteps, hrun, hend, hW, hsame, ce, hce, hO⟩ := X₁.ctorThrowS hexec htr (own := own) (cls := cls) (names := names) (ic := ic) hown' hcls hnames h (fun x hx => nomatch hx) hfX hkX hcellA (by rw [hhp, hT]; exact Nat.le_refl _) (msg := .ref sa) rfl
    (g := { method := m, pc := pc + 6, locals := ls, stack := .ref sa :: .ref T.heap.size :: .ref T.heap.size :: rest, locked := none }) rfl hsize rfl rfl (rest := rest) rfl
    (by rw [hb]; exact d6) (by rw [hb]; exact d9) hout hRframes (by simp only [List.map_cons, List.sum_cons, hcat]; omega) hlocks
  obtain ⟨f1, f2⟩ := vx_frame hsame
  rw [hhp] at f1 f2
  have hWs : s.WarmedH U.vm := State.WarmedH.trans hW0 hW
  have hcl : s.vm.findClass cls = some ce.cls := by
    have h9 := hO.cls
    rw [hvm] at h9
    exact h9
  have hall : s.sameButNew ({ U with vm := s.vm } : State) locs mc ms := by
    subst hA
    obtain ⟨e1, e2⟩ := hsame
    rw [State.setFrames_setFrames] at e1
    have h2 : (T.setVm s.vm).sameButNew ({ U with vm := s.vm } : State) [] (0 + 1) (0 + 6) := ⟨e1, e2⟩
    have h3 := X.same.trans h2
    rw [List.append_nil] at h3
    exact h3.mono hc hs
  refine ⟨U, ?_, .threw T.heap.size, hrun, hend, Or.inr ⟨T.heap.size, rfl, cls, ce, locs, hx U hWs.alike f1 (fun q hq => f2 q hq (fun z hz => nomatch hz)), hce, hO.vm, hcl, hWs, hall, hf⟩⟩
  refine st1 _ ?_
  show Steps p.tables e below (T1.setTop { method := m, pc := pc + 3, locals := ls, stack := .ref T.heap.size :: rest, locked := none }) _
  jvm_step X₁.here [X₁.here.top, hexec, d3', Value.category]
  exact X₁.ldcString hexec (own := own) (text := text) (index := is) (a := sa) hown' hstr'.1 hstr'.2
    (g := { method := m, pc := pc + 4, locals := ls, stack := .ref T.heap.size :: .ref T.heap.size :: rest, locked := none }) rfl d4' _ hsteps
/-- 'throw new E("text")', the text by a wide index -/
theorem vx_throwSW {cc : ByteArray} {pc : Nat} (hexec : p.tables.exec = Jvm.exec) (hb : c.code = cc) (hl : l.stackTraces = false) {own cls text : String} {names : List String} {ik is ic mc ms sa : Nat} {A : Nat → Prop}
    (hown : s.vm.findClass own = some m.cls) (hcls : Bundle.fit cls = true) (hnames : ∀ n ∈ names, Bundle.fit n = true)
    (hk : (Cond.classLink own ik cls).before args s = true) (hini : (Cond.initialized cls).before args s = true) (hstr : vk_R own is text sa s) (hat : ∀ w ∈ vx_atS own ic cls names, w.before args s = true)
    (hgood : ∀ w ∈ Cond.classLink own ik cls :: Cond.initialized cls :: vx_atS own ic cls names, vx_ot w = true)
    (hU : vx_Zq Bundle.tN "UNASSIGNED_STACK" Bundle.steD A s s.heap) (hN : vx_Zq Bundle.tN "SUPPRESSED_SENTINEL" Bundle.listD A s s.heap) (hS : va_S A s.heap H locs) (hsize : ls.size = c.maxLocals)
    (d0 : decode cc pc = .ok (.new ik, 3)) (d3 : decode cc (pc + 3) = .ok (.dup, 1)) (d4 : decode cc (pc + 4) = .ok (.ldc_w is, 3)) (d7 : decode cc (pc + 7) = .ok (.invokespecial ic, 3)) (d10 : decode cc (pc + 10) = .ok (.athrow, 1))
    (hout : ∀ x ∈ c.exceptionTable.toList, covers x (pc + 10) = false)
    (hRframes : names.length + 3 < R.frames) (hRlocals : (rest.map fun v => v.category).sum + (13 * (names.length + 1) + 43) ≤ R.locals) (hRcells : cells + 1 ≤ R.cells) (hRslots : slots + 6 ≤ R.slots) (hlocks : meth.locks = false)
    (hx : ∀ t : State, s.vm.Alike t.vm → H.size ≤ t.heap.size → (∀ q : Nat, q < H.size → t.heap[q]? = H[q]?) → XC cls s t)
    (hf : ∀ z ∈ locs, free z.base) (hc : cells + 1 ≤ mc) (hs : slots + 6 ≤ ms) :
    W p l e R s m args below meth c H locs cells slots (vx_MQ below Qc XC args s mc ms free) (F0 m pc ls rest) := by
  intro T hT X
  have htr : e.platform.stackTraces = false := (show e.platform.stackTraces = l.stackTraces by rw [X.admits.platform]).trans hl
  have Y := vx_rebase X (R' := { frames := R.frames, locals := R.locals, cells := 1, slots := 6 }) (Nat.le_refl _) (Nat.le_refl _) hRcells hRslots
  obtain ⟨s', hA⟩ : ∃ z, z = (T.setVm s.vm).setFrames (.invoking m args :: below) := ⟨_, rfl⟩
  rw [← hA] at Y
  have hvm : s'.vm = s.vm := by rw [hA]; rfl
  have hhp : s'.heap = H := by rw [hA]; exact hT
  have hW0 : s.WarmedH s'.vm := by rw [hvm]; exact State.WarmedH.refl s
  have hat' : ∀ w ∈ vx_atS own ic cls names, w.before args s' = true := fun w hw => vx_ot_at hW0 hvm.symm (hgood w (List.mem_cons_of_mem _ (List.mem_cons_of_mem _ hw))) (hat w hw)
  have hk' : (Cond.classLink own ik cls).before args s' = true := vx_ot_at hW0 hvm.symm (hgood _ List.mem_cons_self) hk
  have hini' : (Cond.initialized cls).before args s' = true := vx_ot_at hW0 hvm.symm (hgood _ (List.mem_cons_of_mem _ List.mem_cons_self)) hini
  have hU' : vx_Zq Bundle.tN "UNASSIGNED_STACK" Bundle.steD A s' s'.heap := by rw [hhp]; exact vx_Zq.moved hW0.alike (hU.kept hS.2.1)
  have hN' : vx_Zq Bundle.tN "SUPPRESSED_SENTINEL" Bundle.listD A s' s'.heap := by rw [hhp]; exact vx_Zq.moved hW0.alike (hN.kept hS.2.1)
  have h : ∀ w ∈ Bundle.ownAtoms own ic cls names, w.before args s' = true := vx_own hat' (vx_isRefq hU'.1) (vx_isRefq hN'.1) hU'.2.word hN'.2.word
  have hown' : s'.vm.findClass own = some m.cls := by rw [hvm]; exact hown
  have hins : (Cond.instantiable cls 6).before args s' = true := h _ (by simp [Bundle.ownAtoms])
  obtain ⟨vm₁, cX, kX, hfX, hkX, -, -, X₁, st1⟩ := Y.newCold hexec (own := own) (C := cls) (index := ik) (n := 6) hown' hk' hins hini'
    (g := F0 m pc ls rest) rfl (by rw [hb]; exact d0) (Nat.le_refl _) (Nat.le_refl _)
  generalize hT1 : (T.setVm vm₁).pushCell { cls := cX, slots := kX.instanceTypes.map defaultValue, vm := .none } = T1 at X₁ st1
  have hcat : (Value.ref T.heap.size).category = 1 := rfl
  have hcellA : T1.heap[T.heap.size]? = some (freshCell cX kX) := by rw [← hT1]; exact State.heap_pushCell_size _ _
  have d3' : decode c.code (pc + 3) = .ok (.dup, 1) := by rw [hb]; exact d3
  have d4' : decode c.code (pc + 4) = .ok (.ldc_w is, 3) := by rw [hb]; exact d4
  have hstr' : vk_R own is text sa s' := vk_R.warm hW0 hstr
  obtain ⟨U, hsteps, hrun, hend, hW, hsame, ce, hce, hO⟩ := X₁.ctorThrowS hexec htr (own := own) (cls := cls) (names := names) (ic := ic) hown' hcls hnames h (fun x hx => nomatch hx) hfX hkX hcellA (by rw [hhp, hT]; exact Nat.le_refl _) (msg := .ref sa) rfl
    (g := { method := m, pc := pc + 7, locals := ls, stack := .ref sa :: .ref T.heap.size :: .ref T.heap.size :: rest, locked := none }) rfl hsize rfl rfl (rest := rest) rfl
    (by rw [hb]; exact d7) (by rw [hb]; exact d10) hout hRframes (by simp only [List.map_cons, List.sum_cons, hcat]; omega) hlocks
  obtain ⟨f1, f2⟩ := vx_frame hsame
  rw [hhp] at f1 f2
  have hWs : s.WarmedH U.vm := State.WarmedH.trans hW0 hW
  have hcl : s.vm.findClass cls = some ce.cls := by
    have h9 := hO.cls
    rw [hvm] at h9
    exact h9
  have hall : s.sameButNew ({ U with vm := s.vm } : State) locs mc ms := by
    subst hA
    obtain ⟨e1, e2⟩ := hsame
    rw [State.setFrames_setFrames] at e1
    have h2 : (T.setVm s.vm).sameButNew ({ U with vm := s.vm } : State) [] (0 + 1) (0 + 6) := ⟨e1, e2⟩
    have h3 := X.same.trans h2
    rw [List.append_nil] at h3
    exact h3.mono hc hs
  refine ⟨U, ?_, .threw T.heap.size, hrun, hend, Or.inr ⟨T.heap.size, rfl, cls, ce, locs, hx U hWs.alike f1 (fun q hq => f2 q hq (fun z hz => nomatch hz)), hce, hO.vm, hcl, hWs, hall, hf⟩⟩
  refine st1 _ ?_
  show Steps p.tables e below (T1.setTop { method := m, pc := pc + 3, locals := ls, stack := .ref T.heap.size :: rest, locked := none }) _
  jvm_step X₁.here [X₁.here.top, hexec, d3', Value.category]
  exact X₁.ldcStringW hexec (own := own) (text := text) (index := is) (a := sa) hown' hstr'.1 hstr'.2
    (g := { method := m, pc := pc + 4, locals := ls, stack := .ref T.heap.size :: .ref T.heap.size :: rest, locked := none }) rfl d4' _ hsteps
end Ends
section Bodies
variable {l : Launch}
theorem vx_ofW {y : MethodName} {ws ws' : List Cond} {rm : Room} {Pc : Array Value → State → Prop} {Qc : Array Value → State → Outcome → State → Prop} {XC : String → State → State → Prop} {mc ms : Nat} {free : Addr → Prop} {cc : ByteArray} {maxL : Nat} {ret : Option FieldType}
    (hy : plainName y.cls = true) (hw : ws = Cond.code y cc maxL ret :: ws')
    (body : ∀ p e s m args below meth c s₁, BodyLoose p l y (headSpec ws rm) cc maxL ret e s m args below meth c s₁ → c.maxLocals = maxL → (∀ x ∈ c.exceptionTable.toList, False) → Pc args s →
      W p l e (headSpec ws rm).room s m args below meth c s.heap [] 0 0 (vx_MQ below Qc XC args s mc ms free) (entryFrame m args maxL)) : vx_Met l y ws rm Pc Qc XC mc ms free := by
  refine MetFree.of_bodyS (code := cc) (maxLocals := maxL) (ret := ret) hy ?_ ?_
  · intro args s m h hn
    obtain ⟨meth, c, h1, h2, h3, h4, h5, h6, -, -⟩ := Cond.code_spec hn (atoms_spec (ws := ws) h _ (by rw [hw]; exact List.mem_cons_self))
    exact ⟨meth, c, h1, h2, h3, h4, h5, h6⟩
  · intro p e s m args below meth c s₁ B hml hP _
    have hh0 : s₁.heap = s.heap := by rw [B.state]; rfl
    have ht : ∀ x ∈ c.exceptionTable.toList, False := by
      obtain ⟨meth9, c9, h1, h2, -, -, -, -, h7, -⟩ := Cond.code_spec B.named (atoms_spec (ws := ws) B.pre _ (by rw [hw]; exact List.mem_cons_self))
      cases Option.some.inj (h1.symm.trans B.method)
      cases Option.some.inj (h2.symm.trans (Stand.of_body B).code)
      intro x hx
      rw [Array.isEmpty_iff.mp h7] at hx
      cases hx
    obtain ⟨t, a1, o, b1, b2, b3⟩ := body p e s m args below meth c s₁ B hml ht hP s₁ hh0 (Stand.of_body B)
    exact ⟨t, o, a1, b1, b2, b3⟩
/-- the table of a body with handlers -/
theorem vx_table {p : Program} {x y : MethodName} {S : Spec} {cc bytes : ByteArray} {maxL maxL' : Nat} {ret ret' : Option FieldType} {e : Env} {s s₁ : State} {m : MethodId} {args : Array Value} {below : List Frame} {meth : Method} {c : Code} {hh : List (Nat × Nat × Nat × Nat)}
    (B : BodyLoose p l y S cc maxL ret e s m args below meth c s₁) (h : (Cond.codeWith y bytes maxL' ret' hh).before args s = true) : c.exceptionTable.toList = tableOf hh := by
  obtain ⟨m9, meth9, c9, hn9, h1, h2, -, -, h6, -⟩ := Cond.codeWith_spec h
  cases Option.some.inj (hn9.symm.trans B.named)
  cases Option.some.inj (h1.symm.trans B.method)
  cases Option.some.inj (h2.symm.trans (Stand.of_body B).code)
  rw [← h6, table_eq]
end Bodies
end VXA
/-! ===== END ===== -/
/-! ===== BEGIN a static call of a method with an exception table ===== -/
section VXS
variable {p : Program} {l : Launch} {e : Env} {R : Room} {s : State} {m : MethodId} {args : Array Value} {below : List Frame} {meth : Method} {c : Code} {T : State} {H : Heap} {locs : List Loc} {cells slots : Nat}
abbrev vx_CSW (R : Room) (s : State) (args : Array Value) (own : String) (index : Nat) (y : MethodName) (bytes : ByteArray) (maxL : Nat) (ret : Option FieldType) (hh : List (Nat × Nat × Nat × Nat)) (ws : List Cond) (rm : Room) (mc ms n : Nat) : Prop :=
  (rm.cells = mc ∧ rm.slots = ms ∧ rm.frames + 1 ≤ R.frames ∧ 8 + (maxL + 11) + rm.locals ≤ R.locals ∧ (∀ w ∈ ws, ∀ (a' : Array Value) (U : State), s.WarmedH U.vm → w.before a' U = true) ∧ Cond.codeWith y bytes maxL ret hh ∈ ws) ∧
  (Cond.codeWith y bytes maxL ret hh).before args s = true ∧ (Cond.initialized y.cls).before args s = true ∧ (y.cls ≠ "java/lang/invoke/MethodHandle" ∧ y.cls ≠ "java/lang/invoke/VarHandle") ∧
  (∀ sig, parseMethodDescriptor y.desc = some sig → n = sig.parameters.length) ∧ (Cond.methodLink own index y).before args s = true ∧ (Cond.static y).before args s = true
theorem vx_cwSW {own : String} {index maxL mc ms : Nat} {y : MethodName} {bytes : ByteArray} {ret : Option FieldType} {hh : List (Nat × Nat × Nat × Nat)} {Ts ws ws' : List Cond} {rm : Room} (n : Nat) (ht : ∀ w ∈ Ts, w.before args s = true) (hT : GoodIn Ts (va_wsS own index y ws)) (hw : ws = Cond.codeWith y bytes maxL ret hh :: ws') (hrc : rm.cells = mc) (hrs : rm.slots = ms)
    (hd : y.cls ≠ "java/lang/invoke/MethodHandle" ∧ y.cls ≠ "java/lang/invoke/VarHandle" ∧ (parseMethodDescriptor y.desc).map (fun d => d.parameters.length) = some n) (hR : rm.frames + 1 ≤ R.frames ∧ 8 + (maxL + 11) + rm.locals ≤ R.locals) :
    vx_CSW R s args own index y bytes maxL ret hh ws rm mc ms n := by
  have ok : ∀ w ∈ va_wsS own index y ws, w.before args s = true := fun w h => ht w (hT w h).1
  have hG : GoodIn Ts ws := fun w h => hT w (by unfold va_wsS; exact List.mem_append_right _ h)
  have hc : Cond.codeWith y bytes maxL ret hh ∈ ws := by rw [hw]; exact List.mem_cons_self
  refine ⟨⟨hrc, hrs, hR.1, hR.2, pay_in ht hG, hc⟩, ht _ (hG _ hc).1, ok _ (by simp [va_wsS]), ⟨hd.1, hd.2.1⟩, fun sig h => ?_, ok _ (by simp [va_wsS]), ok _ (by simp [va_wsS])⟩
  have h2 := hd.2.2
  rw [h] at h2
  exact (Option.some.inj h2).symm
theorem vx_callSW (X : Stand p l e R s m args below meth c T locs cells slots) (hexec : p.tables.exec = Jvm.exec) {own : String} {index : Nat} {y : MethodName} {bytes : ByteArray} {maxL : Nat} {ret : Option FieldType} {hh : List (Nat × Nat × Nat × Nat)}
    (hown : s.vm.findClass own = some m.cls) (hlink : (Cond.methodLink own index y).before args s = true) (hstat : (Cond.static y).before args s = true) (hinit : (Cond.initialized y.cls).before args s = true)
    (hcode : (Cond.codeWith y bytes maxL ret hh).before args s = true) (hy : y.cls ≠ "java/lang/invoke/MethodHandle" ∧ y.cls ≠ "java/lang/invoke/VarHandle")
    {W9 : Nat} {Pre : Pt → Array Value → Prop} {Post : Pt → Array Value → Option Value → Pt → Prop} (hK : Back l R p e below s args y 3 W9 Pre Post)
    {g : JFrame} (hg : g.method = m) (hsize : g.locals.size = c.maxLocals) {argsL rest : List Value} (hlen : ∀ sig, parseMethodDescriptor y.desc = some sig → argsL.length = sig.parameters.length)
    (hstack : g.stack = argsL.reverse ++ rest) (hW : 2 * g.monitorRoom + (rest.map fun v => v.category).sum ≤ W9) (hdg : decode c.code g.pc = .ok (.invokestatic index, 3))
    (hpre : ∀ vm₁, s.WarmedH vm₁ → Pre ⟨T.setVm vm₁, locs, cells, slots⟩ argsL.toArray) :
    ∃ (v : Option Value) (vm₁ : Vm) (B : Pt), s.WarmedH vm₁ ∧ Stand p l e R s m args below meth c B.U B.locs B.cells B.slots ∧ Post ⟨T.setVm vm₁, locs, cells, slots⟩ argsL.toArray v B ∧
      ∀ target, Steps p.tables e below (B.U.setTop { g with pc := g.pc + 3, stack := v.toList ++ rest }) target → Steps p.tables e below (T.setTop g) target := by
  obtain ⟨mk, methM, cM, hnamed, hmethM, -, -, -, -, -, -, hsigM⟩ := Cond.codeWith_spec hcode
  have hstatic : methM.isStatic = true := Cond.static_spec hnamed hmethM hstat
  obtain ⟨kP, hkP, -⟩ := className_of_methodNamed hnamed
  have hinitP : kP.init = .initialized := Cond.initialized_spec (findClass_of_methodNamed hnamed) hkP hinit
  obtain ⟨vm₁, X₁, hstep₁⟩ := X.invokestatic hexec hown hlink hnamed hmethM hstatic hkP hinitP hy (g := g) hg (argsL := argsL) (rest := rest) (hlen _ hsigM) hstack hdg
  obtain ⟨v, B, X', hpost, hsteps⟩ := hK m meth c ⟨T.setVm vm₁, locs, cells, slots⟩ { g with stack := rest } (.invokestatic index) mk argsL.toArray X₁ hg hsize hdg hW (X₁.named hnamed) (hpre vm₁ X₁.warmed)
  exact ⟨v, vm₁, B, X₁.warmed, X', hpost, fun target h => hstep₁ _ fun acts => by rw [doInvoke_state]; exact hsteps.trans h⟩
theorem vx_runSW {y : MethodName} {bytes cc : ByteArray} {maxL nL mc ms n index : Nat} {ret : Option FieldType} {hh : List (Nat × Nat × Nat × Nat)} {ws : List Cond} {rm : Room} {Pc : Array Value → State → Prop} {Qc : Array Value → State → Outcome → State → Prop} {free : Addr → Prop} {Ts : List Cond} {own : String} {As rest : List Value} {g : JFrame}
    (S : CallFix p m c cc nL s args Ts own) (hM : Met l y ws rm Pc Qc mc ms free) (cw : vx_CSW R s args own index y bytes maxL ret hh ws rm mc ms n) (hp : PreS s H Pc As)
    (hg : g.method = m) (hn : As.length = n) (hsize : g.locals.size = nL) (hstack : g.stack = As.reverse ++ rest) (hW : 2 * g.monitorRoom + (rest.map fun v => v.category).sum ≤ 8) (hdg : decode cc g.pc = .ok (.invokestatic index, 3)) (hf : cells + mc ≤ R.cells ∧ slots + ms ≤ R.slots) :
    va_Run p l e R s m args below meth c H locs cells slots mc ms g rest (Qc As.toArray) (free) := by
  obtain ⟨⟨hrc, hrs, hfr, hlo, hws, hcw⟩, hcode, hini, hy, hlen, hl, hstt⟩ := cw
  have hK : Back l R p e below s args y 3 8 (PreOf R mc ms Pc) (PostOf Qc mc ms free) := va_backW (hh := hh) (bytes := bytes) (maxL := maxL) (ret := ret) hM hp.1 hrc hrs hfr hlo hws hcw (fun a' U hW => word_at hW (Or.inl (by first | rfl | simp [Cond.onTables, Cond.keeps, Cond.steady])) hini)
  obtain ⟨hx, hb, hml, ho, -⟩ := S
  intro T hT X
  obtain ⟨v, vm₁, ⟨U', l2, c2, s2⟩, hW₁, X', ⟨g', mk, t, L, e1, e2, hq, h1, hL, h2, h3⟩, st⟩ := vx_callSW X hx (hh := hh) (bytes := bytes) (maxL := maxL) (ret := ret) ho hl hstt hini hcode hy hK hg (hsize.trans hml.symm) (argsL := As) (rest := rest) (fun sig h => hn.trans (hlen sig h)) hstack hW (by rw [hb]; exact hdg)
    (fun vm₁ hW₁ => ⟨hf.1, hf.2, hp.2 (T.setVm vm₁) hT hW₁⟩)
  dsimp only [Pt.U, Pt.locs, Pt.cells, Pt.slots] at X' e1 e2 h1 h2 h3 st
  subst h1; subst h2; subst h3
  exact ⟨v, (T.setVm vm₁).calling g' mk As.toArray, t, U', L, hT, X', hL, e1, e2, hq, st⟩
/-- not caught here, past rows that name other classes: it goes on to the caller -/
theorem vx_outP {p : Program} {l : Launch} {e : Env} {R : Room} {s : State} {m : MethodId} {args : Array Value} {below : List Frame} {meth : Method} {c : Code} {H : Heap} {locs : List Loc} {cells slots : Nat} {free : Addr → Prop} {ls : Array Slot} {rest : List Value} {Qc : Array Value → State → Outcome → State → Prop} {XC : String → State → State → Prop}
    {pc : Nat} {own E : String} {ce : Cell} {q : Addr} {mc ms : Nat} (hown : s.vm.findClass own = some m.cls) (hlocks : meth.locks = false)
    (hpass : ∀ z ∈ c.exceptionTable.toList, covers z pc = false ∨ (z.catchType ≠ 0 ∧ ∃ nm : String, (Cond.classLink own z.catchType nm).before args s = true ∧ va_Nc E nm s)) (hcell : H[q]? = some ce) (hv : ce.vm = .none) (hcl : s.vm.findClass E = some ce.cls)
    (hx : ∀ t : State, t.heap = H → s.vm.Alike t.vm → XC E s t) (hf : ∀ z ∈ locs, free z.base) (hc : cells ≤ mc) (hs : slots ≤ ms) :
    vx_W p l e R s m args below meth c H locs cells slots (vx_MQ below Qc XC args s mc ms free) (F0 m pc ls rest) q := by
  intro T hT X
  have hpl : e.platform.magicAccessors = ({} : Platform).magicAccessors := by rw [X.admits.platform]
  obtain ⟨vm', hW', X', st⟩ := X.outThrough hlocks q (g := F0 m pc ls rest) rfl rfl rfl (cell := ce) (by rw [hT]; exact hcell) (by rw [hv]; rfl)
    (by obtain ⟨k9, h9, -⟩ := Vm.findClass_spec hcl; exact ⟨k9, h9⟩) (fun z hz => by
      rcases hpass z hz with h | ⟨hz0, nm, hl1, hn1⟩
      · exact Or.inl h
      · obtain ⟨c6, hc6, hcl6⟩ := Cond.classLink_spec hown hl1 e.platform hpl
        obtain ⟨a8, b8, h1, h2, h3⟩ := hn1
        cases Option.some.inj (h1.symm.trans hcl)
        cases Option.some.inj (h2.symm.trans hc6)
        exact Or.inr ⟨hz0, _, hcl6, h3⟩)
  obtain ⟨g₀, hfr⟩ := X'.frames_eq
  have hcell9 : ((T.setVm vm').setFrames (.throwing q :: below)).heap[q]? = some ce := by
    show T.heap[q]? = some ce
    rw [hT]; exact hcell
  have hend : Ended ((T.setVm vm').setFrames (.throwing q :: below)) below (.threw q) := State.frames_setFrames _ (State.cur_lt_of_frames hfr)
  refine ⟨(T.setVm vm').setFrames (.throwing q :: below), ?_, .threw q, X'.here.running, hend, Or.inr ⟨q, rfl, E, ce, locs, hx _ hT (X'.ends _).1.alike, hcell9, hv, hcl, (X'.ends _).1, (X'.ends _).2.mono hc hs, hf⟩⟩
  rw [X.pushThrowing_eq]
  exact st
/-- a thing of a world lies in the heap -/
theorem vx_lt {D : va_G} {cl : List vw_C} {ws : va_W} {H1 : Heap} (h : va_P D cl ws H1) {k : Nat} {q : Nat × va_E} (hk : ws[k]? = some q) : q.1 < H1.size := (h k q hk).lt
end VXS
/-! ===== END ===== -/
/-! ===== BEGIN methods with a table of their own: called by a name, returning or throwing ===== -/
section VXH
/-! vx_backW, vx_callVX, vx_callSX, vx_callVW, vx_runVW, vx_runVX, vx_runSX, vx_ofWH follow the same proofs as their sisters above (Free/Laws.lean, Shelf42/LK1.lean); vx_outP calls Shelf42/NT130.lean (outThrough). -/
section
variable {l : Launch} {R : Room} {p : Program} {e : Env} {below : List Frame} {s : State} {sargs : Array Value} {y : MethodName} {len W9 : Nat}
theorem vx_backW {ws : List Cond} {rm : Room} {Pc : Array Value → State → Prop} {Qc : Array Value → State → Outcome → State → Prop} {XC : String → State → State → Prop} {mc ms : Nat} {free : Addr → Prop} {bytes : ByteArray} {maxL : Nat} {ret : Option FieldType} {hh : List (Nat × Nat × Nat × Nat)}
    (hM : vx_Met l y ws rm Pc Qc XC mc ms free) (hblind : FrameBlind Pc) (hrc : rm.cells = mc) (hrs : rm.slots = ms)
    (hframes : rm.frames + 1 ≤ R.frames) (hlocals : W9 + (maxL + 11) + rm.locals ≤ R.locals)
    (hws : ∀ w ∈ ws, ∀ a' U, s.WarmedH U.vm → w.before a' U = true) (hcode : Cond.codeWith y bytes maxL ret hh ∈ ws) (hinit : ∀ a' U, s.WarmedH U.vm → (Cond.initialized y.cls).before a' U = true) :
    vx_Back l R p e below s sargs y len W9 (PreOf R mc ms Pc) (PostOf Qc mc ms free) (vx_Post XC mc ms free) := by
  intro m meth c A g ig mk a X hg hsize hdg hW hn hp
  have h1 : (headSpec ws rm).pre.before a A.U = true := atoms_intro fun w hw => hws w hw _ _ X.warmed
  have h2 : (Cond.codeWith y bytes maxL ret hh).before a A.U = true := hws _ hcode _ _ X.warmed
  have h3 : (Cond.initialized y.cls).before a A.U = true := hinit _ _ X.warmed
  have h4 : A.cells + (headSpec ws rm).room.cells ≤ R.cells := by rw [show (headSpec ws rm).room.cells = mc from hrc]; exact hp.1
  have h5 : A.slots + (headSpec ws rm).room.slots ≤ R.slots := by rw [show (headSpec ws rm).room.slots = ms from hrs]; exact hp.2.1
  have hPc : Pc a (A.U.calling g mk a) := hblind _ _ _ _ hp.2.2
  obtain ⟨U, Ls, c0, s0⟩ := A
  dsimp only [Pt.U, Pt.locs, Pt.cells, Pt.slots] at h1 h2 h3 h4 h5 X hn hPc ⊢
  obtain ⟨m9, methY, cY, hn9, hmY, hcY, -, hlY, -⟩ := Cond.codeWith_spec h2
  cases Option.some.inj (hn9.symm.trans hn)
  obtain ⟨kY, hkY, -⟩ := className_of_methodNamed hn
  have hinitY : kY.init = .initialized := Cond.initialized_spec (findClass_of_methodNamed hn) hkY h3
  have h : At U g.method c below := by rw [hg]; exact X.here
  have hlocals9 : W9 + (maxL + 11) + (headSpec ws rm).room.locals ≤ R.locals := hlocals
  have happ : (headSpec ws rm).appliesLoose y e.platform (U.calling g mk a) = true :=
    Spec.appliesLoose_calling (g := g) h hdg hn hkY hinitY
      (X.room_calling (g := g) (R' := (headSpec ws rm).room) hsize hmY hcY hframes (by rw [hlY]; omega) h4 h5) h1
  obtain ⟨mid, hmid⟩ := h.above
  have hfr : (U.setTop g).frames = (.java g :: mid) ++ below := by rw [State.frames_setTop' g h.top, hmid]; rfl
  obtain ⟨o, s₂, hsteps, -, hend, hq⟩ := Steps.callFree hM p X.admits X.cas X.clock (acts := []) hfr happ hPc trivial
  have hq' : vx_Q Qc XC mc ms free a (U.calling g mk a) o s₂ := hq
  rw [State.frames_setTop' g h.top] at hend
  obtain ⟨g₀, hg0⟩ := Option.isSome_iff_exists.mp h.top
  obtain ⟨r, hr⟩ := State.topJava?_eq_some.mp hg0
  have hr' : (({ U with heap := s₂.heap, slotsUsed := s₂.slotsUsed } : State).setVm s₂.vm).frames = .java g₀ :: r := hr
  rcases hq' with ⟨hqc, L, hfe, hL⟩ | ⟨q, rfl, E, ce, L, hx, hce, hcv, hcl, hW₂, hsm, hL⟩
  · obtain ⟨⟨v, rfl⟩, hW₂, e2, q2, q3, q4, q5, q6⟩ := id hfe
    have e3 : s₂ = ({ (U.calling g mk a).setFrames s₂.frames with heap := s₂.heap, slotsUsed := s₂.slotsUsed } : State).setVm s₂.vm := by
      have : s₂ = ({ s₂ with vm := (U.calling g mk a).vm } : State).setVm s₂.vm := rfl
      rw [e2] at this
      exact this
    obtain ⟨c₂, i₂, len₂, hc₂, hd₂, hf₂⟩ := hend
    have hW' : U.WarmedH s₂.vm := hW₂
    have hcc : c₂ = c := by
      have h1 : s₂.code? g.method = U.code? g.method := by
        rw [State.code?_eq, State.code?_eq, hW'.alike.method?]
      exact Option.some.inj (hc₂.symm.trans (h1.trans h.code))
    subst hcc
    have hlen : len₂ = len := by rw [hdg] at hd₂; cases hd₂; rfl
    subst hlen
    have hs₂ : s₂ = (({ U with heap := s₂.heap, slotsUsed := s₂.slotsUsed } : State).setVm s₂.vm).setTop { g with pc := g.pc + len₂, stack := v.toList ++ g.stack } := by
      refine e3.trans ?_
      rw [hf₂, State.calling_eq h.top, State.setFrames_setFrames, State.setTop_of_frames _ hr', hr]
      rfl
    have hsame : U.sameButNew ({ U with heap := s₂.heap, slotsUsed := s₂.slotsUsed } : State) L mc ms := by
      refine ⟨?_, q2, q3, q4, q5, q6⟩
      obtain ⟨t, ht, -⟩ := State.frames_cons hr
      show ({ U with heap := s₂.heap, slotsUsed := s₂.slotsUsed } : State) = { U.setFrames U.frames with heap := s₂.heap, slotsUsed := s₂.slotsUsed }
      rw [State.setFrames_self ht]
    subst hg
    refine Or.inl ⟨v, ⟨(({ U with heap := s₂.heap, slotsUsed := s₂.slotsUsed } : State).setVm s₂.vm), Ls ++ L, c0 + mc, s0 + ms⟩,
      ⟨X.admits, X.cas, X.clock, X.frames, X.room, X.hears, X.method, X.code, (X.here.setHeapUsed s₂.heap s₂.slotsUsed).setVm hW'.alike, X.tail, State.WarmedH.trans X.warmed hW', X.limits, X.bytes, X.same.trans (hsame.setVm s.vm)⟩,
      ⟨g, mk, s₂, L, rfl, rfl, hqc, rfl, hL, rfl, rfl⟩, ?_⟩
    show Steps p.tables e below _ ((({ U with heap := s₂.heap, slotsUsed := s₂.slotsUsed } : State).setVm s₂.vm).setTop { g with pc := g.pc + len₂, stack := v.toList ++ g.stack })
    rw [← hs₂]
    exact hsteps
  · obtain ⟨e2, q2, q3, q4, q5, q6⟩ := id hsm
    have e3 : s₂ = ({ (U.calling g mk a).setFrames s₂.frames with heap := s₂.heap, slotsUsed := s₂.slotsUsed } : State).setVm s₂.vm := by
      have : s₂ = ({ s₂ with vm := (U.calling g mk a).vm } : State).setVm s₂.vm := rfl
      rw [e2] at this
      exact this
    have hf₂ : s₂.frames = .throwing q :: .java g :: U.frames.tail := hend
    have hW' : U.WarmedH s₂.vm := hW₂
    have hs₂ : s₂ = ((({ U with heap := s₂.heap, slotsUsed := s₂.slotsUsed } : State).setVm s₂.vm).setTop g).pushFrame (.throwing q) := by
      refine e3.trans ?_
      rw [hf₂, State.calling_eq h.top, State.setFrames_setFrames, State.pushFrame, State.frames_setTop _ hr', State.setTop_of_frames _ hr', State.setFrames_setFrames, hr]
      rfl
    have hsame : U.sameButNew ({ U with heap := s₂.heap, slotsUsed := s₂.slotsUsed } : State) L mc ms := by
      refine ⟨?_, q2, q3, q4, q5, q6⟩
      obtain ⟨t, ht, -⟩ := State.frames_cons hr
      show ({ U with heap := s₂.heap, slotsUsed := s₂.slotsUsed } : State) = { U.setFrames U.frames with heap := s₂.heap, slotsUsed := s₂.slotsUsed }
      rw [State.setFrames_self ht]
    subst hg
    refine Or.inr ⟨q, ⟨(({ U with heap := s₂.heap, slotsUsed := s₂.slotsUsed } : State).setVm s₂.vm), Ls ++ L, c0 + mc, s0 + ms⟩,
      ⟨X.admits, X.cas, X.clock, X.frames, X.room, X.hears, X.method, X.code, (X.here.setHeapUsed s₂.heap s₂.slotsUsed).setVm hW'.alike, X.tail, State.WarmedH.trans X.warmed hW', X.limits, X.bytes, X.same.trans (hsame.setVm s.vm)⟩,
      ⟨g, mk, s₂, L, E, ce, rfl, rfl, hx, hce, hcv, hcl, rfl, hL, rfl, rfl⟩, ?_⟩
    show Steps p.tables e below _ (((({ U with heap := s₂.heap, slotsUsed := s₂.slotsUsed } : State).setVm s₂.vm).setTop g).pushFrame (.throwing q))
    rw [← hs₂]
    exact hsteps
end
variable {p : Program} {l : Launch} {e : Env} {R : Room} {s : State} {m : MethodId} {args : Array Value} {below : List Frame} {meth : Method} {c : Code} {T : State} {H : Heap} {locs : List Loc} {cells slots : Nat}
theorem vx_callVX (X : Stand p l e R s m args below meth c T locs cells slots) (hexec : p.tables.exec = Jvm.exec) {own C : String} {index : Nat} {y : MethodName} {bytes : ByteArray} {maxL : Nat} {ret : Option FieldType} {hh : List (Nat × Nat × Nat × Nat)}
    (hown : s.vm.findClass own = some m.cls) (hlink : (Cond.methodLink own index y).before args s = true) (hinst : (Cond.instanceMethod y).before args s = true) (hsel : (Cond.selects C y y).before args s = true)
    (hcode : (Cond.codeWith y bytes maxL ret hh).before args s = true) (hy : y.cls ≠ "java/lang/invoke/MethodHandle" ∧ y.cls ≠ "java/lang/invoke/VarHandle")
    {W9 : Nat} {Pre : Pt → Array Value → Prop} {Post : Pt → Array Value → Option Value → Pt → Prop} {PostX : Pt → Array Value → Addr → Pt → Prop} (hK : vx_Back l R p e below s args y 3 W9 Pre Post PostX)
    {b : Addr} {cellB : Cell} (hcell : T.heap[b]? = some cellB) (hobj : cellB.vm.isStatics = false) (hcls : s.vm.findClass C = some cellB.cls)
    {g : JFrame} (hg : g.method = m) (hsize : g.locals.size = c.maxLocals) {argsL rest : List Value} (hlen : ∀ sig, parseMethodDescriptor y.desc = some sig → argsL.length = sig.parameters.length)
    (hstack : g.stack = argsL.reverse ++ .ref b :: rest) (hW : 2 * g.monitorRoom + (rest.map fun v => v.category).sum ≤ W9) (hdg : decode c.code g.pc = .ok (.invokevirtual index, 3))
    (hpre : ∀ vm₁, s.WarmedH vm₁ → Pre ⟨T.setVm vm₁, locs, cells, slots⟩ (Value.ref b :: argsL).toArray) :
    (∃ (v : Option Value) (vm₁ : Vm) (B : Pt), s.WarmedH vm₁ ∧ Stand p l e R s m args below meth c B.U B.locs B.cells B.slots ∧ Post ⟨T.setVm vm₁, locs, cells, slots⟩ (Value.ref b :: argsL).toArray v B ∧
      ∀ target, Steps p.tables e below (B.U.setTop { g with pc := g.pc + 3, stack := v.toList ++ rest }) target → Steps p.tables e below (T.setTop g) target) ∨
    (∃ (q : Addr) (vm₁ : Vm) (B : Pt), s.WarmedH vm₁ ∧ Stand p l e R s m args below meth c B.U B.locs B.cells B.slots ∧ PostX ⟨T.setVm vm₁, locs, cells, slots⟩ (Value.ref b :: argsL).toArray q B ∧
      Steps p.tables e below (T.setTop g) ((B.U.setTop { g with stack := rest }).pushFrame (.throwing q))) := by
  obtain ⟨mk, methM, hnamed, hmethM, hstM, habM⟩ := Cond.instanceMethod_spec hinst
  obtain ⟨m8, methM', cM, hn8, hmethM', -, -, -, -, -, -, hsigM⟩ := Cond.codeWith_spec hcode
  cases Option.some.inj (hn8.symm.trans hnamed)
  cases hmethM.symm.trans hmethM'
  obtain ⟨c2, r2, m2, q1, q2, q3, q4, kP, hkP, hkPi⟩ := Cond.selects_spec hsel
  cases hcls.symm.trans q1
  cases (State.methodFound?_of_named hnamed hy).symm.trans q2
  cases hnamed.symm.trans q3
  have hselP : selectMethod e.platform s.vm cellB.cls mk = .method mk := by rw [Launch.admits_selectMethod X.admits]; exact q4
  obtain ⟨vm₁, X₁, hstep₁⟩ := X.invokevirtual hexec hown hlink hnamed hmethM hstM hkP hkPi hy (a := b) (cell := cellB) hcell
    (fun z h => by rw [h] at hobj; cases hobj) hselP hmethM habM hkP hkPi (g := g) hg (argsL := argsL) (rest := rest) (hlen _ hsigM) hstack hdg
  rcases hK m meth c ⟨T.setVm vm₁, locs, cells, slots⟩ { g with stack := rest } (.invokevirtual index) mk (Value.ref b :: argsL).toArray X₁ hg hsize hdg hW (X₁.named hnamed) (hpre vm₁ X₁.warmed) with ⟨v, B, X', hpost, hsteps⟩ | ⟨q, B, X', hpost, hsteps⟩
  · exact Or.inl ⟨v, vm₁, B, X₁.warmed, X', hpost, fun target h => hstep₁ _ fun acts => by rw [doInvoke_state]; exact hsteps.trans h⟩
  · exact Or.inr ⟨q, vm₁, B, X₁.warmed, X', hpost, hstep₁ _ fun acts => by rw [doInvoke_state]; exact hsteps⟩
theorem vx_callSX (X : Stand p l e R s m args below meth c T locs cells slots) (hexec : p.tables.exec = Jvm.exec) {own : String} {index : Nat} {y : MethodName} {bytes : ByteArray} {maxL : Nat} {ret : Option FieldType} {hh : List (Nat × Nat × Nat × Nat)}
    (hown : s.vm.findClass own = some m.cls) (hlink : (Cond.methodLink own index y).before args s = true) (hstat : (Cond.static y).before args s = true) (hinit : (Cond.initialized y.cls).before args s = true)
    (hcode : (Cond.codeWith y bytes maxL ret hh).before args s = true) (hy : y.cls ≠ "java/lang/invoke/MethodHandle" ∧ y.cls ≠ "java/lang/invoke/VarHandle")
    {W9 : Nat} {Pre : Pt → Array Value → Prop} {Post : Pt → Array Value → Option Value → Pt → Prop} {PostX : Pt → Array Value → Addr → Pt → Prop} (hK : vx_Back l R p e below s args y 3 W9 Pre Post PostX)
    {g : JFrame} (hg : g.method = m) (hsize : g.locals.size = c.maxLocals) {argsL rest : List Value} (hlen : ∀ sig, parseMethodDescriptor y.desc = some sig → argsL.length = sig.parameters.length)
    (hstack : g.stack = argsL.reverse ++ rest) (hW : 2 * g.monitorRoom + (rest.map fun v => v.category).sum ≤ W9) (hdg : decode c.code g.pc = .ok (.invokestatic index, 3))
    (hpre : ∀ vm₁, s.WarmedH vm₁ → Pre ⟨T.setVm vm₁, locs, cells, slots⟩ argsL.toArray) :
    (∃ (v : Option Value) (vm₁ : Vm) (B : Pt), s.WarmedH vm₁ ∧ Stand p l e R s m args below meth c B.U B.locs B.cells B.slots ∧ Post ⟨T.setVm vm₁, locs, cells, slots⟩ argsL.toArray v B ∧
      ∀ target, Steps p.tables e below (B.U.setTop { g with pc := g.pc + 3, stack := v.toList ++ rest }) target → Steps p.tables e below (T.setTop g) target) ∨
    (∃ (q : Addr) (vm₁ : Vm) (B : Pt), s.WarmedH vm₁ ∧ Stand p l e R s m args below meth c B.U B.locs B.cells B.slots ∧ PostX ⟨T.setVm vm₁, locs, cells, slots⟩ argsL.toArray q B ∧
      Steps p.tables e below (T.setTop g) ((B.U.setTop { g with stack := rest }).pushFrame (.throwing q))) := by
  obtain ⟨mk, methM, cM, hnamed, hmethM, -, -, -, -, -, -, hsigM⟩ := Cond.codeWith_spec hcode
  have hstatic : methM.isStatic = true := Cond.static_spec hnamed hmethM hstat
  obtain ⟨kP, hkP, -⟩ := className_of_methodNamed hnamed
  have hinitP : kP.init = .initialized := Cond.initialized_spec (findClass_of_methodNamed hnamed) hkP hinit
  obtain ⟨vm₁, X₁, hstep₁⟩ := X.invokestatic hexec hown hlink hnamed hmethM hstatic hkP hinitP hy (g := g) hg (argsL := argsL) (rest := rest) (hlen _ hsigM) hstack hdg
  rcases hK m meth c ⟨T.setVm vm₁, locs, cells, slots⟩ { g with stack := rest } (.invokestatic index) mk argsL.toArray X₁ hg hsize hdg hW (X₁.named hnamed) (hpre vm₁ X₁.warmed) with ⟨v, B, X', hpost, hsteps⟩ | ⟨q, B, X', hpost, hsteps⟩
  · exact Or.inl ⟨v, vm₁, B, X₁.warmed, X', hpost, fun target h => hstep₁ _ fun acts => by rw [doInvoke_state]; exact hsteps.trans h⟩
  · exact Or.inr ⟨q, vm₁, B, X₁.warmed, X', hpost, hstep₁ _ fun acts => by rw [doInvoke_state]; exact hsteps⟩
theorem vx_callVW (X : Stand p l e R s m args below meth c T locs cells slots) (hexec : p.tables.exec = Jvm.exec) {own C : String} {index : Nat} {y : MethodName} {bytes : ByteArray} {maxL : Nat} {ret : Option FieldType} {hh : List (Nat × Nat × Nat × Nat)}
    (hown : s.vm.findClass own = some m.cls) (hlink : (Cond.methodLink own index y).before args s = true) (hinst : (Cond.instanceMethod y).before args s = true) (hsel : (Cond.selects C y y).before args s = true)
    (hcode : (Cond.codeWith y bytes maxL ret hh).before args s = true) (hy : y.cls ≠ "java/lang/invoke/MethodHandle" ∧ y.cls ≠ "java/lang/invoke/VarHandle")
    {W9 : Nat} {Pre : Pt → Array Value → Prop} {Post : Pt → Array Value → Option Value → Pt → Prop} (hK : Back l R p e below s args y 3 W9 Pre Post)
    {b : Addr} {cellB : Cell} (hcell : T.heap[b]? = some cellB) (hobj : cellB.vm.isStatics = false) (hcls : s.vm.findClass C = some cellB.cls)
    {g : JFrame} (hg : g.method = m) (hsize : g.locals.size = c.maxLocals) {argsL rest : List Value} (hlen : ∀ sig, parseMethodDescriptor y.desc = some sig → argsL.length = sig.parameters.length)
    (hstack : g.stack = argsL.reverse ++ .ref b :: rest) (hW : 2 * g.monitorRoom + (rest.map fun v => v.category).sum ≤ W9) (hdg : decode c.code g.pc = .ok (.invokevirtual index, 3))
    (hpre : ∀ vm₁, s.WarmedH vm₁ → Pre ⟨T.setVm vm₁, locs, cells, slots⟩ (Value.ref b :: argsL).toArray) :
    ∃ (v : Option Value) (vm₁ : Vm) (B : Pt), s.WarmedH vm₁ ∧ Stand p l e R s m args below meth c B.U B.locs B.cells B.slots ∧ Post ⟨T.setVm vm₁, locs, cells, slots⟩ (Value.ref b :: argsL).toArray v B ∧
      ∀ target, Steps p.tables e below (B.U.setTop { g with pc := g.pc + 3, stack := v.toList ++ rest }) target → Steps p.tables e below (T.setTop g) target := by
  obtain ⟨mk, methM, hnamed, hmethM, hstM, habM⟩ := Cond.instanceMethod_spec hinst
  obtain ⟨m8, methM', cM, hn8, hmethM', -, -, -, -, -, -, hsigM⟩ := Cond.codeWith_spec hcode
  cases Option.some.inj (hn8.symm.trans hnamed)
  cases hmethM.symm.trans hmethM'
  obtain ⟨c2, r2, m2, q1, q2, q3, q4, kP, hkP, hkPi⟩ := Cond.selects_spec hsel
  cases hcls.symm.trans q1
  cases (State.methodFound?_of_named hnamed hy).symm.trans q2
  cases hnamed.symm.trans q3
  have hselP : selectMethod e.platform s.vm cellB.cls mk = .method mk := by rw [Launch.admits_selectMethod X.admits]; exact q4
  obtain ⟨vm₁, X₁, hstep₁⟩ := X.invokevirtual hexec hown hlink hnamed hmethM hstM hkP hkPi hy (a := b) (cell := cellB) hcell
    (fun z h => by rw [h] at hobj; cases hobj) hselP hmethM habM hkP hkPi (g := g) hg (argsL := argsL) (rest := rest) (hlen _ hsigM) hstack hdg
  obtain ⟨v, B, X', hpost, hsteps⟩ := hK m meth c ⟨T.setVm vm₁, locs, cells, slots⟩ { g with stack := rest } (.invokevirtual index) mk (Value.ref b :: argsL).toArray X₁ hg hsize hdg hW (X₁.named hnamed) (hpre vm₁ X₁.warmed)
  exact ⟨v, vm₁, B, X₁.warmed, X', hpost, fun target h => hstep₁ _ fun acts => by rw [doInvoke_state]; exact hsteps.trans h⟩
abbrev vx_CVW (R : Room) (s : State) (args : Array Value) (own C : String) (index : Nat) (y : MethodName) (bytes : ByteArray) (maxL : Nat) (ret : Option FieldType) (hh : List (Nat × Nat × Nat × Nat)) (ws : List Cond) (rm : Room) (mc ms n : Nat) : Prop :=
  (rm.cells = mc ∧ rm.slots = ms ∧ rm.frames + 1 ≤ R.frames ∧ 8 + (maxL + 11) + rm.locals ≤ R.locals ∧ (∀ w ∈ ws, ∀ (a' : Array Value) (U : State), s.WarmedH U.vm → w.before a' U = true) ∧ Cond.codeWith y bytes maxL ret hh ∈ ws) ∧
  (Cond.codeWith y bytes maxL ret hh).before args s = true ∧ (Cond.initialized y.cls).before args s = true ∧ (y.cls ≠ "java/lang/invoke/MethodHandle" ∧ y.cls ≠ "java/lang/invoke/VarHandle") ∧
  (∀ sig, parseMethodDescriptor y.desc = some sig → n = sig.parameters.length) ∧ (Cond.methodLink own index y).before args s = true ∧ (Cond.instanceMethod y).before args s = true ∧ (Cond.selects C y y).before args s = true
theorem vx_cwVW {own C : String} {index maxL mc ms : Nat} {y : MethodName} {bytes : ByteArray} {ret : Option FieldType} {hh : List (Nat × Nat × Nat × Nat)} {Ts ws ws' : List Cond} {rm : Room} (n : Nat) (ht : ∀ w ∈ Ts, w.before args s = true) (hT : GoodIn Ts (wsV own index C y ws)) (hw : ws = Cond.codeWith y bytes maxL ret hh :: ws') (hrc : rm.cells = mc) (hrs : rm.slots = ms)
    (hd : y.cls = C ∧ y.cls ≠ "java/lang/invoke/MethodHandle" ∧ y.cls ≠ "java/lang/invoke/VarHandle" ∧ (parseMethodDescriptor y.desc).map (fun d => d.parameters.length) = some n) (hR : rm.frames + 1 ≤ R.frames ∧ 8 + (maxL + 11) + rm.locals ≤ R.locals) :
    vx_CVW R s args own C index y bytes maxL ret hh ws rm mc ms n := by
  obtain ⟨hC, hd⟩ := hd
  subst hC
  have ok : ∀ w ∈ wsV own index y.cls y ws, w.before args s = true := fun w h => ht w (hT w h).1
  have hG : GoodIn Ts ws := fun w h => hT w (by unfold wsV; exact List.mem_append_right _ h)
  have hc : Cond.codeWith y bytes maxL ret hh ∈ ws := by rw [hw]; exact List.mem_cons_self
  refine ⟨⟨hrc, hrs, hR.1, hR.2, pay_in ht hG, hc⟩, ht _ (hG _ hc).1, ok _ (by simp [wsV]), ⟨hd.1, hd.2.1⟩, fun sig h => ?_, ok _ (by simp [wsV]), ok _ (by simp [wsV]), ok _ (by simp [wsV])⟩
  have h2 := hd.2.2
  rw [h] at h2
  exact (Option.some.inj h2).symm
theorem vx_runVW {y : MethodName} {bytes cc : ByteArray} {maxL nL mc ms n index : Nat} {ret : Option FieldType} {hh : List (Nat × Nat × Nat × Nat)} {ws : List Cond} {rm : Room} {Pc : Array Value → State → Prop} {Qc : Array Value → State → Outcome → State → Prop} {free : Addr → Prop} {Ts : List Cond} {own C : String} {b : Addr} {As rest : List Value} {g : JFrame}
    (S : CallFix p m c cc nL s args Ts own) (hM : Met l y ws rm Pc Qc mc ms free) (cw : vx_CVW R s args own C index y bytes maxL ret hh ws rm mc ms n) (hp : PreV s H C b Pc As)
    (hg : g.method = m) (hn : As.length = n) (hsize : g.locals.size = nL) (hstack : g.stack = As.reverse ++ .ref b :: rest) (hW : 2 * g.monitorRoom + (rest.map fun v => v.category).sum ≤ 8) (hdg : decode cc g.pc = .ok (.invokevirtual index, 3)) (hf : cells + mc ≤ R.cells ∧ slots + ms ≤ R.slots) :
    va_Run p l e R s m args below meth c H locs cells slots mc ms g rest (Qc (Value.ref b :: As).toArray) free := by
  obtain ⟨⟨hrc, hrs, hfr, hlo, hws, hcw⟩, hcode, hini, hy, hlen, hl, hin, hse⟩ := cw
  have hK : Back l R p e below s args y 3 8 (PreOf R mc ms Pc) (PostOf Qc mc ms free) := va_backW (hh := hh) (bytes := bytes) (maxL := maxL) (ret := ret) hM hp.1 hrc hrs hfr hlo hws hcw (fun a' U hW => word_at hW (Or.inl (by first | rfl | simp [Cond.onTables, Cond.keeps, Cond.steady])) hini)
  obtain ⟨hx, hb, hml, ho, -⟩ := S
  obtain ⟨-, ⟨cellB, hcB, hoB, hclB⟩, hPc⟩ := hp
  intro T hT X
  obtain ⟨v, vm₁, ⟨U', l2, c2, s2⟩, hW₁, X', ⟨g', mk, t, L, e1, e2, hq, h1, hL, h2, h3⟩, st⟩ := vx_callVW X hx (C := C) (hh := hh) (bytes := bytes) (maxL := maxL) (ret := ret) ho hl hin hse hcode hy hK (by rw [hT]; exact hcB) hoB hclB hg (hsize.trans hml.symm) (argsL := As) (rest := rest) (fun sig h => hn.trans (hlen sig h)) hstack hW (by rw [hb]; exact hdg)
    (fun vm₁ hW₁ => ⟨hf.1, hf.2, hPc (T.setVm vm₁) hT hW₁⟩)
  dsimp only [Pt.U, Pt.locs, Pt.cells, Pt.slots] at X' e1 e2 h1 h2 h3 st
  subst h1; subst h2; subst h3
  exact ⟨v, (T.setVm vm₁).calling g' mk (Value.ref b :: As).toArray, t, U', L, hT, X', hL, e1, e2, hq, st⟩
section
variable {y : MethodName} {bytes cc : ByteArray} {maxL nL mc ms n index : Nat} {ret : Option FieldType} {ws : List Cond} {rm : Room} {Pc : Array Value → State → Prop} {Qc : Array Value → State → Outcome → State → Prop} {XC : String → State → State → Prop} {free : Addr → Prop} {Ts : List Cond} {own C : String} {b : Addr} {As rest : List Value} {g : JFrame}
theorem vx_runVX {hh : List (Nat × Nat × Nat × Nat)} (S : CallFix p m c cc nL s args Ts own) (hM : vx_Met l y ws rm Pc Qc XC mc ms free) (cw : vx_CVW R s args own C index y bytes maxL ret hh ws rm mc ms n) (hp : PreV s H C b Pc As)
    (hg : g.method = m) (hn : As.length = n) (hsize : g.locals.size = nL) (hstack : g.stack = As.reverse ++ .ref b :: rest) (hW : 2 * g.monitorRoom + (rest.map fun v => v.category).sum ≤ 8) (hdg : decode cc g.pc = .ok (.invokevirtual index, 3)) (hf : cells + mc ≤ R.cells ∧ slots + ms ≤ R.slots) :
    vx_Run p l e R s m args below meth c H locs cells slots mc ms g rest (Qc (Value.ref b :: As).toArray) XC free := by
  obtain ⟨⟨hrc, hrs, hfr, hlo, hws, hcw⟩, hcode, hini, hy, hlen, hl, hin, hse⟩ := cw
  have hK : vx_Back l R p e below s args y 3 8 (PreOf R mc ms Pc) (PostOf Qc mc ms free) (vx_Post XC mc ms free) := vx_backW (hh := hh) (bytes := bytes) (maxL := maxL) (ret := ret) hM hp.1 hrc hrs hfr hlo hws hcw (fun a' U hW => word_at hW (Or.inl (by first | rfl | simp [Cond.onTables, Cond.keeps, Cond.steady])) hini)
  obtain ⟨hx, hb, hml, ho, -⟩ := S
  obtain ⟨-, ⟨cellB, hcB, hoB, hclB⟩, hPc⟩ := hp
  intro T hT X
  rcases vx_callVX X hx (C := C) (hh := hh) (bytes := bytes) (maxL := maxL) (ret := ret) ho hl hin hse hcode hy hK (by rw [hT]; exact hcB) hoB hclB hg (hsize.trans hml.symm) (argsL := As) (rest := rest) (fun sig h => hn.trans (hlen sig h)) hstack hW (by rw [hb]; exact hdg)
    (fun vm₁ hW₁ => ⟨hf.1, hf.2, hPc (T.setVm vm₁) hT hW₁⟩) with ⟨v, vm₁, ⟨U', l2, c2, s2⟩, hW₁, X', ⟨g', mk, t, L, e1, e2, hq, h1, hL, h2, h3⟩, st⟩ | ⟨q, vm₁, ⟨U', l2, c2, s2⟩, hW₁, X', ⟨g', mk, t, L, E, ce, e1, e2, hq, hce, hcv, hcl, h1, hL, h2, h3⟩, st⟩
  · dsimp only [Pt.U, Pt.locs, Pt.cells, Pt.slots] at X' e1 e2 h1 h2 h3 st
    subst h1; subst h2; subst h3
    exact Or.inl ⟨v, (T.setVm vm₁).calling g' mk (Value.ref b :: As).toArray, t, U', L, hT, X', hL, e1, e2, hq, st⟩
  · dsimp only [Pt.U, Pt.locs, Pt.cells, Pt.slots] at X' e1 e2 h1 h2 h3 st hcl
    subst h1; subst h2; subst h3
    exact Or.inr ⟨q, (T.setVm vm₁).calling g' mk (Value.ref b :: As).toArray, t, U', L, E, ce, hT, X', hL, e1, e2, hq, hce, hcv, vx_cls hW₁ hcl, st⟩
theorem vx_runSX {hh : List (Nat × Nat × Nat × Nat)} (S : CallFix p m c cc nL s args Ts own) (hM : vx_Met l y ws rm Pc Qc XC mc ms free) (cw : vx_CSW R s args own index y bytes maxL ret hh ws rm mc ms n) (hp : PreS s H Pc As)
    (hg : g.method = m) (hn : As.length = n) (hsize : g.locals.size = nL) (hstack : g.stack = As.reverse ++ rest) (hW : 2 * g.monitorRoom + (rest.map fun v => v.category).sum ≤ 8) (hdg : decode cc g.pc = .ok (.invokestatic index, 3)) (hf : cells + mc ≤ R.cells ∧ slots + ms ≤ R.slots) :
    vx_Run p l e R s m args below meth c H locs cells slots mc ms g rest (Qc As.toArray) XC free := by
  obtain ⟨⟨hrc, hrs, hfr, hlo, hws, hcw⟩, hcode, hini, hy, hlen, hl, hstt⟩ := cw
  have hK : vx_Back l R p e below s args y 3 8 (PreOf R mc ms Pc) (PostOf Qc mc ms free) (vx_Post XC mc ms free) := vx_backW (hh := hh) (bytes := bytes) (maxL := maxL) (ret := ret) hM hp.1 hrc hrs hfr hlo hws hcw (fun a' U hW => word_at hW (Or.inl (by first | rfl | simp [Cond.onTables, Cond.keeps, Cond.steady])) hini)
  obtain ⟨hx, hb, hml, ho, -⟩ := S
  intro T hT X
  rcases vx_callSX X hx (hh := hh) (bytes := bytes) (maxL := maxL) (ret := ret) ho hl hstt hini hcode hy hK hg (hsize.trans hml.symm) (argsL := As) (rest := rest) (fun sig h => hn.trans (hlen sig h)) hstack hW (by rw [hb]; exact hdg)
    (fun vm₁ hW₁ => ⟨hf.1, hf.2, hp.2 (T.setVm vm₁) hT hW₁⟩) with ⟨v, vm₁, ⟨U', l2, c2, s2⟩, hW₁, X', ⟨g', mk, t, L, e1, e2, hq, h1, hL, h2, h3⟩, st⟩ | ⟨q, vm₁, ⟨U', l2, c2, s2⟩, hW₁, X', ⟨g', mk, t, L, E, ce, e1, e2, hq, hce, hcv, hcl, h1, hL, h2, h3⟩, st⟩
  · dsimp only [Pt.U, Pt.locs, Pt.cells, Pt.slots] at X' e1 e2 h1 h2 h3 st
    subst h1; subst h2; subst h3
    exact Or.inl ⟨v, (T.setVm vm₁).calling g' mk As.toArray, t, U', L, hT, X', hL, e1, e2, hq, st⟩
  · dsimp only [Pt.U, Pt.locs, Pt.cells, Pt.slots] at X' e1 e2 h1 h2 h3 st hcl
    subst h1; subst h2; subst h3
    exact Or.inr ⟨q, (T.setVm vm₁).calling g' mk As.toArray, t, U', L, E, ce, hT, X', hL, e1, e2, hq, hce, hcv, vx_cls hW₁ hcl, st⟩
end
end VXH
theorem vx_ofWH {l : Launch} {y : MethodName} {ws ws' : List Cond} {rm : Room} {Pc : Array Value → State → Prop} {Qc : Array Value → State → Outcome → State → Prop} {XC : String → State → State → Prop} {mc ms : Nat} {free : Addr → Prop} {cc : ByteArray} {maxL : Nat} {ret : Option FieldType} {hh : List (Nat × Nat × Nat × Nat)}
    (hy : plainName y.cls = true) (hw : ws = Cond.codeWith y cc maxL ret hh :: ws')
    (body : ∀ p e s m args below meth c s₁, BodyLoose p l y (headSpec ws rm) cc maxL ret e s m args below meth c s₁ → c.maxLocals = maxL → Pc args s →
      W p l e (headSpec ws rm).room s m args below meth c s.heap [] 0 0 (vx_MQ below Qc XC args s mc ms free) (entryFrame m args maxL)) : vx_Met l y ws rm Pc Qc XC mc ms free := by
  refine MetFree.of_bodyS (code := cc) (maxLocals := maxL) (ret := ret) hy ?_ ?_
  · intro args s m h hn
    obtain ⟨m9, meth, c, hn9, h1, h2, h3, h4, -, h5, h6, -⟩ := Cond.codeWith_spec (atoms_spec (ws := ws) h _ (by rw [hw]; exact List.mem_cons_self))
    cases hn.symm.trans hn9
    exact ⟨meth, c, h1, h2, h3, h4, h5, h6⟩
  · intro p e s m args below meth c s₁ B hml hP _
    have hh0 : s₁.heap = s.heap := by rw [B.state]; rfl
    obtain ⟨t, a1, o, b1, b2, b3⟩ := body p e s m args below meth c s₁ B hml hP s₁ hh0 (Stand.of_body B)
    exact ⟨t, o, a1, b1, b2, b3⟩
/-! ===== END ===== -/

/-! ===== BEGIN a constructor that throws (launches without stack traces) ===== -/
section VXIA
variable {p : Program} {l : Launch} {e : Env} {R : Room} {s : State} {m : MethodId} {args : Array Value} {below : List Frame} {meth : Method} {c : Code} {T : State} {locs : List Loc} {cells slots : Nat}
theorem vx_callI (X : Stand p l e R s m args below meth c T locs cells slots) (hexec : p.tables.exec = Jvm.exec) {own : String} {index : Nat} {y : MethodName} {bytes : ByteArray} {maxL : Nat}
    (hown : s.vm.findClass own = some m.cls) (hy1 : y.name = "<init>") (hlink : (Cond.methodLink own index y).before args s = true) (hinst : (Cond.instanceMethod y).before args s = true)
    (hcode : (Cond.code y bytes maxL none).before args s = true) (hy : y.cls ≠ "java/lang/invoke/MethodHandle" ∧ y.cls ≠ "java/lang/invoke/VarHandle")
    {W9 : Nat} {Pre : Pt → Array Value → Prop} {Post : Pt → Array Value → Option Value → Pt → Prop} {PostX : Pt → Array Value → Addr → Pt → Prop} (hK : vx_Back l R p e below s args y 3 W9 Pre Post PostX)
    {g : JFrame} (hg : g.method = m) (hsize : g.locals.size = c.maxLocals) {a : Addr} {argsL rest : List Value} (hlen : ∀ sig, parseMethodDescriptor y.desc = some sig → argsL.length = sig.parameters.length)
    (hstack : g.stack = argsL.reverse ++ .ref a :: rest) (hW : 2 * g.monitorRoom + (rest.map fun v => v.category).sum ≤ W9) (hdg : decode c.code g.pc = .ok (.invokespecial index, 3))
    (hpre : ∀ vm₁, s.WarmedH vm₁ → Pre ⟨T.setVm vm₁, locs, cells, slots⟩ (Value.ref a :: argsL).toArray) :
    (∃ (v : Option Value) (vm₁ : Vm) (B : Pt), s.WarmedH vm₁ ∧ Stand p l e R s m args below meth c B.U B.locs B.cells B.slots ∧ Post ⟨T.setVm vm₁, locs, cells, slots⟩ (Value.ref a :: argsL).toArray v B ∧
      ∀ target, Steps p.tables e below (B.U.setTop { g with pc := g.pc + 3, stack := v.toList ++ rest }) target → Steps p.tables e below (T.setTop g) target) ∨
    (∃ (q : Addr) (vm₁ : Vm) (B : Pt), s.WarmedH vm₁ ∧ Stand p l e R s m args below meth c B.U B.locs B.cells B.slots ∧ PostX ⟨T.setVm vm₁, locs, cells, slots⟩ (Value.ref a :: argsL).toArray q B ∧
      Steps p.tables e below (T.setTop g) ((B.U.setTop { g with stack := rest }).pushFrame (.throwing q))) := by
  subst hg
  have hpl : e.platform.magicAccessors = ({} : Platform).magicAccessors := by rw [X.admits.platform]
  obtain ⟨mk, methM, cM, kP, vm₁, hnamed, hmethM, hcodeM, -, hlocalsM, -, hkP, -, hW₁, hstep₁⟩ := Steps.initColdArgs (e := e) X.here hexec X.warmed hpl hown hy1 hy hlink hinst hcode (f := g) rfl hlen hstack hdg
  have X₁ := X.noted hW₁
  rcases hK g.method meth c ⟨T.setVm vm₁, locs, cells, slots⟩ { g with stack := rest } (.invokespecial index) mk (Value.ref a :: argsL).toArray X₁ rfl hsize hdg hW (X₁.named hnamed) (hpre vm₁ X₁.warmed) with ⟨v, B, X', hpost, hsteps⟩ | ⟨q, B, X', hpost, hsteps⟩
  · exact Or.inl ⟨v, vm₁, B, X₁.warmed, X', hpost, fun target h => hstep₁ _ fun acts => by rw [doInvoke_state]; exact hsteps.trans h⟩
  · exact Or.inr ⟨q, vm₁, B, X₁.warmed, X', hpost, hstep₁ _ fun acts => by rw [doInvoke_state]; exact hsteps⟩
end VXIA
section VXIB
variable {p : Program} {l : Launch} {e : Env} {R : Room} {s : State} {m : MethodId} {args : Array Value} {below : List Frame} {meth : Method} {c : Code} {H : Heap} {locs : List Loc} {cells slots : Nat}
variable {y : MethodName} {bytes cc : ByteArray} {maxL nL mc ms n index : Nat} {ret : Option FieldType} {ws : List Cond} {rm : Room} {Pc : Array Value → State → Prop} {Qc : Array Value → State → Outcome → State → Prop} {XC : String → State → State → Prop} {free : Addr → Prop} {Ts : List Cond} {own C : String} {b : Addr} {As rest : List Value} {g : JFrame}
theorem vx_runI (S : CallFix p m c cc nL s args Ts own) (hM : vx_Met l y ws rm Pc Qc XC mc ms free) (cw : CallB R s args own index y bytes maxL none ws rm mc ms n ∧ y.name = "<init>" ∧ (Cond.instanceMethod y).before args s = true) (hp : PreS s H Pc (.ref b :: As))
    (hg : g.method = m) (hn : As.length = n) (hsize : g.locals.size = nL) (hstack : g.stack = As.reverse ++ .ref b :: rest) (hW : 2 * g.monitorRoom + (rest.map fun v => v.category).sum ≤ 8) (hdg : decode cc g.pc = .ok (.invokespecial index, 3)) (hf : cells + mc ≤ R.cells ∧ slots + ms ≤ R.slots) :
    vx_Run p l e R s m args below meth c H locs cells slots mc ms g rest (Qc (Value.ref b :: As).toArray) XC free := by
  have hK : vx_Back l R p e below s args y 3 8 (PreOf R mc ms Pc) (PostOf Qc mc ms free) (vx_Post XC mc ms free) := vx_callBack cw.1 hM hp.1
  obtain ⟨⟨-, -, -, -, -, -, hcode, -, hy, hlen, hl⟩, hy1, hin⟩ := cw
  obtain ⟨hx, hb, hml, ho, -⟩ := S
  have hPc := hp.2
  intro T hT X
  rcases vx_callI X hx (bytes := bytes) (maxL := maxL) ho hy1 hl hin hcode hy hK hg (hsize.trans hml.symm) (a := b) (argsL := As) (rest := rest) (fun sig h => hn.trans (hlen sig h)) hstack hW (by rw [hb]; exact hdg)
    (fun vm₁ hW₁ => ⟨hf.1, hf.2, hPc (T.setVm vm₁) hT hW₁⟩) with ⟨v, vm₁, ⟨U', l2, c2, s2⟩, hW₁, X', ⟨g', mk, t, L, e1, e2, hq, h1, hL, h2, h3⟩, st⟩ | ⟨q, vm₁, ⟨U', l2, c2, s2⟩, hW₁, X', ⟨g', mk, t, L, E, ce, e1, e2, hq, hce, hcv, hcl, h1, hL, h2, h3⟩, st⟩
  · dsimp only [Pt.U, Pt.locs, Pt.cells, Pt.slots] at X' e1 e2 h1 h2 h3 st
    subst h1; subst h2; subst h3
    exact Or.inl ⟨v, (T.setVm vm₁).calling g' mk (Value.ref b :: As).toArray, t, U', L, hT, X', hL, e1, e2, hq, st⟩
  · dsimp only [Pt.U, Pt.locs, Pt.cells, Pt.slots] at X' e1 e2 h1 h2 h3 st hcl
    subst h1; subst h2; subst h3
    exact Or.inr ⟨q, (T.setVm vm₁).calling g' mk (Value.ref b :: As).toArray, t, U', L, E, ce, hT, X', hL, e1, e2, hq, hce, hcv, vx_cls hW₁ hcl, st⟩
end VXIB
/-! ===== END ===== -/
/-! ===== BEGIN a private constructor of a nest mate that throws ===== -/
section VXIC
variable {p : Program} {l : Launch} {e : Env} {R : Room} {s : State} {m : MethodId} {args : Array Value} {below : List Frame} {meth : Method} {c : Code} {T : State} {locs : List Loc} {cells slots : Nat}
theorem vx_callIN (X : Stand p l e R s m args below meth c T locs cells slots) (hexec : p.tables.exec = Jvm.exec) {own : String} {index : Nat} {host : String} {y : MethodName} {bytes : ByteArray} {maxL : Nat}
    (hown : s.vm.findClass own = some m.cls) (hy1 : y.name = "<init>") (hlink : (Cond.methodLinkNest own index y host).before args s = true) (hinst : (Cond.instanceMethod y).before args s = true)
    (hcode : (Cond.code y bytes maxL none).before args s = true) (hy : y.cls ≠ "java/lang/invoke/MethodHandle" ∧ y.cls ≠ "java/lang/invoke/VarHandle")
    {W9 : Nat} {Pre : Pt → Array Value → Prop} {Post : Pt → Array Value → Option Value → Pt → Prop} {PostX : Pt → Array Value → Addr → Pt → Prop} (hK : vx_Back l R p e below s args y 3 W9 Pre Post PostX)
    {g : JFrame} (hg : g.method = m) (hsize : g.locals.size = c.maxLocals) {a : Addr} {argsL rest : List Value} (hlen : ∀ sig, parseMethodDescriptor y.desc = some sig → argsL.length = sig.parameters.length)
    (hstack : g.stack = argsL.reverse ++ .ref a :: rest) (hW : 2 * g.monitorRoom + (rest.map fun v => v.category).sum ≤ W9) (hdg : decode c.code g.pc = .ok (.invokespecial index, 3))
    (hpre : ∀ vm₁, s.WarmedH vm₁ → Pre ⟨T.setVm vm₁, locs, cells, slots⟩ (Value.ref a :: argsL).toArray) :
    (∃ (v : Option Value) (vm₁ : Vm) (B : Pt), s.WarmedH vm₁ ∧ Stand p l e R s m args below meth c B.U B.locs B.cells B.slots ∧ Post ⟨T.setVm vm₁, locs, cells, slots⟩ (Value.ref a :: argsL).toArray v B ∧
      ∀ target, Steps p.tables e below (B.U.setTop { g with pc := g.pc + 3, stack := v.toList ++ rest }) target → Steps p.tables e below (T.setTop g) target) ∨
    (∃ (q : Addr) (vm₁ : Vm) (B : Pt), s.WarmedH vm₁ ∧ Stand p l e R s m args below meth c B.U B.locs B.cells B.slots ∧ PostX ⟨T.setVm vm₁, locs, cells, slots⟩ (Value.ref a :: argsL).toArray q B ∧
      Steps p.tables e below (T.setTop g) ((B.U.setTop { g with stack := rest }).pushFrame (.throwing q))) := by
  subst hg
  have hpl : e.platform.magicAccessors = ({} : Platform).magicAccessors := by rw [X.admits.platform]
  obtain ⟨mk, methM, cM, kP, vm₁, hnamed, hmethM, hcodeM, -, hlocalsM, -, hkP, -, hW₁, hstep₁⟩ := Steps.initColdArgsNest (e := e) X.here hexec X.warmed hpl hown hy1 hy hlink hinst hcode (f := g) rfl hlen hstack hdg
  have X₁ := X.noted hW₁
  rcases hK g.method meth c ⟨T.setVm vm₁, locs, cells, slots⟩ { g with stack := rest } (.invokespecial index) mk (Value.ref a :: argsL).toArray X₁ rfl hsize hdg hW (X₁.named hnamed) (hpre vm₁ X₁.warmed) with ⟨v, B, X', hpost, hsteps⟩ | ⟨q, B, X', hpost, hsteps⟩
  · exact Or.inl ⟨v, vm₁, B, X₁.warmed, X', hpost, fun target h => hstep₁ _ fun acts => by rw [doInvoke_state]; exact hsteps.trans h⟩
  · exact Or.inr ⟨q, vm₁, B, X₁.warmed, X', hpost, hstep₁ _ fun acts => by rw [doInvoke_state]; exact hsteps⟩
end VXIC
section VXID
variable {p : Program} {l : Launch} {e : Env} {R : Room} {s : State} {m : MethodId} {args : Array Value} {below : List Frame} {meth : Method} {c : Code} {H : Heap} {locs : List Loc} {cells slots : Nat}
theorem vx_runIN {y : MethodName} {bytes cc : ByteArray} {maxL nL mc ms n index : Nat} {ws : List Cond} {rm : Room} {Pc : Array Value → State → Prop} {Qc : Array Value → State → Outcome → State → Prop} {XC : String → State → State → Prop} {free : Addr → Prop} {Ts : List Cond} {own host : String} {b : Addr} {As rest : List Value} {g : JFrame}
    (S : CallFix p m c cc nL s args Ts own) (hM : vx_Met l y ws rm Pc Qc XC mc ms free) (cw : va_CN R s args own index y host bytes maxL none ws rm mc ms n ∧ y.name = "<init>" ∧ (Cond.instanceMethod y).before args s = true) (hp : PreS s H Pc (.ref b :: As))
    (hg : g.method = m) (hn : As.length = n) (hsize : g.locals.size = nL) (hstack : g.stack = As.reverse ++ .ref b :: rest) (hW : 2 * g.monitorRoom + (rest.map fun v => v.category).sum ≤ 8) (hdg : decode cc g.pc = .ok (.invokespecial index, 3)) (hf : cells + mc ≤ R.cells ∧ slots + ms ≤ R.slots) :
    vx_Run p l e R s m args below meth c H locs cells slots mc ms g rest (Qc (Value.ref b :: As).toArray) XC free := by
  obtain ⟨⟨⟨hrc, hrs, hfr, hlo, hws, hcw⟩, hcode, hini, hy, hlen, hl⟩, hx1, hx2⟩ := cw
  have hK : vx_Back l R p e below s args y 3 8 (PreOf R mc ms Pc) (PostOf Qc mc ms free) (vx_Post XC mc ms free) := vx_back (bytes := bytes) (maxL := maxL) (ret := none) hM hp.1 hrc hrs hfr hlo hws hcw (fun a' U hW => word_at hW (Or.inl (by first | rfl | simp [Cond.onTables, Cond.keeps, Cond.steady])) hini)
  obtain ⟨hx, hb, hml, ho, -⟩ := S
  have hPc := hp.2
  intro T hT X
  rcases vx_callIN X hx (bytes := bytes) (maxL := maxL) ho hx1 hl hx2 hcode hy hK hg (hsize.trans hml.symm) (a := b) (argsL := As) (rest := rest) (fun sig h => hn.trans (hlen sig h)) hstack hW (by rw [hb]; exact hdg)
    (fun vm₁ hW₁ => ⟨hf.1, hf.2, hPc (T.setVm vm₁) hT hW₁⟩) with ⟨v, vm₁, ⟨U', l2, c2, s2⟩, hW₁, X', ⟨g', mk, t, L, e1, e2, hq, h1, hL, h2, h3⟩, st⟩ | ⟨q, vm₁, ⟨U', l2, c2, s2⟩, hW₁, X', ⟨g', mk, t, L, E, ce, e1, e2, hq, hce, hcv, hcl, h1, hL, h2, h3⟩, st⟩
  · dsimp only [Pt.U, Pt.locs, Pt.cells, Pt.slots] at X' e1 e2 h1 h2 h3 st
    subst h1; subst h2; subst h3
    exact Or.inl ⟨v, (T.setVm vm₁).calling g' mk (Value.ref b :: As).toArray, t, U', L, hT, X', hL, e1, e2, hq, st⟩
  · dsimp only [Pt.U, Pt.locs, Pt.cells, Pt.slots] at X' e1 e2 h1 h2 h3 st hcl
    subst h1; subst h2; subst h3
    exact Or.inr ⟨q, (T.setVm vm₁).calling g' mk (Value.ref b :: As).toArray, t, U', L, E, ce, hT, X', hL, e1, e2, hq, hce, hcv, vx_cls hW₁ hcl, st⟩
end VXID
/-! ===== END ===== -/
/-! ===== BEGIN a private method of a nest mate that may throw (follows va_callVN, va_callSN, va_runVN, va_runSN) ===== -/
section
variable {p : Program} {l : Launch} {e : Env} {R : Room} {s : State} {m : MethodId} {args : Array Value} {below : List Frame} {meth : Method} {c : Code} {H : Heap} {locs : List Loc} {cells slots : Nat}
variable {T : State}
theorem vx_callVN (X : Stand p l e R s m args below meth c T locs cells slots) (hexec : p.tables.exec = Jvm.exec) {own C : String} {index : Nat} {host : String} {y : MethodName} {bytes : ByteArray} {maxL : Nat} {ret : Option FieldType}
    (hown : s.vm.findClass own = some m.cls) (hlink : (Cond.methodLinkNest own index y host).before args s = true) (hinst : (Cond.instanceMethod y).before args s = true) (hsel : (Cond.selects C y y).before args s = true)
    (hcode : (Cond.code y bytes maxL ret).before args s = true) (hy : y.cls ≠ "java/lang/invoke/MethodHandle" ∧ y.cls ≠ "java/lang/invoke/VarHandle")
    {W : Nat} {Pre : Pt → Array Value → Prop} {Post : Pt → Array Value → Option Value → Pt → Prop} {PostX : Pt → Array Value → Addr → Pt → Prop} (hK : vx_Back l R p e below s args y 3 W Pre Post PostX)
    {b : Addr} {cellB : Cell} (hcell : T.heap[b]? = some cellB) (hobj : cellB.vm.isStatics = false) (hcls : s.vm.findClass C = some cellB.cls)
    {g : JFrame} (hg : g.method = m) (hsize : g.locals.size = c.maxLocals) {argsL rest : List Value} (hlen : ∀ sig, parseMethodDescriptor y.desc = some sig → argsL.length = sig.parameters.length)
    (hstack : g.stack = argsL.reverse ++ .ref b :: rest) (hW : 2 * g.monitorRoom + (rest.map fun v => v.category).sum ≤ W) (hdg : decode c.code g.pc = .ok (.invokevirtual index, 3))
    (hpre : ∀ vm₁, s.WarmedH vm₁ → Pre ⟨T.setVm vm₁, locs, cells, slots⟩ (Value.ref b :: argsL).toArray) :
    (∃ (v : Option Value) (vm₁ : Vm) (B : Pt), s.WarmedH vm₁ ∧ Stand p l e R s m args below meth c B.U B.locs B.cells B.slots ∧ Post ⟨T.setVm vm₁, locs, cells, slots⟩ (Value.ref b :: argsL).toArray v B ∧
      ∀ target, Steps p.tables e below (B.U.setTop { g with pc := g.pc + 3, stack := v.toList ++ rest }) target → Steps p.tables e below (T.setTop g) target) ∨
    (∃ (q : Addr) (vm₁ : Vm) (B : Pt), s.WarmedH vm₁ ∧ Stand p l e R s m args below meth c B.U B.locs B.cells B.slots ∧ PostX ⟨T.setVm vm₁, locs, cells, slots⟩ (Value.ref b :: argsL).toArray q B ∧
      Steps p.tables e below (T.setTop g) ((B.U.setTop { g with stack := rest }).pushFrame (.throwing q))) := by
  obtain ⟨mk, methM, hnamed, hmethM, hstM, habM⟩ := Cond.instanceMethod_spec hinst
  obtain ⟨methM', cM, hmethM', -, -, -, -, -, -, hsigM⟩ := Cond.code_spec hnamed hcode
  cases hmethM.symm.trans hmethM'
  obtain ⟨c2, r2, m2, q1, q2, q3, q4, kP, hkP, hkPi⟩ := Cond.selects_spec hsel
  cases hcls.symm.trans q1
  cases (State.methodFound?_of_named hnamed hy).symm.trans q2
  cases hnamed.symm.trans q3
  have hselP : selectMethod e.platform s.vm cellB.cls mk = .method mk := by rw [Launch.admits_selectMethod X.admits]; exact q4
  obtain ⟨vm₁, X₁, hstep₁⟩ := X.invokevirtualNest hexec hown hlink hnamed hmethM hstM hkP hkPi hy (a := b) (cell := cellB) hcell
    (fun z h => by rw [h] at hobj; cases hobj) hselP hmethM habM hkP hkPi (g := g) hg (argsL := argsL) (rest := rest) (hlen _ hsigM) hstack hdg
  rcases hK m meth c ⟨T.setVm vm₁, locs, cells, slots⟩ { g with stack := rest } (.invokevirtual index) mk (Value.ref b :: argsL).toArray X₁ hg hsize hdg hW (X₁.named hnamed) (hpre vm₁ X₁.warmed) with ⟨v, B, X', hpost, hsteps⟩ | ⟨q, B, X', hpost, hsteps⟩
  · exact Or.inl ⟨v, vm₁, B, X₁.warmed, X', hpost, fun target h => hstep₁ _ fun acts => by rw [doInvoke_state]; exact hsteps.trans h⟩
  · exact Or.inr ⟨q, vm₁, B, X₁.warmed, X', hpost, hstep₁ _ fun acts => by rw [doInvoke_state]; exact hsteps⟩
theorem vx_callSN (X : Stand p l e R s m args below meth c T locs cells slots) (hexec : p.tables.exec = Jvm.exec) {own : String} {index : Nat} {host : String} {y : MethodName} {bytes : ByteArray} {maxL : Nat} {ret : Option FieldType}
    (hown : s.vm.findClass own = some m.cls) (hlink : (Cond.methodLinkNest own index y host).before args s = true) (hstat : (Cond.static y).before args s = true) (hinit : (Cond.initialized y.cls).before args s = true)
    (hcode : (Cond.code y bytes maxL ret).before args s = true) (hy : y.cls ≠ "java/lang/invoke/MethodHandle" ∧ y.cls ≠ "java/lang/invoke/VarHandle")
    {W : Nat} {Pre : Pt → Array Value → Prop} {Post : Pt → Array Value → Option Value → Pt → Prop} {PostX : Pt → Array Value → Addr → Pt → Prop} (hK : vx_Back l R p e below s args y 3 W Pre Post PostX)
    {g : JFrame} (hg : g.method = m) (hsize : g.locals.size = c.maxLocals) {argsL rest : List Value} (hlen : ∀ sig, parseMethodDescriptor y.desc = some sig → argsL.length = sig.parameters.length)
    (hstack : g.stack = argsL.reverse ++ rest) (hW : 2 * g.monitorRoom + (rest.map fun v => v.category).sum ≤ W) (hdg : decode c.code g.pc = .ok (.invokestatic index, 3))
    (hpre : ∀ vm₁, s.WarmedH vm₁ → Pre ⟨T.setVm vm₁, locs, cells, slots⟩ argsL.toArray) :
    (∃ (v : Option Value) (vm₁ : Vm) (B : Pt), s.WarmedH vm₁ ∧ Stand p l e R s m args below meth c B.U B.locs B.cells B.slots ∧ Post ⟨T.setVm vm₁, locs, cells, slots⟩ argsL.toArray v B ∧
      ∀ target, Steps p.tables e below (B.U.setTop { g with pc := g.pc + 3, stack := v.toList ++ rest }) target → Steps p.tables e below (T.setTop g) target) ∨
    (∃ (q : Addr) (vm₁ : Vm) (B : Pt), s.WarmedH vm₁ ∧ Stand p l e R s m args below meth c B.U B.locs B.cells B.slots ∧ PostX ⟨T.setVm vm₁, locs, cells, slots⟩ argsL.toArray q B ∧
      Steps p.tables e below (T.setTop g) ((B.U.setTop { g with stack := rest }).pushFrame (.throwing q))) := by
  obtain ⟨mk, hnamed⟩ := Cond.code_named hcode
  obtain ⟨methM, cM, hmethM, -, -, -, -, -, -, hsigM⟩ := Cond.code_spec hnamed hcode
  have hstatic : methM.isStatic = true := Cond.static_spec hnamed hmethM hstat
  obtain ⟨kP, hkP, -⟩ := className_of_methodNamed hnamed
  have hinitP : kP.init = .initialized := Cond.initialized_spec (findClass_of_methodNamed hnamed) hkP hinit
  obtain ⟨vm₁, X₁, hstep₁⟩ := X.invokestaticNest hexec hown hlink hnamed hmethM hstatic hkP hinitP hy (g := g) hg (argsL := argsL) (rest := rest) (hlen _ hsigM) hstack hdg
  rcases hK m meth c ⟨T.setVm vm₁, locs, cells, slots⟩ { g with stack := rest } (.invokestatic index) mk argsL.toArray X₁ hg hsize hdg hW (X₁.named hnamed) (hpre vm₁ X₁.warmed) with ⟨v, B, X', hpost, hsteps⟩ | ⟨q, B, X', hpost, hsteps⟩
  · exact Or.inl ⟨v, vm₁, B, X₁.warmed, X', hpost, fun target h => hstep₁ _ fun acts => by rw [doInvoke_state]; exact hsteps.trans h⟩
  · exact Or.inr ⟨q, vm₁, B, X₁.warmed, X', hpost, hstep₁ _ fun acts => by rw [doInvoke_state]; exact hsteps⟩
theorem vx_runVN {y : MethodName} {bytes cc : ByteArray} {maxL nL mc ms n index : Nat} {ret : Option FieldType} {ws : List Cond} {rm : Room} {Pc : Array Value → State → Prop} {Qc : Array Value → State → Outcome → State → Prop} {XC : String → State → State → Prop} {free : Addr → Prop} {Ts : List Cond} {own C host : String} {b : Addr} {As rest : List Value} {g : JFrame}
    (S : CallFix p m c cc nL s args Ts own) (hM : vx_Met l y ws rm Pc Qc XC mc ms free) (cw : va_CN R s args own index y host bytes maxL ret ws rm mc ms n ∧ (Cond.instanceMethod y).before args s = true ∧ (Cond.selects C y y).before args s = true) (hp : PreV s H C b Pc As)
    (hg : g.method = m) (hn : As.length = n) (hsize : g.locals.size = nL) (hstack : g.stack = As.reverse ++ .ref b :: rest) (hW : 2 * g.monitorRoom + (rest.map fun v => v.category).sum ≤ 8) (hdg : decode cc g.pc = .ok (.invokevirtual index, 3)) (hf : cells + mc ≤ R.cells ∧ slots + ms ≤ R.slots) :
    vx_Run p l e R s m args below meth c H locs cells slots mc ms g rest (Qc (Value.ref b :: As).toArray) XC free := by
  obtain ⟨⟨⟨hrc, hrs, hfr, hlo, hws, hcw⟩, hcode, hini, hy, hlen, hl⟩, hx1, hx2⟩ := cw
  have hK : vx_Back l R p e below s args y 3 8 (PreOf R mc ms Pc) (PostOf Qc mc ms free) (vx_Post XC mc ms free) := vx_back (bytes := bytes) (maxL := maxL) (ret := ret) hM hp.1 hrc hrs hfr hlo hws hcw (fun a' U hW => word_at hW (Or.inl (by first | rfl | simp [Cond.onTables, Cond.keeps, Cond.steady])) hini)
  obtain ⟨hx, hb, hml, ho, -⟩ := S
  obtain ⟨-, ⟨cellB, hcB, hoB, hclB⟩, hPc⟩ := hp
  intro T hT X
  rcases vx_callVN X hx (C := C) (bytes := bytes) (maxL := maxL) (ret := ret) ho hl hx1 hx2 hcode hy hK (by rw [hT]; exact hcB) hoB hclB hg (hsize.trans hml.symm) (argsL := As) (rest := rest) (fun sig h => hn.trans (hlen sig h)) hstack hW (by rw [hb]; exact hdg)
    (fun vm₁ hW₁ => ⟨hf.1, hf.2, hPc (T.setVm vm₁) hT hW₁⟩) with ⟨v, vm₁, ⟨U', l2, c2, s2⟩, hW₁, X', ⟨g', mk, t, L, e1, e2, hq, h1, hL, h2, h3⟩, st⟩ | ⟨q, vm₁, ⟨U', l2, c2, s2⟩, hW₁, X', ⟨g', mk, t, L, E, ce, e1, e2, hq, hce, hcv, hcl, h1, hL, h2, h3⟩, st⟩
  · dsimp only [Pt.U, Pt.locs, Pt.cells, Pt.slots] at X' e1 e2 h1 h2 h3 st
    subst h1; subst h2; subst h3
    exact Or.inl ⟨v, (T.setVm vm₁).calling g' mk (Value.ref b :: As).toArray, t, U', L, hT, X', hL, e1, e2, hq, st⟩
  · dsimp only [Pt.U, Pt.locs, Pt.cells, Pt.slots] at X' e1 e2 h1 h2 h3 st hcl
    subst h1; subst h2; subst h3
    exact Or.inr ⟨q, (T.setVm vm₁).calling g' mk (Value.ref b :: As).toArray, t, U', L, E, ce, hT, X', hL, e1, e2, hq, hce, hcv, vx_cls hW₁ hcl, st⟩
theorem vx_runSN {y : MethodName} {bytes cc : ByteArray} {maxL nL mc ms n index : Nat} {ret : Option FieldType} {ws : List Cond} {rm : Room} {Pc : Array Value → State → Prop} {Qc : Array Value → State → Outcome → State → Prop} {XC : String → State → State → Prop} {free : Addr → Prop} {Ts : List Cond} {own host : String} {As rest : List Value} {g : JFrame}
    (S : CallFix p m c cc nL s args Ts own) (hM : vx_Met l y ws rm Pc Qc XC mc ms free) (cw : va_CN R s args own index y host bytes maxL ret ws rm mc ms n ∧ (Cond.static y).before args s = true ∧ True) (hp : PreS s H Pc As)
    (hg : g.method = m) (hn : As.length = n) (hsize : g.locals.size = nL) (hstack : g.stack = As.reverse ++ rest) (hW : 2 * g.monitorRoom + (rest.map fun v => v.category).sum ≤ 8) (hdg : decode cc g.pc = .ok (.invokestatic index, 3)) (hf : cells + mc ≤ R.cells ∧ slots + ms ≤ R.slots) :
    vx_Run p l e R s m args below meth c H locs cells slots mc ms g rest (Qc As.toArray) XC free := by
  obtain ⟨⟨⟨hrc, hrs, hfr, hlo, hws, hcw⟩, hcode, hini, hy, hlen, hl⟩, hx1, hx2⟩ := cw
  have hK : vx_Back l R p e below s args y 3 8 (PreOf R mc ms Pc) (PostOf Qc mc ms free) (vx_Post XC mc ms free) := vx_back (bytes := bytes) (maxL := maxL) (ret := ret) hM hp.1 hrc hrs hfr hlo hws hcw (fun a' U hW => word_at hW (Or.inl (by first | rfl | simp [Cond.onTables, Cond.keeps, Cond.steady])) hini)
  obtain ⟨hx, hb, hml, ho, -⟩ := S
  have hPc := hp.2
  intro T hT X
  rcases vx_callSN X hx (bytes := bytes) (maxL := maxL) (ret := ret) ho hl hx1 hini hcode hy hK hg (hsize.trans hml.symm) (argsL := As) (rest := rest) (fun sig h => hn.trans (hlen sig h)) hstack hW (by rw [hb]; exact hdg)
    (fun vm₁ hW₁ => ⟨hf.1, hf.2, hPc (T.setVm vm₁) hT hW₁⟩) with ⟨v, vm₁, ⟨U', l2, c2, s2⟩, hW₁, X', ⟨g', mk, t, L, e1, e2, hq, h1, hL, h2, h3⟩, st⟩ | ⟨q, vm₁, ⟨U', l2, c2, s2⟩, hW₁, X', ⟨g', mk, t, L, E, ce, e1, e2, hq, hce, hcv, hcl, h1, hL, h2, h3⟩, st⟩
  · dsimp only [Pt.U, Pt.locs, Pt.cells, Pt.slots] at X' e1 e2 h1 h2 h3 st
    subst h1; subst h2; subst h3
    exact Or.inl ⟨v, (T.setVm vm₁).calling g' mk As.toArray, t, U', L, hT, X', hL, e1, e2, hq, st⟩
  · dsimp only [Pt.U, Pt.locs, Pt.cells, Pt.slots] at X' e1 e2 h1 h2 h3 st hcl
    subst h1; subst h2; subst h3
    exact Or.inr ⟨q, (T.setVm vm₁).calling g' mk As.toArray, t, U', L, E, ce, hT, X', hL, e1, e2, hq, hce, hcv, vx_cls hW₁ hcl, st⟩
end
/-! ===== END ===== -/
end
section
def RX0 : String := "PluralMint$Dies"
def TX0 : u_T := fun k => match k with
  | 0 => ("PluralMint$Dies", "endings", "LPluralMint$Words;", true)
  | 1 => ("PluralMint$Dies", "additions", "LPluralMint$Words;", true)
  | _ => ("PluralMint$Dies", "conditions", "[I", true)
def tyX0 : Nat → FieldType := fun k => match k with
  | 0 => .object "PluralMint$Words"
  | 1 => .object "PluralMint$Words"
  | _ => .array .int
abbrev wsX00 : List Cond := u_ws RX0 TX0 3
theorem nmX0 : ∀ a, a < 3 → ∀ b, b < 3 → a ≠ b → (TX0 a).2.1 ≠ (TX0 b).2.1 := by decide +kernel
theorem tyX0_ok : ∀ k, k < 3 → parseFieldDescriptor (TX0 k).2.2.1 = some (tyX0 k) := by decide +kernel
abbrev cX0_init : ByteArray := prog_2_method_1_code
def yX0_init : MethodName := ⟨RX0, "<init>", "()V"⟩
abbrev cX0_count : ByteArray := prog_2_method_2_code
def yX0_count : MethodName := ⟨RX0, "count", "()I"⟩
abbrev cX0_add : ByteArray := prog_2_method_3_code
def yX0_add : MethodName := ⟨RX0, "add", "(LPluralMint$Word;LPluralMint$Word;I)Z"⟩
abbrev cX0_remove : ByteArray := prog_2_method_4_code
def yX0_remove : MethodName := ⟨RX0, "remove", "(I)V"⟩
abbrev cX0_fits : ByteArray := prog_2_method_5_code
def yX0_fits : MethodName := ⟨RX0, "fits", "(ILPluralMint$Word;)Z"⟩
abbrev cX0_meetsCondition : ByteArray := prog_2_method_6_code
def yX0_meetsCondition : MethodName := ⟨RX0, "meetsCondition", "(ILPluralMint$Word;)Z"⟩
abbrev cX0_isVowel : ByteArray := prog_2_method_7_code
def yX0_isVowel : MethodName := ⟨RX0, "isVowel", "(C)Z"⟩
abbrev cX0_choose : ByteArray := prog_2_method_8_code
def yX0_choose : MethodName := ⟨RX0, "choose", "(LPluralMint$Word;)I"⟩
abbrev cX0_press : ByteArray := prog_2_method_9_code
def yX0_press : MethodName := ⟨RX0, "press", "(ILPluralMint$Word;)V"⟩
abbrev cX0_reverse : ByteArray := prog_2_method_10_code
def yX0_reverse : MethodName := ⟨RX0, "reverse", "(ILPluralMint$Word;)Z"⟩
abbrev cX0_copyFrom : ByteArray := prog_2_method_11_code
def yX0_copyFrom : MethodName := ⟨RX0, "copyFrom", "(LPluralMint$Dies;)V"⟩
def RX1 : String := "PluralMint$Grammar"
def TX1 : u_T := fun k => match k with
  | 0 => ("PluralMint$Grammar", "part", "I", false)
  | _ => ("PluralMint$Grammar", "letters", "I", false)
def tyX1 : Nat → FieldType := fun k => match k with
  | 0 => .int
  | _ => .int
abbrev wsX10 : List Cond := u_ws RX1 TX1 2
theorem nmX1 : ∀ a, a < 2 → ∀ b, b < 2 → a ≠ b → (TX1 a).2.1 ≠ (TX1 b).2.1 := by decide +kernel
theorem tyX1_ok : ∀ k, k < 2 → parseFieldDescriptor (TX1 k).2.2.1 = some (tyX1 k) := by decide +kernel
abbrev cX1_init : ByteArray := prog_3_method_1_code
def yX1_init : MethodName := ⟨RX1, "<init>", "()V"⟩
abbrev cX1_start : ByteArray := prog_3_method_2_code
def yX1_start : MethodName := ⟨RX1, "start", "()V"⟩
abbrev cX1_take : ByteArray := prog_3_method_3_code
def yX1_take : MethodName := ⟨RX1, "take", "(C)Z"⟩
abbrev cX1_mayEnd : ByteArray := prog_3_method_4_code
def yX1_mayEnd : MethodName := ⟨RX1, "mayEnd", "()Z"⟩
abbrev cX1_takeLetter : ByteArray := prog_3_method_5_code
def yX1_takeLetter : MethodName := ⟨RX1, "takeLetter", "()Z"⟩
abbrev cX1_partAfter : ByteArray := prog_3_method_6_code
def yX1_partAfter : MethodName := ⟨RX1, "partAfter", "(C)I"⟩
def RX2 : String := "PluralMint$Heaps"
def TX2 : u_T := fun k => match k with
  | 0 => ("PluralMint$Heaps", "marks", "LPluralMint$Words;", true)
  | 1 => ("PluralMint$Heaps", "owners", "[I", true)
  | _ => ("PluralMint$Heaps", "coins", "[I", true)
def tyX2 : Nat → FieldType := fun k => match k with
  | 0 => .object "PluralMint$Words"
  | 1 => .array .int
  | _ => .array .int
abbrev wsX20 : List Cond := u_ws RX2 TX2 3
theorem nmX2 : ∀ a, a < 3 → ∀ b, b < 3 → a ≠ b → (TX2 a).2.1 ≠ (TX2 b).2.1 := by decide +kernel
theorem tyX2_ok : ∀ k, k < 3 → parseFieldDescriptor (TX2 k).2.2.1 = some (tyX2 k) := by decide +kernel
abbrev cX2_init : ByteArray := prog_4_method_1_code
def yX2_init : MethodName := ⟨RX2, "<init>", "()V"⟩
abbrev cX2_count : ByteArray := prog_4_method_2_code
def yX2_count : MethodName := ⟨RX2, "count", "()I"⟩
abbrev cX2_isFull : ByteArray := prog_4_method_3_code
def yX2_isFull : MethodName := ⟨RX2, "isFull", "()Z"⟩
abbrev cX2_ownerOf : ByteArray := prog_4_method_4_code
def yX2_ownerOf : MethodName := ⟨RX2, "ownerOf", "(I)I"⟩
abbrev cX2_coinsIn : ByteArray := prog_4_method_5_code
def yX2_coinsIn : MethodName := ⟨RX2, "coinsIn", "(I)I"⟩
abbrev cX2_bears : ByteArray := prog_4_method_6_code
def yX2_bears : MethodName := ⟨RX2, "bears", "(ILPluralMint$Word;)Z"⟩
abbrev cX2_find : ByteArray := prog_4_method_7_code
def yX2_find : MethodName := ⟨RX2, "find", "(ILPluralMint$Word;)I"⟩
abbrev cX2_coinsWith : ByteArray := prog_4_method_8_code
def yX2_coinsWith : MethodName := ⟨RX2, "coinsWith", "(I)I"⟩
abbrev cX2_open : ByteArray := prog_4_method_9_code
def yX2_open : MethodName := ⟨RX2, "open", "(ILPluralMint$Word;I)V"⟩
abbrev cX2_enlarge : ByteArray := prog_4_method_10_code
def yX2_enlarge : MethodName := ⟨RX2, "enlarge", "(II)V"⟩
abbrev cX2_empty : ByteArray := prog_4_method_11_code
def yX2_empty : MethodName := ⟨RX2, "empty", "(I)V"⟩
abbrev cX2_takeOldest : ByteArray := prog_4_method_12_code
def yX2_takeOldest : MethodName := ⟨RX2, "takeOldest", "(II)V"⟩
abbrev cX2_removeEmpty : ByteArray := prog_4_method_13_code
def yX2_removeEmpty : MethodName := ⟨RX2, "removeEmpty", "()V"⟩
abbrev cX2_copyFrom : ByteArray := prog_4_method_14_code
def yX2_copyFrom : MethodName := ⟨RX2, "copyFrom", "(LPluralMint$Heaps;)V"⟩
def RX3 : String := "PluralMint$History"
def TX3 : u_T := fun k => match k with
  | 0 => ("PluralMint$History", "states", "[LPluralMint$State;", true)
  | _ => ("PluralMint$History", "count", "I", false)
def tyX3 : Nat → FieldType := fun k => match k with
  | 0 => .array (.object "PluralMint$State")
  | _ => .int
abbrev wsX30 : List Cond := u_ws RX3 TX3 2
theorem nmX3 : ∀ a, a < 2 → ∀ b, b < 2 → a ≠ b → (TX3 a).2.1 ≠ (TX3 b).2.1 := by decide +kernel
theorem tyX3_ok : ∀ k, k < 2 → parseFieldDescriptor (TX3 k).2.2.1 = some (tyX3 k) := by decide +kernel
abbrev cX3_init : ByteArray := prog_5_method_1_code
def yX3_init : MethodName := ⟨RX3, "<init>", "()V"⟩
abbrev cX3_count : ByteArray := prog_5_method_2_code
def yX3_count : MethodName := ⟨RX3, "count", "()I"⟩
abbrev cX3_record : ByteArray := prog_5_method_3_code
def yX3_record : MethodName := ⟨RX3, "record", "(LPluralMint$State;)V"⟩
abbrev cX3_moveOldestToEnd : ByteArray := prog_5_method_4_code
def yX3_moveOldestToEnd : MethodName := ⟨RX3, "moveOldestToEnd", "()V"⟩
abbrev cX3_giveBack : ByteArray := prog_5_method_5_code
def yX3_giveBack : MethodName := ⟨RX3, "giveBack", "(LPluralMint$State;)V"⟩
def RX4 : String := "PluralMint$Order"
def TX4 : u_T := fun k => match k with
  | 0 => ("PluralMint$Order", "kind", "I", false)
  | 1 => ("PluralMint$Order", "condition", "I", false)
  | 2 => ("PluralMint$Order", "inSecond", "Z", false)
  | 3 => ("PluralMint$Order", "first", "LPluralMint$Word;", true)
  | _ => ("PluralMint$Order", "second", "LPluralMint$Word;", true)
def tyX4 : Nat → FieldType := fun k => match k with
  | 0 => .int
  | 1 => .int
  | 2 => .boolean
  | 3 => .object "PluralMint$Word"
  | _ => .object "PluralMint$Word"
abbrev wsX40 : List Cond := u_ws RX4 TX4 5
theorem nmX4 : ∀ a, a < 5 → ∀ b, b < 5 → a ≠ b → (TX4 a).2.1 ≠ (TX4 b).2.1 := by decide +kernel
theorem tyX4_ok : ∀ k, k < 5 → parseFieldDescriptor (TX4 k).2.2.1 = some (tyX4 k) := by decide +kernel
abbrev cX4_init : ByteArray := prog_6_method_1_code
def yX4_init : MethodName := ⟨RX4, "<init>", "()V"⟩
abbrev cX4_clear : ByteArray := prog_6_method_2_code
def yX4_clear : MethodName := ⟨RX4, "clear", "()V"⟩
abbrev cX4_take : ByteArray := prog_6_method_3_code
def yX4_take : MethodName := ⟨RX4, "take", "(C)V"⟩
abbrev cX4_takeLetter : ByteArray := prog_6_method_4_code
def yX4_takeLetter : MethodName := ⟨RX4, "takeLetter", "(C)V"⟩
def RX5 : String := "PluralMint$OrderText"
def TX5 : u_T := fun k => match k with
  | 0 => ("PluralMint$OrderText", "signs", "[C", true)
  | 1 => ("PluralMint$OrderText", "length", "I", false)
  | _ => ("PluralMint$OrderText", "grammar", "LPluralMint$Grammar;", true)
def tyX5 : Nat → FieldType := fun k => match k with
  | 0 => .array .char
  | 1 => .int
  | _ => .object "PluralMint$Grammar"
abbrev wsX50 : List Cond := u_ws RX5 TX5 3
theorem nmX5 : ∀ a, a < 3 → ∀ b, b < 3 → a ≠ b → (TX5 a).2.1 ≠ (TX5 b).2.1 := by decide +kernel
theorem tyX5_ok : ∀ k, k < 3 → parseFieldDescriptor (TX5 k).2.2.1 = some (tyX5 k) := by decide +kernel
abbrev cX5_init : ByteArray := prog_7_method_1_code
def yX5_init : MethodName := ⟨RX5, "<init>", "()V"⟩
abbrev cX5_length : ByteArray := prog_7_method_2_code
def yX5_length : MethodName := ⟨RX5, "length", "()I"⟩
abbrev cX5_isFull : ByteArray := prog_7_method_3_code
def yX5_isFull : MethodName := ⟨RX5, "isFull", "()Z"⟩
abbrev cX5_append : ByteArray := prog_7_method_4_code
def yX5_append : MethodName := ⟨RX5, "append", "(C)V"⟩
abbrev cX5_clear : ByteArray := prog_7_method_5_code
def yX5_clear : MethodName := ⟨RX5, "clear", "()V"⟩
abbrev cX5_sign : ByteArray := prog_7_method_6_code
def yX5_sign : MethodName := ⟨RX5, "sign", "(I)C"⟩
abbrev cX5_firstError : ByteArray := prog_7_method_7_code
def yX5_firstError : MethodName := ⟨RX5, "firstError", "()I"⟩
abbrev cX5_orders : ByteArray := prog_7_method_8_code
def yX5_orders : MethodName := ⟨RX5, "orders", "()I"⟩
abbrev cX5_read : ByteArray := prog_7_method_9_code
def yX5_read : MethodName := ⟨RX5, "read", "(ILPluralMint$Order;)I"⟩
abbrev cX5_isWord : ByteArray := prog_7_method_10_code
def yX5_isWord : MethodName := ⟨RX5, "isWord", "()Z"⟩
abbrev cX5_load : ByteArray := prog_7_method_11_code
def yX5_load : MethodName := ⟨RX5, "load", "(LPluralMint$Word;)V"⟩
def RX6 : String := "PluralMint$State"
def TX6 : u_T := fun k => match k with
  | 0 => ("PluralMint$State", "nouns", "LPluralMint$Words;", true)
  | 1 => ("PluralMint$State", "irregularWords", "LPluralMint$Words;", true)
  | 2 => ("PluralMint$State", "irregularPlurals", "LPluralMint$Words;", true)
  | 3 => ("PluralMint$State", "dies", "LPluralMint$Dies;", true)
  | 4 => ("PluralMint$State", "heaps", "LPluralMint$Heaps;", true)
  | 5 => ("PluralMint$State", "struck", "I", false)
  | _ => ("PluralMint$State", "melted", "I", false)
def tyX6 : Nat → FieldType := fun k => match k with
  | 0 => .object "PluralMint$Words"
  | 1 => .object "PluralMint$Words"
  | 2 => .object "PluralMint$Words"
  | 3 => .object "PluralMint$Dies"
  | 4 => .object "PluralMint$Heaps"
  | 5 => .int
  | _ => .int
abbrev wsX60 : List Cond := u_ws RX6 TX6 7
theorem nmX6 : ∀ a, a < 7 → ∀ b, b < 7 → a ≠ b → (TX6 a).2.1 ≠ (TX6 b).2.1 := by decide +kernel
theorem tyX6_ok : ∀ k, k < 7 → parseFieldDescriptor (TX6 k).2.2.1 = some (tyX6 k) := by decide +kernel
abbrev cX6_init : ByteArray := prog_8_method_1_code
def yX6_init : MethodName := ⟨RX6, "<init>", "()V"⟩
abbrev cX6_addFirstDie : ByteArray := prog_8_method_2_code
def yX6_addFirstDie : MethodName := ⟨RX6, "addFirstDie", "()V"⟩
abbrev cX6_loadPlural : ByteArray := prog_8_method_3_code
def yX6_loadPlural : MethodName := ⟨RX6, "loadPlural", "(ILPluralMint$Word;)V"⟩
abbrev cX6_makePlural : ByteArray := prog_8_method_4_code
def yX6_makePlural : MethodName := ⟨RX6, "makePlural", "(LPluralMint$Word;)V"⟩
abbrev cX6_isStale : ByteArray := prog_8_method_5_code
def yX6_isStale : MethodName := ⟨RX6, "isStale", "(ILPluralMint$Word;)Z"⟩
abbrev cX6_accept : ByteArray := prog_8_method_6_code
def yX6_accept : MethodName := ⟨RX6, "accept", "(LPluralMint$Order;)Z"⟩
abbrev cX6_copyFrom : ByteArray := prog_8_method_7_code
def yX6_copyFrom : MethodName := ⟨RX6, "copyFrom", "(LPluralMint$State;)V"⟩
def RX7 : String := "PluralMint$Word"
def TX7 : u_T := fun k => match k with
  | 0 => ("PluralMint$Word", "letters", "[C", true)
  | _ => ("PluralMint$Word", "length", "I", false)
def tyX7 : Nat → FieldType := fun k => match k with
  | 0 => .array .char
  | _ => .int
abbrev wsX70 : List Cond := u_ws RX7 TX7 2
theorem nmX7 : ∀ a, a < 2 → ∀ b, b < 2 → a ≠ b → (TX7 a).2.1 ≠ (TX7 b).2.1 := by decide +kernel
theorem tyX7_ok : ∀ k, k < 2 → parseFieldDescriptor (TX7 k).2.2.1 = some (tyX7 k) := by decide +kernel
abbrev cX7_init : ByteArray := prog_9_method_1_code
def yX7_init : MethodName := ⟨RX7, "<init>", "()V"⟩
abbrev cX7_length : ByteArray := prog_9_method_2_code
def yX7_length : MethodName := ⟨RX7, "length", "()I"⟩
abbrev cX7_letter : ByteArray := prog_9_method_3_code
def yX7_letter : MethodName := ⟨RX7, "letter", "(I)C"⟩
abbrev cX7_clear : ByteArray := prog_9_method_4_code
def yX7_clear : MethodName := ⟨RX7, "clear", "()V"⟩
abbrev cX7_append : ByteArray := prog_9_method_5_code
def yX7_append : MethodName := ⟨RX7, "append", "(C)V"⟩
abbrev cX7_shorten : ByteArray := prog_9_method_6_code
def yX7_shorten : MethodName := ⟨RX7, "shorten", "(I)V"⟩
abbrev cX7_isSame : ByteArray := prog_9_method_7_code
def yX7_isSame : MethodName := ⟨RX7, "isSame", "(LPluralMint$Word;)Z"⟩
abbrev cX7_copyFrom : ByteArray := prog_9_method_8_code
def yX7_copyFrom : MethodName := ⟨RX7, "copyFrom", "(LPluralMint$Word;)V"⟩
def RX8 : String := "PluralMint$Words"
def TX8 : u_T := fun k => match k with
  | 0 => ("PluralMint$Words", "width", "I", true)
  | 1 => ("PluralMint$Words", "letters", "[C", true)
  | 2 => ("PluralMint$Words", "lengths", "[I", true)
  | _ => ("PluralMint$Words", "count", "I", false)
def tyX8 : Nat → FieldType := fun k => match k with
  | 0 => .int
  | 1 => .array .char
  | 2 => .array .int
  | _ => .int
abbrev wsX80 : List Cond := u_ws RX8 TX8 4
theorem nmX8 : ∀ a, a < 4 → ∀ b, b < 4 → a ≠ b → (TX8 a).2.1 ≠ (TX8 b).2.1 := by decide +kernel
theorem tyX8_ok : ∀ k, k < 4 → parseFieldDescriptor (TX8 k).2.2.1 = some (tyX8 k) := by decide +kernel
abbrev cX8_init : ByteArray := prog_10_method_1_code
def yX8_init : MethodName := ⟨RX8, "<init>", "(II)V"⟩
abbrev cX8_count : ByteArray := prog_10_method_2_code
def yX8_count : MethodName := ⟨RX8, "count", "()I"⟩
abbrev cX8_isFull : ByteArray := prog_10_method_3_code
def yX8_isFull : MethodName := ⟨RX8, "isFull", "()Z"⟩
abbrev cX8_lengthOf : ByteArray := prog_10_method_4_code
def yX8_lengthOf : MethodName := ⟨RX8, "lengthOf", "(I)I"⟩
abbrev cX8_letterOf : ByteArray := prog_10_method_5_code
def yX8_letterOf : MethodName := ⟨RX8, "letterOf", "(II)C"⟩
abbrev cX8_clear : ByteArray := prog_10_method_6_code
def yX8_clear : MethodName := ⟨RX8, "clear", "()V"⟩
abbrev cX8_add : ByteArray := prog_10_method_7_code
def yX8_add : MethodName := ⟨RX8, "add", "(LPluralMint$Word;)Z"⟩
abbrev cX8_put : ByteArray := prog_10_method_8_code
def yX8_put : MethodName := ⟨RX8, "put", "(ILPluralMint$Word;)V"⟩
abbrev cX8_remove : ByteArray := prog_10_method_9_code
def yX8_remove : MethodName := ⟨RX8, "remove", "(I)V"⟩
abbrev cX8_load : ByteArray := prog_10_method_10_code
def yX8_load : MethodName := ⟨RX8, "load", "(ILPluralMint$Word;)V"⟩
abbrev cX8_appendTo : ByteArray := prog_10_method_11_code
def yX8_appendTo : MethodName := ⟨RX8, "appendTo", "(ILPluralMint$Word;)V"⟩
abbrev cX8_isSame : ByteArray := prog_10_method_12_code
def yX8_isSame : MethodName := ⟨RX8, "isSame", "(ILPluralMint$Word;)Z"⟩
abbrev cX8_isEndOf : ByteArray := prog_10_method_13_code
def yX8_isEndOf : MethodName := ⟨RX8, "isEndOf", "(ILPluralMint$Word;)Z"⟩
abbrev cX8_find : ByteArray := prog_10_method_14_code
def yX8_find : MethodName := ⟨RX8, "find", "(LPluralMint$Word;)I"⟩
abbrev cX8_countOf : ByteArray := prog_10_method_15_code
def yX8_countOf : MethodName := ⟨RX8, "countOf", "(LPluralMint$Word;)I"⟩
abbrev cX8_copyFrom : ByteArray := prog_10_method_16_code
def yX8_copyFrom : MethodName := ⟨RX8, "copyFrom", "(LPluralMint$Words;)V"⟩
def RX9 : String := "PluralMint"
def TX9 : u_T := fun k => match k with
  | 0 => ("PluralMint", "text", "LPluralMint$OrderText;", true)
  | 1 => ("PluralMint", "now", "LPluralMint$State;", true)
  | 2 => ("PluralMint", "snapshot", "LPluralMint$State;", true)
  | 3 => ("PluralMint", "hasSnapshot", "Z", false)
  | 4 => ("PluralMint", "history", "LPluralMint$History;", true)
  | 5 => ("PluralMint", "trial", "LPluralMint$State;", true)
  | 6 => ("PluralMint", "order", "LPluralMint$Order;", true)
  | 7 => ("PluralMint", "wanted", "LPluralMint$Word;", true)
  | 8 => ("PluralMint", "plural", "LPluralMint$Word;", true)
  | 9 => ("PluralMint", "origin", "LPluralMint$Word;", true)
  | 10 => ("PluralMint", "plurals", "LPluralMint$Words;", true)
  | _ => ("PluralMint", "origins", "LPluralMint$Words;", true)
def tyX9 : Nat → FieldType := fun k => match k with
  | 0 => .object "PluralMint$OrderText"
  | 1 => .object "PluralMint$State"
  | 2 => .object "PluralMint$State"
  | 3 => .boolean
  | 4 => .object "PluralMint$History"
  | 5 => .object "PluralMint$State"
  | 6 => .object "PluralMint$Order"
  | 7 => .object "PluralMint$Word"
  | 8 => .object "PluralMint$Word"
  | 9 => .object "PluralMint$Word"
  | 10 => .object "PluralMint$Words"
  | _ => .object "PluralMint$Words"
abbrev wsX90 : List Cond := u_ws RX9 TX9 12
theorem nmX9 : ∀ a, a < 12 → ∀ b, b < 12 → a ≠ b → (TX9 a).2.1 ≠ (TX9 b).2.1 := by decide +kernel
theorem tyX9_ok : ∀ k, k < 12 → parseFieldDescriptor (TX9 k).2.2.1 = some (tyX9 k) := by decide +kernel
abbrev cX9_init : ByteArray := prog_1_method_1_code
def yX9_init : MethodName := ⟨RX9, "<init>", "()V"⟩
abbrev cX9_strike : ByteArray := prog_1_method_2_code
def yX9_strike : MethodName := ⟨RX9, "strike", "(II)I"⟩
abbrev cX9_melt : ByteArray := prog_1_method_3_code
def yX9_melt : MethodName := ⟨RX9, "melt", "(II)I"⟩
abbrev cX9_meltStale : ByteArray := prog_1_method_4_code
def yX9_meltStale : MethodName := ⟨RX9, "meltStale", "()I"⟩
abbrev cX9_dropDie : ByteArray := prog_1_method_5_code
def yX9_dropDie : MethodName := ⟨RX9, "dropDie", "(I)I"⟩
abbrev cX9_dropIrregular : ByteArray := prog_1_method_6_code
def yX9_dropIrregular : MethodName := ⟨RX9, "dropIrregular", "()I"⟩
abbrev cX9_type : ByteArray := prog_1_method_7_code
def yX9_type : MethodName := ⟨RX9, "type", "(C)I"⟩
abbrev cX9_clearText : ByteArray := prog_1_method_8_code
def yX9_clearText : MethodName := ⟨RX9, "clearText", "()I"⟩
abbrev cX9_textError : ByteArray := prog_1_method_9_code
def yX9_textError : MethodName := ⟨RX9, "textError", "()I"⟩
abbrev cX9_impossibleOrder : ByteArray := prog_1_method_10_code
def yX9_impossibleOrder : MethodName := ⟨RX9, "impossibleOrder", "()I"⟩
abbrev cX9_carryOut : ByteArray := prog_1_method_11_code
def yX9_carryOut : MethodName := ⟨RX9, "carryOut", "()I"⟩
abbrev cX9_undo : ByteArray := prog_1_method_12_code
def yX9_undo : MethodName := ⟨RX9, "undo", "()I"⟩
abbrev cX9_takeSnapshot : ByteArray := prog_1_method_13_code
def yX9_takeSnapshot : MethodName := ⟨RX9, "takeSnapshot", "()I"⟩
abbrev cX9_restoreSnapshot : ByteArray := prog_1_method_14_code
def yX9_restoreSnapshot : MethodName := ⟨RX9, "restoreSnapshot", "()I"⟩
abbrev cX9_nouns : ByteArray := prog_1_method_15_code
def yX9_nouns : MethodName := ⟨RX9, "nouns", "()I"⟩
abbrev cX9_lettersOf : ByteArray := prog_1_method_16_code
def yX9_lettersOf : MethodName := ⟨RX9, "lettersOf", "(I)I"⟩
abbrev cX9_pluralLetters : ByteArray := prog_1_method_17_code
def yX9_pluralLetters : MethodName := ⟨RX9, "pluralLetters", "(I)I"⟩
abbrev cX9_pluralLetter : ByteArray := prog_1_method_18_code
def yX9_pluralLetter : MethodName := ⟨RX9, "pluralLetter", "(II)C"⟩
abbrev cX9_countedLetter : ByteArray := prog_1_method_19_code
def yX9_countedLetter : MethodName := ⟨RX9, "countedLetter", "(III)C"⟩
abbrev cX9_isIrregular : ByteArray := prog_1_method_20_code
def yX9_isIrregular : MethodName := ⟨RX9, "isIrregular", "(I)Z"⟩
abbrev cX9_dieFor : ByteArray := prog_1_method_21_code
def yX9_dieFor : MethodName := ⟨RX9, "dieFor", "(I)I"⟩
abbrev cX9_ambiguousNouns : ByteArray := prog_1_method_22_code
def yX9_ambiguousNouns : MethodName := ⟨RX9, "ambiguousNouns", "()I"⟩
abbrev cX9_recallByStriking : ByteArray := prog_1_method_23_code
def yX9_recallByStriking : MethodName := ⟨RX9, "recallByStriking", "()I"⟩
abbrev cX9_recallByReversing : ByteArray := prog_1_method_24_code
def yX9_recallByReversing : MethodName := ⟨RX9, "recallByReversing", "()I"⟩
abbrev cX9_possibleNouns : ByteArray := prog_1_method_25_code
def yX9_possibleNouns : MethodName := ⟨RX9, "possibleNouns", "()I"⟩
abbrev cX9_dies : ByteArray := prog_1_method_26_code
def yX9_dies : MethodName := ⟨RX9, "dies", "()I"⟩
abbrev cX9_irregulars : ByteArray := prog_1_method_27_code
def yX9_irregulars : MethodName := ⟨RX9, "irregulars", "()I"⟩
abbrev cX9_fitsOf : ByteArray := prog_1_method_28_code
def yX9_fitsOf : MethodName := ⟨RX9, "fitsOf", "(I)I"⟩
abbrev cX9_coinsOf : ByteArray := prog_1_method_29_code
def yX9_coinsOf : MethodName := ⟨RX9, "coinsOf", "(I)I"⟩
abbrev cX9_heaps : ByteArray := prog_1_method_30_code
def yX9_heaps : MethodName := ⟨RX9, "heaps", "()I"⟩
abbrev cX9_staleCoins : ByteArray := prog_1_method_31_code
def yX9_staleCoins : MethodName := ⟨RX9, "staleCoins", "()I"⟩
abbrev cX9_coinsByHeaps : ByteArray := prog_1_method_32_code
def yX9_coinsByHeaps : MethodName := ⟨RX9, "coinsByHeaps", "()I"⟩
abbrev cX9_coinsByAccounts : ByteArray := prog_1_method_33_code
def yX9_coinsByAccounts : MethodName := ⟨RX9, "coinsByAccounts", "()I"⟩
abbrev cX9_recordedStates : ByteArray := prog_1_method_34_code
def yX9_recordedStates : MethodName := ⟨RX9, "recordedStates", "()I"⟩
abbrev cX9_checkNoun : ByteArray := prog_1_method_35_code
def yX9_checkNoun : MethodName := ⟨RX9, "checkNoun", "(I)V"⟩
abbrev cX9_checkDie : ByteArray := prog_1_method_36_code
def yX9_checkDie : MethodName := ⟨RX9, "checkDie", "(I)V"⟩
abbrev cX9_checkPlace : ByteArray := prog_1_method_37_code
def yX9_checkPlace : MethodName := ⟨RX9, "checkPlace", "(ILPluralMint$Word;)V"⟩
abbrev cX9_checkMany : ByteArray := prog_1_method_38_code
def yX9_checkMany : MethodName := ⟨RX9, "checkMany", "(I)V"⟩
abbrev cX9_checkCount : ByteArray := prog_1_method_39_code
def yX9_checkCount : MethodName := ⟨RX9, "checkCount", "(I)V"⟩
abbrev cX9_checkTextIsValid : ByteArray := prog_1_method_40_code
def yX9_checkTextIsValid : MethodName := ⟨RX9, "checkTextIsValid", "()V"⟩
abbrev cX9_loadWantedPlural : ByteArray := prog_1_method_41_code
def yX9_loadWantedPlural : MethodName := ⟨RX9, "loadWantedPlural", "()V"⟩
abbrev cX9_tryOrders : ByteArray := prog_1_method_42_code
def yX9_tryOrders : MethodName := ⟨RX9, "tryOrders", "()I"⟩
abbrev cX9_collectOrigins : ByteArray := prog_1_method_43_code
def yX9_collectOrigins : MethodName := ⟨RX9, "collectOrigins", "()V"⟩
abbrev cX9_isSmallLetter : ByteArray := prog_1_method_44_code
def yX9_isSmallLetter : MethodName := ⟨RX9, "isSmallLetter", "(C)Z"⟩
abbrev cX9_closeGap : ByteArray := prog_1_method_45_code
def yX9_closeGap : MethodName := ⟨RX9, "closeGap", "([II)V"⟩
abbrev cX9_copyNumbers : ByteArray := prog_1_method_46_code
def yX9_copyNumbers : MethodName := ⟨RX9, "copyNumbers", "([I[I)V"⟩
def RX10 : String := "PluralMintModel"
def TX10 : u_T := fun k => match k with
  | 0 => ("PluralMintModel", "all", "[I", true)
  | 1 => ("PluralMintModel", "kept", "[I", true)
  | 2 => ("PluralMintModel", "recorded", "[I", true)
  | 3 => ("PluralMintModel", "recordedLong", "I", false)
  | 4 => ("PluralMintModel", "snapshot", "[I", true)
  | 5 => ("PluralMintModel", "isKept", "I", false)
  | 6 => ("PluralMintModel", "thrown", "I", false)
  | 7 => ("PluralMintModel", "plural", "[I", true)
  | 8 => ("PluralMintModel", "text", "[I", true)
  | 9 => ("PluralMintModel", "textLong", "I", false)
  | 10 => ("PluralMintModel", "at", "I", false)
  | 11 => ("PluralMintModel", "kind", "I", false)
  | 12 => ("PluralMintModel", "condition", "I", false)
  | 13 => ("PluralMintModel", "first", "[I", true)
  | 14 => ("PluralMintModel", "second", "[I", true)
  | 15 => ("PluralMintModel", "done", "I", false)
  | 16 => ("PluralMintModel", "isAll", "Z", false)
  | 17 => ("PluralMintModel", "other", "[I", true)
  | 18 => ("PluralMintModel", "found", "[I", true)
  | _ => ("PluralMintModel", "foundLong", "I", false)
def tyX10 : Nat → FieldType := fun k => match k with
  | 0 => .array .int
  | 1 => .array .int
  | 2 => .array .int
  | 3 => .int
  | 4 => .array .int
  | 5 => .int
  | 6 => .int
  | 7 => .array .int
  | 8 => .array .int
  | 9 => .int
  | 10 => .int
  | 11 => .int
  | 12 => .int
  | 13 => .array .int
  | 14 => .array .int
  | 15 => .int
  | 16 => .boolean
  | 17 => .array .int
  | 18 => .array .int
  | _ => .int
abbrev wsX100 : List Cond := u_ws RX10 TX10 20
theorem nmX10 : ∀ a, a < 20 → ∀ b, b < 20 → a ≠ b → (TX10 a).2.1 ≠ (TX10 b).2.1 := by decide +kernel
theorem tyX10_ok : ∀ k, k < 20 → parseFieldDescriptor (TX10 k).2.2.1 = some (tyX10 k) := by decide +kernel
abbrev cX10_init : ByteArray := prog_12_method_1_code
def yX10_init : MethodName := ⟨RX10, "<init>", "()V"⟩
abbrev cX10_thrown : ByteArray := prog_12_method_2_code
def yX10_thrown : MethodName := ⟨RX10, "thrown", "()I"⟩
abbrev cX10_fails : ByteArray := prog_12_method_3_code
def yX10_fails : MethodName := ⟨RX10, "fails", "(I)I"⟩
abbrev cX10_in : ByteArray := prog_12_method_4_code
def yX10_in : MethodName := ⟨RX10, "in", "(JJJ)Z"⟩
abbrev cX10_records : ByteArray := prog_12_method_5_code
def yX10_records : MethodName := ⟨RX10, "records", "()V"⟩
abbrev cX10_told : ByteArray := prog_12_method_6_code
def yX10_told : MethodName := ⟨RX10, "told", "(I)I"⟩
abbrev cX10_isNoun : ByteArray := prog_12_method_7_code
def yX10_isNoun : MethodName := ⟨RX10, "isNoun", "(I)Z"⟩
abbrev cX10_isDie : ByteArray := prog_12_method_8_code
def yX10_isDie : MethodName := ⟨RX10, "isDie", "(I)Z"⟩
abbrev cX10_copies : ByteArray := prog_12_method_9_code
def yX10_copies : MethodName := ⟨RX10, "copies", "([II[II)V"⟩
abbrev cX10_areSame : ByteArray := prog_12_method_10_code
def yX10_areSame : MethodName := ⟨RX10, "areSame", "([II[II)Z"⟩
abbrev cX10_endsWith : ByteArray := prog_12_method_11_code
def yX10_endsWith : MethodName := ⟨RX10, "endsWith", "([II[II)Z"⟩
abbrev cX10_isVowel : ByteArray := prog_12_method_12_code
def yX10_isVowel : MethodName := ⟨RX10, "isVowel", "(I)Z"⟩
abbrev cX10_changes : ByteArray := prog_12_method_13_code
def yX10_changes : MethodName := ⟨RX10, "changes", "([III[II[I)V"⟩
abbrev cX10_fits : ByteArray := prog_12_method_14_code
def yX10_fits : MethodName := ⟨RX10, "fits", "(I[II)Z"⟩
abbrev cX10_inTable : ByteArray := prog_12_method_15_code
def yX10_inTable : MethodName := ⟨RX10, "inTable", "([II)I"⟩
abbrev cX10_dieBy : ByteArray := prog_12_method_16_code
def yX10_dieBy : MethodName := ⟨RX10, "dieBy", "([II)I"⟩
abbrev cX10_makes : ByteArray := prog_12_method_17_code
def yX10_makes : MethodName := ⟨RX10, "makes", "([II)V"⟩
abbrev cX10_makesOf : ByteArray := prog_12_method_18_code
def yX10_makesOf : MethodName := ⟨RX10, "makesOf", "(I)V"⟩
abbrev cX10_coins : ByteArray := prog_12_method_19_code
def yX10_coins : MethodName := ⟨RX10, "coins", "(I)I"⟩
abbrev cX10_isStale : ByteArray := prog_12_method_20_code
def yX10_isStale : MethodName := ⟨RX10, "isStale", "(I)Z"⟩
abbrev cX10_heapFor : ByteArray := prog_12_method_21_code
def yX10_heapFor : MethodName := ⟨RX10, "heapFor", "(I)I"⟩
abbrev cX10_closes : ByteArray := prog_12_method_22_code
def yX10_closes : MethodName := ⟨RX10, "closes", "()V"⟩
abbrev cX10_strike : ByteArray := prog_12_method_23_code
def yX10_strike : MethodName := ⟨RX10, "strike", "(II)I"⟩
abbrev cX10_melt : ByteArray := prog_12_method_24_code
def yX10_melt : MethodName := ⟨RX10, "melt", "(II)I"⟩
abbrev cX10_stale : ByteArray := prog_12_method_25_code
def yX10_stale : MethodName := ⟨RX10, "stale", "()I"⟩
abbrev cX10_meltStale : ByteArray := prog_12_method_26_code
def yX10_meltStale : MethodName := ⟨RX10, "meltStale", "()I"⟩
abbrev cX10_dropDie : ByteArray := prog_12_method_27_code
def yX10_dropDie : MethodName := ⟨RX10, "dropDie", "(I)I"⟩
abbrev cX10_dropIrregular : ByteArray := prog_12_method_28_code
def yX10_dropIrregular : MethodName := ⟨RX10, "dropIrregular", "()I"⟩
abbrev cX10_type : ByteArray := prog_12_method_29_code
def yX10_type : MethodName := ⟨RX10, "type", "(C)I"⟩
abbrev cX10_clearText : ByteArray := prog_12_method_30_code
def yX10_clearText : MethodName := ⟨RX10, "clearText", "()I"⟩
abbrev cX10_isHere : ByteArray := prog_12_method_31_code
def yX10_isHere : MethodName := ⟨RX10, "isHere", "(II)Z"⟩
abbrev cX10_takesOne : ByteArray := prog_12_method_32_code
def yX10_takesOne : MethodName := ⟨RX10, "takesOne", "(I)Z"⟩
abbrev cX10_readsLetters : ByteArray := prog_12_method_33_code
def yX10_readsLetters : MethodName := ⟨RX10, "readsLetters", "([II)I"⟩
abbrev cX10_readsOrder : ByteArray := prog_12_method_34_code
def yX10_readsOrder : MethodName := ⟨RX10, "readsOrder", "()Z"⟩
abbrev cX10_errorOfText : ByteArray := prog_12_method_35_code
def yX10_errorOfText : MethodName := ⟨RX10, "errorOfText", "()I"⟩
abbrev cX10_textError : ByteArray := prog_12_method_36_code
def yX10_textError : MethodName := ⟨RX10, "textError", "()I"⟩
abbrev cX10_isInBook : ByteArray := prog_12_method_37_code
def yX10_isInBook : MethodName := ⟨RX10, "isInBook", "()Z"⟩
abbrev cX10_does : ByteArray := prog_12_method_38_code
def yX10_does : MethodName := ⟨RX10, "does", "()Z"⟩
abbrev cX10_doesAll : ByteArray := prog_12_method_39_code
def yX10_doesAll : MethodName := ⟨RX10, "doesAll", "()V"⟩
abbrev cX10_tries : ByteArray := prog_12_method_40_code
def yX10_tries : MethodName := ⟨RX10, "tries", "()V"⟩
abbrev cX10_impossibleOrder : ByteArray := prog_12_method_41_code
def yX10_impossibleOrder : MethodName := ⟨RX10, "impossibleOrder", "()I"⟩
abbrev cX10_carryOut : ByteArray := prog_12_method_42_code
def yX10_carryOut : MethodName := ⟨RX10, "carryOut", "()I"⟩
abbrev cX10_undo : ByteArray := prog_12_method_43_code
def yX10_undo : MethodName := ⟨RX10, "undo", "()I"⟩
abbrev cX10_takeSnapshot : ByteArray := prog_12_method_44_code
def yX10_takeSnapshot : MethodName := ⟨RX10, "takeSnapshot", "()I"⟩
abbrev cX10_restoreSnapshot : ByteArray := prog_12_method_45_code
def yX10_restoreSnapshot : MethodName := ⟨RX10, "restoreSnapshot", "()I"⟩
abbrev cX10_nouns : ByteArray := prog_12_method_46_code
def yX10_nouns : MethodName := ⟨RX10, "nouns", "()I"⟩
abbrev cX10_lettersOf : ByteArray := prog_12_method_47_code
def yX10_lettersOf : MethodName := ⟨RX10, "lettersOf", "(I)I"⟩
abbrev cX10_pluralLetters : ByteArray := prog_12_method_48_code
def yX10_pluralLetters : MethodName := ⟨RX10, "pluralLetters", "(I)I"⟩
abbrev cX10_pluralLetter : ByteArray := prog_12_method_49_code
def yX10_pluralLetter : MethodName := ⟨RX10, "pluralLetter", "(II)C"⟩
abbrev cX10_countedLetter : ByteArray := prog_12_method_50_code
def yX10_countedLetter : MethodName := ⟨RX10, "countedLetter", "(III)C"⟩
abbrev cX10_isIrregular : ByteArray := prog_12_method_51_code
def yX10_isIrregular : MethodName := ⟨RX10, "isIrregular", "(I)Z"⟩
abbrev cX10_dieFor : ByteArray := prog_12_method_52_code
def yX10_dieFor : MethodName := ⟨RX10, "dieFor", "(I)I"⟩
abbrev cX10_ambiguousNouns : ByteArray := prog_12_method_53_code
def yX10_ambiguousNouns : MethodName := ⟨RX10, "ambiguousNouns", "()I"⟩
abbrev cX10_isWord : ByteArray := prog_12_method_54_code
def yX10_isWord : MethodName := ⟨RX10, "isWord", "()Z"⟩
abbrev cX10_recalls : ByteArray := prog_12_method_55_code
def yX10_recalls : MethodName := ⟨RX10, "recalls", "()I"⟩
abbrev cX10_recallByStriking : ByteArray := prog_12_method_56_code
def yX10_recallByStriking : MethodName := ⟨RX10, "recallByStriking", "()I"⟩
abbrev cX10_recallByReversing : ByteArray := prog_12_method_57_code
def yX10_recallByReversing : MethodName := ⟨RX10, "recallByReversing", "()I"⟩
abbrev cX10_finds : ByteArray := prog_12_method_58_code
def yX10_finds : MethodName := ⟨RX10, "finds", "([II)V"⟩
abbrev cX10_possibleNouns : ByteArray := prog_12_method_59_code
def yX10_possibleNouns : MethodName := ⟨RX10, "possibleNouns", "()I"⟩
abbrev cX10_dies : ByteArray := prog_12_method_60_code
def yX10_dies : MethodName := ⟨RX10, "dies", "()I"⟩
abbrev cX10_irregulars : ByteArray := prog_12_method_61_code
def yX10_irregulars : MethodName := ⟨RX10, "irregulars", "()I"⟩
abbrev cX10_fitsOf : ByteArray := prog_12_method_62_code
def yX10_fitsOf : MethodName := ⟨RX10, "fitsOf", "(I)I"⟩
abbrev cX10_coinsOf : ByteArray := prog_12_method_63_code
def yX10_coinsOf : MethodName := ⟨RX10, "coinsOf", "(I)I"⟩
abbrev cX10_heaps : ByteArray := prog_12_method_64_code
def yX10_heaps : MethodName := ⟨RX10, "heaps", "()I"⟩
abbrev cX10_staleCoins : ByteArray := prog_12_method_65_code
def yX10_staleCoins : MethodName := ⟨RX10, "staleCoins", "()I"⟩
abbrev cX10_coinsByHeaps : ByteArray := prog_12_method_66_code
def yX10_coinsByHeaps : MethodName := ⟨RX10, "coinsByHeaps", "()I"⟩
abbrev cX10_coinsByAccounts : ByteArray := prog_12_method_67_code
def yX10_coinsByAccounts : MethodName := ⟨RX10, "coinsByAccounts", "()I"⟩
abbrev cX10_recordedStates : ByteArray := prog_12_method_68_code
def yX10_recordedStates : MethodName := ⟨RX10, "recordedStates", "()I"⟩
def RL : String := "PluralMintLaw"
abbrev cL_strike : ByteArray := method_3_code
def yL_strike : MethodName := ⟨RL, "strike", "(LPluralMint;II[J)I"⟩
abbrev cL_melt : ByteArray := method_4_code
def yL_melt : MethodName := ⟨RL, "melt", "(LPluralMint;II[J)I"⟩
abbrev cL_dropDie : ByteArray := method_5_code
def yL_dropDie : MethodName := ⟨RL, "dropDie", "(LPluralMint;I[J)I"⟩
abbrev cL_dropIrregular : ByteArray := method_6_code
def yL_dropIrregular : MethodName := ⟨RL, "dropIrregular", "(LPluralMint;[J)I"⟩
abbrev cL_type : ByteArray := method_7_code
def yL_type : MethodName := ⟨RL, "type", "(LPluralMint;C[J)I"⟩
abbrev cL_impossibleOrder : ByteArray := method_8_code
def yL_impossibleOrder : MethodName := ⟨RL, "impossibleOrder", "(LPluralMint;[J)I"⟩
abbrev cL_carryOut : ByteArray := method_9_code
def yL_carryOut : MethodName := ⟨RL, "carryOut", "(LPluralMint;[J)I"⟩
abbrev cL_undo : ByteArray := method_10_code
def yL_undo : MethodName := ⟨RL, "undo", "(LPluralMint;[J)I"⟩
abbrev cL_restoreSnapshot : ByteArray := method_11_code
def yL_restoreSnapshot : MethodName := ⟨RL, "restoreSnapshot", "(LPluralMint;[J)I"⟩
abbrev cL_lettersOf : ByteArray := method_12_code
def yL_lettersOf : MethodName := ⟨RL, "lettersOf", "(LPluralMint;I[J)I"⟩
abbrev cL_pluralLetters : ByteArray := method_13_code
def yL_pluralLetters : MethodName := ⟨RL, "pluralLetters", "(LPluralMint;I[J)I"⟩
abbrev cL_pluralLetter : ByteArray := method_14_code
def yL_pluralLetter : MethodName := ⟨RL, "pluralLetter", "(LPluralMint;II[J)I"⟩
abbrev cL_countedLetter : ByteArray := method_15_code
def yL_countedLetter : MethodName := ⟨RL, "countedLetter", "(LPluralMint;III[J)I"⟩
abbrev cL_isIrregular : ByteArray := method_16_code
def yL_isIrregular : MethodName := ⟨RL, "isIrregular", "(LPluralMint;I[J)I"⟩
abbrev cL_dieFor : ByteArray := method_17_code
def yL_dieFor : MethodName := ⟨RL, "dieFor", "(LPluralMint;I[J)I"⟩
abbrev cL_recallByStriking : ByteArray := method_18_code
def yL_recallByStriking : MethodName := ⟨RL, "recallByStriking", "(LPluralMint;[J)I"⟩
abbrev cL_recallByReversing : ByteArray := method_19_code
def yL_recallByReversing : MethodName := ⟨RL, "recallByReversing", "(LPluralMint;[J)I"⟩
abbrev cL_possibleNouns : ByteArray := method_20_code
def yL_possibleNouns : MethodName := ⟨RL, "possibleNouns", "(LPluralMint;[J)I"⟩
abbrev cL_fitsOf : ByteArray := method_21_code
def yL_fitsOf : MethodName := ⟨RL, "fitsOf", "(LPluralMint;I[J)I"⟩
abbrev cL_coinsOf : ByteArray := method_22_code
def yL_coinsOf : MethodName := ⟨RL, "coinsOf", "(LPluralMint;I[J)I"⟩
abbrev cL_law : ByteArray := code
def yL_law : MethodName := ⟨RL, "law", "([I)Z"⟩
/-- the classes whose objects the worlds hold -/
abbrev gCl : List vw_C := [(RX0, TX0, 3), (RX1, TX1, 2), (RX2, TX2, 3), (RX3, TX3, 2), (RX4, TX4, 5), (RX5, TX5, 3), (RX6, TX6, 7), (RX7, TX7, 2), (RX8, TX8, 4), (RX9, TX9, 12), (RX10, TX10, 20)]
def gStr : List (String × Nat × String) := [("PluralMint", 262, "no such noun"), ("PluralMint", 271, "many is out of range"), ("PluralMint", 98, "there would be too many heaps"), ("PluralMint", 122, "the noun has fewer coins"), ("PluralMint", 265, "no such die"), ("PluralMint", 150, "die 0 stays"), ("PluralMint", 166, "the table is empty"), ("PluralMint", 173, "the text is full"), ("PluralMint", 276, "the text is not valid"), ("PluralMint", 194, "an order cannot be carried out"), ("PluralMint", 203, "no state is recorded"), ("PluralMint", 215, "there is no snapshot"), ("PluralMint", 267, "no such letter"), ("PluralMint", 274, "count is out of range"), ("PluralMint", 281, "the text is not a single word")]
def gNc : List (String × String) := [("java/lang/IllegalArgumentException", "java/lang/IndexOutOfBoundsException"), ("java/lang/IllegalStateException", "java/lang/IndexOutOfBoundsException"), ("java/lang/IndexOutOfBoundsException", "java/lang/IllegalArgumentException"), ("java/lang/IllegalStateException", "java/lang/IllegalArgumentException"), ("java/lang/IndexOutOfBoundsException", "java/lang/IllegalStateException"), ("java/lang/IllegalArgumentException", "java/lang/IllegalStateException")]
end
section
/-! ===== the abstract machine: a method's walk over a heap that is a function, one judgement (gG), a row an instruction ===== -/
abbrev Mi_ : Type := MethodName × ByteArray × Nat × Option FieldType × List (Nat × Nat × Nat × Nat)
abbrev Ent_ : Type := (Bool × FieldType × vp_A) ⊕ (Nat × List Value)
abbrev Hp_ : Type := Nat → Option Ent_
abbrev Ot_ : Type := Option Value ⊕ String
def gAll : List Cond := lw_tbl.filter goodWord
def gOthK : Cond → Bool
  | .fieldLinkNest .. => true
  | .methodLinkNest .. => true
  | .castable .. => true
  | .arrayOver (.object _) => true
  | _ => false
def gOth : List Cond := lw_tbl.filter gOthK
theorem gAll_of {w : Cond} (i : Nat) (h : lw_tbl[i]? = some w) (hg : goodWord w = true) : w ∈ gAll := List.mem_filter.mpr ⟨List.mem_of_getElem? h, hg⟩
theorem gOth_of {w : Cond} (i : Nat) (h : lw_tbl[i]? = some w) (hg : gOthK w = true) : w ∈ gOth := List.mem_filter.mpr ⟨List.mem_of_getElem? h, hg⟩
theorem gAll_good {w : Cond} (h : w ∈ gAll) : goodWord w = true := (List.mem_filter.mp h).2
theorem gOth_warm {w : Cond} (h : gOthK w = true) {s U : State} (hW : s.WarmedH U.vm) (hz : va_Nw w s) : va_Nw w U := by
  cases w with
  | fieldLinkNest a b c d e f => exact va_Nw.warmF hW hz
  | methodLinkNest a b c d => exact va_Nw.warmM hW hz
  | castable a b => exact va_Nw.warmC hW hz
  | arrayOver ty =>
    cases ty with
    | object C => exact va_AO.moved (C := C) hW.alike hz
    | _ => simp [gOthK] at h
  | _ => simp [gOthK] at h
theorem gOth_same {w : Cond} (h : gOthK w = true) {s U : State} (hv : s.vm = U.vm) (hz : va_Nw w s) : va_Nw w U := by
  cases w with
  | fieldLinkNest a b c d e f => exact va_Nw.same rfl hv hz
  | methodLinkNest a b c d => exact va_Nw.same rfl hv hz
  | castable a b => exact va_Nw.same rfl hv hz
  | arrayOver ty =>
    cases ty with
    | object C => exact va_AO.moved (C := C) (by rw [hv]; exact Vm.Alike.refl _) hz
    | _ => simp [gOthK] at h
  | _ => simp [gOthK] at h
theorem gOth_use {w : Cond} (h : gOthK w = true) {s : State} {args : Array Value} (hz : va_Nw w s) : w.before args s = true := by
  cases w with
  | fieldLinkNest a b c d e f => exact va_Nw.use rfl hz
  | methodLinkNest a b c d => exact va_Nw.use rfl hz
  | castable a b => exact va_Nw.use rfl hz
  | arrayOver ty =>
    cases ty with
    | object C => exact va_AO.use (C := C) hz
    | _ => simp [gOthK] at h
  | _ => simp [gOthK] at h
/-- a cell: the script (read only), an array, an object of a class of gCl -/
def gEn (D : va_G) (B : Nat) (s : State) (q : Nat) (e : Ent_) (H : Heap) : Prop := match e with
  | .inl (true, ty, a) => ty = .int ∧ q < B ∧ ∃ f, a.2 = .inl f ∧ va_X q a.1 f s H
  | .inl (false, ty, a) => B ≤ q ∧ ∃ cA : ClassId, H[q]? = some (vp_cell cA a) ∧ ArrOfT s cA ty ∧ va_RA s cA ty
  | .inr (ci, fs) => B ≤ q ∧ ∃ r : vw_C, gCl[ci]? = some r ∧ fs.length = r.2.2 ∧ t_OB q (D.1 ci) r.2.2 (D.2 ci) H (vp_V fs)
def gW (D : va_G) (B : Nat) (s : State) (h : Hp_) (H : Heap) : Prop := B ≤ H.size ∧ ∀ (q : Nat) (e : Ent_), h q = some e → gEn D B s q e H
/-- what stays true of the machine's tables, and of what lies below B -/
def gE (D : va_G) (B : Nat) (U : State) (H : Heap) : Prop :=
  va_K D gCl [] U ∧ vx_Zq Bundle.tN "UNASSIGNED_STACK" Bundle.steD (fun q => B ≤ q) U H ∧ vx_Zq Bundle.tN "SUPPRESSED_SENTINEL" Bundle.listD (fun q => B ≤ q) U H ∧ (∀ q ∈ gStr, ∃ sa, vk_R q.1 q.2.1 q.2.2 sa U) ∧ (∀ w ∈ gOth, va_Nw w U) ∧ ∀ q ∈ gNc, va_Nc q.1 q.2 U
theorem gEn_at {D : va_G} {B : Nat} {s U : State} {q : Nat} {e : Ent_} {H : Heap} (hvm : s.vm.Alike U.vm) (h : gEn D B s q e H) : gEn D B U q e H := by
  rcases e with ⟨b, ty, a⟩ | ⟨ci, fs⟩
  · cases b with
    | true =>
      obtain ⟨h1, h2, f, h3, h4⟩ := h
      exact ⟨h1, h2, f, h3, va_X.moved hvm h4⟩
    | false =>
      obtain ⟨h1, cA, h2, h3, h4⟩ := h
      exact ⟨h1, cA, h2, arrOfT_moved hvm h3, h4.moved hvm⟩
  · exact h
theorem gEn_kept {D : va_G} {B : Nat} {s : State} {q : Nat} {e : Ent_} {H H1 : Heap} (h : gEn D B s q e H) (hq : H1[q]? = H[q]?) : gEn D B s q e H1 := by
  rcases e with ⟨b, ty, a⟩ | ⟨ci, fs⟩
  · cases b with
    | true =>
      obtain ⟨h1, h2, f, h3, h4⟩ := h
      exact ⟨h1, h2, f, h3, va_X.kept h4 hq⟩
    | false =>
      obtain ⟨h1, cA, h2, h3⟩ := h
      exact ⟨h1, cA, hq.trans h2, h3⟩
  · obtain ⟨h1, r, h2, h3, h4⟩ := h
    exact ⟨h1, r, h2, h3, h4.kept hq⟩
theorem gEn_lt {D : va_G} {B : Nat} {s : State} {q : Nat} {e : Ent_} {H : Heap} (h : gEn D B s q e H) : q < H.size := by
  rcases e with ⟨b, ty, a⟩ | ⟨ci, fs⟩
  · cases b with
    | true =>
      obtain ⟨h1, h2, f, h3, scr, h4, -⟩ := h
      exact (Array.getElem?_eq_some_iff.mp h4).1
    | false =>
      obtain ⟨h1, cA, h2, h3⟩ := h
      exact (Array.getElem?_eq_some_iff.mp h2).1
  · obtain ⟨h1, r, h2, h3, cell, h4, -⟩ := h
    exact (Array.getElem?_eq_some_iff.mp h4).1
theorem gW_at {D : va_G} {B : Nat} {s U : State} {h : Hp_} {H : Heap} (hvm : s.vm.Alike U.vm) (hw : gW D B s h H) : gW D B U h H := ⟨hw.1, fun q e hq => gEn_at hvm (hw.2 q e hq)⟩
theorem gE_kept {D : va_G} {B : Nat} {U : State} {H H1 : Heap} (h : gE D B U H) (hq : ∀ a : Nat, a < H.size → ¬ B ≤ a → H1[a]? = H[a]?) : gE D B U H1 := by
  obtain ⟨h1, h2, h3, h4⟩ := h
  exact ⟨h1, h2.kept hq, h3.kept hq, h4⟩
theorem gE_warm {D : va_G} {B : Nat} {s U : State} {H : Heap} (hW : s.WarmedH U.vm) (h : gE D B s H) : gE D B U H := by
  obtain ⟨h1, h2, h3, h4, h5, h6⟩ := h
  refine ⟨va_K.moved hW.alike h1, vx_Zq.moved hW.alike h2, vx_Zq.moved hW.alike h3, fun q hq => ?_, fun w hw => gOth_warm (List.mem_filter.mp hw).2 hW (h5 w hw), fun q hq => va_Nc.moved hW.alike (h6 q hq)⟩
  obtain ⟨sa, h9⟩ := h4 q hq
  exact ⟨sa, vk_R.warm hW h9⟩
theorem gE_same {D : va_G} {B : Nat} {s U : State} {H : Heap} (hv : s.vm = U.vm) (h : gE D B s H) : gE D B U H := by
  have hal : s.vm.Alike U.vm := by rw [hv]; exact Vm.Alike.refl _
  obtain ⟨h1, h2, h3, h4, h5, h6⟩ := h
  refine ⟨va_K.moved hal h1, vx_Zq.moved hal h2, vx_Zq.moved hal h3, fun q hq => ?_, fun w hw => gOth_same (List.mem_filter.mp hw).2 hv (h5 w hw), fun q hq => va_Nc.moved hal (h6 q hq)⟩
  obtain ⟨sa, h9⟩ := h4 q hq
  exact ⟨sa, vk_R.same hv.symm h9⟩
/-- how a method ends: Q of its outcome and of the heap behind it -/
def gQ (Q : Ot_ → Hp_ → Prop) (D : va_G) (B : Nat) : Array Value → State → Outcome → State → Prop := fun _ st o t => (∃ v h', o = .returned v ∧ Q (.inl v) h' ∧ gW D B t h' t.heap) ∧ va_F (fun q => B ≤ q) st t
def gX (Q : Ot_ → Hp_ → Prop) (D : va_G) (B : Nat) : String → State → State → Prop := fun E st t => (∃ h', Q (.inr E) h' ∧ gW D B t h' t.heap) ∧ va_F (fun q => B ≤ q) st t
/-- locals, the last stored first -/
def gl : List (Nat × Value) → Nat → Option Value
  | [], _ => none
  | q :: r, i => if q.1 = i then some q.2 else gl r i
def gL (ls : Array Slot) (nL : Nat) (lv : List (Nat × Value)) : Prop := ls.size = nL ∧ lv_wf ls ∧ ∀ (i : Nat) (v : Value), gl lv i = some v → ls[i]? = some (.val v)
/-- no long lies just below the place -/
def gc (lv : List (Nat × Value)) : Nat → Bool
  | 0 => true
  | i + 1 => match gl lv i with
    | some (.long _) => false
    | some (.double _) => false
    | _ => true
theorem gl_mem {lv : List (Nat × Value)} {i : Nat} {v : Value} (h : gl lv i = some v) : (i, v) ∈ lv := by
  induction lv with
  | nil => cases h
  | cons q r ih =>
    unfold gl at h
    split at h
    · rename_i e
      cases h
      subst e
      exact List.mem_cons_self
    · exact List.mem_cons_of_mem _ (ih h)
theorem gL_of {ls : Array Slot} {nL : Nat} {lv : List (Nat × Value)} (h : lv_has ls nL lv) : gL ls nL lv := ⟨h.1, h.2.1, fun i v hi => h.2.2 (i, v) (gl_mem hi)⟩
theorem gL_store {ls : Array Slot} {nL : Nat} {lv : List (Nat × Value)} {i : Nat} {v : Value} (h : gL ls nL lv) (hi : i < nL) (hv : v.category = 1) (hc : gc lv i = true) : ∃ ls', storeLocals ls i v = some ls' ∧ gL ls' nL ((i, v) :: lv) := by
  obtain ⟨h1, h2, h3⟩ := h
  obtain ⟨ls', e', s1, s2, s3⟩ := lv_store1 (l := []) ⟨h1, h2, fun q hq => by cases hq⟩ hi hv
  refine ⟨ls', e', s1, s2, fun j w hj => ?_⟩
  unfold gl at hj
  split at hj
  · rename_i e
    cases hj
    have e2 : i = j := e
    subst e2
    exact s3 (i, v) List.mem_cons_self
  · rename_i hne
    have hne2 : ¬ i = j := hne
    obtain ⟨ls2, e2, -, -, t3⟩ := lv_store1 (l := [(j, w)]) ⟨h1, h2, fun q hq => by rw [List.mem_singleton.mp hq]; exact h3 j w hj⟩ hi hv
    cases e'.symm.trans e2
    refine t3 (j, w) (List.mem_cons_of_mem _ ?_)
    refine List.mem_filter.mpr ⟨List.mem_singleton.mpr rfl, ?_⟩
    have q1 : (j == i) = false := by simp; exact fun q => hne2 q.symm
    by_cases q2 : j + 1 = i
    · subst q2
      have q3 : (w.category == 2) = false := by
        have hc2 : (match gl lv j with | some (.long _) => false | some (.double _) => false | _ => true) = true := hc
        rw [hj] at hc2
        cases w <;> first | rfl | (simp at hc2)
      simp [q1, q3]
    · have q4 : (j + 1 == i) = false := by simpa using q2
      simp [q1, q4]
theorem gL_sub {ls : Array Slot} {nL : Nat} {lv lv' : List (Nat × Value)} (h : gL ls nL lv) (hs : ∀ (i : Nat) (v : Value), gl lv' i = some v → gl lv i = some v) : gL ls nL lv' := ⟨h.1, h.2.1, fun i v hi => h.2.2 i v (hs i v hi)⟩
/-- the fixed context of a method's walk -/
def gC (l : Launch) (D : va_G) (B : Nat) (p : Program) (R : Room) (s : State) (m : MethodId) (args : Array Value) (meth : Method) (c : Code) (cells slots mc ms : Nat) (fr lo kc ks : Nat) (M : Mi_) : Prop :=
  p.tables.exec = Jvm.exec ∧ c.code = M.2.1 ∧ meth.sig.returnType = M.2.2.2.1 ∧ c.maxLocals = M.2.2.1 ∧ s.vm.findClass M.1.cls = some m.cls ∧ (∀ w ∈ gAll, w.before args s = true) ∧ meth.locks = false ∧ meth.name = M.1.name ∧ c.exceptionTable.toList = tableOf M.2.2.2.2 ∧ l.stackTraces = false ∧ gE D B s s.heap ∧ B ≤ s.heap.size ∧ fr ≤ R.frames ∧ lo ≤ R.locals ∧ cells + kc ≤ mc ∧ slots + ks ≤ ms ∧ mc ≤ R.cells ∧ ms ≤ R.slots
def gG (fr lo kc ks : Nat) (M : Mi_) (pc : Nat) (lv : List (Nat × Value)) (st : List Value) (h : Hp_) (Q : Ot_ → Hp_ → Prop) : Prop :=
  ∀ {l : Launch} {D : va_G} {B : Nat} {p : Program} {e : Env} {R : Room} {s : State} {m : MethodId} {args : Array Value} {below : List Frame} {meth : Method} {c : Code} {H : Heap} {locs : List Loc} {cells slots mc ms : Nat} {ls : Array Slot},
    gC l D B p R s m args meth c cells slots mc ms fr lo kc ks M → gW D B s h H → va_S (fun q => B ≤ q) s.heap H locs → gL ls M.2.2.1 lv →
    W p l e R s m args below meth c H locs cells slots (vx_MQ below (gQ Q D B) (gX Q D B) args s mc ms (fun q => B ≤ q)) (F0 m pc ls st)
/-- a throw on its way, seen from the method's frame -/
def gGX (fr lo kc ks : Nat) (M : Mi_) (pc : Nat) (lv : List (Nat × Value)) (E : String) (h : Hp_) (Q : Ot_ → Hp_ → Prop) : Prop :=
  ∀ {l : Launch} {D : va_G} {B : Nat} {p : Program} {e : Env} {R : Room} {s : State} {m : MethodId} {args : Array Value} {below : List Frame} {meth : Method} {c : Code} {H : Heap} {locs : List Loc} {cells slots mc ms : Nat} {ls : Array Slot} {rest : List Value} {q : Addr} {ce : Cell},
    gC l D B p R s m args meth c cells slots mc ms fr lo kc ks M → gW D B s h H → va_S (fun q => B ≤ q) s.heap H locs → gL ls M.2.2.1 lv → H[q]? = some ce → ce.vm = .none → s.vm.findClass E = some ce.cls →
    vx_W p l e R s m args below meth c H locs cells slots (vx_MQ below (gQ Q D B) (gX Q D B) args s mc ms (fun q => B ≤ q)) (F0 m pc ls rest) q
theorem gMQ_mono {Q Q' : Ot_ → Hp_ → Prop} (hq : ∀ o h, Q o h → Q' o h) {D : va_G} {B : Nat} {below : List Frame} {args : Array Value} {s : State} {mc ms : Nat} {free : Addr → Prop} {t : State} (h : vx_MQ below (gQ Q D B) (gX Q D B) args s mc ms free t) : vx_MQ below (gQ Q' D B) (gX Q' D B) args s mc ms free t := by
  obtain ⟨o, h1, h2, h3⟩ := h
  refine ⟨o, h1, h2, ?_⟩
  rcases h3 with ⟨⟨⟨v, h', a1, a2, a3⟩, a4⟩, h5⟩ | ⟨q, h5, E, ce, L, ⟨⟨h', b1, b2⟩, b3⟩, h6⟩
  · exact Or.inl ⟨⟨⟨v, h', a1, hq _ _ a2, a3⟩, a4⟩, h5⟩
  · exact Or.inr ⟨q, h5, E, ce, L, ⟨⟨h', hq _ _ b1, b2⟩, b3⟩, h6⟩
theorem gG_mono {fr lo kc ks : Nat} {M : Mi_} {pc : Nat} {lv : List (Nat × Value)} {st : List Value} {h : Hp_} {Q Q' : Ot_ → Hp_ → Prop} (hq : ∀ o h', Q o h' → Q' o h') (k : gG fr lo kc ks M pc lv st h Q) : gG fr lo kc ks M pc lv st h Q' := by
  intro l D B p e R s m args below meth c H locs cells slots mc ms ls C hW hS hL T hT X
  obtain ⟨t, a, b⟩ := k C hW hS hL T hT X
  exact ⟨t, a, gMQ_mono hq b⟩
theorem gC_room {l : Launch} {D : va_G} {B : Nat} {p : Program} {R : Room} {s : State} {m : MethodId} {args : Array Value} {meth : Method} {c : Code} {cells slots mc ms fr lo kc ks fr' lo' kc' ks' : Nat} {M : Mi_} (C : gC l D B p R s m args meth c cells slots mc ms fr lo kc ks M) (h1 : fr' ≤ fr) (h2 : lo' ≤ lo) (h3 : kc' ≤ kc) (h4 : ks' ≤ ks) : gC l D B p R s m args meth c cells slots mc ms fr' lo' kc' ks' M := by
  obtain ⟨c1, c2, c3, c4, c5, c6, c7, c8, c9, c10, c11, c12, c13, c14, c15, c16, c17, c18⟩ := C
  exact ⟨c1, c2, c3, c4, c5, c6, c7, c8, c9, c10, c11, c12, by omega, by omega, by omega, by omega, c17, c18⟩
theorem gG_room {fr lo kc ks fr' lo' kc' ks' : Nat} {M : Mi_} {pc : Nat} {lv : List (Nat × Value)} {st : List Value} {h : Hp_} {Q : Ot_ → Hp_ → Prop} (h1 : fr' ≤ fr) (h2 : lo' ≤ lo) (h3 : kc' ≤ kc) (h4 : ks' ≤ ks) (k : gG fr' lo' kc' ks' M pc lv st h Q) : gG fr lo kc ks M pc lv st h Q := by
  intro l D B p e R s m args below meth c H locs cells slots mc ms ls C hW hS hL
  exact k (gC_room C h1 h2 h3 h4) hW hS hL
theorem gG_lv {fr lo kc ks : Nat} {M : Mi_} {pc : Nat} {lv lv' : List (Nat × Value)} {st : List Value} {h : Hp_} {Q : Ot_ → Hp_ → Prop} (hs : ∀ (i : Nat) (v : Value), gl lv' i = some v → gl lv i = some v) (k : gG fr lo kc ks M pc lv' st h Q) : gG fr lo kc ks M pc lv st h Q := by
  intro l D B p e R s m args below meth c H locs cells slots mc ms ls C hW hS hL
  exact k C hW hS (gL_sub hL hs)
/-- the start of a method's contract -/
def gP (D : va_G) (B : Nat) (av : List Value) (h : Hp_) : Array Value → State → Prop := va_Pc av (fun U => gW D B U h U.heap ∧ gE D B U U.heap ∧ B ≤ U.heap.size)
def gHead (M : Mi_) : Cond := match M.2.2.2.2 with
  | [] => .code M.1 M.2.1 M.2.2.1 M.2.2.2.1
  | hh => .codeWith M.1 M.2.1 M.2.2.1 M.2.2.2.1 hh
def gRm (fr lo kc ks : Nat) : Room := { frames := fr, cells := kc, slots := ks, locals := lo }
def gMt (l : Launch) (D : va_G) (B : Nat) (fr lo kc ks : Nat) (M : Mi_) (av : List Value) (h : Hp_) (Q : Ot_ → Hp_ → Prop) : Prop :=
  vx_Met l M.1 (gHead M :: gAll) (gRm fr lo kc ks) (gP D B av h) (gQ Q D B) (gX Q D B) kc ks (fun q => B ≤ q)
theorem gP_blind {D : va_G} {B : Nat} {av : List Value} {h : Hp_} : FrameBlind (gP D B av h) := by
  intro a U g mk hp
  obtain ⟨h1, h2, h3, h4⟩ := hp
  have e1 : (U.calling g mk a).heap = U.heap := rfl
  have e2 : U.vm = (U.calling g mk a).vm := rfl
  refine ⟨h1, ?_, ?_, ?_⟩
  · rw [e1]; exact gW_at (by rw [← e2]; exact Vm.Alike.refl U.vm) h2
  · rw [e1]; exact gE_same e2 h3
  · rw [e1]; exact h4
theorem gP_call {D : va_G} {B : Nat} {av : List Value} {h : Hp_} {s : State} {H : Heap} {locs : List Loc} (hE : gE D B s s.heap) (hW : gW D B s h H) (hS : va_S (fun q => B ≤ q) s.heap H locs) (U : State) (hU : U.heap = H) (hWm : s.WarmedH U.vm) : gP D B av h av.toArray U := by
  refine ⟨rfl, ?_, ?_, ?_⟩
  · rw [hU]; exact gW_at hWm.alike hW
  · rw [hU]; exact gE_warm hWm (gE_kept hE hS.2.1)
  · rw [hU]; exact hW.1
theorem gMt_of {fr lo kc ks : Nat} {M : Mi_} {av : List Value} {h : Hp_} {Q : Ot_ → Hp_ → Prop} (hpl : plainName M.1.cls = true) (hsz : (lg_sl av).length ≤ M.2.2.1) (k : gG fr lo kc ks M 0 (lv_args 0 av) [] h Q) {l : Launch} (hl : l.stackTraces = false) (D : va_G) (B : Nat) : gMt l D B fr lo kc ks M av h Q := by
  have fin : ∀ (p : Program) (e : Env) (s : State) (m : MethodId) (args : Array Value) (below : List Frame) (meth : Method) (c : Code) (s₁ : State), BodyLoose p l M.1 (headSpec (gHead M :: gAll) (gRm fr lo kc ks)) M.2.1 M.2.2.1 M.2.2.2.1 e s m args below meth c s₁ → c.maxLocals = M.2.2.1 → c.exceptionTable.toList = tableOf M.2.2.2.2 → gP D B av h args s →
      W p l e (headSpec (gHead M :: gAll) (gRm fr lo kc ks)).room s m args below meth c s.heap [] 0 0 (vx_MQ below (gQ Q D B) (gX Q D B) args s kc ks (fun q => B ≤ q)) (entryFrame m args M.2.2.1) := by
    intro p e s m args below meth c s₁ Bd hml htb hP
    obtain ⟨rfl, hW, hE, hB⟩ := hP
    rw [lg_entry_eq]
    have hl9 := lv_entry av (n := M.2.2.1) hsz
    refine k (mc := kc) (ms := ks) ⟨Bd.exec, Bd.bytes, Bd.returns, hml, findClass_of_methodNamed Bd.named, fun w hw => atoms_spec (ws := gHead M :: gAll) Bd.pre w (List.mem_cons_of_mem _ hw), Bd.notSynchronized, (name_of_methodNamed Bd.named Bd.method).1, htb, hl, hE, hB, Nat.le_refl _, Nat.le_refl _, by omega, by omega, Nat.le_refl _, Nat.le_refl _⟩ hW va_S.rf (gL_of hl9)
  obtain ⟨y, bt, mL, rt, hh⟩ := M
  cases hh with
  | nil => exact vx_ofW (cc := bt) (maxL := mL) (ret := rt) hpl rfl (fun p e s m args below meth c s₁ Bd hml ht hP => fin p e s m args below meth c s₁ Bd hml (by
      have h9 : c.exceptionTable.toList = [] := by
        cases hc : c.exceptionTable.toList with
        | nil => rfl
        | cons a b => exact (ht a (by rw [hc]; exact List.mem_cons_self)).elim
      rw [h9]; rfl) hP)
  | cons z zs => exact vx_ofWH (cc := bt) (maxL := mL) (ret := rt) (hh := z :: zs) hpl rfl (fun p e s m args below meth c s₁ Bd hml hP => fin p e s m args below meth c s₁ Bd hml (vx_table (x := y) Bd (atoms_spec (ws := gHead (y, bt, mL, rt, z :: zs) :: gAll) Bd.pre _ List.mem_cons_self)) hP)
end
section
section GROWS
variable {fr lo kc ks pc : Nat} {M : Mi_} {lv : List (Nat × Value)} {st : List Value} {h : Hp_} {Q : Ot_ → Hp_ → Prop}
theorem g_iload {i : Nat} {x : Int32} (d : decode M.2.1 pc = .ok (.iload i, 2)) (hl : gl lv i = some (.int x)) (k : gG fr lo kc ks M (pc + 2) lv (.int x :: st) h Q) : gG fr lo kc ks M pc lv (st) h Q := by
  intro l D B p e R s m args below meth c H locs cells slots mc ms ls C hW hS hL
  exact lv_iload C.1 C.2.1 d (hL.2.2 _ _ hl) (k C hW hS hL)
theorem g_iloadn {i : Fin 4} {x : Int32} (d : decode M.2.1 pc = .ok (.iload_n i, 1)) (hl : gl lv (i : Nat) = some (.int x)) (k : gG fr lo kc ks M (pc + 1) lv (.int x :: st) h Q) : gG fr lo kc ks M pc lv (st) h Q := by
  intro l D B p e R s m args below meth c H locs cells slots mc ms ls C hW hS hL
  exact lv_iload_n C.1 C.2.1 d rfl (hL.2.2 _ _ hl) (k C hW hS hL)
theorem g_lload {i : Nat} {x : Int64} (d : decode M.2.1 pc = .ok (.lload i, 2)) (hl : gl lv i = some (.long x)) (k : gG fr lo kc ks M (pc + 2) lv (.long x :: st) h Q) : gG fr lo kc ks M pc lv (st) h Q := by
  intro l D B p e R s m args below meth c H locs cells slots mc ms ls C hW hS hL
  exact lv_lload C.1 C.2.1 d (hL.2.2 _ _ hl) (k C hW hS hL)
theorem g_lloadn {i : Fin 4} {x : Int64} (d : decode M.2.1 pc = .ok (.lload_n i, 1)) (hl : gl lv (i : Nat) = some (.long x)) (k : gG fr lo kc ks M (pc + 1) lv (.long x :: st) h Q) : gG fr lo kc ks M pc lv (st) h Q := by
  intro l D B p e R s m args below meth c H locs cells slots mc ms ls C hW hS hL
  exact lv_lload_n C.1 C.2.1 d rfl (hL.2.2 _ _ hl) (k C hW hS hL)
theorem g_aload {i x : Nat} (d : decode M.2.1 pc = .ok (.aload i, 2)) (hl : gl lv i = some (.ref x)) (k : gG fr lo kc ks M (pc + 2) lv (.ref x :: st) h Q) : gG fr lo kc ks M pc lv (st) h Q := by
  intro l D B p e R s m args below meth c H locs cells slots mc ms ls C hW hS hL
  exact lv_aload C.1 C.2.1 d (hL.2.2 _ _ hl) (k C hW hS hL)
theorem g_aloadn {i : Fin 4} {x : Nat} (d : decode M.2.1 pc = .ok (.aload_n i, 1)) (hl : gl lv (i : Nat) = some (.ref x)) (k : gG fr lo kc ks M (pc + 1) lv (.ref x :: st) h Q) : gG fr lo kc ks M pc lv (st) h Q := by
  intro l D B p e R s m args below meth c H locs cells slots mc ms ls C hW hS hL
  exact lv_aload_n C.1 C.2.1 d rfl (hL.2.2 _ _ hl) (k C hW hS hL)
theorem g_istore {i : Nat} {x : Int32} (d : decode M.2.1 pc = .ok (.istore i, 2)) (hi : i < M.2.2.1) (hc : gc lv i = true) (k : gG fr lo kc ks M (pc + 2) ((i, .int x) :: lv) st h Q) : gG fr lo kc ks M pc lv (.int x :: st) h Q := by
  intro l D B p e R s m args below meth c H locs cells slots mc ms ls C hW hS hL
  obtain ⟨ls', e', hL'⟩ := gL_store (v := .int x) hL hi rfl hc
  have hx := C.1
  have hb := C.2.1
  intro T hT X
  obtain ⟨t, a, b⟩ := k C hW hS hL' T hT X
  refine ⟨t, ?_, b⟩
  jvm_step X.here [X.here.top, ↓top_set X.here.top, hx, hb, d, e']
  exact a
theorem g_istoren {i : Fin 4} {x : Int32} (d : decode M.2.1 pc = .ok (.istore_n i, 1)) (hi : (i : Nat) < M.2.2.1) (hc : gc lv (i : Nat) = true) (k : gG fr lo kc ks M (pc + 1) (((i : Nat), .int x) :: lv) st h Q) : gG fr lo kc ks M pc lv (.int x :: st) h Q := by
  intro l D B p e R s m args below meth c H locs cells slots mc ms ls C hW hS hL
  obtain ⟨ls', e', hL'⟩ := gL_store (v := .int x) hL hi rfl hc
  have hx := C.1
  have hb := C.2.1
  intro T hT X
  obtain ⟨t, a, b⟩ := k C hW hS hL' T hT X
  refine ⟨t, ?_, b⟩
  jvm_step X.here [X.here.top, ↓top_set X.here.top, hx, hb, d, e']
  exact a
theorem g_astore {i : Nat} {x : Nat} (d : decode M.2.1 pc = .ok (.astore i, 2)) (hi : i < M.2.2.1) (hc : gc lv i = true) (k : gG fr lo kc ks M (pc + 2) ((i, .ref x) :: lv) st h Q) : gG fr lo kc ks M pc lv (.ref x :: st) h Q := by
  intro l D B p e R s m args below meth c H locs cells slots mc ms ls C hW hS hL
  obtain ⟨ls', e', hL'⟩ := gL_store (v := .ref x) hL hi rfl hc
  have hx := C.1
  have hb := C.2.1
  intro T hT X
  obtain ⟨t, a, b⟩ := k C hW hS hL' T hT X
  refine ⟨t, ?_, b⟩
  jvm_step X.here [X.here.top, ↓top_set X.here.top, hx, hb, d, e', Value.isRef]
  exact a
theorem g_astoren {i : Fin 4} {x : Nat} (d : decode M.2.1 pc = .ok (.astore_n i, 1)) (hi : (i : Nat) < M.2.2.1) (hc : gc lv (i : Nat) = true) (k : gG fr lo kc ks M (pc + 1) (((i : Nat), .ref x) :: lv) st h Q) : gG fr lo kc ks M pc lv (.ref x :: st) h Q := by
  intro l D B p e R s m args below meth c H locs cells slots mc ms ls C hW hS hL
  obtain ⟨ls', e', hL'⟩ := gL_store (v := .ref x) hL hi rfl hc
  have hx := C.1
  have hb := C.2.1
  intro T hT X
  obtain ⟨t, a, b⟩ := k C hW hS hL' T hT X
  refine ⟨t, ?_, b⟩
  jvm_step X.here [X.here.top, ↓top_set X.here.top, hx, hb, d, e', Value.isRef]
  exact a
theorem g_iinc {i : Nat} {n : Int} {x : Int32} (d : decode M.2.1 pc = .ok (.iinc i n, 3)) (hl : gl lv i = some (.int x)) (hi : i < M.2.2.1) (hc : gc lv i = true) (k : gG fr lo kc ks M (pc + 3) ((i, .int (x + Int32.ofInt n)) :: lv) st h Q) : gG fr lo kc ks M pc lv st h Q := by
  intro l D B p e R s m args below meth c H locs cells slots mc ms ls C hW hS hL
  obtain ⟨ls', e', hL'⟩ := gL_store (v := .int (x + Int32.ofInt n)) hL hi rfl hc
  have hg := hL.2.2 _ _ hl
  have hx := C.1
  have hb := C.2.1
  intro T hT X
  obtain ⟨t, a, b⟩ := k C hW hS hL' T hT X
  refine ⟨t, ?_, b⟩
  jvm_step X.here [X.here.top, ↓top_set X.here.top, hx, hb, d, hg, e']
  exact a
theorem g_iconst {n : Int} (d : decode M.2.1 pc = .ok (.iconst n, 1))  (k : gG fr lo kc ks M (pc + 1) lv (.int (Int32.ofInt n) :: st) h Q) : gG fr lo kc ks M pc lv (st) h Q := by
  intro l D B p e R s m args below meth c H locs cells slots mc ms ls C hW hS hL
  exact lv_iconst C.1 C.2.1 d rfl (k C hW hS hL)
theorem g_bipush {n : Int} (d : decode M.2.1 pc = .ok (.bipush n, 2))  (k : gG fr lo kc ks M (pc + 2) lv (.int (Int8.ofInt n).toInt32 :: st) h Q) : gG fr lo kc ks M pc lv (st) h Q := by
  intro l D B p e R s m args below meth c H locs cells slots mc ms ls C hW hS hL
  exact lv_bipush C.1 C.2.1 d rfl (k C hW hS hL)
theorem g_sipush {n : Int} (d : decode M.2.1 pc = .ok (.sipush n, 3))  (k : gG fr lo kc ks M (pc + 3) lv (.int (Int16.ofInt n).toInt32 :: st) h Q) : gG fr lo kc ks M pc lv (st) h Q := by
  intro l D B p e R s m args below meth c H locs cells slots mc ms ls C hW hS hL
  exact lv_sipush C.1 C.2.1 d rfl (k C hW hS hL)
theorem g_lconst {n : Fin 2} (d : decode M.2.1 pc = .ok (.lconst n, 1))  (k : gG fr lo kc ks M (pc + 1) lv (.long (Int64.ofNat (n : Nat)) :: st) h Q) : gG fr lo kc ks M pc lv (st) h Q := by
  intro l D B p e R s m args below meth c H locs cells slots mc ms ls C hW hS hL
  exact lv_lconst C.1 C.2.1 d rfl (k C hW hS hL)
theorem g_ldc2 {idx : Nat} {v : Int64} (d : decode M.2.1 pc = .ok (.ldc2_w idx, 3)) (hw : Cond.constantLong M.1.cls idx v ∈ gAll) (k : gG fr lo kc ks M (pc + 3) lv (.long v :: st) h Q) : gG fr lo kc ks M pc lv (st) h Q := by
  intro l D B p e R s m args below meth c H locs cells slots mc ms ls C hW hS hL
  exact lv_ldc2 C.1 C.2.1 C.2.2.2.2.1 (C.2.2.2.2.2.1 _ hw) d (k C hW hS hL)
theorem g_ldc {idx : Nat} {v : Int32} (d : decode M.2.1 pc = .ok (.ldc idx, 2)) (hw : Cond.constant M.1.cls idx v ∈ gAll) (k : gG fr lo kc ks M (pc + 2) lv (.int v :: st) h Q) : gG fr lo kc ks M pc lv (st) h Q := by
  intro l D B p e R s m args below meth c H locs cells slots mc ms ls C hW hS hL
  exact lv_ldc C.1 C.2.1 C.2.2.2.2.1 (C.2.2.2.2.2.1 _ hw) d (k C hW hS hL)
theorem g_dup {v : Value} (d : decode M.2.1 pc = .ok (.dup, 1)) (hv : v.category = 1) (k : gG fr lo kc ks M (pc + 1) lv (v :: v :: st) h Q) : gG fr lo kc ks M pc lv (v :: st) h Q := by
  intro l D B p e R s m args below meth c H locs cells slots mc ms ls C hW hS hL
  exact lv_dup C.1 C.2.1 d hv (k C hW hS hL)
theorem g_dup2 {v w : Value} (d : decode M.2.1 pc = .ok (.dup2, 1)) (hv : v.category = 1) (hw : w.category = 1) (k : gG fr lo kc ks M (pc + 1) lv (v :: w :: v :: w :: st) h Q) : gG fr lo kc ks M pc lv (v :: w :: st) h Q := by
  intro l D B p e R s m args below meth c H locs cells slots mc ms ls C hW hS hL
  exact lv_dup2_11 C.1 C.2.1 d hv hw (k C hW hS hL)
theorem g_pop {v : Value} (d : decode M.2.1 pc = .ok (.pop, 1)) (hv : v.category = 1) (k : gG fr lo kc ks M (pc + 1) lv (st) h Q) : gG fr lo kc ks M pc lv (v :: st) h Q := by
  intro l D B p e R s m args below meth c H locs cells slots mc ms ls C hW hS hL
  exact lv_pop C.1 C.2.1 d hv (k C hW hS hL)
theorem g_iadd {x y : Int32} (d : decode M.2.1 pc = .ok (.iadd, 1))  (k : gG fr lo kc ks M (pc + 1) lv (.int (x + y) :: st) h Q) : gG fr lo kc ks M pc lv (.int y :: .int x :: st) h Q := by
  intro l D B p e R s m args below meth c H locs cells slots mc ms ls C hW hS hL
  exact lv_iadd C.1 C.2.1 d (k C hW hS hL)
theorem g_isub {x y : Int32} (d : decode M.2.1 pc = .ok (.isub, 1))  (k : gG fr lo kc ks M (pc + 1) lv (.int (x - y) :: st) h Q) : gG fr lo kc ks M pc lv (.int y :: .int x :: st) h Q := by
  intro l D B p e R s m args below meth c H locs cells slots mc ms ls C hW hS hL
  exact lv_isub C.1 C.2.1 d (k C hW hS hL)
theorem g_imul {x y : Int32} (d : decode M.2.1 pc = .ok (.imul, 1))  (k : gG fr lo kc ks M (pc + 1) lv (.int (x * y) :: st) h Q) : gG fr lo kc ks M pc lv (.int y :: .int x :: st) h Q := by
  intro l D B p e R s m args below meth c H locs cells slots mc ms ls C hW hS hL
  exact lv_imul C.1 C.2.1 d (k C hW hS hL)
theorem g_iand {x y : Int32} (d : decode M.2.1 pc = .ok (.iand, 1))  (k : gG fr lo kc ks M (pc + 1) lv (.int (x &&& y) :: st) h Q) : gG fr lo kc ks M pc lv (.int y :: .int x :: st) h Q := by
  intro l D B p e R s m args below meth c H locs cells slots mc ms ls C hW hS hL
  exact lv_iand C.1 C.2.1 d (k C hW hS hL)
theorem g_ior {x y : Int32} (d : decode M.2.1 pc = .ok (.ior, 1))  (k : gG fr lo kc ks M (pc + 1) lv (.int (x ||| y) :: st) h Q) : gG fr lo kc ks M pc lv (.int y :: .int x :: st) h Q := by
  intro l D B p e R s m args below meth c H locs cells slots mc ms ls C hW hS hL
  exact lv_ior C.1 C.2.1 d (k C hW hS hL)
theorem g_ixor {x y : Int32} (d : decode M.2.1 pc = .ok (.ixor, 1))  (k : gG fr lo kc ks M (pc + 1) lv (.int (x ^^^ y) :: st) h Q) : gG fr lo kc ks M pc lv (.int y :: .int x :: st) h Q := by
  intro l D B p e R s m args below meth c H locs cells slots mc ms ls C hW hS hL
  exact lv_ixor C.1 C.2.1 d (k C hW hS hL)
theorem g_ladd {x y : Int64} (d : decode M.2.1 pc = .ok (.ladd, 1))  (k : gG fr lo kc ks M (pc + 1) lv (.long (x + y) :: st) h Q) : gG fr lo kc ks M pc lv (.long y :: .long x :: st) h Q := by
  intro l D B p e R s m args below meth c H locs cells slots mc ms ls C hW hS hL
  exact lv_ladd C.1 C.2.1 d (k C hW hS hL)
theorem g_lsub {x y : Int64} (d : decode M.2.1 pc = .ok (.lsub, 1))  (k : gG fr lo kc ks M (pc + 1) lv (.long (x - y) :: st) h Q) : gG fr lo kc ks M pc lv (.long y :: .long x :: st) h Q := by
  intro l D B p e R s m args below meth c H locs cells slots mc ms ls C hW hS hL
  exact lv_lsub C.1 C.2.1 d (k C hW hS hL)
theorem g_lmul {x y : Int64} (d : decode M.2.1 pc = .ok (.lmul, 1))  (k : gG fr lo kc ks M (pc + 1) lv (.long (x * y) :: st) h Q) : gG fr lo kc ks M pc lv (.long y :: .long x :: st) h Q := by
  intro l D B p e R s m args below meth c H locs cells slots mc ms ls C hW hS hL
  exact lv_lmul C.1 C.2.1 d (k C hW hS hL)
theorem g_ineg {x : Int32} (d : decode M.2.1 pc = .ok (.ineg, 1))  (k : gG fr lo kc ks M (pc + 1) lv (.int (-x) :: st) h Q) : gG fr lo kc ks M pc lv (.int x :: st) h Q := by
  intro l D B p e R s m args below meth c H locs cells slots mc ms ls C hW hS hL
  exact lv_ineg C.1 C.2.1 d (k C hW hS hL)
theorem g_i2l {x : Int32} (d : decode M.2.1 pc = .ok (.i2l, 1))  (k : gG fr lo kc ks M (pc + 1) lv (.long x.toInt64 :: st) h Q) : gG fr lo kc ks M pc lv (.int x :: st) h Q := by
  intro l D B p e R s m args below meth c H locs cells slots mc ms ls C hW hS hL
  exact lv_i2l C.1 C.2.1 d rfl (k C hW hS hL)
theorem g_i2c {x : Int32} (d : decode M.2.1 pc = .ok (.i2c, 1))  (k : gG fr lo kc ks M (pc + 1) lv (.int (x.toUInt32 % 65536).toInt32 :: st) h Q) : gG fr lo kc ks M pc lv (.int x :: st) h Q := by
  intro l D B p e R s m args below meth c H locs cells slots mc ms ls C hW hS hL
  exact lv_i2c C.1 C.2.1 d rfl (k C hW hS hL)
theorem g_lcmp {x y : Int64} (d : decode M.2.1 pc = .ok (.lcmp, 1))  (k : gG fr lo kc ks M (pc + 1) lv (.int (lg_cmp x y) :: st) h Q) : gG fr lo kc ks M pc lv (.long y :: .long x :: st) h Q := by
  intro l D B p e R s m args below meth c H locs cells slots mc ms ls C hW hS hL
  exact W.lcmp C.1 C.2.1 d (k C hW hS hL)
theorem g_icmp_eq {x y : Int32} {off : Int} {tgt : Nat} (d : decode M.2.1 pc = .ok (.if_icmp .eq off, 3)) (ht : (pc : Int) + off = (tgt : Int)) (kt : x = y → gG fr lo kc ks M tgt lv st h Q) (kf : ¬ x = y → gG fr lo kc ks M (pc + 3) lv st h Q) : gG fr lo kc ks M pc lv (.int y :: .int x :: st) h Q := by
  intro l D B p e R s m args below meth c H locs cells slots mc ms ls C hW hS hL
  exact lv_icmp_eq C.1 C.2.1 d ht (fun q => kt q C hW hS hL) (fun q => kf q C hW hS hL)
theorem g_if_eq {x : Int32} {off : Int} {tgt : Nat} (d : decode M.2.1 pc = .ok (.ifCond .eq off, 3)) (ht : (pc : Int) + off = (tgt : Int)) (kt : x = 0 → gG fr lo kc ks M tgt lv st h Q) (kf : ¬ x = 0 → gG fr lo kc ks M (pc + 3) lv st h Q) : gG fr lo kc ks M pc lv (.int x :: st) h Q := by
  intro l D B p e R s m args below meth c H locs cells slots mc ms ls C hW hS hL
  exact lv_if_eq C.1 C.2.1 d ht (fun q => kt q C hW hS hL) (fun q => kf q C hW hS hL)
theorem g_icmp_ne {x y : Int32} {off : Int} {tgt : Nat} (d : decode M.2.1 pc = .ok (.if_icmp .ne off, 3)) (ht : (pc : Int) + off = (tgt : Int)) (kt : ¬ x = y → gG fr lo kc ks M tgt lv st h Q) (kf : x = y → gG fr lo kc ks M (pc + 3) lv st h Q) : gG fr lo kc ks M pc lv (.int y :: .int x :: st) h Q := by
  intro l D B p e R s m args below meth c H locs cells slots mc ms ls C hW hS hL
  exact lv_icmp_ne C.1 C.2.1 d ht (fun q => kt q C hW hS hL) (fun q => kf q C hW hS hL)
theorem g_if_ne {x : Int32} {off : Int} {tgt : Nat} (d : decode M.2.1 pc = .ok (.ifCond .ne off, 3)) (ht : (pc : Int) + off = (tgt : Int)) (kt : ¬ x = 0 → gG fr lo kc ks M tgt lv st h Q) (kf : x = 0 → gG fr lo kc ks M (pc + 3) lv st h Q) : gG fr lo kc ks M pc lv (.int x :: st) h Q := by
  intro l D B p e R s m args below meth c H locs cells slots mc ms ls C hW hS hL
  exact lv_if_ne C.1 C.2.1 d ht (fun q => kt q C hW hS hL) (fun q => kf q C hW hS hL)
theorem g_icmp_lt {x y : Int32} {off : Int} {tgt : Nat} (d : decode M.2.1 pc = .ok (.if_icmp .lt off, 3)) (ht : (pc : Int) + off = (tgt : Int)) (kt : x < y → gG fr lo kc ks M tgt lv st h Q) (kf : ¬ x < y → gG fr lo kc ks M (pc + 3) lv st h Q) : gG fr lo kc ks M pc lv (.int y :: .int x :: st) h Q := by
  intro l D B p e R s m args below meth c H locs cells slots mc ms ls C hW hS hL
  exact lv_icmp_lt C.1 C.2.1 d ht (fun q => kt q C hW hS hL) (fun q => kf q C hW hS hL)
theorem g_if_lt {x : Int32} {off : Int} {tgt : Nat} (d : decode M.2.1 pc = .ok (.ifCond .lt off, 3)) (ht : (pc : Int) + off = (tgt : Int)) (kt : x < 0 → gG fr lo kc ks M tgt lv st h Q) (kf : ¬ x < 0 → gG fr lo kc ks M (pc + 3) lv st h Q) : gG fr lo kc ks M pc lv (.int x :: st) h Q := by
  intro l D B p e R s m args below meth c H locs cells slots mc ms ls C hW hS hL
  exact lv_if_lt C.1 C.2.1 d ht (fun q => kt q C hW hS hL) (fun q => kf q C hW hS hL)
theorem g_icmp_le {x y : Int32} {off : Int} {tgt : Nat} (d : decode M.2.1 pc = .ok (.if_icmp .le off, 3)) (ht : (pc : Int) + off = (tgt : Int)) (kt : x ≤ y → gG fr lo kc ks M tgt lv st h Q) (kf : ¬ x ≤ y → gG fr lo kc ks M (pc + 3) lv st h Q) : gG fr lo kc ks M pc lv (.int y :: .int x :: st) h Q := by
  intro l D B p e R s m args below meth c H locs cells slots mc ms ls C hW hS hL
  exact lv_icmp_le C.1 C.2.1 d ht (fun q => kt q C hW hS hL) (fun q => kf q C hW hS hL)
theorem g_if_le {x : Int32} {off : Int} {tgt : Nat} (d : decode M.2.1 pc = .ok (.ifCond .le off, 3)) (ht : (pc : Int) + off = (tgt : Int)) (kt : x ≤ 0 → gG fr lo kc ks M tgt lv st h Q) (kf : ¬ x ≤ 0 → gG fr lo kc ks M (pc + 3) lv st h Q) : gG fr lo kc ks M pc lv (.int x :: st) h Q := by
  intro l D B p e R s m args below meth c H locs cells slots mc ms ls C hW hS hL
  exact lv_if_le C.1 C.2.1 d ht (fun q => kt q C hW hS hL) (fun q => kf q C hW hS hL)
theorem g_icmp_gt {x y : Int32} {off : Int} {tgt : Nat} (d : decode M.2.1 pc = .ok (.if_icmp .gt off, 3)) (ht : (pc : Int) + off = (tgt : Int)) (kt : y < x → gG fr lo kc ks M tgt lv st h Q) (kf : ¬ y < x → gG fr lo kc ks M (pc + 3) lv st h Q) : gG fr lo kc ks M pc lv (.int y :: .int x :: st) h Q := by
  intro l D B p e R s m args below meth c H locs cells slots mc ms ls C hW hS hL
  exact lv_icmp_gt C.1 C.2.1 d ht (fun q => kt q C hW hS hL) (fun q => kf q C hW hS hL)
theorem g_if_gt {x : Int32} {off : Int} {tgt : Nat} (d : decode M.2.1 pc = .ok (.ifCond .gt off, 3)) (ht : (pc : Int) + off = (tgt : Int)) (kt : 0 < x → gG fr lo kc ks M tgt lv st h Q) (kf : ¬ 0 < x → gG fr lo kc ks M (pc + 3) lv st h Q) : gG fr lo kc ks M pc lv (.int x :: st) h Q := by
  intro l D B p e R s m args below meth c H locs cells slots mc ms ls C hW hS hL
  exact lv_if_gt C.1 C.2.1 d ht (fun q => kt q C hW hS hL) (fun q => kf q C hW hS hL)
theorem g_icmp_ge {x y : Int32} {off : Int} {tgt : Nat} (d : decode M.2.1 pc = .ok (.if_icmp .ge off, 3)) (ht : (pc : Int) + off = (tgt : Int)) (kt : y ≤ x → gG fr lo kc ks M tgt lv st h Q) (kf : ¬ y ≤ x → gG fr lo kc ks M (pc + 3) lv st h Q) : gG fr lo kc ks M pc lv (.int y :: .int x :: st) h Q := by
  intro l D B p e R s m args below meth c H locs cells slots mc ms ls C hW hS hL
  exact lv_icmp_ge C.1 C.2.1 d ht (fun q => kt q C hW hS hL) (fun q => kf q C hW hS hL)
theorem g_if_ge {x : Int32} {off : Int} {tgt : Nat} (d : decode M.2.1 pc = .ok (.ifCond .ge off, 3)) (ht : (pc : Int) + off = (tgt : Int)) (kt : 0 ≤ x → gG fr lo kc ks M tgt lv st h Q) (kf : ¬ 0 ≤ x → gG fr lo kc ks M (pc + 3) lv st h Q) : gG fr lo kc ks M pc lv (.int x :: st) h Q := by
  intro l D B p e R s m args below meth c H locs cells slots mc ms ls C hW hS hL
  exact lv_if_ge C.1 C.2.1 d ht (fun q => kt q C hW hS hL) (fun q => kf q C hW hS hL)
theorem g_goto {off : Int} {tgt : Nat} (d : decode M.2.1 pc = .ok (.goto off, 3)) (ht : (pc : Int) + off = (tgt : Int)) (k : gG fr lo kc ks M tgt lv st h Q) : gG fr lo kc ks M pc lv st h Q := by
  intro l D B p e R s m args below meth c H locs cells slots mc ms ls C hW hS hL
  exact lv_goto C.1 C.2.1 d ht (k C hW hS hL)
theorem g_ifnull {x : Nat} {off : Int} (d : decode M.2.1 pc = .ok (.ifnull off, 3)) (k : gG fr lo kc ks M (pc + 3) lv st h Q) : gG fr lo kc ks M pc lv (.ref x :: st) h Q := by
  intro l D B p e R s m args below meth c H locs cells slots mc ms ls C hW hS hL
  exact lv_ifnull C.1 C.2.1 d (k C hW hS hL)
theorem g_tableIn {dflt a b : Int} {offs : Array Int} {len : Nat} {x : Int32} {off : Int} {tgt : Nat} (d : decode M.2.1 pc = .ok (.tableswitch dflt a b offs, len)) (h1 : ¬ x.toInt < a) (h2 : ¬ b < x.toInt) (ho : offs[(x.toInt - a).toNat]? = some off) (ht : (pc : Int) + off = (tgt : Int)) (k : gG fr lo kc ks M tgt lv st h Q) : gG fr lo kc ks M pc lv (.int x :: st) h Q := by
  intro l D B p e R s m args below meth c H locs cells slots mc ms ls C hW hS hL
  exact lv_tableIn C.1 C.2.1 d h1 h2 ho ht (k C hW hS hL)
theorem g_tableOut {dflt a b : Int} {offs : Array Int} {len : Nat} {x : Int32} {tgt : Nat} (d : decode M.2.1 pc = .ok (.tableswitch dflt a b offs, len)) (h1 : x.toInt < a ∨ b < x.toInt) (ht : (pc : Int) + dflt = (tgt : Int)) (k : gG fr lo kc ks M tgt lv st h Q) : gG fr lo kc ks M pc lv (.int x :: st) h Q := by
  intro l D B p e R s m args below meth c H locs cells slots mc ms ls C hW hS hL
  exact lv_tableOut C.1 C.2.1 d h1 ht (k C hW hS hL)
end GROWS
end
section
/-! ===== rows of the abstract machine: fields, arrays, new ===== -/
def gu (h : Hp_) (q : Nat) (e : Ent_) : Hp_ := fun x => if x = q then some e else h x
theorem gu_same {h : Hp_} {q : Nat} {e : Ent_} : gu h q e q = some e := by unfold gu; rw [if_pos rfl]
theorem gu_ne {h : Hp_} {q x : Nat} {e : Ent_} (n : x ≠ q) : gu h q e x = h x := by unfold gu; rw [if_neg n]
theorem gC_hx {l : Launch} {D : va_G} {B : Nat} {p : Program} {R : Room} {s : State} {m : MethodId} {args : Array Value} {meth : Method} {c : Code} {cells slots mc ms fr lo kc ks : Nat} {M : Mi_} (C : gC l D B p R s m args meth c cells slots mc ms fr lo kc ks M) : p.tables.exec = Jvm.exec := C.1
theorem gC_own {l : Launch} {D : va_G} {B : Nat} {p : Program} {R : Room} {s : State} {m : MethodId} {args : Array Value} {meth : Method} {c : Code} {cells slots mc ms fr lo kc ks : Nat} {M : Mi_} (C : gC l D B p R s m args meth c cells slots mc ms fr lo kc ks M) : s.vm.findClass M.1.cls = some m.cls := C.2.2.2.2.1
theorem gC_ts {l : Launch} {D : va_G} {B : Nat} {p : Program} {R : Room} {s : State} {m : MethodId} {args : Array Value} {meth : Method} {c : Code} {cells slots mc ms fr lo kc ks : Nat} {M : Mi_} (C : gC l D B p R s m args meth c cells slots mc ms fr lo kc ks M) : ∀ w ∈ gAll, w.before args s = true := C.2.2.2.2.2.1
theorem gC_E {l : Launch} {D : va_G} {B : Nat} {p : Program} {R : Room} {s : State} {m : MethodId} {args : Array Value} {meth : Method} {c : Code} {cells slots mc ms fr lo kc ks : Nat} {M : Mi_} (C : gC l D B p R s m args meth c cells slots mc ms fr lo kc ks M) : gE D B s s.heap := C.2.2.2.2.2.2.2.2.2.2.1
theorem gC_B {l : Launch} {D : va_G} {B : Nat} {p : Program} {R : Room} {s : State} {m : MethodId} {args : Array Value} {meth : Method} {c : Code} {cells slots mc ms fr lo kc ks : Nat} {M : Mi_} (C : gC l D B p R s m args meth c cells slots mc ms fr lo kc ks M) : B ≤ s.heap.size := C.2.2.2.2.2.2.2.2.2.2.2.1
theorem gC_oth {l : Launch} {D : va_G} {B : Nat} {p : Program} {R : Room} {s : State} {m : MethodId} {args : Array Value} {meth : Method} {c : Code} {cells slots mc ms fr lo kc ks : Nat} {M : Mi_} (C : gC l D B p R s m args meth c cells slots mc ms fr lo kc ks M) {w : Cond} (hw : w ∈ gOth) : w.before args s = true := gOth_use (List.mem_filter.mp hw).2 ((gC_E C).2.2.2.2.1 w hw)
theorem gW_set {D : va_G} {B : Nat} {s : State} {h : Hp_} {H H1 : Heap} {q : Nat} {e : Ent_} (hW : gW D B s h H) (he : gEn D B s q e H1) (hz : H1.size = H.size) (hq : ∀ x : Nat, x ≠ q → H1[x]? = H[x]?) : gW D B s (gu h q e) H1 := by
  refine ⟨by rw [hz]; exact hW.1, fun x e' hx => ?_⟩
  by_cases n : x = q
  · subst n
    rw [gu_same] at hx
    cases hx
    exact he
  · rw [gu_ne n] at hx
    exact gEn_kept (hW.2 x e' hx) (hq x n)
theorem gW_push {D : va_G} {B : Nat} {s : State} {h : Hp_} {H H1 : Heap} {e : Ent_} (hW : gW D B s h H) (he : gEn D B s H.size e H1) (hz : H1.size = H.size + 1) (hq : ∀ x : Nat, x < H.size → H1[x]? = H[x]?) : gW D B s (gu h H.size e) H1 := by
  refine ⟨by rw [hz]; exact Nat.le_succ_of_le hW.1, fun x e' hx => ?_⟩
  by_cases n : x = H.size
  · subst n
    rw [gu_same] at hx
    cases hx
    exact he
  · rw [gu_ne n] at hx
    exact gEn_kept (hW.2 x e' hx) (hq x (gEn_lt (hW.2 x e' hx)))
theorem gW_fresh {D : va_G} {B : Nat} {s : State} {h : Hp_} {H : Heap} (hW : gW D B s h H) : h H.size = none := by
  cases hh : h H.size with
  | none => rfl
  | some e => exact absurd (gEn_lt (hW.2 _ _ hh)) (Nat.lt_irrefl _)
/-- a class whose fields the tables tell -/
def gCok (r : vw_C) (ty : Nat → FieldType) : Prop := (∀ w ∈ u_ws r.1 r.2.1 r.2.2, w ∈ gAll) ∧ (∀ k, k < r.2.2 → parseFieldDescriptor (r.2.1 k).2.2.1 = some (ty k)) ∧ ∀ a, a < r.2.2 → ∀ b, b < r.2.2 → a ≠ b → (r.2.1 a).2.1 ≠ (r.2.1 b).2.1
/-- a field's link: of class own, at idx: field k of class ci -/
def gFl (own : String) (idx ci k : Nat) : Prop := ∃ (r : vw_C) (ty : Nat → FieldType), gCl[ci]? = some r ∧ gCok r ty ∧ k < r.2.2 ∧ (Cond.fieldLink own idx (r.2.1 k).1 (r.2.1 k).2.1 (r.2.1 k).2.2.1 ∈ gAll ∨ ∃ host, Cond.fieldLinkNest own idx (r.2.1 k).1 (r.2.1 k).2.1 (r.2.1 k).2.2.1 host ∈ gOth)
/-- .. one that may be written, of type t -/
def gPt (own : String) (idx ci k : Nat) (t : FieldType) : Prop := ∃ (r : vw_C) (ty : Nat → FieldType), gCl[ci]? = some r ∧ gCok r ty ∧ k < r.2.2 ∧ ty k = t ∧ (r.2.1 k).2.2.2 = false ∧ (Cond.fieldLink own idx (r.2.1 k).1 (r.2.1 k).2.1 (r.2.1 k).2.2.1 ∈ gAll ∨ ∃ host, Cond.fieldLinkNest own idx (r.2.1 k).1 (r.2.1 k).2.1 (r.2.1 k).2.2.1 host ∈ gOth)
/-- .. a final one, by its own constructor -/
def gPf (own : String) (idx ci k : Nat) (t : FieldType) : Prop := ∃ (r : vw_C) (ty : Nat → FieldType), gCl[ci]? = some r ∧ gCok r ty ∧ k < r.2.2 ∧ ty k = t ∧ (r.2.1 k).2.2.2 = true ∧ (r.2.1 k).1 = own ∧ Cond.fieldLink own idx (r.2.1 k).1 (r.2.1 k).2.1 (r.2.1 k).2.2.1 ∈ gAll
section GHEAP
variable {fr lo kc ks pc : Nat} {M : Mi_} {lv : List (Nat × Value)} {st : List Value} {h : Hp_} {Q : Ot_ → Hp_ → Prop}
theorem g_get {idx ci k a : Nat} {fs : List Value} {v : Value} (d : decode M.2.1 pc = .ok (.getfield idx, 3)) (f : gFl M.1.cls idx ci k) (hh : h a = some (.inr (ci, fs))) (hv : fs[k]? = some v) (kk : gG fr lo kc ks M (pc + 3) lv (v :: st) h Q) : gG fr lo kc ks M pc lv (.ref a :: st) h Q := by
  intro l D B p e R s m args below meth c H locs cells slots mc ms ls C hW hS hL
  obtain ⟨hB, r, hr, hlen, hob⟩ := hW.2 a _ hh
  obtain ⟨r', ty, hr', ⟨hok1, hok2, hok3⟩, hk, hl⟩ := f
  cases hr.symm.trans hr'
  have hP : va_P D gCl [(a, .inr (ci, fs))] H := by
    intro j q hq
    have hz : j < 1 := (List.getElem?_eq_some_iff.mp hq).1
    rw [show j = 0 by omega] at hq
    cases hq
    exact ⟨r, hr, hob⟩
  obtain ⟨C0, T, N⟩ := r
  rcases hl with hl | ⟨host, hl⟩
  · exact va_get (D := D) (cl := gCl) (tys := []) (gC_hx C) C.2.1 (gC_ts C) hok1 (gC_own C) (gC_E C).1 hP 0 rfl hr k hk (gC_ts C _ hl) (fun _ h9 => h9) hv d (kk C hW hS hL)
  · exact va_getN (D := D) (cl := gCl) (tys := []) (gC_hx C) C.2.1 (gC_ts C) hok1 (gC_own C) (gC_E C).1 hP 0 rfl hr k hk (gC_oth C hl) (fun _ h9 => h9) hv d (kk C hW hS hL)
theorem g_put {idx ci k a : Nat} {fs : List Value} {v : Value} {t : FieldType} (d : decode M.2.1 pc = .ok (.putfield idx, 3)) (f : gPt M.1.cls idx ci k t) (hh : h a = some (.inr (ci, fs))) (hn : narrow t v = v) (hft : fits t v = true) (kk : gG fr lo kc ks M (pc + 3) lv st (gu h a (.inr (ci, fs.set k v))) Q) : gG fr lo kc ks M pc lv (v :: .ref a :: st) h Q := by
  intro l D B p e R s m args below meth c H locs cells slots mc ms ls C hW hS hL
  obtain ⟨hB, r, hr, hlen, hob⟩ := hW.2 a _ hh
  obtain ⟨r', ty, hr', ⟨hok1, hok2, hok3⟩, hk, ht, hfin, hl⟩ := f
  cases hr.symm.trans hr'
  obtain ⟨C0, T, N⟩ := r
  have hts := gC_ts C
  have hK : va_K D gCl [] s := (gC_E C).1
  have hap := va_apart (own := M.1.cls) hts hok1 ty hok2 hok3 hK hr
  obtain ⟨cell, q1, q2, q3, q4⟩ := hob
  obtain ⟨hSl, hfc, kC, hkC, hkind⟩ := hK.1 ci _ hr
  obtain ⟨cf, kf, fi, f, hi, hsl⟩ := hSl k hk
  have hlay := hts _ (hok1 _ (u_in_lay hk))
  unfold u_lay at hlay
  rw [if_neg (by show ¬ (T k).2.2.2 = true; rw [show (T k).2.2.2 = false from hfin]; decide)] at hlay
  have hst := (u_facts hfc hkC (u_lays hts hok1 hk) hi).1
  have h6 := u_store hfc hkC hkind hlay hi (hok2 k hk) (by rw [ht]; exact hn) (by rw [ht]; exact hft)
  have fin : ∀ H' : Heap, H'[a]? = some (cell.setSlot f.slot v) → H'.size = H.size → (∀ q, q ≠ a → H'[q]? = H[q]?) → W p l e R s m args below meth c H' (locs ++ [⟨a, f.slot⟩]) cells slots (vx_MQ below (gQ Q D B) (gX Q D B) args s mc ms (fun q => B ≤ q)) (F0 m (pc + 3) ls st) := by
    intro H' e1 e2 e3
    rw [hsl] at e1
    refine kk C (gW_set hW ⟨hB, (C0, T, N), hr, by rw [List.length_set]; exact hlen, t_OB.to (V := updV (vp_V fs) k v) ⟨_, e1, q2, q3, t_set q4 hap hk v⟩ (fun j _ => vp_updV_set (by rw [hlen]; exact hk) v j)⟩ e2 e3) (hS.put e2 e3 hB) hL
  rcases hl with hl | ⟨host, hl⟩
  · exact W.putK (gC_hx C) C.2.1 (f := f) ⟨gC_own C, hts _ hl, ⟨_, _, _, hi⟩, hst⟩ (by rw [q2]; exact h6) q1 q3 (by rw [hsl]; exact k2_hasslot (q4 k hk)) rfl rfl d fin
  · exact va_WputK (gC_hx C) C.2.1 (f := f) (gC_own C) (gC_oth C hl) hi hst (by rw [q2]; exact h6) q1 q3 (by rw [hsl]; exact k2_hasslot (q4 k hk)) rfl rfl d fin
theorem g_putF {idx ci k a : Nat} {fs : List Value} {v : Value} {t : FieldType} (d : decode M.2.1 pc = .ok (.putfield idx, 3)) (f : gPf M.1.cls idx ci k t) (hin : M.1.name = "<init>") (hh : h a = some (.inr (ci, fs))) (hn : narrow t v = v) (hft : fits t v = true) (kk : gG fr lo kc ks M (pc + 3) lv st (gu h a (.inr (ci, fs.set k v))) Q) : gG fr lo kc ks M pc lv (v :: .ref a :: st) h Q := by
  intro l D B p e R s m args below meth c H locs cells slots mc ms ls C hW hS hL
  obtain ⟨hB, r, hr, hlen, hob⟩ := hW.2 a _ hh
  obtain ⟨r', ty, hr', ⟨hok1, hok2, hok3⟩, hk, ht, hfin, hdecl, hl⟩ := f
  cases hr.symm.trans hr'
  obtain ⟨C0, T, N⟩ := r
  have hts := gC_ts C
  have hK : va_K D gCl [] s := (gC_E C).1
  have hap := va_apart (own := M.1.cls) hts hok1 ty hok2 hok3 hK hr
  obtain ⟨cell, q1, q2, q3, q4⟩ := hob
  obtain ⟨hSl, hfc, kC, hkC, hkind⟩ := hK.1 ci _ hr
  obtain ⟨cf, kf, fi, f, hi, hsl⟩ := hSl k hk
  have hlay := hts _ (hok1 _ (u_in_lay hk))
  unfold u_lay at hlay
  rw [if_pos (show (T k).2.2.2 = true from hfin)] at hlay
  have hst := (u_facts hfc hkC (u_lays hts hok1 hk) hi).1
  have hcf : m.cls = cf := by
    obtain ⟨_, _, c', _, _, _, -, -, hf', -, -, -, hown2, -⟩ := Cond.laysFinal_spec hlay
    have e1 : c' = cf := by have := hi.symm.trans hf'; simp at this; exact this.1.symm
    rw [show (T k).1 = M.1.cls from hdecl] at hown2
    rw [← e1]; exact Option.some.inj ((gC_own C).symm.trans hown2)
  have h6 := u_fits hfc hkC hkind (Or.inr hlay) hi (hok2 k hk) (by rw [ht]; exact hn) (by rw [ht]; exact hft)
  have hnm : meth.name = "<init>" := C.2.2.2.2.2.2.2.1.trans hin
  refine W.putFinK (gC_hx C) C.2.1 (gC_own C) (hts _ hl) hi hst hcf hnm (by rw [q2]; exact h6) q1 q3 (by rw [hsl]; exact k2_hasslot (q4 k hk)) rfl rfl d fun H' e1 e2 e3 => ?_
  rw [hsl] at e1 ⊢
  exact kk C (gW_set hW ⟨hB, (C0, T, N), hr, by rw [List.length_set]; exact hlen, t_OB.to (V := updV (vp_V fs) k v) ⟨_, e1, q2, q3, t_set q4 hap hk v⟩ (fun j _ => vp_updV_set (by rw [hlen]; exact hk) v j)⟩ e2 e3) (hS.put e2 e3 hB) hL
/-- a class that is made at idx of class own -/
def gNw (own : String) (idx ci : Nat) (fs : List Value) : Prop := ∃ (r : vw_C) (ty : Nat → FieldType), gCl[ci]? = some r ∧ gCok r ty ∧ fs.length = r.2.2 ∧ (∀ j, j < r.2.2 → defaultValue (ty j) = vp_V fs j) ∧ Cond.classLink own idx r.1 ∈ gAll ∧ Cond.instantiable r.1 r.2.2 ∈ gAll ∧ Cond.initialized r.1 ∈ gAll
theorem gC_pushed {l : Launch} {D : va_G} {B : Nat} {p : Program} {R : Room} {s : State} {m : MethodId} {args : Array Value} {meth : Method} {c : Code} {cells slots mc ms fr lo kc ks kc' ks' N : Nat} {M : Mi_} (C : gC l D B p R s m args meth c cells slots mc ms fr lo kc ks M) (h1 : 1 + kc' ≤ kc) (h2 : N + ks' ≤ ks) : gC l D B p R s m args meth c (cells + 1) (slots + N) mc ms fr lo kc' ks' M ∧ cells + 1 ≤ R.cells ∧ slots + N ≤ R.slots := by
  obtain ⟨c1, c2, c3, c4, c5, c6, c7, c8, c9, c10, c11, c12, c13, c14, c15, c16, c17, c18⟩ := C
  exact ⟨⟨c1, c2, c3, c4, c5, c6, c7, c8, c9, c10, c11, c12, c13, c14, by omega, by omega, c17, c18⟩, by omega, by omega⟩
theorem gS_push {B : Nat} {s : State} {H H1 : Heap} {locs : List Loc} (hB : B ≤ s.heap.size) (hS : va_S (fun q => B ≤ q) s.heap H locs) (hz : H1.size = H.size + 1) (hq : ∀ x : Nat, x < H.size → H1[x]? = H[x]?) : va_S (fun q => B ≤ q) s.heap H1 locs :=
  ⟨Nat.le_trans hS.1 (by omega), fun x h1 h2 => (hq x (Nat.lt_of_lt_of_le h1 hS.1)).trans (hS.2.1 x h1 h2), hS.2.2⟩
theorem g_new {idx ci kc' ks' N : Nat} {fs : List Value} (d : decode M.2.1 pc = .ok (.new idx, 3)) (f : gNw M.1.cls idx ci fs) (hN : fs.length = N) (hkc : 1 + kc' ≤ kc) (hks : N + ks' ≤ ks) (kk : ∀ q : Nat, h q = none → gG fr lo kc' ks' M (pc + 3) lv (.ref q :: st) (gu h q (.inr (ci, fs))) Q) : gG fr lo kc ks M pc lv st h Q := by
  intro l D B p e R s m args below meth c H locs cells slots mc ms ls C hW hS hL
  obtain ⟨⟨C0, T, N9⟩, ty, hr, ⟨hok1, hok2, hok3⟩, hlen, hdef, hl1, hl2, hl3⟩ := f
  have hN9 : N9 = N := hlen.symm.trans hN
  subst hN9
  obtain ⟨C', b1, b2⟩ := gC_pushed C hkc hks
  have hts := gC_ts C
  have hKn := (gC_E C).1.1 ci _ hr
  refine W.newcK (gC_hx C) C.2.1 (gC_own C) (hts _ hl1) (hts _ hl2) (hts _ hl3) rfl d b1 b2 hKn.2.1 rfl fun H1 kC hkC e1 z1 o1 => ?_
  exact kk H.size (gW_fresh hW) C' (gW_push hW ⟨hW.1, (C0, T, N9), hr, hlen, (u_born ty hts hok1 hKn hkC e1 hok2).to hdef⟩ z1 o1) (gS_push (gC_B C) hS z1 o1) hL
/-- the array whose elements are all the default of its type -/
def gZ (ty : FieldType) (N : Nat) : vp_A := match ty with
  | .long => (N, .inr (.inl (fun _ => 0)))
  | _ => (N, .inl (fun _ => 0))
theorem g_newarray {at' : ArrayType} {ty : FieldType} {n : Int32} {N kc' ks' : Nat} (d : decode M.2.1 pc = .ok (.newarray at', 2)) (hty : newarray.typeOf at' = ty) (hw : Cond.arrayClass ty ∈ gAll) (h4 : ty = .int ∨ ty = .char ∨ ty = .long) (hn : ¬ n < 0) (hN : n.toNatClampNeg = N) (hb8 : N ≤ 67108864) (hkc : 1 + kc' ≤ kc) (hks : N + ks' ≤ ks) (kk : ∀ q : Nat, h q = none → gG fr lo kc' ks' M (pc + 2) lv (.ref q :: st) (gu h q (.inl (false, ty, gZ ty N))) Q) : gG fr lo kc ks M pc lv (.int n :: st) h Q := by
  intro l D B p e R s m args below meth c H locs cells slots mc ms ls C hW hS hL
  obtain ⟨C', b1, b2⟩ := gC_pushed C hkc hks
  have hts := gC_ts C
  subst hty
  refine va_newaK (gC_hx C) C.2.1 (hts _ hw) rfl d rfl hn hN (by rcases h4 with h4 | h4 | h4 <;> rw [h4] <;> simp only [componentBytes] <;> omega) b1 b2 rfl fun H1 cA e1 z1 o1 hAr hNm => ?_
  refine kk H.size (gW_fresh hW) C' (gW_push hW ⟨hW.1, cA, ?_, hAr, ?_⟩ z1 o1) (gS_push (gC_B C) hS z1 o1) hL
  · rw [e1]
    rcases h4 with h4 | h4 | h4 <;> rw [h4] <;> rfl
  · rcases h4 with h4 | h4 | h4 <;> rw [h4] at hNm ⊢ <;> exact hNm
end GHEAP
end
section
/-! ===== rows of the abstract machine: arrays ===== -/
section GARR
variable {fr lo kc ks pc : Nat} {M : Mi_} {lv : List (Nat × Value)} {st : List Value} {h : Hp_} {Q : Ot_ → Hp_ → Prop}
theorem g_iaload {a n : Nat} {b : Bool} {f : Nat → Int32} {i : Int32} (d : decode M.2.1 pc = .ok (.iaload, 1)) (hh : h a = some (.inl (b, .int, (n, .inl f)))) (hin : vp_in i n) (kk : gG fr lo kc ks M (pc + 1) lv (.int (f i.toNatClampNeg) :: st) h Q) : gG fr lo kc ks M pc lv (.int i :: .ref a :: st) h Q := by
  intro l D B p e R s m args below meth c H locs cells slots mc ms ls C hW hS hL
  have hlt : i.toNatClampNeg < n := Nat.not_le.mp fun q => hin (Or.inr q)
  have hen := hW.2 a _ hh
  cases b with
  | true =>
    obtain ⟨-, -, f', hf, scr, h1, h2, h3, h4, h5⟩ := hen
    cases hf
    exact W.iald (v := .int (f i.toNatClampNeg)) (gC_hx C) C.2.1 h1 h2 h3 (by rw [h4]; exact hin) (h5 _ hlt) rfl rfl d (kk C hW hS hL)
  | false =>
    obtain ⟨-, cA, h1, h2, h3⟩ := hen
    exact W.iald (v := .int (f i.toNatClampNeg)) (gC_hx C) C.2.1 h1 (h2 n (fun j => .int (f j))) (fun q => by cases q) (by show ¬ (i < 0 ∨ (arrV _ _ _).slots.size ≤ _); rw [arrV_size]; exact hin) (by show (arrV _ _ _).slots[_]? = _; rw [arrV_read _ _ hlt]) rfl rfl d (kk C hW hS hL)
theorem g_caload {a n : Nat} {f : Nat → Int32} {i : Int32} (d : decode M.2.1 pc = .ok (.caload, 1)) (hh : h a = some (.inl (false, .char, (n, .inl f)))) (hin : vp_in i n) (kk : gG fr lo kc ks M (pc + 1) lv (.int (f i.toNatClampNeg) :: st) h Q) : gG fr lo kc ks M pc lv (.int i :: .ref a :: st) h Q := by
  intro l D B p e R s m args below meth c H locs cells slots mc ms ls C hW hS hL
  have hlt : i.toNatClampNeg < n := Nat.not_le.mp fun q => hin (Or.inr q)
  obtain ⟨-, cA, h1, h2, h3⟩ := hW.2 a _ hh
  exact W.cald (v := .int (f i.toNatClampNeg)) (gC_hx C) C.2.1 h1 (h2 n (fun j => .int (f j))) (fun q => by cases q) (by show ¬ (i < 0 ∨ (arrV _ _ _).slots.size ≤ _); rw [arrV_size]; exact hin) (by show (arrV _ _ _).slots[_]? = _; rw [arrV_read _ _ hlt]) rfl rfl d (kk C hW hS hL)
theorem g_laload {a n : Nat} {f : Nat → Int64} {i : Int32} (d : decode M.2.1 pc = .ok (.laload, 1)) (hh : h a = some (.inl (false, .long, (n, .inr (.inl f))))) (hin : vp_in i n) (kk : gG fr lo kc ks M (pc + 1) lv (.long (f i.toNatClampNeg) :: st) h Q) : gG fr lo kc ks M pc lv (.int i :: .ref a :: st) h Q := by
  intro l D B p e R s m args below meth c H locs cells slots mc ms ls C hW hS hL
  have hlt : i.toNatClampNeg < n := Nat.not_le.mp fun q => hin (Or.inr q)
  obtain ⟨-, cA, h1, h2, h3⟩ := hW.2 a _ hh
  exact W.lald (v := .long (f i.toNatClampNeg)) (gC_hx C) C.2.1 h1 (h2 n (fun j => .long (f j))) (fun q => by cases q) (by show ¬ (i < 0 ∨ (arrV _ _ _).slots.size ≤ _); rw [arrV_size]; exact hin) (by show (arrV _ _ _).slots[_]? = _; rw [arrV_read _ _ hlt]) rfl rfl d (kk C hW hS hL)
theorem g_aaload {a n q : Nat} {E : String} {f : Nat → Option Nat} {i : Int32} (d : decode M.2.1 pc = .ok (.aaload, 1)) (hh : h a = some (.inl (false, .object E, (n, .inr (.inr (.inr (.inr f))))))) (hin : vp_in i n) (hq : f i.toNatClampNeg = some q) (kk : gG fr lo kc ks M (pc + 1) lv (.ref q :: st) h Q) : gG fr lo kc ks M pc lv (.int i :: .ref a :: st) h Q := by
  intro l D B p e R s m args below meth c H locs cells slots mc ms ls C hW hS hL
  have hlt : i.toNatClampNeg < n := Nat.not_le.mp fun q => hin (Or.inr q)
  obtain ⟨-, cA, h1, h2, h3⟩ := hW.2 a _ hh
  exact W.aald (v := .ref q) (ty := .object E) (gC_hx C) C.2.1 h1 (h2 n (fun j => va_rf (f j))) rfl (fun q => by cases q) (by show ¬ (i < 0 ∨ (arrV _ _ _).slots.size ≤ _); rw [arrV_size]; exact hin) (by show (arrV _ _ _).slots[_]? = _; rw [arrV_read _ _ hlt, hq]; rfl) rfl rfl d (kk C hW hS hL)
theorem g_alen {a n : Nat} {b : Bool} {ty : FieldType} {z : (Nat → Int32) ⊕ (Nat → Int64) ⊕ (Nat → UInt32) ⊕ (Nat → UInt64) ⊕ (Nat → Option Nat)} (d : decode M.2.1 pc = .ok (.arraylength, 1)) (hh : h a = some (.inl (b, ty, (n, z)))) (kk : gG fr lo kc ks M (pc + 1) lv (.int (nI n) :: st) h Q) : gG fr lo kc ks M pc lv (.ref a :: st) h Q := by
  intro l D B p e R s m args below meth c H locs cells slots mc ms ls C hW hS hL
  have hen := hW.2 a _ hh
  cases b with
  | true =>
    obtain ⟨-, -, f', hf, scr, h1, h2, h3, h4, h5⟩ := hen
    exact W.alen (n := nI n) (gC_hx C) C.2.1 h1 h2 (by rw [h4]; rfl) rfl rfl d (kk C hW hS hL)
  | false =>
    obtain ⟨-, cA, h1, h2, h3⟩ := hen
    have hv : ∃ F : Nat → Value, vp_cell cA (n, z) = arrV cA n F := by
      rcases z with z | z | z | z | z <;> exact ⟨_, rfl⟩
    obtain ⟨F, hF⟩ := hv
    rw [hF] at h1
    exact W.alen (n := nI n) (gC_hx C) C.2.1 h1 (h2 n F) (by rw [arrV_size]; rfl) rfl rfl d (kk C hW hS hL)
theorem g_iastore {a n : Nat} {f : Nat → Int32} {i x : Int32} (d : decode M.2.1 pc = .ok (.iastore, 1)) (hh : h a = some (.inl (false, .int, (n, .inl f)))) (hin : vp_in i n) (kk : gG fr lo kc ks M (pc + 1) lv st (gu h a (.inl (false, .int, (n, .inl (upd f i.toNatClampNeg x))))) Q) : gG fr lo kc ks M pc lv (.int x :: .int i :: .ref a :: st) h Q := by
  intro l D B p e R s m args below meth c H locs cells slots mc ms ls C hW hS hL
  obtain ⟨hB, cA, h1, h2, h3⟩ := hW.2 a _ hh
  refine W.iast (gC_hx C) C.2.1 h1 (h2 n (fun j => .int (f j))) (fun q => by cases q) (by show ¬ (i < 0 ∨ (arrV _ _ _).slots.size ≤ _); rw [arrV_size]; exact hin) rfl rfl d fun H1 e1 z1 o1 => ?_
  refine kk C (gW_set hW ⟨hB, cA, ?_, h2, h3⟩ z1 o1) (hS.put z1 o1 hB) hL
  rw [e1, vp_cell_i, vp_cell_i, arrV_store]
  congr 2
  funext q
  by_cases hq : q = i.toNatClampNeg
  · subst hq
    simp [updV, upd]
  · simp [updV, upd, hq]
theorem g_castore {a n : Nat} {f : Nat → Int32} {i x : Int32} (d : decode M.2.1 pc = .ok (.castore, 1)) (hh : h a = some (.inl (false, .char, (n, .inl f)))) (hin : vp_in i n) (hx : narrow .char (.int x) = .int x) (kk : gG fr lo kc ks M (pc + 1) lv st (gu h a (.inl (false, .char, (n, .inl (upd f i.toNatClampNeg x))))) Q) : gG fr lo kc ks M pc lv (.int x :: .int i :: .ref a :: st) h Q := by
  intro l D B p e R s m args below meth c H locs cells slots mc ms ls C hW hS hL
  obtain ⟨hB, cA, h1, h2, h3⟩ := hW.2 a _ hh
  refine W.cast (gC_hx C) C.2.1 h1 (h2 n (fun j => .int (f j))) (fun q => by cases q) (by show ¬ (i < 0 ∨ (arrV _ _ _).slots.size ≤ _); rw [arrV_size]; exact hin) rfl rfl d fun H1 e1 z1 o1 => ?_
  refine kk C (gW_set hW ⟨hB, cA, ?_, h2, h3⟩ z1 o1) (hS.put z1 o1 hB) hL
  rw [e1, hx, vp_cell_i, vp_cell_i, arrV_store]
  congr 2
  funext q
  by_cases hq : q = i.toNatClampNeg
  · subst hq
    simp [updV, upd]
  · simp [updV, upd, hq]
theorem g_lastore {a n : Nat} {f : Nat → Int64} {i : Int32} {x : Int64} (d : decode M.2.1 pc = .ok (.lastore, 1)) (hh : h a = some (.inl (false, .long, (n, .inr (.inl f))))) (hin : vp_in i n) (kk : gG fr lo kc ks M (pc + 1) lv st (gu h a (.inl (false, .long, (n, .inr (.inl (vp_updL f i.toNatClampNeg x)))))) Q) : gG fr lo kc ks M pc lv (.long x :: .int i :: .ref a :: st) h Q := by
  intro l D B p e R s m args below meth c H locs cells slots mc ms ls C hW hS hL
  obtain ⟨hB, cA, h1, h2, h3⟩ := hW.2 a _ hh
  refine W.last (gC_hx C) C.2.1 h1 (h2 n (fun j => .long (f j))) (fun q => by cases q) (by show ¬ (i < 0 ∨ (arrV _ _ _).slots.size ≤ _); rw [arrV_size]; exact hin) rfl rfl d fun H1 e1 z1 o1 => ?_
  refine kk C (gW_set hW ⟨hB, cA, ?_, h2, h3⟩ z1 o1) (hS.put z1 o1 hB) hL
  rw [e1]
  show some ((arrV cA n (fun j => .long (f j))).setSlot _ _) = some (arrV cA n (fun j => .long (vp_updL f i.toNatClampNeg x j)))
  rw [arrV_store]
  congr 2
  funext q
  by_cases hq : q = i.toNatClampNeg
  · subst hq
    simp [updV, vp_updL]
  · simp [updV, vp_updL, hq]
theorem g_aastore {a n v ci : Nat} {E : String} {f : Nat → Option Nat} {i : Int32} {vs : List Value} {r : vw_C} (d : decode M.2.1 pc = .ok (.aastore, 1)) (hh : h a = some (.inl (false, .object E, (n, .inr (.inr (.inr (.inr f))))))) (hv : h v = some (.inr (ci, vs))) (hc : gCl[ci]? = some r) (hE : r.1 = E) (hin : vp_in i n) (kk : gG fr lo kc ks M (pc + 1) lv st (gu h a (.inl (false, .object E, (n, .inr (.inr (.inr (.inr (va_up f i.toNatClampNeg (some v))))))))) Q) : gG fr lo kc ks M pc lv (.ref v :: .int i :: .ref a :: st) h Q := by
  intro l D B p e R s m args below meth c H locs cells slots mc ms ls C hW hS hL
  subst hE
  have hlt : i.toNatClampNeg < n := Nat.not_le.mp fun q => hin (Or.inr q)
  have h0 : ¬ i < 0 := fun q => hin (Or.inl q)
  obtain ⟨hB, cA, h1, h2, h3⟩ := hW.2 a _ hh
  obtain ⟨hBv, r', hr', hlen, cellV, g1, g2, g3, -⟩ := hW.2 v _ hv
  cases hc.symm.trans hr'
  have hcls := ((gC_E C).1.1 ci r hc).2
  obtain ⟨kA, comp, k1, k2, k3, k4⟩ := id h3
  have hcomp : comp = D.1 ci := Option.some.inj (k3.symm.trans hcls.1)
  subst hcomp
  obtain ⟨kC, hkC, -⟩ := id hcls.2
  refine W.aast (gC_hx C) C.2.1 h1 (fun q h => by cases h) (fun h => by cases h) k1 k2 rfl hkC ⟨h0, by show _ < (arrV _ _ _).slots.size; rw [arrV_size]; exact hlt⟩ g1 (fun q h => by rw [g3] at h; cases h) (by rw [g2]; exact hkC) (by rw [g2]; exact va_assign hcls) rfl rfl d fun H1 e1 z1 o1 => ?_
  refine kk C (gW_set hW ⟨hB, cA, ?_, h2, h3⟩ z1 o1) (hS.put z1 o1 hB) hL
  rw [e1, vp_cell_q, vp_cell_q, arrV_store]
  congr 2
  funext q
  by_cases hq : q = i.toNatClampNeg
  · subst hq
    simp [updV, va_up, va_rf]
  · simp [updV, va_up, hq]
theorem g_anewarray {idx : Nat} {E : String} {n : Int32} {N kc' ks' : Nat} (d : decode M.2.1 pc = .ok (.anewarray idx, 3)) (hw : Cond.classLink M.1.cls idx E ∈ gAll) (ho : Cond.arrayOver (.object E) ∈ gOth) (hn : ¬ n < 0) (hN : n.toNatClampNeg = N) (hb8 : N ≤ 67108864) (hkc : 1 + kc' ≤ kc) (hks : N + ks' ≤ ks) (kk : ∀ q : Nat, h q = none → gG fr lo kc' ks' M (pc + 3) lv (.ref q :: st) (gu h q (.inl (false, .object E, (N, .inr (.inr (.inr (.inr (fun _ => none)))))))) Q) : gG fr lo kc ks M pc lv (.int n :: st) h Q := by
  intro l D B p e R s m args below meth c H locs cells slots mc ms ls C hW hS hL
  obtain ⟨C', b1, b2⟩ := gC_pushed C hkc hks
  subst hN
  refine W.anew (gC_hx C) C.2.1 (gC_own C) (gC_ts C _ hw) (gC_oth C ho) rfl d rfl hn (by omega) b1 b2 fun cA kA comp f1 f2 f3 f4 => ?_
  generalize hH1 : H.push ({ cls := cA, slots := Array.replicate n.toNatClampNeg .null, vm := .none } : Cell) = H1
  have z1 : H1.size = H.size + 1 := by rw [← hH1, Array.size_push]
  have e1 : H1[H.size]? = some (arrV cA n.toNatClampNeg (fun _ => .null)) := by rw [← hH1, Array.getElem?_push_size, ← arrV_new]
  have o1 : ∀ q : Nat, q < H.size → H1[q]? = H[q]? := fun q hq => by rw [← hH1, Array.getElem?_push, if_neg (Nat.ne_of_lt hq)]
  have hAr : ArrOfT s cA (.object E) := fun N z => ⟨(fun k h => by cases h), kA, f2, comp, f3⟩
  exact kk H.size (gW_fresh hW) C' (gW_push hW ⟨hW.1, cA, e1, hAr, kA, comp, f2, f3, f4, f1⟩ z1 o1) (gS_push (gC_B C) hS z1 o1) hL
/-- System.arraycopy between two arrays of ints, or of chars -/
theorem g_copy {idx a0 a n0 n1 : Nat} {ty : FieldType} {f g : Nat → Int32} {sp dp n : Int32} (d : decode M.2.1 pc = .ok (.invokestatic idx, 3)) (hw1 : Cond.methodLink M.1.cls idx arraycopyName ∈ gAll) (hw2 : Cond.native arraycopyName ∈ gAll) (hw3 : Cond.static arraycopyName ∈ gAll) (hw4 : Cond.initialized "java/lang/System" ∈ gAll)
    (h0 : h a0 = some (.inl (false, ty, (n0, .inl f)))) (h1 : h a = some (.inl (false, ty, (n1, .inl g)))) (hprim : refKind ty = false) (s1 : ¬ sp < 0) (s2 : ¬ dp < 0) (s3 : ¬ n < 0) (s4 : sp.toNatClampNeg + n.toNatClampNeg ≤ n0) (s5 : dp.toNatClampNeg + n.toNatClampNeg ≤ n1) (hfit : ∀ i, i < n.toNatClampNeg → fits ty (.int (f (sp.toNatClampNeg + i))) = true)
    (hfr : 1 ≤ fr) (hlo : (st.map fun v => v.category).sum + (nativeFrameWords "java/lang/System" "arraycopy" 5 + 11) ≤ lo)
    (kk : gG fr lo kc ks M (pc + 3) lv st (gu h a (.inl (false, ty, (n1, .inl (va_cpy f g sp.toNatClampNeg dp.toNatClampNeg n.toNatClampNeg))))) Q) : gG fr lo kc ks M pc lv (.int n :: .int dp :: .ref a :: .int sp :: .ref a0 :: st) h Q := by
  intro l D B p e R s m args below meth c H locs cells slots mc ms ls C hW hS hL
  have nn : ∀ z : Int32, ¬ z < 0 → z.toInt = (z.toNatClampNeg : Int) := by
    intro z hz
    have hz0 : (0 : Int) ≤ z.toInt := by
      have := Int32.not_lt.mp hz
      simpa using Int32.le_iff_toInt_le.mp this
    show z.toInt = ((z.toInt.toNat : Nat) : Int)
    omega
  obtain ⟨-, c0, hc0, t0, -⟩ := hW.2 a0 _ h0
  obtain ⟨hB, c1, hc1, t1, t1'⟩ := hW.2 a _ h1
  have hts := gC_ts C
  have hfrR : fr ≤ R.frames := C.2.2.2.2.2.2.2.2.2.2.2.2.1
  have hloR : lo ≤ R.locals := C.2.2.2.2.2.2.2.2.2.2.2.2.2.1
  have hml : c.maxLocals = ls.size := C.2.2.2.1.trans hL.1.symm
  intro T hT X
  obtain ⟨-, k0, hk0, cm0, hkk0⟩ := t0 n0 (fun j => .int (f j))
  obtain ⟨-, k1, hk1, cm1, hkk1⟩ := id (t1 n1 (fun j => .int (g j)))
  obtain ⟨vm', X', step⟩ := X.arraycopy (gC_hx C) (gC_own C) (hts _ hw1) (hts _ hw2) (hts _ hw3) (hts _ hw4) (src := a0) (dst := a) (cs := vp_cell c0 (n0, .inl f)) (cd := vp_cell c1 (n1, .inl g)) (srcPos := sp) (destPos := dp) (n := n) (by rw [hT]; exact hc0) (by rw [hT]; exact hc1)
    (fun _ h => by cases h) (fun _ h => by cases h) (fun h => by cases h) (fun h => by cases h) hk0 hk1 hkk0 hkk1 (by simp [hprim]) s1 s2 s3
    (by rw [nn sp s1, nn n s3]; show ¬ _ > ((arrV c0 n0 (fun j => .int (f j))).slots.size : Int); rw [arrV_size]; omega)
    (by rw [nn dp s2, nn n s3]; show ¬ _ > ((arrV c1 n1 (fun j => .int (g j))).slots.size : Int); rw [arrV_size]; omega)
    (fun vm₁ _ i hi => by
      have e : (vp_cell c0 (n0, .inl f)).slots.getD (sp.toNatClampNeg + i) .null = .int (f (sp.toNatClampNeg + i)) := by
        show (arrV c0 n0 (fun j => .int (f j))).slots.getD _ _ = _
        rw [Array.getD_eq_getD_getElem?, arrV_read _ _ (by omega)]
        rfl
      refine ⟨?_, ?_⟩
      · rw [e]
        exact hfit i hi
      · rw [e]
        exact trivial)
    (g := F0 m pc ls (.int n :: .int dp :: .ref a :: .int sp :: .ref a0 :: st)) rfl (by rw [hml]) (rest := st) rfl (by rw [C.2.1]; exact d) (by omega) (by show 2 * 0 + _ + _ ≤ _; omega)
  have e1 : copied (vp_cell c0 (n0, .inl f)) (vp_cell c1 (n1, .inl g)) sp dp n = vp_cell c1 (n1, .inl (va_cpy f g sp.toNatClampNeg dp.toNatClampNeg n.toNatClampNeg)) := va_copied (fun z => .int z) c0 c1 f g s4
  rw [e1] at X' step
  have hl : a < H.size := (Array.getElem?_eq_some_iff.mp hc1).1
  have hheap : ((T.setVm vm').setCell a (vp_cell c1 (n1, .inl (va_cpy f g sp.toNatClampNeg dp.toNatClampNeg n.toNatClampNeg)))).heap = H.setIfInBounds a (vp_cell c1 (n1, .inl (va_cpy f g sp.toNatClampNeg dp.toNatClampNeg n.toNatClampNeg))) := by rw [← hT]; rfl
  have oq : ∀ q : Nat, q ≠ a → (H.setIfInBounds a (vp_cell c1 (n1, .inl (va_cpy f g sp.toNatClampNeg dp.toNatClampNeg n.toNatClampNeg))))[q]? = H[q]? := fun q hq => by simp [Array.getElem?_setIfInBounds, Ne.symm hq]
  have hz : (H.setIfInBounds a (vp_cell c1 (n1, .inl (va_cpy f g sp.toNatClampNeg dp.toNatClampNeg n.toNatClampNeg)))).size = H.size := by simp
  obtain ⟨t, a1, b1⟩ := kk C (gW_set hW ⟨hB, c1, (show (H.setIfInBounds a _)[a]? = some _ by simp [Array.getElem?_setIfInBounds, hl]), t1, t1'⟩ hz oq) ⟨by rw [hz]; exact hS.1, fun q g1 g2 => by
      rw [oq q (fun e => g2 (by rw [e]; exact hB))]
      exact hS.2.1 q g1 g2, fun q hq => by
      rcases List.mem_append.mp hq with h | h
      · exact hS.2.2 q h
      · obtain ⟨z, -, hz⟩ := List.mem_map.mp h
        rw [← hz]
        exact hB⟩ hL _ hheap X'
  exact ⟨t, step t a1, b1⟩
end GARR
end
section
/-! ===== rows of the abstract machine: returns, throws, calls ===== -/
section GEND
variable {fr lo kc ks pc : Nat} {M : Mi_} {lv : List (Nat × Value)} {st : List Value} {h : Hp_} {Q : Ot_ → Hp_ → Prop}
theorem gC_wid {l : Launch} {D : va_G} {B : Nat} {p : Program} {R : Room} {s : State} {m : MethodId} {args : Array Value} {meth : Method} {c : Code} {cells slots mc ms fr lo kc ks : Nat} {M : Mi_} (C : gC l D B p R s m args meth c cells slots mc ms fr lo kc ks M) : cells ≤ mc ∧ slots ≤ ms := by
  obtain ⟨c1, c2, c3, c4, c5, c6, c7, c8, c9, c10, c11, c12, c13, c14, c15, c16, c17, c18⟩ := C
  exact ⟨by omega, by omega⟩
theorem gQ_ret {D : va_G} {B : Nat} {s : State} {H : Heap} {locs : List Loc} {args : Array Value} {v : Option Value} (hq : Q (.inl v) h) (hW : gW D B s h H) (hS : va_S (fun q => B ≤ q) s.heap H locs) (t : State) (ht : t.heap = H) (hWm : s.WarmedH t.vm) : gQ Q D B args s (.returned v) t := by
  refine ⟨⟨v, h, rfl, hq, ?_⟩, hS.F ht⟩
  rw [ht]
  exact gW_at hWm.alike hW
theorem g_iret {x : Int32} {ty : FieldType} (d : decode M.2.1 pc = .ok (.ireturn, 1)) (hr : M.2.2.2.1 = some ty) (hn : narrow ty (.int x) = .int x) (hq : Q (.inl (some (.int x))) h) : gG fr lo kc ks M pc lv [.int x] h Q := by
  intro l D B p e R s m args below meth c H locs cells slots mc ms ls C hW hS hL
  refine W.widen (gC_wid C).1 (gC_wid C).2 (vx_ret ?_)
  exact W.zret (gC_hx C) C.2.1 (C.2.2.1.trans hr) hn (fun t ht hWm => gQ_ret hq hW hS t ht hWm) hS.2.2 d C.2.2.2.2.2.2.1
theorem g_vret (d : decode M.2.1 pc = .ok (.return_, 1)) (hr : M.2.2.2.1 = none) (hq : Q (.inl none) h) : gG fr lo kc ks M pc lv [] h Q := by
  intro l D B p e R s m args below meth c H locs cells slots mc ms ls C hW hS hL
  refine W.widen (gC_wid C).1 (gC_wid C).2 (vx_ret ?_)
  exact W.vret (gC_hx C) C.2.1 (C.2.2.1.trans hr) (fun t ht hWm => gQ_ret hq hW hS t ht hWm) hS.2.2 d C.2.2.2.2.2.2.1
/-- Object's constructor -/
theorem g_objInit {idx a : Nat} (d : decode M.2.1 pc = .ok (.invokespecial idx, 3)) (hw1 : Cond.methodLink M.1.cls idx Lib.objectInit ∈ gAll) (hw2 : Cond.instanceMethod Lib.objectInit ∈ gAll) (hw3 : Cond.code Lib.objectInit ⟨#[0xb1]⟩ 1 none ∈ gAll) (hfr : 1 ≤ fr) (hlo : (st.map fun v => v.category).sum + 12 ≤ lo) (k : gG fr lo kc ks M (pc + 3) lv st h Q) : gG fr lo kc ks M pc lv (.ref a :: st) h Q := by
  intro l D B p e R s m args below meth c H locs cells slots mc ms ls C hW hS hL
  have hts := gC_ts C
  have hfrR : fr ≤ R.frames := C.2.2.2.2.2.2.2.2.2.2.2.2.1
  have hloR : lo ≤ R.locals := C.2.2.2.2.2.2.2.2.2.2.2.2.2.1
  exact W.objInit (gC_hx C) C.2.1 (gC_own C) (hts _ hw1) (hts _ hw2) (hts _ hw3) rfl (by show ls.size = _; rw [hL.1, C.2.2.2.1]) rfl d (by omega) (by show 2 * 0 + _ + 12 ≤ _; omega) (k C hW hS hL)
theorem g_max {idx : Nat} {x y : Int32} (d : decode M.2.1 pc = .ok (.invokestatic idx, 3)) (hw1 : Cond.methodLink M.1.cls idx Lib.Math.max.name ∈ gAll) (hw2 : Cond.static Lib.Math.max.name ∈ gAll) (hw3 : Cond.initialized "java/lang/Math" ∈ gAll) (hw4 : Cond.code Lib.Math.max.name Lib.Math.max.code 2 (some .int) ∈ gAll) (hfr : 1 ≤ fr) (hlo : (st.map fun v => v.category).sum + 13 ≤ lo) (k : gG fr lo kc ks M (pc + 3) lv (.int (if x < y then y else x) :: st) h Q) : gG fr lo kc ks M pc lv (.int y :: .int x :: st) h Q := by
  intro l D B p e R s m args below meth c H locs cells slots mc ms ls C hW hS hL
  have hts := gC_ts C
  have hfrR : fr ≤ R.frames := C.2.2.2.2.2.2.2.2.2.2.2.2.1
  have hloR : lo ≤ R.locals := C.2.2.2.2.2.2.2.2.2.2.2.2.2.1
  have h17 : mc ≤ R.cells := C.2.2.2.2.2.2.2.2.2.2.2.2.2.2.2.2.1
  have h18 : ms ≤ R.slots := C.2.2.2.2.2.2.2.2.2.2.2.2.2.2.2.2.2
  exact va_mmax (gC_hx C) C.2.1 (C.2.2.2.1.trans hL.1.symm) (gC_own C) (hts _ hw1) (hts _ hw2) (hts _ hw3) (hts _ hw4) (by omega) (by omega) (Nat.le_trans (gC_wid C).1 h17) (Nat.le_trans (gC_wid C).2 h18) d (k C hW hS hL)
theorem g_min {idx : Nat} {x y : Int32} (d : decode M.2.1 pc = .ok (.invokestatic idx, 3)) (hw1 : Cond.methodLink M.1.cls idx Lib.Math.min.name ∈ gAll) (hw2 : Cond.static Lib.Math.min.name ∈ gAll) (hw3 : Cond.initialized "java/lang/Math" ∈ gAll) (hw4 : Cond.code Lib.Math.min.name Lib.Math.min.code 2 (some .int) ∈ gAll) (hfr : 1 ≤ fr) (hlo : (st.map fun v => v.category).sum + 13 ≤ lo) (k : gG fr lo kc ks M (pc + 3) lv (.int (if y < x then y else x) :: st) h Q) : gG fr lo kc ks M pc lv (.int y :: .int x :: st) h Q := by
  intro l D B p e R s m args below meth c H locs cells slots mc ms ls C hW hS hL
  have hts := gC_ts C
  have hfrR : fr ≤ R.frames := C.2.2.2.2.2.2.2.2.2.2.2.2.1
  have hloR : lo ≤ R.locals := C.2.2.2.2.2.2.2.2.2.2.2.2.2.1
  have h17 : mc ≤ R.cells := C.2.2.2.2.2.2.2.2.2.2.2.2.2.2.2.2.1
  have h18 : ms ≤ R.slots := C.2.2.2.2.2.2.2.2.2.2.2.2.2.2.2.2.2
  exact va_mmin (gC_hx C) C.2.1 (C.2.2.2.1.trans hL.1.symm) (gC_own C) (hts _ hw1) (hts _ hw2) (hts _ hw3) (hts _ hw4) (by omega) (by omega) (Nat.le_trans (gC_wid C).1 h17) (Nat.le_trans (gC_wid C).2 h18) d (k C hW hS hL)
/-- 'throw new E("text")' in a method without handlers -/
def gTh (own : String) (ik is ic : Nat) (cls text : String) : Prop := Bundle.fit cls = true ∧ Cond.classLink own ik cls ∈ gAll ∧ Cond.initialized cls ∈ gAll ∧ (own, is, text) ∈ gStr ∧ (∀ w ∈ vx_atS own ic cls ["java/lang/RuntimeException", "java/lang/Exception"], w ∈ gAll ∨ w ∈ gOth) ∧ ∀ w ∈ Cond.classLink own ik cls :: Cond.initialized cls :: vx_atS own ic cls ["java/lang/RuntimeException", "java/lang/Exception"], vx_ot w = true
theorem gX_throw {D : va_G} {B : Nat} {s : State} {H : Heap} {locs : List Loc} {E : String} (hq : Q (.inr E) h) (hW : gW D B s h H) (hS : va_S (fun q => B ≤ q) s.heap H locs) (t : State) (hal : s.vm.Alike t.vm) (hz : H.size ≤ t.heap.size) (hk : ∀ q : Nat, q < H.size → t.heap[q]? = H[q]?) : gX Q D B E s t := by
  refine ⟨⟨h, hq, gW_at hal ⟨Nat.le_trans hW.1 hz, fun q e' hx => gEn_kept (hW.2 q e' hx) (hk q (gEn_lt (hW.2 q e' hx)))⟩⟩, Nat.le_trans hS.1 hz, fun q h1 h2 => (hk q (Nat.lt_of_lt_of_le h1 hS.1)).trans (hS.2.1 q h1 h2)⟩
theorem g_throw {ik is ic : Nat} {cls text : String} (f : gTh M.1.cls ik is ic cls text) (hh : M.2.2.2.2 = [])
    (d0 : decode M.2.1 pc = .ok (.new ik, 3)) (d3 : decode M.2.1 (pc + 3) = .ok (.dup, 1)) (d4 : decode M.2.1 (pc + 4) = .ok (.ldc is, 2)) (d6 : decode M.2.1 (pc + 6) = .ok (.invokespecial ic, 3)) (d9 : decode M.2.1 (pc + 9) = .ok (.athrow, 1))
    (hfr : 6 ≤ fr) (hlo : (st.map fun v => v.category).sum + 82 ≤ lo) (hkc : 1 ≤ kc) (hks : 6 ≤ ks) (hq : Q (.inr cls) h) : gG fr lo kc ks M pc lv st h Q := by
  intro l D B p e R s m args below meth c H locs cells slots mc ms ls C hW hS hL
  have hts := gC_ts C
  have hE := gC_E C
  obtain ⟨f1, f2, f3, f4, f5, f6⟩ := f
  obtain ⟨sa, hstr⟩ := hE.2.2.2.1 _ f4
  obtain ⟨c1, c2, c3, c4, c5, c6, c7, c8, c9, c10, c11, c12, c13, c14, c15, c16, c17, c18⟩ := C
  refine vx_throwS (names := ["java/lang/RuntimeException", "java/lang/Exception"]) (A := fun q => B ≤ q) c1 c2 c10 c5 f1 (by decide +kernel) (hts _ f2) (hts _ f3) hstr (fun w hw => ?_) f6 hE.2.1 hE.2.2.1 hS (hL.1.trans c4.symm) d0 d3 d4 d6 d9 ?_ (by show 2 + 3 < _; omega) (by show _ + (13 * (2 + 1) + 43) ≤ _; omega) (by omega) (by omega) c7 (fun t hal hz hk => gX_throw hq hW hS t hal hz hk) hS.2.2 (by omega) (by omega)
  · rcases f5 w hw with hg | hg
    · exact hts _ hg
    · exact gOth_use (List.mem_filter.mp hg).2 (hE.2.2.2.2.1 w hg)
  · intro x hx
    rw [c9, hh] at hx
    cases hx
theorem g_throwW {ik is ic : Nat} {cls text : String} (f : gTh M.1.cls ik is ic cls text) (hh : M.2.2.2.2 = [])
    (d0 : decode M.2.1 pc = .ok (.new ik, 3)) (d3 : decode M.2.1 (pc + 3) = .ok (.dup, 1)) (d4 : decode M.2.1 (pc + 4) = .ok (.ldc_w is, 3)) (d7 : decode M.2.1 (pc + 7) = .ok (.invokespecial ic, 3)) (d10 : decode M.2.1 (pc + 10) = .ok (.athrow, 1))
    (hfr : 6 ≤ fr) (hlo : (st.map fun v => v.category).sum + 82 ≤ lo) (hkc : 1 ≤ kc) (hks : 6 ≤ ks) (hq : Q (.inr cls) h) : gG fr lo kc ks M pc lv st h Q := by
  intro l D B p e R s m args below meth c H locs cells slots mc ms ls C hW hS hL
  have hts := gC_ts C
  have hE := gC_E C
  obtain ⟨f1, f2, f3, f4, f5, f6⟩ := f
  obtain ⟨sa, hstr⟩ := hE.2.2.2.1 _ f4
  obtain ⟨c1, c2, c3, c4, c5, c6, c7, c8, c9, c10, c11, c12, c13, c14, c15, c16, c17, c18⟩ := C
  refine vx_throwSW (names := ["java/lang/RuntimeException", "java/lang/Exception"]) (A := fun q => B ≤ q) c1 c2 c10 c5 f1 (by decide +kernel) (hts _ f2) (hts _ f3) hstr (fun w hw => ?_) f6 hE.2.1 hE.2.2.1 hS (hL.1.trans c4.symm) d0 d3 d4 d7 d10 ?_ (by show 2 + 3 < _; omega) (by show _ + (13 * (2 + 1) + 43) ≤ _; omega) (by omega) (by omega) c7 (fun t hal hz hk => gX_throw hq hW hS t hal hz hk) hS.2.2 (by omega) (by omega)
  · rcases f5 w hw with hg | hg
    · exact hts _ hg
    · exact gOth_use (List.mem_filter.mp hg).2 (hE.2.2.2.2.1 w hg)
  · intro x hx
    rw [c9, hh] at hx
    cases hx
/-- not caught here -/
theorem gx_out {E : String} (hh : M.2.2.2.2 = []) (hq : Q (.inr E) h) : gGX fr lo kc ks M pc lv E h Q := by
  intro l D B p e R s m args below meth c H locs cells slots mc ms ls rest q ce C hW hS hL hce hcv hcl
  have hwid := gC_wid C
  obtain ⟨c1, c2, c3, c4, c5, c6, c7, c8, c9, c10, c11, c12, c13, c14, c15, c16, c17, c18⟩ := C
  refine vx_out (E := E) (fun x hx => ?_) c7 hce hcv hcl (fun t ht hal => ?_) hS.2.2 hwid.1 hwid.2
  · rw [c9, hh] at hx
    cases hx
  · exact gX_throw hq hW hS t hal (by rw [ht]; exact Nat.le_refl _) (fun q _ => by rw [ht])
/-- caught: the handlers ahead are passed -/
theorem gx_catch {E : String} (pre : List (Nat × Nat × Nat × Nat)) (x : Nat × Nat × Nat × Nat) (suf : List (Nat × Nat × Nat × Nat)) (hh : M.2.2.2.2 = pre ++ x :: suf) (hpre : ∀ z ∈ pre, z.2.2.2 ≠ 0 ∧ ∃ nm, Cond.classLink M.1.cls z.2.2.2 nm ∈ gAll ∧ (E, nm) ∈ gNc) (h0 : x.2.2.2 ≠ 0) (hcov : covers ⟨x.1, x.2.1, x.2.2.1, x.2.2.2⟩ pc = true) (hl : Cond.classLink M.1.cls x.2.2.2 E ∈ gAll) (hc : Cond.castable E E ∈ gOth)
    (kk : ∀ q : Nat, gG fr lo kc ks M x.2.2.1 lv [.ref q] h Q) : gGX fr lo kc ks M pc lv E h Q := by
  intro l D B p e R s m args below meth c H locs cells slots mc ms ls rest q ce C hW hS hL hce hcv hcl
  have htb : c.exceptionTable.toList = tableOf M.2.2.2.2 := C.2.2.2.2.2.2.2.2.1
  refine vx_catch (own := M.1.cls) (name := E) (E := E) (gC_own C) (tableOf pre) ⟨x.1, x.2.1, x.2.2.1, x.2.2.2⟩ (tableOf suf) (by rw [htb, hh]; simp [tableOf]) (fun z hz => ?_) hcov h0 (gC_ts C _ hl) (gC_oth C hc) hce hcv hcl (kk q C hW hS hL)
  obtain ⟨z0, hz0, rfl⟩ := List.mem_map.mp hz
  obtain ⟨g1, nm, g2, g3⟩ := hpre z0 hz0
  exact Or.inr ⟨g1, nm, gC_ts C _ g2, (gC_E C).2.2.2.2.2 _ g3⟩
end GEND
/-! calls -/
/-- what the tables say of a callee -/
def gCl0 (M2 : Mi_) (n : Nat) : Prop := Cond.initialized M2.1.cls ∈ gAll ∧ gHead M2 ∈ gAll ∧ (M2.1.cls ≠ "java/lang/invoke/MethodHandle" ∧ M2.1.cls ≠ "java/lang/invoke/VarHandle" ∧ (parseMethodDescriptor M2.1.desc).map (fun d => d.parameters.length) = some n) ∧ plainName M2.1.cls = true
def gCV (own : String) (idx : Nat) (M2 : Mi_) (n ci : Nat) : Prop := gCl0 M2 n ∧ M2.2.2.2.2 = [] ∧ Cond.methodLink own idx M2.1 ∈ gAll ∧ Cond.instanceMethod M2.1 ∈ gAll ∧ Cond.selects M2.1.cls M2.1 M2.1 ∈ gAll ∧ ∃ r : vw_C, gCl[ci]? = some r ∧ r.1 = M2.1.cls
def gCS (own : String) (idx : Nat) (M2 : Mi_) (n : Nat) : Prop := gCl0 M2 n ∧ Cond.methodLink own idx M2.1 ∈ gAll ∧ Cond.static M2.1 ∈ gAll
def gCN (own : String) (idx : Nat) (M2 : Mi_) (n : Nat) : Prop := gCl0 M2 n ∧ M2.2.2.2.2 = [] ∧ (∃ host, Cond.methodLinkNest own idx M2.1 host ∈ gOth) ∧ Cond.static M2.1 ∈ gAll
def gCI (own : String) (idx : Nat) (M2 : Mi_) (n : Nat) : Prop := gCl0 M2 n ∧ M2.2.2.2.2 = [] ∧ M2.2.2.2.1 = none ∧ (Cond.methodLink own idx M2.1 ∈ gAll ∨ ∃ host, Cond.methodLinkNest own idx M2.1 host ∈ gOth) ∧ M2.1.name = "<init>" ∧ Cond.instanceMethod M2.1 ∈ gAll
section GCALL
variable {fr lo kc ks pc : Nat} {M : Mi_} {lv : List (Nat × Value)} {st : List Value} {h : Hp_} {Q : Ot_ → Hp_ → Prop}
variable {M2 : Mi_} {n ci b idx fr' lo' kc' ks' kc'' ks'' : Nat} {fs : List Value} {As rest : List Value} {Q2 : Ot_ → Hp_ → Prop}
theorem gC_left {l : Launch} {D : va_G} {B : Nat} {p : Program} {R : Room} {s : State} {m : MethodId} {args : Array Value} {meth : Method} {c : Code} {cells slots mc ms fr lo kc ks : Nat} {M : Mi_} (C : gC l D B p R s m args meth c cells slots mc ms fr lo kc ks M) (hkc : kc' + kc'' ≤ kc) (hks : ks' + ks'' ≤ ks) : gC l D B p R s m args meth c (cells + kc') (slots + ks') mc ms fr lo kc'' ks'' M ∧ cells + kc' ≤ R.cells ∧ slots + ks' ≤ R.slots := by
  obtain ⟨c1, c2, c3, c4, c5, c6, c7, c8, c9, c10, c11, c12, c13, c14, c15, c16, c17, c18⟩ := C
  exact ⟨⟨c1, c2, c3, c4, c5, c6, c7, c8, c9, c10, c11, c12, c13, c14, by omega, by omega, c17, c18⟩, by omega, by omega⟩
/-- behind a call: it returned, or it threw -/
theorem g_after {l : Launch} {D : va_G} {B : Nat} {p : Program} {e : Env} {R : Room} {s : State} {m : MethodId} {args : Array Value} {below : List Frame} {meth : Method} {c : Code} {H : Heap} {locs : List Loc} {cells slots mc ms : Nat} {ls : Array Slot} {av : Array Value}
    (C : gC l D B p R s m args meth c cells slots mc ms fr lo kc ks M) (hkc : kc' + kc'' ≤ kc) (hks : ks' + ks'' ≤ ks) (hS : va_S (fun q => B ≤ q) s.heap H locs) (hL : gL ls M.2.2.1 lv)
    (hr : vx_Run p l e R s m args below meth c H locs cells slots kc' ks' (F0 m pc ls st) rest (gQ Q2 D B av) (gX Q2 D B) (fun q => B ≤ q))
    (kx : ∀ E h', Q2 (.inr E) h' → gGX fr lo kc'' ks'' M pc lv E h' Q) (kk : ∀ v h', Q2 (.inl v) h' → gG fr lo kc'' ks'' M (pc + 3) lv (v.toList ++ rest) h' Q) :
    W p l e R s m args below meth c H locs cells slots (vx_MQ below (gQ Q D B) (gX Q D B) args s mc ms (fun q => B ≤ q)) (F0 m pc ls st) := by
  obtain ⟨C', -, -⟩ := gC_left C hkc hks
  intro T hT X
  rcases hr T hT X with ⟨v, st₀, t, T', L, h0, X', hLf, e1, e2, ⟨⟨v', h', hv, hq, hw⟩, hF⟩, stp⟩ | ⟨q, st₀, t, T', L, E, ce, h0, X', hLf, e1, e2, ⟨⟨h', hq, hw⟩, hF⟩, hce, hcv, hcl, stp⟩
  · cases hv
    obtain ⟨k1, k2, k3⟩ := vx_keep h0 e1 hS (fun q _ h => h) (fun q h => h) hLf hF
    have hal : s.vm.Alike t.vm := by rw [← e2]; exact X'.warmed.alike
    obtain ⟨t2, a1, b1⟩ := kk v h' hq C' (by rw [e1]; exact gW_at hal.symm hw) k3 hL T' rfl X'
    exact ⟨t2, stp t2 a1, b1⟩
  · obtain ⟨k1, k2, k3⟩ := vx_keep h0 e1 hS (fun q _ h => h) (fun q h => h) hLf hF
    have hal : s.vm.Alike t.vm := by rw [← e2]; exact X'.warmed.alike
    obtain ⟨t2, a1, b1⟩ := kx E h' hq C' (by rw [e1]; exact gW_at hal.symm hw) k3 hL (by rw [e1]; exact hce) hcv hcl T' rfl X'
    exact ⟨t2, stp.trans a1, b1⟩
theorem gAll_in {w0 : Cond} (hw0 : w0 ∈ gAll) : GoodIn gAll (w0 :: gAll) := by
  intro w hw
  rcases List.mem_cons.mp hw with rfl | hw
  · exact ⟨hw0, good_of_word (gAll_good hw0)⟩
  · exact ⟨hw, good_of_word (gAll_good hw)⟩
theorem g_callV (d : decode M.2.1 pc = .ok (.invokevirtual idx, 3)) (cw : gCV M.1.cls idx M2 n ci) (hst : st = As.reverse ++ .ref b :: rest) (hn : As.length = n) (hb : h b = some (.inr (ci, fs))) (hcat : (rest.map fun v => v.category).sum ≤ 8) (hsz : (lg_sl (.ref b :: As)).length ≤ M2.2.2.1) (hfr : fr' + 1 ≤ fr) (hlo : 8 + (M2.2.2.1 + 11) + lo' ≤ lo) (hkc : kc' + kc'' ≤ kc) (hks : ks' + ks'' ≤ ks)
    (body : gG fr' lo' kc' ks' M2 0 (lv_args 0 (.ref b :: As)) [] h Q2) (kx : ∀ E h', Q2 (.inr E) h' → gGX fr lo kc'' ks'' M pc lv E h' Q) (kk : ∀ v h', Q2 (.inl v) h' → gG fr lo kc'' ks'' M (pc + 3) lv (v.toList ++ rest) h' Q) : gG fr lo kc ks M pc lv st h Q := by
  intro l D B p e R s m args below meth c H locs cells slots mc ms ls C hW hS hL
  obtain ⟨⟨w1, w2, w3, w4⟩, hh, w5, w6, w7, r, w8, w9⟩ := cw
  obtain ⟨-, b1, b2⟩ := gC_left C hkc hks
  have hts := gC_ts C
  have hE := gC_E C
  have hfrR : fr ≤ R.frames := C.2.2.2.2.2.2.2.2.2.2.2.2.1
  have hloR : lo ≤ R.locals := C.2.2.2.2.2.2.2.2.2.2.2.2.2.1
  have hM := gMt_of (fr := fr') (lo := lo') (kc := kc') (ks := ks') (av := .ref b :: As) w4 hsz body C.2.2.2.2.2.2.2.2.2.1 D B
  obtain ⟨y, bt, mL, rt, hhs⟩ := M2
  cases hh
  obtain ⟨-, r', hr', hlen, cell, q1, q2, q3, -⟩ := hW.2 b _ hb
  cases w8.symm.trans hr'
  have hcl : s.vm.findClass y.cls = some cell.cls := by rw [q2, ← (show r.1 = y.cls from w9)]; exact (hE.1.1 ci r w8).2.1
  have hG : GoodIn gAll (wsV M.1.cls idx y.cls y (gHead (y, bt, mL, rt, []) :: gAll)) := by
    intro w hw
    unfold wsV at hw
    rcases List.mem_append.mp hw with hw | hw
    · simp only [List.mem_cons, List.not_mem_nil, or_false] at hw
      rcases hw with rfl | rfl | rfl | rfl
      · exact ⟨w5, good_of_word (gAll_good w5)⟩
      · exact ⟨w6, good_of_word (gAll_good w6)⟩
      · exact ⟨w7, good_of_word (gAll_good w7)⟩
      · exact ⟨w1, good_of_word (gAll_good w1)⟩
    · exact gAll_in w2 w hw
  refine g_after (rest := rest) C hkc hks hS hL (vx_runV (As := As) (C := y.cls) ⟨gC_hx C, C.2.1, C.2.2.2.1, gC_own C, hts⟩ hM (cwV n hts hG rfl rfl rfl ⟨rfl, w3⟩ ⟨by show fr' + 1 ≤ _; omega, by show 8 + (mL + 11) + lo' ≤ _; have hlo2 : 8 + (mL + 11) + lo' ≤ lo := hlo; omega⟩) ⟨gP_blind, ⟨cell, q1, by rw [q3]; rfl, hcl⟩, fun U hU hWm => gP_call hE hW hS U hU hWm⟩ rfl hn hL.1 hst (lv_room hcat) (by rw [← C.2.1]; rw [C.2.1]; exact d) ⟨b1, b2⟩) kx kk
theorem g_callS (d : decode M.2.1 pc = .ok (.invokestatic idx, 3)) (cw : gCS M.1.cls idx M2 n) (hh : M2.2.2.2.2 = []) (hst : st = As.reverse ++ rest) (hn : As.length = n) (hcat : (rest.map fun v => v.category).sum ≤ 8) (hsz : (lg_sl As).length ≤ M2.2.2.1) (hfr : fr' + 1 ≤ fr) (hlo : 8 + (M2.2.2.1 + 11) + lo' ≤ lo) (hkc : kc' + kc'' ≤ kc) (hks : ks' + ks'' ≤ ks)
    (body : gG fr' lo' kc' ks' M2 0 (lv_args 0 As) [] h Q2) (kx : ∀ E h', Q2 (.inr E) h' → gGX fr lo kc'' ks'' M pc lv E h' Q) (kk : ∀ v h', Q2 (.inl v) h' → gG fr lo kc'' ks'' M (pc + 3) lv (v.toList ++ rest) h' Q) : gG fr lo kc ks M pc lv st h Q := by
  intro l D B p e R s m args below meth c H locs cells slots mc ms ls C hW hS hL
  obtain ⟨⟨w1, w2, w3, w4⟩, w5, w6⟩ := cw
  obtain ⟨-, b1, b2⟩ := gC_left C hkc hks
  have hts := gC_ts C
  have hE := gC_E C
  have hfrR : fr ≤ R.frames := C.2.2.2.2.2.2.2.2.2.2.2.2.1
  have hloR : lo ≤ R.locals := C.2.2.2.2.2.2.2.2.2.2.2.2.2.1
  have hM := gMt_of (fr := fr') (lo := lo') (kc := kc') (ks := ks') (av := As) w4 hsz body C.2.2.2.2.2.2.2.2.2.1 D B
  obtain ⟨y, bt, mL, rt, hhs⟩ := M2
  cases hh
  have hR9 : (gRm fr' lo' kc' ks').frames + 1 ≤ R.frames ∧ 8 + (mL + 11) + (gRm fr' lo' kc' ks').locals ≤ R.locals := ⟨by show fr' + 1 ≤ _; omega, by show 8 + (mL + 11) + lo' ≤ _; have hlo2 : 8 + (mL + 11) + lo' ≤ lo := hlo; omega⟩
  exact g_after (rest := rest) C hkc hks hS hL (vx_runS (As := As) ⟨gC_hx C, C.2.1, C.2.2.2.1, gC_own C, hts⟩ hM ⟨callB_of n hts (gAll_in w2) rfl rfl rfl (hts _ w1) (hts _ w5) w3 hR9, hts _ w6⟩ ⟨gP_blind, fun U hU hWm => gP_call hE hW hS U hU hWm⟩ rfl hn hL.1 hst (lv_room hcat) d ⟨b1, b2⟩) kx kk
/-- a static method with handlers -/
theorem g_callSH (d : decode M.2.1 pc = .ok (.invokestatic idx, 3)) (cw : gCS M.1.cls idx M2 n) (hh : M2.2.2.2.2 ≠ []) (hst : st = As.reverse ++ rest) (hn : As.length = n) (hcat : (rest.map fun v => v.category).sum ≤ 8) (hsz : (lg_sl As).length ≤ M2.2.2.1) (hfr : fr' + 1 ≤ fr) (hlo : 8 + (M2.2.2.1 + 11) + lo' ≤ lo) (hkc : kc' + kc'' ≤ kc) (hks : ks' + ks'' ≤ ks)
    (body : gG fr' lo' kc' ks' M2 0 (lv_args 0 As) [] h Q2) (kx : ∀ E h', Q2 (.inr E) h' → gGX fr lo kc'' ks'' M pc lv E h' Q) (kk : ∀ v h', Q2 (.inl v) h' → gG fr lo kc'' ks'' M (pc + 3) lv (v.toList ++ rest) h' Q) : gG fr lo kc ks M pc lv st h Q := by
  intro l D B p e R s m args below meth c H locs cells slots mc ms ls C hW hS hL
  obtain ⟨⟨w1, w2, w3, w4⟩, w5, w6⟩ := cw
  obtain ⟨-, b1, b2⟩ := gC_left C hkc hks
  have hts := gC_ts C
  have hE := gC_E C
  have hfrR : fr ≤ R.frames := C.2.2.2.2.2.2.2.2.2.2.2.2.1
  have hloR : lo ≤ R.locals := C.2.2.2.2.2.2.2.2.2.2.2.2.2.1
  have hM := gMt_of (fr := fr') (lo := lo') (kc := kc') (ks := ks') (av := As) w4 hsz body C.2.2.2.2.2.2.2.2.2.1 D B
  obtain ⟨y, bt, mL, rt, hhs⟩ := M2
  cases hhs with
  | nil => exact absurd rfl hh
  | cons z zs =>
    have hG := gAll_in w2
    exact g_after (rest := rest) C hkc hks hS hL (vx_runSX (As := As) (hh := z :: zs) (bytes := bt) (maxL := mL) (ret := rt) ⟨gC_hx C, C.2.1, C.2.2.2.1, gC_own C, hts⟩ hM ⟨⟨rfl, rfl, by show fr' + 1 ≤ _; omega, by show 8 + (mL + 11) + lo' ≤ _; have hlo2 : 8 + (mL + 11) + lo' ≤ lo := hlo; omega, pay_in hts hG, List.mem_cons_self⟩, hts _ w2, hts _ w1, ⟨w3.1, w3.2.1⟩, fun sig hs => by
      have h2 := w3.2.2
      rw [show parseMethodDescriptor y.desc = some sig from hs] at h2
      exact (Option.some.inj h2).symm, hts _ w5, hts _ w6⟩ ⟨gP_blind, fun U hU hWm => gP_call hE hW hS U hU hWm⟩ rfl hn hL.1 hst (lv_room hcat) d ⟨b1, b2⟩) kx kk
/-- a private static method of a nest mate -/
theorem g_callN (d : decode M.2.1 pc = .ok (.invokestatic idx, 3)) (cw : gCN M.1.cls idx M2 n) (hst : st = As.reverse ++ rest) (hn : As.length = n) (hcat : (rest.map fun v => v.category).sum ≤ 8) (hsz : (lg_sl As).length ≤ M2.2.2.1) (hfr : fr' + 1 ≤ fr) (hlo : 8 + (M2.2.2.1 + 11) + lo' ≤ lo) (hkc : kc' + kc'' ≤ kc) (hks : ks' + ks'' ≤ ks)
    (body : gG fr' lo' kc' ks' M2 0 (lv_args 0 As) [] h Q2) (kx : ∀ E h', Q2 (.inr E) h' → gGX fr lo kc'' ks'' M pc lv E h' Q) (kk : ∀ v h', Q2 (.inl v) h' → gG fr lo kc'' ks'' M (pc + 3) lv (v.toList ++ rest) h' Q) : gG fr lo kc ks M pc lv st h Q := by
  intro l D B p e R s m args below meth c H locs cells slots mc ms ls C hW hS hL
  obtain ⟨⟨w1, w2, w3, w4⟩, hh, ⟨host, w5⟩, w6⟩ := cw
  obtain ⟨-, b1, b2⟩ := gC_left C hkc hks
  have hts := gC_ts C
  have hE := gC_E C
  have hfrR : fr ≤ R.frames := C.2.2.2.2.2.2.2.2.2.2.2.2.1
  have hloR : lo ≤ R.locals := C.2.2.2.2.2.2.2.2.2.2.2.2.2.1
  have hM := gMt_of (fr := fr') (lo := lo') (kc := kc') (ks := ks') (av := As) w4 hsz body C.2.2.2.2.2.2.2.2.2.1 D B
  obtain ⟨y, bt, mL, rt, hhs⟩ := M2
  cases hh
  have hR9 : (gRm fr' lo' kc' ks').frames + 1 ≤ R.frames ∧ 8 + (mL + 11) + (gRm fr' lo' kc' ks').locals ≤ R.locals := ⟨by show fr' + 1 ≤ _; omega, by show 8 + (mL + 11) + lo' ≤ _; have hlo2 : 8 + (mL + 11) + lo' ≤ lo := hlo; omega⟩
  exact g_after (rest := rest) C hkc hks hS hL (vx_runSN (As := As) ⟨gC_hx C, C.2.1, C.2.2.2.1, gC_own C, hts⟩ hM ⟨va_cnB n hts (gAll_in w2) rfl rfl rfl (hE.2.2.2.2.1 _ w5) (hts _ w1) w3 hR9, hts _ w6, trivial⟩ ⟨gP_blind, fun U hU hWm => gP_call hE hW hS U hU hWm⟩ rfl hn hL.1 hst (lv_room hcat) d ⟨b1, b2⟩) kx kk
/-- a constructor -/
theorem g_callI (d : decode M.2.1 pc = .ok (.invokespecial idx, 3)) (cw : gCI M.1.cls idx M2 n) (hst : st = As.reverse ++ .ref b :: rest) (hn : As.length = n) (hcat : (rest.map fun v => v.category).sum ≤ 8) (hsz : (lg_sl (.ref b :: As)).length ≤ M2.2.2.1) (hfr : fr' + 1 ≤ fr) (hlo : 8 + (M2.2.2.1 + 11) + lo' ≤ lo) (hkc : kc' + kc'' ≤ kc) (hks : ks' + ks'' ≤ ks)
    (body : gG fr' lo' kc' ks' M2 0 (lv_args 0 (.ref b :: As)) [] h Q2) (kx : ∀ E h', Q2 (.inr E) h' → gGX fr lo kc'' ks'' M pc lv E h' Q) (kk : ∀ v h', Q2 (.inl v) h' → gG fr lo kc'' ks'' M (pc + 3) lv (v.toList ++ rest) h' Q) : gG fr lo kc ks M pc lv st h Q := by
  intro l D B p e R s m args below meth c H locs cells slots mc ms ls C hW hS hL
  obtain ⟨⟨w1, w2, w3, w4⟩, hh, hrt, w5, w6, w7⟩ := cw
  obtain ⟨-, b1, b2⟩ := gC_left C hkc hks
  have hts := gC_ts C
  have hE := gC_E C
  have hfrR : fr ≤ R.frames := C.2.2.2.2.2.2.2.2.2.2.2.2.1
  have hloR : lo ≤ R.locals := C.2.2.2.2.2.2.2.2.2.2.2.2.2.1
  have hM := gMt_of (fr := fr') (lo := lo') (kc := kc') (ks := ks') (av := .ref b :: As) w4 hsz body C.2.2.2.2.2.2.2.2.2.1 D B
  obtain ⟨y, bt, mL, rt, hhs⟩ := M2
  cases hh
  cases hrt
  have hR9 : (gRm fr' lo' kc' ks').frames + 1 ≤ R.frames ∧ 8 + (mL + 11) + (gRm fr' lo' kc' ks').locals ≤ R.locals := ⟨by show fr' + 1 ≤ _; omega, by show 8 + (mL + 11) + lo' ≤ _; have hlo2 : 8 + (mL + 11) + lo' ≤ lo := hlo; omega⟩
  rcases w5 with w5 | ⟨host, w5⟩
  · exact g_after (rest := rest) C hkc hks hS hL (vx_runI (As := As) ⟨gC_hx C, C.2.1, C.2.2.2.1, gC_own C, hts⟩ hM (cwI n hts (gAll_in w2) rfl rfl rfl (hts _ w1) (hts _ w5) (hts _ w7) w6 w3 hR9) ⟨gP_blind, fun U hU hWm => gP_call hE hW hS U hU hWm⟩ rfl hn hL.1 hst (lv_room hcat) d ⟨b1, b2⟩) kx kk
  · exact g_after (rest := rest) C hkc hks hS hL (vx_runIN (As := As) ⟨gC_hx C, C.2.1, C.2.2.2.1, gC_own C, hts⟩ hM ⟨va_cnB n hts (gAll_in w2) rfl rfl rfl (hE.2.2.2.2.1 _ w5) (hts _ w1) w3 hR9, w6, hts _ w7⟩ ⟨gP_blind, fun U hU hWm => gP_call hE hW hS U hU hWm⟩ rfl hn hL.1 hst (lv_room hcat) d ⟨b1, b2⟩) kx kk
end GCALL
end
