section
-- ===== PART A: goes FIRST, ahead of the names: the tables' words, and 'selects' of the private methods out of them =====
/-- a private method of a class that the tables say can be made, by its rows of tables_1 -/
def lw_okq (q : MethodName × Nat) : Prop := (q.1.cls ≠ "java/lang/invoke/MethodHandle" ∧ q.1.cls ≠ "java/lang/invoke/VarHandle") ∧ Cond.instantiable q.1.cls q.2 ∈ tables_1 ∧ Cond.privateMethod q.1 ∈ tables_1 ∧ Cond.instanceMethod q.1 ∈ tables_1
theorem lw_p0 : lw_okq (⟨"ProofLines$Tape", "append", "(I)Z"⟩, 6) := ⟨⟨by decide +kernel, by decide +kernel⟩, List.mem_of_getElem? (i := 116) (by decide +kernel), List.mem_of_getElem? (i := 159) (by decide +kernel), List.mem_of_getElem? (i := 160) (by decide +kernel)⟩
theorem lw_p1 : lw_okq (⟨"ProofLines$Tape", "readAll", "()I"⟩, 6) := ⟨⟨by decide +kernel, by decide +kernel⟩, List.mem_of_getElem? (i := 116) (by decide +kernel), List.mem_of_getElem? (i := 167) (by decide +kernel), List.mem_of_getElem? (i := 168) (by decide +kernel)⟩
theorem lw_p2 : lw_okq (⟨"ProofLines$Tape", "skipToLine", "()V"⟩, 6) := ⟨⟨by decide +kernel, by decide +kernel⟩, List.mem_of_getElem? (i := 116) (by decide +kernel), List.mem_of_getElem? (i := 171) (by decide +kernel), List.mem_of_getElem? (i := 172) (by decide +kernel)⟩
theorem lw_p3 : lw_okq (⟨"ProofLines$Tape", "isBlankHere", "()Z"⟩, 6) := ⟨⟨by decide +kernel, by decide +kernel⟩, List.mem_of_getElem? (i := 116) (by decide +kernel), List.mem_of_getElem? (i := 175) (by decide +kernel), List.mem_of_getElem? (i := 176) (by decide +kernel)⟩
theorem lw_p4 : lw_okq (⟨"ProofLines$Tape", "here", "()I"⟩, 6) := ⟨⟨by decide +kernel, by decide +kernel⟩, List.mem_of_getElem? (i := 116) (by decide +kernel), List.mem_of_getElem? (i := 179) (by decide +kernel), List.mem_of_getElem? (i := 180) (by decide +kernel)⟩
theorem lw_p5 : lw_okq (⟨"ProofLines$Tape", "readLine", "()V"⟩, 6) := ⟨⟨by decide +kernel, by decide +kernel⟩, List.mem_of_getElem? (i := 116) (by decide +kernel), List.mem_of_getElem? (i := 183) (by decide +kernel), List.mem_of_getElem? (i := 184) (by decide +kernel)⟩
theorem lw_p6 : lw_okq (⟨"ProofLines$Proof", "isFull", "()Z"⟩, 5) := ⟨⟨by decide +kernel, by decide +kernel⟩, List.mem_of_getElem? (i := 59) (by decide +kernel), List.mem_of_getElem? (i := 187) (by decide +kernel), List.mem_of_getElem? (i := 188) (by decide +kernel)⟩
theorem lw_p7 : lw_okq (⟨"ProofLines$Proof", "add", "(I)I"⟩, 5) := ⟨⟨by decide +kernel, by decide +kernel⟩, List.mem_of_getElem? (i := 59) (by decide +kernel), List.mem_of_getElem? (i := 191) (by decide +kernel), List.mem_of_getElem? (i := 192) (by decide +kernel)⟩
theorem lw_p8 : lw_okq (⟨"ProofLines$Tape", "skipBlanks", "()V"⟩, 6) := ⟨⟨by decide +kernel, by decide +kernel⟩, List.mem_of_getElem? (i := 116) (by decide +kernel), List.mem_of_getElem? (i := 195) (by decide +kernel), List.mem_of_getElem? (i := 196) (by decide +kernel)⟩
theorem lw_p9 : lw_okq (⟨"ProofLines$Tape", "isSignHere", "()Z"⟩, 6) := ⟨⟨by decide +kernel, by decide +kernel⟩, List.mem_of_getElem? (i := 116) (by decide +kernel), List.mem_of_getElem? (i := 199) (by decide +kernel), List.mem_of_getElem? (i := 200) (by decide +kernel)⟩
theorem lw_p10 : lw_okq (⟨"ProofLines$Tape", "readLiteral", "(I)V"⟩, 6) := ⟨⟨by decide +kernel, by decide +kernel⟩, List.mem_of_getElem? (i := 116) (by decide +kernel), List.mem_of_getElem? (i := 203) (by decide +kernel), List.mem_of_getElem? (i := 204) (by decide +kernel)⟩
theorem lw_p11 : lw_okq (⟨"ProofLines$Tape", "readNumber", "()I"⟩, 6) := ⟨⟨by decide +kernel, by decide +kernel⟩, List.mem_of_getElem? (i := 116) (by decide +kernel), List.mem_of_getElem? (i := 207) (by decide +kernel), List.mem_of_getElem? (i := 208) (by decide +kernel)⟩
theorem lw_p12 : lw_okq (⟨"ProofLines$Tape", "isDigitHere", "()Z"⟩, 6) := ⟨⟨by decide +kernel, by decide +kernel⟩, List.mem_of_getElem? (i := 116) (by decide +kernel), List.mem_of_getElem? (i := 211) (by decide +kernel), List.mem_of_getElem? (i := 212) (by decide +kernel)⟩
theorem lw_p13 : lw_okq (⟨"ProofLines$Proof", "isLineFull", "(I)Z"⟩, 5) := ⟨⟨by decide +kernel, by decide +kernel⟩, List.mem_of_getElem? (i := 59) (by decide +kernel), List.mem_of_getElem? (i := 221) (by decide +kernel), List.mem_of_getElem? (i := 222) (by decide +kernel)⟩
theorem lw_p14 : lw_okq (⟨"ProofLines$Gates", "has", "(I)Z"⟩, 6) := ⟨⟨by decide +kernel, by decide +kernel⟩, List.mem_of_getElem? (i := 26) (by decide +kernel), List.mem_of_getElem? (i := 225) (by decide +kernel), List.mem_of_getElem? (i := 226) (by decide +kernel)⟩
theorem lw_p15 : lw_okq (⟨"ProofLines$Proof", "contains", "(II)Z"⟩, 5) := ⟨⟨by decide +kernel, by decide +kernel⟩, List.mem_of_getElem? (i := 59) (by decide +kernel), List.mem_of_getElem? (i := 229) (by decide +kernel), List.mem_of_getElem? (i := 230) (by decide +kernel)⟩
def lw_privs_1 : List (MethodName × Nat) := [(⟨"ProofLines$Tape", "append", "(I)Z"⟩, 6), (⟨"ProofLines$Tape", "readAll", "()I"⟩, 6), (⟨"ProofLines$Tape", "skipToLine", "()V"⟩, 6), (⟨"ProofLines$Tape", "isBlankHere", "()Z"⟩, 6), (⟨"ProofLines$Tape", "here", "()I"⟩, 6), (⟨"ProofLines$Tape", "readLine", "()V"⟩, 6), (⟨"ProofLines$Proof", "isFull", "()Z"⟩, 5), (⟨"ProofLines$Proof", "add", "(I)I"⟩, 5), (⟨"ProofLines$Tape", "skipBlanks", "()V"⟩, 6), (⟨"ProofLines$Tape", "isSignHere", "()Z"⟩, 6), (⟨"ProofLines$Tape", "readLiteral", "(I)V"⟩, 6), (⟨"ProofLines$Tape", "readNumber", "()I"⟩, 6), (⟨"ProofLines$Tape", "isDigitHere", "()Z"⟩, 6), (⟨"ProofLines$Proof", "isLineFull", "(I)Z"⟩, 5), (⟨"ProofLines$Gates", "has", "(I)Z"⟩, 6), (⟨"ProofLines$Proof", "contains", "(II)Z"⟩, 5)]
theorem lw_r1 : ∀ q ∈ lw_privs_1, lw_okq q := List.forall_mem_cons.mpr ⟨lw_p0, List.forall_mem_cons.mpr ⟨lw_p1, List.forall_mem_cons.mpr ⟨lw_p2, List.forall_mem_cons.mpr ⟨lw_p3, List.forall_mem_cons.mpr ⟨lw_p4, List.forall_mem_cons.mpr ⟨lw_p5, List.forall_mem_cons.mpr ⟨lw_p6, List.forall_mem_cons.mpr ⟨lw_p7, List.forall_mem_cons.mpr ⟨lw_p8, List.forall_mem_cons.mpr ⟨lw_p9, List.forall_mem_cons.mpr ⟨lw_p10, List.forall_mem_cons.mpr ⟨lw_p11, List.forall_mem_cons.mpr ⟨lw_p12, List.forall_mem_cons.mpr ⟨lw_p13, List.forall_mem_cons.mpr ⟨lw_p14, List.forall_mem_cons.mpr ⟨lw_p15, fun _ h => absurd h List.not_mem_nil⟩⟩⟩⟩⟩⟩⟩⟩⟩⟩⟩⟩⟩⟩⟩⟩
theorem lw_p16 : lw_okq (⟨"ProofLines$Proof", "literalOf", "(II)I"⟩, 5) := ⟨⟨by decide +kernel, by decide +kernel⟩, List.mem_of_getElem? (i := 59) (by decide +kernel), List.mem_of_getElem? (i := 233) (by decide +kernel), List.mem_of_getElem? (i := 234) (by decide +kernel)⟩
theorem lw_p17 : lw_okq (⟨"ProofLines$Proof", "append", "(II)V"⟩, 5) := ⟨⟨by decide +kernel, by decide +kernel⟩, List.mem_of_getElem? (i := 59) (by decide +kernel), List.mem_of_getElem? (i := 237) (by decide +kernel), List.mem_of_getElem? (i := 238) (by decide +kernel)⟩
theorem lw_p18 : lw_okq (⟨"ProofLines$Tape", "endLine", "(I)V"⟩, 6) := ⟨⟨by decide +kernel, by decide +kernel⟩, List.mem_of_getElem? (i := 116) (by decide +kernel), List.mem_of_getElem? (i := 241) (by decide +kernel), List.mem_of_getElem? (i := 242) (by decide +kernel)⟩
theorem lw_p19 : lw_okq (⟨"ProofLines$Gates", "hasLiteral", "(I)Z"⟩, 6) := ⟨⟨by decide +kernel, by decide +kernel⟩, List.mem_of_getElem? (i := 26) (by decide +kernel), List.mem_of_getElem? (i := 259) (by decide +kernel), List.mem_of_getElem? (i := 260) (by decide +kernel)⟩
theorem lw_p20 : lw_okq (⟨"java/lang/Throwable", "fillInStackTrace", "(I)Ljava/lang/Throwable;"⟩, 6) := ⟨⟨by decide +kernel, by decide +kernel⟩, List.mem_of_getElem? (i := 302) (by decide +kernel), List.mem_of_getElem? (i := 300) (by decide +kernel), List.mem_of_getElem? (i := 301) (by decide +kernel)⟩
theorem lw_p21 : lw_okq (⟨"ProofLines$Gates", "add", "(III)I"⟩, 6) := ⟨⟨by decide +kernel, by decide +kernel⟩, List.mem_of_getElem? (i := 26) (by decide +kernel), List.mem_of_getElem? (i := 364) (by decide +kernel), List.mem_of_getElem? (i := 365) (by decide +kernel)⟩
theorem lw_p22 : lw_okq (⟨"ProofLines$Proof", "has", "(I)Z"⟩, 5) := ⟨⟨by decide +kernel, by decide +kernel⟩, List.mem_of_getElem? (i := 59) (by decide +kernel), List.mem_of_getElem? (i := 385) (by decide +kernel), List.mem_of_getElem? (i := 386) (by decide +kernel)⟩
theorem lw_p23 : lw_okq (⟨"ProofLines", "firstBad", "(II)I"⟩, 4) := ⟨⟨by decide +kernel, by decide +kernel⟩, List.mem_of_getElem? (i := 18) (by decide +kernel), List.mem_of_getElem? (i := 409) (by decide +kernel), List.mem_of_getElem? (i := 410) (by decide +kernel)⟩
theorem lw_p24 : lw_okq (⟨"ProofLines$UnitSteps", "lineFollows", "(I)Z"⟩, 5) := ⟨⟨by decide +kernel, by decide +kernel⟩, List.mem_of_getElem? (i := 93) (by decide +kernel), List.mem_of_getElem? (i := 413) (by decide +kernel), List.mem_of_getElem? (i := 414) (by decide +kernel)⟩
theorem lw_p25 : lw_okq (⟨"ProofLines$UnitSteps", "bothConflict", "(III)Z"⟩, 5) := ⟨⟨by decide +kernel, by decide +kernel⟩, List.mem_of_getElem? (i := 93) (by decide +kernel), List.mem_of_getElem? (i := 418) (by decide +kernel), List.mem_of_getElem? (i := 419) (by decide +kernel)⟩
theorem lw_p26 : lw_okq (⟨"ProofLines$UnitSteps", "begin", "()V"⟩, 5) := ⟨⟨by decide +kernel, by decide +kernel⟩, List.mem_of_getElem? (i := 93) (by decide +kernel), List.mem_of_getElem? (i := 422) (by decide +kernel), List.mem_of_getElem? (i := 423) (by decide +kernel)⟩
theorem lw_p27 : lw_okq (⟨"ProofLines$UnitSteps", "tell", "(II)V"⟩, 5) := ⟨⟨by decide +kernel, by decide +kernel⟩, List.mem_of_getElem? (i := 93) (by decide +kernel), List.mem_of_getElem? (i := 429) (by decide +kernel), List.mem_of_getElem? (i := 430) (by decide +kernel)⟩
theorem lw_p28 : lw_okq (⟨"ProofLines$UnitSteps", "comeToConflict", "(I)Z"⟩, 5) := ⟨⟨by decide +kernel, by decide +kernel⟩, List.mem_of_getElem? (i := 93) (by decide +kernel), List.mem_of_getElem? (i := 433) (by decide +kernel), List.mem_of_getElem? (i := 434) (by decide +kernel)⟩
theorem lw_p29 : lw_okq (⟨"ProofLines$UnitSteps", "stepAnd", "(III)V"⟩, 5) := ⟨⟨by decide +kernel, by decide +kernel⟩, List.mem_of_getElem? (i := 93) (by decide +kernel), List.mem_of_getElem? (i := 437) (by decide +kernel), List.mem_of_getElem? (i := 438) (by decide +kernel)⟩
theorem lw_p30 : lw_okq (⟨"ProofLines$UnitSteps", "toldOf", "(I)I"⟩, 5) := ⟨⟨by decide +kernel, by decide +kernel⟩, List.mem_of_getElem? (i := 93) (by decide +kernel), List.mem_of_getElem? (i := 441) (by decide +kernel), List.mem_of_getElem? (i := 442) (by decide +kernel)⟩
theorem lw_p31 : lw_okq (⟨"ProofLines$UnitSteps", "stepEither", "(III)V"⟩, 5) := ⟨⟨by decide +kernel, by decide +kernel⟩, List.mem_of_getElem? (i := 93) (by decide +kernel), List.mem_of_getElem? (i := 445) (by decide +kernel), List.mem_of_getElem? (i := 446) (by decide +kernel)⟩
def lw_privs_2 : List (MethodName × Nat) := [(⟨"ProofLines$Proof", "literalOf", "(II)I"⟩, 5), (⟨"ProofLines$Proof", "append", "(II)V"⟩, 5), (⟨"ProofLines$Tape", "endLine", "(I)V"⟩, 6), (⟨"ProofLines$Gates", "hasLiteral", "(I)Z"⟩, 6), (⟨"java/lang/Throwable", "fillInStackTrace", "(I)Ljava/lang/Throwable;"⟩, 6), (⟨"ProofLines$Gates", "add", "(III)I"⟩, 6), (⟨"ProofLines$Proof", "has", "(I)Z"⟩, 5), (⟨"ProofLines", "firstBad", "(II)I"⟩, 4), (⟨"ProofLines$UnitSteps", "lineFollows", "(I)Z"⟩, 5), (⟨"ProofLines$UnitSteps", "bothConflict", "(III)Z"⟩, 5), (⟨"ProofLines$UnitSteps", "begin", "()V"⟩, 5), (⟨"ProofLines$UnitSteps", "tell", "(II)V"⟩, 5), (⟨"ProofLines$UnitSteps", "comeToConflict", "(I)Z"⟩, 5), (⟨"ProofLines$UnitSteps", "stepAnd", "(III)V"⟩, 5), (⟨"ProofLines$UnitSteps", "toldOf", "(I)I"⟩, 5), (⟨"ProofLines$UnitSteps", "stepEither", "(III)V"⟩, 5)]
theorem lw_r2 : ∀ q ∈ lw_privs_2, lw_okq q := List.forall_mem_cons.mpr ⟨lw_p16, List.forall_mem_cons.mpr ⟨lw_p17, List.forall_mem_cons.mpr ⟨lw_p18, List.forall_mem_cons.mpr ⟨lw_p19, List.forall_mem_cons.mpr ⟨lw_p20, List.forall_mem_cons.mpr ⟨lw_p21, List.forall_mem_cons.mpr ⟨lw_p22, List.forall_mem_cons.mpr ⟨lw_p23, List.forall_mem_cons.mpr ⟨lw_p24, List.forall_mem_cons.mpr ⟨lw_p25, List.forall_mem_cons.mpr ⟨lw_p26, List.forall_mem_cons.mpr ⟨lw_p27, List.forall_mem_cons.mpr ⟨lw_p28, List.forall_mem_cons.mpr ⟨lw_p29, List.forall_mem_cons.mpr ⟨lw_p30, List.forall_mem_cons.mpr ⟨lw_p31, fun _ h => absurd h List.not_mem_nil⟩⟩⟩⟩⟩⟩⟩⟩⟩⟩⟩⟩⟩⟩⟩⟩
theorem lw_p32 : lw_okq (⟨"ProofLines$UnitSteps", "stepEquality", "(II)V"⟩, 5) := ⟨⟨by decide +kernel, by decide +kernel⟩, List.mem_of_getElem? (i := 93) (by decide +kernel), List.mem_of_getElem? (i := 449) (by decide +kernel), List.mem_of_getElem? (i := 450) (by decide +kernel)⟩
theorem lw_p33 : lw_okq (⟨"ProofLines$UnitSteps", "stepClause", "(I)V"⟩, 5) := ⟨⟨by decide +kernel, by decide +kernel⟩, List.mem_of_getElem? (i := 93) (by decide +kernel), List.mem_of_getElem? (i := 453) (by decide +kernel), List.mem_of_getElem? (i := 454) (by decide +kernel)⟩
theorem lw_p34 : lw_okq (⟨"ProofLines$UnitSteps", "literalFollows", "(I)Z"⟩, 5) := ⟨⟨by decide +kernel, by decide +kernel⟩, List.mem_of_getElem? (i := 93) (by decide +kernel), List.mem_of_getElem? (i := 457) (by decide +kernel), List.mem_of_getElem? (i := 458) (by decide +kernel)⟩
theorem lw_p35 : lw_okq (⟨"ProofLines", "isNoneOrLiteral", "(I)Z"⟩, 4) := ⟨⟨by decide +kernel, by decide +kernel⟩, List.mem_of_getElem? (i := 18) (by decide +kernel), List.mem_of_getElem? (i := 485) (by decide +kernel), List.mem_of_getElem? (i := 486) (by decide +kernel)⟩
theorem lw_p36 : lw_okq (⟨"ProofLines", "assumeUnlessNone", "(I)V"⟩, 4) := ⟨⟨by decide +kernel, by decide +kernel⟩, List.mem_of_getElem? (i := 18) (by decide +kernel), List.mem_of_getElem? (i := 492) (by decide +kernel), List.mem_of_getElem? (i := 493) (by decide +kernel)⟩
theorem lw_p37 : lw_okq (⟨"ProofLines$Proof", "moveUp", "()V"⟩, 5) := ⟨⟨by decide +kernel, by decide +kernel⟩, List.mem_of_getElem? (i := 59) (by decide +kernel), List.mem_of_getElem? (i := 505) (by decide +kernel), List.mem_of_getElem? (i := 506) (by decide +kernel)⟩
theorem lw_p38 : lw_okq (⟨"ProofLines$Gates", "isTrueWith", "(IJ)Z"⟩, 6) := ⟨⟨by decide +kernel, by decide +kernel⟩, List.mem_of_getElem? (i := 26) (by decide +kernel), List.mem_of_getElem? (i := 519) (by decide +kernel), List.mem_of_getElem? (i := 520) (by decide +kernel)⟩
theorem lw_p39 : lw_okq (⟨"ProofLines$Gates", "truthOf", "(I)Z"⟩, 6) := ⟨⟨by decide +kernel, by decide +kernel⟩, List.mem_of_getElem? (i := 26) (by decide +kernel), List.mem_of_getElem? (i := 523) (by decide +kernel), List.mem_of_getElem? (i := 524) (by decide +kernel)⟩
theorem lw_p40 : lw_okq (⟨"ProofLinesModel", "isLiteral", "(I)Z"⟩, 18) := ⟨⟨by decide +kernel, by decide +kernel⟩, List.mem_of_getElem? (i := 562) (by decide +kernel), List.mem_of_getElem? (i := 631) (by decide +kernel), List.mem_of_getElem? (i := 632) (by decide +kernel)⟩
theorem lw_p41 : lw_okq (⟨"ProofLinesModel", "isLine", "(I)Z"⟩, 18) := ⟨⟨by decide +kernel, by decide +kernel⟩, List.mem_of_getElem? (i := 562) (by decide +kernel), List.mem_of_getElem? (i := 643) (by decide +kernel), List.mem_of_getElem? (i := 644) (by decide +kernel)⟩
theorem lw_p42 : lw_okq (⟨"ProofLinesModel", "isThere", "(II)Z"⟩, 18) := ⟨⟨by decide +kernel, by decide +kernel⟩, List.mem_of_getElem? (i := 562) (by decide +kernel), List.mem_of_getElem? (i := 647) (by decide +kernel), List.mem_of_getElem? (i := 648) (by decide +kernel)⟩
theorem lw_p43 : lw_okq (⟨"ProofLinesModel", "add", "(II)V"⟩, 18) := ⟨⟨by decide +kernel, by decide +kernel⟩, List.mem_of_getElem? (i := 562) (by decide +kernel), List.mem_of_getElem? (i := 651) (by decide +kernel), List.mem_of_getElem? (i := 652) (by decide +kernel)⟩
theorem lw_p44 : lw_okq (⟨"ProofLinesModel", "allThere", "()V"⟩, 18) := ⟨⟨by decide +kernel, by decide +kernel⟩, List.mem_of_getElem? (i := 562) (by decide +kernel), List.mem_of_getElem? (i := 663) (by decide +kernel), List.mem_of_getElem? (i := 664) (by decide +kernel)⟩
theorem lw_p45 : lw_okq (⟨"ProofLinesModel", "bad", "(I)I"⟩, 18) := ⟨⟨by decide +kernel, by decide +kernel⟩, List.mem_of_getElem? (i := 562) (by decide +kernel), List.mem_of_getElem? (i := 667) (by decide +kernel), List.mem_of_getElem? (i := 668) (by decide +kernel)⟩
theorem lw_p46 : lw_okq (⟨"ProofLinesModel", "follows", "(II)Z"⟩, 18) := ⟨⟨by decide +kernel, by decide +kernel⟩, List.mem_of_getElem? (i := 562) (by decide +kernel), List.mem_of_getElem? (i := 671) (by decide +kernel), List.mem_of_getElem? (i := 672) (by decide +kernel)⟩
theorem lw_p47 : lw_okq (⟨"ProofLinesModel", "opposes", "(IIIII)Z"⟩, 18) := ⟨⟨by decide +kernel, by decide +kernel⟩, List.mem_of_getElem? (i := 562) (by decide +kernel), List.mem_of_getElem? (i := 675) (by decide +kernel), List.mem_of_getElem? (i := 676) (by decide +kernel)⟩
def lw_privs_3 : List (MethodName × Nat) := [(⟨"ProofLines$UnitSteps", "stepEquality", "(II)V"⟩, 5), (⟨"ProofLines$UnitSteps", "stepClause", "(I)V"⟩, 5), (⟨"ProofLines$UnitSteps", "literalFollows", "(I)Z"⟩, 5), (⟨"ProofLines", "isNoneOrLiteral", "(I)Z"⟩, 4), (⟨"ProofLines", "assumeUnlessNone", "(I)V"⟩, 4), (⟨"ProofLines$Proof", "moveUp", "()V"⟩, 5), (⟨"ProofLines$Gates", "isTrueWith", "(IJ)Z"⟩, 6), (⟨"ProofLines$Gates", "truthOf", "(I)Z"⟩, 6), (⟨"ProofLinesModel", "isLiteral", "(I)Z"⟩, 18), (⟨"ProofLinesModel", "isLine", "(I)Z"⟩, 18), (⟨"ProofLinesModel", "isThere", "(II)Z"⟩, 18), (⟨"ProofLinesModel", "add", "(II)V"⟩, 18), (⟨"ProofLinesModel", "allThere", "()V"⟩, 18), (⟨"ProofLinesModel", "bad", "(I)I"⟩, 18), (⟨"ProofLinesModel", "follows", "(II)Z"⟩, 18), (⟨"ProofLinesModel", "opposes", "(IIIII)Z"⟩, 18)]
theorem lw_r3 : ∀ q ∈ lw_privs_3, lw_okq q := List.forall_mem_cons.mpr ⟨lw_p32, List.forall_mem_cons.mpr ⟨lw_p33, List.forall_mem_cons.mpr ⟨lw_p34, List.forall_mem_cons.mpr ⟨lw_p35, List.forall_mem_cons.mpr ⟨lw_p36, List.forall_mem_cons.mpr ⟨lw_p37, List.forall_mem_cons.mpr ⟨lw_p38, List.forall_mem_cons.mpr ⟨lw_p39, List.forall_mem_cons.mpr ⟨lw_p40, List.forall_mem_cons.mpr ⟨lw_p41, List.forall_mem_cons.mpr ⟨lw_p42, List.forall_mem_cons.mpr ⟨lw_p43, List.forall_mem_cons.mpr ⟨lw_p44, List.forall_mem_cons.mpr ⟨lw_p45, List.forall_mem_cons.mpr ⟨lw_p46, List.forall_mem_cons.mpr ⟨lw_p47, fun _ h => absurd h List.not_mem_nil⟩⟩⟩⟩⟩⟩⟩⟩⟩⟩⟩⟩⟩⟩⟩⟩
theorem lw_p48 : lw_okq (⟨"ProofLinesModel", "begin", "()V"⟩, 18) := ⟨⟨by decide +kernel, by decide +kernel⟩, List.mem_of_getElem? (i := 562) (by decide +kernel), List.mem_of_getElem? (i := 679) (by decide +kernel), List.mem_of_getElem? (i := 680) (by decide +kernel)⟩
theorem lw_p49 : lw_okq (⟨"ProofLinesModel", "tell", "(II)V"⟩, 18) := ⟨⟨by decide +kernel, by decide +kernel⟩, List.mem_of_getElem? (i := 562) (by decide +kernel), List.mem_of_getElem? (i := 683) (by decide +kernel), List.mem_of_getElem? (i := 684) (by decide +kernel)⟩
theorem lw_p50 : lw_okq (⟨"ProofLinesModel", "value", "(I)I"⟩, 18) := ⟨⟨by decide +kernel, by decide +kernel⟩, List.mem_of_getElem? (i := 562) (by decide +kernel), List.mem_of_getElem? (i := 687) (by decide +kernel), List.mem_of_getElem? (i := 688) (by decide +kernel)⟩
theorem lw_p51 : lw_okq (⟨"ProofLinesModel", "steps", "(I)V"⟩, 18) := ⟨⟨by decide +kernel, by decide +kernel⟩, List.mem_of_getElem? (i := 562) (by decide +kernel), List.mem_of_getElem? (i := 691) (by decide +kernel), List.mem_of_getElem? (i := 692) (by decide +kernel)⟩
theorem lw_p52 : lw_okq (⟨"ProofLinesModel", "and", "(I)V"⟩, 18) := ⟨⟨by decide +kernel, by decide +kernel⟩, List.mem_of_getElem? (i := 562) (by decide +kernel), List.mem_of_getElem? (i := 695) (by decide +kernel), List.mem_of_getElem? (i := 696) (by decide +kernel)⟩
theorem lw_p53 : lw_okq (⟨"ProofLinesModel", "either", "(I)V"⟩, 18) := ⟨⟨by decide +kernel, by decide +kernel⟩, List.mem_of_getElem? (i := 562) (by decide +kernel), List.mem_of_getElem? (i := 699) (by decide +kernel), List.mem_of_getElem? (i := 700) (by decide +kernel)⟩
theorem lw_p54 : lw_okq (⟨"ProofLinesModel", "equality", "(I)V"⟩, 18) := ⟨⟨by decide +kernel, by decide +kernel⟩, List.mem_of_getElem? (i := 562) (by decide +kernel), List.mem_of_getElem? (i := 703) (by decide +kernel), List.mem_of_getElem? (i := 704) (by decide +kernel)⟩
theorem lw_p55 : lw_okq (⟨"ProofLinesModel", "clause", "(I)V"⟩, 18) := ⟨⟨by decide +kernel, by decide +kernel⟩, List.mem_of_getElem? (i := 562) (by decide +kernel), List.mem_of_getElem? (i := 707) (by decide +kernel), List.mem_of_getElem? (i := 708) (by decide +kernel)⟩
theorem lw_p56 : lw_okq (⟨"ProofLinesModel", "byteAt", "(I)I"⟩, 18) := ⟨⟨by decide +kernel, by decide +kernel⟩, List.mem_of_getElem? (i := 562) (by decide +kernel), List.mem_of_getElem? (i := 735) (by decide +kernel), List.mem_of_getElem? (i := 736) (by decide +kernel)⟩
theorem lw_p57 : lw_okq (⟨"ProofLinesModel", "inputs", "()I"⟩, 18) := ⟨⟨by decide +kernel, by decide +kernel⟩, List.mem_of_getElem? (i := 562) (by decide +kernel), List.mem_of_getElem? (i := 744) (by decide +kernel), List.mem_of_getElem? (i := 745) (by decide +kernel)⟩
theorem lw_p58 : lw_okq (⟨"ProofLinesModel", "next", "()I"⟩, 18) := ⟨⟨by decide +kernel, by decide +kernel⟩, List.mem_of_getElem? (i := 562) (by decide +kernel), List.mem_of_getElem? (i := 760) (by decide +kernel), List.mem_of_getElem? (i := 761) (by decide +kernel)⟩
theorem lw_p59 : lw_okq (⟨"ProofLinesModel", "readLine", "(I)I"⟩, 18) := ⟨⟨by decide +kernel, by decide +kernel⟩, List.mem_of_getElem? (i := 562) (by decide +kernel), List.mem_of_getElem? (i := 764) (by decide +kernel), List.mem_of_getElem? (i := 765) (by decide +kernel)⟩
theorem lw_p60 : lw_okq (⟨"ProofLinesModel", "readLiteral", "()I"⟩, 18) := ⟨⟨by decide +kernel, by decide +kernel⟩, List.mem_of_getElem? (i := 562) (by decide +kernel), List.mem_of_getElem? (i := 768) (by decide +kernel), List.mem_of_getElem? (i := 769) (by decide +kernel)⟩
def lw_privs_4 : List (MethodName × Nat) := [(⟨"ProofLinesModel", "begin", "()V"⟩, 18), (⟨"ProofLinesModel", "tell", "(II)V"⟩, 18), (⟨"ProofLinesModel", "value", "(I)I"⟩, 18), (⟨"ProofLinesModel", "steps", "(I)V"⟩, 18), (⟨"ProofLinesModel", "and", "(I)V"⟩, 18), (⟨"ProofLinesModel", "either", "(I)V"⟩, 18), (⟨"ProofLinesModel", "equality", "(I)V"⟩, 18), (⟨"ProofLinesModel", "clause", "(I)V"⟩, 18), (⟨"ProofLinesModel", "byteAt", "(I)I"⟩, 18), (⟨"ProofLinesModel", "inputs", "()I"⟩, 18), (⟨"ProofLinesModel", "next", "()I"⟩, 18), (⟨"ProofLinesModel", "readLine", "(I)I"⟩, 18), (⟨"ProofLinesModel", "readLiteral", "()I"⟩, 18)]
theorem lw_r4 : ∀ q ∈ lw_privs_4, lw_okq q := List.forall_mem_cons.mpr ⟨lw_p48, List.forall_mem_cons.mpr ⟨lw_p49, List.forall_mem_cons.mpr ⟨lw_p50, List.forall_mem_cons.mpr ⟨lw_p51, List.forall_mem_cons.mpr ⟨lw_p52, List.forall_mem_cons.mpr ⟨lw_p53, List.forall_mem_cons.mpr ⟨lw_p54, List.forall_mem_cons.mpr ⟨lw_p55, List.forall_mem_cons.mpr ⟨lw_p56, List.forall_mem_cons.mpr ⟨lw_p57, List.forall_mem_cons.mpr ⟨lw_p58, List.forall_mem_cons.mpr ⟨lw_p59, List.forall_mem_cons.mpr ⟨lw_p60, fun _ h => absurd h List.not_mem_nil⟩⟩⟩⟩⟩⟩⟩⟩⟩⟩⟩⟩⟩
def lw_privs : List (MethodName × Nat) := lw_privs_1 ++ (lw_privs_2 ++ (lw_privs_3 ++ (lw_privs_4)))
def lw_tbl : List Cond := k2_sels lw_privs ++ tables_1
theorem lw_privs_ok : ∀ q ∈ lw_privs, lw_okq q := by
  show ∀ q ∈ lw_privs_1 ++ (lw_privs_2 ++ (lw_privs_3 ++ (lw_privs_4))), lw_okq q
  exact List.forall_mem_append.mpr ⟨lw_r1, List.forall_mem_append.mpr ⟨lw_r2, List.forall_mem_append.mpr ⟨lw_r3, lw_r4⟩⟩⟩
end
section
def R_P : String := "ProofLines"
def R_G : String := "ProofLines$Gates"
def R_F : String := "ProofLines$Proof"
def R_U : String := "ProofLines$UnitSteps"
def R_T : String := "ProofLines$Tape"
def R_X : String := "ProofLines$Text"
def R_M : String := "ProofLinesModel"
def R_A : String := "java/util/Arrays"
def gw : List Cond := lw_tbl.filter goodWord
theorem gmem {w : Cond} (i : Nat) (h : tables_1[i]? = some w) (hg : goodWord w = true) : w ∈ gw := List.mem_filter.mpr ⟨List.mem_append_right _ (List.mem_of_getElem? h), hg⟩
theorem gmemS {w : Cond} (i : Nat) (h : (k2_sels lw_privs)[i]? = some w) (hg : goodWord w = true) : w ∈ gw := List.mem_filter.mpr ⟨List.mem_append_left _ (List.mem_of_getElem? h), hg⟩
theorem gw_good {w : Cond} (h : w ∈ gw) : (w.onTables && w.keeps) = true ∨ ∃ ty, w = .arrayClass ty := good_of_word (List.mem_filter.mp h).2
theorem gin {a b : Cond} (hb : b ∈ gw) : GoodIn (a :: gw) (b :: gw) := fun w h => (List.mem_cons.mp h).elim (fun e => by rw [e]; exact ⟨List.mem_cons_of_mem _ hb, gw_good hb⟩) (fun h => ⟨List.mem_cons_of_mem _ h, gw_good h⟩)
theorem ginV {a b : Cond} {own C : String} {idx : Nat} {y : MethodName} (h1 : Cond.methodLink own idx y ∈ gw) (h2 : Cond.instanceMethod y ∈ gw) (h3 : Cond.selects C y y ∈ gw) (h4 : Cond.initialized C ∈ gw) (hb : b ∈ gw) : GoodIn (a :: gw) (wsV own idx C y (b :: gw)) := by
  intro w h
  rcases List.mem_append.mp h with h | h
  · have e : ∀ {v : Cond}, v ∈ gw → w = v → w ∈ a :: gw ∧ ((w.onTables && w.keeps) = true ∨ ∃ ty, w = .arrayClass ty) := fun hv e => by rw [e]; exact ⟨List.mem_cons_of_mem _ hv, gw_good hv⟩
    rcases List.mem_cons.mp h with h | h
    · exact e h1 h
    · rcases List.mem_cons.mp h with h | h
      · exact e h2 h
      · rcases List.mem_cons.mp h with h | h
        · exact e h3 h
        · exact e h4 (List.mem_singleton.mp h)
  · exact gin hb w h
theorem ginS {a b : Cond} {own : String} {idx : Nat} {y : MethodName} (h1 : Cond.methodLink own idx y ∈ gw) (h2 : Cond.static y ∈ gw) (h4 : Cond.initialized y.cls ∈ gw) (hb : b ∈ gw) : GoodIn (a :: gw) (va_wsS own idx y (b :: gw)) := by
  intro w h
  rcases List.mem_append.mp h with h | h
  · have e : ∀ {v : Cond}, v ∈ gw → w = v → w ∈ a :: gw ∧ ((w.onTables && w.keeps) = true ∨ ∃ ty, w = .arrayClass ty) := fun hv e => by rw [e]; exact ⟨List.mem_cons_of_mem _ hv, gw_good hv⟩
    rcases List.mem_cons.mp h with h | h
    · exact e h1 h
    · rcases List.mem_cons.mp h with h | h
      · exact e h2 h
      · exact e h4 (List.mem_singleton.mp h)
  · exact gin hb w h
def isNest (w : Cond) : Bool := match w with
  | .fieldLinkNest _ _ _ _ _ _ => true
  | .methodLinkNest _ _ _ _ => true
  | .castable _ _ => true
  | .declares _ => true
  | _ => false
def nestWs : List Cond := tables_1.filter isNest
theorem nmem {w : Cond} (i : Nat) (h : tables_1[i]? = some w) (hn : isNest w = true) : w ∈ nestWs := List.mem_filter.mpr ⟨List.mem_of_getElem? h, hn⟩
theorem nest_tab (w : Cond) (hw : w ∈ nestWs) : w.onTables = true := by
  have h := (List.mem_filter.mp hw).2
  unfold isNest at h
  split at h <;> first | rfl | cases h
theorem nest_warm (w : Cond) (hw : w ∈ nestWs) {s U : State} (hW : s.WarmedH U.vm) (hz : va_Nw w s) : va_Nw w U := by
  have h := (List.mem_filter.mp hw).2
  unfold isNest at h
  split at h
  · exact va_Nw.warmF hW hz
  · exact va_Nw.warmM hW hz
  · exact va_Nw.warmC hW hz
  · exact va_Nw.warmD hW hz
  · cases h
def T_P : u_T := fun k => match k with
  | 0 => ("ProofLines", "gates", "LProofLines$Gates;", true)
  | 1 => ("ProofLines", "proof", "LProofLines$Proof;", true)
  | 2 => ("ProofLines", "steps", "LProofLines$UnitSteps;", true)
  | _ => ("ProofLines", "tape", "LProofLines$Tape;", true)
def ty_P : Nat → FieldType := fun k => match k with
  | 0 => .object "ProofLines$Gates"
  | 1 => .object "ProofLines$Proof"
  | 2 => .object "ProofLines$UnitSteps"
  | _ => .object "ProofLines$Tape"
theorem nm_P : ∀ a, a < 4 → ∀ b, b < 4 → a ≠ b → (T_P a).2.1 ≠ (T_P b).2.1 := by decide +kernel
theorem tyok_P : ∀ k, k < 4 → parseFieldDescriptor (T_P k).2.2.1 = some (ty_P k) := by decide +kernel
theorem iwt_P : ∀ w ∈ u_ws R_P T_P 4, w ∈ tables_1 := by decide +kernel
theorem iwg_P : ∀ w ∈ u_ws R_P T_P 4, goodWord w = true := by decide +kernel
theorem iw_P : ∀ w ∈ u_ws R_P T_P 4, w ∈ gw := fun w h => List.mem_filter.mpr ⟨List.mem_append_right _ (iwt_P w h), iwg_P w h⟩
def T_G : u_T := fun k => match k with
  | 0 => ("ProofLines$Gates", "kinds", "[I", true)
  | 1 => ("ProofLines$Gates", "lefts", "[I", true)
  | 2 => ("ProofLines$Gates", "rights", "[I", true)
  | 3 => ("ProofLines$Gates", "truths", "[Z", true)
  | 4 => ("ProofLines$Gates", "size", "I", false)
  | _ => ("ProofLines$Gates", "inputs", "I", false)
def ty_G : Nat → FieldType := fun k => match k with
  | 0 => .array .int
  | 1 => .array .int
  | 2 => .array .int
  | 3 => .array .boolean
  | 4 => .int
  | _ => .int
theorem nm_G : ∀ a, a < 6 → ∀ b, b < 6 → a ≠ b → (T_G a).2.1 ≠ (T_G b).2.1 := by decide +kernel
theorem tyok_G : ∀ k, k < 6 → parseFieldDescriptor (T_G k).2.2.1 = some (ty_G k) := by decide +kernel
theorem iwt_G : ∀ w ∈ u_ws R_G T_G 6, w ∈ tables_1 := by decide +kernel
theorem iwg_G : ∀ w ∈ u_ws R_G T_G 6, goodWord w = true := by decide +kernel
theorem iw_G : ∀ w ∈ u_ws R_G T_G 6, w ∈ gw := fun w h => List.mem_filter.mpr ⟨List.mem_append_right _ (iwt_G w h), iwg_G w h⟩
def T_F : u_T := fun k => match k with
  | 0 => ("ProofLines$Proof", "kinds", "[I", true)
  | 1 => ("ProofLines$Proof", "sizes", "[I", true)
  | 2 => ("ProofLines$Proof", "literals", "[I", true)
  | 3 => ("ProofLines$Proof", "leftOut", "[Z", true)
  | _ => ("ProofLines$Proof", "size", "I", false)
def ty_F : Nat → FieldType := fun k => match k with
  | 0 => .array .int
  | 1 => .array .int
  | 2 => .array .int
  | 3 => .array .boolean
  | _ => .int
theorem nm_F : ∀ a, a < 5 → ∀ b, b < 5 → a ≠ b → (T_F a).2.1 ≠ (T_F b).2.1 := by decide +kernel
theorem tyok_F : ∀ k, k < 5 → parseFieldDescriptor (T_F k).2.2.1 = some (ty_F k) := by decide +kernel
theorem iwt_F : ∀ w ∈ u_ws R_F T_F 5, w ∈ tables_1 := by decide +kernel
theorem iwg_F : ∀ w ∈ u_ws R_F T_F 5, goodWord w = true := by decide +kernel
theorem iw_F : ∀ w ∈ u_ws R_F T_F 5, w ∈ gw := fun w h => List.mem_filter.mpr ⟨List.mem_append_right _ (iwt_F w h), iwg_F w h⟩
def T_U : u_T := fun k => match k with
  | 0 => ("ProofLines$UnitSteps", "gates", "LProofLines$Gates;", true)
  | 1 => ("ProofLines$UnitSteps", "proof", "LProofLines$Proof;", true)
  | 2 => ("ProofLines$UnitSteps", "told", "[I", true)
  | 3 => ("ProofLines$UnitSteps", "conflict", "Z", false)
  | _ => ("ProofLines$UnitSteps", "changed", "Z", false)
def ty_U : Nat → FieldType := fun k => match k with
  | 0 => .object "ProofLines$Gates"
  | 1 => .object "ProofLines$Proof"
  | 2 => .array .int
  | 3 => .boolean
  | _ => .boolean
theorem nm_U : ∀ a, a < 5 → ∀ b, b < 5 → a ≠ b → (T_U a).2.1 ≠ (T_U b).2.1 := by decide +kernel
theorem tyok_U : ∀ k, k < 5 → parseFieldDescriptor (T_U k).2.2.1 = some (ty_U k) := by decide +kernel
theorem iwt_U : ∀ w ∈ u_ws R_U T_U 5, w ∈ tables_1 := by decide +kernel
theorem iwg_U : ∀ w ∈ u_ws R_U T_U 5, goodWord w = true := by decide +kernel
theorem iw_U : ∀ w ∈ u_ws R_U T_U 5, w ∈ gw := fun w h => List.mem_filter.mpr ⟨List.mem_append_right _ (iwt_U w h), iwg_U w h⟩
def T_T : u_T := fun k => match k with
  | 0 => ("ProofLines$Tape", "gates", "LProofLines$Gates;", true)
  | 1 => ("ProofLines$Tape", "proof", "LProofLines$Proof;", true)
  | 2 => ("ProofLines$Tape", "bytes", "[I", true)
  | 3 => ("ProofLines$Tape", "size", "I", false)
  | 4 => ("ProofLines$Tape", "place", "I", false)
  | _ => ("ProofLines$Tape", "fault", "I", false)
def ty_T : Nat → FieldType := fun k => match k with
  | 0 => .object "ProofLines$Gates"
  | 1 => .object "ProofLines$Proof"
  | 2 => .array .int
  | 3 => .int
  | 4 => .int
  | _ => .int
theorem nm_T : ∀ a, a < 6 → ∀ b, b < 6 → a ≠ b → (T_T a).2.1 ≠ (T_T b).2.1 := by decide +kernel
theorem tyok_T : ∀ k, k < 6 → parseFieldDescriptor (T_T k).2.2.1 = some (ty_T k) := by decide +kernel
theorem iwt_T : ∀ w ∈ u_ws R_T T_T 6, w ∈ tables_1 := by decide +kernel
theorem iwg_T : ∀ w ∈ u_ws R_T T_T 6, goodWord w = true := by decide +kernel
theorem iw_T : ∀ w ∈ u_ws R_T T_T 6, w ∈ gw := fun w h => List.mem_filter.mpr ⟨List.mem_append_right _ (iwt_T w h), iwg_T w h⟩
def T_M : u_T := fun k => match k with
  | 0 => ("ProofLinesModel", "thrown", "I", false)
  | 1 => ("ProofLinesModel", "kinds", "[I", true)
  | 2 => ("ProofLinesModel", "ones", "[I", true)
  | 3 => ("ProofLinesModel", "twos", "[I", true)
  | 4 => ("ProofLinesModel", "gates", "I", false)
  | 5 => ("ProofLinesModel", "equals", "[Z", true)
  | 6 => ("ProofLinesModel", "counts", "[I", true)
  | 7 => ("ProofLinesModel", "literals", "[I", true)
  | 8 => ("ProofLinesModel", "lines", "I", false)
  | 9 => ("ProofLinesModel", "values", "[I", true)
  | 10 => ("ProofLinesModel", "conflict", "Z", false)
  | 11 => ("ProofLinesModel", "moved", "Z", false)
  | 12 => ("ProofLinesModel", "tape", "[I", true)
  | 13 => ("ProofLinesModel", "tapeSize", "I", false)
  | 14 => ("ProofLinesModel", "place", "I", false)
  | 15 => ("ProofLinesModel", "told", "[Z", true)
  | 16 => ("ProofLinesModel", "out", "[Z", true)
  | _ => ("ProofLinesModel", "found", "I", false)
def ty_M : Nat → FieldType := fun k => match k with
  | 0 => .int
  | 1 => .array .int
  | 2 => .array .int
  | 3 => .array .int
  | 4 => .int
  | 5 => .array .boolean
  | 6 => .array .int
  | 7 => .array .int
  | 8 => .int
  | 9 => .array .int
  | 10 => .boolean
  | 11 => .boolean
  | 12 => .array .int
  | 13 => .int
  | 14 => .int
  | 15 => .array .boolean
  | 16 => .array .boolean
  | _ => .int
theorem nm_M : ∀ a, a < 18 → ∀ b, b < 18 → a ≠ b → (T_M a).2.1 ≠ (T_M b).2.1 := by decide +kernel
theorem tyok_M : ∀ k, k < 18 → parseFieldDescriptor (T_M k).2.2.1 = some (ty_M k) := by decide +kernel
theorem iwt_M : ∀ w ∈ u_ws R_M T_M 18, w ∈ tables_1 := by decide +kernel
theorem iwg_M : ∀ w ∈ u_ws R_M T_M 18, goodWord w = true := by decide +kernel
theorem iw_M : ∀ w ∈ u_ws R_M T_M 18, w ∈ gw := fun w h => List.mem_filter.mpr ⟨List.mem_append_right _ (iwt_M w h), iwg_M w h⟩
abbrev vwCl : List vw_C := [(R_P, T_P, 4), (R_G, T_G, 6), (R_F, T_F, 5), (R_U, T_U, 5), (R_T, T_T, 6), (R_M, T_M, 18)]
abbrev b_G_has : ByteArray := prog_2_method_2_code
def y_G_has : MethodName := ⟨R_G, "has", "(I)Z"⟩
def w_G_has : List Cond := Cond.code y_G_has b_G_has 2 (some .boolean) :: gw
abbrev b_G_hasLiteral : ByteArray := prog_2_method_3_code
def y_G_hasLiteral : MethodName := ⟨R_G, "hasLiteral", "(I)Z"⟩
def w_G_hasLiteral : List Cond := Cond.code y_G_hasLiteral b_G_hasLiteral 2 (some .boolean) :: gw
abbrev b_G_add : ByteArray := prog_2_method_4_code
def y_G_add : MethodName := ⟨R_G, "add", "(III)I"⟩
def w_G_add : List Cond := Cond.code y_G_add b_G_add 5 (some .int) :: gw
abbrev b_P_gate : ByteArray := prog_1_method_2_code
def y_P_gate : MethodName := ⟨R_P, "gate", "(III)I"⟩
def w_P_gate : List Cond := Cond.code y_P_gate b_P_gate 4 (some .int) :: gw
abbrev b_F_isFull : ByteArray := prog_3_method_3_code
def y_F_isFull : MethodName := ⟨R_F, "isFull", "()Z"⟩
def w_F_isFull : List Cond := Cond.code y_F_isFull b_F_isFull 1 (some .boolean) :: gw
abbrev b_F_add : ByteArray := prog_3_method_5_code
def y_F_add : MethodName := ⟨R_F, "add", "(I)I"⟩
def w_F_add : List Cond := Cond.code y_F_add b_F_add 3 (some .int) :: gw
abbrev b_P_line : ByteArray := prog_1_method_3_code
def y_P_line : MethodName := ⟨R_P, "line", "()I"⟩
def w_P_line : List Cond := Cond.code y_P_line b_P_line 1 (some .int) :: gw
abbrev b_F_has : ByteArray := prog_3_method_2_code
def y_F_has : MethodName := ⟨R_F, "has", "(I)Z"⟩
def w_F_has : List Cond := Cond.code y_F_has b_F_has 2 (some .boolean) :: gw
abbrev b_F_literalOf : ByteArray := prog_3_method_7_code
def y_F_literalOf : MethodName := ⟨R_F, "literalOf", "(II)I"⟩
def w_F_literalOf : List Cond := Cond.code y_F_literalOf b_F_literalOf 3 (some .int) :: gw
abbrev b_F_contains : ByteArray := prog_3_method_8_code
def y_F_contains : MethodName := ⟨R_F, "contains", "(II)Z"⟩
def w_F_contains : List Cond := Cond.code y_F_contains b_F_contains 4 (some .boolean) :: gw
abbrev b_F_isLineFull : ByteArray := prog_3_method_4_code
def y_F_isLineFull : MethodName := ⟨R_F, "isLineFull", "(I)Z"⟩
def w_F_isLineFull : List Cond := Cond.code y_F_isLineFull b_F_isLineFull 2 (some .boolean) :: gw
abbrev b_F_append : ByteArray := prog_3_method_6_code
def y_F_append : MethodName := ⟨R_F, "append", "(II)V"⟩
def w_F_append : List Cond := Cond.code y_F_append b_F_append 3 none :: gw
abbrev b_P_literal : ByteArray := prog_1_method_4_code
def y_P_literal : MethodName := ⟨R_P, "literal", "(II)Z"⟩
def w_P_literal : List Cond := Cond.code y_P_literal b_P_literal 3 (some .boolean) :: gw
abbrev b_P_equalLine : ByteArray := prog_1_method_5_code
def y_P_equalLine : MethodName := ⟨R_P, "equalLine", "(II)I"⟩
def w_P_equalLine : List Cond := Cond.code y_P_equalLine b_P_equalLine 4 (some .int) :: gw
abbrev b_A_fill : ByteArray := prog_18_method_103_code
def y_A_fill : MethodName := ⟨R_A, "fill", "([II)V"⟩
def w_A_fill : List Cond := Cond.code y_A_fill b_A_fill 4 none :: gw
abbrev b_U_begin : ByteArray := prog_6_method_5_code
def y_U_begin : MethodName := ⟨R_U, "begin", "()V"⟩
def w_U_begin : List Cond := Cond.code y_U_begin b_U_begin 1 none :: gw
abbrev b_U_tell : ByteArray := prog_6_method_12_code
def y_U_tell : MethodName := ⟨R_U, "tell", "(II)V"⟩
def w_U_tell : List Cond := Cond.code y_U_tell b_U_tell 5 none :: gw
abbrev b_U_toldOf : ByteArray := prog_6_method_11_code
def y_U_toldOf : MethodName := ⟨R_U, "toldOf", "(I)I"⟩
def w_U_toldOf : List Cond := Cond.code y_U_toldOf b_U_toldOf 3 (some .int) :: gw
abbrev b_U_stepEither : ByteArray := prog_6_method_8_code
def y_U_stepEither : MethodName := ⟨R_U, "stepEither", "(III)V"⟩
def w_U_stepEither : List Cond := Cond.code y_U_stepEither b_U_stepEither 7 none :: gw
abbrev b_U_stepAnd : ByteArray := prog_6_method_7_code
def y_U_stepAnd : MethodName := ⟨R_U, "stepAnd", "(III)V"⟩
def w_U_stepAnd : List Cond := Cond.code y_U_stepAnd b_U_stepAnd 7 none :: gw
abbrev b_U_stepClause : ByteArray := prog_6_method_10_code
def y_U_stepClause : MethodName := ⟨R_U, "stepClause", "(I)V"⟩
def w_U_stepClause : List Cond := Cond.code y_U_stepClause b_U_stepClause 6 none :: gw
abbrev b_U_stepEquality : ByteArray := prog_6_method_9_code
def y_U_stepEquality : MethodName := ⟨R_U, "stepEquality", "(II)V"⟩
def w_U_stepEquality : List Cond := Cond.code y_U_stepEquality b_U_stepEquality 5 none :: gw
abbrev b_U_comeToConflict : ByteArray := prog_6_method_6_code
def y_U_comeToConflict : MethodName := ⟨R_U, "comeToConflict", "(I)Z"⟩
def w_U_comeToConflict : List Cond := Cond.code y_U_comeToConflict b_U_comeToConflict 4 (some .boolean) :: gw
abbrev b_U_literalFollows : ByteArray := prog_6_method_3_code
def y_U_literalFollows : MethodName := ⟨R_U, "literalFollows", "(I)Z"⟩
def w_U_literalFollows : List Cond := Cond.code y_U_literalFollows b_U_literalFollows 2 (some .boolean) :: gw
abbrev b_U_bothConflict : ByteArray := prog_6_method_4_code
def y_U_bothConflict : MethodName := ⟨R_U, "bothConflict", "(III)Z"⟩
def w_U_bothConflict : List Cond := Cond.code y_U_bothConflict b_U_bothConflict 4 (some .boolean) :: gw
abbrev b_U_lineFollows : ByteArray := prog_6_method_2_code
def y_U_lineFollows : MethodName := ⟨R_U, "lineFollows", "(I)Z"⟩
def w_U_lineFollows : List Cond := Cond.code y_U_lineFollows b_U_lineFollows 4 (some .boolean) :: gw
abbrev b_P_firstBad : ByteArray := prog_1_method_17_code
def y_P_firstBad : MethodName := ⟨R_P, "firstBad", "(II)I"⟩
def w_P_firstBad : List Cond := Cond.code y_P_firstBad b_P_firstBad 4 (some .int) :: gw
abbrev b_P_check : ByteArray := prog_1_method_6_code
def y_P_check : MethodName := ⟨R_P, "check", "(I)I"⟩
def w_P_check : List Cond := Cond.code y_P_check b_P_check 2 (some .int) :: gw
abbrev b_P_good : ByteArray := prog_1_method_7_code
def y_P_good : MethodName := ⟨R_P, "good", "(I)Z"⟩
def w_P_good : List Cond := Cond.code y_P_good b_P_good 2 (some .boolean) :: gw
abbrev b_P_lineAt : ByteArray := prog_1_method_8_code
def y_P_lineAt : MethodName := ⟨R_P, "lineAt", "(II)I"⟩
def w_P_lineAt : List Cond := Cond.code y_P_lineAt b_P_lineAt 3 (some .int) :: gw
abbrev b_P_isNoneOrLiteral : ByteArray := prog_1_method_18_code
def y_P_isNoneOrLiteral : MethodName := ⟨R_P, "isNoneOrLiteral", "(I)Z"⟩
def w_P_isNoneOrLiteral : List Cond := Cond.code y_P_isNoneOrLiteral b_P_isNoneOrLiteral 2 (some .boolean) :: gw
abbrev b_P_assumeUnlessNone : ByteArray := prog_1_method_19_code
def y_P_assumeUnlessNone : MethodName := ⟨R_P, "assumeUnlessNone", "(I)V"⟩
def w_P_assumeUnlessNone : List Cond := Cond.code y_P_assumeUnlessNone b_P_assumeUnlessNone 2 none :: gw
abbrev b_P_implied : ByteArray := prog_1_method_9_code
def y_P_implied : MethodName := ⟨R_P, "implied", "(IIII)I"⟩
def w_P_implied : List Cond := Cond.code y_P_implied b_P_implied 5 (some .int) :: gw
abbrev b_F_moveUp : ByteArray := prog_3_method_9_code
def y_F_moveUp : MethodName := ⟨R_F, "moveUp", "()V"⟩
def w_F_moveUp : List Cond := Cond.code y_F_moveUp b_F_moveUp 3 none :: gw
abbrev b_P_shorten : ByteArray := prog_1_method_10_code
def y_P_shorten : MethodName := ⟨R_P, "shorten", "(I)I"⟩
def w_P_shorten : List Cond := Cond.code y_P_shorten b_P_shorten 3 (some .int) :: gw
abbrev b_G_truthOf : ByteArray := prog_2_method_6_code
def y_G_truthOf : MethodName := ⟨R_G, "truthOf", "(I)Z"⟩
def w_G_truthOf : List Cond := Cond.code y_G_truthOf b_G_truthOf 2 (some .boolean) :: gw
abbrev b_G_isTrueWith : ByteArray := prog_2_method_5_code
def y_G_isTrueWith : MethodName := ⟨R_G, "isTrueWith", "(IJ)Z"⟩
def w_G_isTrueWith : List Cond := Cond.code y_G_isTrueWith b_G_isTrueWith 8 (some .boolean) :: gw
abbrev b_P_holds : ByteArray := prog_1_method_11_code
def y_P_holds : MethodName := ⟨R_P, "holds", "(IJ)Z"⟩
def w_P_holds : List Cond := Cond.code y_P_holds b_P_holds 4 (some .boolean) :: gw
abbrev b_X_literalLength : ByteArray := prog_5_method_6_code
def y_X_literalLength : MethodName := ⟨R_X, "literalLength", "(I)I"⟩
def w_X_literalLength : List Cond := Cond.code y_X_literalLength b_X_literalLength 1 (some .int) :: gw
abbrev b_X_lineLength : ByteArray := prog_5_method_4_code
def y_X_lineLength : MethodName := ⟨R_X, "lineLength", "(LProofLines$Proof;I)I"⟩
def w_X_lineLength : List Cond := Cond.code y_X_lineLength b_X_lineLength 4 (some .int) :: gw
abbrev b_X_lengthOf : ByteArray := prog_5_method_2_code
def y_X_lengthOf : MethodName := ⟨R_X, "lengthOf", "(LProofLines$Proof;)I"⟩
def w_X_lengthOf : List Cond := Cond.code y_X_lengthOf b_X_lengthOf 3 (some .int) :: gw
abbrev b_X_literalByte : ByteArray := prog_5_method_7_code
def y_X_literalByte : MethodName := ⟨R_X, "literalByte", "(II)I"⟩
def w_X_literalByte : List Cond := Cond.code y_X_literalByte b_X_literalByte 3 (some .int) :: gw
abbrev b_X_lineByte : ByteArray := prog_5_method_5_code
def y_X_lineByte : MethodName := ⟨R_X, "lineByte", "(LProofLines$Proof;II)I"⟩
def w_X_lineByte : List Cond := Cond.code y_X_lineByte b_X_lineByte 7 (some .int) :: gw
abbrev b_X_byteOf : ByteArray := prog_5_method_3_code
def y_X_byteOf : MethodName := ⟨R_X, "byteOf", "(LProofLines$Proof;I)I"⟩
def w_X_byteOf : List Cond := Cond.code y_X_byteOf b_X_byteOf 5 (some .int) :: gw
abbrev b_P_text : ByteArray := prog_1_method_12_code
def y_P_text : MethodName := ⟨R_P, "text", "(I)I"⟩
def w_P_text : List Cond := Cond.code y_P_text b_P_text 2 (some .int) :: gw
abbrev b_T_append : ByteArray := prog_4_method_2_code
def y_T_append : MethodName := ⟨R_T, "append", "(I)Z"⟩
def w_T_append : List Cond := Cond.code y_T_append b_T_append 2 (some .boolean) :: gw
abbrev b_P_unit : ByteArray := prog_1_method_13_code
def y_P_unit : MethodName := ⟨R_P, "unit", "(I)Z"⟩
def w_P_unit : List Cond := Cond.code y_P_unit b_P_unit 2 (some .boolean) :: gw
abbrev b_T_here : ByteArray := prog_4_method_13_code
def y_T_here : MethodName := ⟨R_T, "here", "()I"⟩
def w_T_here : List Cond := Cond.code y_T_here b_T_here 1 (some .int) :: gw
abbrev b_T_isBlankHere : ByteArray := prog_4_method_10_code
def y_T_isBlankHere : MethodName := ⟨R_T, "isBlankHere", "()Z"⟩
def w_T_isBlankHere : List Cond := Cond.code y_T_isBlankHere b_T_isBlankHere 2 (some .boolean) :: gw
abbrev b_T_skipToLine : ByteArray := prog_4_method_9_code
def y_T_skipToLine : MethodName := ⟨R_T, "skipToLine", "()V"⟩
def w_T_skipToLine : List Cond := Cond.code y_T_skipToLine b_T_skipToLine 1 none :: gw
abbrev b_T_skipBlanks : ByteArray := prog_4_method_8_code
def y_T_skipBlanks : MethodName := ⟨R_T, "skipBlanks", "()V"⟩
def w_T_skipBlanks : List Cond := Cond.code y_T_skipBlanks b_T_skipBlanks 1 none :: gw
abbrev b_T_isSignHere : ByteArray := prog_4_method_11_code
def y_T_isSignHere : MethodName := ⟨R_T, "isSignHere", "()Z"⟩
def w_T_isSignHere : List Cond := Cond.code y_T_isSignHere b_T_isSignHere 1 (some .boolean) :: gw
abbrev b_T_isDigitHere : ByteArray := prog_4_method_12_code
def y_T_isDigitHere : MethodName := ⟨R_T, "isDigitHere", "()Z"⟩
def w_T_isDigitHere : List Cond := Cond.code y_T_isDigitHere b_T_isDigitHere 1 (some .boolean) :: gw
abbrev b_T_readNumber : ByteArray := prog_4_method_6_code
def y_T_readNumber : MethodName := ⟨R_T, "readNumber", "()I"⟩
def w_T_readNumber : List Cond := Cond.code y_T_readNumber b_T_readNumber 2 (some .int) :: gw
abbrev b_T_readLiteral : ByteArray := prog_4_method_5_code
def y_T_readLiteral : MethodName := ⟨R_T, "readLiteral", "(I)V"⟩
def w_T_readLiteral : List Cond := Cond.code y_T_readLiteral b_T_readLiteral 6 none :: gw
abbrev b_T_endLine : ByteArray := prog_4_method_7_code
def y_T_endLine : MethodName := ⟨R_T, "endLine", "(I)V"⟩
def w_T_endLine : List Cond := Cond.code y_T_endLine b_T_endLine 4 none :: gw
abbrev b_T_readLine : ByteArray := prog_4_method_4_code
def y_T_readLine : MethodName := ⟨R_T, "readLine", "()V"⟩
def w_T_readLine : List Cond := Cond.code y_T_readLine b_T_readLine 4 none :: gw
abbrev b_T_readAll : ByteArray := prog_4_method_3_code
def y_T_readAll : MethodName := ⟨R_T, "readAll", "()I"⟩
def w_T_readAll : List Cond := Cond.code y_T_readAll b_T_readAll 2 (some .int) :: gw
abbrev b_P_read : ByteArray := prog_1_method_14_code
def y_P_read : MethodName := ⟨R_P, "read", "()I"⟩
def w_P_read : List Cond := Cond.code y_P_read b_P_read 3 (some .int) :: gw
abbrev b_P_count : ByteArray := prog_1_method_15_code
def y_P_count : MethodName := ⟨R_P, "count", "(I)I"⟩
def w_P_count : List Cond := Cond.code y_P_count b_P_count 2 (some .int) :: gw
abbrev b_P_clear : ByteArray := prog_1_method_16_code
def y_P_clear : MethodName := ⟨R_P, "clear", "()V"⟩
def w_P_clear : List Cond := Cond.code y_P_clear b_P_clear 1 none :: gw
abbrev b_M_thrown : ByteArray := prog_8_method_2_code
def y_M_thrown : MethodName := ⟨R_M, "thrown", "()I"⟩
def w_M_thrown : List Cond := Cond.code y_M_thrown b_M_thrown 1 (some .int) :: gw
abbrev b_M_isLiteral : ByteArray := prog_8_method_3_code
def y_M_isLiteral : MethodName := ⟨R_M, "isLiteral", "(I)Z"⟩
def w_M_isLiteral : List Cond := Cond.code y_M_isLiteral b_M_isLiteral 2 (some .boolean) :: gw
abbrev b_M_isLine : ByteArray := prog_8_method_4_code
def y_M_isLine : MethodName := ⟨R_M, "isLine", "(I)Z"⟩
def w_M_isLine : List Cond := Cond.code y_M_isLine b_M_isLine 2 (some .boolean) :: gw
abbrev b_M_gate : ByteArray := prog_8_method_5_code
def y_M_gate : MethodName := ⟨R_M, "gate", "(III)I"⟩
def w_M_gate : List Cond := Cond.code y_M_gate b_M_gate 5 (some .int) :: gw
abbrev b_M_line : ByteArray := prog_8_method_6_code
def y_M_line : MethodName := ⟨R_M, "line", "()I"⟩
def w_M_line : List Cond := Cond.code y_M_line b_M_line 1 (some .int) :: gw
abbrev b_M_isThere : ByteArray := prog_8_method_7_code
def y_M_isThere : MethodName := ⟨R_M, "isThere", "(II)Z"⟩
def w_M_isThere : List Cond := Cond.code y_M_isThere b_M_isThere 5 (some .boolean) :: gw
abbrev b_M_add : ByteArray := prog_8_method_8_code
def y_M_add : MethodName := ⟨R_M, "add", "(II)V"⟩
def w_M_add : List Cond := Cond.code y_M_add b_M_add 3 none :: gw
abbrev b_M_literal : ByteArray := prog_8_method_9_code
def y_M_literal : MethodName := ⟨R_M, "literal", "(II)Z"⟩
def w_M_literal : List Cond := Cond.code y_M_literal b_M_literal 5 (some .boolean) :: gw
abbrev b_M_equalLine : ByteArray := prog_8_method_10_code
def y_M_equalLine : MethodName := ⟨R_M, "equalLine", "(II)I"⟩
def w_M_equalLine : List Cond := Cond.code y_M_equalLine b_M_equalLine 3 (some .int) :: gw
abbrev b_M_value : ByteArray := prog_8_method_11_code
def y_M_value : MethodName := ⟨R_M, "value", "(I)I"⟩
def w_M_value : List Cond := Cond.code y_M_value b_M_value 3 (some .int) :: gw
abbrev b_M_tell : ByteArray := prog_8_method_12_code
def y_M_tell : MethodName := ⟨R_M, "tell", "(II)V"⟩
def w_M_tell : List Cond := Cond.code y_M_tell b_M_tell 4 none :: gw
abbrev b_M_and : ByteArray := prog_8_method_13_code
def y_M_and : MethodName := ⟨R_M, "and", "(I)V"⟩
def w_M_and : List Cond := Cond.code y_M_and b_M_and 5 none :: gw
abbrev b_M_either : ByteArray := prog_8_method_14_code
def y_M_either : MethodName := ⟨R_M, "either", "(I)V"⟩
def w_M_either : List Cond := Cond.code y_M_either b_M_either 5 none :: gw
abbrev b_M_clause : ByteArray := prog_8_method_15_code
def y_M_clause : MethodName := ⟨R_M, "clause", "(I)V"⟩
def w_M_clause : List Cond := Cond.code y_M_clause b_M_clause 6 none :: gw
abbrev b_M_equality : ByteArray := prog_8_method_16_code
def y_M_equality : MethodName := ⟨R_M, "equality", "(I)V"⟩
def w_M_equality : List Cond := Cond.code y_M_equality b_M_equality 4 none :: gw
abbrev b_M_begin : ByteArray := prog_8_method_17_code
def y_M_begin : MethodName := ⟨R_M, "begin", "()V"⟩
def w_M_begin : List Cond := Cond.code y_M_begin b_M_begin 2 none :: gw
abbrev b_M_steps : ByteArray := prog_8_method_18_code
def y_M_steps : MethodName := ⟨R_M, "steps", "(I)V"⟩
def w_M_steps : List Cond := Cond.code y_M_steps b_M_steps 3 none :: gw
abbrev b_M_opposes : ByteArray := prog_8_method_19_code
def y_M_opposes : MethodName := ⟨R_M, "opposes", "(IIIII)Z"⟩
def w_M_opposes : List Cond := Cond.code y_M_opposes b_M_opposes 6 (some .boolean) :: gw
abbrev b_M_follows : ByteArray := prog_8_method_20_code
def y_M_follows : MethodName := ⟨R_M, "follows", "(II)Z"⟩
def w_M_follows : List Cond := Cond.code y_M_follows b_M_follows 5 (some .boolean) :: gw
abbrev b_M_bad : ByteArray := prog_8_method_21_code
def y_M_bad : MethodName := ⟨R_M, "bad", "(I)I"⟩
def w_M_bad : List Cond := Cond.code y_M_bad b_M_bad 3 (some .int) :: gw
abbrev b_M_allThere : ByteArray := prog_8_method_22_code
def y_M_allThere : MethodName := ⟨R_M, "allThere", "()V"⟩
def w_M_allThere : List Cond := Cond.code y_M_allThere b_M_allThere 2 none :: gw
abbrev b_M_check : ByteArray := prog_8_method_23_code
def y_M_check : MethodName := ⟨R_M, "check", "(I)I"⟩
def w_M_check : List Cond := Cond.code y_M_check b_M_check 2 (some .int) :: gw
abbrev b_M_good : ByteArray := prog_8_method_24_code
def y_M_good : MethodName := ⟨R_M, "good", "(I)Z"⟩
def w_M_good : List Cond := Cond.code y_M_good b_M_good 2 (some .boolean) :: gw
abbrev b_M_implied : ByteArray := prog_8_method_25_code
def y_M_implied : MethodName := ⟨R_M, "implied", "(IIII)I"⟩
def w_M_implied : List Cond := Cond.code y_M_implied b_M_implied 8 (some .int) :: gw
abbrev b_M_shorten : ByteArray := prog_8_method_26_code
def y_M_shorten : MethodName := ⟨R_M, "shorten", "(I)I"⟩
def w_M_shorten : List Cond := Cond.code y_M_shorten b_M_shorten 5 (some .int) :: gw
abbrev b_M_lineAt : ByteArray := prog_8_method_27_code
def y_M_lineAt : MethodName := ⟨R_M, "lineAt", "(II)I"⟩
def w_M_lineAt : List Cond := Cond.code y_M_lineAt b_M_lineAt 3 (some .int) :: gw
abbrev b_M_holds : ByteArray := prog_8_method_28_code
def y_M_holds : MethodName := ⟨R_M, "holds", "(IJ)Z"⟩
def w_M_holds : List Cond := Cond.code y_M_holds b_M_holds 6 (some .boolean) :: gw
abbrev b_M_inputs : ByteArray := prog_8_method_29_code
def y_M_inputs : MethodName := ⟨R_M, "inputs", "()I"⟩
def w_M_inputs : List Cond := Cond.code y_M_inputs b_M_inputs 3 (some .int) :: gw
abbrev b_M_byteAt : ByteArray := prog_8_method_30_code
def y_M_byteAt : MethodName := ⟨R_M, "byteAt", "(I)I"⟩
def w_M_byteAt : List Cond := Cond.code y_M_byteAt b_M_byteAt 9 (some .int) :: gw
abbrev b_M_text : ByteArray := prog_8_method_31_code
def y_M_text : MethodName := ⟨R_M, "text", "(I)I"⟩
def w_M_text : List Cond := Cond.code y_M_text b_M_text 3 (some .int) :: gw
abbrev b_M_count : ByteArray := prog_8_method_32_code
def y_M_count : MethodName := ⟨R_M, "count", "(I)I"⟩
def w_M_count : List Cond := Cond.code y_M_count b_M_count 2 (some .int) :: gw
abbrev b_M_clear : ByteArray := prog_8_method_33_code
def y_M_clear : MethodName := ⟨R_M, "clear", "()V"⟩
def w_M_clear : List Cond := Cond.code y_M_clear b_M_clear 1 none :: gw
abbrev b_M_unit : ByteArray := prog_8_method_34_code
def y_M_unit : MethodName := ⟨R_M, "unit", "(I)Z"⟩
def w_M_unit : List Cond := Cond.code y_M_unit b_M_unit 3 (some .boolean) :: gw
abbrev b_M_next : ByteArray := prog_8_method_35_code
def y_M_next : MethodName := ⟨R_M, "next", "()I"⟩
def w_M_next : List Cond := Cond.code y_M_next b_M_next 1 (some .int) :: gw
abbrev b_M_readLiteral : ByteArray := prog_8_method_36_code
def y_M_readLiteral : MethodName := ⟨R_M, "readLiteral", "()I"⟩
def w_M_readLiteral : List Cond := Cond.code y_M_readLiteral b_M_readLiteral 5 (some .int) :: gw
abbrev b_M_readLine : ByteArray := prog_8_method_37_code
def y_M_readLine : MethodName := ⟨R_M, "readLine", "(I)I"⟩
def w_M_readLine : List Cond := Cond.code y_M_readLine b_M_readLine 6 (some .int) :: gw
abbrev b_M_read : ByteArray := prog_8_method_38_code
def y_M_read : MethodName := ⟨R_M, "read", "()I"⟩
def w_M_read : List Cond := Cond.code y_M_read b_M_read 4 (some .int) :: gw
abbrev b_P_new : ByteArray := prog_1_method_1_code
def y_P_new : MethodName := ⟨R_P, "<init>", "()V"⟩
def w_P_new : List Cond := Cond.code y_P_new b_P_new 1 none :: gw
abbrev b_G_new : ByteArray := prog_2_method_1_code
def y_G_new : MethodName := ⟨R_G, "<init>", "()V"⟩
def w_G_new : List Cond := Cond.code y_G_new b_G_new 1 none :: gw
abbrev b_F_new : ByteArray := prog_3_method_1_code
def y_F_new : MethodName := ⟨R_F, "<init>", "()V"⟩
def w_F_new : List Cond := Cond.code y_F_new b_F_new 1 none :: gw
abbrev b_U_new : ByteArray := prog_6_method_1_code
def y_U_new : MethodName := ⟨R_U, "<init>", "(LProofLines$Gates;LProofLines$Proof;)V"⟩
def w_U_new : List Cond := Cond.code y_U_new b_U_new 3 none :: gw
abbrev b_T_new : ByteArray := prog_4_method_1_code
def y_T_new : MethodName := ⟨R_T, "<init>", "(LProofLines$Gates;LProofLines$Proof;)V"⟩
def w_T_new : List Cond := Cond.code y_T_new b_T_new 3 none :: gw
abbrev b_M_new : ByteArray := prog_8_method_1_code
def y_M_new : MethodName := ⟨R_M, "<init>", "()V"⟩
def w_M_new : List Cond := Cond.code y_M_new b_M_new 1 none :: gw
end
section
theorem gm_141 : Cond.fieldLink R_P 10 "ProofLines" "gates" "LProofLines$Gates;" ∈ gw := gmem 141 (by decide +kernel) (by decide +kernel)
theorem gm_38 : Cond.fieldLink R_G 25 "ProofLines$Gates" "size" "I" ∈ gw := gmem 38 (by decide +kernel) (by decide +kernel)
theorem gm_227 : Cond.code y_G_has b_G_has 2 (some .boolean) ∈ gw := gmem 227 (by decide +kernel) (by decide +kernel)
theorem gm_262 : Cond.methodLink R_G 32 y_G_has ∈ gw := gmem 262 (by decide +kernel) (by decide +kernel)
theorem gm_226 : Cond.instanceMethod y_G_has ∈ gw := gmem 226 (by decide +kernel) (by decide +kernel)
theorem gs_14 : Cond.selects R_G y_G_has y_G_has ∈ gw := gmemS 14 (by decide +kernel) (by decide +kernel)
theorem gm_2 : Cond.initialized R_G ∈ gw := gmem 2 (by decide +kernel) (by decide +kernel)
theorem nw_39 : Cond.fieldLinkNest R_P 55 "ProofLines$Gates" "size" "I" "ProofLines" ∈ nestWs := nmem 39 (by decide +kernel) (by decide +kernel)
theorem gm_31 : Cond.fieldLink R_G 9 "ProofLines$Gates" "kinds" "[I" ∈ gw := gmem 31 (by decide +kernel) (by decide +kernel)
theorem gm_33 : Cond.fieldLink R_G 15 "ProofLines$Gates" "lefts" "[I" ∈ gw := gmem 33 (by decide +kernel) (by decide +kernel)
theorem gm_35 : Cond.fieldLink R_G 18 "ProofLines$Gates" "rights" "[I" ∈ gw := gmem 35 (by decide +kernel) (by decide +kernel)
theorem gm_41 : Cond.fieldLink R_G 29 "ProofLines$Gates" "inputs" "I" ∈ gw := gmem 41 (by decide +kernel) (by decide +kernel)
theorem gm_261 : Cond.code y_G_hasLiteral b_G_hasLiteral 2 (some .boolean) ∈ gw := gmem 261 (by decide +kernel) (by decide +kernel)
theorem nw_258 : Cond.methodLinkNest R_P 39 y_G_hasLiteral "ProofLines" ∈ nestWs := nmem 258 (by decide +kernel) (by decide +kernel)
theorem gm_260 : Cond.instanceMethod y_G_hasLiteral ∈ gw := gmem 260 (by decide +kernel) (by decide +kernel)
theorem gs_19 : Cond.selects R_G y_G_hasLiteral y_G_hasLiteral ∈ gw := gmemS 19 (by decide +kernel) (by decide +kernel)
theorem gm_366 : Cond.code y_G_add b_G_add 5 (some .int) ∈ gw := gmem 366 (by decide +kernel) (by decide +kernel)
theorem nw_363 : Cond.methodLinkNest R_P 64 y_G_add "ProofLines" ∈ nestWs := nmem 363 (by decide +kernel) (by decide +kernel)
theorem gm_365 : Cond.instanceMethod y_G_add ∈ gw := gmem 365 (by decide +kernel) (by decide +kernel)
theorem gs_21 : Cond.selects R_G y_G_add y_G_add ∈ gw := gmemS 21 (by decide +kernel) (by decide +kernel)
theorem gm_142 : Cond.fieldLink R_P 19 "ProofLines" "proof" "LProofLines$Proof;" ∈ gw := gmem 142 (by decide +kernel) (by decide +kernel)
theorem gm_77 : Cond.fieldLink R_F 25 "ProofLines$Proof" "size" "I" ∈ gw := gmem 77 (by decide +kernel) (by decide +kernel)
theorem gm_64 : Cond.fieldLink R_F 9 "ProofLines$Proof" "kinds" "[I" ∈ gw := gmem 64 (by decide +kernel) (by decide +kernel)
theorem gm_69 : Cond.fieldLink R_F 15 "ProofLines$Proof" "sizes" "[I" ∈ gw := gmem 69 (by decide +kernel) (by decide +kernel)
theorem gm_193 : Cond.code y_F_add b_F_add 3 (some .int) ∈ gw := gmem 193 (by decide +kernel) (by decide +kernel)
theorem nw_376 : Cond.methodLinkNest R_P 74 y_F_add "ProofLines" ∈ nestWs := nmem 376 (by decide +kernel) (by decide +kernel)
theorem gm_3 : Cond.initialized R_F ∈ gw := gmem 3 (by decide +kernel) (by decide +kernel)
theorem gm_192 : Cond.instanceMethod y_F_add ∈ gw := gmem 192 (by decide +kernel) (by decide +kernel)
theorem gs_7 : Cond.selects R_F y_F_add y_F_add ∈ gw := gmemS 7 (by decide +kernel) (by decide +kernel)
theorem gm_189 : Cond.code y_F_isFull b_F_isFull 1 (some .boolean) ∈ gw := gmem 189 (by decide +kernel) (by decide +kernel)
theorem nw_374 : Cond.methodLinkNest R_P 68 y_F_isFull "ProofLines" ∈ nestWs := nmem 374 (by decide +kernel) (by decide +kernel)
theorem gm_188 : Cond.instanceMethod y_F_isFull ∈ gw := gmem 188 (by decide +kernel) (by decide +kernel)
theorem gs_6 : Cond.selects R_F y_F_isFull y_F_isFull ∈ gw := gmemS 6 (by decide +kernel) (by decide +kernel)
theorem nw_66 : Cond.fieldLinkNest R_P 82 "ProofLines$Proof" "kinds" "[I" "ProofLines" ∈ nestWs := nmem 66 (by decide +kernel) (by decide +kernel)
theorem gm_73 : Cond.fieldLink R_F 18 "ProofLines$Proof" "literals" "[I" ∈ gw := gmem 73 (by decide +kernel) (by decide +kernel)
theorem gm_235 : Cond.code y_F_literalOf b_F_literalOf 3 (some .int) ∈ gw := gmem 235 (by decide +kernel) (by decide +kernel)
theorem gm_232 : Cond.methodLink R_F 29 y_F_literalOf ∈ gw := gmem 232 (by decide +kernel) (by decide +kernel)
theorem gm_234 : Cond.instanceMethod y_F_literalOf ∈ gw := gmem 234 (by decide +kernel) (by decide +kernel)
theorem gs_16 : Cond.selects R_F y_F_literalOf y_F_literalOf ∈ gw := gmemS 16 (by decide +kernel) (by decide +kernel)
theorem gm_239 : Cond.code y_F_append b_F_append 3 none ∈ gw := gmem 239 (by decide +kernel) (by decide +kernel)
theorem nw_393 : Cond.methodLinkNest R_P 97 y_F_append "ProofLines" ∈ nestWs := nmem 393 (by decide +kernel) (by decide +kernel)
theorem gm_238 : Cond.instanceMethod y_F_append ∈ gw := gmem 238 (by decide +kernel) (by decide +kernel)
theorem gs_17 : Cond.selects R_F y_F_append y_F_append ∈ gw := gmemS 17 (by decide +kernel) (by decide +kernel)
theorem gm_223 : Cond.code y_F_isLineFull b_F_isLineFull 2 (some .boolean) ∈ gw := gmem 223 (by decide +kernel) (by decide +kernel)
theorem nw_391 : Cond.methodLinkNest R_P 92 y_F_isLineFull "ProofLines" ∈ nestWs := nmem 391 (by decide +kernel) (by decide +kernel)
theorem gm_222 : Cond.instanceMethod y_F_isLineFull ∈ gw := gmem 222 (by decide +kernel) (by decide +kernel)
theorem gs_13 : Cond.selects R_F y_F_isLineFull y_F_isLineFull ∈ gw := gmemS 13 (by decide +kernel) (by decide +kernel)
theorem gm_231 : Cond.code y_F_contains b_F_contains 4 (some .boolean) ∈ gw := gmem 231 (by decide +kernel) (by decide +kernel)
theorem nw_390 : Cond.methodLinkNest R_P 88 y_F_contains "ProofLines" ∈ nestWs := nmem 390 (by decide +kernel) (by decide +kernel)
theorem gm_230 : Cond.instanceMethod y_F_contains ∈ gw := gmem 230 (by decide +kernel) (by decide +kernel)
theorem gs_15 : Cond.selects R_F y_F_contains y_F_contains ∈ gw := gmemS 15 (by decide +kernel) (by decide +kernel)
theorem gm_387 : Cond.code y_F_has b_F_has 2 (some .boolean) ∈ gw := gmem 387 (by decide +kernel) (by decide +kernel)
theorem nw_384 : Cond.methodLinkNest R_P 77 y_F_has "ProofLines" ∈ nestWs := nmem 384 (by decide +kernel) (by decide +kernel)
theorem gm_386 : Cond.instanceMethod y_F_has ∈ gw := gmem 386 (by decide +kernel) (by decide +kernel)
theorem gs_22 : Cond.selects R_F y_F_has y_F_has ∈ gw := gmemS 22 (by decide +kernel) (by decide +kernel)
theorem nw_80 : Cond.fieldLinkNest R_P 131 "ProofLines$Proof" "size" "I" "ProofLines" ∈ nestWs := nmem 80 (by decide +kernel) (by decide +kernel)
theorem gm_143 : Cond.fieldLink R_P 28 "ProofLines" "steps" "LProofLines$UnitSteps;" ∈ gw := gmem 143 (by decide +kernel) (by decide +kernel)
theorem gm_100 : Cond.fieldLink R_U 9 "ProofLines$UnitSteps" "told" "[I" ∈ gw := gmem 100 (by decide +kernel) (by decide +kernel)
theorem gm_102 : Cond.fieldLink R_U 15 "ProofLines$UnitSteps" "conflict" "Z" ∈ gw := gmem 102 (by decide +kernel) (by decide +kernel)
theorem gm_427 : Cond.code y_A_fill b_A_fill 4 none ∈ gw := gmem 427 (by decide +kernel) (by decide +kernel)
theorem gm_425 : Cond.methodLink R_U 61 y_A_fill ∈ gw := gmem 425 (by decide +kernel) (by decide +kernel)
theorem gm_426 : Cond.static y_A_fill ∈ gw := gmem 426 (by decide +kernel) (by decide +kernel)
theorem gm_13 : Cond.initialized R_A ∈ gw := gmem 13 (by decide +kernel) (by decide +kernel)
theorem gm_103 : Cond.fieldLink R_U 19 "ProofLines$UnitSteps" "changed" "Z" ∈ gw := gmem 103 (by decide +kernel) (by decide +kernel)
theorem gm_99 : Cond.fieldLink R_U 26 "ProofLines$UnitSteps" "proof" "LProofLines$Proof;" ∈ gw := gmem 99 (by decide +kernel) (by decide +kernel)
theorem nw_79 : Cond.fieldLinkNest R_U 57 "ProofLines$Proof" "size" "I" "ProofLines" ∈ nestWs := nmem 79 (by decide +kernel) (by decide +kernel)
theorem gm_98 : Cond.fieldLink R_U 22 "ProofLines$UnitSteps" "gates" "LProofLines$Gates;" ∈ gw := gmem 98 (by decide +kernel) (by decide +kernel)
theorem nw_40 : Cond.fieldLinkNest R_U 67 "ProofLines$Gates" "size" "I" "ProofLines" ∈ nestWs := nmem 40 (by decide +kernel) (by decide +kernel)
theorem nw_32 : Cond.fieldLinkNest R_U 70 "ProofLines$Gates" "kinds" "[I" "ProofLines" ∈ nestWs := nmem 32 (by decide +kernel) (by decide +kernel)
theorem nw_34 : Cond.fieldLinkNest R_U 71 "ProofLines$Gates" "lefts" "[I" "ProofLines" ∈ nestWs := nmem 34 (by decide +kernel) (by decide +kernel)
theorem nw_36 : Cond.fieldLinkNest R_U 74 "ProofLines$Gates" "rights" "[I" "ProofLines" ∈ nestWs := nmem 36 (by decide +kernel) (by decide +kernel)
theorem gm_431 : Cond.code y_U_tell b_U_tell 5 none ∈ gw := gmem 431 (by decide +kernel) (by decide +kernel)
theorem gm_428 : Cond.methodLink R_U 49 y_U_tell ∈ gw := gmem 428 (by decide +kernel) (by decide +kernel)
theorem gm_430 : Cond.instanceMethod y_U_tell ∈ gw := gmem 430 (by decide +kernel) (by decide +kernel)
theorem gs_27 : Cond.selects R_U y_U_tell y_U_tell ∈ gw := gmemS 27 (by decide +kernel) (by decide +kernel)
theorem gm_4 : Cond.initialized R_U ∈ gw := gmem 4 (by decide +kernel) (by decide +kernel)
theorem gm_443 : Cond.code y_U_toldOf b_U_toldOf 3 (some .int) ∈ gw := gmem 443 (by decide +kernel) (by decide +kernel)
theorem gm_440 : Cond.methodLink R_U 95 y_U_toldOf ∈ gw := gmem 440 (by decide +kernel) (by decide +kernel)
theorem gm_442 : Cond.instanceMethod y_U_toldOf ∈ gw := gmem 442 (by decide +kernel) (by decide +kernel)
theorem gs_30 : Cond.selects R_U y_U_toldOf y_U_toldOf ∈ gw := gmemS 30 (by decide +kernel) (by decide +kernel)
theorem nw_75 : Cond.fieldLinkNest R_U 84 "ProofLines$Proof" "leftOut" "[Z" "ProofLines" ∈ nestWs := nmem 75 (by decide +kernel) (by decide +kernel)
theorem nw_65 : Cond.fieldLinkNest R_U 30 "ProofLines$Proof" "kinds" "[I" "ProofLines" ∈ nestWs := nmem 65 (by decide +kernel) (by decide +kernel)
theorem nw_70 : Cond.fieldLinkNest R_U 46 "ProofLines$Proof" "sizes" "[I" "ProofLines" ∈ nestWs := nmem 70 (by decide +kernel) (by decide +kernel)
theorem nw_416 : Cond.methodLinkNest R_U 35 y_F_literalOf "ProofLines" ∈ nestWs := nmem 416 (by decide +kernel) (by decide +kernel)
theorem gm_447 : Cond.code y_U_stepEither b_U_stepEither 7 none ∈ gw := gmem 447 (by decide +kernel) (by decide +kernel)
theorem gm_444 : Cond.methodLink R_U 81 y_U_stepEither ∈ gw := gmem 444 (by decide +kernel) (by decide +kernel)
theorem gm_446 : Cond.instanceMethod y_U_stepEither ∈ gw := gmem 446 (by decide +kernel) (by decide +kernel)
theorem gs_31 : Cond.selects R_U y_U_stepEither y_U_stepEither ∈ gw := gmemS 31 (by decide +kernel) (by decide +kernel)
theorem gm_439 : Cond.code y_U_stepAnd b_U_stepAnd 7 none ∈ gw := gmem 439 (by decide +kernel) (by decide +kernel)
theorem gm_436 : Cond.methodLink R_U 77 y_U_stepAnd ∈ gw := gmem 436 (by decide +kernel) (by decide +kernel)
theorem gm_438 : Cond.instanceMethod y_U_stepAnd ∈ gw := gmem 438 (by decide +kernel) (by decide +kernel)
theorem gs_29 : Cond.selects R_U y_U_stepAnd y_U_stepAnd ∈ gw := gmemS 29 (by decide +kernel) (by decide +kernel)
theorem gm_455 : Cond.code y_U_stepClause b_U_stepClause 6 none ∈ gw := gmem 455 (by decide +kernel) (by decide +kernel)
theorem gm_452 : Cond.methodLink R_U 91 y_U_stepClause ∈ gw := gmem 452 (by decide +kernel) (by decide +kernel)
theorem gm_454 : Cond.instanceMethod y_U_stepClause ∈ gw := gmem 454 (by decide +kernel) (by decide +kernel)
theorem gs_33 : Cond.selects R_U y_U_stepClause y_U_stepClause ∈ gw := gmemS 33 (by decide +kernel) (by decide +kernel)
theorem gm_451 : Cond.code y_U_stepEquality b_U_stepEquality 5 none ∈ gw := gmem 451 (by decide +kernel) (by decide +kernel)
theorem gm_448 : Cond.methodLink R_U 88 y_U_stepEquality ∈ gw := gmem 448 (by decide +kernel) (by decide +kernel)
theorem gm_450 : Cond.instanceMethod y_U_stepEquality ∈ gw := gmem 450 (by decide +kernel) (by decide +kernel)
theorem gs_32 : Cond.selects R_U y_U_stepEquality y_U_stepEquality ∈ gw := gmemS 32 (by decide +kernel) (by decide +kernel)
theorem gm_435 : Cond.code y_U_comeToConflict b_U_comeToConflict 4 (some .boolean) ∈ gw := gmem 435 (by decide +kernel) (by decide +kernel)
theorem gm_432 : Cond.methodLink R_U 53 y_U_comeToConflict ∈ gw := gmem 432 (by decide +kernel) (by decide +kernel)
theorem gm_434 : Cond.instanceMethod y_U_comeToConflict ∈ gw := gmem 434 (by decide +kernel) (by decide +kernel)
theorem gs_28 : Cond.selects R_U y_U_comeToConflict y_U_comeToConflict ∈ gw := gmemS 28 (by decide +kernel) (by decide +kernel)
theorem gm_424 : Cond.code y_U_begin b_U_begin 1 none ∈ gw := gmem 424 (by decide +kernel) (by decide +kernel)
theorem gm_421 : Cond.methodLink R_U 43 y_U_begin ∈ gw := gmem 421 (by decide +kernel) (by decide +kernel)
theorem gm_423 : Cond.instanceMethod y_U_begin ∈ gw := gmem 423 (by decide +kernel) (by decide +kernel)
theorem gs_26 : Cond.selects R_U y_U_begin y_U_begin ∈ gw := gmemS 26 (by decide +kernel) (by decide +kernel)
theorem nw_76 : Cond.fieldLinkNest R_P 138 "ProofLines$Proof" "leftOut" "[Z" "ProofLines" ∈ nestWs := nmem 76 (by decide +kernel) (by decide +kernel)
theorem gm_420 : Cond.code y_U_bothConflict b_U_bothConflict 4 (some .boolean) ∈ gw := gmem 420 (by decide +kernel) (by decide +kernel)
theorem gm_417 : Cond.methodLink R_U 39 y_U_bothConflict ∈ gw := gmem 417 (by decide +kernel) (by decide +kernel)
theorem gm_419 : Cond.instanceMethod y_U_bothConflict ∈ gw := gmem 419 (by decide +kernel) (by decide +kernel)
theorem gs_25 : Cond.selects R_U y_U_bothConflict y_U_bothConflict ∈ gw := gmemS 25 (by decide +kernel) (by decide +kernel)
theorem gm_459 : Cond.code y_U_literalFollows b_U_literalFollows 2 (some .boolean) ∈ gw := gmem 459 (by decide +kernel) (by decide +kernel)
theorem nw_456 : Cond.methodLinkNest R_P 173 y_U_literalFollows "ProofLines" ∈ nestWs := nmem 456 (by decide +kernel) (by decide +kernel)
theorem gm_458 : Cond.instanceMethod y_U_literalFollows ∈ gw := gmem 458 (by decide +kernel) (by decide +kernel)
theorem gs_34 : Cond.selects R_U y_U_literalFollows y_U_literalFollows ∈ gw := gmemS 34 (by decide +kernel) (by decide +kernel)
theorem gm_415 : Cond.code y_U_lineFollows b_U_lineFollows 4 (some .boolean) ∈ gw := gmem 415 (by decide +kernel) (by decide +kernel)
theorem nw_412 : Cond.methodLinkNest R_P 107 y_U_lineFollows "ProofLines" ∈ nestWs := nmem 412 (by decide +kernel) (by decide +kernel)
theorem gm_414 : Cond.instanceMethod y_U_lineFollows ∈ gw := gmem 414 (by decide +kernel) (by decide +kernel)
theorem gs_24 : Cond.selects R_U y_U_lineFollows y_U_lineFollows ∈ gw := gmemS 24 (by decide +kernel) (by decide +kernel)
theorem gm_411 : Cond.code y_P_firstBad b_P_firstBad 4 (some .int) ∈ gw := gmem 411 (by decide +kernel) (by decide +kernel)
theorem gm_408 : Cond.methodLink R_P 101 y_P_firstBad ∈ gw := gmem 408 (by decide +kernel) (by decide +kernel)
theorem gm_410 : Cond.instanceMethod y_P_firstBad ∈ gw := gmem 410 (by decide +kernel) (by decide +kernel)
theorem gs_23 : Cond.selects R_P y_P_firstBad y_P_firstBad ∈ gw := gmemS 23 (by decide +kernel) (by decide +kernel)
theorem gm_1 : Cond.initialized R_P ∈ gw := gmem 1 (by decide +kernel) (by decide +kernel)
theorem nw_72 : Cond.fieldLinkNest R_P 110 "ProofLines$Proof" "sizes" "[I" "ProofLines" ∈ nestWs := nmem 72 (by decide +kernel) (by decide +kernel)
theorem nw_476 : Cond.methodLinkNest R_P 115 y_F_literalOf "ProofLines" ∈ nestWs := nmem 476 (by decide +kernel) (by decide +kernel)
theorem nw_495 : Cond.methodLinkNest R_P 176 y_U_tell "ProofLines" ∈ nestWs := nmem 495 (by decide +kernel) (by decide +kernel)
theorem nw_101 : Cond.fieldLinkNest R_P 135 "ProofLines$UnitSteps" "told" "[I" "ProofLines" ∈ nestWs := nmem 101 (by decide +kernel) (by decide +kernel)
theorem nw_496 : Cond.methodLinkNest R_P 132 y_U_comeToConflict "ProofLines" ∈ nestWs := nmem 496 (by decide +kernel) (by decide +kernel)
theorem gm_494 : Cond.code y_P_assumeUnlessNone b_P_assumeUnlessNone 2 none ∈ gw := gmem 494 (by decide +kernel) (by decide +kernel)
theorem gm_491 : Cond.methodLink R_P 127 y_P_assumeUnlessNone ∈ gw := gmem 491 (by decide +kernel) (by decide +kernel)
theorem gm_493 : Cond.instanceMethod y_P_assumeUnlessNone ∈ gw := gmem 493 (by decide +kernel) (by decide +kernel)
theorem gs_36 : Cond.selects R_P y_P_assumeUnlessNone y_P_assumeUnlessNone ∈ gw := gmemS 36 (by decide +kernel) (by decide +kernel)
theorem nw_490 : Cond.methodLinkNest R_P 124 y_U_begin "ProofLines" ∈ nestWs := nmem 490 (by decide +kernel) (by decide +kernel)
theorem nw_488 : Cond.methodLinkNest R_P 121 y_G_has "ProofLines" ∈ nestWs := nmem 488 (by decide +kernel) (by decide +kernel)
theorem gm_487 : Cond.code y_P_isNoneOrLiteral b_P_isNoneOrLiteral 2 (some .boolean) ∈ gw := gmem 487 (by decide +kernel) (by decide +kernel)
theorem gm_484 : Cond.methodLink R_P 118 y_P_isNoneOrLiteral ∈ gw := gmem 484 (by decide +kernel) (by decide +kernel)
theorem gm_486 : Cond.instanceMethod y_P_isNoneOrLiteral ∈ gw := gmem 486 (by decide +kernel) (by decide +kernel)
theorem gs_35 : Cond.selects R_P y_P_isNoneOrLiteral y_P_isNoneOrLiteral ∈ gw := gmemS 35 (by decide +kernel) (by decide +kernel)
theorem gm_74 : Cond.fieldLink R_F 21 "ProofLines$Proof" "leftOut" "[Z" ∈ gw := gmem 74 (by decide +kernel) (by decide +kernel)
theorem gm_508 : Cond.methodLink R_F 33 arraycopyName ∈ gw := gmem 508 (by decide +kernel) (by decide +kernel)
theorem gm_510 : Cond.native arraycopyName ∈ gw := gmem 510 (by decide +kernel) (by decide +kernel)
theorem gm_509 : Cond.static arraycopyName ∈ gw := gmem 509 (by decide +kernel) (by decide +kernel)
theorem gm_14 : Cond.initialized "java/lang/System" ∈ gw := gmem 14 (by decide +kernel) (by decide +kernel)
theorem gm_507 : Cond.code y_F_moveUp b_F_moveUp 3 none ∈ gw := gmem 507 (by decide +kernel) (by decide +kernel)
theorem nw_504 : Cond.methodLinkNest R_P 142 y_F_moveUp "ProofLines" ∈ nestWs := nmem 504 (by decide +kernel) (by decide +kernel)
theorem gm_506 : Cond.instanceMethod y_F_moveUp ∈ gw := gmem 506 (by decide +kernel) (by decide +kernel)
theorem gs_37 : Cond.selects R_F y_F_moveUp y_F_moveUp ∈ gw := gmemS 37 (by decide +kernel) (by decide +kernel)
theorem gm_37 : Cond.fieldLink R_G 21 "ProofLines$Gates" "truths" "[Z" ∈ gw := gmem 37 (by decide +kernel) (by decide +kernel)
theorem gm_525 : Cond.code y_G_truthOf b_G_truthOf 2 (some .boolean) ∈ gw := gmem 525 (by decide +kernel) (by decide +kernel)
theorem gm_522 : Cond.methodLink R_G 36 y_G_truthOf ∈ gw := gmem 522 (by decide +kernel) (by decide +kernel)
theorem gm_524 : Cond.instanceMethod y_G_truthOf ∈ gw := gmem 524 (by decide +kernel) (by decide +kernel)
theorem gs_39 : Cond.selects R_G y_G_truthOf y_G_truthOf ∈ gw := gmemS 39 (by decide +kernel) (by decide +kernel)
theorem gm_521 : Cond.code y_G_isTrueWith b_G_isTrueWith 8 (some .boolean) ∈ gw := gmem 521 (by decide +kernel) (by decide +kernel)
theorem nw_518 : Cond.methodLinkNest R_P 145 y_G_isTrueWith "ProofLines" ∈ nestWs := nmem 518 (by decide +kernel) (by decide +kernel)
theorem gm_520 : Cond.instanceMethod y_G_isTrueWith ∈ gw := gmem 520 (by decide +kernel) (by decide +kernel)
theorem gs_38 : Cond.selects R_G y_G_isTrueWith y_G_isTrueWith ∈ gw := gmemS 38 (by decide +kernel) (by decide +kernel)
theorem nw_78 : Cond.fieldLinkNest R_X 9 "ProofLines$Proof" "size" "I" "ProofLines" ∈ nestWs := nmem 78 (by decide +kernel) (by decide +kernel)
theorem nw_71 : Cond.fieldLinkNest R_X 25 "ProofLines$Proof" "sizes" "[I" "ProofLines" ∈ nestWs := nmem 71 (by decide +kernel) (by decide +kernel)
theorem gm_542 : Cond.code y_X_literalLength b_X_literalLength 1 (some .int) ∈ gw := gmem 542 (by decide +kernel) (by decide +kernel)
theorem gm_540 : Cond.methodLink R_X 33 y_X_literalLength ∈ gw := gmem 540 (by decide +kernel) (by decide +kernel)
theorem gm_541 : Cond.static y_X_literalLength ∈ gw := gmem 541 (by decide +kernel) (by decide +kernel)
theorem gm_15 : Cond.initialized R_X ∈ gw := gmem 15 (by decide +kernel) (by decide +kernel)
theorem nw_539 : Cond.methodLinkNest R_X 29 y_F_literalOf "ProofLines" ∈ nestWs := nmem 539 (by decide +kernel) (by decide +kernel)
theorem gm_538 : Cond.code y_X_lineLength b_X_lineLength 4 (some .int) ∈ gw := gmem 538 (by decide +kernel) (by decide +kernel)
theorem gm_536 : Cond.methodLink R_X 15 y_X_lineLength ∈ gw := gmem 536 (by decide +kernel) (by decide +kernel)
theorem gm_537 : Cond.static y_X_lineLength ∈ gw := gmem 537 (by decide +kernel) (by decide +kernel)
theorem nw_67 : Cond.fieldLinkNest R_X 37 "ProofLines$Proof" "kinds" "[I" "ProofLines" ∈ nestWs := nmem 67 (by decide +kernel) (by decide +kernel)
theorem gm_552 : Cond.code y_X_literalByte b_X_literalByte 3 (some .int) ∈ gw := gmem 552 (by decide +kernel) (by decide +kernel)
theorem gm_550 : Cond.methodLink R_X 40 y_X_literalByte ∈ gw := gmem 550 (by decide +kernel) (by decide +kernel)
theorem gm_551 : Cond.static y_X_literalByte ∈ gw := gmem 551 (by decide +kernel) (by decide +kernel)
theorem gm_549 : Cond.code y_X_lineByte b_X_lineByte 7 (some .int) ∈ gw := gmem 549 (by decide +kernel) (by decide +kernel)
theorem gm_547 : Cond.methodLink R_X 21 y_X_lineByte ∈ gw := gmem 547 (by decide +kernel) (by decide +kernel)
theorem gm_548 : Cond.static y_X_lineByte ∈ gw := gmem 548 (by decide +kernel) (by decide +kernel)
theorem gm_546 : Cond.code y_X_byteOf b_X_byteOf 5 (some .int) ∈ gw := gmem 546 (by decide +kernel) (by decide +kernel)
theorem nw_544 : Cond.methodLinkNest R_P 157 y_X_byteOf "ProofLines" ∈ nestWs := nmem 544 (by decide +kernel) (by decide +kernel)
theorem gm_545 : Cond.static y_X_byteOf ∈ gw := gmem 545 (by decide +kernel) (by decide +kernel)
theorem gm_535 : Cond.code y_X_lengthOf b_X_lengthOf 3 (some .int) ∈ gw := gmem 535 (by decide +kernel) (by decide +kernel)
theorem nw_533 : Cond.methodLinkNest R_P 149 y_X_lengthOf "ProofLines" ∈ nestWs := nmem 533 (by decide +kernel) (by decide +kernel)
theorem gm_534 : Cond.static y_X_lengthOf ∈ gw := gmem 534 (by decide +kernel) (by decide +kernel)
theorem gm_144 : Cond.fieldLink R_P 35 "ProofLines" "tape" "LProofLines$Tape;" ∈ gw := gmem 144 (by decide +kernel) (by decide +kernel)
theorem gm_124 : Cond.fieldLink R_T 15 "ProofLines$Tape" "size" "I" ∈ gw := gmem 124 (by decide +kernel) (by decide +kernel)
theorem gm_123 : Cond.fieldLink R_T 9 "ProofLines$Tape" "bytes" "[I" ∈ gw := gmem 123 (by decide +kernel) (by decide +kernel)
theorem gm_161 : Cond.code y_T_append b_T_append 2 (some .boolean) ∈ gw := gmem 161 (by decide +kernel) (by decide +kernel)
theorem nw_158 : Cond.methodLinkNest R_P 161 y_T_append "ProofLines" ∈ nestWs := nmem 158 (by decide +kernel) (by decide +kernel)
theorem gm_5 : Cond.initialized R_T ∈ gw := gmem 5 (by decide +kernel) (by decide +kernel)
theorem gm_160 : Cond.instanceMethod y_T_append ∈ gw := gmem 160 (by decide +kernel) (by decide +kernel)
theorem gs_0 : Cond.selects R_T y_T_append y_T_append ∈ gw := gmemS 0 (by decide +kernel) (by decide +kernel)
theorem gm_126 : Cond.fieldLink R_T 19 "ProofLines$Tape" "place" "I" ∈ gw := gmem 126 (by decide +kernel) (by decide +kernel)
theorem gm_127 : Cond.fieldLink R_T 22 "ProofLines$Tape" "fault" "I" ∈ gw := gmem 127 (by decide +kernel) (by decide +kernel)
theorem gm_181 : Cond.code y_T_here b_T_here 1 (some .int) ∈ gw := gmem 181 (by decide +kernel) (by decide +kernel)
theorem gm_178 : Cond.methodLink R_T 39 y_T_here ∈ gw := gmem 178 (by decide +kernel) (by decide +kernel)
theorem gm_180 : Cond.instanceMethod y_T_here ∈ gw := gmem 180 (by decide +kernel) (by decide +kernel)
theorem gs_4 : Cond.selects R_T y_T_here y_T_here ∈ gw := gmemS 4 (by decide +kernel) (by decide +kernel)
theorem gm_177 : Cond.code y_T_isBlankHere b_T_isBlankHere 2 (some .boolean) ∈ gw := gmem 177 (by decide +kernel) (by decide +kernel)
theorem gm_174 : Cond.methodLink R_T 101 y_T_isBlankHere ∈ gw := gmem 174 (by decide +kernel) (by decide +kernel)
theorem gm_176 : Cond.instanceMethod y_T_isBlankHere ∈ gw := gmem 176 (by decide +kernel) (by decide +kernel)
theorem gs_3 : Cond.selects R_T y_T_isBlankHere y_T_isBlankHere ∈ gw := gmemS 3 (by decide +kernel) (by decide +kernel)
theorem gm_122 : Cond.fieldLink R_T 29 "ProofLines$Tape" "proof" "LProofLines$Proof;" ∈ gw := gmem 122 (by decide +kernel) (by decide +kernel)
theorem gm_217 : Cond.methodLink R_T 98 Lib.Math.min.name ∈ gw := gmem 217 (by decide +kernel) (by decide +kernel)
theorem gm_218 : Cond.static Lib.Math.min.name ∈ gw := gmem 218 (by decide +kernel) (by decide +kernel)
theorem gm_16 : Cond.initialized "java/lang/Math" ∈ gw := gmem 16 (by decide +kernel) (by decide +kernel)
theorem gm_219 : Cond.code Lib.Math.min.name Lib.Math.min.code 2 (some .int) ∈ gw := gmem 219 (by decide +kernel) (by decide +kernel)
theorem gm_214 : Cond.methodLink R_T 92 Lib.Math.max.name ∈ gw := gmem 214 (by decide +kernel) (by decide +kernel)
theorem gm_215 : Cond.static Lib.Math.max.name ∈ gw := gmem 215 (by decide +kernel) (by decide +kernel)
theorem gm_216 : Cond.code Lib.Math.max.name Lib.Math.max.code 2 (some .int) ∈ gw := gmem 216 (by decide +kernel) (by decide +kernel)
theorem gm_213 : Cond.code y_T_isDigitHere b_T_isDigitHere 1 (some .boolean) ∈ gw := gmem 213 (by decide +kernel) (by decide +kernel)
theorem gm_210 : Cond.methodLink R_T 89 y_T_isDigitHere ∈ gw := gmem 210 (by decide +kernel) (by decide +kernel)
theorem gm_212 : Cond.instanceMethod y_T_isDigitHere ∈ gw := gmem 212 (by decide +kernel) (by decide +kernel)
theorem gs_12 : Cond.selects R_T y_T_isDigitHere y_T_isDigitHere ∈ gw := gmemS 12 (by decide +kernel) (by decide +kernel)
theorem gm_121 : Cond.fieldLink R_T 25 "ProofLines$Tape" "gates" "LProofLines$Gates;" ∈ gw := gmem 121 (by decide +kernel) (by decide +kernel)
theorem nw_68 : Cond.fieldLinkNest R_T 78 "ProofLines$Proof" "kinds" "[I" "ProofLines" ∈ nestWs := nmem 68 (by decide +kernel) (by decide +kernel)
theorem nw_228 : Cond.methodLinkNest R_T 81 y_F_contains "ProofLines" ∈ nestWs := nmem 228 (by decide +kernel) (by decide +kernel)
theorem nw_224 : Cond.methodLinkNest R_T 73 y_G_has "ProofLines" ∈ nestWs := nmem 224 (by decide +kernel) (by decide +kernel)
theorem nw_220 : Cond.methodLinkNest R_T 69 y_F_isLineFull "ProofLines" ∈ nestWs := nmem 220 (by decide +kernel) (by decide +kernel)
theorem gm_197 : Cond.code y_T_skipBlanks b_T_skipBlanks 1 none ∈ gw := gmem 197 (by decide +kernel) (by decide +kernel)
theorem gm_194 : Cond.methodLink R_T 53 y_T_skipBlanks ∈ gw := gmem 194 (by decide +kernel) (by decide +kernel)
theorem gm_196 : Cond.instanceMethod y_T_skipBlanks ∈ gw := gmem 196 (by decide +kernel) (by decide +kernel)
theorem gs_8 : Cond.selects R_T y_T_skipBlanks y_T_skipBlanks ∈ gw := gmemS 8 (by decide +kernel) (by decide +kernel)
theorem gm_209 : Cond.code y_T_readNumber b_T_readNumber 2 (some .int) ∈ gw := gmem 209 (by decide +kernel) (by decide +kernel)
theorem gm_206 : Cond.methodLink R_T 66 y_T_readNumber ∈ gw := gmem 206 (by decide +kernel) (by decide +kernel)
theorem gm_208 : Cond.instanceMethod y_T_readNumber ∈ gw := gmem 208 (by decide +kernel) (by decide +kernel)
theorem gs_11 : Cond.selects R_T y_T_readNumber y_T_readNumber ∈ gw := gmemS 11 (by decide +kernel) (by decide +kernel)
theorem nw_236 : Cond.methodLinkNest R_T 85 y_F_append "ProofLines" ∈ nestWs := nmem 236 (by decide +kernel) (by decide +kernel)
theorem nw_186 : Cond.methodLinkNest R_T 43 y_F_isFull "ProofLines" ∈ nestWs := nmem 186 (by decide +kernel) (by decide +kernel)
theorem nw_190 : Cond.methodLinkNest R_T 49 y_F_add "ProofLines" ∈ nestWs := nmem 190 (by decide +kernel) (by decide +kernel)
theorem gm_205 : Cond.code y_T_readLiteral b_T_readLiteral 6 none ∈ gw := gmem 205 (by decide +kernel) (by decide +kernel)
theorem gm_202 : Cond.methodLink R_T 59 y_T_readLiteral ∈ gw := gmem 202 (by decide +kernel) (by decide +kernel)
theorem gm_204 : Cond.instanceMethod y_T_readLiteral ∈ gw := gmem 204 (by decide +kernel) (by decide +kernel)
theorem gs_10 : Cond.selects R_T y_T_readLiteral y_T_readLiteral ∈ gw := gmemS 10 (by decide +kernel) (by decide +kernel)
theorem gm_201 : Cond.code y_T_isSignHere b_T_isSignHere 1 (some .boolean) ∈ gw := gmem 201 (by decide +kernel) (by decide +kernel)
theorem gm_198 : Cond.methodLink R_T 56 y_T_isSignHere ∈ gw := gmem 198 (by decide +kernel) (by decide +kernel)
theorem gm_200 : Cond.instanceMethod y_T_isSignHere ∈ gw := gmem 200 (by decide +kernel) (by decide +kernel)
theorem gs_9 : Cond.selects R_T y_T_isSignHere y_T_isSignHere ∈ gw := gmemS 9 (by decide +kernel) (by decide +kernel)
theorem gm_243 : Cond.code y_T_endLine b_T_endLine 4 none ∈ gw := gmem 243 (by decide +kernel) (by decide +kernel)
theorem gm_240 : Cond.methodLink R_T 63 y_T_endLine ∈ gw := gmem 240 (by decide +kernel) (by decide +kernel)
theorem gm_242 : Cond.instanceMethod y_T_endLine ∈ gw := gmem 242 (by decide +kernel) (by decide +kernel)
theorem gs_18 : Cond.selects R_T y_T_endLine y_T_endLine ∈ gw := gmemS 18 (by decide +kernel) (by decide +kernel)
theorem gm_173 : Cond.code y_T_skipToLine b_T_skipToLine 1 none ∈ gw := gmem 173 (by decide +kernel) (by decide +kernel)
theorem gm_170 : Cond.methodLink R_T 33 y_T_skipToLine ∈ gw := gmem 170 (by decide +kernel) (by decide +kernel)
theorem gm_172 : Cond.instanceMethod y_T_skipToLine ∈ gw := gmem 172 (by decide +kernel) (by decide +kernel)
theorem gs_2 : Cond.selects R_T y_T_skipToLine y_T_skipToLine ∈ gw := gmemS 2 (by decide +kernel) (by decide +kernel)
theorem gm_185 : Cond.code y_T_readLine b_T_readLine 4 none ∈ gw := gmem 185 (by decide +kernel) (by decide +kernel)
theorem gm_182 : Cond.methodLink R_T 36 y_T_readLine ∈ gw := gmem 182 (by decide +kernel) (by decide +kernel)
theorem gm_184 : Cond.instanceMethod y_T_readLine ∈ gw := gmem 184 (by decide +kernel) (by decide +kernel)
theorem gs_5 : Cond.selects R_T y_T_readLine y_T_readLine ∈ gw := gmemS 5 (by decide +kernel) (by decide +kernel)
theorem gm_169 : Cond.code y_T_readAll b_T_readAll 2 (some .int) ∈ gw := gmem 169 (by decide +kernel) (by decide +kernel)
theorem nw_166 : Cond.methodLinkNest R_P 163 y_T_readAll "ProofLines" ∈ nestWs := nmem 166 (by decide +kernel) (by decide +kernel)
theorem gm_168 : Cond.instanceMethod y_T_readAll ∈ gw := gmem 168 (by decide +kernel) (by decide +kernel)
theorem gs_1 : Cond.selects R_T y_T_readAll y_T_readAll ∈ gw := gmemS 1 (by decide +kernel) (by decide +kernel)
theorem nw_42 : Cond.fieldLinkNest R_P 167 "ProofLines$Gates" "inputs" "I" "ProofLines" ∈ nestWs := nmem 42 (by decide +kernel) (by decide +kernel)
theorem nw_125 : Cond.fieldLinkNest R_P 170 "ProofLines$Tape" "size" "I" "ProofLines" ∈ nestWs := nmem 125 (by decide +kernel) (by decide +kernel)
theorem gm_567 : Cond.fieldLink R_M 45 "ProofLinesModel" "thrown" "I" ∈ gw := gmem 567 (by decide +kernel) (by decide +kernel)
theorem gm_571 : Cond.fieldLink R_M 41 "ProofLinesModel" "gates" "I" ∈ gw := gmem 571 (by decide +kernel) (by decide +kernel)
theorem gm_575 : Cond.fieldLink R_M 48 "ProofLinesModel" "lines" "I" ∈ gw := gmem 575 (by decide +kernel) (by decide +kernel)
theorem gm_568 : Cond.fieldLink R_M 7 "ProofLinesModel" "kinds" "[I" ∈ gw := gmem 568 (by decide +kernel) (by decide +kernel)
theorem gm_569 : Cond.fieldLink R_M 13 "ProofLinesModel" "ones" "[I" ∈ gw := gmem 569 (by decide +kernel) (by decide +kernel)
theorem gm_570 : Cond.fieldLink R_M 16 "ProofLinesModel" "twos" "[I" ∈ gw := gmem 570 (by decide +kernel) (by decide +kernel)
theorem gm_633 : Cond.code y_M_isLiteral b_M_isLiteral 2 (some .boolean) ∈ gw := gmem 633 (by decide +kernel) (by decide +kernel)
theorem gm_630 : Cond.methodLink R_M 51 y_M_isLiteral ∈ gw := gmem 630 (by decide +kernel) (by decide +kernel)
theorem gm_632 : Cond.instanceMethod y_M_isLiteral ∈ gw := gmem 632 (by decide +kernel) (by decide +kernel)
theorem gs_40 : Cond.selects R_M y_M_isLiteral y_M_isLiteral ∈ gw := gmemS 40 (by decide +kernel) (by decide +kernel)
theorem gm_6 : Cond.initialized R_M ∈ gw := gmem 6 (by decide +kernel) (by decide +kernel)
theorem gm_572 : Cond.fieldLink R_M 19 "ProofLinesModel" "equals" "[Z" ∈ gw := gmem 572 (by decide +kernel) (by decide +kernel)
theorem gm_573 : Cond.fieldLink R_M 23 "ProofLinesModel" "counts" "[I" ∈ gw := gmem 573 (by decide +kernel) (by decide +kernel)
theorem gm_574 : Cond.fieldLink R_M 26 "ProofLinesModel" "literals" "[I" ∈ gw := gmem 574 (by decide +kernel) (by decide +kernel)
theorem gm_645 : Cond.code y_M_isLine b_M_isLine 2 (some .boolean) ∈ gw := gmem 645 (by decide +kernel) (by decide +kernel)
theorem gm_642 : Cond.methodLink R_M 55 y_M_isLine ∈ gw := gmem 642 (by decide +kernel) (by decide +kernel)
theorem gm_644 : Cond.instanceMethod y_M_isLine ∈ gw := gmem 644 (by decide +kernel) (by decide +kernel)
theorem gs_41 : Cond.selects R_M y_M_isLine y_M_isLine ∈ gw := gmemS 41 (by decide +kernel) (by decide +kernel)
theorem gm_649 : Cond.code y_M_isThere b_M_isThere 5 (some .boolean) ∈ gw := gmem 649 (by decide +kernel) (by decide +kernel)
theorem gm_646 : Cond.methodLink R_M 58 y_M_isThere ∈ gw := gmem 646 (by decide +kernel) (by decide +kernel)
theorem gm_648 : Cond.instanceMethod y_M_isThere ∈ gw := gmem 648 (by decide +kernel) (by decide +kernel)
theorem gs_42 : Cond.selects R_M y_M_isThere y_M_isThere ∈ gw := gmemS 42 (by decide +kernel) (by decide +kernel)
theorem gm_653 : Cond.code y_M_add b_M_add 3 none ∈ gw := gmem 653 (by decide +kernel) (by decide +kernel)
theorem gm_650 : Cond.methodLink R_M 62 y_M_add ∈ gw := gmem 650 (by decide +kernel) (by decide +kernel)
theorem gm_652 : Cond.instanceMethod y_M_add ∈ gw := gmem 652 (by decide +kernel) (by decide +kernel)
theorem gs_43 : Cond.selects R_M y_M_add y_M_add ∈ gw := gmemS 43 (by decide +kernel) (by decide +kernel)
theorem gm_576 : Cond.fieldLink R_M 29 "ProofLinesModel" "values" "[I" ∈ gw := gmem 576 (by decide +kernel) (by decide +kernel)
theorem gm_577 : Cond.fieldLink R_M 70 "ProofLinesModel" "conflict" "Z" ∈ gw := gmem 577 (by decide +kernel) (by decide +kernel)
theorem gm_578 : Cond.fieldLink R_M 74 "ProofLinesModel" "moved" "Z" ∈ gw := gmem 578 (by decide +kernel) (by decide +kernel)
theorem gm_689 : Cond.code y_M_value b_M_value 3 (some .int) ∈ gw := gmem 689 (by decide +kernel) (by decide +kernel)
theorem gm_686 : Cond.methodLink R_M 66 y_M_value ∈ gw := gmem 686 (by decide +kernel) (by decide +kernel)
theorem gm_688 : Cond.instanceMethod y_M_value ∈ gw := gmem 688 (by decide +kernel) (by decide +kernel)
theorem gs_50 : Cond.selects R_M y_M_value y_M_value ∈ gw := gmemS 50 (by decide +kernel) (by decide +kernel)
theorem gm_685 : Cond.code y_M_tell b_M_tell 4 none ∈ gw := gmem 685 (by decide +kernel) (by decide +kernel)
theorem gm_682 : Cond.methodLink R_M 77 y_M_tell ∈ gw := gmem 682 (by decide +kernel) (by decide +kernel)
theorem gm_684 : Cond.instanceMethod y_M_tell ∈ gw := gmem 684 (by decide +kernel) (by decide +kernel)
theorem gs_49 : Cond.selects R_M y_M_tell y_M_tell ∈ gw := gmemS 49 (by decide +kernel) (by decide +kernel)
theorem gm_583 : Cond.fieldLink R_M 38 "ProofLinesModel" "out" "[Z" ∈ gw := gmem 583 (by decide +kernel) (by decide +kernel)
theorem gm_701 : Cond.code y_M_either b_M_either 5 none ∈ gw := gmem 701 (by decide +kernel) (by decide +kernel)
theorem gm_698 : Cond.methodLink R_M 84 y_M_either ∈ gw := gmem 698 (by decide +kernel) (by decide +kernel)
theorem gm_700 : Cond.instanceMethod y_M_either ∈ gw := gmem 700 (by decide +kernel) (by decide +kernel)
theorem gs_53 : Cond.selects R_M y_M_either y_M_either ∈ gw := gmemS 53 (by decide +kernel) (by decide +kernel)
theorem gm_697 : Cond.code y_M_and b_M_and 5 none ∈ gw := gmem 697 (by decide +kernel) (by decide +kernel)
theorem gm_694 : Cond.methodLink R_M 80 y_M_and ∈ gw := gmem 694 (by decide +kernel) (by decide +kernel)
theorem gm_696 : Cond.instanceMethod y_M_and ∈ gw := gmem 696 (by decide +kernel) (by decide +kernel)
theorem gs_52 : Cond.selects R_M y_M_and y_M_and ∈ gw := gmemS 52 (by decide +kernel) (by decide +kernel)
theorem gm_705 : Cond.code y_M_equality b_M_equality 4 none ∈ gw := gmem 705 (by decide +kernel) (by decide +kernel)
theorem gm_702 : Cond.methodLink R_M 87 y_M_equality ∈ gw := gmem 702 (by decide +kernel) (by decide +kernel)
theorem gm_704 : Cond.instanceMethod y_M_equality ∈ gw := gmem 704 (by decide +kernel) (by decide +kernel)
theorem gs_54 : Cond.selects R_M y_M_equality y_M_equality ∈ gw := gmemS 54 (by decide +kernel) (by decide +kernel)
theorem gm_709 : Cond.code y_M_clause b_M_clause 6 none ∈ gw := gmem 709 (by decide +kernel) (by decide +kernel)
theorem gm_706 : Cond.methodLink R_M 90 y_M_clause ∈ gw := gmem 706 (by decide +kernel) (by decide +kernel)
theorem gm_708 : Cond.instanceMethod y_M_clause ∈ gw := gmem 708 (by decide +kernel) (by decide +kernel)
theorem gs_55 : Cond.selects R_M y_M_clause y_M_clause ∈ gw := gmemS 55 (by decide +kernel) (by decide +kernel)
theorem gm_693 : Cond.code y_M_steps b_M_steps 3 none ∈ gw := gmem 693 (by decide +kernel) (by decide +kernel)
theorem gm_690 : Cond.methodLink R_M 96 y_M_steps ∈ gw := gmem 690 (by decide +kernel) (by decide +kernel)
theorem gm_692 : Cond.instanceMethod y_M_steps ∈ gw := gmem 692 (by decide +kernel) (by decide +kernel)
theorem gs_51 : Cond.selects R_M y_M_steps y_M_steps ∈ gw := gmemS 51 (by decide +kernel) (by decide +kernel)
theorem gm_681 : Cond.code y_M_begin b_M_begin 2 none ∈ gw := gmem 681 (by decide +kernel) (by decide +kernel)
theorem gm_678 : Cond.methodLink R_M 93 y_M_begin ∈ gw := gmem 678 (by decide +kernel) (by decide +kernel)
theorem gm_680 : Cond.instanceMethod y_M_begin ∈ gw := gmem 680 (by decide +kernel) (by decide +kernel)
theorem gs_48 : Cond.selects R_M y_M_begin y_M_begin ∈ gw := gmemS 48 (by decide +kernel) (by decide +kernel)
theorem gm_677 : Cond.code y_M_opposes b_M_opposes 6 (some .boolean) ∈ gw := gmem 677 (by decide +kernel) (by decide +kernel)
theorem gm_674 : Cond.methodLink R_M 99 y_M_opposes ∈ gw := gmem 674 (by decide +kernel) (by decide +kernel)
theorem gm_676 : Cond.instanceMethod y_M_opposes ∈ gw := gmem 676 (by decide +kernel) (by decide +kernel)
theorem gs_47 : Cond.selects R_M y_M_opposes y_M_opposes ∈ gw := gmemS 47 (by decide +kernel) (by decide +kernel)
theorem gm_673 : Cond.code y_M_follows b_M_follows 5 (some .boolean) ∈ gw := gmem 673 (by decide +kernel) (by decide +kernel)
theorem gm_670 : Cond.methodLink R_M 103 y_M_follows ∈ gw := gmem 670 (by decide +kernel) (by decide +kernel)
theorem gm_672 : Cond.instanceMethod y_M_follows ∈ gw := gmem 672 (by decide +kernel) (by decide +kernel)
theorem gs_46 : Cond.selects R_M y_M_follows y_M_follows ∈ gw := gmemS 46 (by decide +kernel) (by decide +kernel)
theorem gm_669 : Cond.code y_M_bad b_M_bad 3 (some .int) ∈ gw := gmem 669 (by decide +kernel) (by decide +kernel)
theorem gm_666 : Cond.methodLink R_M 109 y_M_bad ∈ gw := gmem 666 (by decide +kernel) (by decide +kernel)
theorem gm_668 : Cond.instanceMethod y_M_bad ∈ gw := gmem 668 (by decide +kernel) (by decide +kernel)
theorem gs_45 : Cond.selects R_M y_M_bad y_M_bad ∈ gw := gmemS 45 (by decide +kernel) (by decide +kernel)
theorem gm_665 : Cond.code y_M_allThere b_M_allThere 2 none ∈ gw := gmem 665 (by decide +kernel) (by decide +kernel)
theorem gm_662 : Cond.methodLink R_M 106 y_M_allThere ∈ gw := gmem 662 (by decide +kernel) (by decide +kernel)
theorem gm_664 : Cond.instanceMethod y_M_allThere ∈ gw := gmem 664 (by decide +kernel) (by decide +kernel)
theorem gs_44 : Cond.selects R_M y_M_allThere y_M_allThere ∈ gw := gmemS 44 (by decide +kernel) (by decide +kernel)
theorem gm_584 : Cond.fieldLink R_M 112 "ProofLinesModel" "found" "I" ∈ gw := gmem 584 (by decide +kernel) (by decide +kernel)
theorem gm_737 : Cond.code y_M_byteAt b_M_byteAt 9 (some .int) ∈ gw := gmem 737 (by decide +kernel) (by decide +kernel)
theorem gm_734 : Cond.methodLink R_M 115 y_M_byteAt ∈ gw := gmem 734 (by decide +kernel) (by decide +kernel)
theorem gm_736 : Cond.instanceMethod y_M_byteAt ∈ gw := gmem 736 (by decide +kernel) (by decide +kernel)
theorem gs_56 : Cond.selects R_M y_M_byteAt y_M_byteAt ∈ gw := gmemS 56 (by decide +kernel) (by decide +kernel)
theorem gm_580 : Cond.fieldLink R_M 123 "ProofLinesModel" "tapeSize" "I" ∈ gw := gmem 580 (by decide +kernel) (by decide +kernel)
theorem gm_742 : Cond.constant R_M 118 1000000 ∈ gw := gmem 742 (by decide +kernel) (by decide +kernel)
theorem gm_746 : Cond.code y_M_inputs b_M_inputs 3 (some .int) ∈ gw := gmem 746 (by decide +kernel) (by decide +kernel)
theorem gm_743 : Cond.methodLink R_M 119 y_M_inputs ∈ gw := gmem 743 (by decide +kernel) (by decide +kernel)
theorem gm_745 : Cond.instanceMethod y_M_inputs ∈ gw := gmem 745 (by decide +kernel) (by decide +kernel)
theorem gs_57 : Cond.selects R_M y_M_inputs y_M_inputs ∈ gw := gmemS 57 (by decide +kernel) (by decide +kernel)
theorem gm_579 : Cond.fieldLink R_M 32 "ProofLinesModel" "tape" "[I" ∈ gw := gmem 579 (by decide +kernel) (by decide +kernel)
theorem gm_581 : Cond.fieldLink R_M 126 "ProofLinesModel" "place" "I" ∈ gw := gmem 581 (by decide +kernel) (by decide +kernel)
theorem gm_762 : Cond.code y_M_next b_M_next 1 (some .int) ∈ gw := gmem 762 (by decide +kernel) (by decide +kernel)
theorem gm_759 : Cond.methodLink R_M 129 y_M_next ∈ gw := gmem 759 (by decide +kernel) (by decide +kernel)
theorem gm_761 : Cond.instanceMethod y_M_next ∈ gw := gmem 761 (by decide +kernel) (by decide +kernel)
theorem gs_58 : Cond.selects R_M y_M_next y_M_next ∈ gw := gmemS 58 (by decide +kernel) (by decide +kernel)
theorem gm_770 : Cond.code y_M_readLiteral b_M_readLiteral 5 (some .int) ∈ gw := gmem 770 (by decide +kernel) (by decide +kernel)
theorem gm_767 : Cond.methodLink R_M 132 y_M_readLiteral ∈ gw := gmem 767 (by decide +kernel) (by decide +kernel)
theorem gm_769 : Cond.instanceMethod y_M_readLiteral ∈ gw := gmem 769 (by decide +kernel) (by decide +kernel)
theorem gs_60 : Cond.selects R_M y_M_readLiteral y_M_readLiteral ∈ gw := gmemS 60 (by decide +kernel) (by decide +kernel)
theorem gm_766 : Cond.code y_M_readLine b_M_readLine 6 (some .int) ∈ gw := gmem 766 (by decide +kernel) (by decide +kernel)
theorem gm_763 : Cond.methodLink R_M 135 y_M_readLine ∈ gw := gmem 763 (by decide +kernel) (by decide +kernel)
theorem gm_765 : Cond.instanceMethod y_M_readLine ∈ gw := gmem 765 (by decide +kernel) (by decide +kernel)
theorem gs_59 : Cond.selects R_M y_M_readLine y_M_readLine ∈ gw := gmemS 59 (by decide +kernel) (by decide +kernel)
theorem gm_22 : Cond.methodLink R_P 1 objectInit ∈ gw := gmem 22 (by decide +kernel) (by decide +kernel)
theorem gm_23 : Cond.instanceMethod objectInit ∈ gw := gmem 23 (by decide +kernel) (by decide +kernel)
theorem gm_24 : Cond.code objectInit ⟨#[0xb1]⟩ 1 none ∈ gw := gmem 24 (by decide +kernel) (by decide +kernel)
theorem gm_30 : Cond.methodLink R_G 3 objectInit ∈ gw := gmem 30 (by decide +kernel) (by decide +kernel)
theorem gm_56 : Cond.arrayClass .int ∈ gw := gmem 56 (by decide +kernel) (by decide +kernel)
theorem gm_57 : Cond.arrayClass .boolean ∈ gw := gmem 57 (by decide +kernel) (by decide +kernel)
theorem gm_25 : Cond.classLink R_P 7 R_G ∈ gw := gmem 25 (by decide +kernel) (by decide +kernel)
theorem gm_26 : Cond.instantiable R_G 6 ∈ gw := gmem 26 (by decide +kernel) (by decide +kernel)
theorem gm_29 : Cond.code y_G_new b_G_new 1 none ∈ gw := gmem 29 (by decide +kernel) (by decide +kernel)
theorem gm_28 : Cond.instanceMethod y_G_new ∈ gw := gmem 28 (by decide +kernel) (by decide +kernel)
theorem nw_27 : Cond.methodLinkNest R_P 9 y_G_new "ProofLines" ∈ nestWs := nmem 27 (by decide +kernel) (by decide +kernel)
theorem gm_63 : Cond.methodLink R_F 3 objectInit ∈ gw := gmem 63 (by decide +kernel) (by decide +kernel)
theorem gm_58 : Cond.classLink R_P 16 R_F ∈ gw := gmem 58 (by decide +kernel) (by decide +kernel)
theorem gm_59 : Cond.instantiable R_F 5 ∈ gw := gmem 59 (by decide +kernel) (by decide +kernel)
theorem gm_62 : Cond.code y_F_new b_F_new 1 none ∈ gw := gmem 62 (by decide +kernel) (by decide +kernel)
theorem gm_61 : Cond.instanceMethod y_F_new ∈ gw := gmem 61 (by decide +kernel) (by decide +kernel)
theorem nw_60 : Cond.methodLinkNest R_P 18 y_F_new "ProofLines" ∈ nestWs := nmem 60 (by decide +kernel) (by decide +kernel)
theorem gm_97 : Cond.methodLink R_U 3 objectInit ∈ gw := gmem 97 (by decide +kernel) (by decide +kernel)
theorem gm_92 : Cond.classLink R_P 23 R_U ∈ gw := gmem 92 (by decide +kernel) (by decide +kernel)
theorem gm_93 : Cond.instantiable R_U 5 ∈ gw := gmem 93 (by decide +kernel) (by decide +kernel)
theorem gm_96 : Cond.code y_U_new b_U_new 3 none ∈ gw := gmem 96 (by decide +kernel) (by decide +kernel)
theorem gm_95 : Cond.instanceMethod y_U_new ∈ gw := gmem 95 (by decide +kernel) (by decide +kernel)
theorem nw_94 : Cond.methodLinkNest R_P 25 y_U_new "ProofLines" ∈ nestWs := nmem 94 (by decide +kernel) (by decide +kernel)
theorem gm_120 : Cond.methodLink R_T 3 objectInit ∈ gw := gmem 120 (by decide +kernel) (by decide +kernel)
theorem gm_115 : Cond.classLink R_P 32 R_T ∈ gw := gmem 115 (by decide +kernel) (by decide +kernel)
theorem gm_116 : Cond.instantiable R_T 6 ∈ gw := gmem 116 (by decide +kernel) (by decide +kernel)
theorem gm_119 : Cond.code y_T_new b_T_new 3 none ∈ gw := gmem 119 (by decide +kernel) (by decide +kernel)
theorem gm_118 : Cond.instanceMethod y_T_new ∈ gw := gmem 118 (by decide +kernel) (by decide +kernel)
theorem nw_117 : Cond.methodLinkNest R_P 34 y_T_new "ProofLines" ∈ nestWs := nmem 117 (by decide +kernel) (by decide +kernel)
theorem gm_566 : Cond.methodLink R_M 1 objectInit ∈ gw := gmem 566 (by decide +kernel) (by decide +kernel)
theorem gm_582 : Cond.fieldLink R_M 35 "ProofLinesModel" "told" "[Z" ∈ gw := gmem 582 (by decide +kernel) (by decide +kernel)
end
section
def k_P (_ : Nat → ClassId) (ad : Nat → Nat) : Nat × va_E := (ad 0, .inr (0, [.ref (ad 1), .ref (ad 6), .ref (ad 11), .ref (ad 13)]))
def k_G (_ : Nat → ClassId) (ad : Nat → Nat) (G_size : Int32) (G_inputs : Int32) : Nat × va_E := (ad 1, .inr (1, [.ref (ad 2), .ref (ad 3), .ref (ad 4), .ref (ad 5), .int G_size, .int G_inputs]))
def k_G_kinds (cA : Nat → ClassId) (ad : Nat → Nat) (f : (Nat → Int32)) : Nat × va_E := (ad 2, .inl (cA 0, 40, .inl f))
def k_G_lefts (cA : Nat → ClassId) (ad : Nat → Nat) (f : (Nat → Int32)) : Nat × va_E := (ad 3, .inl (cA 0, 40, .inl f))
def k_G_rights (cA : Nat → ClassId) (ad : Nat → Nat) (f : (Nat → Int32)) : Nat × va_E := (ad 4, .inl (cA 0, 40, .inl f))
def k_G_truths (cA : Nat → ClassId) (ad : Nat → Nat) (f : (Nat → Int32)) : Nat × va_E := (ad 5, .inl (cA 1, 40, .inl f))
def k_F (_ : Nat → ClassId) (ad : Nat → Nat) (F_size : Int32) : Nat × va_E := (ad 6, .inr (2, [.ref (ad 7), .ref (ad 8), .ref (ad 9), .ref (ad 10), .int F_size]))
def k_F_kinds (cA : Nat → ClassId) (ad : Nat → Nat) (f : (Nat → Int32)) : Nat × va_E := (ad 7, .inl (cA 0, 24, .inl f))
def k_F_sizes (cA : Nat → ClassId) (ad : Nat → Nat) (f : (Nat → Int32)) : Nat × va_E := (ad 8, .inl (cA 0, 24, .inl f))
def k_F_literals (cA : Nat → ClassId) (ad : Nat → Nat) (f : (Nat → Int32)) : Nat × va_E := (ad 9, .inl (cA 0, 144, .inl f))
def k_F_leftOut (cA : Nat → ClassId) (ad : Nat → Nat) (f : (Nat → Int32)) : Nat × va_E := (ad 10, .inl (cA 1, 24, .inl f))
def k_U (_ : Nat → ClassId) (ad : Nat → Nat) (U_conflict : Int32) (U_changed : Int32) : Nat × va_E := (ad 11, .inr (3, [.ref (ad 1), .ref (ad 6), .ref (ad 12), .int U_conflict, .int U_changed]))
def k_U_told (cA : Nat → ClassId) (ad : Nat → Nat) (f : (Nat → Int32)) : Nat × va_E := (ad 12, .inl (cA 0, 40, .inl f))
def k_T (_ : Nat → ClassId) (ad : Nat → Nat) (T_size : Int32) (T_place : Int32) (T_fault : Int32) : Nat × va_E := (ad 13, .inr (4, [.ref (ad 1), .ref (ad 6), .ref (ad 14), .int T_size, .int T_place, .int T_fault]))
def k_T_bytes (cA : Nat → ClassId) (ad : Nat → Nat) (f : (Nat → Int32)) : Nat × va_E := (ad 14, .inl (cA 0, 1000, .inl f))
def k_M (_ : Nat → ClassId) (ad : Nat → Nat) (M_thrown : Int32) (M_gates : Int32) (M_lines : Int32) (M_conflict : Int32) (M_moved : Int32) (M_tapeSize : Int32) (M_place : Int32) (M_found : Int32) : Nat × va_E := (ad 15, .inr (5, [.int M_thrown, .ref (ad 16), .ref (ad 17), .ref (ad 18), .int M_gates, .ref (ad 19), .ref (ad 20), .ref (ad 21), .int M_lines, .ref (ad 22), .int M_conflict, .int M_moved, .ref (ad 23), .int M_tapeSize, .int M_place, .ref (ad 24), .ref (ad 25), .int M_found]))
def k_M_kinds (cA : Nat → ClassId) (ad : Nat → Nat) (f : (Nat → Int32)) : Nat × va_E := (ad 16, .inl (cA 0, 40, .inl f))
def k_M_ones (cA : Nat → ClassId) (ad : Nat → Nat) (f : (Nat → Int32)) : Nat × va_E := (ad 17, .inl (cA 0, 40, .inl f))
def k_M_twos (cA : Nat → ClassId) (ad : Nat → Nat) (f : (Nat → Int32)) : Nat × va_E := (ad 18, .inl (cA 0, 40, .inl f))
def k_M_equals (cA : Nat → ClassId) (ad : Nat → Nat) (f : (Nat → Int32)) : Nat × va_E := (ad 19, .inl (cA 1, 24, .inl f))
def k_M_counts (cA : Nat → ClassId) (ad : Nat → Nat) (f : (Nat → Int32)) : Nat × va_E := (ad 20, .inl (cA 0, 24, .inl f))
def k_M_literals (cA : Nat → ClassId) (ad : Nat → Nat) (f : (Nat → Int32)) : Nat × va_E := (ad 21, .inl (cA 0, 144, .inl f))
def k_M_values (cA : Nat → ClassId) (ad : Nat → Nat) (f : (Nat → Int32)) : Nat × va_E := (ad 22, .inl (cA 0, 40, .inl f))
def k_M_tape (cA : Nat → ClassId) (ad : Nat → Nat) (f : (Nat → Int32)) : Nat × va_E := (ad 23, .inl (cA 0, 1000, .inl f))
def k_M_told (cA : Nat → ClassId) (ad : Nat → Nat) (f : (Nat → Int32)) : Nat × va_E := (ad 24, .inl (cA 1, 24, .inl f))
def k_M_out (cA : Nat → ClassId) (ad : Nat → Nat) (f : (Nat → Int32)) : Nat × va_E := (ad 25, .inl (cA 1, 24, .inl f))
/-! Rows of mine over the kit's: a method's world in one hypothesis, a call in one row, a method's entry and ends in one row. -/
def isB (x : Int32) : Prop := x = 0 ∨ x = 1
theorem isB_nar {x : Int32} (h : isB x) : narrow .boolean (.int x) = .int x := by rcases h with rfl | rfl <;> rfl
theorem isB_fit {x : Int32} (h : isB x) : fits .boolean (.int x) = true := by rcases h with rfl | rfl <;> rfl
def cpOk (sp dp n : Int32) (n0 n1 : Nat) : Prop := ¬ sp < 0 ∧ ¬ dp < 0 ∧ ¬ n < 0 ∧ sp.toNatClampNeg + n.toNatClampNeg ≤ n0 ∧ dp.toNatClampNeg + n.toNatClampNeg ≤ n1
def mW (D : va_G) (A : Nat → Prop) (H0 : Heap) (ws : va_W) (H : Heap) (locs : List Loc) : Prop := va_P D vwCl ws H ∧ va_D A ws ∧ va_S A H0 H locs
theorem mp_fm {α β : Type} (f : α → Option β) : ∀ (is : List α) (ws : List β), is.map f = ws.map some → is.filterMap f = ws
  | [], [], _ => rfl
  | [], _ :: _, h => by simp at h
  | _ :: _, [], h => by simp at h
  | i :: is, w :: ws, h => by
    rw [List.map_cons, List.map_cons, List.cons.injEq] at h
    rw [List.filterMap_cons, h.1, mp_fm f is ws h.2]
def tysA (cA : Nat → ClassId) : List (ClassId × FieldType) := [(cA 0, .int), (cA 1, .boolean), (cA 2, .long), (cA 3, .byte)]
/-- the words of the tables that are carried by hand -/
def nst (U : State) : Prop := ∀ w ∈ nestWs, va_Nw w U
theorem nst_warm {s U : State} (hW : s.WarmedH U.vm) (h : nst s) : nst U := fun w hw => nest_warm w hw hW (h w hw)
theorem nst_same {s U : State} (e : s.vm = U.vm) (h : nst s) : nst U := fun w hw => va_Nw.same (nest_tab w hw) e (h w hw)
def mK (D : va_G) (cA : Nat → ClassId) (U : State) : Prop := va_K D vwCl (tysA cA) U ∧ nst U
theorem mK_warm {D : va_G} {cA : Nat → ClassId} {s U : State} (hW : s.WarmedH U.vm) (h : mK D cA s) : mK D cA U := ⟨va_K.moved hW.alike h.1, nst_warm hW h.2⟩
def mPc (D : va_G) (cA : Nat → ClassId) (av : List Value) (ws : va_W) (sz : Nat) : Array Value → State → Prop := va_Pc av (fun U => U.heap.size = sz ∧ va_P D vwCl ws U.heap ∧ mK D cA U ∧ va_D (fun _ => True) ws)
def mB {S : Type} (D : va_G) (A : Nat → Prop) (w : S → va_W) : S → State → Prop := fun u t => va_P D vwCl (w u) t.heap ∧ va_D A (w u)
theorem mPc_blind {D : va_G} {cA : Nat → ClassId} {av : List Value} {ws : va_W} {sz : Nat} : FrameBlind (mPc D cA av ws sz) := by
  intro a U g mk q
  obtain ⟨q0, q1, qP, qK, qD⟩ := q
  exact ⟨q0, q1, qP, ⟨va_K.moved (u := U) (U := U.calling g mk a) (Vm.Alike.refl U.vm) qK.1, nst_same (s := U) (U := U.calling g mk a) rfl qK.2⟩, qD⟩
theorem m_preS {D : va_G} {cA : Nat → ClassId} {A : Nat → Prop} {H0 H : Heap} {locs : List Loc} {s : State} {ws wc : va_W} {av : List Value} (hK : mK D cA s) (hw : mW D A H0 ws H locs) (isC : List Nat) (hn : va_nd isC = true) (hC : isC.map (fun i => ws[i]?) = wc.map some) : PreS s H (mPc D cA av wc H.size) av :=
  ⟨mPc_blind, fun U hU hW => ⟨rfl, by rw [hU], by rw [hU]; exact hw.1.sub isC (mp_fm _ _ _ hC), mK_warm hW hK, (hw.2.1.sub isC hn hC).weaken (fun _ _ _ _ => trivial)⟩⟩
theorem m_preV {D : va_G} {cA : Nat → ClassId} {A : Nat → Prop} {H0 H : Heap} {locs : List Loc} {s : State} {ws wc : va_W} {b : Nat} {As : List Value} {C : String} {T : u_T} {N : Nat} {fs : List Value} (ci q0 : Nat) (hc : vwCl[ci]? = some (C, T, N)) (he : ws[q0]? = some (b, .inr (ci, fs))) (hK : mK D cA s) (hw : mW D A H0 ws H locs) (isC : List Nat) (hn : va_nd isC = true) (hC : isC.map (fun i => ws[i]?) = wc.map some) : PreV s H C b (mPc D cA (.ref b :: As) wc H.size) As :=
  ⟨mPc_blind, va_recv (q := (C, T, N)) hK.1 hw.1 hc he, fun U hU hW => ⟨rfl, by rw [hU], by rw [hU]; exact hw.1.sub isC (mp_fm _ _ _ hC), mK_warm hW hK, (hw.2.1.sub isC hn hC).weaken (fun _ _ _ _ => trivial)⟩⟩
section MROW
variable {p : Program} {l : Launch} {e : Env} {R : Room} {s : State} {m : MethodId} {args : Array Value} {below : List Frame} {meth : Method} {c : Code} {H : Heap} {locs : List Loc} {cells slots : Nat} {Q : State → Prop}
variable {cc : ByteArray} {pc : Nat} {ls : Array Slot} {rest st0 : List Value} {D : va_G} {A : Nat → Prop} {a : Nat} {tys : List (ClassId × FieldType)} {ws ws' : va_W} {H0 : Heap}
theorem m_put (hexec : p.tables.exec = Jvm.exec) (hb : c.code = cc) {own ref C : String} {T : u_T} {N ci index : Nat} {Ts : List Cond} (hts : ∀ w ∈ Ts, w.before args s = true) (hin : ∀ w ∈ u_ws C T N, w ∈ Ts) (ty0 : Nat → FieldType) (hty : ∀ k, k < N → parseFieldDescriptor (T k).2.2.1 = some (ty0 k)) (hnm : ∀ a, a < N → ∀ b, b < N → a ≠ b → (T a).2.1 ≠ (T b).2.1) (hown : s.vm.findClass own = some m.cls) (hK : va_K D vwCl tys s) (hw : mW D A H0 ws H locs) (q0 : Nat) {fs : List Value} (he : ws[q0]? = some (a, .inr (ci, fs))) (hc : vwCl[ci]? = some (C, T, N)) (k : Nat) (hk : k < N) (hlink : (Cond.fieldLink own index ref (T k).2.1 (T k).2.2.1).before args s = true) (hsame : ∀ x, s.fieldFound? (T k).1 (T k).2.1 (T k).2.2.1 = some x → s.fieldFound? ref (T k).2.1 (T k).2.2.1 = some x) (hfin : (T k).2.2.2 = false) {ty : FieldType} {v : Value} (hd : parseFieldDescriptor (T k).2.2.1 = some ty) (hn : narrow ty v = v) (hfit : fits ty v = true) (hl : k < fs.length) (hws : ws.set q0 (a, .inr (ci, fs.set k v)) = ws') (hdg : decode cc pc = .ok (.putfield index, 3)) (kk : ∀ (H1 : Heap) (locs1 : List Loc), mW D A H0 ws' H1 locs1 → W p l e R s m args below meth c H1 locs1 cells slots Q (F0 m (pc + 3) ls rest)) : W p l e R s m args below meth c H locs cells slots Q (F0 m pc ls (v :: .ref a :: rest)) := by
  subst hws
  exact va_put hexec hb hts hin ty0 hty hnm hown hK hw.1 hw.2.1 hw.2.2 q0 he hc k hk hlink hsame hfin hd hn hfit hl hdg (fun H1 locs1 h1 h2 h3 => kk H1 locs1 ⟨h1, h2, h3⟩)
theorem m_putN (hexec : p.tables.exec = Jvm.exec) (hb : c.code = cc) {own ref C host : String} {T : u_T} {N ci index : Nat} {Ts : List Cond} (hts : ∀ w ∈ Ts, w.before args s = true) (hin : ∀ w ∈ u_ws C T N, w ∈ Ts) (ty0 : Nat → FieldType) (hty : ∀ k, k < N → parseFieldDescriptor (T k).2.2.1 = some (ty0 k)) (hnm : ∀ a, a < N → ∀ b, b < N → a ≠ b → (T a).2.1 ≠ (T b).2.1) (hown : s.vm.findClass own = some m.cls) (hK : va_K D vwCl tys s) (hw : mW D A H0 ws H locs) (q0 : Nat) {fs : List Value} (he : ws[q0]? = some (a, .inr (ci, fs))) (hc : vwCl[ci]? = some (C, T, N)) (k : Nat) (hk : k < N) (hlink : (Cond.fieldLinkNest own index ref (T k).2.1 (T k).2.2.1 host).before args s = true) (hsame : ∀ x, s.fieldFound? (T k).1 (T k).2.1 (T k).2.2.1 = some x → s.fieldFound? ref (T k).2.1 (T k).2.2.1 = some x) (hfin : (T k).2.2.2 = false) {ty : FieldType} {v : Value} (hd : parseFieldDescriptor (T k).2.2.1 = some ty) (hn : narrow ty v = v) (hfit : fits ty v = true) (hl : k < fs.length) (hws : ws.set q0 (a, .inr (ci, fs.set k v)) = ws') (hdg : decode cc pc = .ok (.putfield index, 3)) (kk : ∀ (H1 : Heap) (locs1 : List Loc), mW D A H0 ws' H1 locs1 → W p l e R s m args below meth c H1 locs1 cells slots Q (F0 m (pc + 3) ls rest)) : W p l e R s m args below meth c H locs cells slots Q (F0 m pc ls (v :: .ref a :: rest)) := by
  subst hws
  exact va_putN hexec hb hts hin ty0 hty hnm hown hK hw.1 hw.2.1 hw.2.2 q0 he hc k hk hlink hsame hfin hd hn hfit hl hdg (fun H1 locs1 h1 h2 h3 => kk H1 locs1 ⟨h1, h2, h3⟩)
theorem m_iast (hexec : p.tables.exec = Jvm.exec) (hb : c.code = cc) (hK : va_K D vwCl tys s) (hw : mW D A H0 ws H locs) (q0 t0 : Nat) {cA : ClassId} {n : Nat} {f : Nat → Int32} (ha : ws[q0]? = some (a, .inl (cA, n, .inl f))) (ht : tys[t0]? = some (cA, .int)) {i x : Int32} (hin : vp_in i n) (hws : ws.set q0 (a, .inl (cA, n, .inl (upd f i.toNatClampNeg x))) = ws') (hdg : decode cc pc = .ok (.iastore, 1)) (kk : ∀ (H1 : Heap) (locs1 : List Loc), mW D A H0 ws' H1 locs1 → W p l e R s m args below meth c H1 locs1 cells slots Q (F0 m (pc + 1) ls rest)) : W p l e R s m args below meth c H locs cells slots Q (F0 m pc ls (.int x :: .int i :: .ref a :: rest)) := by
  subst hws
  exact va_iast hexec hb hK hw.1 hw.2.1 hw.2.2 q0 t0 ha ht hin hdg (fun H1 locs1 h1 h2 h3 => kk H1 locs1 ⟨h1, h2, h3⟩)
theorem m_zast (hexec : p.tables.exec = Jvm.exec) (hb : c.code = cc) (hK : va_K D vwCl tys s) (hw : mW D A H0 ws H locs) (q0 t0 : Nat) {cA : ClassId} {n : Nat} {f : Nat → Int32} (ha : ws[q0]? = some (a, .inl (cA, n, .inl f))) (ht : tys[t0]? = some (cA, .boolean)) {i x : Int32} (hin : vp_in i n) (hws : ws.set q0 (a, .inl (cA, n, .inl (upd f i.toNatClampNeg (vp_nar .boolean x)))) = ws') (hdg : decode cc pc = .ok (.bastore, 1)) (kk : ∀ (H1 : Heap) (locs1 : List Loc), mW D A H0 ws' H1 locs1 → W p l e R s m args below meth c H1 locs1 cells slots Q (F0 m (pc + 1) ls rest)) : W p l e R s m args below meth c H locs cells slots Q (F0 m pc ls (.int x :: .int i :: .ref a :: rest)) := by
  subst hws
  exact va_zast hexec hb hK hw.1 hw.2.1 hw.2.2 q0 t0 ha ht hin hdg (fun H1 locs1 h1 h2 h3 => kk H1 locs1 ⟨h1, h2, h3⟩)
theorem m_last (hexec : p.tables.exec = Jvm.exec) (hb : c.code = cc) (hK : va_K D vwCl tys s) (hw : mW D A H0 ws H locs) (q0 t0 : Nat) {cA : ClassId} {n : Nat} {f : Nat → Int64} (ha : ws[q0]? = some (a, .inl (cA, n, .inr (.inl f)))) (ht : tys[t0]? = some (cA, .long)) {i : Int32} {x : Int64} (hin : vp_in i n) (hws : ws.set q0 (a, .inl (cA, n, .inr (.inl (vp_updL f i.toNatClampNeg x)))) = ws') (hdg : decode cc pc = .ok (.lastore, 1)) (kk : ∀ (H1 : Heap) (locs1 : List Loc), mW D A H0 ws' H1 locs1 → W p l e R s m args below meth c H1 locs1 cells slots Q (F0 m (pc + 1) ls rest)) : W p l e R s m args below meth c H locs cells slots Q (F0 m pc ls (.long x :: .int i :: .ref a :: rest)) := by
  subst hws
  exact va_last hexec hb hK hw.1 hw.2.1 hw.2.2 q0 t0 ha ht hin hdg (fun H1 locs1 h1 h2 h3 => kk H1 locs1 ⟨h1, h2, h3⟩)
theorem m_copyi (hexec : p.tables.exec = Jvm.exec) (hb : c.code = cc) (hml : c.maxLocals = ls.size) {own : String} {index : Nat} (hown : s.vm.findClass own = some m.cls) (hlink : (Cond.methodLink own index arraycopyName).before args s = true) (hnat : (Cond.native arraycopyName).before args s = true) (hstat : (Cond.static arraycopyName).before args s = true) (hini : (Cond.initialized "java/lang/System").before args s = true) (hK : va_K D vwCl tys s) (hw : mW D A H0 ws H locs) (q0 q1 t0 t1 : Nat) {a0 : Nat} {c0 c1 : ClassId} {n0 n1 : Nat} {f g : Nat → Int32} {ty : FieldType} (ha0 : ws[q0]? = some (a0, .inl (c0, n0, .inl f))) (ha1 : ws[q1]? = some (a, .inl (c1, n1, .inl g))) (ht0 : tys[t0]? = some (c0, ty)) (ht1 : tys[t1]? = some (c1, ty)) (hprim : refKind ty = false) {sp dp n : Int32} (hok : cpOk sp dp n n0 n1) (hfit : ∀ i, i < n.toNatClampNeg → fits ty (.int (f (sp.toNatClampNeg + i))) = true) (hframes : 1 ≤ R.frames) (hlocals : (rest.map fun v => v.category).sum + (nativeFrameWords "java/lang/System" "arraycopy" 5 + 11) ≤ R.locals) (hws : ws.set q1 (a, .inl (c1, n1, .inl (va_cpy f g sp.toNatClampNeg dp.toNatClampNeg n.toNatClampNeg))) = ws') (hdg : decode cc pc = .ok (.invokestatic index, 3)) (kk : ∀ (H1 : Heap) (locs1 : List Loc), mW D A H0 ws' H1 locs1 → W p l e R s m args below meth c H1 locs1 cells slots Q (F0 m (pc + 3) ls rest)) : W p l e R s m args below meth c H locs cells slots Q (F0 m pc ls (.int n :: .int dp :: .ref a :: .int sp :: .ref a0 :: rest)) := by
  subst hws
  exact va_copyi hexec hb hml hown hlink hnat hstat hini hK hw.1 hw.2.1 hw.2.2 q0 q1 t0 t1 ha0 ha1 ht0 ht1 hprim hok.1 hok.2.1 hok.2.2.1 hok.2.2.2.1 hok.2.2.2.2 hfit hframes hlocals hdg (fun H1 locs1 h1 h2 h3 => kk H1 locs1 ⟨h1, h2, h3⟩)
/-- behind a call: what came back beside the rest, in the old order -/
theorem m_back {S : Type} {wc wr : va_W} {w1 w2 : S → va_W} {u : S} {t : State} {H1 : Heap} {locs1 : List Loc} (hw : mW D A H0 ws H locs) (hA : ∀ q, H0.size ≤ q → A q) (isC isR is2 : List Nat) (hC : isC.map (fun i => ws[i]?) = wc.map some) (hR : isR.map (fun i => ws[i]?) = wr.map some) (hn : va_nd isR = true) (hdis : ∀ i ∈ isR, i ∉ isC) (hn2 : va_nd is2 = true) (h2 : ∀ u, is2.map (fun i => (wr ++ w1 u)[i]?) = (w2 u).map some) (ht : t.heap = H1) (hB : mB D (va_A wc H.size) w1 u t) (hk : ∀ q : Nat, q < H.size → ¬ va_A wc H.size q → H1[q]? = H[q]?) (hS : va_S A H0 H1 locs1) : mW D A H0 (w2 u) H1 locs1 := by
  obtain ⟨hP1, hD1⟩ := hB
  rw [ht] at hP1
  have hF := va_free (wc := wc) hw.2.1 hw.2.2 hA isC hC
  obtain ⟨hP, hD⟩ := va_join hw.1 hw.2.1 isC isR hC hR hn hdis hk hF hP1 hD1
  exact ⟨hP.sub is2 (mp_fm _ _ _ (h2 u)), hD.sub is2 hn2 (h2 u), hS⟩
theorem m_calli {S : Type} {post : Int32 → S → Prop} {wc wr : va_W} {w1 w2 : S → va_W} {a : Array Value} (hr : va_Run p l e R s m args below meth c H locs cells slots 0 0 (F0 m pc ls st0) rest (va_Qi post (mB D (va_A wc H.size) w1) (va_A wc H.size) a) (va_A wc H.size)) (hw : mW D A H0 ws H locs) (hA : ∀ q, H0.size ≤ q → A q) (isC isR is2 : List Nat) (hC : isC.map (fun i => ws[i]?) = wc.map some) (hR : isR.map (fun i => ws[i]?) = wr.map some) (hn : va_nd isR = true) (hdis : ∀ i ∈ isR, i ∉ isC) (hn2 : va_nd is2 = true) (h2 : ∀ u, is2.map (fun i => (wr ++ w1 u)[i]?) = (w2 u).map some) (kk : ∀ (r : Int32) (u : S) (H1 : Heap) (locs1 : List Loc), mW D A H0 (w2 u) H1 locs1 → post r u → W p l e R s m args below meth c H1 locs1 cells slots Q (F0 m (pc + 3) ls (.int r :: rest))) : W p l e R s m args below meth c H locs cells slots Q (F0 m pc ls st0) := by
  have hF := va_free (wc := wc) hw.2.1 hw.2.2 hA isC hC
  exact va_calli hr hw.2.2 (fun q _ h => hF q h) hF (fun r u t H1 locs1 ht _ hp hB _ hk hS => kk r u H1 locs1 (m_back hw hA isC isR is2 hC hR hn hdis hn2 h2 ht hB hk hS) hp)
theorem m_callv {S : Type} {post : S → Prop} {wc wr : va_W} {w1 w2 : S → va_W} {a : Array Value} (hr : va_Run p l e R s m args below meth c H locs cells slots 0 0 (F0 m pc ls st0) rest (va_Qv post (mB D (va_A wc H.size) w1) (va_A wc H.size) a) (va_A wc H.size)) (hw : mW D A H0 ws H locs) (hA : ∀ q, H0.size ≤ q → A q) (isC isR is2 : List Nat) (hC : isC.map (fun i => ws[i]?) = wc.map some) (hR : isR.map (fun i => ws[i]?) = wr.map some) (hn : va_nd isR = true) (hdis : ∀ i ∈ isR, i ∉ isC) (hn2 : va_nd is2 = true) (h2 : ∀ u, is2.map (fun i => (wr ++ w1 u)[i]?) = (w2 u).map some) (kk : ∀ (u : S) (H1 : Heap) (locs1 : List Loc), mW D A H0 (w2 u) H1 locs1 → post u → W p l e R s m args below meth c H1 locs1 cells slots Q (F0 m (pc + 3) ls rest)) : W p l e R s m args below meth c H locs cells slots Q (F0 m pc ls st0) := by
  have hF := va_free (wc := wc) hw.2.1 hw.2.2 hA isC hC
  exact va_callv hr hw.2.2 (fun q _ h => hF q h) hF (fun u t H1 locs1 ht _ hp hB _ hk hS => kk u H1 locs1 (m_back hw hA isC isR is2 hC hR hn hdis hn2 h2 ht hB hk hS) hp)
end MROW
/-- what a method's body has at its entry -/
abbrev mBody (l : Launch) (y : MethodName) (ws : List Cond) (rm : Room) (cc : ByteArray) (nL : Nat) (D : va_G) (cA : Nat → ClassId) (av : List Value) (w0 : va_W) (End : (p : Program) → (e : Env) → (s : State) → (m : MethodId) → (below : List Frame) → (meth : Method) → (c : Code) → (A : Nat → Prop) → (Q : State → Prop) → Prop) : Prop :=
  ∀ (p : Program) (e : Env) (s : State) (m : MethodId) (below : List Frame) (meth : Method) (c : Code) (A : Nat → Prop) (Q : State → Prop) (ls : Array Slot), p.tables.exec = Jvm.exec → c.code = cc → c.maxLocals = nL → s.vm.findClass y.cls = some m.cls → (∀ w ∈ ws, w.before av.toArray s = true) → mK D cA s → (∀ q : Nat, s.heap.size ≤ q → A q) → mW D A s.heap w0 s.heap [] → lv_has ls nL (lv_args 0 av) → End p e s m below meth c A Q → W p l e rm s m av.toArray below meth c s.heap [] 0 0 Q (F0 m 0 ls [])
theorem m_methI {l : Launch} {y : MethodName} {ws ws' : List Cond} {rm : Room} {cc : ByteArray} {nL : Nat} {D : va_G} {cA : Nat → ClassId} {av : List Value} {w0 : va_W} {sz : Nat} {S : Type} {post : Int32 → S → Prop} {w : S → va_W} (hy : plainName y.cls = true) (hws : ws = Cond.code y cc nL (some .int) :: ws') (hfit : (lg_sl av).length ≤ nL)
    (body : mBody l y ws rm cc nL D cA av w0 (fun p e s m below meth c A Q => ∀ (r : Int32) (u : S) (H : Heap) (locs : List Loc) (pc : Nat) (ls : Array Slot), post r u → mW D A s.heap (w u) H locs → decode cc pc = .ok (.ireturn, 1) → W p l e rm s m av.toArray below meth c H locs 0 0 Q (F0 m pc ls [.int r]))) :
    Met l y ws rm (mPc D cA av w0 sz) (va_Qi post (mB D (va_A w0 sz) w) (va_A w0 sz)) 0 0 (va_A w0 sz) := by
  refine Met.ofW (cc := cc) (maxL := nL) (ret := some .int) hy hws ?_
  intro p e s m args below meth c s₁ B hml hv
  obtain ⟨rfl, hsz, hP, hK, hD0⟩ := hv
  have hx := B.exec
  have hb := B.bytes
  have hr := B.returns
  have hts := atoms_spec (ws := ws) B.pre
  have hown : s.vm.findClass y.cls = some m.cls := findClass_of_methodNamed B.named
  have hlocks := B.notSynchronized
  subst hsz
  have hD := hD0.self (sz := s.heap.size)
  rw [lg_entry_eq]
  exact body p e s m below meth c (va_A w0 s.heap.size) _ _ hx hb hml hown hts hK (fun q h => Or.inr h) ⟨hP, hD, va_S.rf⟩ (lv_entry av hfit)
    (fun r u H locs pc ls hp hw hd => W.iret hx hb hr (fun t ht hW => ⟨⟨r, u, rfl, hp, by rw [ht]; exact hw.1, hw.2.1⟩, hw.2.2.F ht⟩) hw.2.2.2.2 hd)
theorem m_methZ {l : Launch} {y : MethodName} {ws ws' : List Cond} {rm : Room} {cc : ByteArray} {nL : Nat} {D : va_G} {cA : Nat → ClassId} {av : List Value} {w0 : va_W} {sz : Nat} {S : Type} {post : Int32 → S → Prop} {w : S → va_W} (hy : plainName y.cls = true) (hws : ws = Cond.code y cc nL (some .boolean) :: ws') (hfit : (lg_sl av).length ≤ nL)
    (body : mBody l y ws rm cc nL D cA av w0 (fun p e s m below meth c A Q => ∀ (r : Int32) (u : S) (H : Heap) (locs : List Loc) (pc : Nat) (ls : Array Slot), post r u → narrow .boolean (.int r) = .int r → mW D A s.heap (w u) H locs → decode cc pc = .ok (.ireturn, 1) → W p l e rm s m av.toArray below meth c H locs 0 0 Q (F0 m pc ls [.int r]))) :
    Met l y ws rm (mPc D cA av w0 sz) (va_Qi post (mB D (va_A w0 sz) w) (va_A w0 sz)) 0 0 (va_A w0 sz) := by
  refine Met.ofW (cc := cc) (maxL := nL) (ret := some .boolean) hy hws ?_
  intro p e s m args below meth c s₁ B hml hv
  obtain ⟨rfl, hsz, hP, hK, hD0⟩ := hv
  have hx := B.exec
  have hb := B.bytes
  have hr := B.returns
  have hts := atoms_spec (ws := ws) B.pre
  have hown : s.vm.findClass y.cls = some m.cls := findClass_of_methodNamed B.named
  have hlocks := B.notSynchronized
  subst hsz
  have hD := hD0.self (sz := s.heap.size)
  rw [lg_entry_eq]
  exact body p e s m below meth c (va_A w0 s.heap.size) _ _ hx hb hml hown hts hK (fun q h => Or.inr h) ⟨hP, hD, va_S.rf⟩ (lv_entry av hfit)
    (fun r u H locs pc ls hp hn hw hd => W.zret hx hb hr hn (fun t ht hW => ⟨⟨r, u, rfl, hp, by rw [ht]; exact hw.1, hw.2.1⟩, hw.2.2.F ht⟩) hw.2.2.2.2 hd)
theorem m_methV {l : Launch} {y : MethodName} {ws ws' : List Cond} {rm : Room} {cc : ByteArray} {nL : Nat} {D : va_G} {cA : Nat → ClassId} {av : List Value} {w0 : va_W} {sz : Nat} {S : Type} {post : S → Prop} {w : S → va_W} (hy : plainName y.cls = true) (hws : ws = Cond.code y cc nL none :: ws') (hfit : (lg_sl av).length ≤ nL)
    (body : mBody l y ws rm cc nL D cA av w0 (fun p e s m below meth c A Q => ∀ (u : S) (H : Heap) (locs : List Loc) (pc : Nat) (ls : Array Slot), post u → mW D A s.heap (w u) H locs → decode cc pc = .ok (.return_, 1) → W p l e rm s m av.toArray below meth c H locs 0 0 Q (F0 m pc ls []))) :
    Met l y ws rm (mPc D cA av w0 sz) (va_Qv post (mB D (va_A w0 sz) w) (va_A w0 sz)) 0 0 (va_A w0 sz) := by
  refine Met.ofW (cc := cc) (maxL := nL) (ret := none) hy hws ?_
  intro p e s m args below meth c s₁ B hml hv
  obtain ⟨rfl, hsz, hP, hK, hD0⟩ := hv
  have hx := B.exec
  have hb := B.bytes
  have hr := B.returns
  have hts := atoms_spec (ws := ws) B.pre
  have hown : s.vm.findClass y.cls = some m.cls := findClass_of_methodNamed B.named
  have hlocks := B.notSynchronized
  subst hsz
  have hD := hD0.self (sz := s.heap.size)
  rw [lg_entry_eq]
  exact body p e s m below meth c (va_A w0 s.heap.size) _ _ hx hb hml hown hts hK (fun q h => Or.inr h) ⟨hP, hD, va_S.rf⟩ (lv_entry av hfit)
    (fun u H locs pc ls hp hw hd => W.vret hx hb hr (fun t ht hW => ⟨⟨u, rfl, hp, by rw [ht]; exact hw.1, hw.2.1⟩, hw.2.2.F ht⟩) hw.2.2.2.2 hd)
end
section
def wp_G_has (G_size : Int32) (p1 : Int32) (post : Int32 → Prop) : Prop := ((p1 < 0 → post 0) ∧ (¬ p1 < 0 → ((G_size ≤ p1 → post 0) ∧ (¬ G_size ≤ p1 → post 1))))
def wp_G_hasLiteral (G_size : Int32) (p1 : Int32) (post : Int32 → Prop) : Prop := ((p1 < 0 → post 0) ∧ (¬ p1 < 0 → wp_G_has G_size (p1 >>> ((1 : Int32) &&& 31)) (fun r8 => ((r8 = 0 → post 0) ∧ (¬ r8 = 0 → post 1)))))
def s_G_add_47 (p1 : Int32) (p2 : Int32) (p3 : Int32) (post : Int32 → Int32 → Int32 → (Nat → Int32) → (Nat → Int32) → (Nat → Int32) → Prop) (x4 : Int32) (G_size : Int32) (G_inputs : Int32) (G_kinds : (Nat → Int32)) (G_lefts : (Nat → Int32)) (G_rights : (Nat → Int32)) : Prop := post x4 (G_size + 1) G_inputs G_kinds G_lefts G_rights
def wp_G_add (G_size : Int32) (G_inputs : Int32) (G_kinds : (Nat → Int32)) (G_lefts : (Nat → Int32)) (G_rights : (Nat → Int32)) (p1 : Int32) (p2 : Int32) (p3 : Int32) (post : Int32 → Int32 → Int32 → (Nat → Int32) → (Nat → Int32) → (Nat → Int32) → Prop) : Prop := (vp_in G_size 40 ∧ ((p1 = 0 → s_G_add_47 p1 p2 p3 post G_size G_size (G_inputs + 1) (upd G_kinds G_size.toNatClampNeg p1) G_lefts G_rights) ∧ (¬ p1 = 0 → (vp_in G_size 40 ∧ (vp_in G_size 40 ∧ s_G_add_47 p1 p2 p3 post G_size G_size G_inputs (upd G_kinds G_size.toNatClampNeg p1) (upd G_lefts G_size.toNatClampNeg p2) (upd G_rights G_size.toNatClampNeg p3))))))
def s_P_gate_60 (p1 : Int32) (p2 : Int32) (p3 : Int32) (post : Int32 → Int32 → Int32 → (Nat → Int32) → (Nat → Int32) → (Nat → Int32) → Prop) (postx : Nat → Int32 → Int32 → (Nat → Int32) → (Nat → Int32) → (Nat → Int32) → Prop) (G_size : Int32) (G_inputs : Int32) (G_kinds : (Nat → Int32)) (G_lefts : (Nat → Int32)) (G_rights : (Nat → Int32)) : Prop := ((G_size < 40 → wp_G_add G_size G_inputs G_kinds G_lefts G_rights p1 p2 p3 (fun r89 G_size_89 G_inputs_89 G_kinds_89 G_lefts_89 G_rights_89 => post r89 G_size_89 G_inputs_89 G_kinds_89 G_lefts_89 G_rights_89)) ∧ (¬ G_size < 40 → postx 2 G_size G_inputs G_kinds G_lefts G_rights))
def s_P_gate_36 (p1 : Int32) (p2 : Int32) (p3 : Int32) (post : Int32 → Int32 → Int32 → (Nat → Int32) → (Nat → Int32) → (Nat → Int32) → Prop) (postx : Nat → Int32 → Int32 → (Nat → Int32) → (Nat → Int32) → (Nat → Int32) → Prop) (G_size : Int32) (G_inputs : Int32) (G_kinds : (Nat → Int32)) (G_lefts : (Nat → Int32)) (G_rights : (Nat → Int32)) : Prop := ((p1 = 0 → s_P_gate_60 p1 p2 p3 post postx G_size G_inputs G_kinds G_lefts G_rights) ∧ (¬ p1 = 0 → ((p1 = 1 → s_P_gate_60 p1 p2 p3 post postx G_size G_inputs G_kinds G_lefts G_rights) ∧ (¬ p1 = 1 → ((p1 = 2 → s_P_gate_60 p1 p2 p3 post postx G_size G_inputs G_kinds G_lefts G_rights) ∧ (¬ p1 = 2 → postx 1 G_size G_inputs G_kinds G_lefts G_rights))))))
def wp_P_gate (G_size : Int32) (G_inputs : Int32) (G_kinds : (Nat → Int32)) (G_lefts : (Nat → Int32)) (G_rights : (Nat → Int32)) (p1 : Int32) (p2 : Int32) (p3 : Int32) (post : Int32 → Int32 → Int32 → (Nat → Int32) → (Nat → Int32) → (Nat → Int32) → Prop) (postx : Nat → Int32 → Int32 → (Nat → Int32) → (Nat → Int32) → (Nat → Int32) → Prop) : Prop := ((p1 = 0 → s_P_gate_36 p1 p2 p3 post postx G_size G_inputs G_kinds G_lefts G_rights) ∧ (¬ p1 = 0 → wp_G_hasLiteral G_size p2 (fun r9 => ((r9 = 0 → postx 0 G_size G_inputs G_kinds G_lefts G_rights) ∧ (¬ r9 = 0 → wp_G_hasLiteral G_size p3 (fun r20 => ((r20 = 0 → postx 0 G_size G_inputs G_kinds G_lefts G_rights) ∧ (¬ r20 = 0 → s_P_gate_36 p1 p2 p3 post postx G_size G_inputs G_kinds G_lefts G_rights))))))))
def wp_F_isFull (F_size : Int32) (post : Int32 → Prop) : Prop := ((F_size < 24 → post 0) ∧ (¬ F_size < 24 → post 1))
def wp_F_add (F_size : Int32) (F_kinds : (Nat → Int32)) (F_sizes : (Nat → Int32)) (p1 : Int32) (post : Int32 → Int32 → (Nat → Int32) → (Nat → Int32) → Prop) : Prop := (vp_in F_size 24 ∧ (vp_in F_size 24 ∧ post F_size (F_size + 1) (upd F_kinds F_size.toNatClampNeg p1) (upd F_sizes F_size.toNatClampNeg 0)))
def wp_P_line (F_size : Int32) (F_kinds : (Nat → Int32)) (F_sizes : (Nat → Int32)) (post : Int32 → Int32 → (Nat → Int32) → (Nat → Int32) → Prop) (postx : Nat → Int32 → (Nat → Int32) → (Nat → Int32) → Prop) : Prop := wp_F_isFull F_size (fun r4 => ((r4 = 0 → wp_F_add F_size F_kinds F_sizes 0 (fun r25 F_size_25 F_kinds_25 F_sizes_25 => post r25 F_size_25 F_kinds_25 F_sizes_25)) ∧ (¬ r4 = 0 → postx 2 F_size F_kinds F_sizes)))
def wp_F_has (F_size : Int32) (p1 : Int32) (post : Int32 → Prop) : Prop := ((p1 < 0 → post 0) ∧ (¬ p1 < 0 → ((F_size ≤ p1 → post 0) ∧ (¬ F_size ≤ p1 → post 1))))
def wp_F_literalOf (F_literals : (Nat → Int32)) (p1 : Int32) (p2 : Int32) (post : Int32 → Prop) : Prop := (vp_in ((p1 * 6) + p2) 144 ∧ post (F_literals ((p1 * 6) + p2).toNatClampNeg))
def s_F_contains_2 (F_sizes : (Nat → Int32)) (F_literals : (Nat → Int32)) (p1 : Int32) (p2 : Int32) (C2 : Int32 → Prop) (post : Int32 → Prop) (x3 : Int32) : Prop := (vp_in p1 24 ∧ (((F_sizes p1.toNatClampNeg) ≤ x3 → post 0) ∧ (¬ (F_sizes p1.toNatClampNeg) ≤ x3 → wp_F_literalOf F_literals p1 x3 (fun r15 => ((r15 = p2 → post 1) ∧ (¬ r15 = p2 → C2 (x3 + 1)))))))
def wp_F_contains (F_sizes : (Nat → Int32)) (F_literals : (Nat → Int32)) (p1 : Int32) (p2 : Int32) (post : Int32 → Prop) : Prop := ∀ (C2 : Int32 → Prop), (∀ (x3 : Int32), s_F_contains_2 F_sizes F_literals p1 p2 C2 post x3 → C2 x3) → C2 0
def s_F_isLineFull_22 (F_kinds : (Nat → Int32)) (F_sizes : (Nat → Int32)) (p1 : Int32) (post : Int32 → Prop) (s0 : Int32) (s1 : Int32) : Prop := ((s1 < s0 → post 0) ∧ (¬ s1 < s0 → post 1))
def wp_F_isLineFull (F_kinds : (Nat → Int32)) (F_sizes : (Nat → Int32)) (p1 : Int32) (post : Int32 → Prop) : Prop := (vp_in p1 24 ∧ (vp_in p1 24 ∧ (((F_kinds p1.toNatClampNeg) = 1 → s_F_isLineFull_22 F_kinds F_sizes p1 post 2 (F_sizes p1.toNatClampNeg)) ∧ (¬ (F_kinds p1.toNatClampNeg) = 1 → s_F_isLineFull_22 F_kinds F_sizes p1 post 6 (F_sizes p1.toNatClampNeg)))))
def wp_F_append (F_sizes : (Nat → Int32)) (F_literals : (Nat → Int32)) (p1 : Int32) (p2 : Int32) (post : (Nat → Int32) → (Nat → Int32) → Prop) : Prop := (vp_in p1 24 ∧ (vp_in ((p1 * 6) + (F_sizes p1.toNatClampNeg)) 144 ∧ (vp_in p1 24 ∧ (vp_in p1 24 ∧ post (upd F_sizes p1.toNatClampNeg ((F_sizes p1.toNatClampNeg) + 1)) (upd F_literals ((p1 * 6) + (F_sizes p1.toNatClampNeg)).toNatClampNeg p2)))))
def wp_P_literal (G_size : Int32) (F_size : Int32) (F_kinds : (Nat → Int32)) (F_sizes : (Nat → Int32)) (F_literals : (Nat → Int32)) (p1 : Int32) (p2 : Int32) (post : Int32 → (Nat → Int32) → (Nat → Int32) → Prop) (postx : Nat → (Nat → Int32) → (Nat → Int32) → Prop) : Prop := wp_F_has F_size p1 (fun r5 => ((r5 = 0 → postx 0 F_sizes F_literals) ∧ (¬ r5 = 0 → wp_G_hasLiteral G_size p2 (fun r16 => ((r16 = 0 → postx 0 F_sizes F_literals) ∧ (¬ r16 = 0 → (vp_in p1 24 ∧ (((F_kinds p1.toNatClampNeg) = 1 → postx 1 F_sizes F_literals) ∧ (¬ (F_kinds p1.toNatClampNeg) = 1 → wp_F_contains F_sizes F_literals p1 p2 (fun r61 => ((r61 = 0 → wp_F_isLineFull F_kinds F_sizes p1 (fun r74 => ((r74 = 0 → wp_F_append F_sizes F_literals p1 p2 (fun F_sizes_96 F_literals_96 => post 1 F_sizes_96 F_literals_96)) ∧ (¬ r74 = 0 → postx 2 F_sizes F_literals)))) ∧ (¬ r61 = 0 → post 0 F_sizes F_literals))))))))))))
def wp_P_equalLine (G_size : Int32) (F_size : Int32) (F_kinds : (Nat → Int32)) (F_sizes : (Nat → Int32)) (F_literals : (Nat → Int32)) (p1 : Int32) (p2 : Int32) (post : Int32 → Int32 → (Nat → Int32) → (Nat → Int32) → (Nat → Int32) → Prop) (postx : Nat → Int32 → (Nat → Int32) → (Nat → Int32) → (Nat → Int32) → Prop) : Prop := wp_G_hasLiteral G_size p1 (fun r5 => ((r5 = 0 → postx 0 F_size F_kinds F_sizes F_literals) ∧ (¬ r5 = 0 → wp_G_hasLiteral G_size p2 (fun r16 => ((r16 = 0 → postx 0 F_size F_kinds F_sizes F_literals) ∧ (¬ r16 = 0 → wp_F_isFull F_size (fun r36 => ((r36 = 0 → wp_F_add F_size F_kinds F_sizes 1 (fun r57 F_size_57 F_kinds_57 F_sizes_57 => wp_F_append F_sizes_57 F_literals r57 p1 (fun F_sizes_67 F_literals_67 => wp_F_append F_sizes_67 F_literals_67 r57 p2 (fun F_sizes_76 F_literals_76 => post r57 F_size_57 F_kinds_57 F_sizes_76 F_literals_76)))) ∧ (¬ r36 = 0 → postx 2 F_size F_kinds F_sizes F_literals)))))))))
def s_A_fill_5 (p1 : Int32) (C5 : Int32 → Int32 → (Nat → Int32) → Prop) (post : (Nat → Int32) → Prop) (x2 : Int32) (x3 : Int32) (U_told : (Nat → Int32)) : Prop := ((x3 ≤ x2 → post U_told) ∧ (¬ x3 ≤ x2 → (vp_in x2 40 ∧ C5 (x2 + 1) x3 (upd U_told x2.toNatClampNeg p1))))
def wp_A_fill (U_told : (Nat → Int32)) (p1 : Int32) (post : (Nat → Int32) → Prop) : Prop := ∀ (C5 : Int32 → Int32 → (Nat → Int32) → Prop), (∀ (x2 : Int32) (x3 : Int32) (U_told : (Nat → Int32)), s_A_fill_5 p1 C5 post x2 x3 U_told → C5 x2 x3 U_told) → C5 0 40 U_told
def wp_U_begin (U_conflict : Int32) (U_told : (Nat → Int32)) (post : Int32 → (Nat → Int32) → Prop) : Prop := wp_A_fill U_told 2 (fun U_told_5 => (vp_in 0 40 ∧ post 0 (upd U_told_5 (0 : Int32).toNatClampNeg 0)))
def wp_U_tell (U_conflict : Int32) (U_changed : Int32) (U_told : (Nat → Int32)) (p1 : Int32) (p2 : Int32) (post : Int32 → Int32 → (Nat → Int32) → Prop) : Prop := (vp_in (p1 >>> ((1 : Int32) &&& 31)) 40 ∧ (((U_told (p1 >>> ((1 : Int32) &&& 31)).toNatClampNeg) = 2 → (vp_in (p1 >>> ((1 : Int32) &&& 31)) 40 ∧ post U_conflict 1 (upd U_told (p1 >>> ((1 : Int32) &&& 31)).toNatClampNeg (p2 ^^^ (p1 &&& 1))))) ∧ (¬ (U_told (p1 >>> ((1 : Int32) &&& 31)).toNatClampNeg) = 2 → (vp_in (p1 >>> ((1 : Int32) &&& 31)) 40 ∧ (((U_told (p1 >>> ((1 : Int32) &&& 31)).toNatClampNeg) = (p2 ^^^ (p1 &&& 1)) → post U_conflict U_changed U_told) ∧ (¬ (U_told (p1 >>> ((1 : Int32) &&& 31)).toNatClampNeg) = (p2 ^^^ (p1 &&& 1)) → post 1 U_changed U_told))))))
def wp_U_toldOf (U_told : (Nat → Int32)) (p1 : Int32) (post : Int32 → Prop) : Prop := (vp_in (p1 >>> ((1 : Int32) &&& 31)) 40 ∧ (((U_told (p1 >>> ((1 : Int32) &&& 31)).toNatClampNeg) = 2 → post 2) ∧ (¬ (U_told (p1 >>> ((1 : Int32) &&& 31)).toNatClampNeg) = 2 → post ((U_told (p1 >>> ((1 : Int32) &&& 31)).toNatClampNeg) ^^^ (p1 &&& 1)))))
def s_U_stepEither_68 (p1 : Int32) (p2 : Int32) (p3 : Int32) (post : Int32 → Int32 → (Nat → Int32) → Prop) (x4 : Int32) (x6 : Int32) (U_conflict : Int32) (U_changed : Int32) (U_told : (Nat → Int32)) : Prop := ((x4 = 2 → post U_conflict U_changed U_told) ∧ (¬ x4 = 2 → ((x6 = 2 → post U_conflict U_changed U_told) ∧ (¬ x6 = 2 → wp_U_tell U_conflict U_changed U_told p2 (x4 ^^^ x6) (fun U_conflict_87 U_changed_87 U_told_87 => post U_conflict_87 U_changed_87 U_told_87)))))
def s_U_stepEither_46 (p1 : Int32) (p2 : Int32) (p3 : Int32) (post : Int32 → Int32 → (Nat → Int32) → Prop) (x4 : Int32) (x5 : Int32) (x6 : Int32) (U_conflict : Int32) (U_changed : Int32) (U_told : (Nat → Int32)) : Prop := ((x4 = 2 → s_U_stepEither_68 p1 p2 p3 post x4 x6 U_conflict U_changed U_told) ∧ (¬ x4 = 2 → ((x5 = 2 → s_U_stepEither_68 p1 p2 p3 post x4 x6 U_conflict U_changed U_told) ∧ (¬ x5 = 2 → wp_U_tell U_conflict U_changed U_told p3 (x4 ^^^ x5) (fun U_conflict_65 U_changed_65 U_told_65 => s_U_stepEither_68 p1 p2 p3 post x4 x6 U_conflict_65 U_changed_65 U_told_65)))))
def wp_U_stepEither (U_conflict : Int32) (U_changed : Int32) (U_told : (Nat → Int32)) (p1 : Int32) (p2 : Int32) (p3 : Int32) (post : Int32 → Int32 → (Nat → Int32) → Prop) : Prop := (vp_in p1 40 ∧ wp_U_toldOf U_told p2 (fun r10 => wp_U_toldOf U_told p3 (fun r17 => ((r10 = 2 → s_U_stepEither_46 p1 p2 p3 post (U_told p1.toNatClampNeg) r10 r17 U_conflict U_changed U_told) ∧ (¬ r10 = 2 → ((r17 = 2 → s_U_stepEither_46 p1 p2 p3 post (U_told p1.toNatClampNeg) r10 r17 U_conflict U_changed U_told) ∧ (¬ r17 = 2 → wp_U_tell U_conflict U_changed U_told (2 * p1) (r10 ^^^ r17) (fun U_conflict_43 U_changed_43 U_told_43 => s_U_stepEither_46 p1 p2 p3 post (U_told p1.toNatClampNeg) r10 r17 U_conflict_43 U_changed_43 U_told_43))))))))
def s_U_stepAnd_95 (p1 : Int32) (p2 : Int32) (p3 : Int32) (post : Int32 → Int32 → (Nat → Int32) → Prop) (x4 : Int32) (x6 : Int32) (U_conflict : Int32) (U_changed : Int32) (U_told : (Nat → Int32)) : Prop := ((x4 = 0 → ((x6 = 1 → wp_U_tell U_conflict U_changed U_told p2 0 (fun U_conflict_109 U_changed_109 U_told_109 => post U_conflict_109 U_changed_109 U_told_109)) ∧ (¬ x6 = 1 → post U_conflict U_changed U_told))) ∧ (¬ x4 = 0 → post U_conflict U_changed U_told))
def s_U_stepAnd_78 (p1 : Int32) (p2 : Int32) (p3 : Int32) (post : Int32 → Int32 → (Nat → Int32) → Prop) (x4 : Int32) (x5 : Int32) (x6 : Int32) (U_conflict : Int32) (U_changed : Int32) (U_told : (Nat → Int32)) : Prop := ((x4 = 0 → ((x5 = 1 → wp_U_tell U_conflict U_changed U_told p3 0 (fun U_conflict_92 U_changed_92 U_told_92 => s_U_stepAnd_95 p1 p2 p3 post x4 x6 U_conflict_92 U_changed_92 U_told_92)) ∧ (¬ x5 = 1 → s_U_stepAnd_95 p1 p2 p3 post x4 x6 U_conflict U_changed U_told))) ∧ (¬ x4 = 0 → s_U_stepAnd_95 p1 p2 p3 post x4 x6 U_conflict U_changed U_told))
def s_U_stepAnd_60 (p1 : Int32) (p2 : Int32) (p3 : Int32) (post : Int32 → Int32 → (Nat → Int32) → Prop) (x4 : Int32) (x5 : Int32) (x6 : Int32) (U_conflict : Int32) (U_changed : Int32) (U_told : (Nat → Int32)) : Prop := ((x4 = 1 → wp_U_tell U_conflict U_changed U_told p2 1 (fun U_conflict_69 U_changed_69 U_told_69 => wp_U_tell U_conflict_69 U_changed_69 U_told_69 p3 1 (fun U_conflict_75 U_changed_75 U_told_75 => s_U_stepAnd_78 p1 p2 p3 post x4 x5 x6 U_conflict_75 U_changed_75 U_told_75))) ∧ (¬ x4 = 1 → s_U_stepAnd_78 p1 p2 p3 post x4 x5 x6 U_conflict U_changed U_told))
def s_U_stepAnd_40 (p1 : Int32) (p2 : Int32) (p3 : Int32) (post : Int32 → Int32 → (Nat → Int32) → Prop) (x4 : Int32) (x5 : Int32) (x6 : Int32) (U_conflict : Int32) (U_changed : Int32) (U_told : (Nat → Int32)) : Prop := ((x5 = 1 → ((x6 = 1 → wp_U_tell U_conflict U_changed U_told (2 * p1) 1 (fun U_conflict_57 U_changed_57 U_told_57 => s_U_stepAnd_60 p1 p2 p3 post x4 x5 x6 U_conflict_57 U_changed_57 U_told_57)) ∧ (¬ x6 = 1 → s_U_stepAnd_60 p1 p2 p3 post x4 x5 x6 U_conflict U_changed U_told))) ∧ (¬ x5 = 1 → s_U_stepAnd_60 p1 p2 p3 post x4 x5 x6 U_conflict U_changed U_told))
def s_U_stepAnd_32 (p1 : Int32) (p2 : Int32) (p3 : Int32) (post : Int32 → Int32 → (Nat → Int32) → Prop) (x4 : Int32) (x5 : Int32) (x6 : Int32) (U_conflict : Int32) (U_changed : Int32) (U_told : (Nat → Int32)) : Prop := wp_U_tell U_conflict U_changed U_told (2 * p1) 0 (fun U_conflict_37 U_changed_37 U_told_37 => s_U_stepAnd_40 p1 p2 p3 post x4 x5 x6 U_conflict_37 U_changed_37 U_told_37)
def wp_U_stepAnd (U_conflict : Int32) (U_changed : Int32) (U_told : (Nat → Int32)) (p1 : Int32) (p2 : Int32) (p3 : Int32) (post : Int32 → Int32 → (Nat → Int32) → Prop) : Prop := (vp_in p1 40 ∧ wp_U_toldOf U_told p2 (fun r10 => wp_U_toldOf U_told p3 (fun r17 => ((r10 = 0 → s_U_stepAnd_32 p1 p2 p3 post (U_told p1.toNatClampNeg) r10 r17 U_conflict U_changed U_told) ∧ (¬ r10 = 0 → ((r17 = 0 → s_U_stepAnd_32 p1 p2 p3 post (U_told p1.toNatClampNeg) r10 r17 U_conflict U_changed U_told) ∧ (¬ r17 = 0 → s_U_stepAnd_40 p1 p2 p3 post (U_told p1.toNatClampNeg) r10 r17 U_conflict U_changed U_told)))))))
def s_U_stepClause_48 (F_sizes : (Nat → Int32)) (F_literals : (Nat → Int32)) (p1 : Int32) (C7 : Int32 → Int32 → Int32 → Int32 → Int32 → (Nat → Int32) → Prop) (post : Int32 → Int32 → (Nat → Int32) → Prop) (x2 : Int32) (x3 : Int32) (x4 : Int32) (U_conflict : Int32) (U_changed : Int32) (U_told : (Nat → Int32)) : Prop := C7 x2 x3 (x4 + 1) U_conflict U_changed U_told
def s_U_stepClause_7 (F_sizes : (Nat → Int32)) (F_literals : (Nat → Int32)) (p1 : Int32) (C7 : Int32 → Int32 → Int32 → Int32 → Int32 → (Nat → Int32) → Prop) (post : Int32 → Int32 → (Nat → Int32) → Prop) (x2 : Int32) (x3 : Int32) (x4 : Int32) (U_conflict : Int32) (U_changed : Int32) (U_told : (Nat → Int32)) : Prop := (vp_in p1 24 ∧ (((F_sizes p1.toNatClampNeg) ≤ x4 → ((x2 = 0 → post 1 U_changed U_told) ∧ (¬ x2 = 0 → ((x2 = 1 → wp_U_tell U_conflict U_changed U_told x3 1 (fun U_conflict_74 U_changed_74 U_told_74 => post U_conflict_74 U_changed_74 U_told_74)) ∧ (¬ x2 = 1 → post U_conflict U_changed U_told))))) ∧ (¬ (F_sizes p1.toNatClampNeg) ≤ x4 → wp_F_literalOf F_literals p1 x4 (fun r28 => wp_U_toldOf U_told r28 (fun r36 => ((r36 = 0 → s_U_stepClause_48 F_sizes F_literals p1 C7 post x2 x3 x4 U_conflict U_changed U_told) ∧ (¬ r36 = 0 → s_U_stepClause_48 F_sizes F_literals p1 C7 post (x2 + 1) r28 x4 U_conflict U_changed U_told)))))))
def wp_U_stepClause (F_sizes : (Nat → Int32)) (F_literals : (Nat → Int32)) (U_conflict : Int32) (U_changed : Int32) (U_told : (Nat → Int32)) (p1 : Int32) (post : Int32 → Int32 → (Nat → Int32) → Prop) : Prop := ∀ (C7 : Int32 → Int32 → Int32 → Int32 → Int32 → (Nat → Int32) → Prop), (∀ (x2 : Int32) (x3 : Int32) (x4 : Int32) (U_conflict : Int32) (U_changed : Int32) (U_told : (Nat → Int32)), s_U_stepClause_7 F_sizes F_literals p1 C7 post x2 x3 x4 U_conflict U_changed U_told → C7 x2 x3 x4 U_conflict U_changed U_told) → C7 0 (-1) 0 U_conflict U_changed U_told
def s_U_stepEquality_24 (p1 : Int32) (p2 : Int32) (post : Int32 → Int32 → (Nat → Int32) → Prop) (x4 : Int32) (U_conflict : Int32) (U_changed : Int32) (U_told : (Nat → Int32)) : Prop := ((x4 = 2 → post U_conflict U_changed U_told) ∧ (¬ x4 = 2 → wp_U_tell U_conflict U_changed U_told p1 x4 (fun U_conflict_34 U_changed_34 U_told_34 => post U_conflict_34 U_changed_34 U_told_34)))
def wp_U_stepEquality (U_conflict : Int32) (U_changed : Int32) (U_told : (Nat → Int32)) (p1 : Int32) (p2 : Int32) (post : Int32 → Int32 → (Nat → Int32) → Prop) : Prop := wp_U_toldOf U_told p1 (fun r2 => wp_U_toldOf U_told p2 (fun r8 => ((r2 = 2 → s_U_stepEquality_24 p1 p2 post r8 U_conflict U_changed U_told) ∧ (¬ r2 = 2 → wp_U_tell U_conflict U_changed U_told p2 r2 (fun U_conflict_21 U_changed_21 U_told_21 => s_U_stepEquality_24 p1 p2 post r8 U_conflict_21 U_changed_21 U_told_21)))))
def s_U_comeToConflict_211 (G_size : Int32) (G_kinds : (Nat → Int32)) (G_lefts : (Nat → Int32)) (G_rights : (Nat → Int32)) (F_kinds : (Nat → Int32)) (F_sizes : (Nat → Int32)) (F_literals : (Nat → Int32)) (F_leftOut : (Nat → Int32)) (p1 : Int32) (C7 : Int32 → Int32 → Int32 → (Nat → Int32) → Prop) (C34 : Int32 → Int32 → Int32 → Int32 → (Nat → Int32) → Prop) (C135 : Int32 → Int32 → Int32 → Int32 → (Nat → Int32) → Prop) (post : Int32 → Int32 → Int32 → (Nat → Int32) → Prop) (x2 : Int32) (U_conflict : Int32) (U_changed : Int32) (U_told : (Nat → Int32)) : Prop := C7 (x2 + 1) U_conflict U_changed U_told
def s_U_comeToConflict_205 (G_size : Int32) (G_kinds : (Nat → Int32)) (G_lefts : (Nat → Int32)) (G_rights : (Nat → Int32)) (F_kinds : (Nat → Int32)) (F_sizes : (Nat → Int32)) (F_literals : (Nat → Int32)) (F_leftOut : (Nat → Int32)) (p1 : Int32) (C7 : Int32 → Int32 → Int32 → (Nat → Int32) → Prop) (C34 : Int32 → Int32 → Int32 → Int32 → (Nat → Int32) → Prop) (C135 : Int32 → Int32 → Int32 → Int32 → (Nat → Int32) → Prop) (post : Int32 → Int32 → Int32 → (Nat → Int32) → Prop) (x2 : Int32) (x3 : Int32) (U_conflict : Int32) (U_changed : Int32) (U_told : (Nat → Int32)) : Prop := C135 x2 (x3 + 1) U_conflict U_changed U_told
def s_U_comeToConflict_133 (G_size : Int32) (G_kinds : (Nat → Int32)) (G_lefts : (Nat → Int32)) (G_rights : (Nat → Int32)) (F_kinds : (Nat → Int32)) (F_sizes : (Nat → Int32)) (F_literals : (Nat → Int32)) (F_leftOut : (Nat → Int32)) (p1 : Int32) (C7 : Int32 → Int32 → Int32 → (Nat → Int32) → Prop) (C34 : Int32 → Int32 → Int32 → Int32 → (Nat → Int32) → Prop) (C135 : Int32 → Int32 → Int32 → Int32 → (Nat → Int32) → Prop) (post : Int32 → Int32 → Int32 → (Nat → Int32) → Prop) (x2 : Int32) (U_conflict : Int32) (U_changed : Int32) (U_told : (Nat → Int32)) : Prop := C135 x2 0 U_conflict U_changed U_told
def s_U_comeToConflict_127 (G_size : Int32) (G_kinds : (Nat → Int32)) (G_lefts : (Nat → Int32)) (G_rights : (Nat → Int32)) (F_kinds : (Nat → Int32)) (F_sizes : (Nat → Int32)) (F_literals : (Nat → Int32)) (F_leftOut : (Nat → Int32)) (p1 : Int32) (C7 : Int32 → Int32 → Int32 → (Nat → Int32) → Prop) (C34 : Int32 → Int32 → Int32 → Int32 → (Nat → Int32) → Prop) (C135 : Int32 → Int32 → Int32 → Int32 → (Nat → Int32) → Prop) (post : Int32 → Int32 → Int32 → (Nat → Int32) → Prop) (x2 : Int32) (x3 : Int32) (U_conflict : Int32) (U_changed : Int32) (U_told : (Nat → Int32)) : Prop := C34 x2 (x3 + 1) U_conflict U_changed U_told
def s_U_comeToConflict_135 (G_size : Int32) (G_kinds : (Nat → Int32)) (G_lefts : (Nat → Int32)) (G_rights : (Nat → Int32)) (F_kinds : (Nat → Int32)) (F_sizes : (Nat → Int32)) (F_literals : (Nat → Int32)) (F_leftOut : (Nat → Int32)) (p1 : Int32) (C7 : Int32 → Int32 → Int32 → (Nat → Int32) → Prop) (C34 : Int32 → Int32 → Int32 → Int32 → (Nat → Int32) → Prop) (C135 : Int32 → Int32 → Int32 → Int32 → (Nat → Int32) → Prop) (post : Int32 → Int32 → Int32 → (Nat → Int32) → Prop) (x2 : Int32) (x3 : Int32) (U_conflict : Int32) (U_changed : Int32) (U_told : (Nat → Int32)) : Prop := ((p1 ≤ x3 → s_U_comeToConflict_211 G_size G_kinds G_lefts G_rights F_kinds F_sizes F_literals F_leftOut p1 C7 C34 C135 post x2 U_conflict U_changed U_told) ∧ (¬ p1 ≤ x3 → ((U_conflict = 0 → (vp_in x3 24 ∧ (((F_leftOut x3.toNatClampNeg) = 0 → (vp_in x3 24 ∧ (((F_kinds x3.toNatClampNeg) = 1 → wp_F_literalOf F_literals x3 0 (fun r182 => wp_F_literalOf F_literals x3 1 (fun r191 => wp_U_stepEquality U_conflict U_changed U_told r182 r191 (fun U_conflict_194 U_changed_194 U_told_194 => s_U_comeToConflict_205 G_size G_kinds G_lefts G_rights F_kinds F_sizes F_literals F_leftOut p1 C7 C34 C135 post x2 x3 U_conflict_194 U_changed_194 U_told_194)))) ∧ (¬ (F_kinds x3.toNatClampNeg) = 1 → wp_U_stepClause F_sizes F_literals U_conflict U_changed U_told x3 (fun U_conflict_202 U_changed_202 U_told_202 => s_U_comeToConflict_205 G_size G_kinds G_lefts G_rights F_kinds F_sizes F_literals F_leftOut p1 C7 C34 C135 post x2 x3 U_conflict_202 U_changed_202 U_told_202))))) ∧ (¬ (F_leftOut x3.toNatClampNeg) = 0 → s_U_comeToConflict_205 G_size G_kinds G_lefts G_rights F_kinds F_sizes F_literals F_leftOut p1 C7 C34 C135 post x2 x3 U_conflict U_changed U_told)))) ∧ (¬ U_conflict = 0 → s_U_comeToConflict_211 G_size G_kinds G_lefts G_rights F_kinds F_sizes F_literals F_leftOut p1 C7 C34 C135 post x2 U_conflict U_changed U_told))))
def s_U_comeToConflict_34 (G_size : Int32) (G_kinds : (Nat → Int32)) (G_lefts : (Nat → Int32)) (G_rights : (Nat → Int32)) (F_kinds : (Nat → Int32)) (F_sizes : (Nat → Int32)) (F_literals : (Nat → Int32)) (F_leftOut : (Nat → Int32)) (p1 : Int32) (C7 : Int32 → Int32 → Int32 → (Nat → Int32) → Prop) (C34 : Int32 → Int32 → Int32 → Int32 → (Nat → Int32) → Prop) (C135 : Int32 → Int32 → Int32 → Int32 → (Nat → Int32) → Prop) (post : Int32 → Int32 → Int32 → (Nat → Int32) → Prop) (x2 : Int32) (x3 : Int32) (U_conflict : Int32) (U_changed : Int32) (U_told : (Nat → Int32)) : Prop := ((G_size ≤ x3 → s_U_comeToConflict_133 G_size G_kinds G_lefts G_rights F_kinds F_sizes F_literals F_leftOut p1 C7 C34 C135 post x2 U_conflict U_changed U_told) ∧ (¬ G_size ≤ x3 → ((U_conflict = 0 → (vp_in x3 40 ∧ (((G_kinds x3.toNatClampNeg) = 1 → (vp_in x3 40 ∧ (vp_in x3 40 ∧ wp_U_stepAnd U_conflict U_changed U_told x3 (G_lefts x3.toNatClampNeg) (G_rights x3.toNatClampNeg) (fun U_conflict_85 U_changed_85 U_told_85 => s_U_comeToConflict_127 G_size G_kinds G_lefts G_rights F_kinds F_sizes F_literals F_leftOut p1 C7 C34 C135 post x2 x3 U_conflict_85 U_changed_85 U_told_85)))) ∧ (¬ (G_kinds x3.toNatClampNeg) = 1 → (vp_in x3 40 ∧ (((G_kinds x3.toNatClampNeg) = 2 → (vp_in x3 40 ∧ (vp_in x3 40 ∧ wp_U_stepEither U_conflict U_changed U_told x3 (G_lefts x3.toNatClampNeg) (G_rights x3.toNatClampNeg) (fun U_conflict_124 U_changed_124 U_told_124 => s_U_comeToConflict_127 G_size G_kinds G_lefts G_rights F_kinds F_sizes F_literals F_leftOut p1 C7 C34 C135 post x2 x3 U_conflict_124 U_changed_124 U_told_124)))) ∧ (¬ (G_kinds x3.toNatClampNeg) = 2 → s_U_comeToConflict_127 G_size G_kinds G_lefts G_rights F_kinds F_sizes F_literals F_leftOut p1 C7 C34 C135 post x2 x3 U_conflict U_changed U_told))))))) ∧ (¬ U_conflict = 0 → s_U_comeToConflict_133 G_size G_kinds G_lefts G_rights F_kinds F_sizes F_literals F_leftOut p1 C7 C34 C135 post x2 U_conflict U_changed U_told))))
def s_U_comeToConflict_7 (G_size : Int32) (G_kinds : (Nat → Int32)) (G_lefts : (Nat → Int32)) (G_rights : (Nat → Int32)) (F_kinds : (Nat → Int32)) (F_sizes : (Nat → Int32)) (F_literals : (Nat → Int32)) (F_leftOut : (Nat → Int32)) (p1 : Int32) (C7 : Int32 → Int32 → Int32 → (Nat → Int32) → Prop) (C34 : Int32 → Int32 → Int32 → Int32 → (Nat → Int32) → Prop) (C135 : Int32 → Int32 → Int32 → Int32 → (Nat → Int32) → Prop) (post : Int32 → Int32 → Int32 → (Nat → Int32) → Prop) (x2 : Int32) (U_conflict : Int32) (U_changed : Int32) (U_told : (Nat → Int32)) : Prop := ((40 < x2 → (isB U_conflict ∧ post U_conflict U_conflict U_changed U_told)) ∧ (¬ 40 < x2 → ((U_changed = 0 → (isB U_conflict ∧ post U_conflict U_conflict U_changed U_told)) ∧ (¬ U_changed = 0 → ((U_conflict = 0 → C34 x2 1 U_conflict 0 U_told) ∧ (¬ U_conflict = 0 → (isB U_conflict ∧ post U_conflict U_conflict U_changed U_told)))))))
def wp_U_comeToConflict (G_size : Int32) (G_kinds : (Nat → Int32)) (G_lefts : (Nat → Int32)) (G_rights : (Nat → Int32)) (F_kinds : (Nat → Int32)) (F_sizes : (Nat → Int32)) (F_literals : (Nat → Int32)) (F_leftOut : (Nat → Int32)) (U_conflict : Int32) (U_changed : Int32) (U_told : (Nat → Int32)) (p1 : Int32) (post : Int32 → Int32 → Int32 → (Nat → Int32) → Prop) : Prop := ∀ (C7 : Int32 → Int32 → Int32 → (Nat → Int32) → Prop) (C34 : Int32 → Int32 → Int32 → Int32 → (Nat → Int32) → Prop) (C135 : Int32 → Int32 → Int32 → Int32 → (Nat → Int32) → Prop), (∀ (x2 : Int32) (U_conflict : Int32) (U_changed : Int32) (U_told : (Nat → Int32)), s_U_comeToConflict_7 G_size G_kinds G_lefts G_rights F_kinds F_sizes F_literals F_leftOut p1 C7 C34 C135 post x2 U_conflict U_changed U_told → C7 x2 U_conflict U_changed U_told) → (∀ (x2 : Int32) (x3 : Int32) (U_conflict : Int32) (U_changed : Int32) (U_told : (Nat → Int32)), s_U_comeToConflict_34 G_size G_kinds G_lefts G_rights F_kinds F_sizes F_literals F_leftOut p1 C7 C34 C135 post x2 x3 U_conflict U_changed U_told → C34 x2 x3 U_conflict U_changed U_told) → (∀ (x2 : Int32) (x3 : Int32) (U_conflict : Int32) (U_changed : Int32) (U_told : (Nat → Int32)), s_U_comeToConflict_135 G_size G_kinds G_lefts G_rights F_kinds F_sizes F_literals F_leftOut p1 C7 C34 C135 post x2 x3 U_conflict U_changed U_told → C135 x2 x3 U_conflict U_changed U_told) → C7 0 U_conflict 1 U_told
def wp_U_literalFollows (G_size : Int32) (G_kinds : (Nat → Int32)) (G_lefts : (Nat → Int32)) (G_rights : (Nat → Int32)) (F_size : Int32) (F_kinds : (Nat → Int32)) (F_sizes : (Nat → Int32)) (F_literals : (Nat → Int32)) (F_leftOut : (Nat → Int32)) (U_conflict : Int32) (U_changed : Int32) (U_told : (Nat → Int32)) (p1 : Int32) (post : Int32 → Int32 → Int32 → (Nat → Int32) → Prop) : Prop := wp_U_begin U_conflict U_told (fun U_conflict_1 U_told_1 => wp_U_tell U_conflict_1 U_changed U_told_1 p1 0 (fun U_conflict_7 U_changed_7 U_told_7 => wp_U_comeToConflict G_size G_kinds G_lefts G_rights F_kinds F_sizes F_literals F_leftOut U_conflict_7 U_changed_7 U_told_7 F_size (fun r18 U_conflict_18 U_changed_18 U_told_18 => (isB r18 ∧ post r18 U_conflict_18 U_changed_18 U_told_18))))
def wp_U_bothConflict (G_size : Int32) (G_kinds : (Nat → Int32)) (G_lefts : (Nat → Int32)) (G_rights : (Nat → Int32)) (F_kinds : (Nat → Int32)) (F_sizes : (Nat → Int32)) (F_literals : (Nat → Int32)) (F_leftOut : (Nat → Int32)) (U_conflict : Int32) (U_changed : Int32) (U_told : (Nat → Int32)) (p1 : Int32) (p2 : Int32) (p3 : Int32) (post : Int32 → Int32 → Int32 → (Nat → Int32) → Prop) : Prop := wp_U_begin U_conflict U_told (fun U_conflict_1 U_told_1 => wp_U_tell U_conflict_1 U_changed U_told_1 p1 1 (fun U_conflict_7 U_changed_7 U_told_7 => wp_U_tell U_conflict_7 U_changed_7 U_told_7 p2 1 (fun U_conflict_13 U_changed_13 U_told_13 => wp_U_comeToConflict G_size G_kinds G_lefts G_rights F_kinds F_sizes F_literals F_leftOut U_conflict_13 U_changed_13 U_told_13 p3 (fun r18 U_conflict_18 U_changed_18 U_told_18 => (isB r18 ∧ post r18 U_conflict_18 U_changed_18 U_told_18)))))
def s_U_lineFollows_69 (G_size : Int32) (G_kinds : (Nat → Int32)) (G_lefts : (Nat → Int32)) (G_rights : (Nat → Int32)) (F_kinds : (Nat → Int32)) (F_sizes : (Nat → Int32)) (F_literals : (Nat → Int32)) (F_leftOut : (Nat → Int32)) (p1 : Int32) (C69 : Int32 → Int32 → Int32 → (Nat → Int32) → Prop) (post : Int32 → Int32 → Int32 → (Nat → Int32) → Prop) (x2 : Int32) (U_conflict : Int32) (U_changed : Int32) (U_told : (Nat → Int32)) : Prop := (vp_in p1 24 ∧ (((F_sizes p1.toNatClampNeg) ≤ x2 → wp_U_comeToConflict G_size G_kinds G_lefts G_rights F_kinds F_sizes F_literals F_leftOut U_conflict U_changed U_told p1 (fun r104 U_conflict_104 U_changed_104 U_told_104 => (isB r104 ∧ post r104 U_conflict_104 U_changed_104 U_told_104))) ∧ (¬ (F_sizes p1.toNatClampNeg) ≤ x2 → wp_F_literalOf F_literals p1 x2 (fun r89 => wp_U_tell U_conflict U_changed U_told r89 0 (fun U_conflict_93 U_changed_93 U_told_93 => C69 (x2 + 1) U_conflict_93 U_changed_93 U_told_93)))))
def wp_U_lineFollows (G_size : Int32) (G_kinds : (Nat → Int32)) (G_lefts : (Nat → Int32)) (G_rights : (Nat → Int32)) (F_kinds : (Nat → Int32)) (F_sizes : (Nat → Int32)) (F_literals : (Nat → Int32)) (F_leftOut : (Nat → Int32)) (U_conflict : Int32) (U_changed : Int32) (U_told : (Nat → Int32)) (p1 : Int32) (post : Int32 → Int32 → Int32 → (Nat → Int32) → Prop) : Prop := ∀ (C69 : Int32 → Int32 → Int32 → (Nat → Int32) → Prop), (∀ (x2 : Int32) (U_conflict : Int32) (U_changed : Int32) (U_told : (Nat → Int32)), s_U_lineFollows_69 G_size G_kinds G_lefts G_rights F_kinds F_sizes F_literals F_leftOut p1 C69 post x2 U_conflict U_changed U_told → C69 x2 U_conflict U_changed U_told) → (vp_in p1 24 ∧ (((F_kinds p1.toNatClampNeg) = 1 → wp_F_literalOf F_literals p1 0 (fun r19 => wp_F_literalOf F_literals p1 1 (fun r29 => wp_U_bothConflict G_size G_kinds G_lefts G_rights F_kinds F_sizes F_literals F_leftOut U_conflict U_changed U_told r19 (r29 ^^^ 1) p1 (fun r39 U_conflict_39 U_changed_39 U_told_39 => ((r39 = 0 → post 0 U_conflict_39 U_changed_39 U_told_39) ∧ (¬ r39 = 0 → wp_U_bothConflict G_size G_kinds G_lefts G_rights F_kinds F_sizes F_literals F_leftOut U_conflict_39 U_changed_39 U_told_39 (r19 ^^^ 1) r29 p1 (fun r51 U_conflict_51 U_changed_51 U_told_51 => ((r51 = 0 → post 0 U_conflict_51 U_changed_51 U_told_51) ∧ (¬ r51 = 0 → post 1 U_conflict_51 U_changed_51 U_told_51))))))))) ∧ (¬ (F_kinds p1.toNatClampNeg) = 1 → wp_U_begin U_conflict U_told (fun U_conflict_64 U_told_64 => C69 0 U_conflict_64 U_changed U_told_64))))
def s_P_firstBad_40 (G_size : Int32) (G_kinds : (Nat → Int32)) (G_lefts : (Nat → Int32)) (G_rights : (Nat → Int32)) (F_size : Int32) (F_kinds : (Nat → Int32)) (F_sizes : (Nat → Int32)) (F_literals : (Nat → Int32)) (F_leftOut : (Nat → Int32)) (p1 : Int32) (p2 : Int32) (C2 : Int32 → Int32 → Int32 → (Nat → Int32) → Prop) (post : Int32 → Int32 → Int32 → (Nat → Int32) → Prop) (x3 : Int32) (U_conflict : Int32) (U_changed : Int32) (U_told : (Nat → Int32)) : Prop := C2 (x3 + 1) U_conflict U_changed U_told
def s_P_firstBad_2 (G_size : Int32) (G_kinds : (Nat → Int32)) (G_lefts : (Nat → Int32)) (G_rights : (Nat → Int32)) (F_size : Int32) (F_kinds : (Nat → Int32)) (F_sizes : (Nat → Int32)) (F_literals : (Nat → Int32)) (F_leftOut : (Nat → Int32)) (p1 : Int32) (p2 : Int32) (C2 : Int32 → Int32 → Int32 → (Nat → Int32) → Prop) (post : Int32 → Int32 → Int32 → (Nat → Int32) → Prop) (x3 : Int32) (U_conflict : Int32) (U_changed : Int32) (U_told : (Nat → Int32)) : Prop := ((F_size ≤ x3 → wp_U_literalFollows G_size G_kinds G_lefts G_rights F_size F_kinds F_sizes F_literals F_leftOut U_conflict U_changed U_told p2 (fun r51 U_conflict_51 U_changed_51 U_told_51 => ((r51 = 0 → post (1 + F_size) U_conflict_51 U_changed_51 U_told_51) ∧ (¬ r51 = 0 → post 0 U_conflict_51 U_changed_51 U_told_51)))) ∧ (¬ F_size ≤ x3 → (vp_in x3 24 ∧ (((F_leftOut x3.toNatClampNeg) = 0 → wp_U_lineFollows G_size G_kinds G_lefts G_rights F_kinds F_sizes F_literals F_leftOut U_conflict U_changed U_told x3 (fun r30 U_conflict_30 U_changed_30 U_told_30 => ((r30 = 0 → post (1 + x3) U_conflict_30 U_changed_30 U_told_30) ∧ (¬ r30 = 0 → s_P_firstBad_40 G_size G_kinds G_lefts G_rights F_size F_kinds F_sizes F_literals F_leftOut p1 p2 C2 post x3 U_conflict_30 U_changed_30 U_told_30)))) ∧ (¬ (F_leftOut x3.toNatClampNeg) = 0 → s_P_firstBad_40 G_size G_kinds G_lefts G_rights F_size F_kinds F_sizes F_literals F_leftOut p1 p2 C2 post x3 U_conflict U_changed U_told)))))
def wp_P_firstBad (G_size : Int32) (G_kinds : (Nat → Int32)) (G_lefts : (Nat → Int32)) (G_rights : (Nat → Int32)) (F_size : Int32) (F_kinds : (Nat → Int32)) (F_sizes : (Nat → Int32)) (F_literals : (Nat → Int32)) (F_leftOut : (Nat → Int32)) (U_conflict : Int32) (U_changed : Int32) (U_told : (Nat → Int32)) (p1 : Int32) (p2 : Int32) (post : Int32 → Int32 → Int32 → (Nat → Int32) → Prop) : Prop := ∀ (C2 : Int32 → Int32 → Int32 → (Nat → Int32) → Prop), (∀ (x3 : Int32) (U_conflict : Int32) (U_changed : Int32) (U_told : (Nat → Int32)), s_P_firstBad_2 G_size G_kinds G_lefts G_rights F_size F_kinds F_sizes F_literals F_leftOut p1 p2 C2 post x3 U_conflict U_changed U_told → C2 x3 U_conflict U_changed U_told) → C2 p1 U_conflict U_changed U_told
def wp_P_check (G_size : Int32) (G_kinds : (Nat → Int32)) (G_lefts : (Nat → Int32)) (G_rights : (Nat → Int32)) (F_size : Int32) (F_kinds : (Nat → Int32)) (F_sizes : (Nat → Int32)) (F_literals : (Nat → Int32)) (F_leftOut : (Nat → Int32)) (U_conflict : Int32) (U_changed : Int32) (U_told : (Nat → Int32)) (p1 : Int32) (post : Int32 → Int32 → Int32 → (Nat → Int32) → Prop) (postx : Nat → Int32 → Int32 → (Nat → Int32) → Prop) : Prop := wp_G_hasLiteral G_size p1 (fun r5 => ((r5 = 0 → postx 0 U_conflict U_changed U_told) ∧ (¬ r5 = 0 → wp_P_firstBad G_size G_kinds G_lefts G_rights F_size F_kinds F_sizes F_literals F_leftOut U_conflict U_changed U_told 0 p1 (fun r24 U_conflict_24 U_changed_24 U_told_24 => post r24 U_conflict_24 U_changed_24 U_told_24))))
def wp_P_good (G_size : Int32) (G_kinds : (Nat → Int32)) (G_lefts : (Nat → Int32)) (G_rights : (Nat → Int32)) (F_size : Int32) (F_kinds : (Nat → Int32)) (F_sizes : (Nat → Int32)) (F_literals : (Nat → Int32)) (F_leftOut : (Nat → Int32)) (U_conflict : Int32) (U_changed : Int32) (U_told : (Nat → Int32)) (p1 : Int32) (post : Int32 → Int32 → Int32 → (Nat → Int32) → Prop) (postx : Nat → Int32 → Int32 → (Nat → Int32) → Prop) : Prop := wp_F_has F_size p1 (fun r5 => ((r5 = 0 → postx 0 U_conflict U_changed U_told) ∧ (¬ r5 = 0 → wp_U_lineFollows G_size G_kinds G_lefts G_rights F_kinds F_sizes F_literals F_leftOut U_conflict U_changed U_told p1 (fun r26 U_conflict_26 U_changed_26 U_told_26 => (isB r26 ∧ post r26 U_conflict_26 U_changed_26 U_told_26)))))
def wp_P_lineAt (F_size : Int32) (F_kinds : (Nat → Int32)) (F_sizes : (Nat → Int32)) (F_literals : (Nat → Int32)) (p1 : Int32) (p2 : Int32) (post : Int32 → Prop) (postx : Nat → Prop) : Prop := wp_F_has F_size p1 (fun r5 => ((r5 = 0 → postx 0) ∧ (¬ r5 = 0 → ((p2 < 0 → postx 0) ∧ (¬ p2 < 0 → (vp_in p1 24 ∧ ((p2 < (2 + (F_sizes p1.toNatClampNeg)) → ((p2 = 0 → (vp_in p1 24 ∧ post (F_kinds p1.toNatClampNeg))) ∧ (¬ p2 = 0 → ((p2 = 1 → (vp_in p1 24 ∧ post (F_sizes p1.toNatClampNeg))) ∧ (¬ p2 = 1 → wp_F_literalOf F_literals p1 (p2 - 2) (fun r79 => post r79)))))) ∧ (¬ p2 < (2 + (F_sizes p1.toNatClampNeg)) → postx 0))))))))
def wp_P_isNoneOrLiteral (G_size : Int32) (p1 : Int32) (post : Int32 → Prop) : Prop := ((p1 = (-1) → post 1) ∧ (¬ p1 = (-1) → wp_G_hasLiteral G_size p1 (fun r10 => ((r10 = 0 → post 0) ∧ (¬ r10 = 0 → post 1)))))
def wp_P_assumeUnlessNone (U_conflict : Int32) (U_changed : Int32) (U_told : (Nat → Int32)) (p1 : Int32) (post : Int32 → Int32 → (Nat → Int32) → Prop) : Prop := ((p1 = (-1) → post U_conflict U_changed U_told) ∧ (¬ p1 = (-1) → wp_U_tell U_conflict U_changed U_told p1 1 (fun U_conflict_11 U_changed_11 U_told_11 => post U_conflict_11 U_changed_11 U_told_11)))
def wp_P_implied (G_size : Int32) (G_kinds : (Nat → Int32)) (G_lefts : (Nat → Int32)) (G_rights : (Nat → Int32)) (F_size : Int32) (F_kinds : (Nat → Int32)) (F_sizes : (Nat → Int32)) (F_literals : (Nat → Int32)) (F_leftOut : (Nat → Int32)) (U_conflict : Int32) (U_changed : Int32) (U_told : (Nat → Int32)) (p1 : Int32) (p2 : Int32) (p3 : Int32) (p4 : Int32) (post : Int32 → Int32 → Int32 → (Nat → Int32) → Prop) (postx : Nat → Int32 → Int32 → (Nat → Int32) → Prop) : Prop := wp_P_isNoneOrLiteral G_size p1 (fun r2 => ((r2 = 0 → postx 0 U_conflict U_changed U_told) ∧ (¬ r2 = 0 → wp_P_isNoneOrLiteral G_size p2 (fun r10 => ((r10 = 0 → postx 0 U_conflict U_changed U_told) ∧ (¬ r10 = 0 → wp_P_isNoneOrLiteral G_size p3 (fun r18 => ((r18 = 0 → postx 0 U_conflict U_changed U_told) ∧ (¬ r18 = 0 → wp_G_has G_size p4 (fun r30 => ((r30 = 0 → postx 0 U_conflict U_changed U_told) ∧ (¬ r30 = 0 → wp_U_begin U_conflict U_told (fun U_conflict_50 U_told_50 => wp_P_assumeUnlessNone U_conflict_50 U_changed U_told_50 p1 (fun U_conflict_55 U_changed_55 U_told_55 => wp_P_assumeUnlessNone U_conflict_55 U_changed_55 U_told_55 p2 (fun U_conflict_60 U_changed_60 U_told_60 => wp_P_assumeUnlessNone U_conflict_60 U_changed_60 U_told_60 p3 (fun U_conflict_65 U_changed_65 U_told_65 => wp_U_comeToConflict G_size G_kinds G_lefts G_rights F_kinds F_sizes F_literals F_leftOut U_conflict_65 U_changed_65 U_told_65 F_size (fun r79 U_conflict_79 U_changed_79 U_told_79 => ((r79 = 0 → (vp_in p4 40 ∧ post (U_told_79 p4.toNatClampNeg) U_conflict_79 U_changed_79 U_told_79)) ∧ (¬ r79 = 0 → post 3 U_conflict_79 U_changed_79 U_told_79)))))))))))))))))))
def s_F_moveUp_69 (C4 : Int32 → Int32 → Int32 → (Nat → Int32) → (Nat → Int32) → (Nat → Int32) → (Nat → Int32) → Prop) (post : Int32 → (Nat → Int32) → (Nat → Int32) → (Nat → Int32) → (Nat → Int32) → Prop) (x1 : Int32) (x2 : Int32) (F_size : Int32) (F_kinds : (Nat → Int32)) (F_sizes : (Nat → Int32)) (F_literals : (Nat → Int32)) (F_leftOut : (Nat → Int32)) : Prop := (vp_in x2 24 ∧ C4 x1 (x2 + 1) F_size F_kinds F_sizes F_literals (upd F_leftOut x2.toNatClampNeg (vp_nar .boolean 0)))
def s_F_moveUp_4 (C4 : Int32 → Int32 → Int32 → (Nat → Int32) → (Nat → Int32) → (Nat → Int32) → (Nat → Int32) → Prop) (post : Int32 → (Nat → Int32) → (Nat → Int32) → (Nat → Int32) → (Nat → Int32) → Prop) (x1 : Int32) (x2 : Int32) (F_size : Int32) (F_kinds : (Nat → Int32)) (F_sizes : (Nat → Int32)) (F_literals : (Nat → Int32)) (F_leftOut : (Nat → Int32)) : Prop := ((F_size ≤ x2 → post x1 F_kinds F_sizes F_literals F_leftOut) ∧ (¬ F_size ≤ x2 → (vp_in x2 24 ∧ (((F_leftOut x2.toNatClampNeg) = 0 → (vp_in x2 24 ∧ (vp_in x1 24 ∧ (vp_in x2 24 ∧ (vp_in x1 24 ∧ (cpOk (x2 * 6) (x1 * 6) 6 144 144 ∧ s_F_moveUp_69 C4 post (x1 + 1) x2 F_size (upd F_kinds x1.toNatClampNeg (F_kinds x2.toNatClampNeg)) (upd F_sizes x1.toNatClampNeg (F_sizes x2.toNatClampNeg)) (va_cpy F_literals F_literals (x2 * 6).toNatClampNeg (x1 * 6).toNatClampNeg (6 : Int32).toNatClampNeg) F_leftOut)))))) ∧ (¬ (F_leftOut x2.toNatClampNeg) = 0 → s_F_moveUp_69 C4 post x1 x2 F_size F_kinds F_sizes F_literals F_leftOut)))))
def wp_F_moveUp (F_size : Int32) (F_kinds : (Nat → Int32)) (F_sizes : (Nat → Int32)) (F_literals : (Nat → Int32)) (F_leftOut : (Nat → Int32)) (post : Int32 → (Nat → Int32) → (Nat → Int32) → (Nat → Int32) → (Nat → Int32) → Prop) : Prop := ∀ (C4 : Int32 → Int32 → Int32 → (Nat → Int32) → (Nat → Int32) → (Nat → Int32) → (Nat → Int32) → Prop), (∀ (x1 : Int32) (x2 : Int32) (F_size : Int32) (F_kinds : (Nat → Int32)) (F_sizes : (Nat → Int32)) (F_literals : (Nat → Int32)) (F_leftOut : (Nat → Int32)), s_F_moveUp_4 C4 post x1 x2 F_size F_kinds F_sizes F_literals F_leftOut → C4 x1 x2 F_size F_kinds F_sizes F_literals F_leftOut) → C4 0 0 F_size F_kinds F_sizes F_literals F_leftOut
def s_P_shorten_80 (G_size : Int32) (G_kinds : (Nat → Int32)) (G_lefts : (Nat → Int32)) (G_rights : (Nat → Int32)) (p1 : Int32) (C42 : Int32 → Int32 → (Nat → Int32) → (Nat → Int32) → (Nat → Int32) → (Nat → Int32) → Int32 → Int32 → (Nat → Int32) → Prop) (post : Int32 → Int32 → (Nat → Int32) → (Nat → Int32) → (Nat → Int32) → (Nat → Int32) → Int32 → Int32 → (Nat → Int32) → Prop) (postx : Nat → Int32 → (Nat → Int32) → (Nat → Int32) → (Nat → Int32) → (Nat → Int32) → Int32 → Int32 → (Nat → Int32) → Prop) (s0 : Int32) (s1 : Int32) (x2 : Int32) (F_size : Int32) (F_kinds : (Nat → Int32)) (F_sizes : (Nat → Int32)) (F_literals : (Nat → Int32)) (F_leftOut : (Nat → Int32)) (U_conflict : Int32) (U_changed : Int32) (U_told : (Nat → Int32)) : Prop := (vp_in s1 24 ∧ C42 (x2 + (-1)) F_size F_kinds F_sizes F_literals (upd F_leftOut s1.toNatClampNeg (vp_nar .boolean s0)) U_conflict U_changed U_told)
def s_P_shorten_42 (G_size : Int32) (G_kinds : (Nat → Int32)) (G_lefts : (Nat → Int32)) (G_rights : (Nat → Int32)) (p1 : Int32) (C42 : Int32 → Int32 → (Nat → Int32) → (Nat → Int32) → (Nat → Int32) → (Nat → Int32) → Int32 → Int32 → (Nat → Int32) → Prop) (post : Int32 → Int32 → (Nat → Int32) → (Nat → Int32) → (Nat → Int32) → (Nat → Int32) → Int32 → Int32 → (Nat → Int32) → Prop) (postx : Nat → Int32 → (Nat → Int32) → (Nat → Int32) → (Nat → Int32) → (Nat → Int32) → Int32 → Int32 → (Nat → Int32) → Prop) (x2 : Int32) (F_size : Int32) (F_kinds : (Nat → Int32)) (F_sizes : (Nat → Int32)) (F_literals : (Nat → Int32)) (F_leftOut : (Nat → Int32)) (U_conflict : Int32) (U_changed : Int32) (U_told : (Nat → Int32)) : Prop := ((x2 < 0 → wp_F_moveUp F_size F_kinds F_sizes F_literals F_leftOut (fun F_size_91 F_kinds_91 F_sizes_91 F_literals_91 F_leftOut_91 => post F_size_91 F_size_91 F_kinds_91 F_sizes_91 F_literals_91 F_leftOut_91 U_conflict U_changed U_told)) ∧ (¬ x2 < 0 → (vp_in x2 24 ∧ wp_P_firstBad G_size G_kinds G_lefts G_rights F_size F_kinds F_sizes F_literals (upd F_leftOut x2.toNatClampNeg (vp_nar .boolean 1)) U_conflict U_changed U_told (x2 + 1) p1 (fun r69 U_conflict_69 U_changed_69 U_told_69 => ((r69 = 0 → s_P_shorten_80 G_size G_kinds G_lefts G_rights p1 C42 post postx 1 x2 x2 F_size F_kinds F_sizes F_literals (upd F_leftOut x2.toNatClampNeg (vp_nar .boolean 1)) U_conflict_69 U_changed_69 U_told_69) ∧ (¬ r69 = 0 → s_P_shorten_80 G_size G_kinds G_lefts G_rights p1 C42 post postx 0 x2 x2 F_size F_kinds F_sizes F_literals (upd F_leftOut x2.toNatClampNeg (vp_nar .boolean 1)) U_conflict_69 U_changed_69 U_told_69))))))
def wp_P_shorten (G_size : Int32) (G_kinds : (Nat → Int32)) (G_lefts : (Nat → Int32)) (G_rights : (Nat → Int32)) (F_size : Int32) (F_kinds : (Nat → Int32)) (F_sizes : (Nat → Int32)) (F_literals : (Nat → Int32)) (F_leftOut : (Nat → Int32)) (U_conflict : Int32) (U_changed : Int32) (U_told : (Nat → Int32)) (p1 : Int32) (post : Int32 → Int32 → (Nat → Int32) → (Nat → Int32) → (Nat → Int32) → (Nat → Int32) → Int32 → Int32 → (Nat → Int32) → Prop) (postx : Nat → Int32 → (Nat → Int32) → (Nat → Int32) → (Nat → Int32) → (Nat → Int32) → Int32 → Int32 → (Nat → Int32) → Prop) : Prop := ∀ (C42 : Int32 → Int32 → (Nat → Int32) → (Nat → Int32) → (Nat → Int32) → (Nat → Int32) → Int32 → Int32 → (Nat → Int32) → Prop), (∀ (x2 : Int32) (F_size : Int32) (F_kinds : (Nat → Int32)) (F_sizes : (Nat → Int32)) (F_literals : (Nat → Int32)) (F_leftOut : (Nat → Int32)) (U_conflict : Int32) (U_changed : Int32) (U_told : (Nat → Int32)), s_P_shorten_42 G_size G_kinds G_lefts G_rights p1 C42 post postx x2 F_size F_kinds F_sizes F_literals F_leftOut U_conflict U_changed U_told → C42 x2 F_size F_kinds F_sizes F_literals F_leftOut U_conflict U_changed U_told) → wp_G_hasLiteral G_size p1 (fun r5 => ((r5 = 0 → postx 0 F_size F_kinds F_sizes F_literals F_leftOut U_conflict U_changed U_told) ∧ (¬ r5 = 0 → wp_P_firstBad G_size G_kinds G_lefts G_rights F_size F_kinds F_sizes F_literals F_leftOut U_conflict U_changed U_told 0 p1 (fun r24 U_conflict_24 U_changed_24 U_told_24 => ((r24 = 0 → C42 (F_size - 1) F_size F_kinds F_sizes F_literals F_leftOut U_conflict_24 U_changed_24 U_told_24) ∧ (¬ r24 = 0 → post (-1) F_size F_kinds F_sizes F_literals F_leftOut U_conflict_24 U_changed_24 U_told_24))))))
def s_G_truthOf_20 (G_truths : (Nat → Int32)) (p1 : Int32) (post : Int32 → Prop) (s0 : Int32) (s1 : Int32) : Prop := ((s1 = s0 → post 0) ∧ (¬ s1 = s0 → post 1))
def wp_G_truthOf (G_truths : (Nat → Int32)) (p1 : Int32) (post : Int32 → Prop) : Prop := (vp_in (p1 >>> ((1 : Int32) &&& 31)) 40 ∧ (((p1 &&& 1) = 1 → s_G_truthOf_20 G_truths p1 post 1 (G_truths (p1 >>> ((1 : Int32) &&& 31)).toNatClampNeg)) ∧ (¬ (p1 &&& 1) = 1 → s_G_truthOf_20 G_truths p1 post 0 (G_truths (p1 >>> ((1 : Int32) &&& 31)).toNatClampNeg))))
def s_G_isTrueWith_149 (G_kinds : (Nat → Int32)) (G_lefts : (Nat → Int32)) (G_rights : (Nat → Int32)) (p1 : Int32) (p2 : Int64) (C11 : Int32 → Int64 → Int32 → (Nat → Int32) → Prop) (post : Int32 → (Nat → Int32) → Prop) (x4 : Int32) (x5 : Int64) (x7 : Int32) (G_truths : (Nat → Int32)) : Prop := C11 x4 x5 (x7 + 1) G_truths
def s_G_isTrueWith_148 (G_kinds : (Nat → Int32)) (G_lefts : (Nat → Int32)) (G_rights : (Nat → Int32)) (p1 : Int32) (p2 : Int64) (C11 : Int32 → Int64 → Int32 → (Nat → Int32) → Prop) (post : Int32 → (Nat → Int32) → Prop) (s0 : Int32) (s1 : Int32) (x4 : Int32) (x5 : Int64) (x7 : Int32) (G_truths : (Nat → Int32)) : Prop := (vp_in s1 40 ∧ s_G_isTrueWith_149 G_kinds G_lefts G_rights p1 p2 C11 post x4 x5 x7 (upd G_truths s1.toNatClampNeg (vp_nar .boolean s0)))
def s_G_isTrueWith_108 (G_kinds : (Nat → Int32)) (G_lefts : (Nat → Int32)) (G_rights : (Nat → Int32)) (p1 : Int32) (p2 : Int64) (C11 : Int32 → Int64 → Int32 → (Nat → Int32) → Prop) (post : Int32 → (Nat → Int32) → Prop) (s0 : Int32) (s1 : Int32) (x4 : Int32) (x5 : Int64) (x7 : Int32) (G_truths : (Nat → Int32)) : Prop := (vp_in s1 40 ∧ s_G_isTrueWith_149 G_kinds G_lefts G_rights p1 p2 C11 post x4 x5 x7 (upd G_truths s1.toNatClampNeg (vp_nar .boolean s0)))
def s_G_isTrueWith_107 (G_kinds : (Nat → Int32)) (G_lefts : (Nat → Int32)) (G_rights : (Nat → Int32)) (p1 : Int32) (p2 : Int64) (C11 : Int32 → Int64 → Int32 → (Nat → Int32) → Prop) (post : Int32 → (Nat → Int32) → Prop) (s0 : Int32) (x4 : Int32) (x5 : Int64) (x7 : Int32) (G_truths : (Nat → Int32)) : Prop := s_G_isTrueWith_108 G_kinds G_lefts G_rights p1 p2 C11 post 0 s0 x4 x5 x7 G_truths
def s_G_isTrueWith_48 (G_kinds : (Nat → Int32)) (G_lefts : (Nat → Int32)) (G_rights : (Nat → Int32)) (p1 : Int32) (p2 : Int64) (C11 : Int32 → Int64 → Int32 → (Nat → Int32) → Prop) (post : Int32 → (Nat → Int32) → Prop) (s0 : Int32) (s1 : Int32) (x4 : Int32) (x5 : Int64) (x7 : Int32) (G_truths : (Nat → Int32)) : Prop := (vp_in s1 40 ∧ s_G_isTrueWith_149 G_kinds G_lefts G_rights p1 p2 C11 post x4 ((x5.toUInt64 >>> ((1 : Int32).toInt64.toUInt64 &&& Int64.toUInt64 63)).toInt64) x7 (upd G_truths s1.toNatClampNeg (vp_nar .boolean s0)))
def s_G_isTrueWith_11 (G_kinds : (Nat → Int32)) (G_lefts : (Nat → Int32)) (G_rights : (Nat → Int32)) (p1 : Int32) (p2 : Int64) (C11 : Int32 → Int64 → Int32 → (Nat → Int32) → Prop) (post : Int32 → (Nat → Int32) → Prop) (x4 : Int32) (x5 : Int64) (x7 : Int32) (G_truths : (Nat → Int32)) : Prop := ((x4 < x7 → wp_G_truthOf G_truths p1 (fun r157 => (isB r157 ∧ post r157 G_truths))) ∧ (¬ x4 < x7 → (vp_in x7 40 ∧ (((G_kinds x7.toNatClampNeg) = 0 → (((lg_cmp (x5 &&& 1) 0) = 0 → s_G_isTrueWith_48 G_kinds G_lefts G_rights p1 p2 C11 post 0 x7 x4 x5 x7 G_truths) ∧ (¬ (lg_cmp (x5 &&& 1) 0) = 0 → s_G_isTrueWith_48 G_kinds G_lefts G_rights p1 p2 C11 post 1 x7 x4 x5 x7 G_truths))) ∧ (¬ (G_kinds x7.toNatClampNeg) = 0 → (vp_in x7 40 ∧ (((G_kinds x7.toNatClampNeg) = 1 → (vp_in x7 40 ∧ wp_G_truthOf G_truths (G_lefts x7.toNatClampNeg) (fun r83 => ((r83 = 0 → s_G_isTrueWith_107 G_kinds G_lefts G_rights p1 p2 C11 post x7 x4 x5 x7 G_truths) ∧ (¬ r83 = 0 → (vp_in x7 40 ∧ wp_G_truthOf G_truths (G_rights x7.toNatClampNeg) (fun r97 => ((r97 = 0 → s_G_isTrueWith_107 G_kinds G_lefts G_rights p1 p2 C11 post x7 x4 x5 x7 G_truths) ∧ (¬ r97 = 0 → s_G_isTrueWith_108 G_kinds G_lefts G_rights p1 p2 C11 post 1 x7 x4 x5 x7 G_truths))))))))) ∧ (¬ (G_kinds x7.toNatClampNeg) = 1 → (vp_in x7 40 ∧ wp_G_truthOf G_truths (G_lefts x7.toNatClampNeg) (fun r126 => (vp_in x7 40 ∧ wp_G_truthOf G_truths (G_rights x7.toNatClampNeg) (fun r137 => ((r126 = r137 → s_G_isTrueWith_148 G_kinds G_lefts G_rights p1 p2 C11 post 0 x7 x4 x5 x7 G_truths) ∧ (¬ r126 = r137 → s_G_isTrueWith_148 G_kinds G_lefts G_rights p1 p2 C11 post 1 x7 x4 x5 x7 G_truths))))))))))))))
def wp_G_isTrueWith (G_kinds : (Nat → Int32)) (G_lefts : (Nat → Int32)) (G_rights : (Nat → Int32)) (G_truths : (Nat → Int32)) (p1 : Int32) (p2 : Int64) (post : Int32 → (Nat → Int32) → Prop) : Prop := ∀ (C11 : Int32 → Int64 → Int32 → (Nat → Int32) → Prop), (∀ (x4 : Int32) (x5 : Int64) (x7 : Int32) (G_truths : (Nat → Int32)), s_G_isTrueWith_11 G_kinds G_lefts G_rights p1 p2 C11 post x4 x5 x7 G_truths → C11 x4 x5 x7 G_truths) → C11 (p1 >>> ((1 : Int32) &&& 31)) p2 1 G_truths
def wp_P_holds (G_size : Int32) (G_kinds : (Nat → Int32)) (G_lefts : (Nat → Int32)) (G_rights : (Nat → Int32)) (G_truths : (Nat → Int32)) (p1 : Int32) (p2 : Int64) (post : Int32 → (Nat → Int32) → Prop) (postx : Nat → (Nat → Int32) → Prop) : Prop := wp_G_hasLiteral G_size p1 (fun r5 => ((r5 = 0 → postx 0 G_truths) ∧ (¬ r5 = 0 → wp_G_isTrueWith G_kinds G_lefts G_rights G_truths p1 p2 (fun r27 G_truths_27 => (isB r27 ∧ post r27 G_truths_27)))))
def wp_X_literalLength (p0 : Int32) (post : Int32 → Prop) : Prop := ((10 ≤ (p0 >>> ((1 : Int32) &&& 31)) → post 4) ∧ (¬ 10 ≤ (p0 >>> ((1 : Int32) &&& 31)) → post 3))
def s_X_lineLength_4 (F_sizes : (Nat → Int32)) (F_literals : (Nat → Int32)) (p1 : Int32) (C4 : Int32 → Int32 → Prop) (post : Int32 → Prop) (x2 : Int32) (x3 : Int32) : Prop := (vp_in p1 24 ∧ (((F_sizes p1.toNatClampNeg) ≤ x3 → post x2) ∧ (¬ (F_sizes p1.toNatClampNeg) ≤ x3 → wp_F_literalOf F_literals p1 x3 (fun r18 => wp_X_literalLength r18 (fun r21 => C4 (x2 + r21) (x3 + 1))))))
def wp_X_lineLength (F_sizes : (Nat → Int32)) (F_literals : (Nat → Int32)) (p1 : Int32) (post : Int32 → Prop) : Prop := ∀ (C4 : Int32 → Int32 → Prop), (∀ (x2 : Int32) (x3 : Int32), s_X_lineLength_4 F_sizes F_literals p1 C4 post x2 x3 → C4 x2 x3) → C4 2 0
def s_X_lengthOf_4 (F_size : Int32) (F_sizes : (Nat → Int32)) (F_literals : (Nat → Int32)) (C4 : Int32 → Int32 → Prop) (post : Int32 → Prop) (x1 : Int32) (x2 : Int32) : Prop := ((F_size ≤ x2 → post x1) ∧ (¬ F_size ≤ x2 → wp_X_lineLength F_sizes F_literals x2 (fun r15 => C4 (x1 + r15) (x2 + 1))))
def wp_X_lengthOf (F_size : Int32) (F_sizes : (Nat → Int32)) (F_literals : (Nat → Int32)) (post : Int32 → Prop) : Prop := ∀ (C4 : Int32 → Int32 → Prop), (∀ (x1 : Int32) (x2 : Int32), s_X_lengthOf_4 F_size F_sizes F_literals C4 post x1 x2 → C4 x1 x2) → C4 0 0
def wp_X_literalByte (p0 : Int32) (p1 : Int32) (post : Int32 → Prop) : Prop := ((p1 = 0 → post 32) ∧ (¬ p1 = 0 → ((p1 = 1 → (((p0 &&& 1) = 1 → post 45) ∧ (¬ (p0 &&& 1) = 1 → post 43))) ∧ (¬ p1 = 1 → wp_X_literalLength p0 (fun r35 => ((p1 = (r35 - 1) → post (48 + ((p0 >>> ((1 : Int32) &&& 31)) - (p0 >>> ((1 : Int32) &&& 31)) / 10 * 10))) ∧ (¬ p1 = (r35 - 1) → post (48 + ((p0 >>> ((1 : Int32) &&& 31)) / 10)))))))))
def s_X_lineByte_29 (F_kinds : (Nat → Int32)) (F_sizes : (Nat → Int32)) (F_literals : (Nat → Int32)) (p1 : Int32) (p2 : Int32) (C29 : Int32 → Int32 → Prop) (post : Int32 → Prop) (x3 : Int32) (x4 : Int32) : Prop := (vp_in p1 24 ∧ (((F_sizes p1.toNatClampNeg) ≤ x4 → post 10) ∧ (¬ (F_sizes p1.toNatClampNeg) ≤ x4 → wp_F_literalOf F_literals p1 x4 (fun r44 => wp_X_literalLength r44 (fun r51 => ((r51 ≤ x3 → C29 (x3 - r51) (x4 + 1)) ∧ (¬ r51 ≤ x3 → wp_X_literalByte r44 x3 (fun r65 => post r65))))))))
def wp_X_lineByte (F_kinds : (Nat → Int32)) (F_sizes : (Nat → Int32)) (F_literals : (Nat → Int32)) (p1 : Int32) (p2 : Int32) (post : Int32 → Prop) : Prop := ∀ (C29 : Int32 → Int32 → Prop), (∀ (x3 : Int32) (x4 : Int32), s_X_lineByte_29 F_kinds F_sizes F_literals p1 p2 C29 post x3 x4 → C29 x3 x4) → ((p2 = 0 → (vp_in p1 24 ∧ (((F_kinds p1.toNatClampNeg) = 1 → post 61) ∧ (¬ (F_kinds p1.toNatClampNeg) = 1 → post 99)))) ∧ (¬ p2 = 0 → C29 (p2 - 1) 0))
def s_X_byteOf_4 (F_size : Int32) (F_kinds : (Nat → Int32)) (F_sizes : (Nat → Int32)) (F_literals : (Nat → Int32)) (p1 : Int32) (C4 : Int32 → Int32 → Prop) (post : Int32 → Prop) (x2 : Int32) (x3 : Int32) : Prop := ((F_size ≤ x3 → post 10) ∧ (¬ F_size ≤ x3 → wp_X_lineLength F_sizes F_literals x3 (fun r14 => ((r14 ≤ x2 → C4 (x2 - r14) (x3 + 1)) ∧ (¬ r14 ≤ x2 → wp_X_lineByte F_kinds F_sizes F_literals x3 x2 (fun r28 => post r28))))))
def wp_X_byteOf (F_size : Int32) (F_kinds : (Nat → Int32)) (F_sizes : (Nat → Int32)) (F_literals : (Nat → Int32)) (p1 : Int32) (post : Int32 → Prop) : Prop := ∀ (C4 : Int32 → Int32 → Prop), (∀ (x2 : Int32) (x3 : Int32), s_X_byteOf_4 F_size F_kinds F_sizes F_literals p1 C4 post x2 x3 → C4 x2 x3) → C4 p1 0
def wp_P_text (F_size : Int32) (F_kinds : (Nat → Int32)) (F_sizes : (Nat → Int32)) (F_literals : (Nat → Int32)) (p1 : Int32) (post : Int32 → Prop) (postx : Nat → Prop) : Prop := ((p1 < 0 → postx 0) ∧ (¬ p1 < 0 → wp_X_lengthOf F_size F_sizes F_literals (fun r9 => ((p1 < r9 → wp_X_byteOf F_size F_kinds F_sizes F_literals p1 (fun r30 => post r30)) ∧ (¬ p1 < r9 → postx 0)))))
def wp_T_append (T_size : Int32) (T_bytes : (Nat → Int32)) (p1 : Int32) (post : Int32 → Int32 → (Nat → Int32) → Prop) : Prop := ((T_size < 1000 → (vp_in T_size 1000 ∧ post 1 (T_size + 1) (upd T_bytes T_size.toNatClampNeg (p1 &&& 255)))) ∧ (¬ T_size < 1000 → post 0 T_size T_bytes))
def wp_P_unit (T_size : Int32) (T_bytes : (Nat → Int32)) (p1 : Int32) (post : Int32 → Int32 → (Nat → Int32) → Prop) : Prop := wp_T_append T_size T_bytes p1 (fun r5 T_size_5 T_bytes_5 => (isB r5 ∧ post r5 T_size_5 T_bytes_5))
def wp_T_here (T_size : Int32) (T_place : Int32) (T_bytes : (Nat → Int32)) (post : Int32 → Prop) : Prop := ((T_size ≤ T_place → post (-1)) ∧ (¬ T_size ≤ T_place → (vp_in T_place 1000 ∧ post (T_bytes T_place.toNatClampNeg))))
def wp_T_isBlankHere (T_size : Int32) (T_place : Int32) (T_bytes : (Nat → Int32)) (post : Int32 → Prop) : Prop := wp_T_here T_size T_place T_bytes (fun r1 => ((r1 = 32 → post 1) ∧ (¬ r1 = 32 → ((r1 = 9 → post 1) ∧ (¬ r1 = 9 → ((r1 = 13 → post 1) ∧ (¬ r1 = 13 → post 0)))))))
def s_T_skipToLine_27 (T_size : Int32) (T_bytes : (Nat → Int32)) (C0 : Int32 → Prop) (post : Int32 → Prop) (T_place : Int32) : Prop := C0 (T_place + 1)
def s_T_skipToLine_0 (T_size : Int32) (T_bytes : (Nat → Int32)) (C0 : Int32 → Prop) (post : Int32 → Prop) (T_place : Int32) : Prop := ((T_size ≤ T_place → post T_place) ∧ (¬ T_size ≤ T_place → wp_T_isBlankHere T_size T_place T_bytes (fun r12 => ((r12 = 0 → wp_T_here T_size T_place T_bytes (fun r19 => ((r19 = 10 → s_T_skipToLine_27 T_size T_bytes C0 post T_place) ∧ (¬ r19 = 10 → post T_place)))) ∧ (¬ r12 = 0 → s_T_skipToLine_27 T_size T_bytes C0 post T_place)))))
def wp_T_skipToLine (T_size : Int32) (T_place : Int32) (T_bytes : (Nat → Int32)) (post : Int32 → Prop) : Prop := ∀ (C0 : Int32 → Prop), (∀ (T_place : Int32), s_T_skipToLine_0 T_size T_bytes C0 post T_place → C0 T_place) → C0 T_place
def s_T_skipBlanks_0 (T_size : Int32) (T_bytes : (Nat → Int32)) (C0 : Int32 → Prop) (post : Int32 → Prop) (T_place : Int32) : Prop := ((T_size ≤ T_place → post T_place) ∧ (¬ T_size ≤ T_place → wp_T_isBlankHere T_size T_place T_bytes (fun r12 => ((r12 = 0 → post T_place) ∧ (¬ r12 = 0 → C0 (T_place + 1))))))
def wp_T_skipBlanks (T_size : Int32) (T_place : Int32) (T_bytes : (Nat → Int32)) (post : Int32 → Prop) : Prop := ∀ (C0 : Int32 → Prop), (∀ (T_place : Int32), s_T_skipBlanks_0 T_size T_bytes C0 post T_place → C0 T_place) → C0 T_place
def wp_T_isSignHere (T_size : Int32) (T_place : Int32) (T_bytes : (Nat → Int32)) (post : Int32 → Prop) : Prop := wp_T_here T_size T_place T_bytes (fun r1 => ((r1 = 43 → post 1) ∧ (¬ r1 = 43 → wp_T_here T_size T_place T_bytes (fun r10 => ((r10 = 45 → post 1) ∧ (¬ r10 = 45 → post 0))))))
def wp_T_isDigitHere (T_size : Int32) (T_place : Int32) (T_bytes : (Nat → Int32)) (post : Int32 → Prop) : Prop := wp_T_here T_size T_place T_bytes (fun r1 => ((r1 < 48 → post 0) ∧ (¬ r1 < 48 → wp_T_here T_size T_place T_bytes (fun r10 => ((57 < r10 → post 0) ∧ (¬ 57 < r10 → post 1))))))
def s_T_readNumber_2 (T_size : Int32) (T_bytes : (Nat → Int32)) (C2 : Int32 → Int32 → Prop) (post : Int32 → Int32 → Prop) (x1 : Int32) (T_place : Int32) : Prop := ((T_size ≤ T_place → post x1 T_place) ∧ (¬ T_size ≤ T_place → wp_T_isDigitHere T_size T_place T_bytes (fun r14 => ((r14 = 0 → post x1 T_place) ∧ (¬ r14 = 0 → wp_T_here T_size T_place T_bytes (fun r29 => C2 (if 40 < ((((if x1 < 0 then 0 else x1) * 10) + r29) - 48) then 40 else ((((if x1 < 0 then 0 else x1) * 10) + r29) - 48)) (T_place + 1)))))))
def wp_T_readNumber (T_size : Int32) (T_place : Int32) (T_bytes : (Nat → Int32)) (post : Int32 → Int32 → Prop) : Prop := ∀ (C2 : Int32 → Int32 → Prop), (∀ (x1 : Int32) (T_place : Int32), s_T_readNumber_2 T_size T_bytes C2 post x1 T_place → C2 x1 T_place) → C2 (-1) T_place
def s_T_readLiteral_107 (G_size : Int32) (F_kinds : (Nat → Int32)) (T_size : Int32) (T_bytes : (Nat → Int32)) (p1 : Int32) (post : (Nat → Int32) → (Nat → Int32) → Int32 → Int32 → Prop) (x5 : Int32) (F_sizes : (Nat → Int32)) (F_literals : (Nat → Int32)) (T_place : Int32) (T_fault : Int32) : Prop := wp_F_append F_sizes F_literals p1 x5 (fun F_sizes_114 F_literals_114 => post F_sizes_114 F_literals_114 T_place T_fault)
def s_T_readLiteral_67 (G_size : Int32) (F_kinds : (Nat → Int32)) (T_size : Int32) (T_bytes : (Nat → Int32)) (p1 : Int32) (post : (Nat → Int32) → (Nat → Int32) → Int32 → Int32 → Prop) (x2 : Int32) (F_sizes : (Nat → Int32)) (F_literals : (Nat → Int32)) (T_place : Int32) (T_fault : Int32) : Prop := post F_sizes F_literals T_place x2
def s_T_readLiteral_19 (G_size : Int32) (F_kinds : (Nat → Int32)) (T_size : Int32) (T_bytes : (Nat → Int32)) (p1 : Int32) (post : (Nat → Int32) → (Nat → Int32) → Int32 → Int32 → Prop) (s0 : Int32) (x2 : Int32) (F_sizes : (Nat → Int32)) (F_literals : (Nat → Int32)) (T_place : Int32) (T_fault : Int32) : Prop := wp_T_skipBlanks T_size (T_place + 1) T_bytes (fun T_place_31 => wp_T_readNumber T_size T_place_31 T_bytes (fun r35 T_place_35 => wp_T_skipBlanks T_size T_place_35 T_bytes (fun T_place_41 => wp_F_isLineFull F_kinds F_sizes p1 (fun r49 => ((r49 = 0 → wp_G_has G_size r35 (fun r61 => ((r61 = 0 → s_T_readLiteral_67 G_size F_kinds T_size T_bytes p1 post x2 F_sizes F_literals T_place_41 T_fault) ∧ (¬ r61 = 0 → (vp_in p1 24 ∧ (((F_kinds p1.toNatClampNeg) = 1 → s_T_readLiteral_107 G_size F_kinds T_size T_bytes p1 post ((2 * r35) + s0) F_sizes F_literals T_place_41 T_fault) ∧ (¬ (F_kinds p1.toNatClampNeg) = 1 → wp_F_contains F_sizes F_literals p1 ((2 * r35) + s0) (fun r101 => ((r101 = 0 → s_T_readLiteral_107 G_size F_kinds T_size T_bytes p1 post ((2 * r35) + s0) F_sizes F_literals T_place_41 T_fault) ∧ (¬ r101 = 0 → post F_sizes F_literals T_place_41 T_fault)))))))))) ∧ (¬ r49 = 0 → s_T_readLiteral_67 G_size F_kinds T_size T_bytes p1 post x2 F_sizes F_literals T_place_41 T_fault))))))
def wp_T_readLiteral (G_size : Int32) (F_kinds : (Nat → Int32)) (F_sizes : (Nat → Int32)) (F_literals : (Nat → Int32)) (T_size : Int32) (T_place : Int32) (T_fault : Int32) (T_bytes : (Nat → Int32)) (p1 : Int32) (post : (Nat → Int32) → (Nat → Int32) → Int32 → Int32 → Prop) : Prop := wp_T_here T_size T_place T_bytes (fun r6 => ((r6 = 45 → s_T_readLiteral_19 G_size F_kinds T_size T_bytes p1 post 1 T_place F_sizes F_literals T_place T_fault) ∧ (¬ r6 = 45 → s_T_readLiteral_19 G_size F_kinds T_size T_bytes p1 post 0 T_place F_sizes F_literals T_place T_fault)))
def s_T_endLine_64 (F_kinds : (Nat → Int32)) (F_sizes : (Nat → Int32)) (T_size : Int32) (T_place : Int32) (T_bytes : (Nat → Int32)) (p1 : Int32) (post : Int32 → Prop) (T_fault : Int32) : Prop := post T_place
def s_T_endLine_55 (F_kinds : (Nat → Int32)) (F_sizes : (Nat → Int32)) (T_size : Int32) (T_place : Int32) (T_bytes : (Nat → Int32)) (p1 : Int32) (post : Int32 → Prop) (s0 : Int32) (x2 : Int32) (T_fault : Int32) : Prop := ((x2 = 0 → ((s0 = 0 → s_T_endLine_64 F_kinds F_sizes T_size T_place T_bytes p1 post T_fault) ∧ (¬ s0 = 0 → post T_fault))) ∧ (¬ x2 = 0 → s_T_endLine_64 F_kinds F_sizes T_size T_place T_bytes p1 post T_fault))
def s_T_endLine_50 (F_kinds : (Nat → Int32)) (F_sizes : (Nat → Int32)) (T_size : Int32) (T_place : Int32) (T_bytes : (Nat → Int32)) (p1 : Int32) (post : Int32 → Prop) (x2 : Int32) (T_fault : Int32) : Prop := s_T_endLine_55 F_kinds F_sizes T_size T_place T_bytes p1 post 1 x2 T_fault
def s_T_endLine_29 (F_kinds : (Nat → Int32)) (F_sizes : (Nat → Int32)) (T_size : Int32) (T_place : Int32) (T_bytes : (Nat → Int32)) (p1 : Int32) (post : Int32 → Prop) (s0 : Int32) (T_fault : Int32) : Prop := ((T_size ≤ T_place → s_T_endLine_50 F_kinds F_sizes T_size T_place T_bytes p1 post s0 T_fault) ∧ (¬ T_size ≤ T_place → wp_T_here T_size T_place T_bytes (fun r42 => ((r42 = 10 → s_T_endLine_50 F_kinds F_sizes T_size T_place T_bytes p1 post s0 T_fault) ∧ (¬ r42 = 10 → s_T_endLine_55 F_kinds F_sizes T_size T_place T_bytes p1 post 0 s0 T_fault)))))
def s_T_endLine_28 (F_kinds : (Nat → Int32)) (F_sizes : (Nat → Int32)) (T_size : Int32) (T_place : Int32) (T_bytes : (Nat → Int32)) (p1 : Int32) (post : Int32 → Prop) (T_fault : Int32) : Prop := s_T_endLine_29 F_kinds F_sizes T_size T_place T_bytes p1 post 0 T_fault
def wp_T_endLine (F_kinds : (Nat → Int32)) (F_sizes : (Nat → Int32)) (T_size : Int32) (T_place : Int32) (T_fault : Int32) (T_bytes : (Nat → Int32)) (p1 : Int32) (post : Int32 → Prop) : Prop := (vp_in p1 24 ∧ (((F_kinds p1.toNatClampNeg) = 1 → wp_F_isLineFull F_kinds F_sizes p1 (fun r18 => ((r18 = 0 → s_T_endLine_29 F_kinds F_sizes T_size T_place T_bytes p1 post 1 T_fault) ∧ (¬ r18 = 0 → s_T_endLine_28 F_kinds F_sizes T_size T_place T_bytes p1 post T_fault)))) ∧ (¬ (F_kinds p1.toNatClampNeg) = 1 → s_T_endLine_28 F_kinds F_sizes T_size T_place T_bytes p1 post T_fault)))
def s_T_readLine_104 (G_size : Int32) (T_size : Int32) (T_bytes : (Nat → Int32)) (C71 : Int32 → Int32 → Int32 → (Nat → Int32) → (Nat → Int32) → (Nat → Int32) → Int32 → Int32 → Prop) (post : Int32 → (Nat → Int32) → (Nat → Int32) → (Nat → Int32) → Int32 → Int32 → Prop) (x2 : Int32) (F_size : Int32) (F_kinds : (Nat → Int32)) (F_sizes : (Nat → Int32)) (F_literals : (Nat → Int32)) (T_place : Int32) (T_fault : Int32) : Prop := ((T_fault = (-1) → wp_T_endLine F_kinds F_sizes T_size T_place T_fault T_bytes x2 (fun T_fault_114 => post F_size F_kinds F_sizes F_literals T_place T_fault_114)) ∧ (¬ T_fault = (-1) → post F_size F_kinds F_sizes F_literals T_place T_fault))
def s_T_readLine_51 (G_size : Int32) (T_size : Int32) (T_bytes : (Nat → Int32)) (C71 : Int32 → Int32 → Int32 → (Nat → Int32) → (Nat → Int32) → (Nat → Int32) → Int32 → Int32 → Prop) (post : Int32 → (Nat → Int32) → (Nat → Int32) → (Nat → Int32) → Int32 → Int32 → Prop) (s0 : Int32) (F_size : Int32) (F_kinds : (Nat → Int32)) (F_sizes : (Nat → Int32)) (F_literals : (Nat → Int32)) (T_place : Int32) (T_fault : Int32) : Prop := wp_F_add F_size F_kinds F_sizes s0 (fun r51 F_size_51 F_kinds_51 F_sizes_51 => wp_T_skipBlanks T_size (T_place + 1) T_bytes (fun T_place_66 => C71 r51 0 F_size_51 F_kinds_51 F_sizes_51 F_literals T_place_66 T_fault))
def s_T_readLine_27 (G_size : Int32) (T_size : Int32) (T_bytes : (Nat → Int32)) (C71 : Int32 → Int32 → Int32 → (Nat → Int32) → (Nat → Int32) → (Nat → Int32) → Int32 → Int32 → Prop) (post : Int32 → (Nat → Int32) → (Nat → Int32) → (Nat → Int32) → Int32 → Int32 → Prop) (F_size : Int32) (F_kinds : (Nat → Int32)) (F_sizes : (Nat → Int32)) (F_literals : (Nat → Int32)) (T_place : Int32) (T_fault : Int32) : Prop := post F_size F_kinds F_sizes F_literals T_place T_place
def s_T_readLine_17 (G_size : Int32) (T_size : Int32) (T_bytes : (Nat → Int32)) (C71 : Int32 → Int32 → Int32 → (Nat → Int32) → (Nat → Int32) → (Nat → Int32) → Int32 → Int32 → Prop) (post : Int32 → (Nat → Int32) → (Nat → Int32) → (Nat → Int32) → Int32 → Int32 → Prop) (x1 : Int32) (F_size : Int32) (F_kinds : (Nat → Int32)) (F_sizes : (Nat → Int32)) (F_literals : (Nat → Int32)) (T_place : Int32) (T_fault : Int32) : Prop := wp_F_isFull F_size (fun r21 => ((r21 = 0 → ((x1 = 61 → s_T_readLine_51 G_size T_size T_bytes C71 post 1 F_size F_kinds F_sizes F_literals T_place T_fault) ∧ (¬ x1 = 61 → s_T_readLine_51 G_size T_size T_bytes C71 post 0 F_size F_kinds F_sizes F_literals T_place T_fault))) ∧ (¬ r21 = 0 → s_T_readLine_27 G_size T_size T_bytes C71 post F_size F_kinds F_sizes F_literals T_place T_fault)))
def s_T_readLine_71 (G_size : Int32) (T_size : Int32) (T_bytes : (Nat → Int32)) (C71 : Int32 → Int32 → Int32 → (Nat → Int32) → (Nat → Int32) → (Nat → Int32) → Int32 → Int32 → Prop) (post : Int32 → (Nat → Int32) → (Nat → Int32) → (Nat → Int32) → Int32 → Int32 → Prop) (x2 : Int32) (x3 : Int32) (F_size : Int32) (F_kinds : (Nat → Int32)) (F_sizes : (Nat → Int32)) (F_literals : (Nat → Int32)) (T_place : Int32) (T_fault : Int32) : Prop := ((1000 ≤ x3 → s_T_readLine_104 G_size T_size T_bytes C71 post x2 F_size F_kinds F_sizes F_literals T_place T_fault) ∧ (¬ 1000 ≤ x3 → wp_T_isSignHere T_size T_place T_bytes (fun r79 => ((r79 = 0 → s_T_readLine_104 G_size T_size T_bytes C71 post x2 F_size F_kinds F_sizes F_literals T_place T_fault) ∧ (¬ r79 = 0 → ((T_fault = (-1) → wp_T_readLiteral G_size F_kinds F_sizes F_literals T_size T_place T_fault T_bytes x2 (fun F_sizes_95 F_literals_95 T_place_95 T_fault_95 => C71 x2 (x3 + 1) F_size F_kinds F_sizes_95 F_literals_95 T_place_95 T_fault_95)) ∧ (¬ T_fault = (-1) → s_T_readLine_104 G_size T_size T_bytes C71 post x2 F_size F_kinds F_sizes F_literals T_place T_fault)))))))
def wp_T_readLine (G_size : Int32) (F_size : Int32) (F_kinds : (Nat → Int32)) (F_sizes : (Nat → Int32)) (F_literals : (Nat → Int32)) (T_size : Int32) (T_place : Int32) (T_fault : Int32) (T_bytes : (Nat → Int32)) (post : Int32 → (Nat → Int32) → (Nat → Int32) → (Nat → Int32) → Int32 → Int32 → Prop) : Prop := ∀ (C71 : Int32 → Int32 → Int32 → (Nat → Int32) → (Nat → Int32) → (Nat → Int32) → Int32 → Int32 → Prop), (∀ (x2 : Int32) (x3 : Int32) (F_size : Int32) (F_kinds : (Nat → Int32)) (F_sizes : (Nat → Int32)) (F_literals : (Nat → Int32)) (T_place : Int32) (T_fault : Int32), s_T_readLine_71 G_size T_size T_bytes C71 post x2 x3 F_size F_kinds F_sizes F_literals T_place T_fault → C71 x2 x3 F_size F_kinds F_sizes F_literals T_place T_fault) → wp_T_here T_size T_place T_bytes (fun r1 => ((r1 = 99 → s_T_readLine_17 G_size T_size T_bytes C71 post r1 F_size F_kinds F_sizes F_literals T_place T_fault) ∧ (¬ r1 = 99 → ((r1 = 61 → s_T_readLine_17 G_size T_size T_bytes C71 post r1 F_size F_kinds F_sizes F_literals T_place T_fault) ∧ (¬ r1 = 61 → s_T_readLine_27 G_size T_size T_bytes C71 post F_size F_kinds F_sizes F_literals T_place T_fault)))))
def s_T_readAll_55 (G_size : Int32) (T_bytes : (Nat → Int32)) (C16 : Int32 → Int32 → (Nat → Int32) → (Nat → Int32) → (Nat → Int32) → Int32 → Int32 → Int32 → Prop) (post : Int32 → Int32 → (Nat → Int32) → (Nat → Int32) → (Nat → Int32) → Int32 → Int32 → Int32 → Prop) (F_size : Int32) (F_kinds : (Nat → Int32)) (F_sizes : (Nat → Int32)) (F_literals : (Nat → Int32)) (T_size : Int32) (T_place : Int32) (T_fault : Int32) : Prop := post T_fault F_size F_kinds F_sizes F_literals 0 T_place T_fault
def s_T_readAll_16 (G_size : Int32) (T_bytes : (Nat → Int32)) (C16 : Int32 → Int32 → (Nat → Int32) → (Nat → Int32) → (Nat → Int32) → Int32 → Int32 → Int32 → Prop) (post : Int32 → Int32 → (Nat → Int32) → (Nat → Int32) → (Nat → Int32) → Int32 → Int32 → Int32 → Prop) (x1 : Int32) (F_size : Int32) (F_kinds : (Nat → Int32)) (F_sizes : (Nat → Int32)) (F_literals : (Nat → Int32)) (T_size : Int32) (T_place : Int32) (T_fault : Int32) : Prop := ((24 < x1 → s_T_readAll_55 G_size T_bytes C16 post F_size F_kinds F_sizes F_literals T_size T_place T_fault) ∧ (¬ 24 < x1 → ((T_size ≤ T_place → s_T_readAll_55 G_size T_bytes C16 post F_size F_kinds F_sizes F_literals T_size T_place T_fault) ∧ (¬ T_size ≤ T_place → ((T_fault = (-1) → wp_T_readLine G_size F_size F_kinds F_sizes F_literals T_size T_place T_fault T_bytes (fun F_size_42 F_kinds_42 F_sizes_42 F_literals_42 T_place_42 T_fault_42 => wp_T_skipToLine T_size T_place_42 T_bytes (fun T_place_46 => C16 (x1 + 1) F_size_42 F_kinds_42 F_sizes_42 F_literals_42 T_size T_place_46 T_fault_42))) ∧ (¬ T_fault = (-1) → s_T_readAll_55 G_size T_bytes C16 post F_size F_kinds F_sizes F_literals T_size T_place T_fault))))))
def wp_T_readAll (G_size : Int32) (F_size : Int32) (F_kinds : (Nat → Int32)) (F_sizes : (Nat → Int32)) (F_literals : (Nat → Int32)) (T_size : Int32) (T_place : Int32) (T_fault : Int32) (T_bytes : (Nat → Int32)) (post : Int32 → Int32 → (Nat → Int32) → (Nat → Int32) → (Nat → Int32) → Int32 → Int32 → Int32 → Prop) : Prop := ∀ (C16 : Int32 → Int32 → (Nat → Int32) → (Nat → Int32) → (Nat → Int32) → Int32 → Int32 → Int32 → Prop), (∀ (x1 : Int32) (F_size : Int32) (F_kinds : (Nat → Int32)) (F_sizes : (Nat → Int32)) (F_literals : (Nat → Int32)) (T_size : Int32) (T_place : Int32) (T_fault : Int32), s_T_readAll_16 G_size T_bytes C16 post x1 F_size F_kinds F_sizes F_literals T_size T_place T_fault → C16 x1 F_size F_kinds F_sizes F_literals T_size T_place T_fault) → wp_T_skipToLine T_size 0 T_bytes (fun T_place_11 => C16 0 F_size F_kinds F_sizes F_literals T_size T_place_11 (-1))
def wp_P_read (G_size : Int32) (F_size : Int32) (F_kinds : (Nat → Int32)) (F_sizes : (Nat → Int32)) (F_literals : (Nat → Int32)) (T_size : Int32) (T_place : Int32) (T_fault : Int32) (T_bytes : (Nat → Int32)) (post : Int32 → Int32 → (Nat → Int32) → (Nat → Int32) → (Nat → Int32) → Int32 → Int32 → Int32 → Prop) : Prop := wp_T_readAll G_size F_size F_kinds F_sizes F_literals T_size T_place T_fault T_bytes (fun r12 F_size_12 F_kinds_12 F_sizes_12 F_literals_12 T_size_12 T_place_12 T_fault_12 => ((r12 = (-1) → post F_size_12 F_size_12 F_kinds_12 F_sizes_12 F_literals_12 T_size_12 T_place_12 T_fault_12) ∧ (¬ r12 = (-1) → post ((-1) - r12) F_size F_kinds_12 F_sizes_12 F_literals_12 T_size_12 T_place_12 T_fault_12)))
def wp_P_count (G_size : Int32) (G_inputs : Int32) (F_size : Int32) (F_sizes : (Nat → Int32)) (F_literals : (Nat → Int32)) (T_size : Int32) (p1 : Int32) (post : Int32 → Prop) (postx : Nat → Prop) : Prop := ((p1 = 0 → post G_size) ∧ (p1 = 1 → post G_inputs) ∧ (p1 = 2 → post F_size) ∧ (p1 = 3 → post T_size) ∧ (p1 = 4 → wp_X_lengthOf F_size F_sizes F_literals (fun r72 => post r72)) ∧ (¬ p1 = 0 → ¬ p1 = 1 → ¬ p1 = 2 → ¬ p1 = 3 → ¬ p1 = 4 → postx 0))
def wp_P_clear (F_size : Int32) (post : Int32 → Prop) : Prop := post 0
end
section
theorem d_A_fill_0 : decode b_A_fill 0 = .ok (.iconst 0, 1) := by decide +kernel
theorem d_A_fill_1 : decode b_A_fill 1 = .ok (.istore_n 2, 1) := by decide +kernel
theorem d_A_fill_2 : decode b_A_fill 2 = .ok (.aload_n 0, 1) := by decide +kernel
theorem d_A_fill_3 : decode b_A_fill 3 = .ok (.arraylength, 1) := by decide +kernel
theorem d_A_fill_4 : decode b_A_fill 4 = .ok (.istore_n 3, 1) := by decide +kernel
theorem d_A_fill_5 : decode b_A_fill 5 = .ok (.iload_n 2, 1) := by decide +kernel
theorem d_A_fill_6 : decode b_A_fill 6 = .ok (.iload_n 3, 1) := by decide +kernel
theorem d_A_fill_7 : decode b_A_fill 7 = .ok (.if_icmp .ge 13, 3) := by decide +kernel
theorem d_A_fill_10 : decode b_A_fill 10 = .ok (.aload_n 0, 1) := by decide +kernel
theorem d_A_fill_11 : decode b_A_fill 11 = .ok (.iload_n 2, 1) := by decide +kernel
theorem d_A_fill_12 : decode b_A_fill 12 = .ok (.iload_n 1, 1) := by decide +kernel
theorem d_A_fill_13 : decode b_A_fill 13 = .ok (.iastore, 1) := by decide +kernel
theorem d_A_fill_14 : decode b_A_fill 14 = .ok (.iinc 2 1, 3) := by decide +kernel
theorem d_A_fill_17 : decode b_A_fill 17 = .ok (.goto (-12), 3) := by decide +kernel
theorem d_A_fill_20 : decode b_A_fill 20 = .ok (.return_, 1) := by decide +kernel
def rm_A_fill : Room := { frames := 0, cells := 0, slots := 0, locals := 0 }
set_option maxHeartbeats 4000000 in
set_option maxRecDepth 100000 in
theorem c_A_fill (l : Launch) (D : va_G) (cA : Nat → ClassId) (ad : Nat → Nat) (sz : Nat) (U_told : (Nat → Int32)) (p1 : Int32) (post : (Nat → Int32) → Prop) (h : wp_A_fill U_told p1 post) : Met l y_A_fill w_A_fill rm_A_fill (mPc D cA [.ref (ad 12), .int p1] [(k_U_told cA ad U_told)] sz) (va_Qv (fun (u : (Nat → Int32)) => post u) (mB D (va_A [(k_U_told cA ad U_told)] sz) (fun (u : (Nat → Int32)) => [(k_U_told cA ad u)])) (va_A [(k_U_told cA ad U_told)] sz)) 0 0 (va_A [(k_U_told cA ad U_told)] sz) := by
  refine m_methV (by decide) rfl (Nat.le_of_ble_eq_true rfl) ?_
  intro p e s m below meth c A Q ls hx hb hml hown hts hK hA hw hl hE
  have hl : lv_has ls 4 [(0, .ref (ad 12)), (1, .int p1)] := hl
  have hown : s.vm.findClass R_A = some m.cls := hown
  have hg : ∀ {w : Cond}, w ∈ gw → w.before _ s = true := fun h => hts _ (List.mem_cons_of_mem _ h)
  obtain ⟨C5, hC5⟩ : ∃ C : Int32 → Int32 → (Nat → Int32) → Prop, ∀ (x2 : Int32) (x3 : Int32) (U_told : (Nat → Int32)), C x2 x3 U_told ↔ (∀ (H : Heap) (locs : List Loc) (ls : Array Slot), mW D A s.heap [(k_U_told cA ad U_told)] H locs → lv_has ls 4 [(0, .ref (ad 12)), (1, .int p1), (2, .int x2), (3, .int x3)] → W p l e rm_A_fill s m [.ref (ad 12), .int p1].toArray below meth c H locs 0 0 Q (F0 m 5 ls [])) := ⟨_, fun _ _ _ => Iff.rfl⟩
  have hc5 : ∀ (x2 : Int32) (x3 : Int32) (U_told : (Nat → Int32)), s_A_fill_5 p1 C5 post x2 x3 U_told → C5 x2 x3 U_told := by
    intro x2 x3 U_told h
    unfold s_A_fill_5 at h
    refine (hC5 _ _ _).2 ?_
    intro H locs ls hw hl
    refine lv_iload_n hx hb d_A_fill_5 rfl (lv_at hl 2 rfl) ?_
    refine lv_iload_n hx hb d_A_fill_6 rfl (lv_at hl 3 rfl) ?_
    refine lv_icmp_ge (tgt := 20) hx hb d_A_fill_7 (by decide) (fun hc => ?_) (fun hc => ?_)
    · have h := h.1 hc
      exact hE (U_told) _ _ _ _ h hw d_A_fill_20
    · have h := h.2 hc
      refine lv_aload_n hx hb d_A_fill_10 rfl (lv_at hl 0 rfl) ?_
      refine lv_iload_n hx hb d_A_fill_11 rfl (lv_at hl 2 rfl) ?_
      refine lv_iload_n hx hb d_A_fill_12 rfl (lv_at hl 1 rfl) ?_
      refine m_iast (ws' := [(k_U_told cA ad (upd U_told x2.toNatClampNeg p1))]) hx hb hK.1 hw 0 0 rfl rfl h.1 rfl d_A_fill_13 (fun H locs hw => ?_)
      have h := h.2
      refine lv_iinc (v := (x2 + 1)) (lv' := [(2, .int (x2 + 1)), (0, .ref (ad 12)), (1, .int p1), (3, .int x3)]) hx hb d_A_fill_14 hl (k := 2) rfl rfl (by decide) rfl (fun ls hl => ?_)
      refine lv_goto (tgt := 5) hx hb d_A_fill_17 (by decide) ?_
      exact (hC5 _ _ _).1 h _ _ _ hw (lv_sub hl [1, 2, 0, 3] rfl)
  unfold wp_A_fill at h
  have h := h C5 hc5
  refine lv_iconst (v := 0) hx hb d_A_fill_0 (by decide) ?_
  refine lv_istore_n (lv' := [(2, .int 0), (0, .ref (ad 12)), (1, .int p1)]) hx hb d_A_fill_1 rfl hl (by decide) rfl (fun ls hl => ?_)
  refine lv_aload_n hx hb d_A_fill_2 rfl (lv_at hl 1 rfl) ?_
  refine va_alen (v := 40) hx hb hK.1 hw.1 0 0 rfl rfl rfl d_A_fill_3 ?_
  refine lv_istore_n (lv' := [(3, .int 40), (2, .int 0), (0, .ref (ad 12)), (1, .int p1)]) hx hb d_A_fill_4 rfl hl (by decide) rfl (fun ls hl => ?_)
  exact (hC5 _ _ _).1 h _ _ _ hw (lv_sub hl [2, 3, 1, 0] rfl)
end
section
theorem d_G_has_0 : decode b_G_has 0 = .ok (.iload_n 1, 1) := by decide +kernel
theorem d_G_has_1 : decode b_G_has 1 = .ok (.ifCond .lt 15, 3) := by decide +kernel
theorem d_G_has_4 : decode b_G_has 4 = .ok (.iload_n 1, 1) := by decide +kernel
theorem d_G_has_5 : decode b_G_has 5 = .ok (.aload_n 0, 1) := by decide +kernel
theorem d_G_has_6 : decode b_G_has 6 = .ok (.getfield 25, 3) := by decide +kernel
theorem d_G_has_9 : decode b_G_has 9 = .ok (.if_icmp .ge 7, 3) := by decide +kernel
theorem d_G_has_12 : decode b_G_has 12 = .ok (.iconst 1, 1) := by decide +kernel
theorem d_G_has_13 : decode b_G_has 13 = .ok (.goto 4, 3) := by decide +kernel
theorem d_G_has_16 : decode b_G_has 16 = .ok (.iconst 0, 1) := by decide +kernel
theorem d_G_has_17 : decode b_G_has 17 = .ok (.ireturn, 1) := by decide +kernel
theorem d_G_hasLiteral_0 : decode b_G_hasLiteral 0 = .ok (.iload_n 1, 1) := by decide +kernel
theorem d_G_hasLiteral_1 : decode b_G_hasLiteral 1 = .ok (.ifCond .lt 17, 3) := by decide +kernel
theorem d_G_hasLiteral_4 : decode b_G_hasLiteral 4 = .ok (.aload_n 0, 1) := by decide +kernel
theorem d_G_hasLiteral_5 : decode b_G_hasLiteral 5 = .ok (.iload_n 1, 1) := by decide +kernel
theorem d_G_hasLiteral_6 : decode b_G_hasLiteral 6 = .ok (.iconst 1, 1) := by decide +kernel
theorem d_G_hasLiteral_7 : decode b_G_hasLiteral 7 = .ok (.ishr, 1) := by decide +kernel
theorem d_G_hasLiteral_8 : decode b_G_hasLiteral 8 = .ok (.invokevirtual 32, 3) := by decide +kernel
theorem d_G_hasLiteral_11 : decode b_G_hasLiteral 11 = .ok (.ifCond .eq 7, 3) := by decide +kernel
theorem d_G_hasLiteral_14 : decode b_G_hasLiteral 14 = .ok (.iconst 1, 1) := by decide +kernel
theorem d_G_hasLiteral_15 : decode b_G_hasLiteral 15 = .ok (.goto 4, 3) := by decide +kernel
theorem d_G_hasLiteral_18 : decode b_G_hasLiteral 18 = .ok (.iconst 0, 1) := by decide +kernel
theorem d_G_hasLiteral_19 : decode b_G_hasLiteral 19 = .ok (.ireturn, 1) := by decide +kernel
theorem d_G_add_0 : decode b_G_add 0 = .ok (.aload_n 0, 1) := by decide +kernel
theorem d_G_add_1 : decode b_G_add 1 = .ok (.getfield 25, 3) := by decide +kernel
theorem d_G_add_4 : decode b_G_add 4 = .ok (.istore 4, 2) := by decide +kernel
theorem d_G_add_6 : decode b_G_add 6 = .ok (.aload_n 0, 1) := by decide +kernel
theorem d_G_add_7 : decode b_G_add 7 = .ok (.getfield 9, 3) := by decide +kernel
theorem d_G_add_10 : decode b_G_add 10 = .ok (.iload 4, 2) := by decide +kernel
theorem d_G_add_12 : decode b_G_add 12 = .ok (.iload_n 1, 1) := by decide +kernel
theorem d_G_add_13 : decode b_G_add 13 = .ok (.iastore, 1) := by decide +kernel
theorem d_G_add_14 : decode b_G_add 14 = .ok (.iload_n 1, 1) := by decide +kernel
theorem d_G_add_15 : decode b_G_add 15 = .ok (.ifCond .ne 16, 3) := by decide +kernel
theorem d_G_add_18 : decode b_G_add 18 = .ok (.aload_n 0, 1) := by decide +kernel
theorem d_G_add_19 : decode b_G_add 19 = .ok (.dup, 1) := by decide +kernel
theorem d_G_add_20 : decode b_G_add 20 = .ok (.getfield 29, 3) := by decide +kernel
theorem d_G_add_23 : decode b_G_add 23 = .ok (.iconst 1, 1) := by decide +kernel
theorem d_G_add_24 : decode b_G_add 24 = .ok (.iadd, 1) := by decide +kernel
theorem d_G_add_25 : decode b_G_add 25 = .ok (.putfield 29, 3) := by decide +kernel
theorem d_G_add_28 : decode b_G_add 28 = .ok (.goto 19, 3) := by decide +kernel
theorem d_G_add_31 : decode b_G_add 31 = .ok (.aload_n 0, 1) := by decide +kernel
theorem d_G_add_32 : decode b_G_add 32 = .ok (.getfield 15, 3) := by decide +kernel
theorem d_G_add_35 : decode b_G_add 35 = .ok (.iload 4, 2) := by decide +kernel
theorem d_G_add_37 : decode b_G_add 37 = .ok (.iload_n 2, 1) := by decide +kernel
theorem d_G_add_38 : decode b_G_add 38 = .ok (.iastore, 1) := by decide +kernel
theorem d_G_add_39 : decode b_G_add 39 = .ok (.aload_n 0, 1) := by decide +kernel
theorem d_G_add_40 : decode b_G_add 40 = .ok (.getfield 18, 3) := by decide +kernel
theorem d_G_add_43 : decode b_G_add 43 = .ok (.iload 4, 2) := by decide +kernel
theorem d_G_add_45 : decode b_G_add 45 = .ok (.iload_n 3, 1) := by decide +kernel
theorem d_G_add_46 : decode b_G_add 46 = .ok (.iastore, 1) := by decide +kernel
theorem d_G_add_47 : decode b_G_add 47 = .ok (.aload_n 0, 1) := by decide +kernel
theorem d_G_add_48 : decode b_G_add 48 = .ok (.dup, 1) := by decide +kernel
theorem d_G_add_49 : decode b_G_add 49 = .ok (.getfield 25, 3) := by decide +kernel
theorem d_G_add_52 : decode b_G_add 52 = .ok (.iconst 1, 1) := by decide +kernel
theorem d_G_add_53 : decode b_G_add 53 = .ok (.iadd, 1) := by decide +kernel
theorem d_G_add_54 : decode b_G_add 54 = .ok (.putfield 25, 3) := by decide +kernel
theorem d_G_add_57 : decode b_G_add 57 = .ok (.iload 4, 2) := by decide +kernel
theorem d_G_add_59 : decode b_G_add 59 = .ok (.ireturn, 1) := by decide +kernel
theorem d_G_truthOf_0 : decode b_G_truthOf 0 = .ok (.aload_n 0, 1) := by decide +kernel
theorem d_G_truthOf_1 : decode b_G_truthOf 1 = .ok (.getfield 21, 3) := by decide +kernel
theorem d_G_truthOf_4 : decode b_G_truthOf 4 = .ok (.iload_n 1, 1) := by decide +kernel
theorem d_G_truthOf_5 : decode b_G_truthOf 5 = .ok (.iconst 1, 1) := by decide +kernel
theorem d_G_truthOf_6 : decode b_G_truthOf 6 = .ok (.ishr, 1) := by decide +kernel
theorem d_G_truthOf_7 : decode b_G_truthOf 7 = .ok (.baload, 1) := by decide +kernel
theorem d_G_truthOf_8 : decode b_G_truthOf 8 = .ok (.iload_n 1, 1) := by decide +kernel
theorem d_G_truthOf_9 : decode b_G_truthOf 9 = .ok (.iconst 1, 1) := by decide +kernel
theorem d_G_truthOf_10 : decode b_G_truthOf 10 = .ok (.iand, 1) := by decide +kernel
theorem d_G_truthOf_11 : decode b_G_truthOf 11 = .ok (.iconst 1, 1) := by decide +kernel
theorem d_G_truthOf_12 : decode b_G_truthOf 12 = .ok (.if_icmp .ne 7, 3) := by decide +kernel
theorem d_G_truthOf_15 : decode b_G_truthOf 15 = .ok (.iconst 1, 1) := by decide +kernel
theorem d_G_truthOf_16 : decode b_G_truthOf 16 = .ok (.goto 4, 3) := by decide +kernel
theorem d_G_truthOf_19 : decode b_G_truthOf 19 = .ok (.iconst 0, 1) := by decide +kernel
theorem d_G_truthOf_20 : decode b_G_truthOf 20 = .ok (.if_icmp .eq 7, 3) := by decide +kernel
theorem d_G_truthOf_23 : decode b_G_truthOf 23 = .ok (.iconst 1, 1) := by decide +kernel
theorem d_G_truthOf_24 : decode b_G_truthOf 24 = .ok (.goto 4, 3) := by decide +kernel
theorem d_G_truthOf_27 : decode b_G_truthOf 27 = .ok (.iconst 0, 1) := by decide +kernel
theorem d_G_truthOf_28 : decode b_G_truthOf 28 = .ok (.ireturn, 1) := by decide +kernel
theorem d_G_isTrueWith_0 : decode b_G_isTrueWith 0 = .ok (.iload_n 1, 1) := by decide +kernel
theorem d_G_isTrueWith_1 : decode b_G_isTrueWith 1 = .ok (.iconst 1, 1) := by decide +kernel
theorem d_G_isTrueWith_2 : decode b_G_isTrueWith 2 = .ok (.ishr, 1) := by decide +kernel
theorem d_G_isTrueWith_3 : decode b_G_isTrueWith 3 = .ok (.istore 4, 2) := by decide +kernel
theorem d_G_isTrueWith_5 : decode b_G_isTrueWith 5 = .ok (.lload_n 2, 1) := by decide +kernel
theorem d_G_isTrueWith_6 : decode b_G_isTrueWith 6 = .ok (.lstore 5, 2) := by decide +kernel
theorem d_G_isTrueWith_8 : decode b_G_isTrueWith 8 = .ok (.iconst 1, 1) := by decide +kernel
theorem d_G_isTrueWith_9 : decode b_G_isTrueWith 9 = .ok (.istore 7, 2) := by decide +kernel
theorem d_G_isTrueWith_11 : decode b_G_isTrueWith 11 = .ok (.iload 7, 2) := by decide +kernel
theorem d_G_isTrueWith_13 : decode b_G_isTrueWith 13 = .ok (.iload 4, 2) := by decide +kernel
theorem d_G_isTrueWith_15 : decode b_G_isTrueWith 15 = .ok (.if_icmp .gt 140, 3) := by decide +kernel
theorem d_G_isTrueWith_18 : decode b_G_isTrueWith 18 = .ok (.aload_n 0, 1) := by decide +kernel
theorem d_G_isTrueWith_19 : decode b_G_isTrueWith 19 = .ok (.getfield 9, 3) := by decide +kernel
theorem d_G_isTrueWith_22 : decode b_G_isTrueWith 22 = .ok (.iload 7, 2) := by decide +kernel
theorem d_G_isTrueWith_24 : decode b_G_isTrueWith 24 = .ok (.iaload, 1) := by decide +kernel
theorem d_G_isTrueWith_25 : decode b_G_isTrueWith 25 = .ok (.ifCond .ne 33, 3) := by decide +kernel
theorem d_G_isTrueWith_28 : decode b_G_isTrueWith 28 = .ok (.aload_n 0, 1) := by decide +kernel
theorem d_G_isTrueWith_29 : decode b_G_isTrueWith 29 = .ok (.getfield 21, 3) := by decide +kernel
theorem d_G_isTrueWith_32 : decode b_G_isTrueWith 32 = .ok (.iload 7, 2) := by decide +kernel
theorem d_G_isTrueWith_34 : decode b_G_isTrueWith 34 = .ok (.lload 5, 2) := by decide +kernel
theorem d_G_isTrueWith_36 : decode b_G_isTrueWith 36 = .ok (.lconst 1, 1) := by decide +kernel
theorem d_G_isTrueWith_37 : decode b_G_isTrueWith 37 = .ok (.land, 1) := by decide +kernel
theorem d_G_isTrueWith_38 : decode b_G_isTrueWith 38 = .ok (.lconst 0, 1) := by decide +kernel
theorem d_G_isTrueWith_39 : decode b_G_isTrueWith 39 = .ok (.lcmp, 1) := by decide +kernel
theorem d_G_isTrueWith_40 : decode b_G_isTrueWith 40 = .ok (.ifCond .eq 7, 3) := by decide +kernel
theorem d_G_isTrueWith_43 : decode b_G_isTrueWith 43 = .ok (.iconst 1, 1) := by decide +kernel
theorem d_G_isTrueWith_44 : decode b_G_isTrueWith 44 = .ok (.goto 4, 3) := by decide +kernel
theorem d_G_isTrueWith_47 : decode b_G_isTrueWith 47 = .ok (.iconst 0, 1) := by decide +kernel
theorem d_G_isTrueWith_48 : decode b_G_isTrueWith 48 = .ok (.bastore, 1) := by decide +kernel
theorem d_G_isTrueWith_49 : decode b_G_isTrueWith 49 = .ok (.lload 5, 2) := by decide +kernel
theorem d_G_isTrueWith_51 : decode b_G_isTrueWith 51 = .ok (.iconst 1, 1) := by decide +kernel
theorem d_G_isTrueWith_52 : decode b_G_isTrueWith 52 = .ok (.lushr, 1) := by decide +kernel
theorem d_G_isTrueWith_53 : decode b_G_isTrueWith 53 = .ok (.lstore 5, 2) := by decide +kernel
theorem d_G_isTrueWith_55 : decode b_G_isTrueWith 55 = .ok (.goto 94, 3) := by decide +kernel
theorem d_G_isTrueWith_58 : decode b_G_isTrueWith 58 = .ok (.aload_n 0, 1) := by decide +kernel
theorem d_G_isTrueWith_59 : decode b_G_isTrueWith 59 = .ok (.getfield 9, 3) := by decide +kernel
theorem d_G_isTrueWith_62 : decode b_G_isTrueWith 62 = .ok (.iload 7, 2) := by decide +kernel
theorem d_G_isTrueWith_64 : decode b_G_isTrueWith 64 = .ok (.iaload, 1) := by decide +kernel
theorem d_G_isTrueWith_65 : decode b_G_isTrueWith 65 = .ok (.iconst 1, 1) := by decide +kernel
theorem d_G_isTrueWith_66 : decode b_G_isTrueWith 66 = .ok (.if_icmp .ne 46, 3) := by decide +kernel
theorem d_G_isTrueWith_69 : decode b_G_isTrueWith 69 = .ok (.aload_n 0, 1) := by decide +kernel
theorem d_G_isTrueWith_70 : decode b_G_isTrueWith 70 = .ok (.getfield 21, 3) := by decide +kernel
theorem d_G_isTrueWith_73 : decode b_G_isTrueWith 73 = .ok (.iload 7, 2) := by decide +kernel
theorem d_G_isTrueWith_75 : decode b_G_isTrueWith 75 = .ok (.aload_n 0, 1) := by decide +kernel
theorem d_G_isTrueWith_76 : decode b_G_isTrueWith 76 = .ok (.aload_n 0, 1) := by decide +kernel
theorem d_G_isTrueWith_77 : decode b_G_isTrueWith 77 = .ok (.getfield 15, 3) := by decide +kernel
theorem d_G_isTrueWith_80 : decode b_G_isTrueWith 80 = .ok (.iload 7, 2) := by decide +kernel
theorem d_G_isTrueWith_82 : decode b_G_isTrueWith 82 = .ok (.iaload, 1) := by decide +kernel
theorem d_G_isTrueWith_83 : decode b_G_isTrueWith 83 = .ok (.invokevirtual 36, 3) := by decide +kernel
theorem d_G_isTrueWith_86 : decode b_G_isTrueWith 86 = .ok (.ifCond .eq 21, 3) := by decide +kernel
theorem d_G_isTrueWith_89 : decode b_G_isTrueWith 89 = .ok (.aload_n 0, 1) := by decide +kernel
theorem d_G_isTrueWith_90 : decode b_G_isTrueWith 90 = .ok (.aload_n 0, 1) := by decide +kernel
theorem d_G_isTrueWith_91 : decode b_G_isTrueWith 91 = .ok (.getfield 18, 3) := by decide +kernel
theorem d_G_isTrueWith_94 : decode b_G_isTrueWith 94 = .ok (.iload 7, 2) := by decide +kernel
theorem d_G_isTrueWith_96 : decode b_G_isTrueWith 96 = .ok (.iaload, 1) := by decide +kernel
theorem d_G_isTrueWith_97 : decode b_G_isTrueWith 97 = .ok (.invokevirtual 36, 3) := by decide +kernel
theorem d_G_isTrueWith_100 : decode b_G_isTrueWith 100 = .ok (.ifCond .eq 7, 3) := by decide +kernel
theorem d_G_isTrueWith_103 : decode b_G_isTrueWith 103 = .ok (.iconst 1, 1) := by decide +kernel
theorem d_G_isTrueWith_104 : decode b_G_isTrueWith 104 = .ok (.goto 4, 3) := by decide +kernel
theorem d_G_isTrueWith_107 : decode b_G_isTrueWith 107 = .ok (.iconst 0, 1) := by decide +kernel
theorem d_G_isTrueWith_108 : decode b_G_isTrueWith 108 = .ok (.bastore, 1) := by decide +kernel
theorem d_G_isTrueWith_109 : decode b_G_isTrueWith 109 = .ok (.goto 40, 3) := by decide +kernel
theorem d_G_isTrueWith_112 : decode b_G_isTrueWith 112 = .ok (.aload_n 0, 1) := by decide +kernel
theorem d_G_isTrueWith_113 : decode b_G_isTrueWith 113 = .ok (.getfield 21, 3) := by decide +kernel
theorem d_G_isTrueWith_116 : decode b_G_isTrueWith 116 = .ok (.iload 7, 2) := by decide +kernel
theorem d_G_isTrueWith_118 : decode b_G_isTrueWith 118 = .ok (.aload_n 0, 1) := by decide +kernel
theorem d_G_isTrueWith_119 : decode b_G_isTrueWith 119 = .ok (.aload_n 0, 1) := by decide +kernel
theorem d_G_isTrueWith_120 : decode b_G_isTrueWith 120 = .ok (.getfield 15, 3) := by decide +kernel
theorem d_G_isTrueWith_123 : decode b_G_isTrueWith 123 = .ok (.iload 7, 2) := by decide +kernel
theorem d_G_isTrueWith_125 : decode b_G_isTrueWith 125 = .ok (.iaload, 1) := by decide +kernel
theorem d_G_isTrueWith_126 : decode b_G_isTrueWith 126 = .ok (.invokevirtual 36, 3) := by decide +kernel
theorem d_G_isTrueWith_129 : decode b_G_isTrueWith 129 = .ok (.aload_n 0, 1) := by decide +kernel
theorem d_G_isTrueWith_130 : decode b_G_isTrueWith 130 = .ok (.aload_n 0, 1) := by decide +kernel
theorem d_G_isTrueWith_131 : decode b_G_isTrueWith 131 = .ok (.getfield 18, 3) := by decide +kernel
theorem d_G_isTrueWith_134 : decode b_G_isTrueWith 134 = .ok (.iload 7, 2) := by decide +kernel
theorem d_G_isTrueWith_136 : decode b_G_isTrueWith 136 = .ok (.iaload, 1) := by decide +kernel
theorem d_G_isTrueWith_137 : decode b_G_isTrueWith 137 = .ok (.invokevirtual 36, 3) := by decide +kernel
theorem d_G_isTrueWith_140 : decode b_G_isTrueWith 140 = .ok (.if_icmp .eq 7, 3) := by decide +kernel
theorem d_G_isTrueWith_143 : decode b_G_isTrueWith 143 = .ok (.iconst 1, 1) := by decide +kernel
theorem d_G_isTrueWith_144 : decode b_G_isTrueWith 144 = .ok (.goto 4, 3) := by decide +kernel
theorem d_G_isTrueWith_147 : decode b_G_isTrueWith 147 = .ok (.iconst 0, 1) := by decide +kernel
theorem d_G_isTrueWith_148 : decode b_G_isTrueWith 148 = .ok (.bastore, 1) := by decide +kernel
theorem d_G_isTrueWith_149 : decode b_G_isTrueWith 149 = .ok (.iinc 7 1, 3) := by decide +kernel
theorem d_G_isTrueWith_152 : decode b_G_isTrueWith 152 = .ok (.goto (-141), 3) := by decide +kernel
theorem d_G_isTrueWith_155 : decode b_G_isTrueWith 155 = .ok (.aload_n 0, 1) := by decide +kernel
theorem d_G_isTrueWith_156 : decode b_G_isTrueWith 156 = .ok (.iload_n 1, 1) := by decide +kernel
theorem d_G_isTrueWith_157 : decode b_G_isTrueWith 157 = .ok (.invokevirtual 36, 3) := by decide +kernel
theorem d_G_isTrueWith_160 : decode b_G_isTrueWith 160 = .ok (.ireturn, 1) := by decide +kernel
theorem d_G_new_0 : decode b_G_new 0 = .ok (.aload_n 0, 1) := by decide +kernel
theorem d_G_new_1 : decode b_G_new 1 = .ok (.invokespecial 3, 3) := by decide +kernel
theorem d_G_new_4 : decode b_G_new 4 = .ok (.aload_n 0, 1) := by decide +kernel
theorem d_G_new_5 : decode b_G_new 5 = .ok (.bipush 40, 2) := by decide +kernel
theorem d_G_new_7 : decode b_G_new 7 = .ok (.newarray .int, 2) := by decide +kernel
theorem d_G_new_9 : decode b_G_new 9 = .ok (.putfield 9, 3) := by decide +kernel
theorem d_G_new_12 : decode b_G_new 12 = .ok (.aload_n 0, 1) := by decide +kernel
theorem d_G_new_13 : decode b_G_new 13 = .ok (.bipush 40, 2) := by decide +kernel
theorem d_G_new_15 : decode b_G_new 15 = .ok (.newarray .int, 2) := by decide +kernel
theorem d_G_new_17 : decode b_G_new 17 = .ok (.putfield 15, 3) := by decide +kernel
theorem d_G_new_20 : decode b_G_new 20 = .ok (.aload_n 0, 1) := by decide +kernel
theorem d_G_new_21 : decode b_G_new 21 = .ok (.bipush 40, 2) := by decide +kernel
theorem d_G_new_23 : decode b_G_new 23 = .ok (.newarray .int, 2) := by decide +kernel
theorem d_G_new_25 : decode b_G_new 25 = .ok (.putfield 18, 3) := by decide +kernel
theorem d_G_new_28 : decode b_G_new 28 = .ok (.aload_n 0, 1) := by decide +kernel
theorem d_G_new_29 : decode b_G_new 29 = .ok (.bipush 40, 2) := by decide +kernel
theorem d_G_new_31 : decode b_G_new 31 = .ok (.newarray .boolean, 2) := by decide +kernel
theorem d_G_new_33 : decode b_G_new 33 = .ok (.putfield 21, 3) := by decide +kernel
theorem d_G_new_36 : decode b_G_new 36 = .ok (.aload_n 0, 1) := by decide +kernel
theorem d_G_new_37 : decode b_G_new 37 = .ok (.iconst 1, 1) := by decide +kernel
theorem d_G_new_38 : decode b_G_new 38 = .ok (.putfield 25, 3) := by decide +kernel
theorem d_G_new_41 : decode b_G_new 41 = .ok (.aload_n 0, 1) := by decide +kernel
theorem d_G_new_42 : decode b_G_new 42 = .ok (.iconst 0, 1) := by decide +kernel
theorem d_G_new_43 : decode b_G_new 43 = .ok (.putfield 29, 3) := by decide +kernel
theorem d_G_new_46 : decode b_G_new 46 = .ok (.return_, 1) := by decide +kernel
def rm_G_has : Room := { frames := 0, cells := 0, slots := 0, locals := 0 }
set_option maxHeartbeats 4000000 in
set_option maxRecDepth 100000 in
theorem c_G_has (l : Launch) (D : va_G) (cA : Nat → ClassId) (ad : Nat → Nat) (sz : Nat) (G_size : Int32) (G_inputs : Int32) (p1 : Int32) (post : Int32 → Prop) (h : wp_G_has G_size p1 post) : Met l y_G_has w_G_has rm_G_has (mPc D cA [.ref (ad 1), .int p1] [(k_G cA ad G_size G_inputs)] sz) (va_Qi (fun (r : Int32) (_ : Unit) => post r) (mB D (va_A [(k_G cA ad G_size G_inputs)] sz) (fun (_ : Unit) => [(k_G cA ad G_size G_inputs)])) (va_A [(k_G cA ad G_size G_inputs)] sz)) 0 0 (va_A [(k_G cA ad G_size G_inputs)] sz) := by
  refine m_methZ (by decide) rfl (Nat.le_of_ble_eq_true rfl) ?_
  intro p e s m below meth c A Q ls hx hb hml hown hts hK hA hw hl hE
  have hl : lv_has ls 2 [(0, .ref (ad 1)), (1, .int p1)] := hl
  have hown : s.vm.findClass R_G = some m.cls := hown
  have hg : ∀ {w : Cond}, w ∈ gw → w.before _ s = true := fun h => hts _ (List.mem_cons_of_mem _ h)
  unfold wp_G_has at h
  refine lv_iload_n hx hb d_G_has_0 rfl (lv_at hl 1 rfl) ?_
  refine lv_if_lt (tgt := 16) hx hb d_G_has_1 (by decide) (fun hc => ?_) (fun hc => ?_)
  · have h := h.1 hc
    refine lv_iconst (v := 0) hx hb d_G_has_16 (by decide) ?_
    exact hE 0 () _ _ _ _ h rfl hw d_G_has_17
  · have h := h.2 hc
    refine lv_iload_n hx hb d_G_has_4 rfl (lv_at hl 1 rfl) ?_
    refine lv_aload_n hx hb d_G_has_5 rfl (lv_at hl 0 rfl) ?_
    refine va_get (D := D) (ci := 1) (v := .int G_size) (C := R_G) (T := T_G) (N := 6) hx hb hts (fun w h => List.mem_cons_of_mem _ (iw_G w h)) hown hK.1 hw.1 0 rfl rfl 4 (by decide) (hg gm_38) (fun _ h9 => h9) rfl d_G_has_6 ?_
    refine lv_icmp_ge (tgt := 16) hx hb d_G_has_9 (by decide) (fun hc => ?_) (fun hc => ?_)
    · have h := h.1 hc
      refine lv_iconst (v := 0) hx hb d_G_has_16 (by decide) ?_
      exact hE 0 () _ _ _ _ h rfl hw d_G_has_17
    · have h := h.2 hc
      refine lv_iconst (v := 1) hx hb d_G_has_12 (by decide) ?_
      refine lv_goto (tgt := 17) hx hb d_G_has_13 (by decide) ?_
      exact hE 1 () _ _ _ _ h rfl hw d_G_has_17
def rm_G_hasLiteral : Room := { frames := 1, cells := 0, slots := 0, locals := 21 }
set_option maxHeartbeats 4000000 in
set_option maxRecDepth 100000 in
theorem c_G_hasLiteral (l : Launch) (D : va_G) (cA : Nat → ClassId) (ad : Nat → Nat) (sz : Nat) (G_size : Int32) (G_inputs : Int32) (p1 : Int32) (post : Int32 → Prop) (h : wp_G_hasLiteral G_size p1 post) : Met l y_G_hasLiteral w_G_hasLiteral rm_G_hasLiteral (mPc D cA [.ref (ad 1), .int p1] [(k_G cA ad G_size G_inputs)] sz) (va_Qi (fun (r : Int32) (_ : Unit) => post r) (mB D (va_A [(k_G cA ad G_size G_inputs)] sz) (fun (_ : Unit) => [(k_G cA ad G_size G_inputs)])) (va_A [(k_G cA ad G_size G_inputs)] sz)) 0 0 (va_A [(k_G cA ad G_size G_inputs)] sz) := by
  refine m_methZ (by decide) rfl (Nat.le_of_ble_eq_true rfl) ?_
  intro p e s m below meth c A Q ls hx hb hml hown hts hK hA hw hl hE
  have hl : lv_has ls 2 [(0, .ref (ad 1)), (1, .int p1)] := hl
  have hown : s.vm.findClass R_G = some m.cls := hown
  have hg : ∀ {w : Cond}, w ∈ gw → w.before _ s = true := fun h => hts _ (List.mem_cons_of_mem _ h)
  unfold wp_G_hasLiteral at h
  refine lv_iload_n hx hb d_G_hasLiteral_0 rfl (lv_at hl 1 rfl) ?_
  refine lv_if_lt (tgt := 18) hx hb d_G_hasLiteral_1 (by decide) (fun hc => ?_) (fun hc => ?_)
  · have h := h.1 hc
    refine lv_iconst (v := 0) hx hb d_G_hasLiteral_18 (by decide) ?_
    exact hE 0 () _ _ _ _ h rfl hw d_G_hasLiteral_19
  · have h := h.2 hc
    refine lv_aload_n hx hb d_G_hasLiteral_4 rfl (lv_at hl 0 rfl) ?_
    refine lv_iload_n hx hb d_G_hasLiteral_5 rfl (lv_at hl 1 rfl) ?_
    refine lv_iconst (v := 1) hx hb d_G_hasLiteral_6 (by decide) ?_
    refine lv_ishr hx hb d_G_hasLiteral_7 ?_
    refine m_calli (hr := va_runV (As := [.int (p1 >>> ((1 : Int32) &&& 31))]) (rest := []) ⟨hx, hb, hml, hown, hts⟩ (c_G_has l D cA ad _ G_size G_inputs (p1 >>> ((1 : Int32) &&& 31)) _ h) (cwV 1 hts (ginV gm_262 gm_226 gs_14 gm_2 gm_227) rfl rfl rfl (by decide +kernel) ⟨Nat.le_of_ble_eq_true rfl, Nat.le_of_ble_eq_true rfl⟩) (m_preV 1 0 rfl rfl hK hw [0] rfl rfl) rfl rfl hl.1 rfl (lv_room (Nat.le_of_ble_eq_true rfl)) d_G_hasLiteral_8 ⟨Nat.zero_le _, Nat.zero_le _⟩) (w2 := (fun (_ : Unit) => [(k_G cA ad G_size G_inputs)])) (wr := []) hw hA [0] [] [0] rfl rfl (by decide) (by decide) (by decide) (fun _ => rfl) (fun r8 u H locs hw h => ?_)
    refine lv_if_eq (tgt := 18) hx hb d_G_hasLiteral_11 (by decide) (fun hc => ?_) (fun hc => ?_)
    · have h := h.1 hc
      refine lv_iconst (v := 0) hx hb d_G_hasLiteral_18 (by decide) ?_
      exact hE 0 () _ _ _ _ h rfl hw d_G_hasLiteral_19
    · have h := h.2 hc
      refine lv_iconst (v := 1) hx hb d_G_hasLiteral_14 (by decide) ?_
      refine lv_goto (tgt := 19) hx hb d_G_hasLiteral_15 (by decide) ?_
      exact hE 1 () _ _ _ _ h rfl hw d_G_hasLiteral_19
def rm_G_add : Room := { frames := 0, cells := 0, slots := 0, locals := 0 }
set_option maxHeartbeats 4000000 in
set_option maxRecDepth 100000 in
theorem c_G_add (l : Launch) (D : va_G) (cA : Nat → ClassId) (ad : Nat → Nat) (sz : Nat) (G_size : Int32) (G_inputs : Int32) (G_kinds : (Nat → Int32)) (G_lefts : (Nat → Int32)) (G_rights : (Nat → Int32)) (p1 : Int32) (p2 : Int32) (p3 : Int32) (post : Int32 → Int32 → Int32 → (Nat → Int32) → (Nat → Int32) → (Nat → Int32) → Prop) (h : wp_G_add G_size G_inputs G_kinds G_lefts G_rights p1 p2 p3 post) : Met l y_G_add w_G_add rm_G_add (mPc D cA [.ref (ad 1), .int p1, .int p2, .int p3] [(k_G cA ad G_size G_inputs), (k_G_kinds cA ad G_kinds), (k_G_lefts cA ad G_lefts), (k_G_rights cA ad G_rights)] sz) (va_Qi (fun (r : Int32) (u : Int32 × Int32 × (Nat → Int32) × (Nat → Int32) × (Nat → Int32)) => post r u.1 u.2.1 u.2.2.1 u.2.2.2.1 u.2.2.2.2) (mB D (va_A [(k_G cA ad G_size G_inputs), (k_G_kinds cA ad G_kinds), (k_G_lefts cA ad G_lefts), (k_G_rights cA ad G_rights)] sz) (fun (u : Int32 × Int32 × (Nat → Int32) × (Nat → Int32) × (Nat → Int32)) => [(k_G cA ad u.1 u.2.1), (k_G_kinds cA ad u.2.2.1), (k_G_lefts cA ad u.2.2.2.1), (k_G_rights cA ad u.2.2.2.2)])) (va_A [(k_G cA ad G_size G_inputs), (k_G_kinds cA ad G_kinds), (k_G_lefts cA ad G_lefts), (k_G_rights cA ad G_rights)] sz)) 0 0 (va_A [(k_G cA ad G_size G_inputs), (k_G_kinds cA ad G_kinds), (k_G_lefts cA ad G_lefts), (k_G_rights cA ad G_rights)] sz) := by
  refine m_methI (by decide) rfl (Nat.le_of_ble_eq_true rfl) ?_
  intro p e s m below meth c A Q ls hx hb hml hown hts hK hA hw hl hE
  have hl : lv_has ls 5 [(0, .ref (ad 1)), (1, .int p1), (2, .int p2), (3, .int p3)] := hl
  have hown : s.vm.findClass R_G = some m.cls := hown
  have hg : ∀ {w : Cond}, w ∈ gw → w.before _ s = true := fun h => hts _ (List.mem_cons_of_mem _ h)
  have j47 : ∀ (x4 : Int32) (G_size : Int32) (G_inputs : Int32) (G_kinds : (Nat → Int32)) (G_lefts : (Nat → Int32)) (G_rights : (Nat → Int32)) (H : Heap) (locs : List Loc) (ls : Array Slot), s_G_add_47 p1 p2 p3 post x4 G_size G_inputs G_kinds G_lefts G_rights → mW D A s.heap [(k_G cA ad G_size G_inputs), (k_G_kinds cA ad G_kinds), (k_G_lefts cA ad G_lefts), (k_G_rights cA ad G_rights)] H locs → lv_has ls 5 [(0, .ref (ad 1)), (4, .int x4)] → W p l e rm_G_add s m [.ref (ad 1), .int p1, .int p2, .int p3].toArray below meth c H locs 0 0 Q (F0 m 47 ls []) := by
    intro x4 G_size G_inputs G_kinds G_lefts G_rights H locs ls h hw hl
    unfold s_G_add_47 at h
    refine lv_aload_n hx hb d_G_add_47 rfl (lv_at hl 0 rfl) ?_
    refine lv_dup hx hb d_G_add_48 rfl ?_
    refine va_get (D := D) (ci := 1) (v := .int G_size) (C := R_G) (T := T_G) (N := 6) hx hb hts (fun w h => List.mem_cons_of_mem _ (iw_G w h)) hown hK.1 hw.1 0 rfl rfl 4 (by decide) (hg gm_38) (fun _ h9 => h9) rfl d_G_add_49 ?_
    refine lv_iconst (v := 1) hx hb d_G_add_52 (by decide) ?_
    refine lv_iadd hx hb d_G_add_53 ?_
    refine m_put (ws' := [(k_G cA ad (G_size + 1) G_inputs), (k_G_kinds cA ad G_kinds), (k_G_lefts cA ad G_lefts), (k_G_rights cA ad G_rights)]) (ci := 1) (v := .int (G_size + 1)) (ty := .int) (C := R_G) (T := T_G) (N := 6) hx hb hts (fun w h => List.mem_cons_of_mem _ (iw_G w h)) ty_G tyok_G nm_G hown hK.1 hw 0 rfl rfl 4 (by decide) (hg gm_38) (fun _ h9 => h9) rfl (by decide +kernel) rfl rfl (Nat.le_of_ble_eq_true rfl) rfl d_G_add_54 (fun H locs hw => ?_)
    refine lv_iload hx hb d_G_add_57 (lv_at hl 1 rfl) ?_
    exact hE x4 ((G_size + 1), G_inputs, G_kinds, G_lefts, G_rights) _ _ _ _ h hw d_G_add_59
  unfold wp_G_add at h
  refine lv_aload_n hx hb d_G_add_0 rfl (lv_at hl 0 rfl) ?_
  refine va_get (D := D) (ci := 1) (v := .int G_size) (C := R_G) (T := T_G) (N := 6) hx hb hts (fun w h => List.mem_cons_of_mem _ (iw_G w h)) hown hK.1 hw.1 0 rfl rfl 4 (by decide) (hg gm_38) (fun _ h9 => h9) rfl d_G_add_1 ?_
  refine lv_istore (lv' := [(4, .int G_size), (0, .ref (ad 1)), (1, .int p1), (2, .int p2), (3, .int p3)]) hx hb d_G_add_4 hl (by decide) rfl (fun ls hl => ?_)
  refine lv_aload_n hx hb d_G_add_6 rfl (lv_at hl 1 rfl) ?_
  refine va_get (D := D) (ci := 1) (v := .ref (ad 2)) (C := R_G) (T := T_G) (N := 6) hx hb hts (fun w h => List.mem_cons_of_mem _ (iw_G w h)) hown hK.1 hw.1 0 rfl rfl 0 (by decide) (hg gm_31) (fun _ h9 => h9) rfl d_G_add_7 ?_
  refine lv_iload hx hb d_G_add_10 (lv_at hl 0 rfl) ?_
  refine lv_iload_n hx hb d_G_add_12 rfl (lv_at hl 2 rfl) ?_
  refine m_iast (ws' := [(k_G cA ad G_size G_inputs), (k_G_kinds cA ad (upd G_kinds G_size.toNatClampNeg p1)), (k_G_lefts cA ad G_lefts), (k_G_rights cA ad G_rights)]) hx hb hK.1 hw 1 0 rfl rfl h.1 rfl d_G_add_13 (fun H locs hw => ?_)
  have h := h.2
  refine lv_iload_n hx hb d_G_add_14 rfl (lv_at hl 2 rfl) ?_
  refine lv_if_ne (tgt := 31) hx hb d_G_add_15 (by decide) (fun hc => ?_) (fun hc => ?_)
  · have h := h.2 hc
    refine lv_aload_n hx hb d_G_add_31 rfl (lv_at hl 1 rfl) ?_
    refine va_get (D := D) (ci := 1) (v := .ref (ad 3)) (C := R_G) (T := T_G) (N := 6) hx hb hts (fun w h => List.mem_cons_of_mem _ (iw_G w h)) hown hK.1 hw.1 0 rfl rfl 1 (by decide) (hg gm_33) (fun _ h9 => h9) rfl d_G_add_32 ?_
    refine lv_iload hx hb d_G_add_35 (lv_at hl 0 rfl) ?_
    refine lv_iload_n hx hb d_G_add_37 rfl (lv_at hl 3 rfl) ?_
    refine m_iast (ws' := [(k_G cA ad G_size G_inputs), (k_G_kinds cA ad (upd G_kinds G_size.toNatClampNeg p1)), (k_G_lefts cA ad (upd G_lefts G_size.toNatClampNeg p2)), (k_G_rights cA ad G_rights)]) hx hb hK.1 hw 2 0 rfl rfl h.1 rfl d_G_add_38 (fun H locs hw => ?_)
    have h := h.2
    refine lv_aload_n hx hb d_G_add_39 rfl (lv_at hl 1 rfl) ?_
    refine va_get (D := D) (ci := 1) (v := .ref (ad 4)) (C := R_G) (T := T_G) (N := 6) hx hb hts (fun w h => List.mem_cons_of_mem _ (iw_G w h)) hown hK.1 hw.1 0 rfl rfl 2 (by decide) (hg gm_35) (fun _ h9 => h9) rfl d_G_add_40 ?_
    refine lv_iload hx hb d_G_add_43 (lv_at hl 0 rfl) ?_
    refine lv_iload_n hx hb d_G_add_45 rfl (lv_at hl 4 rfl) ?_
    refine m_iast (ws' := [(k_G cA ad G_size G_inputs), (k_G_kinds cA ad (upd G_kinds G_size.toNatClampNeg p1)), (k_G_lefts cA ad (upd G_lefts G_size.toNatClampNeg p2)), (k_G_rights cA ad (upd G_rights G_size.toNatClampNeg p3))]) hx hb hK.1 hw 3 0 rfl rfl h.1 rfl d_G_add_46 (fun H locs hw => ?_)
    have h := h.2
    exact j47 _ _ _ _ _ _ _ _ _ h hw (lv_sub hl [1, 0] rfl)
  · have h := h.1 hc
    refine lv_aload_n hx hb d_G_add_18 rfl (lv_at hl 1 rfl) ?_
    refine lv_dup hx hb d_G_add_19 rfl ?_
    refine va_get (D := D) (ci := 1) (v := .int G_inputs) (C := R_G) (T := T_G) (N := 6) hx hb hts (fun w h => List.mem_cons_of_mem _ (iw_G w h)) hown hK.1 hw.1 0 rfl rfl 5 (by decide) (hg gm_41) (fun _ h9 => h9) rfl d_G_add_20 ?_
    refine lv_iconst (v := 1) hx hb d_G_add_23 (by decide) ?_
    refine lv_iadd hx hb d_G_add_24 ?_
    refine m_put (ws' := [(k_G cA ad G_size (G_inputs + 1)), (k_G_kinds cA ad (upd G_kinds G_size.toNatClampNeg p1)), (k_G_lefts cA ad G_lefts), (k_G_rights cA ad G_rights)]) (ci := 1) (v := .int (G_inputs + 1)) (ty := .int) (C := R_G) (T := T_G) (N := 6) hx hb hts (fun w h => List.mem_cons_of_mem _ (iw_G w h)) ty_G tyok_G nm_G hown hK.1 hw 0 rfl rfl 5 (by decide) (hg gm_41) (fun _ h9 => h9) rfl (by decide +kernel) rfl rfl (Nat.le_of_ble_eq_true rfl) rfl d_G_add_25 (fun H locs hw => ?_)
    refine lv_goto (tgt := 47) hx hb d_G_add_28 (by decide) ?_
    exact j47 _ _ _ _ _ _ _ _ _ h hw (lv_sub hl [1, 0] rfl)
def rm_G_truthOf : Room := { frames := 0, cells := 0, slots := 0, locals := 0 }
set_option maxHeartbeats 4000000 in
set_option maxRecDepth 100000 in
theorem c_G_truthOf (l : Launch) (D : va_G) (cA : Nat → ClassId) (ad : Nat → Nat) (sz : Nat) (G_size : Int32) (G_inputs : Int32) (G_truths : (Nat → Int32)) (p1 : Int32) (post : Int32 → Prop) (h : wp_G_truthOf G_truths p1 post) : Met l y_G_truthOf w_G_truthOf rm_G_truthOf (mPc D cA [.ref (ad 1), .int p1] [(k_G cA ad G_size G_inputs), (k_G_truths cA ad G_truths)] sz) (va_Qi (fun (r : Int32) (_ : Unit) => post r) (mB D (va_A [(k_G cA ad G_size G_inputs), (k_G_truths cA ad G_truths)] sz) (fun (_ : Unit) => [(k_G cA ad G_size G_inputs), (k_G_truths cA ad G_truths)])) (va_A [(k_G cA ad G_size G_inputs), (k_G_truths cA ad G_truths)] sz)) 0 0 (va_A [(k_G cA ad G_size G_inputs), (k_G_truths cA ad G_truths)] sz) := by
  refine m_methZ (by decide) rfl (Nat.le_of_ble_eq_true rfl) ?_
  intro p e s m below meth c A Q ls hx hb hml hown hts hK hA hw hl hE
  have hl : lv_has ls 2 [(0, .ref (ad 1)), (1, .int p1)] := hl
  have hown : s.vm.findClass R_G = some m.cls := hown
  have hg : ∀ {w : Cond}, w ∈ gw → w.before _ s = true := fun h => hts _ (List.mem_cons_of_mem _ h)
  have j20 : ∀ (s0 : Int32) (s1 : Int32) (H : Heap) (locs : List Loc) (ls : Array Slot), s_G_truthOf_20 G_truths p1 post s0 s1 → mW D A s.heap [(k_G cA ad G_size G_inputs), (k_G_truths cA ad G_truths)] H locs → lv_has ls 2 [] → W p l e rm_G_truthOf s m [.ref (ad 1), .int p1].toArray below meth c H locs 0 0 Q (F0 m 20 ls [.int s0, .int s1]) := by
    intro s0 s1 H locs ls h hw hl
    unfold s_G_truthOf_20 at h
    refine lv_icmp_eq (tgt := 27) hx hb d_G_truthOf_20 (by decide) (fun hc => ?_) (fun hc => ?_)
    · have h := h.1 hc
      refine lv_iconst (v := 0) hx hb d_G_truthOf_27 (by decide) ?_
      exact hE 0 () _ _ _ _ h rfl hw d_G_truthOf_28
    · have h := h.2 hc
      refine lv_iconst (v := 1) hx hb d_G_truthOf_23 (by decide) ?_
      refine lv_goto (tgt := 28) hx hb d_G_truthOf_24 (by decide) ?_
      exact hE 1 () _ _ _ _ h rfl hw d_G_truthOf_28
  unfold wp_G_truthOf at h
  refine lv_aload_n hx hb d_G_truthOf_0 rfl (lv_at hl 0 rfl) ?_
  refine va_get (D := D) (ci := 1) (v := .ref (ad 5)) (C := R_G) (T := T_G) (N := 6) hx hb hts (fun w h => List.mem_cons_of_mem _ (iw_G w h)) hown hK.1 hw.1 0 rfl rfl 3 (by decide) (hg gm_37) (fun _ h9 => h9) rfl d_G_truthOf_1 ?_
  refine lv_iload_n hx hb d_G_truthOf_4 rfl (lv_at hl 1 rfl) ?_
  refine lv_iconst (v := 1) hx hb d_G_truthOf_5 (by decide) ?_
  refine lv_ishr hx hb d_G_truthOf_6 ?_
  refine va_zald hx hb hK.1 hw.1 1 1 rfl rfl h.1 d_G_truthOf_7 ?_
  have h := h.2
  refine lv_iload_n hx hb d_G_truthOf_8 rfl (lv_at hl 1 rfl) ?_
  refine lv_iconst (v := 1) hx hb d_G_truthOf_9 (by decide) ?_
  refine lv_iand hx hb d_G_truthOf_10 ?_
  refine lv_iconst (v := 1) hx hb d_G_truthOf_11 (by decide) ?_
  refine lv_icmp_ne (tgt := 19) hx hb d_G_truthOf_12 (by decide) (fun hc => ?_) (fun hc => ?_)
  · have h := h.2 hc
    refine lv_iconst (v := 0) hx hb d_G_truthOf_19 (by decide) ?_
    exact j20 _ _ _ _ _ h hw (lv_sub hl [] rfl)
  · have h := h.1 hc
    refine lv_iconst (v := 1) hx hb d_G_truthOf_15 (by decide) ?_
    refine lv_goto (tgt := 20) hx hb d_G_truthOf_16 (by decide) ?_
    exact j20 _ _ _ _ _ h hw (lv_sub hl [] rfl)
def rm_G_isTrueWith : Room := { frames := 1, cells := 0, slots := 0, locals := 21 }
set_option maxHeartbeats 4000000 in
set_option maxRecDepth 100000 in
theorem c_G_isTrueWith (l : Launch) (D : va_G) (cA : Nat → ClassId) (ad : Nat → Nat) (sz : Nat) (G_size : Int32) (G_inputs : Int32) (G_kinds : (Nat → Int32)) (G_lefts : (Nat → Int32)) (G_rights : (Nat → Int32)) (G_truths : (Nat → Int32)) (p1 : Int32) (p2 : Int64) (post : Int32 → (Nat → Int32) → Prop) (h : wp_G_isTrueWith G_kinds G_lefts G_rights G_truths p1 p2 post) : Met l y_G_isTrueWith w_G_isTrueWith rm_G_isTrueWith (mPc D cA [.ref (ad 1), .int p1, .long p2] [(k_G cA ad G_size G_inputs), (k_G_kinds cA ad G_kinds), (k_G_lefts cA ad G_lefts), (k_G_rights cA ad G_rights), (k_G_truths cA ad G_truths)] sz) (va_Qi (fun (r : Int32) (u : (Nat → Int32)) => post r u) (mB D (va_A [(k_G cA ad G_size G_inputs), (k_G_kinds cA ad G_kinds), (k_G_lefts cA ad G_lefts), (k_G_rights cA ad G_rights), (k_G_truths cA ad G_truths)] sz) (fun (u : (Nat → Int32)) => [(k_G cA ad G_size G_inputs), (k_G_kinds cA ad G_kinds), (k_G_lefts cA ad G_lefts), (k_G_rights cA ad G_rights), (k_G_truths cA ad u)])) (va_A [(k_G cA ad G_size G_inputs), (k_G_kinds cA ad G_kinds), (k_G_lefts cA ad G_lefts), (k_G_rights cA ad G_rights), (k_G_truths cA ad G_truths)] sz)) 0 0 (va_A [(k_G cA ad G_size G_inputs), (k_G_kinds cA ad G_kinds), (k_G_lefts cA ad G_lefts), (k_G_rights cA ad G_rights), (k_G_truths cA ad G_truths)] sz) := by
  refine m_methZ (by decide) rfl (Nat.le_of_ble_eq_true rfl) ?_
  intro p e s m below meth c A Q ls hx hb hml hown hts hK hA hw hl hE
  have hl : lv_has ls 8 [(0, .ref (ad 1)), (1, .int p1), (2, .long p2)] := hl
  have hown : s.vm.findClass R_G = some m.cls := hown
  have hg : ∀ {w : Cond}, w ∈ gw → w.before _ s = true := fun h => hts _ (List.mem_cons_of_mem _ h)
  obtain ⟨C11, hC11⟩ : ∃ C : Int32 → Int64 → Int32 → (Nat → Int32) → Prop, ∀ (x4 : Int32) (x5 : Int64) (x7 : Int32) (G_truths : (Nat → Int32)), C x4 x5 x7 G_truths ↔ (∀ (H : Heap) (locs : List Loc) (ls : Array Slot), mW D A s.heap [(k_G cA ad G_size G_inputs), (k_G_kinds cA ad G_kinds), (k_G_lefts cA ad G_lefts), (k_G_rights cA ad G_rights), (k_G_truths cA ad G_truths)] H locs → lv_has ls 8 [(0, .ref (ad 1)), (1, .int p1), (4, .int x4), (5, .long x5), (7, .int x7)] → W p l e rm_G_isTrueWith s m [.ref (ad 1), .int p1, .long p2].toArray below meth c H locs 0 0 Q (F0 m 11 ls [])) := ⟨_, fun _ _ _ _ => Iff.rfl⟩
  have j149 : ∀ (x4 : Int32) (x5 : Int64) (x7 : Int32) (G_truths : (Nat → Int32)) (H : Heap) (locs : List Loc) (ls : Array Slot), s_G_isTrueWith_149 G_kinds G_lefts G_rights p1 p2 C11 post x4 x5 x7 G_truths → mW D A s.heap [(k_G cA ad G_size G_inputs), (k_G_kinds cA ad G_kinds), (k_G_lefts cA ad G_lefts), (k_G_rights cA ad G_rights), (k_G_truths cA ad G_truths)] H locs → lv_has ls 8 [(0, .ref (ad 1)), (1, .int p1), (4, .int x4), (5, .long x5), (7, .int x7)] → W p l e rm_G_isTrueWith s m [.ref (ad 1), .int p1, .long p2].toArray below meth c H locs 0 0 Q (F0 m 149 ls []) := by
    intro x4 x5 x7 G_truths H locs ls h hw hl
    unfold s_G_isTrueWith_149 at h
    refine lv_iinc (v := (x7 + 1)) (lv' := [(7, .int (x7 + 1)), (0, .ref (ad 1)), (1, .int p1), (4, .int x4), (5, .long x5)]) hx hb d_G_isTrueWith_149 hl (k := 4) rfl rfl (by decide) rfl (fun ls hl => ?_)
    refine lv_goto (tgt := 11) hx hb d_G_isTrueWith_152 (by decide) ?_
    exact (hC11 _ _ _ _).1 h _ _ _ hw (lv_sub hl [1, 2, 3, 4, 0] rfl)
  have j148 : ∀ (s0 : Int32) (s1 : Int32) (x4 : Int32) (x5 : Int64) (x7 : Int32) (G_truths : (Nat → Int32)) (H : Heap) (locs : List Loc) (ls : Array Slot), s_G_isTrueWith_148 G_kinds G_lefts G_rights p1 p2 C11 post s0 s1 x4 x5 x7 G_truths → mW D A s.heap [(k_G cA ad G_size G_inputs), (k_G_kinds cA ad G_kinds), (k_G_lefts cA ad G_lefts), (k_G_rights cA ad G_rights), (k_G_truths cA ad G_truths)] H locs → lv_has ls 8 [(0, .ref (ad 1)), (1, .int p1), (4, .int x4), (5, .long x5), (7, .int x7)] → W p l e rm_G_isTrueWith s m [.ref (ad 1), .int p1, .long p2].toArray below meth c H locs 0 0 Q (F0 m 148 ls [.int s0, .int s1, .ref (ad 5)]) := by
    intro s0 s1 x4 x5 x7 G_truths H locs ls h hw hl
    unfold s_G_isTrueWith_148 at h
    refine m_zast (ws' := [(k_G cA ad G_size G_inputs), (k_G_kinds cA ad G_kinds), (k_G_lefts cA ad G_lefts), (k_G_rights cA ad G_rights), (k_G_truths cA ad (upd G_truths s1.toNatClampNeg (vp_nar .boolean s0)))]) hx hb hK.1 hw 4 1 rfl rfl h.1 rfl d_G_isTrueWith_148 (fun H locs hw => ?_)
    have h := h.2
    exact j149 _ _ _ _ _ _ _ h hw (lv_sub hl [0, 1, 2, 3, 4] rfl)
  have j108 : ∀ (s0 : Int32) (s1 : Int32) (x4 : Int32) (x5 : Int64) (x7 : Int32) (G_truths : (Nat → Int32)) (H : Heap) (locs : List Loc) (ls : Array Slot), s_G_isTrueWith_108 G_kinds G_lefts G_rights p1 p2 C11 post s0 s1 x4 x5 x7 G_truths → mW D A s.heap [(k_G cA ad G_size G_inputs), (k_G_kinds cA ad G_kinds), (k_G_lefts cA ad G_lefts), (k_G_rights cA ad G_rights), (k_G_truths cA ad G_truths)] H locs → lv_has ls 8 [(0, .ref (ad 1)), (1, .int p1), (4, .int x4), (5, .long x5), (7, .int x7)] → W p l e rm_G_isTrueWith s m [.ref (ad 1), .int p1, .long p2].toArray below meth c H locs 0 0 Q (F0 m 108 ls [.int s0, .int s1, .ref (ad 5)]) := by
    intro s0 s1 x4 x5 x7 G_truths H locs ls h hw hl
    unfold s_G_isTrueWith_108 at h
    refine m_zast (ws' := [(k_G cA ad G_size G_inputs), (k_G_kinds cA ad G_kinds), (k_G_lefts cA ad G_lefts), (k_G_rights cA ad G_rights), (k_G_truths cA ad (upd G_truths s1.toNatClampNeg (vp_nar .boolean s0)))]) hx hb hK.1 hw 4 1 rfl rfl h.1 rfl d_G_isTrueWith_108 (fun H locs hw => ?_)
    have h := h.2
    refine lv_goto (tgt := 149) hx hb d_G_isTrueWith_109 (by decide) ?_
    exact j149 _ _ _ _ _ _ _ h hw (lv_sub hl [0, 1, 2, 3, 4] rfl)
  have j107 : ∀ (s0 : Int32) (x4 : Int32) (x5 : Int64) (x7 : Int32) (G_truths : (Nat → Int32)) (H : Heap) (locs : List Loc) (ls : Array Slot), s_G_isTrueWith_107 G_kinds G_lefts G_rights p1 p2 C11 post s0 x4 x5 x7 G_truths → mW D A s.heap [(k_G cA ad G_size G_inputs), (k_G_kinds cA ad G_kinds), (k_G_lefts cA ad G_lefts), (k_G_rights cA ad G_rights), (k_G_truths cA ad G_truths)] H locs → lv_has ls 8 [(0, .ref (ad 1)), (1, .int p1), (4, .int x4), (5, .long x5), (7, .int x7)] → W p l e rm_G_isTrueWith s m [.ref (ad 1), .int p1, .long p2].toArray below meth c H locs 0 0 Q (F0 m 107 ls [.int s0, .ref (ad 5)]) := by
    intro s0 x4 x5 x7 G_truths H locs ls h hw hl
    unfold s_G_isTrueWith_107 at h
    refine lv_iconst (v := 0) hx hb d_G_isTrueWith_107 (by decide) ?_
    exact j108 _ _ _ _ _ _ _ _ _ h hw (lv_sub hl [0, 1, 2, 3, 4] rfl)
  have j48 : ∀ (s0 : Int32) (s1 : Int32) (x4 : Int32) (x5 : Int64) (x7 : Int32) (G_truths : (Nat → Int32)) (H : Heap) (locs : List Loc) (ls : Array Slot), s_G_isTrueWith_48 G_kinds G_lefts G_rights p1 p2 C11 post s0 s1 x4 x5 x7 G_truths → mW D A s.heap [(k_G cA ad G_size G_inputs), (k_G_kinds cA ad G_kinds), (k_G_lefts cA ad G_lefts), (k_G_rights cA ad G_rights), (k_G_truths cA ad G_truths)] H locs → lv_has ls 8 [(0, .ref (ad 1)), (1, .int p1), (4, .int x4), (5, .long x5), (7, .int x7)] → W p l e rm_G_isTrueWith s m [.ref (ad 1), .int p1, .long p2].toArray below meth c H locs 0 0 Q (F0 m 48 ls [.int s0, .int s1, .ref (ad 5)]) := by
    intro s0 s1 x4 x5 x7 G_truths H locs ls h hw hl
    unfold s_G_isTrueWith_48 at h
    refine m_zast (ws' := [(k_G cA ad G_size G_inputs), (k_G_kinds cA ad G_kinds), (k_G_lefts cA ad G_lefts), (k_G_rights cA ad G_rights), (k_G_truths cA ad (upd G_truths s1.toNatClampNeg (vp_nar .boolean s0)))]) hx hb hK.1 hw 4 1 rfl rfl h.1 rfl d_G_isTrueWith_48 (fun H locs hw => ?_)
    have h := h.2
    refine lv_lload hx hb d_G_isTrueWith_49 (lv_at hl 3 rfl) ?_
    refine lv_iconst (v := 1) hx hb d_G_isTrueWith_51 (by decide) ?_
    refine lv_lushr hx hb d_G_isTrueWith_52 rfl ?_
    refine lv_lstore (lv' := [(5, .long ((x5.toUInt64 >>> ((1 : Int32).toInt64.toUInt64 &&& Int64.toUInt64 63)).toInt64)), (0, .ref (ad 1)), (1, .int p1), (4, .int x4), (7, .int x7)]) hx hb d_G_isTrueWith_53 hl (by decide) rfl (fun ls hl => ?_)
    refine lv_goto (tgt := 149) hx hb d_G_isTrueWith_55 (by decide) ?_
    exact j149 _ _ _ _ _ _ _ h hw (lv_sub hl [1, 2, 3, 0, 4] rfl)
  have hc11 : ∀ (x4 : Int32) (x5 : Int64) (x7 : Int32) (G_truths : (Nat → Int32)), s_G_isTrueWith_11 G_kinds G_lefts G_rights p1 p2 C11 post x4 x5 x7 G_truths → C11 x4 x5 x7 G_truths := by
    intro x4 x5 x7 G_truths h
    unfold s_G_isTrueWith_11 at h
    refine (hC11 _ _ _ _).2 ?_
    intro H locs ls hw hl
    refine lv_iload hx hb d_G_isTrueWith_11 (lv_at hl 4 rfl) ?_
    refine lv_iload hx hb d_G_isTrueWith_13 (lv_at hl 2 rfl) ?_
    refine lv_icmp_gt (tgt := 155) hx hb d_G_isTrueWith_15 (by decide) (fun hc => ?_) (fun hc => ?_)
    · have h := h.1 hc
      refine lv_aload_n hx hb d_G_isTrueWith_155 rfl (lv_at hl 0 rfl) ?_
      refine lv_iload_n hx hb d_G_isTrueWith_156 rfl (lv_at hl 1 rfl) ?_
      refine m_calli (hr := va_runV (As := [.int p1]) (rest := []) ⟨hx, hb, hml, hown, hts⟩ (c_G_truthOf l D cA ad _ G_size G_inputs G_truths p1 _ h) (cwV 1 hts (ginV gm_522 gm_524 gs_39 gm_2 gm_525) rfl rfl rfl (by decide +kernel) ⟨Nat.le_of_ble_eq_true rfl, Nat.le_of_ble_eq_true rfl⟩) (m_preV 1 0 rfl rfl hK hw [0, 4] rfl rfl) rfl rfl hl.1 rfl (lv_room (Nat.le_of_ble_eq_true rfl)) d_G_isTrueWith_157 ⟨Nat.zero_le _, Nat.zero_le _⟩) (w2 := (fun (_ : Unit) => [(k_G cA ad G_size G_inputs), (k_G_kinds cA ad G_kinds), (k_G_lefts cA ad G_lefts), (k_G_rights cA ad G_rights), (k_G_truths cA ad G_truths)])) (wr := [(k_G_kinds cA ad G_kinds), (k_G_lefts cA ad G_lefts), (k_G_rights cA ad G_rights)]) hw hA [0, 4] [1, 2, 3] [3, 0, 1, 2, 4] rfl rfl (by decide) (by decide) (by decide) (fun _ => rfl) (fun r157 u H locs hw h => ?_)
      exact hE r157 (G_truths) _ _ _ _ h.2 (isB_nar h.1) hw d_G_isTrueWith_160
    · have h := h.2 hc
      refine lv_aload_n hx hb d_G_isTrueWith_18 rfl (lv_at hl 0 rfl) ?_
      refine va_get (D := D) (ci := 1) (v := .ref (ad 2)) (C := R_G) (T := T_G) (N := 6) hx hb hts (fun w h => List.mem_cons_of_mem _ (iw_G w h)) hown hK.1 hw.1 0 rfl rfl 0 (by decide) (hg gm_31) (fun _ h9 => h9) rfl d_G_isTrueWith_19 ?_
      refine lv_iload hx hb d_G_isTrueWith_22 (lv_at hl 4 rfl) ?_
      refine va_iald hx hb hK.1 hw.1 1 0 rfl rfl h.1 d_G_isTrueWith_24 ?_
      have h := h.2
      refine lv_if_ne (tgt := 58) hx hb d_G_isTrueWith_25 (by decide) (fun hc => ?_) (fun hc => ?_)
      · have h := h.2 hc
        refine lv_aload_n hx hb d_G_isTrueWith_58 rfl (lv_at hl 0 rfl) ?_
        refine va_get (D := D) (ci := 1) (v := .ref (ad 2)) (C := R_G) (T := T_G) (N := 6) hx hb hts (fun w h => List.mem_cons_of_mem _ (iw_G w h)) hown hK.1 hw.1 0 rfl rfl 0 (by decide) (hg gm_31) (fun _ h9 => h9) rfl d_G_isTrueWith_59 ?_
        refine lv_iload hx hb d_G_isTrueWith_62 (lv_at hl 4 rfl) ?_
        refine va_iald hx hb hK.1 hw.1 1 0 rfl rfl h.1 d_G_isTrueWith_64 ?_
        have h := h.2
        refine lv_iconst (v := 1) hx hb d_G_isTrueWith_65 (by decide) ?_
        refine lv_icmp_ne (tgt := 112) hx hb d_G_isTrueWith_66 (by decide) (fun hc => ?_) (fun hc => ?_)
        · have h := h.2 hc
          refine lv_aload_n hx hb d_G_isTrueWith_112 rfl (lv_at hl 0 rfl) ?_
          refine va_get (D := D) (ci := 1) (v := .ref (ad 5)) (C := R_G) (T := T_G) (N := 6) hx hb hts (fun w h => List.mem_cons_of_mem _ (iw_G w h)) hown hK.1 hw.1 0 rfl rfl 3 (by decide) (hg gm_37) (fun _ h9 => h9) rfl d_G_isTrueWith_113 ?_
          refine lv_iload hx hb d_G_isTrueWith_116 (lv_at hl 4 rfl) ?_
          refine lv_aload_n hx hb d_G_isTrueWith_118 rfl (lv_at hl 0 rfl) ?_
          refine lv_aload_n hx hb d_G_isTrueWith_119 rfl (lv_at hl 0 rfl) ?_
          refine va_get (D := D) (ci := 1) (v := .ref (ad 3)) (C := R_G) (T := T_G) (N := 6) hx hb hts (fun w h => List.mem_cons_of_mem _ (iw_G w h)) hown hK.1 hw.1 0 rfl rfl 1 (by decide) (hg gm_33) (fun _ h9 => h9) rfl d_G_isTrueWith_120 ?_
          refine lv_iload hx hb d_G_isTrueWith_123 (lv_at hl 4 rfl) ?_
          refine va_iald hx hb hK.1 hw.1 2 0 rfl rfl h.1 d_G_isTrueWith_125 ?_
          have h := h.2
          refine m_calli (hr := va_runV (As := [.int (G_lefts x7.toNatClampNeg)]) (rest := [.int x7, .ref (ad 5)]) ⟨hx, hb, hml, hown, hts⟩ (c_G_truthOf l D cA ad _ G_size G_inputs G_truths (G_lefts x7.toNatClampNeg) _ h) (cwV 1 hts (ginV gm_522 gm_524 gs_39 gm_2 gm_525) rfl rfl rfl (by decide +kernel) ⟨Nat.le_of_ble_eq_true rfl, Nat.le_of_ble_eq_true rfl⟩) (m_preV 1 0 rfl rfl hK hw [0, 4] rfl rfl) rfl rfl hl.1 rfl (lv_room (Nat.le_of_ble_eq_true rfl)) d_G_isTrueWith_126 ⟨Nat.zero_le _, Nat.zero_le _⟩) (w2 := (fun (_ : Unit) => [(k_G cA ad G_size G_inputs), (k_G_kinds cA ad G_kinds), (k_G_lefts cA ad G_lefts), (k_G_rights cA ad G_rights), (k_G_truths cA ad G_truths)])) (wr := [(k_G_kinds cA ad G_kinds), (k_G_lefts cA ad G_lefts), (k_G_rights cA ad G_rights)]) hw hA [0, 4] [1, 2, 3] [3, 0, 1, 2, 4] rfl rfl (by decide) (by decide) (by decide) (fun _ => rfl) (fun r126 u H locs hw h => ?_)
          refine lv_aload_n hx hb d_G_isTrueWith_129 rfl (lv_at hl 0 rfl) ?_
          refine lv_aload_n hx hb d_G_isTrueWith_130 rfl (lv_at hl 0 rfl) ?_
          refine va_get (D := D) (ci := 1) (v := .ref (ad 4)) (C := R_G) (T := T_G) (N := 6) hx hb hts (fun w h => List.mem_cons_of_mem _ (iw_G w h)) hown hK.1 hw.1 0 rfl rfl 2 (by decide) (hg gm_35) (fun _ h9 => h9) rfl d_G_isTrueWith_131 ?_
          refine lv_iload hx hb d_G_isTrueWith_134 (lv_at hl 4 rfl) ?_
          refine va_iald hx hb hK.1 hw.1 3 0 rfl rfl h.1 d_G_isTrueWith_136 ?_
          have h := h.2
          refine m_calli (hr := va_runV (As := [.int (G_rights x7.toNatClampNeg)]) (rest := [.int r126, .int x7, .ref (ad 5)]) ⟨hx, hb, hml, hown, hts⟩ (c_G_truthOf l D cA ad _ G_size G_inputs G_truths (G_rights x7.toNatClampNeg) _ h) (cwV 1 hts (ginV gm_522 gm_524 gs_39 gm_2 gm_525) rfl rfl rfl (by decide +kernel) ⟨Nat.le_of_ble_eq_true rfl, Nat.le_of_ble_eq_true rfl⟩) (m_preV 1 0 rfl rfl hK hw [0, 4] rfl rfl) rfl rfl hl.1 rfl (lv_room (Nat.le_of_ble_eq_true rfl)) d_G_isTrueWith_137 ⟨Nat.zero_le _, Nat.zero_le _⟩) (w2 := (fun (_ : Unit) => [(k_G cA ad G_size G_inputs), (k_G_kinds cA ad G_kinds), (k_G_lefts cA ad G_lefts), (k_G_rights cA ad G_rights), (k_G_truths cA ad G_truths)])) (wr := [(k_G_kinds cA ad G_kinds), (k_G_lefts cA ad G_lefts), (k_G_rights cA ad G_rights)]) hw hA [0, 4] [1, 2, 3] [3, 0, 1, 2, 4] rfl rfl (by decide) (by decide) (by decide) (fun _ => rfl) (fun r137 u H locs hw h => ?_)
          refine lv_icmp_eq (tgt := 147) hx hb d_G_isTrueWith_140 (by decide) (fun hc => ?_) (fun hc => ?_)
          · have h := h.1 hc
            refine lv_iconst (v := 0) hx hb d_G_isTrueWith_147 (by decide) ?_
            exact j148 _ _ _ _ _ _ _ _ _ h hw (lv_sub hl [0, 1, 2, 3, 4] rfl)
          · have h := h.2 hc
            refine lv_iconst (v := 1) hx hb d_G_isTrueWith_143 (by decide) ?_
            refine lv_goto (tgt := 148) hx hb d_G_isTrueWith_144 (by decide) ?_
            exact j148 _ _ _ _ _ _ _ _ _ h hw (lv_sub hl [0, 1, 2, 3, 4] rfl)
        · have h := h.1 hc
          refine lv_aload_n hx hb d_G_isTrueWith_69 rfl (lv_at hl 0 rfl) ?_
          refine va_get (D := D) (ci := 1) (v := .ref (ad 5)) (C := R_G) (T := T_G) (N := 6) hx hb hts (fun w h => List.mem_cons_of_mem _ (iw_G w h)) hown hK.1 hw.1 0 rfl rfl 3 (by decide) (hg gm_37) (fun _ h9 => h9) rfl d_G_isTrueWith_70 ?_
          refine lv_iload hx hb d_G_isTrueWith_73 (lv_at hl 4 rfl) ?_
          refine lv_aload_n hx hb d_G_isTrueWith_75 rfl (lv_at hl 0 rfl) ?_
          refine lv_aload_n hx hb d_G_isTrueWith_76 rfl (lv_at hl 0 rfl) ?_
          refine va_get (D := D) (ci := 1) (v := .ref (ad 3)) (C := R_G) (T := T_G) (N := 6) hx hb hts (fun w h => List.mem_cons_of_mem _ (iw_G w h)) hown hK.1 hw.1 0 rfl rfl 1 (by decide) (hg gm_33) (fun _ h9 => h9) rfl d_G_isTrueWith_77 ?_
          refine lv_iload hx hb d_G_isTrueWith_80 (lv_at hl 4 rfl) ?_
          refine va_iald hx hb hK.1 hw.1 2 0 rfl rfl h.1 d_G_isTrueWith_82 ?_
          have h := h.2
          refine m_calli (hr := va_runV (As := [.int (G_lefts x7.toNatClampNeg)]) (rest := [.int x7, .ref (ad 5)]) ⟨hx, hb, hml, hown, hts⟩ (c_G_truthOf l D cA ad _ G_size G_inputs G_truths (G_lefts x7.toNatClampNeg) _ h) (cwV 1 hts (ginV gm_522 gm_524 gs_39 gm_2 gm_525) rfl rfl rfl (by decide +kernel) ⟨Nat.le_of_ble_eq_true rfl, Nat.le_of_ble_eq_true rfl⟩) (m_preV 1 0 rfl rfl hK hw [0, 4] rfl rfl) rfl rfl hl.1 rfl (lv_room (Nat.le_of_ble_eq_true rfl)) d_G_isTrueWith_83 ⟨Nat.zero_le _, Nat.zero_le _⟩) (w2 := (fun (_ : Unit) => [(k_G cA ad G_size G_inputs), (k_G_kinds cA ad G_kinds), (k_G_lefts cA ad G_lefts), (k_G_rights cA ad G_rights), (k_G_truths cA ad G_truths)])) (wr := [(k_G_kinds cA ad G_kinds), (k_G_lefts cA ad G_lefts), (k_G_rights cA ad G_rights)]) hw hA [0, 4] [1, 2, 3] [3, 0, 1, 2, 4] rfl rfl (by decide) (by decide) (by decide) (fun _ => rfl) (fun r83 u H locs hw h => ?_)
          refine lv_if_eq (tgt := 107) hx hb d_G_isTrueWith_86 (by decide) (fun hc => ?_) (fun hc => ?_)
          · have h := h.1 hc
            exact j107 _ _ _ _ _ _ _ _ h hw (lv_sub hl [0, 1, 2, 3, 4] rfl)
          · have h := h.2 hc
            refine lv_aload_n hx hb d_G_isTrueWith_89 rfl (lv_at hl 0 rfl) ?_
            refine lv_aload_n hx hb d_G_isTrueWith_90 rfl (lv_at hl 0 rfl) ?_
            refine va_get (D := D) (ci := 1) (v := .ref (ad 4)) (C := R_G) (T := T_G) (N := 6) hx hb hts (fun w h => List.mem_cons_of_mem _ (iw_G w h)) hown hK.1 hw.1 0 rfl rfl 2 (by decide) (hg gm_35) (fun _ h9 => h9) rfl d_G_isTrueWith_91 ?_
            refine lv_iload hx hb d_G_isTrueWith_94 (lv_at hl 4 rfl) ?_
            refine va_iald hx hb hK.1 hw.1 3 0 rfl rfl h.1 d_G_isTrueWith_96 ?_
            have h := h.2
            refine m_calli (hr := va_runV (As := [.int (G_rights x7.toNatClampNeg)]) (rest := [.int x7, .ref (ad 5)]) ⟨hx, hb, hml, hown, hts⟩ (c_G_truthOf l D cA ad _ G_size G_inputs G_truths (G_rights x7.toNatClampNeg) _ h) (cwV 1 hts (ginV gm_522 gm_524 gs_39 gm_2 gm_525) rfl rfl rfl (by decide +kernel) ⟨Nat.le_of_ble_eq_true rfl, Nat.le_of_ble_eq_true rfl⟩) (m_preV 1 0 rfl rfl hK hw [0, 4] rfl rfl) rfl rfl hl.1 rfl (lv_room (Nat.le_of_ble_eq_true rfl)) d_G_isTrueWith_97 ⟨Nat.zero_le _, Nat.zero_le _⟩) (w2 := (fun (_ : Unit) => [(k_G cA ad G_size G_inputs), (k_G_kinds cA ad G_kinds), (k_G_lefts cA ad G_lefts), (k_G_rights cA ad G_rights), (k_G_truths cA ad G_truths)])) (wr := [(k_G_kinds cA ad G_kinds), (k_G_lefts cA ad G_lefts), (k_G_rights cA ad G_rights)]) hw hA [0, 4] [1, 2, 3] [3, 0, 1, 2, 4] rfl rfl (by decide) (by decide) (by decide) (fun _ => rfl) (fun r97 u H locs hw h => ?_)
            refine lv_if_eq (tgt := 107) hx hb d_G_isTrueWith_100 (by decide) (fun hc => ?_) (fun hc => ?_)
            · have h := h.1 hc
              exact j107 _ _ _ _ _ _ _ _ h hw (lv_sub hl [0, 1, 2, 3, 4] rfl)
            · have h := h.2 hc
              refine lv_iconst (v := 1) hx hb d_G_isTrueWith_103 (by decide) ?_
              refine lv_goto (tgt := 108) hx hb d_G_isTrueWith_104 (by decide) ?_
              exact j108 _ _ _ _ _ _ _ _ _ h hw (lv_sub hl [0, 1, 2, 3, 4] rfl)
      · have h := h.1 hc
        refine lv_aload_n hx hb d_G_isTrueWith_28 rfl (lv_at hl 0 rfl) ?_
        refine va_get (D := D) (ci := 1) (v := .ref (ad 5)) (C := R_G) (T := T_G) (N := 6) hx hb hts (fun w h => List.mem_cons_of_mem _ (iw_G w h)) hown hK.1 hw.1 0 rfl rfl 3 (by decide) (hg gm_37) (fun _ h9 => h9) rfl d_G_isTrueWith_29 ?_
        refine lv_iload hx hb d_G_isTrueWith_32 (lv_at hl 4 rfl) ?_
        refine lv_lload hx hb d_G_isTrueWith_34 (lv_at hl 3 rfl) ?_
        refine lv_lconst (v := 1) hx hb d_G_isTrueWith_36 rfl ?_
        refine lv_land hx hb d_G_isTrueWith_37 ?_
        refine lv_lconst (v := 0) hx hb d_G_isTrueWith_38 rfl ?_
        refine W.lcmp hx hb d_G_isTrueWith_39 ?_
        refine lv_if_eq (tgt := 47) hx hb d_G_isTrueWith_40 (by decide) (fun hc => ?_) (fun hc => ?_)
        · have h := h.1 hc
          refine lv_iconst (v := 0) hx hb d_G_isTrueWith_47 (by decide) ?_
          exact j48 _ _ _ _ _ _ _ _ _ h hw (lv_sub hl [0, 1, 2, 3, 4] rfl)
        · have h := h.2 hc
          refine lv_iconst (v := 1) hx hb d_G_isTrueWith_43 (by decide) ?_
          refine lv_goto (tgt := 48) hx hb d_G_isTrueWith_44 (by decide) ?_
          exact j48 _ _ _ _ _ _ _ _ _ h hw (lv_sub hl [0, 1, 2, 3, 4] rfl)
  unfold wp_G_isTrueWith at h
  have h := h C11 hc11
  refine lv_iload_n hx hb d_G_isTrueWith_0 rfl (lv_at hl 1 rfl) ?_
  refine lv_iconst (v := 1) hx hb d_G_isTrueWith_1 (by decide) ?_
  refine lv_ishr hx hb d_G_isTrueWith_2 ?_
  refine lv_istore (lv' := [(4, .int (p1 >>> ((1 : Int32) &&& 31))), (0, .ref (ad 1)), (1, .int p1), (2, .long p2)]) hx hb d_G_isTrueWith_3 hl (by decide) rfl (fun ls hl => ?_)
  refine lv_lload_n hx hb d_G_isTrueWith_5 rfl (lv_at hl 3 rfl) ?_
  refine lv_lstore (lv' := [(5, .long p2), (4, .int (p1 >>> ((1 : Int32) &&& 31))), (0, .ref (ad 1)), (1, .int p1), (2, .long p2)]) hx hb d_G_isTrueWith_6 hl (by decide) rfl (fun ls hl => ?_)
  refine lv_iconst (v := 1) hx hb d_G_isTrueWith_8 (by decide) ?_
  refine lv_istore (lv' := [(7, .int 1), (5, .long p2), (4, .int (p1 >>> ((1 : Int32) &&& 31))), (0, .ref (ad 1)), (1, .int p1), (2, .long p2)]) hx hb d_G_isTrueWith_9 hl (by decide) rfl (fun ls hl => ?_)
  exact (hC11 _ _ _ _).1 h _ _ _ hw (lv_sub hl [3, 4, 2, 1, 0] rfl)
end
section
theorem d_F_isFull_0 : decode b_F_isFull 0 = .ok (.aload_n 0, 1) := by decide +kernel
theorem d_F_isFull_1 : decode b_F_isFull 1 = .ok (.getfield 25, 3) := by decide +kernel
theorem d_F_isFull_4 : decode b_F_isFull 4 = .ok (.bipush 24, 2) := by decide +kernel
theorem d_F_isFull_6 : decode b_F_isFull 6 = .ok (.if_icmp .lt 7, 3) := by decide +kernel
theorem d_F_isFull_9 : decode b_F_isFull 9 = .ok (.iconst 1, 1) := by decide +kernel
theorem d_F_isFull_10 : decode b_F_isFull 10 = .ok (.goto 4, 3) := by decide +kernel
theorem d_F_isFull_13 : decode b_F_isFull 13 = .ok (.iconst 0, 1) := by decide +kernel
theorem d_F_isFull_14 : decode b_F_isFull 14 = .ok (.ireturn, 1) := by decide +kernel
theorem d_F_add_0 : decode b_F_add 0 = .ok (.aload_n 0, 1) := by decide +kernel
theorem d_F_add_1 : decode b_F_add 1 = .ok (.getfield 25, 3) := by decide +kernel
theorem d_F_add_4 : decode b_F_add 4 = .ok (.istore_n 2, 1) := by decide +kernel
theorem d_F_add_5 : decode b_F_add 5 = .ok (.aload_n 0, 1) := by decide +kernel
theorem d_F_add_6 : decode b_F_add 6 = .ok (.getfield 9, 3) := by decide +kernel
theorem d_F_add_9 : decode b_F_add 9 = .ok (.iload_n 2, 1) := by decide +kernel
theorem d_F_add_10 : decode b_F_add 10 = .ok (.iload_n 1, 1) := by decide +kernel
theorem d_F_add_11 : decode b_F_add 11 = .ok (.iastore, 1) := by decide +kernel
theorem d_F_add_12 : decode b_F_add 12 = .ok (.aload_n 0, 1) := by decide +kernel
theorem d_F_add_13 : decode b_F_add 13 = .ok (.getfield 15, 3) := by decide +kernel
theorem d_F_add_16 : decode b_F_add 16 = .ok (.iload_n 2, 1) := by decide +kernel
theorem d_F_add_17 : decode b_F_add 17 = .ok (.iconst 0, 1) := by decide +kernel
theorem d_F_add_18 : decode b_F_add 18 = .ok (.iastore, 1) := by decide +kernel
theorem d_F_add_19 : decode b_F_add 19 = .ok (.aload_n 0, 1) := by decide +kernel
theorem d_F_add_20 : decode b_F_add 20 = .ok (.dup, 1) := by decide +kernel
theorem d_F_add_21 : decode b_F_add 21 = .ok (.getfield 25, 3) := by decide +kernel
theorem d_F_add_24 : decode b_F_add 24 = .ok (.iconst 1, 1) := by decide +kernel
theorem d_F_add_25 : decode b_F_add 25 = .ok (.iadd, 1) := by decide +kernel
theorem d_F_add_26 : decode b_F_add 26 = .ok (.putfield 25, 3) := by decide +kernel
theorem d_F_add_29 : decode b_F_add 29 = .ok (.iload_n 2, 1) := by decide +kernel
theorem d_F_add_30 : decode b_F_add 30 = .ok (.ireturn, 1) := by decide +kernel
theorem d_F_has_0 : decode b_F_has 0 = .ok (.iload_n 1, 1) := by decide +kernel
theorem d_F_has_1 : decode b_F_has 1 = .ok (.ifCond .lt 15, 3) := by decide +kernel
theorem d_F_has_4 : decode b_F_has 4 = .ok (.iload_n 1, 1) := by decide +kernel
theorem d_F_has_5 : decode b_F_has 5 = .ok (.aload_n 0, 1) := by decide +kernel
theorem d_F_has_6 : decode b_F_has 6 = .ok (.getfield 25, 3) := by decide +kernel
theorem d_F_has_9 : decode b_F_has 9 = .ok (.if_icmp .ge 7, 3) := by decide +kernel
theorem d_F_has_12 : decode b_F_has 12 = .ok (.iconst 1, 1) := by decide +kernel
theorem d_F_has_13 : decode b_F_has 13 = .ok (.goto 4, 3) := by decide +kernel
theorem d_F_has_16 : decode b_F_has 16 = .ok (.iconst 0, 1) := by decide +kernel
theorem d_F_has_17 : decode b_F_has 17 = .ok (.ireturn, 1) := by decide +kernel
theorem d_F_literalOf_0 : decode b_F_literalOf 0 = .ok (.aload_n 0, 1) := by decide +kernel
theorem d_F_literalOf_1 : decode b_F_literalOf 1 = .ok (.getfield 18, 3) := by decide +kernel
theorem d_F_literalOf_4 : decode b_F_literalOf 4 = .ok (.iload_n 1, 1) := by decide +kernel
theorem d_F_literalOf_5 : decode b_F_literalOf 5 = .ok (.bipush 6, 2) := by decide +kernel
theorem d_F_literalOf_7 : decode b_F_literalOf 7 = .ok (.imul, 1) := by decide +kernel
theorem d_F_literalOf_8 : decode b_F_literalOf 8 = .ok (.iload_n 2, 1) := by decide +kernel
theorem d_F_literalOf_9 : decode b_F_literalOf 9 = .ok (.iadd, 1) := by decide +kernel
theorem d_F_literalOf_10 : decode b_F_literalOf 10 = .ok (.iaload, 1) := by decide +kernel
theorem d_F_literalOf_11 : decode b_F_literalOf 11 = .ok (.ireturn, 1) := by decide +kernel
theorem d_F_contains_0 : decode b_F_contains 0 = .ok (.iconst 0, 1) := by decide +kernel
theorem d_F_contains_1 : decode b_F_contains 1 = .ok (.istore_n 3, 1) := by decide +kernel
theorem d_F_contains_2 : decode b_F_contains 2 = .ok (.iload_n 3, 1) := by decide +kernel
theorem d_F_contains_3 : decode b_F_contains 3 = .ok (.aload_n 0, 1) := by decide +kernel
theorem d_F_contains_4 : decode b_F_contains 4 = .ok (.getfield 15, 3) := by decide +kernel
theorem d_F_contains_7 : decode b_F_contains 7 = .ok (.iload_n 1, 1) := by decide +kernel
theorem d_F_contains_8 : decode b_F_contains 8 = .ok (.iaload, 1) := by decide +kernel
theorem d_F_contains_9 : decode b_F_contains 9 = .ok (.if_icmp .ge 21, 3) := by decide +kernel
theorem d_F_contains_12 : decode b_F_contains 12 = .ok (.aload_n 0, 1) := by decide +kernel
theorem d_F_contains_13 : decode b_F_contains 13 = .ok (.iload_n 1, 1) := by decide +kernel
theorem d_F_contains_14 : decode b_F_contains 14 = .ok (.iload_n 3, 1) := by decide +kernel
theorem d_F_contains_15 : decode b_F_contains 15 = .ok (.invokevirtual 29, 3) := by decide +kernel
theorem d_F_contains_18 : decode b_F_contains 18 = .ok (.iload_n 2, 1) := by decide +kernel
theorem d_F_contains_19 : decode b_F_contains 19 = .ok (.if_icmp .ne 5, 3) := by decide +kernel
theorem d_F_contains_22 : decode b_F_contains 22 = .ok (.iconst 1, 1) := by decide +kernel
theorem d_F_contains_23 : decode b_F_contains 23 = .ok (.ireturn, 1) := by decide +kernel
theorem d_F_contains_24 : decode b_F_contains 24 = .ok (.iinc 3 1, 3) := by decide +kernel
theorem d_F_contains_27 : decode b_F_contains 27 = .ok (.goto (-25), 3) := by decide +kernel
theorem d_F_contains_30 : decode b_F_contains 30 = .ok (.iconst 0, 1) := by decide +kernel
theorem d_F_contains_31 : decode b_F_contains 31 = .ok (.ireturn, 1) := by decide +kernel
theorem d_F_isLineFull_0 : decode b_F_isLineFull 0 = .ok (.aload_n 0, 1) := by decide +kernel
theorem d_F_isLineFull_1 : decode b_F_isLineFull 1 = .ok (.getfield 15, 3) := by decide +kernel
theorem d_F_isLineFull_4 : decode b_F_isLineFull 4 = .ok (.iload_n 1, 1) := by decide +kernel
theorem d_F_isLineFull_5 : decode b_F_isLineFull 5 = .ok (.iaload, 1) := by decide +kernel
theorem d_F_isLineFull_6 : decode b_F_isLineFull 6 = .ok (.aload_n 0, 1) := by decide +kernel
theorem d_F_isLineFull_7 : decode b_F_isLineFull 7 = .ok (.getfield 9, 3) := by decide +kernel
theorem d_F_isLineFull_10 : decode b_F_isLineFull 10 = .ok (.iload_n 1, 1) := by decide +kernel
theorem d_F_isLineFull_11 : decode b_F_isLineFull 11 = .ok (.iaload, 1) := by decide +kernel
theorem d_F_isLineFull_12 : decode b_F_isLineFull 12 = .ok (.iconst 1, 1) := by decide +kernel
theorem d_F_isLineFull_13 : decode b_F_isLineFull 13 = .ok (.if_icmp .ne 7, 3) := by decide +kernel
theorem d_F_isLineFull_16 : decode b_F_isLineFull 16 = .ok (.iconst 2, 1) := by decide +kernel
theorem d_F_isLineFull_17 : decode b_F_isLineFull 17 = .ok (.goto 5, 3) := by decide +kernel
theorem d_F_isLineFull_20 : decode b_F_isLineFull 20 = .ok (.bipush 6, 2) := by decide +kernel
theorem d_F_isLineFull_22 : decode b_F_isLineFull 22 = .ok (.if_icmp .lt 7, 3) := by decide +kernel
theorem d_F_isLineFull_25 : decode b_F_isLineFull 25 = .ok (.iconst 1, 1) := by decide +kernel
theorem d_F_isLineFull_26 : decode b_F_isLineFull 26 = .ok (.goto 4, 3) := by decide +kernel
theorem d_F_isLineFull_29 : decode b_F_isLineFull 29 = .ok (.iconst 0, 1) := by decide +kernel
theorem d_F_isLineFull_30 : decode b_F_isLineFull 30 = .ok (.ireturn, 1) := by decide +kernel
theorem d_F_append_0 : decode b_F_append 0 = .ok (.aload_n 0, 1) := by decide +kernel
theorem d_F_append_1 : decode b_F_append 1 = .ok (.getfield 18, 3) := by decide +kernel
theorem d_F_append_4 : decode b_F_append 4 = .ok (.iload_n 1, 1) := by decide +kernel
theorem d_F_append_5 : decode b_F_append 5 = .ok (.bipush 6, 2) := by decide +kernel
theorem d_F_append_7 : decode b_F_append 7 = .ok (.imul, 1) := by decide +kernel
theorem d_F_append_8 : decode b_F_append 8 = .ok (.aload_n 0, 1) := by decide +kernel
theorem d_F_append_9 : decode b_F_append 9 = .ok (.getfield 15, 3) := by decide +kernel
theorem d_F_append_12 : decode b_F_append 12 = .ok (.iload_n 1, 1) := by decide +kernel
theorem d_F_append_13 : decode b_F_append 13 = .ok (.iaload, 1) := by decide +kernel
theorem d_F_append_14 : decode b_F_append 14 = .ok (.iadd, 1) := by decide +kernel
theorem d_F_append_15 : decode b_F_append 15 = .ok (.iload_n 2, 1) := by decide +kernel
theorem d_F_append_16 : decode b_F_append 16 = .ok (.iastore, 1) := by decide +kernel
theorem d_F_append_17 : decode b_F_append 17 = .ok (.aload_n 0, 1) := by decide +kernel
theorem d_F_append_18 : decode b_F_append 18 = .ok (.getfield 15, 3) := by decide +kernel
theorem d_F_append_21 : decode b_F_append 21 = .ok (.iload_n 1, 1) := by decide +kernel
theorem d_F_append_22 : decode b_F_append 22 = .ok (.dup2, 1) := by decide +kernel
theorem d_F_append_23 : decode b_F_append 23 = .ok (.iaload, 1) := by decide +kernel
theorem d_F_append_24 : decode b_F_append 24 = .ok (.iconst 1, 1) := by decide +kernel
theorem d_F_append_25 : decode b_F_append 25 = .ok (.iadd, 1) := by decide +kernel
theorem d_F_append_26 : decode b_F_append 26 = .ok (.iastore, 1) := by decide +kernel
theorem d_F_append_27 : decode b_F_append 27 = .ok (.return_, 1) := by decide +kernel
theorem d_F_moveUp_0 : decode b_F_moveUp 0 = .ok (.iconst 0, 1) := by decide +kernel
theorem d_F_moveUp_1 : decode b_F_moveUp 1 = .ok (.istore_n 1, 1) := by decide +kernel
theorem d_F_moveUp_2 : decode b_F_moveUp 2 = .ok (.iconst 0, 1) := by decide +kernel
theorem d_F_moveUp_3 : decode b_F_moveUp 3 = .ok (.istore_n 2, 1) := by decide +kernel
theorem d_F_moveUp_4 : decode b_F_moveUp 4 = .ok (.iload_n 2, 1) := by decide +kernel
theorem d_F_moveUp_5 : decode b_F_moveUp 5 = .ok (.aload_n 0, 1) := by decide +kernel
theorem d_F_moveUp_6 : decode b_F_moveUp 6 = .ok (.getfield 25, 3) := by decide +kernel
theorem d_F_moveUp_9 : decode b_F_moveUp 9 = .ok (.if_icmp .ge 73, 3) := by decide +kernel
theorem d_F_moveUp_12 : decode b_F_moveUp 12 = .ok (.aload_n 0, 1) := by decide +kernel
theorem d_F_moveUp_13 : decode b_F_moveUp 13 = .ok (.getfield 21, 3) := by decide +kernel
theorem d_F_moveUp_16 : decode b_F_moveUp 16 = .ok (.iload_n 2, 1) := by decide +kernel
theorem d_F_moveUp_17 : decode b_F_moveUp 17 = .ok (.baload, 1) := by decide +kernel
theorem d_F_moveUp_18 : decode b_F_moveUp 18 = .ok (.ifCond .ne 51, 3) := by decide +kernel
theorem d_F_moveUp_21 : decode b_F_moveUp 21 = .ok (.aload_n 0, 1) := by decide +kernel
theorem d_F_moveUp_22 : decode b_F_moveUp 22 = .ok (.getfield 9, 3) := by decide +kernel
theorem d_F_moveUp_25 : decode b_F_moveUp 25 = .ok (.iload_n 1, 1) := by decide +kernel
theorem d_F_moveUp_26 : decode b_F_moveUp 26 = .ok (.aload_n 0, 1) := by decide +kernel
theorem d_F_moveUp_27 : decode b_F_moveUp 27 = .ok (.getfield 9, 3) := by decide +kernel
theorem d_F_moveUp_30 : decode b_F_moveUp 30 = .ok (.iload_n 2, 1) := by decide +kernel
theorem d_F_moveUp_31 : decode b_F_moveUp 31 = .ok (.iaload, 1) := by decide +kernel
theorem d_F_moveUp_32 : decode b_F_moveUp 32 = .ok (.iastore, 1) := by decide +kernel
theorem d_F_moveUp_33 : decode b_F_moveUp 33 = .ok (.aload_n 0, 1) := by decide +kernel
theorem d_F_moveUp_34 : decode b_F_moveUp 34 = .ok (.getfield 15, 3) := by decide +kernel
theorem d_F_moveUp_37 : decode b_F_moveUp 37 = .ok (.iload_n 1, 1) := by decide +kernel
theorem d_F_moveUp_38 : decode b_F_moveUp 38 = .ok (.aload_n 0, 1) := by decide +kernel
theorem d_F_moveUp_39 : decode b_F_moveUp 39 = .ok (.getfield 15, 3) := by decide +kernel
theorem d_F_moveUp_42 : decode b_F_moveUp 42 = .ok (.iload_n 2, 1) := by decide +kernel
theorem d_F_moveUp_43 : decode b_F_moveUp 43 = .ok (.iaload, 1) := by decide +kernel
theorem d_F_moveUp_44 : decode b_F_moveUp 44 = .ok (.iastore, 1) := by decide +kernel
theorem d_F_moveUp_45 : decode b_F_moveUp 45 = .ok (.aload_n 0, 1) := by decide +kernel
theorem d_F_moveUp_46 : decode b_F_moveUp 46 = .ok (.getfield 18, 3) := by decide +kernel
theorem d_F_moveUp_49 : decode b_F_moveUp 49 = .ok (.iload_n 2, 1) := by decide +kernel
theorem d_F_moveUp_50 : decode b_F_moveUp 50 = .ok (.bipush 6, 2) := by decide +kernel
theorem d_F_moveUp_52 : decode b_F_moveUp 52 = .ok (.imul, 1) := by decide +kernel
theorem d_F_moveUp_53 : decode b_F_moveUp 53 = .ok (.aload_n 0, 1) := by decide +kernel
theorem d_F_moveUp_54 : decode b_F_moveUp 54 = .ok (.getfield 18, 3) := by decide +kernel
theorem d_F_moveUp_57 : decode b_F_moveUp 57 = .ok (.iload_n 1, 1) := by decide +kernel
theorem d_F_moveUp_58 : decode b_F_moveUp 58 = .ok (.bipush 6, 2) := by decide +kernel
theorem d_F_moveUp_60 : decode b_F_moveUp 60 = .ok (.imul, 1) := by decide +kernel
theorem d_F_moveUp_61 : decode b_F_moveUp 61 = .ok (.bipush 6, 2) := by decide +kernel
theorem d_F_moveUp_63 : decode b_F_moveUp 63 = .ok (.invokestatic 33, 3) := by decide +kernel
theorem d_F_moveUp_66 : decode b_F_moveUp 66 = .ok (.iinc 1 1, 3) := by decide +kernel
theorem d_F_moveUp_69 : decode b_F_moveUp 69 = .ok (.aload_n 0, 1) := by decide +kernel
theorem d_F_moveUp_70 : decode b_F_moveUp 70 = .ok (.getfield 21, 3) := by decide +kernel
theorem d_F_moveUp_73 : decode b_F_moveUp 73 = .ok (.iload_n 2, 1) := by decide +kernel
theorem d_F_moveUp_74 : decode b_F_moveUp 74 = .ok (.iconst 0, 1) := by decide +kernel
theorem d_F_moveUp_75 : decode b_F_moveUp 75 = .ok (.bastore, 1) := by decide +kernel
theorem d_F_moveUp_76 : decode b_F_moveUp 76 = .ok (.iinc 2 1, 3) := by decide +kernel
theorem d_F_moveUp_79 : decode b_F_moveUp 79 = .ok (.goto (-75), 3) := by decide +kernel
theorem d_F_moveUp_82 : decode b_F_moveUp 82 = .ok (.aload_n 0, 1) := by decide +kernel
theorem d_F_moveUp_83 : decode b_F_moveUp 83 = .ok (.iload_n 1, 1) := by decide +kernel
theorem d_F_moveUp_84 : decode b_F_moveUp 84 = .ok (.putfield 25, 3) := by decide +kernel
theorem d_F_moveUp_87 : decode b_F_moveUp 87 = .ok (.return_, 1) := by decide +kernel
theorem d_F_new_0 : decode b_F_new 0 = .ok (.aload_n 0, 1) := by decide +kernel
theorem d_F_new_1 : decode b_F_new 1 = .ok (.invokespecial 3, 3) := by decide +kernel
theorem d_F_new_4 : decode b_F_new 4 = .ok (.aload_n 0, 1) := by decide +kernel
theorem d_F_new_5 : decode b_F_new 5 = .ok (.bipush 24, 2) := by decide +kernel
theorem d_F_new_7 : decode b_F_new 7 = .ok (.newarray .int, 2) := by decide +kernel
theorem d_F_new_9 : decode b_F_new 9 = .ok (.putfield 9, 3) := by decide +kernel
theorem d_F_new_12 : decode b_F_new 12 = .ok (.aload_n 0, 1) := by decide +kernel
theorem d_F_new_13 : decode b_F_new 13 = .ok (.bipush 24, 2) := by decide +kernel
theorem d_F_new_15 : decode b_F_new 15 = .ok (.newarray .int, 2) := by decide +kernel
theorem d_F_new_17 : decode b_F_new 17 = .ok (.putfield 15, 3) := by decide +kernel
theorem d_F_new_20 : decode b_F_new 20 = .ok (.aload_n 0, 1) := by decide +kernel
theorem d_F_new_21 : decode b_F_new 21 = .ok (.sipush 144, 3) := by decide +kernel
theorem d_F_new_24 : decode b_F_new 24 = .ok (.newarray .int, 2) := by decide +kernel
theorem d_F_new_26 : decode b_F_new 26 = .ok (.putfield 18, 3) := by decide +kernel
theorem d_F_new_29 : decode b_F_new 29 = .ok (.aload_n 0, 1) := by decide +kernel
theorem d_F_new_30 : decode b_F_new 30 = .ok (.bipush 24, 2) := by decide +kernel
theorem d_F_new_32 : decode b_F_new 32 = .ok (.newarray .boolean, 2) := by decide +kernel
theorem d_F_new_34 : decode b_F_new 34 = .ok (.putfield 21, 3) := by decide +kernel
theorem d_F_new_37 : decode b_F_new 37 = .ok (.aload_n 0, 1) := by decide +kernel
theorem d_F_new_38 : decode b_F_new 38 = .ok (.iconst 0, 1) := by decide +kernel
theorem d_F_new_39 : decode b_F_new 39 = .ok (.putfield 25, 3) := by decide +kernel
theorem d_F_new_42 : decode b_F_new 42 = .ok (.return_, 1) := by decide +kernel
def rm_F_isFull : Room := { frames := 0, cells := 0, slots := 0, locals := 0 }
set_option maxHeartbeats 4000000 in
set_option maxRecDepth 100000 in
theorem c_F_isFull (l : Launch) (D : va_G) (cA : Nat → ClassId) (ad : Nat → Nat) (sz : Nat) (F_size : Int32) (post : Int32 → Prop) (h : wp_F_isFull F_size post) : Met l y_F_isFull w_F_isFull rm_F_isFull (mPc D cA [.ref (ad 6)] [(k_F cA ad F_size)] sz) (va_Qi (fun (r : Int32) (_ : Unit) => post r) (mB D (va_A [(k_F cA ad F_size)] sz) (fun (_ : Unit) => [(k_F cA ad F_size)])) (va_A [(k_F cA ad F_size)] sz)) 0 0 (va_A [(k_F cA ad F_size)] sz) := by
  refine m_methZ (by decide) rfl (Nat.le_of_ble_eq_true rfl) ?_
  intro p e s m below meth c A Q ls hx hb hml hown hts hK hA hw hl hE
  have hl : lv_has ls 1 [(0, .ref (ad 6))] := hl
  have hown : s.vm.findClass R_F = some m.cls := hown
  have hg : ∀ {w : Cond}, w ∈ gw → w.before _ s = true := fun h => hts _ (List.mem_cons_of_mem _ h)
  unfold wp_F_isFull at h
  refine lv_aload_n hx hb d_F_isFull_0 rfl (lv_at hl 0 rfl) ?_
  refine va_get (D := D) (ci := 2) (v := .int F_size) (C := R_F) (T := T_F) (N := 5) hx hb hts (fun w h => List.mem_cons_of_mem _ (iw_F w h)) hown hK.1 hw.1 0 rfl rfl 4 (by decide) (hg gm_77) (fun _ h9 => h9) rfl d_F_isFull_1 ?_
  refine lv_bipush (v := 24) hx hb d_F_isFull_4 (by decide) ?_
  refine lv_icmp_lt (tgt := 13) hx hb d_F_isFull_6 (by decide) (fun hc => ?_) (fun hc => ?_)
  · have h := h.1 hc
    refine lv_iconst (v := 0) hx hb d_F_isFull_13 (by decide) ?_
    exact hE 0 () _ _ _ _ h rfl hw d_F_isFull_14
  · have h := h.2 hc
    refine lv_iconst (v := 1) hx hb d_F_isFull_9 (by decide) ?_
    refine lv_goto (tgt := 14) hx hb d_F_isFull_10 (by decide) ?_
    exact hE 1 () _ _ _ _ h rfl hw d_F_isFull_14
def rm_F_add : Room := { frames := 0, cells := 0, slots := 0, locals := 0 }
set_option maxHeartbeats 4000000 in
set_option maxRecDepth 100000 in
theorem c_F_add (l : Launch) (D : va_G) (cA : Nat → ClassId) (ad : Nat → Nat) (sz : Nat) (F_size : Int32) (F_kinds : (Nat → Int32)) (F_sizes : (Nat → Int32)) (p1 : Int32) (post : Int32 → Int32 → (Nat → Int32) → (Nat → Int32) → Prop) (h : wp_F_add F_size F_kinds F_sizes p1 post) : Met l y_F_add w_F_add rm_F_add (mPc D cA [.ref (ad 6), .int p1] [(k_F cA ad F_size), (k_F_kinds cA ad F_kinds), (k_F_sizes cA ad F_sizes)] sz) (va_Qi (fun (r : Int32) (u : Int32 × (Nat → Int32) × (Nat → Int32)) => post r u.1 u.2.1 u.2.2) (mB D (va_A [(k_F cA ad F_size), (k_F_kinds cA ad F_kinds), (k_F_sizes cA ad F_sizes)] sz) (fun (u : Int32 × (Nat → Int32) × (Nat → Int32)) => [(k_F cA ad u.1), (k_F_kinds cA ad u.2.1), (k_F_sizes cA ad u.2.2)])) (va_A [(k_F cA ad F_size), (k_F_kinds cA ad F_kinds), (k_F_sizes cA ad F_sizes)] sz)) 0 0 (va_A [(k_F cA ad F_size), (k_F_kinds cA ad F_kinds), (k_F_sizes cA ad F_sizes)] sz) := by
  refine m_methI (by decide) rfl (Nat.le_of_ble_eq_true rfl) ?_
  intro p e s m below meth c A Q ls hx hb hml hown hts hK hA hw hl hE
  have hl : lv_has ls 3 [(0, .ref (ad 6)), (1, .int p1)] := hl
  have hown : s.vm.findClass R_F = some m.cls := hown
  have hg : ∀ {w : Cond}, w ∈ gw → w.before _ s = true := fun h => hts _ (List.mem_cons_of_mem _ h)
  unfold wp_F_add at h
  refine lv_aload_n hx hb d_F_add_0 rfl (lv_at hl 0 rfl) ?_
  refine va_get (D := D) (ci := 2) (v := .int F_size) (C := R_F) (T := T_F) (N := 5) hx hb hts (fun w h => List.mem_cons_of_mem _ (iw_F w h)) hown hK.1 hw.1 0 rfl rfl 4 (by decide) (hg gm_77) (fun _ h9 => h9) rfl d_F_add_1 ?_
  refine lv_istore_n (lv' := [(2, .int F_size), (0, .ref (ad 6)), (1, .int p1)]) hx hb d_F_add_4 rfl hl (by decide) rfl (fun ls hl => ?_)
  refine lv_aload_n hx hb d_F_add_5 rfl (lv_at hl 1 rfl) ?_
  refine va_get (D := D) (ci := 2) (v := .ref (ad 7)) (C := R_F) (T := T_F) (N := 5) hx hb hts (fun w h => List.mem_cons_of_mem _ (iw_F w h)) hown hK.1 hw.1 0 rfl rfl 0 (by decide) (hg gm_64) (fun _ h9 => h9) rfl d_F_add_6 ?_
  refine lv_iload_n hx hb d_F_add_9 rfl (lv_at hl 0 rfl) ?_
  refine lv_iload_n hx hb d_F_add_10 rfl (lv_at hl 2 rfl) ?_
  refine m_iast (ws' := [(k_F cA ad F_size), (k_F_kinds cA ad (upd F_kinds F_size.toNatClampNeg p1)), (k_F_sizes cA ad F_sizes)]) hx hb hK.1 hw 1 0 rfl rfl h.1 rfl d_F_add_11 (fun H locs hw => ?_)
  have h := h.2
  refine lv_aload_n hx hb d_F_add_12 rfl (lv_at hl 1 rfl) ?_
  refine va_get (D := D) (ci := 2) (v := .ref (ad 8)) (C := R_F) (T := T_F) (N := 5) hx hb hts (fun w h => List.mem_cons_of_mem _ (iw_F w h)) hown hK.1 hw.1 0 rfl rfl 1 (by decide) (hg gm_69) (fun _ h9 => h9) rfl d_F_add_13 ?_
  refine lv_iload_n hx hb d_F_add_16 rfl (lv_at hl 0 rfl) ?_
  refine lv_iconst (v := 0) hx hb d_F_add_17 (by decide) ?_
  refine m_iast (ws' := [(k_F cA ad F_size), (k_F_kinds cA ad (upd F_kinds F_size.toNatClampNeg p1)), (k_F_sizes cA ad (upd F_sizes F_size.toNatClampNeg 0))]) hx hb hK.1 hw 2 0 rfl rfl h.1 rfl d_F_add_18 (fun H locs hw => ?_)
  have h := h.2
  refine lv_aload_n hx hb d_F_add_19 rfl (lv_at hl 1 rfl) ?_
  refine lv_dup hx hb d_F_add_20 rfl ?_
  refine va_get (D := D) (ci := 2) (v := .int F_size) (C := R_F) (T := T_F) (N := 5) hx hb hts (fun w h => List.mem_cons_of_mem _ (iw_F w h)) hown hK.1 hw.1 0 rfl rfl 4 (by decide) (hg gm_77) (fun _ h9 => h9) rfl d_F_add_21 ?_
  refine lv_iconst (v := 1) hx hb d_F_add_24 (by decide) ?_
  refine lv_iadd hx hb d_F_add_25 ?_
  refine m_put (ws' := [(k_F cA ad (F_size + 1)), (k_F_kinds cA ad (upd F_kinds F_size.toNatClampNeg p1)), (k_F_sizes cA ad (upd F_sizes F_size.toNatClampNeg 0))]) (ci := 2) (v := .int (F_size + 1)) (ty := .int) (C := R_F) (T := T_F) (N := 5) hx hb hts (fun w h => List.mem_cons_of_mem _ (iw_F w h)) ty_F tyok_F nm_F hown hK.1 hw 0 rfl rfl 4 (by decide) (hg gm_77) (fun _ h9 => h9) rfl (by decide +kernel) rfl rfl (Nat.le_of_ble_eq_true rfl) rfl d_F_add_26 (fun H locs hw => ?_)
  refine lv_iload_n hx hb d_F_add_29 rfl (lv_at hl 0 rfl) ?_
  exact hE F_size ((F_size + 1), (upd F_kinds F_size.toNatClampNeg p1), (upd F_sizes F_size.toNatClampNeg 0)) _ _ _ _ h hw d_F_add_30
def rm_F_has : Room := { frames := 0, cells := 0, slots := 0, locals := 0 }
set_option maxHeartbeats 4000000 in
set_option maxRecDepth 100000 in
theorem c_F_has (l : Launch) (D : va_G) (cA : Nat → ClassId) (ad : Nat → Nat) (sz : Nat) (F_size : Int32) (p1 : Int32) (post : Int32 → Prop) (h : wp_F_has F_size p1 post) : Met l y_F_has w_F_has rm_F_has (mPc D cA [.ref (ad 6), .int p1] [(k_F cA ad F_size)] sz) (va_Qi (fun (r : Int32) (_ : Unit) => post r) (mB D (va_A [(k_F cA ad F_size)] sz) (fun (_ : Unit) => [(k_F cA ad F_size)])) (va_A [(k_F cA ad F_size)] sz)) 0 0 (va_A [(k_F cA ad F_size)] sz) := by
  refine m_methZ (by decide) rfl (Nat.le_of_ble_eq_true rfl) ?_
  intro p e s m below meth c A Q ls hx hb hml hown hts hK hA hw hl hE
  have hl : lv_has ls 2 [(0, .ref (ad 6)), (1, .int p1)] := hl
  have hown : s.vm.findClass R_F = some m.cls := hown
  have hg : ∀ {w : Cond}, w ∈ gw → w.before _ s = true := fun h => hts _ (List.mem_cons_of_mem _ h)
  unfold wp_F_has at h
  refine lv_iload_n hx hb d_F_has_0 rfl (lv_at hl 1 rfl) ?_
  refine lv_if_lt (tgt := 16) hx hb d_F_has_1 (by decide) (fun hc => ?_) (fun hc => ?_)
  · have h := h.1 hc
    refine lv_iconst (v := 0) hx hb d_F_has_16 (by decide) ?_
    exact hE 0 () _ _ _ _ h rfl hw d_F_has_17
  · have h := h.2 hc
    refine lv_iload_n hx hb d_F_has_4 rfl (lv_at hl 1 rfl) ?_
    refine lv_aload_n hx hb d_F_has_5 rfl (lv_at hl 0 rfl) ?_
    refine va_get (D := D) (ci := 2) (v := .int F_size) (C := R_F) (T := T_F) (N := 5) hx hb hts (fun w h => List.mem_cons_of_mem _ (iw_F w h)) hown hK.1 hw.1 0 rfl rfl 4 (by decide) (hg gm_77) (fun _ h9 => h9) rfl d_F_has_6 ?_
    refine lv_icmp_ge (tgt := 16) hx hb d_F_has_9 (by decide) (fun hc => ?_) (fun hc => ?_)
    · have h := h.1 hc
      refine lv_iconst (v := 0) hx hb d_F_has_16 (by decide) ?_
      exact hE 0 () _ _ _ _ h rfl hw d_F_has_17
    · have h := h.2 hc
      refine lv_iconst (v := 1) hx hb d_F_has_12 (by decide) ?_
      refine lv_goto (tgt := 17) hx hb d_F_has_13 (by decide) ?_
      exact hE 1 () _ _ _ _ h rfl hw d_F_has_17
def rm_F_literalOf : Room := { frames := 0, cells := 0, slots := 0, locals := 0 }
set_option maxHeartbeats 4000000 in
set_option maxRecDepth 100000 in
theorem c_F_literalOf (l : Launch) (D : va_G) (cA : Nat → ClassId) (ad : Nat → Nat) (sz : Nat) (F_size : Int32) (F_literals : (Nat → Int32)) (p1 : Int32) (p2 : Int32) (post : Int32 → Prop) (h : wp_F_literalOf F_literals p1 p2 post) : Met l y_F_literalOf w_F_literalOf rm_F_literalOf (mPc D cA [.ref (ad 6), .int p1, .int p2] [(k_F cA ad F_size), (k_F_literals cA ad F_literals)] sz) (va_Qi (fun (r : Int32) (_ : Unit) => post r) (mB D (va_A [(k_F cA ad F_size), (k_F_literals cA ad F_literals)] sz) (fun (_ : Unit) => [(k_F cA ad F_size), (k_F_literals cA ad F_literals)])) (va_A [(k_F cA ad F_size), (k_F_literals cA ad F_literals)] sz)) 0 0 (va_A [(k_F cA ad F_size), (k_F_literals cA ad F_literals)] sz) := by
  refine m_methI (by decide) rfl (Nat.le_of_ble_eq_true rfl) ?_
  intro p e s m below meth c A Q ls hx hb hml hown hts hK hA hw hl hE
  have hl : lv_has ls 3 [(0, .ref (ad 6)), (1, .int p1), (2, .int p2)] := hl
  have hown : s.vm.findClass R_F = some m.cls := hown
  have hg : ∀ {w : Cond}, w ∈ gw → w.before _ s = true := fun h => hts _ (List.mem_cons_of_mem _ h)
  unfold wp_F_literalOf at h
  refine lv_aload_n hx hb d_F_literalOf_0 rfl (lv_at hl 0 rfl) ?_
  refine va_get (D := D) (ci := 2) (v := .ref (ad 9)) (C := R_F) (T := T_F) (N := 5) hx hb hts (fun w h => List.mem_cons_of_mem _ (iw_F w h)) hown hK.1 hw.1 0 rfl rfl 2 (by decide) (hg gm_73) (fun _ h9 => h9) rfl d_F_literalOf_1 ?_
  refine lv_iload_n hx hb d_F_literalOf_4 rfl (lv_at hl 1 rfl) ?_
  refine lv_bipush (v := 6) hx hb d_F_literalOf_5 (by decide) ?_
  refine lv_imul hx hb d_F_literalOf_7 ?_
  refine lv_iload_n hx hb d_F_literalOf_8 rfl (lv_at hl 2 rfl) ?_
  refine lv_iadd hx hb d_F_literalOf_9 ?_
  refine va_iald hx hb hK.1 hw.1 1 0 rfl rfl h.1 d_F_literalOf_10 ?_
  have h := h.2
  exact hE (F_literals ((p1 * 6) + p2).toNatClampNeg) () _ _ _ _ h hw d_F_literalOf_11
def rm_F_contains : Room := { frames := 1, cells := 0, slots := 0, locals := 22 }
set_option maxHeartbeats 4000000 in
set_option maxRecDepth 100000 in
theorem c_F_contains (l : Launch) (D : va_G) (cA : Nat → ClassId) (ad : Nat → Nat) (sz : Nat) (F_size : Int32) (F_sizes : (Nat → Int32)) (F_literals : (Nat → Int32)) (p1 : Int32) (p2 : Int32) (post : Int32 → Prop) (h : wp_F_contains F_sizes F_literals p1 p2 post) : Met l y_F_contains w_F_contains rm_F_contains (mPc D cA [.ref (ad 6), .int p1, .int p2] [(k_F cA ad F_size), (k_F_sizes cA ad F_sizes), (k_F_literals cA ad F_literals)] sz) (va_Qi (fun (r : Int32) (_ : Unit) => post r) (mB D (va_A [(k_F cA ad F_size), (k_F_sizes cA ad F_sizes), (k_F_literals cA ad F_literals)] sz) (fun (_ : Unit) => [(k_F cA ad F_size), (k_F_sizes cA ad F_sizes), (k_F_literals cA ad F_literals)])) (va_A [(k_F cA ad F_size), (k_F_sizes cA ad F_sizes), (k_F_literals cA ad F_literals)] sz)) 0 0 (va_A [(k_F cA ad F_size), (k_F_sizes cA ad F_sizes), (k_F_literals cA ad F_literals)] sz) := by
  refine m_methZ (by decide) rfl (Nat.le_of_ble_eq_true rfl) ?_
  intro p e s m below meth c A Q ls hx hb hml hown hts hK hA hw hl hE
  have hl : lv_has ls 4 [(0, .ref (ad 6)), (1, .int p1), (2, .int p2)] := hl
  have hown : s.vm.findClass R_F = some m.cls := hown
  have hg : ∀ {w : Cond}, w ∈ gw → w.before _ s = true := fun h => hts _ (List.mem_cons_of_mem _ h)
  obtain ⟨C2, hC2⟩ : ∃ C : Int32 → Prop, ∀ (x3 : Int32), C x3 ↔ (∀ (H : Heap) (locs : List Loc) (ls : Array Slot), mW D A s.heap [(k_F cA ad F_size), (k_F_sizes cA ad F_sizes), (k_F_literals cA ad F_literals)] H locs → lv_has ls 4 [(0, .ref (ad 6)), (1, .int p1), (2, .int p2), (3, .int x3)] → W p l e rm_F_contains s m [.ref (ad 6), .int p1, .int p2].toArray below meth c H locs 0 0 Q (F0 m 2 ls [])) := ⟨_, fun _ => Iff.rfl⟩
  have hc2 : ∀ (x3 : Int32), s_F_contains_2 F_sizes F_literals p1 p2 C2 post x3 → C2 x3 := by
    intro x3 h
    unfold s_F_contains_2 at h
    refine (hC2 _).2 ?_
    intro H locs ls hw hl
    refine lv_iload_n hx hb d_F_contains_2 rfl (lv_at hl 3 rfl) ?_
    refine lv_aload_n hx hb d_F_contains_3 rfl (lv_at hl 0 rfl) ?_
    refine va_get (D := D) (ci := 2) (v := .ref (ad 8)) (C := R_F) (T := T_F) (N := 5) hx hb hts (fun w h => List.mem_cons_of_mem _ (iw_F w h)) hown hK.1 hw.1 0 rfl rfl 1 (by decide) (hg gm_69) (fun _ h9 => h9) rfl d_F_contains_4 ?_
    refine lv_iload_n hx hb d_F_contains_7 rfl (lv_at hl 1 rfl) ?_
    refine va_iald hx hb hK.1 hw.1 1 0 rfl rfl h.1 d_F_contains_8 ?_
    have h := h.2
    refine lv_icmp_ge (tgt := 30) hx hb d_F_contains_9 (by decide) (fun hc => ?_) (fun hc => ?_)
    · have h := h.1 hc
      refine lv_iconst (v := 0) hx hb d_F_contains_30 (by decide) ?_
      exact hE 0 () _ _ _ _ h rfl hw d_F_contains_31
    · have h := h.2 hc
      refine lv_aload_n hx hb d_F_contains_12 rfl (lv_at hl 0 rfl) ?_
      refine lv_iload_n hx hb d_F_contains_13 rfl (lv_at hl 1 rfl) ?_
      refine lv_iload_n hx hb d_F_contains_14 rfl (lv_at hl 3 rfl) ?_
      refine m_calli (hr := va_runV (As := [.int p1, .int x3]) (rest := []) ⟨hx, hb, hml, hown, hts⟩ (c_F_literalOf l D cA ad _ F_size F_literals p1 x3 _ h) (cwV 2 hts (ginV gm_232 gm_234 gs_16 gm_3 gm_235) rfl rfl rfl (by decide +kernel) ⟨Nat.le_of_ble_eq_true rfl, Nat.le_of_ble_eq_true rfl⟩) (m_preV 2 0 rfl rfl hK hw [0, 2] rfl rfl) rfl rfl hl.1 rfl (lv_room (Nat.le_of_ble_eq_true rfl)) d_F_contains_15 ⟨Nat.zero_le _, Nat.zero_le _⟩) (w2 := (fun (_ : Unit) => [(k_F cA ad F_size), (k_F_sizes cA ad F_sizes), (k_F_literals cA ad F_literals)])) (wr := [(k_F_sizes cA ad F_sizes)]) hw hA [0, 2] [1] [1, 0, 2] rfl rfl (by decide) (by decide) (by decide) (fun _ => rfl) (fun r15 u H locs hw h => ?_)
      refine lv_iload_n hx hb d_F_contains_18 rfl (lv_at hl 2 rfl) ?_
      refine lv_icmp_ne (tgt := 24) hx hb d_F_contains_19 (by decide) (fun hc => ?_) (fun hc => ?_)
      · have h := h.2 hc
        refine lv_iinc (v := (x3 + 1)) (lv' := [(3, .int (x3 + 1)), (0, .ref (ad 6)), (1, .int p1), (2, .int p2)]) hx hb d_F_contains_24 hl (k := 3) rfl rfl (by decide) rfl (fun ls hl => ?_)
        refine lv_goto (tgt := 2) hx hb d_F_contains_27 (by decide) ?_
        exact (hC2 _).1 h _ _ _ hw (lv_sub hl [1, 2, 3, 0] rfl)
      · have h := h.1 hc
        refine lv_iconst (v := 1) hx hb d_F_contains_22 (by decide) ?_
        exact hE 1 () _ _ _ _ h rfl hw d_F_contains_23
  unfold wp_F_contains at h
  have h := h C2 hc2
  refine lv_iconst (v := 0) hx hb d_F_contains_0 (by decide) ?_
  refine lv_istore_n (lv' := [(3, .int 0), (0, .ref (ad 6)), (1, .int p1), (2, .int p2)]) hx hb d_F_contains_1 rfl hl (by decide) rfl (fun ls hl => ?_)
  exact (hC2 _).1 h _ _ _ hw (lv_sub hl [1, 2, 3, 0] rfl)
def rm_F_isLineFull : Room := { frames := 0, cells := 0, slots := 0, locals := 0 }
set_option maxHeartbeats 4000000 in
set_option maxRecDepth 100000 in
theorem c_F_isLineFull (l : Launch) (D : va_G) (cA : Nat → ClassId) (ad : Nat → Nat) (sz : Nat) (F_size : Int32) (F_kinds : (Nat → Int32)) (F_sizes : (Nat → Int32)) (p1 : Int32) (post : Int32 → Prop) (h : wp_F_isLineFull F_kinds F_sizes p1 post) : Met l y_F_isLineFull w_F_isLineFull rm_F_isLineFull (mPc D cA [.ref (ad 6), .int p1] [(k_F cA ad F_size), (k_F_kinds cA ad F_kinds), (k_F_sizes cA ad F_sizes)] sz) (va_Qi (fun (r : Int32) (_ : Unit) => post r) (mB D (va_A [(k_F cA ad F_size), (k_F_kinds cA ad F_kinds), (k_F_sizes cA ad F_sizes)] sz) (fun (_ : Unit) => [(k_F cA ad F_size), (k_F_kinds cA ad F_kinds), (k_F_sizes cA ad F_sizes)])) (va_A [(k_F cA ad F_size), (k_F_kinds cA ad F_kinds), (k_F_sizes cA ad F_sizes)] sz)) 0 0 (va_A [(k_F cA ad F_size), (k_F_kinds cA ad F_kinds), (k_F_sizes cA ad F_sizes)] sz) := by
  refine m_methZ (by decide) rfl (Nat.le_of_ble_eq_true rfl) ?_
  intro p e s m below meth c A Q ls hx hb hml hown hts hK hA hw hl hE
  have hl : lv_has ls 2 [(0, .ref (ad 6)), (1, .int p1)] := hl
  have hown : s.vm.findClass R_F = some m.cls := hown
  have hg : ∀ {w : Cond}, w ∈ gw → w.before _ s = true := fun h => hts _ (List.mem_cons_of_mem _ h)
  have j22 : ∀ (s0 : Int32) (s1 : Int32) (H : Heap) (locs : List Loc) (ls : Array Slot), s_F_isLineFull_22 F_kinds F_sizes p1 post s0 s1 → mW D A s.heap [(k_F cA ad F_size), (k_F_kinds cA ad F_kinds), (k_F_sizes cA ad F_sizes)] H locs → lv_has ls 2 [] → W p l e rm_F_isLineFull s m [.ref (ad 6), .int p1].toArray below meth c H locs 0 0 Q (F0 m 22 ls [.int s0, .int s1]) := by
    intro s0 s1 H locs ls h hw hl
    unfold s_F_isLineFull_22 at h
    refine lv_icmp_lt (tgt := 29) hx hb d_F_isLineFull_22 (by decide) (fun hc => ?_) (fun hc => ?_)
    · have h := h.1 hc
      refine lv_iconst (v := 0) hx hb d_F_isLineFull_29 (by decide) ?_
      exact hE 0 () _ _ _ _ h rfl hw d_F_isLineFull_30
    · have h := h.2 hc
      refine lv_iconst (v := 1) hx hb d_F_isLineFull_25 (by decide) ?_
      refine lv_goto (tgt := 30) hx hb d_F_isLineFull_26 (by decide) ?_
      exact hE 1 () _ _ _ _ h rfl hw d_F_isLineFull_30
  unfold wp_F_isLineFull at h
  refine lv_aload_n hx hb d_F_isLineFull_0 rfl (lv_at hl 0 rfl) ?_
  refine va_get (D := D) (ci := 2) (v := .ref (ad 8)) (C := R_F) (T := T_F) (N := 5) hx hb hts (fun w h => List.mem_cons_of_mem _ (iw_F w h)) hown hK.1 hw.1 0 rfl rfl 1 (by decide) (hg gm_69) (fun _ h9 => h9) rfl d_F_isLineFull_1 ?_
  refine lv_iload_n hx hb d_F_isLineFull_4 rfl (lv_at hl 1 rfl) ?_
  refine va_iald hx hb hK.1 hw.1 2 0 rfl rfl h.1 d_F_isLineFull_5 ?_
  have h := h.2
  refine lv_aload_n hx hb d_F_isLineFull_6 rfl (lv_at hl 0 rfl) ?_
  refine va_get (D := D) (ci := 2) (v := .ref (ad 7)) (C := R_F) (T := T_F) (N := 5) hx hb hts (fun w h => List.mem_cons_of_mem _ (iw_F w h)) hown hK.1 hw.1 0 rfl rfl 0 (by decide) (hg gm_64) (fun _ h9 => h9) rfl d_F_isLineFull_7 ?_
  refine lv_iload_n hx hb d_F_isLineFull_10 rfl (lv_at hl 1 rfl) ?_
  refine va_iald hx hb hK.1 hw.1 1 0 rfl rfl h.1 d_F_isLineFull_11 ?_
  have h := h.2
  refine lv_iconst (v := 1) hx hb d_F_isLineFull_12 (by decide) ?_
  refine lv_icmp_ne (tgt := 20) hx hb d_F_isLineFull_13 (by decide) (fun hc => ?_) (fun hc => ?_)
  · have h := h.2 hc
    refine lv_bipush (v := 6) hx hb d_F_isLineFull_20 (by decide) ?_
    exact j22 _ _ _ _ _ h hw (lv_sub hl [] rfl)
  · have h := h.1 hc
    refine lv_iconst (v := 2) hx hb d_F_isLineFull_16 (by decide) ?_
    refine lv_goto (tgt := 22) hx hb d_F_isLineFull_17 (by decide) ?_
    exact j22 _ _ _ _ _ h hw (lv_sub hl [] rfl)
def rm_F_append : Room := { frames := 0, cells := 0, slots := 0, locals := 0 }
set_option maxHeartbeats 4000000 in
set_option maxRecDepth 100000 in
theorem c_F_append (l : Launch) (D : va_G) (cA : Nat → ClassId) (ad : Nat → Nat) (sz : Nat) (F_size : Int32) (F_sizes : (Nat → Int32)) (F_literals : (Nat → Int32)) (p1 : Int32) (p2 : Int32) (post : (Nat → Int32) → (Nat → Int32) → Prop) (h : wp_F_append F_sizes F_literals p1 p2 post) : Met l y_F_append w_F_append rm_F_append (mPc D cA [.ref (ad 6), .int p1, .int p2] [(k_F cA ad F_size), (k_F_sizes cA ad F_sizes), (k_F_literals cA ad F_literals)] sz) (va_Qv (fun (u : (Nat → Int32) × (Nat → Int32)) => post u.1 u.2) (mB D (va_A [(k_F cA ad F_size), (k_F_sizes cA ad F_sizes), (k_F_literals cA ad F_literals)] sz) (fun (u : (Nat → Int32) × (Nat → Int32)) => [(k_F cA ad F_size), (k_F_sizes cA ad u.1), (k_F_literals cA ad u.2)])) (va_A [(k_F cA ad F_size), (k_F_sizes cA ad F_sizes), (k_F_literals cA ad F_literals)] sz)) 0 0 (va_A [(k_F cA ad F_size), (k_F_sizes cA ad F_sizes), (k_F_literals cA ad F_literals)] sz) := by
  refine m_methV (by decide) rfl (Nat.le_of_ble_eq_true rfl) ?_
  intro p e s m below meth c A Q ls hx hb hml hown hts hK hA hw hl hE
  have hl : lv_has ls 3 [(0, .ref (ad 6)), (1, .int p1), (2, .int p2)] := hl
  have hown : s.vm.findClass R_F = some m.cls := hown
  have hg : ∀ {w : Cond}, w ∈ gw → w.before _ s = true := fun h => hts _ (List.mem_cons_of_mem _ h)
  unfold wp_F_append at h
  refine lv_aload_n hx hb d_F_append_0 rfl (lv_at hl 0 rfl) ?_
  refine va_get (D := D) (ci := 2) (v := .ref (ad 9)) (C := R_F) (T := T_F) (N := 5) hx hb hts (fun w h => List.mem_cons_of_mem _ (iw_F w h)) hown hK.1 hw.1 0 rfl rfl 2 (by decide) (hg gm_73) (fun _ h9 => h9) rfl d_F_append_1 ?_
  refine lv_iload_n hx hb d_F_append_4 rfl (lv_at hl 1 rfl) ?_
  refine lv_bipush (v := 6) hx hb d_F_append_5 (by decide) ?_
  refine lv_imul hx hb d_F_append_7 ?_
  refine lv_aload_n hx hb d_F_append_8 rfl (lv_at hl 0 rfl) ?_
  refine va_get (D := D) (ci := 2) (v := .ref (ad 8)) (C := R_F) (T := T_F) (N := 5) hx hb hts (fun w h => List.mem_cons_of_mem _ (iw_F w h)) hown hK.1 hw.1 0 rfl rfl 1 (by decide) (hg gm_69) (fun _ h9 => h9) rfl d_F_append_9 ?_
  refine lv_iload_n hx hb d_F_append_12 rfl (lv_at hl 1 rfl) ?_
  refine va_iald hx hb hK.1 hw.1 1 0 rfl rfl h.1 d_F_append_13 ?_
  have h := h.2
  refine lv_iadd hx hb d_F_append_14 ?_
  refine lv_iload_n hx hb d_F_append_15 rfl (lv_at hl 2 rfl) ?_
  refine m_iast (ws' := [(k_F cA ad F_size), (k_F_sizes cA ad F_sizes), (k_F_literals cA ad (upd F_literals ((p1 * 6) + (F_sizes p1.toNatClampNeg)).toNatClampNeg p2))]) hx hb hK.1 hw 2 0 rfl rfl h.1 rfl d_F_append_16 (fun H locs hw => ?_)
  have h := h.2
  refine lv_aload_n hx hb d_F_append_17 rfl (lv_at hl 0 rfl) ?_
  refine va_get (D := D) (ci := 2) (v := .ref (ad 8)) (C := R_F) (T := T_F) (N := 5) hx hb hts (fun w h => List.mem_cons_of_mem _ (iw_F w h)) hown hK.1 hw.1 0 rfl rfl 1 (by decide) (hg gm_69) (fun _ h9 => h9) rfl d_F_append_18 ?_
  refine lv_iload_n hx hb d_F_append_21 rfl (lv_at hl 1 rfl) ?_
  refine lv_dup2_11 hx hb d_F_append_22 rfl rfl ?_
  refine va_iald hx hb hK.1 hw.1 1 0 rfl rfl h.1 d_F_append_23 ?_
  have h := h.2
  refine lv_iconst (v := 1) hx hb d_F_append_24 (by decide) ?_
  refine lv_iadd hx hb d_F_append_25 ?_
  refine m_iast (ws' := [(k_F cA ad F_size), (k_F_sizes cA ad (upd F_sizes p1.toNatClampNeg ((F_sizes p1.toNatClampNeg) + 1))), (k_F_literals cA ad (upd F_literals ((p1 * 6) + (F_sizes p1.toNatClampNeg)).toNatClampNeg p2))]) hx hb hK.1 hw 1 0 rfl rfl h.1 rfl d_F_append_26 (fun H locs hw => ?_)
  have h := h.2
  exact hE ((upd F_sizes p1.toNatClampNeg ((F_sizes p1.toNatClampNeg) + 1)), (upd F_literals ((p1 * 6) + (F_sizes p1.toNatClampNeg)).toNatClampNeg p2)) _ _ _ _ h hw d_F_append_27
def rm_F_moveUp : Room := { frames := 1, cells := 0, slots := 0, locals := 60 }
set_option maxHeartbeats 4000000 in
set_option maxRecDepth 100000 in
theorem c_F_moveUp (l : Launch) (D : va_G) (cA : Nat → ClassId) (ad : Nat → Nat) (sz : Nat) (F_size : Int32) (F_kinds : (Nat → Int32)) (F_sizes : (Nat → Int32)) (F_literals : (Nat → Int32)) (F_leftOut : (Nat → Int32)) (post : Int32 → (Nat → Int32) → (Nat → Int32) → (Nat → Int32) → (Nat → Int32) → Prop) (h : wp_F_moveUp F_size F_kinds F_sizes F_literals F_leftOut post) : Met l y_F_moveUp w_F_moveUp rm_F_moveUp (mPc D cA [.ref (ad 6)] [(k_F cA ad F_size), (k_F_kinds cA ad F_kinds), (k_F_sizes cA ad F_sizes), (k_F_literals cA ad F_literals), (k_F_leftOut cA ad F_leftOut)] sz) (va_Qv (fun (u : Int32 × (Nat → Int32) × (Nat → Int32) × (Nat → Int32) × (Nat → Int32)) => post u.1 u.2.1 u.2.2.1 u.2.2.2.1 u.2.2.2.2) (mB D (va_A [(k_F cA ad F_size), (k_F_kinds cA ad F_kinds), (k_F_sizes cA ad F_sizes), (k_F_literals cA ad F_literals), (k_F_leftOut cA ad F_leftOut)] sz) (fun (u : Int32 × (Nat → Int32) × (Nat → Int32) × (Nat → Int32) × (Nat → Int32)) => [(k_F cA ad u.1), (k_F_kinds cA ad u.2.1), (k_F_sizes cA ad u.2.2.1), (k_F_literals cA ad u.2.2.2.1), (k_F_leftOut cA ad u.2.2.2.2)])) (va_A [(k_F cA ad F_size), (k_F_kinds cA ad F_kinds), (k_F_sizes cA ad F_sizes), (k_F_literals cA ad F_literals), (k_F_leftOut cA ad F_leftOut)] sz)) 0 0 (va_A [(k_F cA ad F_size), (k_F_kinds cA ad F_kinds), (k_F_sizes cA ad F_sizes), (k_F_literals cA ad F_literals), (k_F_leftOut cA ad F_leftOut)] sz) := by
  refine m_methV (by decide) rfl (Nat.le_of_ble_eq_true rfl) ?_
  intro p e s m below meth c A Q ls hx hb hml hown hts hK hA hw hl hE
  have hl : lv_has ls 3 [(0, .ref (ad 6))] := hl
  have hown : s.vm.findClass R_F = some m.cls := hown
  have hg : ∀ {w : Cond}, w ∈ gw → w.before _ s = true := fun h => hts _ (List.mem_cons_of_mem _ h)
  obtain ⟨C4, hC4⟩ : ∃ C : Int32 → Int32 → Int32 → (Nat → Int32) → (Nat → Int32) → (Nat → Int32) → (Nat → Int32) → Prop, ∀ (x1 : Int32) (x2 : Int32) (F_size : Int32) (F_kinds : (Nat → Int32)) (F_sizes : (Nat → Int32)) (F_literals : (Nat → Int32)) (F_leftOut : (Nat → Int32)), C x1 x2 F_size F_kinds F_sizes F_literals F_leftOut ↔ (∀ (H : Heap) (locs : List Loc) (ls : Array Slot), mW D A s.heap [(k_F cA ad F_size), (k_F_kinds cA ad F_kinds), (k_F_sizes cA ad F_sizes), (k_F_literals cA ad F_literals), (k_F_leftOut cA ad F_leftOut)] H locs → lv_has ls 3 [(0, .ref (ad 6)), (1, .int x1), (2, .int x2)] → W p l e rm_F_moveUp s m [.ref (ad 6)].toArray below meth c H locs 0 0 Q (F0 m 4 ls [])) := ⟨_, fun _ _ _ _ _ _ _ => Iff.rfl⟩
  have j69 : ∀ (x1 : Int32) (x2 : Int32) (F_size : Int32) (F_kinds : (Nat → Int32)) (F_sizes : (Nat → Int32)) (F_literals : (Nat → Int32)) (F_leftOut : (Nat → Int32)) (H : Heap) (locs : List Loc) (ls : Array Slot), s_F_moveUp_69 C4 post x1 x2 F_size F_kinds F_sizes F_literals F_leftOut → mW D A s.heap [(k_F cA ad F_size), (k_F_kinds cA ad F_kinds), (k_F_sizes cA ad F_sizes), (k_F_literals cA ad F_literals), (k_F_leftOut cA ad F_leftOut)] H locs → lv_has ls 3 [(0, .ref (ad 6)), (1, .int x1), (2, .int x2)] → W p l e rm_F_moveUp s m [.ref (ad 6)].toArray below meth c H locs 0 0 Q (F0 m 69 ls []) := by
    intro x1 x2 F_size F_kinds F_sizes F_literals F_leftOut H locs ls h hw hl
    unfold s_F_moveUp_69 at h
    refine lv_aload_n hx hb d_F_moveUp_69 rfl (lv_at hl 0 rfl) ?_
    refine va_get (D := D) (ci := 2) (v := .ref (ad 10)) (C := R_F) (T := T_F) (N := 5) hx hb hts (fun w h => List.mem_cons_of_mem _ (iw_F w h)) hown hK.1 hw.1 0 rfl rfl 3 (by decide) (hg gm_74) (fun _ h9 => h9) rfl d_F_moveUp_70 ?_
    refine lv_iload_n hx hb d_F_moveUp_73 rfl (lv_at hl 2 rfl) ?_
    refine lv_iconst (v := 0) hx hb d_F_moveUp_74 (by decide) ?_
    refine m_zast (ws' := [(k_F cA ad F_size), (k_F_kinds cA ad F_kinds), (k_F_sizes cA ad F_sizes), (k_F_literals cA ad F_literals), (k_F_leftOut cA ad (upd F_leftOut x2.toNatClampNeg (vp_nar .boolean 0)))]) hx hb hK.1 hw 4 1 rfl rfl h.1 rfl d_F_moveUp_75 (fun H locs hw => ?_)
    have h := h.2
    refine lv_iinc (v := (x2 + 1)) (lv' := [(2, .int (x2 + 1)), (0, .ref (ad 6)), (1, .int x1)]) hx hb d_F_moveUp_76 hl (k := 2) rfl rfl (by decide) rfl (fun ls hl => ?_)
    refine lv_goto (tgt := 4) hx hb d_F_moveUp_79 (by decide) ?_
    exact (hC4 _ _ _ _ _ _ _).1 h _ _ _ hw (lv_sub hl [1, 2, 0] rfl)
  have hc4 : ∀ (x1 : Int32) (x2 : Int32) (F_size : Int32) (F_kinds : (Nat → Int32)) (F_sizes : (Nat → Int32)) (F_literals : (Nat → Int32)) (F_leftOut : (Nat → Int32)), s_F_moveUp_4 C4 post x1 x2 F_size F_kinds F_sizes F_literals F_leftOut → C4 x1 x2 F_size F_kinds F_sizes F_literals F_leftOut := by
    intro x1 x2 F_size F_kinds F_sizes F_literals F_leftOut h
    unfold s_F_moveUp_4 at h
    refine (hC4 _ _ _ _ _ _ _).2 ?_
    intro H locs ls hw hl
    refine lv_iload_n hx hb d_F_moveUp_4 rfl (lv_at hl 2 rfl) ?_
    refine lv_aload_n hx hb d_F_moveUp_5 rfl (lv_at hl 0 rfl) ?_
    refine va_get (D := D) (ci := 2) (v := .int F_size) (C := R_F) (T := T_F) (N := 5) hx hb hts (fun w h => List.mem_cons_of_mem _ (iw_F w h)) hown hK.1 hw.1 0 rfl rfl 4 (by decide) (hg gm_77) (fun _ h9 => h9) rfl d_F_moveUp_6 ?_
    refine lv_icmp_ge (tgt := 82) hx hb d_F_moveUp_9 (by decide) (fun hc => ?_) (fun hc => ?_)
    · have h := h.1 hc
      refine lv_aload_n hx hb d_F_moveUp_82 rfl (lv_at hl 0 rfl) ?_
      refine lv_iload_n hx hb d_F_moveUp_83 rfl (lv_at hl 1 rfl) ?_
      refine m_put (ws' := [(k_F cA ad x1), (k_F_kinds cA ad F_kinds), (k_F_sizes cA ad F_sizes), (k_F_literals cA ad F_literals), (k_F_leftOut cA ad F_leftOut)]) (ci := 2) (v := .int x1) (ty := .int) (C := R_F) (T := T_F) (N := 5) hx hb hts (fun w h => List.mem_cons_of_mem _ (iw_F w h)) ty_F tyok_F nm_F hown hK.1 hw 0 rfl rfl 4 (by decide) (hg gm_77) (fun _ h9 => h9) rfl (by decide +kernel) rfl rfl (Nat.le_of_ble_eq_true rfl) rfl d_F_moveUp_84 (fun H locs hw => ?_)
      exact hE (x1, F_kinds, F_sizes, F_literals, F_leftOut) _ _ _ _ h hw d_F_moveUp_87
    · have h := h.2 hc
      refine lv_aload_n hx hb d_F_moveUp_12 rfl (lv_at hl 0 rfl) ?_
      refine va_get (D := D) (ci := 2) (v := .ref (ad 10)) (C := R_F) (T := T_F) (N := 5) hx hb hts (fun w h => List.mem_cons_of_mem _ (iw_F w h)) hown hK.1 hw.1 0 rfl rfl 3 (by decide) (hg gm_74) (fun _ h9 => h9) rfl d_F_moveUp_13 ?_
      refine lv_iload_n hx hb d_F_moveUp_16 rfl (lv_at hl 2 rfl) ?_
      refine va_zald hx hb hK.1 hw.1 4 1 rfl rfl h.1 d_F_moveUp_17 ?_
      have h := h.2
      refine lv_if_ne (tgt := 69) hx hb d_F_moveUp_18 (by decide) (fun hc => ?_) (fun hc => ?_)
      · have h := h.2 hc
        exact j69 _ _ _ _ _ _ _ _ _ _ h hw (lv_sub hl [0, 1, 2] rfl)
      · have h := h.1 hc
        refine lv_aload_n hx hb d_F_moveUp_21 rfl (lv_at hl 0 rfl) ?_
        refine va_get (D := D) (ci := 2) (v := .ref (ad 7)) (C := R_F) (T := T_F) (N := 5) hx hb hts (fun w h => List.mem_cons_of_mem _ (iw_F w h)) hown hK.1 hw.1 0 rfl rfl 0 (by decide) (hg gm_64) (fun _ h9 => h9) rfl d_F_moveUp_22 ?_
        refine lv_iload_n hx hb d_F_moveUp_25 rfl (lv_at hl 1 rfl) ?_
        refine lv_aload_n hx hb d_F_moveUp_26 rfl (lv_at hl 0 rfl) ?_
        refine va_get (D := D) (ci := 2) (v := .ref (ad 7)) (C := R_F) (T := T_F) (N := 5) hx hb hts (fun w h => List.mem_cons_of_mem _ (iw_F w h)) hown hK.1 hw.1 0 rfl rfl 0 (by decide) (hg gm_64) (fun _ h9 => h9) rfl d_F_moveUp_27 ?_
        refine lv_iload_n hx hb d_F_moveUp_30 rfl (lv_at hl 2 rfl) ?_
        refine va_iald hx hb hK.1 hw.1 1 0 rfl rfl h.1 d_F_moveUp_31 ?_
        have h := h.2
        refine m_iast (ws' := [(k_F cA ad F_size), (k_F_kinds cA ad (upd F_kinds x1.toNatClampNeg (F_kinds x2.toNatClampNeg))), (k_F_sizes cA ad F_sizes), (k_F_literals cA ad F_literals), (k_F_leftOut cA ad F_leftOut)]) hx hb hK.1 hw 1 0 rfl rfl h.1 rfl d_F_moveUp_32 (fun H locs hw => ?_)
        have h := h.2
        refine lv_aload_n hx hb d_F_moveUp_33 rfl (lv_at hl 0 rfl) ?_
        refine va_get (D := D) (ci := 2) (v := .ref (ad 8)) (C := R_F) (T := T_F) (N := 5) hx hb hts (fun w h => List.mem_cons_of_mem _ (iw_F w h)) hown hK.1 hw.1 0 rfl rfl 1 (by decide) (hg gm_69) (fun _ h9 => h9) rfl d_F_moveUp_34 ?_
        refine lv_iload_n hx hb d_F_moveUp_37 rfl (lv_at hl 1 rfl) ?_
        refine lv_aload_n hx hb d_F_moveUp_38 rfl (lv_at hl 0 rfl) ?_
        refine va_get (D := D) (ci := 2) (v := .ref (ad 8)) (C := R_F) (T := T_F) (N := 5) hx hb hts (fun w h => List.mem_cons_of_mem _ (iw_F w h)) hown hK.1 hw.1 0 rfl rfl 1 (by decide) (hg gm_69) (fun _ h9 => h9) rfl d_F_moveUp_39 ?_
        refine lv_iload_n hx hb d_F_moveUp_42 rfl (lv_at hl 2 rfl) ?_
        refine va_iald hx hb hK.1 hw.1 2 0 rfl rfl h.1 d_F_moveUp_43 ?_
        have h := h.2
        refine m_iast (ws' := [(k_F cA ad F_size), (k_F_kinds cA ad (upd F_kinds x1.toNatClampNeg (F_kinds x2.toNatClampNeg))), (k_F_sizes cA ad (upd F_sizes x1.toNatClampNeg (F_sizes x2.toNatClampNeg))), (k_F_literals cA ad F_literals), (k_F_leftOut cA ad F_leftOut)]) hx hb hK.1 hw 2 0 rfl rfl h.1 rfl d_F_moveUp_44 (fun H locs hw => ?_)
        have h := h.2
        refine lv_aload_n hx hb d_F_moveUp_45 rfl (lv_at hl 0 rfl) ?_
        refine va_get (D := D) (ci := 2) (v := .ref (ad 9)) (C := R_F) (T := T_F) (N := 5) hx hb hts (fun w h => List.mem_cons_of_mem _ (iw_F w h)) hown hK.1 hw.1 0 rfl rfl 2 (by decide) (hg gm_73) (fun _ h9 => h9) rfl d_F_moveUp_46 ?_
        refine lv_iload_n hx hb d_F_moveUp_49 rfl (lv_at hl 2 rfl) ?_
        refine lv_bipush (v := 6) hx hb d_F_moveUp_50 (by decide) ?_
        refine lv_imul hx hb d_F_moveUp_52 ?_
        refine lv_aload_n hx hb d_F_moveUp_53 rfl (lv_at hl 0 rfl) ?_
        refine va_get (D := D) (ci := 2) (v := .ref (ad 9)) (C := R_F) (T := T_F) (N := 5) hx hb hts (fun w h => List.mem_cons_of_mem _ (iw_F w h)) hown hK.1 hw.1 0 rfl rfl 2 (by decide) (hg gm_73) (fun _ h9 => h9) rfl d_F_moveUp_54 ?_
        refine lv_iload_n hx hb d_F_moveUp_57 rfl (lv_at hl 1 rfl) ?_
        refine lv_bipush (v := 6) hx hb d_F_moveUp_58 (by decide) ?_
        refine lv_imul hx hb d_F_moveUp_60 ?_
        refine lv_bipush (v := 6) hx hb d_F_moveUp_61 (by decide) ?_
        refine m_copyi (ws' := [(k_F cA ad F_size), (k_F_kinds cA ad (upd F_kinds x1.toNatClampNeg (F_kinds x2.toNatClampNeg))), (k_F_sizes cA ad (upd F_sizes x1.toNatClampNeg (F_sizes x2.toNatClampNeg))), (k_F_literals cA ad (va_cpy F_literals F_literals (x2 * 6).toNatClampNeg (x1 * 6).toNatClampNeg (6 : Int32).toNatClampNeg)), (k_F_leftOut cA ad F_leftOut)]) hx hb (hml.trans hl.1.symm) hown (hg gm_508) (hg gm_510) (hg gm_509) (hg gm_14) hK.1 hw 3 3 0 0 rfl rfl rfl rfl rfl h.1 (fun _ _ => rfl) (Nat.le_of_ble_eq_true rfl) (Nat.le_of_ble_eq_true rfl) rfl d_F_moveUp_63 (fun H locs hw => ?_)
        have h := h.2
        refine lv_iinc (v := (x1 + 1)) (lv' := [(1, .int (x1 + 1)), (0, .ref (ad 6)), (2, .int x2)]) hx hb d_F_moveUp_66 hl (k := 1) rfl rfl (by decide) rfl (fun ls hl => ?_)
        exact j69 _ _ _ _ _ _ _ _ _ _ h hw (lv_sub hl [1, 0, 2] rfl)
  unfold wp_F_moveUp at h
  have h := h C4 hc4
  refine lv_iconst (v := 0) hx hb d_F_moveUp_0 (by decide) ?_
  refine lv_istore_n (lv' := [(1, .int 0), (0, .ref (ad 6))]) hx hb d_F_moveUp_1 rfl hl (by decide) rfl (fun ls hl => ?_)
  refine lv_iconst (v := 0) hx hb d_F_moveUp_2 (by decide) ?_
  refine lv_istore_n (lv' := [(2, .int 0), (1, .int 0), (0, .ref (ad 6))]) hx hb d_F_moveUp_3 rfl hl (by decide) rfl (fun ls hl => ?_)
  exact (hC4 _ _ _ _ _ _ _).1 h _ _ _ hw (lv_sub hl [2, 1, 0] rfl)
end
section
theorem d_X_literalLength_0 : decode b_X_literalLength 0 = .ok (.iload_n 0, 1) := by decide +kernel
theorem d_X_literalLength_1 : decode b_X_literalLength 1 = .ok (.iconst 1, 1) := by decide +kernel
theorem d_X_literalLength_2 : decode b_X_literalLength 2 = .ok (.ishr, 1) := by decide +kernel
theorem d_X_literalLength_3 : decode b_X_literalLength 3 = .ok (.bipush 10, 2) := by decide +kernel
theorem d_X_literalLength_5 : decode b_X_literalLength 5 = .ok (.if_icmp .ge 7, 3) := by decide +kernel
theorem d_X_literalLength_8 : decode b_X_literalLength 8 = .ok (.iconst 3, 1) := by decide +kernel
theorem d_X_literalLength_9 : decode b_X_literalLength 9 = .ok (.goto 4, 3) := by decide +kernel
theorem d_X_literalLength_12 : decode b_X_literalLength 12 = .ok (.iconst 4, 1) := by decide +kernel
theorem d_X_literalLength_13 : decode b_X_literalLength 13 = .ok (.ireturn, 1) := by decide +kernel
theorem d_X_lineLength_0 : decode b_X_lineLength 0 = .ok (.iconst 2, 1) := by decide +kernel
theorem d_X_lineLength_1 : decode b_X_lineLength 1 = .ok (.istore_n 2, 1) := by decide +kernel
theorem d_X_lineLength_2 : decode b_X_lineLength 2 = .ok (.iconst 0, 1) := by decide +kernel
theorem d_X_lineLength_3 : decode b_X_lineLength 3 = .ok (.istore_n 3, 1) := by decide +kernel
theorem d_X_lineLength_4 : decode b_X_lineLength 4 = .ok (.iload_n 3, 1) := by decide +kernel
theorem d_X_lineLength_5 : decode b_X_lineLength 5 = .ok (.aload_n 0, 1) := by decide +kernel
theorem d_X_lineLength_6 : decode b_X_lineLength 6 = .ok (.getfield 25, 3) := by decide +kernel
theorem d_X_lineLength_9 : decode b_X_lineLength 9 = .ok (.iload_n 1, 1) := by decide +kernel
theorem d_X_lineLength_10 : decode b_X_lineLength 10 = .ok (.iaload, 1) := by decide +kernel
theorem d_X_lineLength_11 : decode b_X_lineLength 11 = .ok (.if_icmp .ge 21, 3) := by decide +kernel
theorem d_X_lineLength_14 : decode b_X_lineLength 14 = .ok (.iload_n 2, 1) := by decide +kernel
theorem d_X_lineLength_15 : decode b_X_lineLength 15 = .ok (.aload_n 0, 1) := by decide +kernel
theorem d_X_lineLength_16 : decode b_X_lineLength 16 = .ok (.iload_n 1, 1) := by decide +kernel
theorem d_X_lineLength_17 : decode b_X_lineLength 17 = .ok (.iload_n 3, 1) := by decide +kernel
theorem d_X_lineLength_18 : decode b_X_lineLength 18 = .ok (.invokevirtual 29, 3) := by decide +kernel
theorem d_X_lineLength_21 : decode b_X_lineLength 21 = .ok (.invokestatic 33, 3) := by decide +kernel
theorem d_X_lineLength_24 : decode b_X_lineLength 24 = .ok (.iadd, 1) := by decide +kernel
theorem d_X_lineLength_25 : decode b_X_lineLength 25 = .ok (.istore_n 2, 1) := by decide +kernel
theorem d_X_lineLength_26 : decode b_X_lineLength 26 = .ok (.iinc 3 1, 3) := by decide +kernel
theorem d_X_lineLength_29 : decode b_X_lineLength 29 = .ok (.goto (-25), 3) := by decide +kernel
theorem d_X_lineLength_32 : decode b_X_lineLength 32 = .ok (.iload_n 2, 1) := by decide +kernel
theorem d_X_lineLength_33 : decode b_X_lineLength 33 = .ok (.ireturn, 1) := by decide +kernel
theorem d_X_lengthOf_0 : decode b_X_lengthOf 0 = .ok (.iconst 0, 1) := by decide +kernel
theorem d_X_lengthOf_1 : decode b_X_lengthOf 1 = .ok (.istore_n 1, 1) := by decide +kernel
theorem d_X_lengthOf_2 : decode b_X_lengthOf 2 = .ok (.iconst 0, 1) := by decide +kernel
theorem d_X_lengthOf_3 : decode b_X_lengthOf 3 = .ok (.istore_n 2, 1) := by decide +kernel
theorem d_X_lengthOf_4 : decode b_X_lengthOf 4 = .ok (.iload_n 2, 1) := by decide +kernel
theorem d_X_lengthOf_5 : decode b_X_lengthOf 5 = .ok (.aload_n 0, 1) := by decide +kernel
theorem d_X_lengthOf_6 : decode b_X_lengthOf 6 = .ok (.getfield 9, 3) := by decide +kernel
theorem d_X_lengthOf_9 : decode b_X_lengthOf 9 = .ok (.if_icmp .ge 17, 3) := by decide +kernel
theorem d_X_lengthOf_12 : decode b_X_lengthOf 12 = .ok (.iload_n 1, 1) := by decide +kernel
theorem d_X_lengthOf_13 : decode b_X_lengthOf 13 = .ok (.aload_n 0, 1) := by decide +kernel
theorem d_X_lengthOf_14 : decode b_X_lengthOf 14 = .ok (.iload_n 2, 1) := by decide +kernel
theorem d_X_lengthOf_15 : decode b_X_lengthOf 15 = .ok (.invokestatic 15, 3) := by decide +kernel
theorem d_X_lengthOf_18 : decode b_X_lengthOf 18 = .ok (.iadd, 1) := by decide +kernel
theorem d_X_lengthOf_19 : decode b_X_lengthOf 19 = .ok (.istore_n 1, 1) := by decide +kernel
theorem d_X_lengthOf_20 : decode b_X_lengthOf 20 = .ok (.iinc 2 1, 3) := by decide +kernel
theorem d_X_lengthOf_23 : decode b_X_lengthOf 23 = .ok (.goto (-19), 3) := by decide +kernel
theorem d_X_lengthOf_26 : decode b_X_lengthOf 26 = .ok (.iload_n 1, 1) := by decide +kernel
theorem d_X_lengthOf_27 : decode b_X_lengthOf 27 = .ok (.ireturn, 1) := by decide +kernel
theorem d_X_literalByte_0 : decode b_X_literalByte 0 = .ok (.iload_n 1, 1) := by decide +kernel
theorem d_X_literalByte_1 : decode b_X_literalByte 1 = .ok (.ifCond .ne 6, 3) := by decide +kernel
theorem d_X_literalByte_4 : decode b_X_literalByte 4 = .ok (.bipush 32, 2) := by decide +kernel
theorem d_X_literalByte_6 : decode b_X_literalByte 6 = .ok (.ireturn, 1) := by decide +kernel
theorem d_X_literalByte_7 : decode b_X_literalByte 7 = .ok (.iload_n 1, 1) := by decide +kernel
theorem d_X_literalByte_8 : decode b_X_literalByte 8 = .ok (.iconst 1, 1) := by decide +kernel
theorem d_X_literalByte_9 : decode b_X_literalByte 9 = .ok (.if_icmp .ne 18, 3) := by decide +kernel
theorem d_X_literalByte_12 : decode b_X_literalByte 12 = .ok (.iload_n 0, 1) := by decide +kernel
theorem d_X_literalByte_13 : decode b_X_literalByte 13 = .ok (.iconst 1, 1) := by decide +kernel
theorem d_X_literalByte_14 : decode b_X_literalByte 14 = .ok (.iand, 1) := by decide +kernel
theorem d_X_literalByte_15 : decode b_X_literalByte 15 = .ok (.iconst 1, 1) := by decide +kernel
theorem d_X_literalByte_16 : decode b_X_literalByte 16 = .ok (.if_icmp .ne 8, 3) := by decide +kernel
theorem d_X_literalByte_19 : decode b_X_literalByte 19 = .ok (.bipush 45, 2) := by decide +kernel
theorem d_X_literalByte_21 : decode b_X_literalByte 21 = .ok (.goto 5, 3) := by decide +kernel
theorem d_X_literalByte_24 : decode b_X_literalByte 24 = .ok (.bipush 43, 2) := by decide +kernel
theorem d_X_literalByte_26 : decode b_X_literalByte 26 = .ok (.ireturn, 1) := by decide +kernel
theorem d_X_literalByte_27 : decode b_X_literalByte 27 = .ok (.iload_n 0, 1) := by decide +kernel
theorem d_X_literalByte_28 : decode b_X_literalByte 28 = .ok (.iconst 1, 1) := by decide +kernel
theorem d_X_literalByte_29 : decode b_X_literalByte 29 = .ok (.ishr, 1) := by decide +kernel
theorem d_X_literalByte_30 : decode b_X_literalByte 30 = .ok (.istore_n 2, 1) := by decide +kernel
theorem d_X_literalByte_31 : decode b_X_literalByte 31 = .ok (.bipush 48, 2) := by decide +kernel
theorem d_X_literalByte_33 : decode b_X_literalByte 33 = .ok (.iload_n 1, 1) := by decide +kernel
theorem d_X_literalByte_34 : decode b_X_literalByte 34 = .ok (.iload_n 0, 1) := by decide +kernel
theorem d_X_literalByte_35 : decode b_X_literalByte 35 = .ok (.invokestatic 33, 3) := by decide +kernel
theorem d_X_literalByte_38 : decode b_X_literalByte 38 = .ok (.iconst 1, 1) := by decide +kernel
theorem d_X_literalByte_39 : decode b_X_literalByte 39 = .ok (.isub, 1) := by decide +kernel
theorem d_X_literalByte_40 : decode b_X_literalByte 40 = .ok (.if_icmp .ne 10, 3) := by decide +kernel
theorem d_X_literalByte_43 : decode b_X_literalByte 43 = .ok (.iload_n 2, 1) := by decide +kernel
theorem d_X_literalByte_44 : decode b_X_literalByte 44 = .ok (.bipush 10, 2) := by decide +kernel
theorem d_X_literalByte_46 : decode b_X_literalByte 46 = .ok (.irem, 1) := by decide +kernel
theorem d_X_literalByte_47 : decode b_X_literalByte 47 = .ok (.goto 7, 3) := by decide +kernel
theorem d_X_literalByte_50 : decode b_X_literalByte 50 = .ok (.iload_n 2, 1) := by decide +kernel
theorem d_X_literalByte_51 : decode b_X_literalByte 51 = .ok (.bipush 10, 2) := by decide +kernel
theorem d_X_literalByte_53 : decode b_X_literalByte 53 = .ok (.idiv, 1) := by decide +kernel
theorem d_X_literalByte_54 : decode b_X_literalByte 54 = .ok (.iadd, 1) := by decide +kernel
theorem d_X_literalByte_55 : decode b_X_literalByte 55 = .ok (.ireturn, 1) := by decide +kernel
theorem d_X_lineByte_0 : decode b_X_lineByte 0 = .ok (.iload_n 2, 1) := by decide +kernel
theorem d_X_lineByte_1 : decode b_X_lineByte 1 = .ok (.ifCond .ne 21, 3) := by decide +kernel
theorem d_X_lineByte_4 : decode b_X_lineByte 4 = .ok (.aload_n 0, 1) := by decide +kernel
theorem d_X_lineByte_5 : decode b_X_lineByte 5 = .ok (.getfield 37, 3) := by decide +kernel
theorem d_X_lineByte_8 : decode b_X_lineByte 8 = .ok (.iload_n 1, 1) := by decide +kernel
theorem d_X_lineByte_9 : decode b_X_lineByte 9 = .ok (.iaload, 1) := by decide +kernel
theorem d_X_lineByte_10 : decode b_X_lineByte 10 = .ok (.iconst 1, 1) := by decide +kernel
theorem d_X_lineByte_11 : decode b_X_lineByte 11 = .ok (.if_icmp .ne 8, 3) := by decide +kernel
theorem d_X_lineByte_14 : decode b_X_lineByte 14 = .ok (.bipush 61, 2) := by decide +kernel
theorem d_X_lineByte_16 : decode b_X_lineByte 16 = .ok (.goto 5, 3) := by decide +kernel
theorem d_X_lineByte_19 : decode b_X_lineByte 19 = .ok (.bipush 99, 2) := by decide +kernel
theorem d_X_lineByte_21 : decode b_X_lineByte 21 = .ok (.ireturn, 1) := by decide +kernel
theorem d_X_lineByte_22 : decode b_X_lineByte 22 = .ok (.iload_n 2, 1) := by decide +kernel
theorem d_X_lineByte_23 : decode b_X_lineByte 23 = .ok (.iconst 1, 1) := by decide +kernel
theorem d_X_lineByte_24 : decode b_X_lineByte 24 = .ok (.isub, 1) := by decide +kernel
theorem d_X_lineByte_25 : decode b_X_lineByte 25 = .ok (.istore_n 3, 1) := by decide +kernel
theorem d_X_lineByte_26 : decode b_X_lineByte 26 = .ok (.iconst 0, 1) := by decide +kernel
theorem d_X_lineByte_27 : decode b_X_lineByte 27 = .ok (.istore 4, 2) := by decide +kernel
theorem d_X_lineByte_29 : decode b_X_lineByte 29 = .ok (.iload 4, 2) := by decide +kernel
theorem d_X_lineByte_31 : decode b_X_lineByte 31 = .ok (.aload_n 0, 1) := by decide +kernel
theorem d_X_lineByte_32 : decode b_X_lineByte 32 = .ok (.getfield 25, 3) := by decide +kernel
theorem d_X_lineByte_35 : decode b_X_lineByte 35 = .ok (.iload_n 1, 1) := by decide +kernel
theorem d_X_lineByte_36 : decode b_X_lineByte 36 = .ok (.iaload, 1) := by decide +kernel
theorem d_X_lineByte_37 : decode b_X_lineByte 37 = .ok (.if_icmp .ge 43, 3) := by decide +kernel
theorem d_X_lineByte_40 : decode b_X_lineByte 40 = .ok (.aload_n 0, 1) := by decide +kernel
theorem d_X_lineByte_41 : decode b_X_lineByte 41 = .ok (.iload_n 1, 1) := by decide +kernel
theorem d_X_lineByte_42 : decode b_X_lineByte 42 = .ok (.iload 4, 2) := by decide +kernel
theorem d_X_lineByte_44 : decode b_X_lineByte 44 = .ok (.invokevirtual 29, 3) := by decide +kernel
theorem d_X_lineByte_47 : decode b_X_lineByte 47 = .ok (.istore 5, 2) := by decide +kernel
theorem d_X_lineByte_49 : decode b_X_lineByte 49 = .ok (.iload 5, 2) := by decide +kernel
theorem d_X_lineByte_51 : decode b_X_lineByte 51 = .ok (.invokestatic 33, 3) := by decide +kernel
theorem d_X_lineByte_54 : decode b_X_lineByte 54 = .ok (.istore 6, 2) := by decide +kernel
theorem d_X_lineByte_56 : decode b_X_lineByte 56 = .ok (.iload_n 3, 1) := by decide +kernel
theorem d_X_lineByte_57 : decode b_X_lineByte 57 = .ok (.iload 6, 2) := by decide +kernel
theorem d_X_lineByte_59 : decode b_X_lineByte 59 = .ok (.if_icmp .ge 10, 3) := by decide +kernel
theorem d_X_lineByte_62 : decode b_X_lineByte 62 = .ok (.iload 5, 2) := by decide +kernel
theorem d_X_lineByte_64 : decode b_X_lineByte 64 = .ok (.iload_n 3, 1) := by decide +kernel
theorem d_X_lineByte_65 : decode b_X_lineByte 65 = .ok (.invokestatic 40, 3) := by decide +kernel
theorem d_X_lineByte_68 : decode b_X_lineByte 68 = .ok (.ireturn, 1) := by decide +kernel
theorem d_X_lineByte_69 : decode b_X_lineByte 69 = .ok (.iload_n 3, 1) := by decide +kernel
theorem d_X_lineByte_70 : decode b_X_lineByte 70 = .ok (.iload 6, 2) := by decide +kernel
theorem d_X_lineByte_72 : decode b_X_lineByte 72 = .ok (.isub, 1) := by decide +kernel
theorem d_X_lineByte_73 : decode b_X_lineByte 73 = .ok (.istore_n 3, 1) := by decide +kernel
theorem d_X_lineByte_74 : decode b_X_lineByte 74 = .ok (.iinc 4 1, 3) := by decide +kernel
theorem d_X_lineByte_77 : decode b_X_lineByte 77 = .ok (.goto (-48), 3) := by decide +kernel
theorem d_X_lineByte_80 : decode b_X_lineByte 80 = .ok (.bipush 10, 2) := by decide +kernel
theorem d_X_lineByte_82 : decode b_X_lineByte 82 = .ok (.ireturn, 1) := by decide +kernel
theorem d_X_byteOf_0 : decode b_X_byteOf 0 = .ok (.iload_n 1, 1) := by decide +kernel
theorem d_X_byteOf_1 : decode b_X_byteOf 1 = .ok (.istore_n 2, 1) := by decide +kernel
theorem d_X_byteOf_2 : decode b_X_byteOf 2 = .ok (.iconst 0, 1) := by decide +kernel
theorem d_X_byteOf_3 : decode b_X_byteOf 3 = .ok (.istore_n 3, 1) := by decide +kernel
theorem d_X_byteOf_4 : decode b_X_byteOf 4 = .ok (.iload_n 3, 1) := by decide +kernel
theorem d_X_byteOf_5 : decode b_X_byteOf 5 = .ok (.aload_n 0, 1) := by decide +kernel
theorem d_X_byteOf_6 : decode b_X_byteOf 6 = .ok (.getfield 9, 3) := by decide +kernel
theorem d_X_byteOf_9 : decode b_X_byteOf 9 = .ok (.if_icmp .ge 34, 3) := by decide +kernel
theorem d_X_byteOf_12 : decode b_X_byteOf 12 = .ok (.aload_n 0, 1) := by decide +kernel
theorem d_X_byteOf_13 : decode b_X_byteOf 13 = .ok (.iload_n 3, 1) := by decide +kernel
theorem d_X_byteOf_14 : decode b_X_byteOf 14 = .ok (.invokestatic 15, 3) := by decide +kernel
theorem d_X_byteOf_17 : decode b_X_byteOf 17 = .ok (.istore 4, 2) := by decide +kernel
theorem d_X_byteOf_19 : decode b_X_byteOf 19 = .ok (.iload_n 2, 1) := by decide +kernel
theorem d_X_byteOf_20 : decode b_X_byteOf 20 = .ok (.iload 4, 2) := by decide +kernel
theorem d_X_byteOf_22 : decode b_X_byteOf 22 = .ok (.if_icmp .ge 10, 3) := by decide +kernel
theorem d_X_byteOf_25 : decode b_X_byteOf 25 = .ok (.aload_n 0, 1) := by decide +kernel
theorem d_X_byteOf_26 : decode b_X_byteOf 26 = .ok (.iload_n 3, 1) := by decide +kernel
theorem d_X_byteOf_27 : decode b_X_byteOf 27 = .ok (.iload_n 2, 1) := by decide +kernel
theorem d_X_byteOf_28 : decode b_X_byteOf 28 = .ok (.invokestatic 21, 3) := by decide +kernel
theorem d_X_byteOf_31 : decode b_X_byteOf 31 = .ok (.ireturn, 1) := by decide +kernel
theorem d_X_byteOf_32 : decode b_X_byteOf 32 = .ok (.iload_n 2, 1) := by decide +kernel
theorem d_X_byteOf_33 : decode b_X_byteOf 33 = .ok (.iload 4, 2) := by decide +kernel
theorem d_X_byteOf_35 : decode b_X_byteOf 35 = .ok (.isub, 1) := by decide +kernel
theorem d_X_byteOf_36 : decode b_X_byteOf 36 = .ok (.istore_n 2, 1) := by decide +kernel
theorem d_X_byteOf_37 : decode b_X_byteOf 37 = .ok (.iinc 3 1, 3) := by decide +kernel
theorem d_X_byteOf_40 : decode b_X_byteOf 40 = .ok (.goto (-36), 3) := by decide +kernel
theorem d_X_byteOf_43 : decode b_X_byteOf 43 = .ok (.bipush 10, 2) := by decide +kernel
theorem d_X_byteOf_45 : decode b_X_byteOf 45 = .ok (.ireturn, 1) := by decide +kernel
def rm_X_literalLength : Room := { frames := 0, cells := 0, slots := 0, locals := 0 }
set_option maxHeartbeats 4000000 in
set_option maxRecDepth 100000 in
theorem c_X_literalLength (l : Launch) (D : va_G) (cA : Nat → ClassId) (ad : Nat → Nat) (sz : Nat) (p0 : Int32) (post : Int32 → Prop) (h : wp_X_literalLength p0 post) : Met l y_X_literalLength w_X_literalLength rm_X_literalLength (mPc D cA [.int p0] [] sz) (va_Qi (fun (r : Int32) (_ : Unit) => post r) (mB D (va_A [] sz) (fun (_ : Unit) => [])) (va_A [] sz)) 0 0 (va_A [] sz) := by
  refine m_methI (by decide) rfl (Nat.le_of_ble_eq_true rfl) ?_
  intro p e s m below meth c A Q ls hx hb hml hown hts hK hA hw hl hE
  have hl : lv_has ls 1 [(0, .int p0)] := hl
  have hown : s.vm.findClass R_X = some m.cls := hown
  have hg : ∀ {w : Cond}, w ∈ gw → w.before _ s = true := fun h => hts _ (List.mem_cons_of_mem _ h)
  unfold wp_X_literalLength at h
  refine lv_iload_n hx hb d_X_literalLength_0 rfl (lv_at hl 0 rfl) ?_
  refine lv_iconst (v := 1) hx hb d_X_literalLength_1 (by decide) ?_
  refine lv_ishr hx hb d_X_literalLength_2 ?_
  refine lv_bipush (v := 10) hx hb d_X_literalLength_3 (by decide) ?_
  refine lv_icmp_ge (tgt := 12) hx hb d_X_literalLength_5 (by decide) (fun hc => ?_) (fun hc => ?_)
  · have h := h.1 hc
    refine lv_iconst (v := 4) hx hb d_X_literalLength_12 (by decide) ?_
    exact hE 4 () _ _ _ _ h hw d_X_literalLength_13
  · have h := h.2 hc
    refine lv_iconst (v := 3) hx hb d_X_literalLength_8 (by decide) ?_
    refine lv_goto (tgt := 13) hx hb d_X_literalLength_9 (by decide) ?_
    exact hE 3 () _ _ _ _ h hw d_X_literalLength_13
def rm_X_lineLength : Room := { frames := 1, cells := 0, slots := 0, locals := 22 }
set_option maxHeartbeats 4000000 in
set_option maxRecDepth 100000 in
theorem c_X_lineLength (l : Launch) (D : va_G) (cA : Nat → ClassId) (ad : Nat → Nat) (sz : Nat) (F_size : Int32) (F_sizes : (Nat → Int32)) (F_literals : (Nat → Int32)) (p1 : Int32) (post : Int32 → Prop) (h : wp_X_lineLength F_sizes F_literals p1 post) : Met l y_X_lineLength w_X_lineLength rm_X_lineLength (mPc D cA [.ref (ad 6), .int p1] [(k_F cA ad F_size), (k_F_sizes cA ad F_sizes), (k_F_literals cA ad F_literals)] sz) (va_Qi (fun (r : Int32) (_ : Unit) => post r) (mB D (va_A [(k_F cA ad F_size), (k_F_sizes cA ad F_sizes), (k_F_literals cA ad F_literals)] sz) (fun (_ : Unit) => [(k_F cA ad F_size), (k_F_sizes cA ad F_sizes), (k_F_literals cA ad F_literals)])) (va_A [(k_F cA ad F_size), (k_F_sizes cA ad F_sizes), (k_F_literals cA ad F_literals)] sz)) 0 0 (va_A [(k_F cA ad F_size), (k_F_sizes cA ad F_sizes), (k_F_literals cA ad F_literals)] sz) := by
  refine m_methI (by decide) rfl (Nat.le_of_ble_eq_true rfl) ?_
  intro p e s m below meth c A Q ls hx hb hml hown hts hK hA hw hl hE
  have hl : lv_has ls 4 [(0, .ref (ad 6)), (1, .int p1)] := hl
  have hown : s.vm.findClass R_X = some m.cls := hown
  have hg : ∀ {w : Cond}, w ∈ gw → w.before _ s = true := fun h => hts _ (List.mem_cons_of_mem _ h)
  obtain ⟨C4, hC4⟩ : ∃ C : Int32 → Int32 → Prop, ∀ (x2 : Int32) (x3 : Int32), C x2 x3 ↔ (∀ (H : Heap) (locs : List Loc) (ls : Array Slot), mW D A s.heap [(k_F cA ad F_size), (k_F_sizes cA ad F_sizes), (k_F_literals cA ad F_literals)] H locs → lv_has ls 4 [(0, .ref (ad 6)), (1, .int p1), (2, .int x2), (3, .int x3)] → W p l e rm_X_lineLength s m [.ref (ad 6), .int p1].toArray below meth c H locs 0 0 Q (F0 m 4 ls [])) := ⟨_, fun _ _ => Iff.rfl⟩
  have hc4 : ∀ (x2 : Int32) (x3 : Int32), s_X_lineLength_4 F_sizes F_literals p1 C4 post x2 x3 → C4 x2 x3 := by
    intro x2 x3 h
    unfold s_X_lineLength_4 at h
    refine (hC4 _ _).2 ?_
    intro H locs ls hw hl
    refine lv_iload_n hx hb d_X_lineLength_4 rfl (lv_at hl 3 rfl) ?_
    refine lv_aload_n hx hb d_X_lineLength_5 rfl (lv_at hl 0 rfl) ?_
    refine va_getN (D := D) (ci := 2) (v := .ref (ad 8)) (C := R_F) (T := T_F) (N := 5) hx hb hts (fun w h => List.mem_cons_of_mem _ (iw_F w h)) hown hK.1 hw.1 0 rfl rfl 1 (by decide) (va_Nw.use rfl (hK.2 _ nw_71)) (fun _ h9 => h9) rfl d_X_lineLength_6 ?_
    refine lv_iload_n hx hb d_X_lineLength_9 rfl (lv_at hl 1 rfl) ?_
    refine va_iald hx hb hK.1 hw.1 1 0 rfl rfl h.1 d_X_lineLength_10 ?_
    have h := h.2
    refine lv_icmp_ge (tgt := 32) hx hb d_X_lineLength_11 (by decide) (fun hc => ?_) (fun hc => ?_)
    · have h := h.1 hc
      refine lv_iload_n hx hb d_X_lineLength_32 rfl (lv_at hl 2 rfl) ?_
      exact hE x2 () _ _ _ _ h hw d_X_lineLength_33
    · have h := h.2 hc
      refine lv_iload_n hx hb d_X_lineLength_14 rfl (lv_at hl 2 rfl) ?_
      refine lv_aload_n hx hb d_X_lineLength_15 rfl (lv_at hl 0 rfl) ?_
      refine lv_iload_n hx hb d_X_lineLength_16 rfl (lv_at hl 1 rfl) ?_
      refine lv_iload_n hx hb d_X_lineLength_17 rfl (lv_at hl 3 rfl) ?_
      refine m_calli (hr := va_runVN (As := [.int p1, .int x3]) (rest := [.int x2]) ⟨hx, hb, hml, hown, hts⟩ (c_F_literalOf l D cA ad _ F_size F_literals p1 x3 _ h) ⟨va_cnB 2 hts (gin gm_235) rfl rfl rfl (hK.2 _ nw_539) (hg gm_3) (by decide +kernel) ⟨Nat.le_of_ble_eq_true rfl, Nat.le_of_ble_eq_true rfl⟩, hg gm_234, hg gs_16⟩ (m_preV 2 0 rfl rfl hK hw [0, 2] rfl rfl) rfl rfl hl.1 rfl (lv_room (Nat.le_of_ble_eq_true rfl)) d_X_lineLength_18 ⟨Nat.zero_le _, Nat.zero_le _⟩) (w2 := (fun (_ : Unit) => [(k_F cA ad F_size), (k_F_sizes cA ad F_sizes), (k_F_literals cA ad F_literals)])) (wr := [(k_F_sizes cA ad F_sizes)]) hw hA [0, 2] [1] [1, 0, 2] rfl rfl (by decide) (by decide) (by decide) (fun _ => rfl) (fun r18 u H locs hw h => ?_)
      refine m_calli (hr := va_runS (As := [.int r18]) (rest := [.int x2]) ⟨hx, hb, hml, hown, hts⟩ (c_X_literalLength l D cA ad _ r18 _ h) (va_cwS 1 hts (ginS gm_540 gm_541 gm_15 gm_542) rfl rfl rfl (by decide +kernel) ⟨Nat.le_of_ble_eq_true rfl, Nat.le_of_ble_eq_true rfl⟩) (m_preS hK hw [] rfl rfl) rfl rfl hl.1 rfl (lv_room (Nat.le_of_ble_eq_true rfl)) d_X_lineLength_21 ⟨Nat.zero_le _, Nat.zero_le _⟩) (w2 := (fun (_ : Unit) => [(k_F cA ad F_size), (k_F_sizes cA ad F_sizes), (k_F_literals cA ad F_literals)])) (wr := [(k_F cA ad F_size), (k_F_sizes cA ad F_sizes), (k_F_literals cA ad F_literals)]) hw hA [] [0, 1, 2] [0, 1, 2] rfl rfl (by decide) (by decide) (by decide) (fun _ => rfl) (fun r21 u H locs hw h => ?_)
      refine lv_iadd hx hb d_X_lineLength_24 ?_
      refine lv_istore_n (lv' := [(2, .int (x2 + r21)), (0, .ref (ad 6)), (1, .int p1), (3, .int x3)]) hx hb d_X_lineLength_25 rfl hl (by decide) rfl (fun ls hl => ?_)
      refine lv_iinc (v := (x3 + 1)) (lv' := [(3, .int (x3 + 1)), (2, .int (x2 + r21)), (0, .ref (ad 6)), (1, .int p1)]) hx hb d_X_lineLength_26 hl (k := 3) rfl rfl (by decide) rfl (fun ls hl => ?_)
      refine lv_goto (tgt := 4) hx hb d_X_lineLength_29 (by decide) ?_
      exact (hC4 _ _).1 h _ _ _ hw (lv_sub hl [2, 3, 1, 0] rfl)
  unfold wp_X_lineLength at h
  have h := h C4 hc4
  refine lv_iconst (v := 2) hx hb d_X_lineLength_0 (by decide) ?_
  refine lv_istore_n (lv' := [(2, .int 2), (0, .ref (ad 6)), (1, .int p1)]) hx hb d_X_lineLength_1 rfl hl (by decide) rfl (fun ls hl => ?_)
  refine lv_iconst (v := 0) hx hb d_X_lineLength_2 (by decide) ?_
  refine lv_istore_n (lv' := [(3, .int 0), (2, .int 2), (0, .ref (ad 6)), (1, .int p1)]) hx hb d_X_lineLength_3 rfl hl (by decide) rfl (fun ls hl => ?_)
  exact (hC4 _ _).1 h _ _ _ hw (lv_sub hl [2, 3, 1, 0] rfl)
def rm_X_lengthOf : Room := { frames := 2, cells := 0, slots := 0, locals := 45 }
set_option maxHeartbeats 4000000 in
set_option maxRecDepth 100000 in
theorem c_X_lengthOf (l : Launch) (D : va_G) (cA : Nat → ClassId) (ad : Nat → Nat) (sz : Nat) (F_size : Int32) (F_sizes : (Nat → Int32)) (F_literals : (Nat → Int32)) (post : Int32 → Prop) (h : wp_X_lengthOf F_size F_sizes F_literals post) : Met l y_X_lengthOf w_X_lengthOf rm_X_lengthOf (mPc D cA [.ref (ad 6)] [(k_F cA ad F_size), (k_F_sizes cA ad F_sizes), (k_F_literals cA ad F_literals)] sz) (va_Qi (fun (r : Int32) (_ : Unit) => post r) (mB D (va_A [(k_F cA ad F_size), (k_F_sizes cA ad F_sizes), (k_F_literals cA ad F_literals)] sz) (fun (_ : Unit) => [(k_F cA ad F_size), (k_F_sizes cA ad F_sizes), (k_F_literals cA ad F_literals)])) (va_A [(k_F cA ad F_size), (k_F_sizes cA ad F_sizes), (k_F_literals cA ad F_literals)] sz)) 0 0 (va_A [(k_F cA ad F_size), (k_F_sizes cA ad F_sizes), (k_F_literals cA ad F_literals)] sz) := by
  refine m_methI (by decide) rfl (Nat.le_of_ble_eq_true rfl) ?_
  intro p e s m below meth c A Q ls hx hb hml hown hts hK hA hw hl hE
  have hl : lv_has ls 3 [(0, .ref (ad 6))] := hl
  have hown : s.vm.findClass R_X = some m.cls := hown
  have hg : ∀ {w : Cond}, w ∈ gw → w.before _ s = true := fun h => hts _ (List.mem_cons_of_mem _ h)
  obtain ⟨C4, hC4⟩ : ∃ C : Int32 → Int32 → Prop, ∀ (x1 : Int32) (x2 : Int32), C x1 x2 ↔ (∀ (H : Heap) (locs : List Loc) (ls : Array Slot), mW D A s.heap [(k_F cA ad F_size), (k_F_sizes cA ad F_sizes), (k_F_literals cA ad F_literals)] H locs → lv_has ls 3 [(0, .ref (ad 6)), (1, .int x1), (2, .int x2)] → W p l e rm_X_lengthOf s m [.ref (ad 6)].toArray below meth c H locs 0 0 Q (F0 m 4 ls [])) := ⟨_, fun _ _ => Iff.rfl⟩
  have hc4 : ∀ (x1 : Int32) (x2 : Int32), s_X_lengthOf_4 F_size F_sizes F_literals C4 post x1 x2 → C4 x1 x2 := by
    intro x1 x2 h
    unfold s_X_lengthOf_4 at h
    refine (hC4 _ _).2 ?_
    intro H locs ls hw hl
    refine lv_iload_n hx hb d_X_lengthOf_4 rfl (lv_at hl 2 rfl) ?_
    refine lv_aload_n hx hb d_X_lengthOf_5 rfl (lv_at hl 0 rfl) ?_
    refine va_getN (D := D) (ci := 2) (v := .int F_size) (C := R_F) (T := T_F) (N := 5) hx hb hts (fun w h => List.mem_cons_of_mem _ (iw_F w h)) hown hK.1 hw.1 0 rfl rfl 4 (by decide) (va_Nw.use rfl (hK.2 _ nw_78)) (fun _ h9 => h9) rfl d_X_lengthOf_6 ?_
    refine lv_icmp_ge (tgt := 26) hx hb d_X_lengthOf_9 (by decide) (fun hc => ?_) (fun hc => ?_)
    · have h := h.1 hc
      refine lv_iload_n hx hb d_X_lengthOf_26 rfl (lv_at hl 1 rfl) ?_
      exact hE x1 () _ _ _ _ h hw d_X_lengthOf_27
    · have h := h.2 hc
      refine lv_iload_n hx hb d_X_lengthOf_12 rfl (lv_at hl 1 rfl) ?_
      refine lv_aload_n hx hb d_X_lengthOf_13 rfl (lv_at hl 0 rfl) ?_
      refine lv_iload_n hx hb d_X_lengthOf_14 rfl (lv_at hl 2 rfl) ?_
      refine m_calli (hr := va_runS (As := [.ref (ad 6), .int x2]) (rest := [.int x1]) ⟨hx, hb, hml, hown, hts⟩ (c_X_lineLength l D cA ad _ F_size F_sizes F_literals x2 _ h) (va_cwS 2 hts (ginS gm_536 gm_537 gm_15 gm_538) rfl rfl rfl (by decide +kernel) ⟨Nat.le_of_ble_eq_true rfl, Nat.le_of_ble_eq_true rfl⟩) (m_preS hK hw [0, 1, 2] rfl rfl) rfl rfl hl.1 rfl (lv_room (Nat.le_of_ble_eq_true rfl)) d_X_lengthOf_15 ⟨Nat.zero_le _, Nat.zero_le _⟩) (w2 := (fun (_ : Unit) => [(k_F cA ad F_size), (k_F_sizes cA ad F_sizes), (k_F_literals cA ad F_literals)])) (wr := []) hw hA [0, 1, 2] [] [0, 1, 2] rfl rfl (by decide) (by decide) (by decide) (fun _ => rfl) (fun r15 u H locs hw h => ?_)
      refine lv_iadd hx hb d_X_lengthOf_18 ?_
      refine lv_istore_n (lv' := [(1, .int (x1 + r15)), (0, .ref (ad 6)), (2, .int x2)]) hx hb d_X_lengthOf_19 rfl hl (by decide) rfl (fun ls hl => ?_)
      refine lv_iinc (v := (x2 + 1)) (lv' := [(2, .int (x2 + 1)), (1, .int (x1 + r15)), (0, .ref (ad 6))]) hx hb d_X_lengthOf_20 hl (k := 2) rfl rfl (by decide) rfl (fun ls hl => ?_)
      refine lv_goto (tgt := 4) hx hb d_X_lengthOf_23 (by decide) ?_
      exact (hC4 _ _).1 h _ _ _ hw (lv_sub hl [2, 1, 0] rfl)
  unfold wp_X_lengthOf at h
  have h := h C4 hc4
  refine lv_iconst (v := 0) hx hb d_X_lengthOf_0 (by decide) ?_
  refine lv_istore_n (lv' := [(1, .int 0), (0, .ref (ad 6))]) hx hb d_X_lengthOf_1 rfl hl (by decide) rfl (fun ls hl => ?_)
  refine lv_iconst (v := 0) hx hb d_X_lengthOf_2 (by decide) ?_
  refine lv_istore_n (lv' := [(2, .int 0), (1, .int 0), (0, .ref (ad 6))]) hx hb d_X_lengthOf_3 rfl hl (by decide) rfl (fun ls hl => ?_)
  exact (hC4 _ _).1 h _ _ _ hw (lv_sub hl [2, 1, 0] rfl)
def rm_X_literalByte : Room := { frames := 1, cells := 0, slots := 0, locals := 20 }
set_option maxHeartbeats 4000000 in
set_option maxRecDepth 100000 in
theorem c_X_literalByte (l : Launch) (D : va_G) (cA : Nat → ClassId) (ad : Nat → Nat) (sz : Nat) (p0 : Int32) (p1 : Int32) (post : Int32 → Prop) (h : wp_X_literalByte p0 p1 post) : Met l y_X_literalByte w_X_literalByte rm_X_literalByte (mPc D cA [.int p0, .int p1] [] sz) (va_Qi (fun (r : Int32) (_ : Unit) => post r) (mB D (va_A [] sz) (fun (_ : Unit) => [])) (va_A [] sz)) 0 0 (va_A [] sz) := by
  refine m_methI (by decide) rfl (Nat.le_of_ble_eq_true rfl) ?_
  intro p e s m below meth c A Q ls hx hb hml hown hts hK hA hw hl hE
  have hl : lv_has ls 3 [(0, .int p0), (1, .int p1)] := hl
  have hown : s.vm.findClass R_X = some m.cls := hown
  have hg : ∀ {w : Cond}, w ∈ gw → w.before _ s = true := fun h => hts _ (List.mem_cons_of_mem _ h)
  unfold wp_X_literalByte at h
  refine lv_iload_n hx hb d_X_literalByte_0 rfl (lv_at hl 1 rfl) ?_
  refine lv_if_ne (tgt := 7) hx hb d_X_literalByte_1 (by decide) (fun hc => ?_) (fun hc => ?_)
  · have h := h.2 hc
    refine lv_iload_n hx hb d_X_literalByte_7 rfl (lv_at hl 1 rfl) ?_
    refine lv_iconst (v := 1) hx hb d_X_literalByte_8 (by decide) ?_
    refine lv_icmp_ne (tgt := 27) hx hb d_X_literalByte_9 (by decide) (fun hc => ?_) (fun hc => ?_)
    · have h := h.2 hc
      refine lv_iload_n hx hb d_X_literalByte_27 rfl (lv_at hl 0 rfl) ?_
      refine lv_iconst (v := 1) hx hb d_X_literalByte_28 (by decide) ?_
      refine lv_ishr hx hb d_X_literalByte_29 ?_
      refine lv_istore_n (lv' := [(2, .int (p0 >>> ((1 : Int32) &&& 31))), (0, .int p0), (1, .int p1)]) hx hb d_X_literalByte_30 rfl hl (by decide) rfl (fun ls hl => ?_)
      refine lv_bipush (v := 48) hx hb d_X_literalByte_31 (by decide) ?_
      refine lv_iload_n hx hb d_X_literalByte_33 rfl (lv_at hl 2 rfl) ?_
      refine lv_iload_n hx hb d_X_literalByte_34 rfl (lv_at hl 1 rfl) ?_
      refine m_calli (hr := va_runS (As := [.int p0]) (rest := [.int p1, .int 48]) ⟨hx, hb, hml, hown, hts⟩ (c_X_literalLength l D cA ad _ p0 _ h) (va_cwS 1 hts (ginS gm_540 gm_541 gm_15 gm_542) rfl rfl rfl (by decide +kernel) ⟨Nat.le_of_ble_eq_true rfl, Nat.le_of_ble_eq_true rfl⟩) (m_preS hK hw [] rfl rfl) rfl rfl hl.1 rfl (lv_room (Nat.le_of_ble_eq_true rfl)) d_X_literalByte_35 ⟨Nat.zero_le _, Nat.zero_le _⟩) (w2 := (fun (_ : Unit) => [])) (wr := []) hw hA [] [] [] rfl rfl (by decide) (by decide) (by decide) (fun _ => rfl) (fun r35 u H locs hw h => ?_)
      refine lv_iconst (v := 1) hx hb d_X_literalByte_38 (by decide) ?_
      refine lv_isub hx hb d_X_literalByte_39 ?_
      refine lv_icmp_ne (tgt := 50) hx hb d_X_literalByte_40 (by decide) (fun hc => ?_) (fun hc => ?_)
      · have h := h.2 hc
        refine lv_iload_n hx hb d_X_literalByte_50 rfl (lv_at hl 0 rfl) ?_
        refine lv_bipush (v := 10) hx hb d_X_literalByte_51 (by decide) ?_
        refine lv_idiv hx hb d_X_literalByte_53 (by decide) ?_
        refine lv_iadd hx hb d_X_literalByte_54 ?_
        exact hE (48 + ((p0 >>> ((1 : Int32) &&& 31)) / 10)) () _ _ _ _ h hw d_X_literalByte_55
      · have h := h.1 hc
        refine lv_iload_n hx hb d_X_literalByte_43 rfl (lv_at hl 0 rfl) ?_
        refine lv_bipush (v := 10) hx hb d_X_literalByte_44 (by decide) ?_
        refine lv_irem hx hb d_X_literalByte_46 (by decide) ?_
        refine lv_goto (tgt := 54) hx hb d_X_literalByte_47 (by decide) ?_
        refine lv_iadd hx hb d_X_literalByte_54 ?_
        exact hE (48 + ((p0 >>> ((1 : Int32) &&& 31)) - (p0 >>> ((1 : Int32) &&& 31)) / 10 * 10)) () _ _ _ _ h hw d_X_literalByte_55
    · have h := h.1 hc
      refine lv_iload_n hx hb d_X_literalByte_12 rfl (lv_at hl 0 rfl) ?_
      refine lv_iconst (v := 1) hx hb d_X_literalByte_13 (by decide) ?_
      refine lv_iand hx hb d_X_literalByte_14 ?_
      refine lv_iconst (v := 1) hx hb d_X_literalByte_15 (by decide) ?_
      refine lv_icmp_ne (tgt := 24) hx hb d_X_literalByte_16 (by decide) (fun hc => ?_) (fun hc => ?_)
      · have h := h.2 hc
        refine lv_bipush (v := 43) hx hb d_X_literalByte_24 (by decide) ?_
        exact hE 43 () _ _ _ _ h hw d_X_literalByte_26
      · have h := h.1 hc
        refine lv_bipush (v := 45) hx hb d_X_literalByte_19 (by decide) ?_
        refine lv_goto (tgt := 26) hx hb d_X_literalByte_21 (by decide) ?_
        exact hE 45 () _ _ _ _ h hw d_X_literalByte_26
  · have h := h.1 hc
    refine lv_bipush (v := 32) hx hb d_X_literalByte_4 (by decide) ?_
    exact hE 32 () _ _ _ _ h hw d_X_literalByte_6
def rm_X_lineByte : Room := { frames := 2, cells := 0, slots := 0, locals := 42 }
set_option maxHeartbeats 4000000 in
set_option maxRecDepth 100000 in
theorem c_X_lineByte (l : Launch) (D : va_G) (cA : Nat → ClassId) (ad : Nat → Nat) (sz : Nat) (F_size : Int32) (F_kinds : (Nat → Int32)) (F_sizes : (Nat → Int32)) (F_literals : (Nat → Int32)) (p1 : Int32) (p2 : Int32) (post : Int32 → Prop) (h : wp_X_lineByte F_kinds F_sizes F_literals p1 p2 post) : Met l y_X_lineByte w_X_lineByte rm_X_lineByte (mPc D cA [.ref (ad 6), .int p1, .int p2] [(k_F cA ad F_size), (k_F_kinds cA ad F_kinds), (k_F_sizes cA ad F_sizes), (k_F_literals cA ad F_literals)] sz) (va_Qi (fun (r : Int32) (_ : Unit) => post r) (mB D (va_A [(k_F cA ad F_size), (k_F_kinds cA ad F_kinds), (k_F_sizes cA ad F_sizes), (k_F_literals cA ad F_literals)] sz) (fun (_ : Unit) => [(k_F cA ad F_size), (k_F_kinds cA ad F_kinds), (k_F_sizes cA ad F_sizes), (k_F_literals cA ad F_literals)])) (va_A [(k_F cA ad F_size), (k_F_kinds cA ad F_kinds), (k_F_sizes cA ad F_sizes), (k_F_literals cA ad F_literals)] sz)) 0 0 (va_A [(k_F cA ad F_size), (k_F_kinds cA ad F_kinds), (k_F_sizes cA ad F_sizes), (k_F_literals cA ad F_literals)] sz) := by
  refine m_methI (by decide) rfl (Nat.le_of_ble_eq_true rfl) ?_
  intro p e s m below meth c A Q ls hx hb hml hown hts hK hA hw hl hE
  have hl : lv_has ls 7 [(0, .ref (ad 6)), (1, .int p1), (2, .int p2)] := hl
  have hown : s.vm.findClass R_X = some m.cls := hown
  have hg : ∀ {w : Cond}, w ∈ gw → w.before _ s = true := fun h => hts _ (List.mem_cons_of_mem _ h)
  obtain ⟨C29, hC29⟩ : ∃ C : Int32 → Int32 → Prop, ∀ (x3 : Int32) (x4 : Int32), C x3 x4 ↔ (∀ (H : Heap) (locs : List Loc) (ls : Array Slot), mW D A s.heap [(k_F cA ad F_size), (k_F_kinds cA ad F_kinds), (k_F_sizes cA ad F_sizes), (k_F_literals cA ad F_literals)] H locs → lv_has ls 7 [(0, .ref (ad 6)), (1, .int p1), (3, .int x3), (4, .int x4)] → W p l e rm_X_lineByte s m [.ref (ad 6), .int p1, .int p2].toArray below meth c H locs 0 0 Q (F0 m 29 ls [])) := ⟨_, fun _ _ => Iff.rfl⟩
  have hc29 : ∀ (x3 : Int32) (x4 : Int32), s_X_lineByte_29 F_kinds F_sizes F_literals p1 p2 C29 post x3 x4 → C29 x3 x4 := by
    intro x3 x4 h
    unfold s_X_lineByte_29 at h
    refine (hC29 _ _).2 ?_
    intro H locs ls hw hl
    refine lv_iload hx hb d_X_lineByte_29 (lv_at hl 3 rfl) ?_
    refine lv_aload_n hx hb d_X_lineByte_31 rfl (lv_at hl 0 rfl) ?_
    refine va_getN (D := D) (ci := 2) (v := .ref (ad 8)) (C := R_F) (T := T_F) (N := 5) hx hb hts (fun w h => List.mem_cons_of_mem _ (iw_F w h)) hown hK.1 hw.1 0 rfl rfl 1 (by decide) (va_Nw.use rfl (hK.2 _ nw_71)) (fun _ h9 => h9) rfl d_X_lineByte_32 ?_
    refine lv_iload_n hx hb d_X_lineByte_35 rfl (lv_at hl 1 rfl) ?_
    refine va_iald hx hb hK.1 hw.1 2 0 rfl rfl h.1 d_X_lineByte_36 ?_
    have h := h.2
    refine lv_icmp_ge (tgt := 80) hx hb d_X_lineByte_37 (by decide) (fun hc => ?_) (fun hc => ?_)
    · have h := h.1 hc
      refine lv_bipush (v := 10) hx hb d_X_lineByte_80 (by decide) ?_
      exact hE 10 () _ _ _ _ h hw d_X_lineByte_82
    · have h := h.2 hc
      refine lv_aload_n hx hb d_X_lineByte_40 rfl (lv_at hl 0 rfl) ?_
      refine lv_iload_n hx hb d_X_lineByte_41 rfl (lv_at hl 1 rfl) ?_
      refine lv_iload hx hb d_X_lineByte_42 (lv_at hl 3 rfl) ?_
      refine m_calli (hr := va_runVN (As := [.int p1, .int x4]) (rest := []) ⟨hx, hb, hml, hown, hts⟩ (c_F_literalOf l D cA ad _ F_size F_literals p1 x4 _ h) ⟨va_cnB 2 hts (gin gm_235) rfl rfl rfl (hK.2 _ nw_539) (hg gm_3) (by decide +kernel) ⟨Nat.le_of_ble_eq_true rfl, Nat.le_of_ble_eq_true rfl⟩, hg gm_234, hg gs_16⟩ (m_preV 2 0 rfl rfl hK hw [0, 3] rfl rfl) rfl rfl hl.1 rfl (lv_room (Nat.le_of_ble_eq_true rfl)) d_X_lineByte_44 ⟨Nat.zero_le _, Nat.zero_le _⟩) (w2 := (fun (_ : Unit) => [(k_F cA ad F_size), (k_F_kinds cA ad F_kinds), (k_F_sizes cA ad F_sizes), (k_F_literals cA ad F_literals)])) (wr := [(k_F_kinds cA ad F_kinds), (k_F_sizes cA ad F_sizes)]) hw hA [0, 3] [1, 2] [2, 0, 1, 3] rfl rfl (by decide) (by decide) (by decide) (fun _ => rfl) (fun r44 u H locs hw h => ?_)
      refine lv_istore (lv' := [(5, .int r44), (0, .ref (ad 6)), (1, .int p1), (3, .int x3), (4, .int x4)]) hx hb d_X_lineByte_47 hl (by decide) rfl (fun ls hl => ?_)
      refine lv_iload hx hb d_X_lineByte_49 (lv_at hl 0 rfl) ?_
      refine m_calli (hr := va_runS (As := [.int r44]) (rest := []) ⟨hx, hb, hml, hown, hts⟩ (c_X_literalLength l D cA ad _ r44 _ h) (va_cwS 1 hts (ginS gm_540 gm_541 gm_15 gm_542) rfl rfl rfl (by decide +kernel) ⟨Nat.le_of_ble_eq_true rfl, Nat.le_of_ble_eq_true rfl⟩) (m_preS hK hw [] rfl rfl) rfl rfl hl.1 rfl (lv_room (Nat.le_of_ble_eq_true rfl)) d_X_lineByte_51 ⟨Nat.zero_le _, Nat.zero_le _⟩) (w2 := (fun (_ : Unit) => [(k_F cA ad F_size), (k_F_kinds cA ad F_kinds), (k_F_sizes cA ad F_sizes), (k_F_literals cA ad F_literals)])) (wr := [(k_F cA ad F_size), (k_F_kinds cA ad F_kinds), (k_F_sizes cA ad F_sizes), (k_F_literals cA ad F_literals)]) hw hA [] [0, 1, 2, 3] [0, 1, 2, 3] rfl rfl (by decide) (by decide) (by decide) (fun _ => rfl) (fun r51 u H locs hw h => ?_)
      refine lv_istore (lv' := [(6, .int r51), (5, .int r44), (0, .ref (ad 6)), (1, .int p1), (3, .int x3), (4, .int x4)]) hx hb d_X_lineByte_54 hl (by decide) rfl (fun ls hl => ?_)
      refine lv_iload_n hx hb d_X_lineByte_56 rfl (lv_at hl 4 rfl) ?_
      refine lv_iload hx hb d_X_lineByte_57 (lv_at hl 0 rfl) ?_
      refine lv_icmp_ge (tgt := 69) hx hb d_X_lineByte_59 (by decide) (fun hc => ?_) (fun hc => ?_)
      · have h := h.1 hc
        refine lv_iload_n hx hb d_X_lineByte_69 rfl (lv_at hl 4 rfl) ?_
        refine lv_iload hx hb d_X_lineByte_70 (lv_at hl 0 rfl) ?_
        refine lv_isub hx hb d_X_lineByte_72 ?_
        refine lv_istore_n (lv' := [(3, .int (x3 - r51)), (6, .int r51), (5, .int r44), (0, .ref (ad 6)), (1, .int p1), (4, .int x4)]) hx hb d_X_lineByte_73 rfl hl (by decide) rfl (fun ls hl => ?_)
        refine lv_iinc (v := (x4 + 1)) (lv' := [(4, .int (x4 + 1)), (3, .int (x3 - r51)), (6, .int r51), (5, .int r44), (0, .ref (ad 6)), (1, .int p1)]) hx hb d_X_lineByte_74 hl (k := 5) rfl rfl (by decide) rfl (fun ls hl => ?_)
        refine lv_goto (tgt := 29) hx hb d_X_lineByte_77 (by decide) ?_
        exact (hC29 _ _).1 h _ _ _ hw (lv_sub hl [4, 5, 1, 0] rfl)
      · have h := h.2 hc
        refine lv_iload hx hb d_X_lineByte_62 (lv_at hl 1 rfl) ?_
        refine lv_iload_n hx hb d_X_lineByte_64 rfl (lv_at hl 4 rfl) ?_
        refine m_calli (hr := va_runS (As := [.int r44, .int x3]) (rest := []) ⟨hx, hb, hml, hown, hts⟩ (c_X_literalByte l D cA ad _ r44 x3 _ h) (va_cwS 2 hts (ginS gm_550 gm_551 gm_15 gm_552) rfl rfl rfl (by decide +kernel) ⟨Nat.le_of_ble_eq_true rfl, Nat.le_of_ble_eq_true rfl⟩) (m_preS hK hw [] rfl rfl) rfl rfl hl.1 rfl (lv_room (Nat.le_of_ble_eq_true rfl)) d_X_lineByte_65 ⟨Nat.zero_le _, Nat.zero_le _⟩) (w2 := (fun (_ : Unit) => [(k_F cA ad F_size), (k_F_kinds cA ad F_kinds), (k_F_sizes cA ad F_sizes), (k_F_literals cA ad F_literals)])) (wr := [(k_F cA ad F_size), (k_F_kinds cA ad F_kinds), (k_F_sizes cA ad F_sizes), (k_F_literals cA ad F_literals)]) hw hA [] [0, 1, 2, 3] [0, 1, 2, 3] rfl rfl (by decide) (by decide) (by decide) (fun _ => rfl) (fun r65 u H locs hw h => ?_)
        exact hE r65 () _ _ _ _ h hw d_X_lineByte_68
  unfold wp_X_lineByte at h
  have h := h C29 hc29
  refine lv_iload_n hx hb d_X_lineByte_0 rfl (lv_at hl 2 rfl) ?_
  refine lv_if_ne (tgt := 22) hx hb d_X_lineByte_1 (by decide) (fun hc => ?_) (fun hc => ?_)
  · have h := h.2 hc
    refine lv_iload_n hx hb d_X_lineByte_22 rfl (lv_at hl 2 rfl) ?_
    refine lv_iconst (v := 1) hx hb d_X_lineByte_23 (by decide) ?_
    refine lv_isub hx hb d_X_lineByte_24 ?_
    refine lv_istore_n (lv' := [(3, .int (p2 - 1)), (0, .ref (ad 6)), (1, .int p1), (2, .int p2)]) hx hb d_X_lineByte_25 rfl hl (by decide) rfl (fun ls hl => ?_)
    refine lv_iconst (v := 0) hx hb d_X_lineByte_26 (by decide) ?_
    refine lv_istore (lv' := [(4, .int 0), (3, .int (p2 - 1)), (0, .ref (ad 6)), (1, .int p1), (2, .int p2)]) hx hb d_X_lineByte_27 hl (by decide) rfl (fun ls hl => ?_)
    exact (hC29 _ _).1 h _ _ _ hw (lv_sub hl [2, 3, 1, 0] rfl)
  · have h := h.1 hc
    refine lv_aload_n hx hb d_X_lineByte_4 rfl (lv_at hl 0 rfl) ?_
    refine va_getN (D := D) (ci := 2) (v := .ref (ad 7)) (C := R_F) (T := T_F) (N := 5) hx hb hts (fun w h => List.mem_cons_of_mem _ (iw_F w h)) hown hK.1 hw.1 0 rfl rfl 0 (by decide) (va_Nw.use rfl (hK.2 _ nw_67)) (fun _ h9 => h9) rfl d_X_lineByte_5 ?_
    refine lv_iload_n hx hb d_X_lineByte_8 rfl (lv_at hl 1 rfl) ?_
    refine va_iald hx hb hK.1 hw.1 1 0 rfl rfl h.1 d_X_lineByte_9 ?_
    have h := h.2
    refine lv_iconst (v := 1) hx hb d_X_lineByte_10 (by decide) ?_
    refine lv_icmp_ne (tgt := 19) hx hb d_X_lineByte_11 (by decide) (fun hc => ?_) (fun hc => ?_)
    · have h := h.2 hc
      refine lv_bipush (v := 99) hx hb d_X_lineByte_19 (by decide) ?_
      exact hE 99 () _ _ _ _ h hw d_X_lineByte_21
    · have h := h.1 hc
      refine lv_bipush (v := 61) hx hb d_X_lineByte_14 (by decide) ?_
      refine lv_goto (tgt := 21) hx hb d_X_lineByte_16 (by decide) ?_
      exact hE 61 () _ _ _ _ h hw d_X_lineByte_21
def rm_X_byteOf : Room := { frames := 3, cells := 0, slots := 0, locals := 68 }
set_option maxHeartbeats 4000000 in
set_option maxRecDepth 100000 in
theorem c_X_byteOf (l : Launch) (D : va_G) (cA : Nat → ClassId) (ad : Nat → Nat) (sz : Nat) (F_size : Int32) (F_kinds : (Nat → Int32)) (F_sizes : (Nat → Int32)) (F_literals : (Nat → Int32)) (p1 : Int32) (post : Int32 → Prop) (h : wp_X_byteOf F_size F_kinds F_sizes F_literals p1 post) : Met l y_X_byteOf w_X_byteOf rm_X_byteOf (mPc D cA [.ref (ad 6), .int p1] [(k_F cA ad F_size), (k_F_kinds cA ad F_kinds), (k_F_sizes cA ad F_sizes), (k_F_literals cA ad F_literals)] sz) (va_Qi (fun (r : Int32) (_ : Unit) => post r) (mB D (va_A [(k_F cA ad F_size), (k_F_kinds cA ad F_kinds), (k_F_sizes cA ad F_sizes), (k_F_literals cA ad F_literals)] sz) (fun (_ : Unit) => [(k_F cA ad F_size), (k_F_kinds cA ad F_kinds), (k_F_sizes cA ad F_sizes), (k_F_literals cA ad F_literals)])) (va_A [(k_F cA ad F_size), (k_F_kinds cA ad F_kinds), (k_F_sizes cA ad F_sizes), (k_F_literals cA ad F_literals)] sz)) 0 0 (va_A [(k_F cA ad F_size), (k_F_kinds cA ad F_kinds), (k_F_sizes cA ad F_sizes), (k_F_literals cA ad F_literals)] sz) := by
  refine m_methI (by decide) rfl (Nat.le_of_ble_eq_true rfl) ?_
  intro p e s m below meth c A Q ls hx hb hml hown hts hK hA hw hl hE
  have hl : lv_has ls 5 [(0, .ref (ad 6)), (1, .int p1)] := hl
  have hown : s.vm.findClass R_X = some m.cls := hown
  have hg : ∀ {w : Cond}, w ∈ gw → w.before _ s = true := fun h => hts _ (List.mem_cons_of_mem _ h)
  obtain ⟨C4, hC4⟩ : ∃ C : Int32 → Int32 → Prop, ∀ (x2 : Int32) (x3 : Int32), C x2 x3 ↔ (∀ (H : Heap) (locs : List Loc) (ls : Array Slot), mW D A s.heap [(k_F cA ad F_size), (k_F_kinds cA ad F_kinds), (k_F_sizes cA ad F_sizes), (k_F_literals cA ad F_literals)] H locs → lv_has ls 5 [(0, .ref (ad 6)), (2, .int x2), (3, .int x3)] → W p l e rm_X_byteOf s m [.ref (ad 6), .int p1].toArray below meth c H locs 0 0 Q (F0 m 4 ls [])) := ⟨_, fun _ _ => Iff.rfl⟩
  have hc4 : ∀ (x2 : Int32) (x3 : Int32), s_X_byteOf_4 F_size F_kinds F_sizes F_literals p1 C4 post x2 x3 → C4 x2 x3 := by
    intro x2 x3 h
    unfold s_X_byteOf_4 at h
    refine (hC4 _ _).2 ?_
    intro H locs ls hw hl
    refine lv_iload_n hx hb d_X_byteOf_4 rfl (lv_at hl 2 rfl) ?_
    refine lv_aload_n hx hb d_X_byteOf_5 rfl (lv_at hl 0 rfl) ?_
    refine va_getN (D := D) (ci := 2) (v := .int F_size) (C := R_F) (T := T_F) (N := 5) hx hb hts (fun w h => List.mem_cons_of_mem _ (iw_F w h)) hown hK.1 hw.1 0 rfl rfl 4 (by decide) (va_Nw.use rfl (hK.2 _ nw_78)) (fun _ h9 => h9) rfl d_X_byteOf_6 ?_
    refine lv_icmp_ge (tgt := 43) hx hb d_X_byteOf_9 (by decide) (fun hc => ?_) (fun hc => ?_)
    · have h := h.1 hc
      refine lv_bipush (v := 10) hx hb d_X_byteOf_43 (by decide) ?_
      exact hE 10 () _ _ _ _ h hw d_X_byteOf_45
    · have h := h.2 hc
      refine lv_aload_n hx hb d_X_byteOf_12 rfl (lv_at hl 0 rfl) ?_
      refine lv_iload_n hx hb d_X_byteOf_13 rfl (lv_at hl 2 rfl) ?_
      refine m_calli (hr := va_runS (As := [.ref (ad 6), .int x3]) (rest := []) ⟨hx, hb, hml, hown, hts⟩ (c_X_lineLength l D cA ad _ F_size F_sizes F_literals x3 _ h) (va_cwS 2 hts (ginS gm_536 gm_537 gm_15 gm_538) rfl rfl rfl (by decide +kernel) ⟨Nat.le_of_ble_eq_true rfl, Nat.le_of_ble_eq_true rfl⟩) (m_preS hK hw [0, 2, 3] rfl rfl) rfl rfl hl.1 rfl (lv_room (Nat.le_of_ble_eq_true rfl)) d_X_byteOf_14 ⟨Nat.zero_le _, Nat.zero_le _⟩) (w2 := (fun (_ : Unit) => [(k_F cA ad F_size), (k_F_kinds cA ad F_kinds), (k_F_sizes cA ad F_sizes), (k_F_literals cA ad F_literals)])) (wr := [(k_F_kinds cA ad F_kinds)]) hw hA [0, 2, 3] [1] [1, 0, 2, 3] rfl rfl (by decide) (by decide) (by decide) (fun _ => rfl) (fun r14 u H locs hw h => ?_)
      refine lv_istore (lv' := [(4, .int r14), (0, .ref (ad 6)), (2, .int x2), (3, .int x3)]) hx hb d_X_byteOf_17 hl (by decide) rfl (fun ls hl => ?_)
      refine lv_iload_n hx hb d_X_byteOf_19 rfl (lv_at hl 2 rfl) ?_
      refine lv_iload hx hb d_X_byteOf_20 (lv_at hl 0 rfl) ?_
      refine lv_icmp_ge (tgt := 32) hx hb d_X_byteOf_22 (by decide) (fun hc => ?_) (fun hc => ?_)
      · have h := h.1 hc
        refine lv_iload_n hx hb d_X_byteOf_32 rfl (lv_at hl 2 rfl) ?_
        refine lv_iload hx hb d_X_byteOf_33 (lv_at hl 0 rfl) ?_
        refine lv_isub hx hb d_X_byteOf_35 ?_
        refine lv_istore_n (lv' := [(2, .int (x2 - r14)), (4, .int r14), (0, .ref (ad 6)), (3, .int x3)]) hx hb d_X_byteOf_36 rfl hl (by decide) rfl (fun ls hl => ?_)
        refine lv_iinc (v := (x3 + 1)) (lv' := [(3, .int (x3 + 1)), (2, .int (x2 - r14)), (4, .int r14), (0, .ref (ad 6))]) hx hb d_X_byteOf_37 hl (k := 3) rfl rfl (by decide) rfl (fun ls hl => ?_)
        refine lv_goto (tgt := 4) hx hb d_X_byteOf_40 (by decide) ?_
        exact (hC4 _ _).1 h _ _ _ hw (lv_sub hl [3, 1, 0] rfl)
      · have h := h.2 hc
        refine lv_aload_n hx hb d_X_byteOf_25 rfl (lv_at hl 1 rfl) ?_
        refine lv_iload_n hx hb d_X_byteOf_26 rfl (lv_at hl 3 rfl) ?_
        refine lv_iload_n hx hb d_X_byteOf_27 rfl (lv_at hl 2 rfl) ?_
        refine m_calli (hr := va_runS (As := [.ref (ad 6), .int x3, .int x2]) (rest := []) ⟨hx, hb, hml, hown, hts⟩ (c_X_lineByte l D cA ad _ F_size F_kinds F_sizes F_literals x3 x2 _ h) (va_cwS 3 hts (ginS gm_547 gm_548 gm_15 gm_549) rfl rfl rfl (by decide +kernel) ⟨Nat.le_of_ble_eq_true rfl, Nat.le_of_ble_eq_true rfl⟩) (m_preS hK hw [0, 1, 2, 3] rfl rfl) rfl rfl hl.1 rfl (lv_room (Nat.le_of_ble_eq_true rfl)) d_X_byteOf_28 ⟨Nat.zero_le _, Nat.zero_le _⟩) (w2 := (fun (_ : Unit) => [(k_F cA ad F_size), (k_F_kinds cA ad F_kinds), (k_F_sizes cA ad F_sizes), (k_F_literals cA ad F_literals)])) (wr := []) hw hA [0, 1, 2, 3] [] [0, 1, 2, 3] rfl rfl (by decide) (by decide) (by decide) (fun _ => rfl) (fun r28 u H locs hw h => ?_)
        exact hE r28 () _ _ _ _ h hw d_X_byteOf_31
  unfold wp_X_byteOf at h
  have h := h C4 hc4
  refine lv_iload_n hx hb d_X_byteOf_0 rfl (lv_at hl 1 rfl) ?_
  refine lv_istore_n (lv' := [(2, .int p1), (0, .ref (ad 6)), (1, .int p1)]) hx hb d_X_byteOf_1 rfl hl (by decide) rfl (fun ls hl => ?_)
  refine lv_iconst (v := 0) hx hb d_X_byteOf_2 (by decide) ?_
  refine lv_istore_n (lv' := [(3, .int 0), (2, .int p1), (0, .ref (ad 6)), (1, .int p1)]) hx hb d_X_byteOf_3 rfl hl (by decide) rfl (fun ls hl => ?_)
  exact (hC4 _ _).1 h _ _ _ hw (lv_sub hl [2, 1, 0] rfl)
end
section
theorem d_U_begin_0 : decode b_U_begin 0 = .ok (.aload_n 0, 1) := by decide +kernel
theorem d_U_begin_1 : decode b_U_begin 1 = .ok (.getfield 9, 3) := by decide +kernel
theorem d_U_begin_4 : decode b_U_begin 4 = .ok (.iconst 2, 1) := by decide +kernel
theorem d_U_begin_5 : decode b_U_begin 5 = .ok (.invokestatic 61, 3) := by decide +kernel
theorem d_U_begin_8 : decode b_U_begin 8 = .ok (.aload_n 0, 1) := by decide +kernel
theorem d_U_begin_9 : decode b_U_begin 9 = .ok (.getfield 9, 3) := by decide +kernel
theorem d_U_begin_12 : decode b_U_begin 12 = .ok (.iconst 0, 1) := by decide +kernel
theorem d_U_begin_13 : decode b_U_begin 13 = .ok (.iconst 0, 1) := by decide +kernel
theorem d_U_begin_14 : decode b_U_begin 14 = .ok (.iastore, 1) := by decide +kernel
theorem d_U_begin_15 : decode b_U_begin 15 = .ok (.aload_n 0, 1) := by decide +kernel
theorem d_U_begin_16 : decode b_U_begin 16 = .ok (.iconst 0, 1) := by decide +kernel
theorem d_U_begin_17 : decode b_U_begin 17 = .ok (.putfield 15, 3) := by decide +kernel
theorem d_U_begin_20 : decode b_U_begin 20 = .ok (.return_, 1) := by decide +kernel
theorem d_U_tell_0 : decode b_U_tell 0 = .ok (.iload_n 1, 1) := by decide +kernel
theorem d_U_tell_1 : decode b_U_tell 1 = .ok (.iconst 1, 1) := by decide +kernel
theorem d_U_tell_2 : decode b_U_tell 2 = .ok (.ishr, 1) := by decide +kernel
theorem d_U_tell_3 : decode b_U_tell 3 = .ok (.istore_n 3, 1) := by decide +kernel
theorem d_U_tell_4 : decode b_U_tell 4 = .ok (.iload_n 2, 1) := by decide +kernel
theorem d_U_tell_5 : decode b_U_tell 5 = .ok (.iload_n 1, 1) := by decide +kernel
theorem d_U_tell_6 : decode b_U_tell 6 = .ok (.iconst 1, 1) := by decide +kernel
theorem d_U_tell_7 : decode b_U_tell 7 = .ok (.iand, 1) := by decide +kernel
theorem d_U_tell_8 : decode b_U_tell 8 = .ok (.ixor, 1) := by decide +kernel
theorem d_U_tell_9 : decode b_U_tell 9 = .ok (.istore 4, 2) := by decide +kernel
theorem d_U_tell_11 : decode b_U_tell 11 = .ok (.aload_n 0, 1) := by decide +kernel
theorem d_U_tell_12 : decode b_U_tell 12 = .ok (.getfield 9, 3) := by decide +kernel
theorem d_U_tell_15 : decode b_U_tell 15 = .ok (.iload_n 3, 1) := by decide +kernel
theorem d_U_tell_16 : decode b_U_tell 16 = .ok (.iaload, 1) := by decide +kernel
theorem d_U_tell_17 : decode b_U_tell 17 = .ok (.iconst 2, 1) := by decide +kernel
theorem d_U_tell_18 : decode b_U_tell 18 = .ok (.if_icmp .ne 19, 3) := by decide +kernel
theorem d_U_tell_21 : decode b_U_tell 21 = .ok (.aload_n 0, 1) := by decide +kernel
theorem d_U_tell_22 : decode b_U_tell 22 = .ok (.getfield 9, 3) := by decide +kernel
theorem d_U_tell_25 : decode b_U_tell 25 = .ok (.iload_n 3, 1) := by decide +kernel
theorem d_U_tell_26 : decode b_U_tell 26 = .ok (.iload 4, 2) := by decide +kernel
theorem d_U_tell_28 : decode b_U_tell 28 = .ok (.iastore, 1) := by decide +kernel
theorem d_U_tell_29 : decode b_U_tell 29 = .ok (.aload_n 0, 1) := by decide +kernel
theorem d_U_tell_30 : decode b_U_tell 30 = .ok (.iconst 1, 1) := by decide +kernel
theorem d_U_tell_31 : decode b_U_tell 31 = .ok (.putfield 19, 3) := by decide +kernel
theorem d_U_tell_34 : decode b_U_tell 34 = .ok (.goto 19, 3) := by decide +kernel
theorem d_U_tell_37 : decode b_U_tell 37 = .ok (.aload_n 0, 1) := by decide +kernel
theorem d_U_tell_38 : decode b_U_tell 38 = .ok (.getfield 9, 3) := by decide +kernel
theorem d_U_tell_41 : decode b_U_tell 41 = .ok (.iload_n 3, 1) := by decide +kernel
theorem d_U_tell_42 : decode b_U_tell 42 = .ok (.iaload, 1) := by decide +kernel
theorem d_U_tell_43 : decode b_U_tell 43 = .ok (.iload 4, 2) := by decide +kernel
theorem d_U_tell_45 : decode b_U_tell 45 = .ok (.if_icmp .eq 8, 3) := by decide +kernel
theorem d_U_tell_48 : decode b_U_tell 48 = .ok (.aload_n 0, 1) := by decide +kernel
theorem d_U_tell_49 : decode b_U_tell 49 = .ok (.iconst 1, 1) := by decide +kernel
theorem d_U_tell_50 : decode b_U_tell 50 = .ok (.putfield 15, 3) := by decide +kernel
theorem d_U_tell_53 : decode b_U_tell 53 = .ok (.return_, 1) := by decide +kernel
theorem d_U_toldOf_0 : decode b_U_toldOf 0 = .ok (.aload_n 0, 1) := by decide +kernel
theorem d_U_toldOf_1 : decode b_U_toldOf 1 = .ok (.getfield 9, 3) := by decide +kernel
theorem d_U_toldOf_4 : decode b_U_toldOf 4 = .ok (.iload_n 1, 1) := by decide +kernel
theorem d_U_toldOf_5 : decode b_U_toldOf 5 = .ok (.iconst 1, 1) := by decide +kernel
theorem d_U_toldOf_6 : decode b_U_toldOf 6 = .ok (.ishr, 1) := by decide +kernel
theorem d_U_toldOf_7 : decode b_U_toldOf 7 = .ok (.iaload, 1) := by decide +kernel
theorem d_U_toldOf_8 : decode b_U_toldOf 8 = .ok (.istore_n 2, 1) := by decide +kernel
theorem d_U_toldOf_9 : decode b_U_toldOf 9 = .ok (.iload_n 2, 1) := by decide +kernel
theorem d_U_toldOf_10 : decode b_U_toldOf 10 = .ok (.iconst 2, 1) := by decide +kernel
theorem d_U_toldOf_11 : decode b_U_toldOf 11 = .ok (.if_icmp .ne 7, 3) := by decide +kernel
theorem d_U_toldOf_14 : decode b_U_toldOf 14 = .ok (.iconst 2, 1) := by decide +kernel
theorem d_U_toldOf_15 : decode b_U_toldOf 15 = .ok (.goto 8, 3) := by decide +kernel
theorem d_U_toldOf_18 : decode b_U_toldOf 18 = .ok (.iload_n 2, 1) := by decide +kernel
theorem d_U_toldOf_19 : decode b_U_toldOf 19 = .ok (.iload_n 1, 1) := by decide +kernel
theorem d_U_toldOf_20 : decode b_U_toldOf 20 = .ok (.iconst 1, 1) := by decide +kernel
theorem d_U_toldOf_21 : decode b_U_toldOf 21 = .ok (.iand, 1) := by decide +kernel
theorem d_U_toldOf_22 : decode b_U_toldOf 22 = .ok (.ixor, 1) := by decide +kernel
theorem d_U_toldOf_23 : decode b_U_toldOf 23 = .ok (.ireturn, 1) := by decide +kernel
theorem d_U_stepEither_0 : decode b_U_stepEither 0 = .ok (.aload_n 0, 1) := by decide +kernel
theorem d_U_stepEither_1 : decode b_U_stepEither 1 = .ok (.getfield 9, 3) := by decide +kernel
theorem d_U_stepEither_4 : decode b_U_stepEither 4 = .ok (.iload_n 1, 1) := by decide +kernel
theorem d_U_stepEither_5 : decode b_U_stepEither 5 = .ok (.iaload, 1) := by decide +kernel
theorem d_U_stepEither_6 : decode b_U_stepEither 6 = .ok (.istore 4, 2) := by decide +kernel
theorem d_U_stepEither_8 : decode b_U_stepEither 8 = .ok (.aload_n 0, 1) := by decide +kernel
theorem d_U_stepEither_9 : decode b_U_stepEither 9 = .ok (.iload_n 2, 1) := by decide +kernel
theorem d_U_stepEither_10 : decode b_U_stepEither 10 = .ok (.invokevirtual 95, 3) := by decide +kernel
theorem d_U_stepEither_13 : decode b_U_stepEither 13 = .ok (.istore 5, 2) := by decide +kernel
theorem d_U_stepEither_15 : decode b_U_stepEither 15 = .ok (.aload_n 0, 1) := by decide +kernel
theorem d_U_stepEither_16 : decode b_U_stepEither 16 = .ok (.iload_n 3, 1) := by decide +kernel
theorem d_U_stepEither_17 : decode b_U_stepEither 17 = .ok (.invokevirtual 95, 3) := by decide +kernel
theorem d_U_stepEither_20 : decode b_U_stepEither 20 = .ok (.istore 6, 2) := by decide +kernel
theorem d_U_stepEither_22 : decode b_U_stepEither 22 = .ok (.iload 5, 2) := by decide +kernel
theorem d_U_stepEither_24 : decode b_U_stepEither 24 = .ok (.iconst 2, 1) := by decide +kernel
theorem d_U_stepEither_25 : decode b_U_stepEither 25 = .ok (.if_icmp .eq 21, 3) := by decide +kernel
theorem d_U_stepEither_28 : decode b_U_stepEither 28 = .ok (.iload 6, 2) := by decide +kernel
theorem d_U_stepEither_30 : decode b_U_stepEither 30 = .ok (.iconst 2, 1) := by decide +kernel
theorem d_U_stepEither_31 : decode b_U_stepEither 31 = .ok (.if_icmp .eq 15, 3) := by decide +kernel
theorem d_U_stepEither_34 : decode b_U_stepEither 34 = .ok (.aload_n 0, 1) := by decide +kernel
theorem d_U_stepEither_35 : decode b_U_stepEither 35 = .ok (.iconst 2, 1) := by decide +kernel
theorem d_U_stepEither_36 : decode b_U_stepEither 36 = .ok (.iload_n 1, 1) := by decide +kernel
theorem d_U_stepEither_37 : decode b_U_stepEither 37 = .ok (.imul, 1) := by decide +kernel
theorem d_U_stepEither_38 : decode b_U_stepEither 38 = .ok (.iload 5, 2) := by decide +kernel
theorem d_U_stepEither_40 : decode b_U_stepEither 40 = .ok (.iload 6, 2) := by decide +kernel
theorem d_U_stepEither_42 : decode b_U_stepEither 42 = .ok (.ixor, 1) := by decide +kernel
theorem d_U_stepEither_43 : decode b_U_stepEither 43 = .ok (.invokevirtual 49, 3) := by decide +kernel
theorem d_U_stepEither_46 : decode b_U_stepEither 46 = .ok (.iload 4, 2) := by decide +kernel
theorem d_U_stepEither_48 : decode b_U_stepEither 48 = .ok (.iconst 2, 1) := by decide +kernel
theorem d_U_stepEither_49 : decode b_U_stepEither 49 = .ok (.if_icmp .eq 19, 3) := by decide +kernel
theorem d_U_stepEither_52 : decode b_U_stepEither 52 = .ok (.iload 5, 2) := by decide +kernel
theorem d_U_stepEither_54 : decode b_U_stepEither 54 = .ok (.iconst 2, 1) := by decide +kernel
theorem d_U_stepEither_55 : decode b_U_stepEither 55 = .ok (.if_icmp .eq 13, 3) := by decide +kernel
theorem d_U_stepEither_58 : decode b_U_stepEither 58 = .ok (.aload_n 0, 1) := by decide +kernel
theorem d_U_stepEither_59 : decode b_U_stepEither 59 = .ok (.iload_n 3, 1) := by decide +kernel
theorem d_U_stepEither_60 : decode b_U_stepEither 60 = .ok (.iload 4, 2) := by decide +kernel
theorem d_U_stepEither_62 : decode b_U_stepEither 62 = .ok (.iload 5, 2) := by decide +kernel
theorem d_U_stepEither_64 : decode b_U_stepEither 64 = .ok (.ixor, 1) := by decide +kernel
theorem d_U_stepEither_65 : decode b_U_stepEither 65 = .ok (.invokevirtual 49, 3) := by decide +kernel
theorem d_U_stepEither_68 : decode b_U_stepEither 68 = .ok (.iload 4, 2) := by decide +kernel
theorem d_U_stepEither_70 : decode b_U_stepEither 70 = .ok (.iconst 2, 1) := by decide +kernel
theorem d_U_stepEither_71 : decode b_U_stepEither 71 = .ok (.if_icmp .eq 19, 3) := by decide +kernel
theorem d_U_stepEither_74 : decode b_U_stepEither 74 = .ok (.iload 6, 2) := by decide +kernel
theorem d_U_stepEither_76 : decode b_U_stepEither 76 = .ok (.iconst 2, 1) := by decide +kernel
theorem d_U_stepEither_77 : decode b_U_stepEither 77 = .ok (.if_icmp .eq 13, 3) := by decide +kernel
theorem d_U_stepEither_80 : decode b_U_stepEither 80 = .ok (.aload_n 0, 1) := by decide +kernel
theorem d_U_stepEither_81 : decode b_U_stepEither 81 = .ok (.iload_n 2, 1) := by decide +kernel
theorem d_U_stepEither_82 : decode b_U_stepEither 82 = .ok (.iload 4, 2) := by decide +kernel
theorem d_U_stepEither_84 : decode b_U_stepEither 84 = .ok (.iload 6, 2) := by decide +kernel
theorem d_U_stepEither_86 : decode b_U_stepEither 86 = .ok (.ixor, 1) := by decide +kernel
theorem d_U_stepEither_87 : decode b_U_stepEither 87 = .ok (.invokevirtual 49, 3) := by decide +kernel
theorem d_U_stepEither_90 : decode b_U_stepEither 90 = .ok (.return_, 1) := by decide +kernel
theorem d_U_stepAnd_0 : decode b_U_stepAnd 0 = .ok (.aload_n 0, 1) := by decide +kernel
theorem d_U_stepAnd_1 : decode b_U_stepAnd 1 = .ok (.getfield 9, 3) := by decide +kernel
theorem d_U_stepAnd_4 : decode b_U_stepAnd 4 = .ok (.iload_n 1, 1) := by decide +kernel
theorem d_U_stepAnd_5 : decode b_U_stepAnd 5 = .ok (.iaload, 1) := by decide +kernel
theorem d_U_stepAnd_6 : decode b_U_stepAnd 6 = .ok (.istore 4, 2) := by decide +kernel
theorem d_U_stepAnd_8 : decode b_U_stepAnd 8 = .ok (.aload_n 0, 1) := by decide +kernel
theorem d_U_stepAnd_9 : decode b_U_stepAnd 9 = .ok (.iload_n 2, 1) := by decide +kernel
theorem d_U_stepAnd_10 : decode b_U_stepAnd 10 = .ok (.invokevirtual 95, 3) := by decide +kernel
theorem d_U_stepAnd_13 : decode b_U_stepAnd 13 = .ok (.istore 5, 2) := by decide +kernel
theorem d_U_stepAnd_15 : decode b_U_stepAnd 15 = .ok (.aload_n 0, 1) := by decide +kernel
theorem d_U_stepAnd_16 : decode b_U_stepAnd 16 = .ok (.iload_n 3, 1) := by decide +kernel
theorem d_U_stepAnd_17 : decode b_U_stepAnd 17 = .ok (.invokevirtual 95, 3) := by decide +kernel
theorem d_U_stepAnd_20 : decode b_U_stepAnd 20 = .ok (.istore 6, 2) := by decide +kernel
theorem d_U_stepAnd_22 : decode b_U_stepAnd 22 = .ok (.iload 5, 2) := by decide +kernel
theorem d_U_stepAnd_24 : decode b_U_stepAnd 24 = .ok (.ifCond .eq 8, 3) := by decide +kernel
theorem d_U_stepAnd_27 : decode b_U_stepAnd 27 = .ok (.iload 6, 2) := by decide +kernel
theorem d_U_stepAnd_29 : decode b_U_stepAnd 29 = .ok (.ifCond .ne 11, 3) := by decide +kernel
theorem d_U_stepAnd_32 : decode b_U_stepAnd 32 = .ok (.aload_n 0, 1) := by decide +kernel
theorem d_U_stepAnd_33 : decode b_U_stepAnd 33 = .ok (.iconst 2, 1) := by decide +kernel
theorem d_U_stepAnd_34 : decode b_U_stepAnd 34 = .ok (.iload_n 1, 1) := by decide +kernel
theorem d_U_stepAnd_35 : decode b_U_stepAnd 35 = .ok (.imul, 1) := by decide +kernel
theorem d_U_stepAnd_36 : decode b_U_stepAnd 36 = .ok (.iconst 0, 1) := by decide +kernel
theorem d_U_stepAnd_37 : decode b_U_stepAnd 37 = .ok (.invokevirtual 49, 3) := by decide +kernel
theorem d_U_stepAnd_40 : decode b_U_stepAnd 40 = .ok (.iload 5, 2) := by decide +kernel
theorem d_U_stepAnd_42 : decode b_U_stepAnd 42 = .ok (.iconst 1, 1) := by decide +kernel
theorem d_U_stepAnd_43 : decode b_U_stepAnd 43 = .ok (.if_icmp .ne 17, 3) := by decide +kernel
theorem d_U_stepAnd_46 : decode b_U_stepAnd 46 = .ok (.iload 6, 2) := by decide +kernel
theorem d_U_stepAnd_48 : decode b_U_stepAnd 48 = .ok (.iconst 1, 1) := by decide +kernel
theorem d_U_stepAnd_49 : decode b_U_stepAnd 49 = .ok (.if_icmp .ne 11, 3) := by decide +kernel
theorem d_U_stepAnd_52 : decode b_U_stepAnd 52 = .ok (.aload_n 0, 1) := by decide +kernel
theorem d_U_stepAnd_53 : decode b_U_stepAnd 53 = .ok (.iconst 2, 1) := by decide +kernel
theorem d_U_stepAnd_54 : decode b_U_stepAnd 54 = .ok (.iload_n 1, 1) := by decide +kernel
theorem d_U_stepAnd_55 : decode b_U_stepAnd 55 = .ok (.imul, 1) := by decide +kernel
theorem d_U_stepAnd_56 : decode b_U_stepAnd 56 = .ok (.iconst 1, 1) := by decide +kernel
theorem d_U_stepAnd_57 : decode b_U_stepAnd 57 = .ok (.invokevirtual 49, 3) := by decide +kernel
theorem d_U_stepAnd_60 : decode b_U_stepAnd 60 = .ok (.iload 4, 2) := by decide +kernel
theorem d_U_stepAnd_62 : decode b_U_stepAnd 62 = .ok (.iconst 1, 1) := by decide +kernel
theorem d_U_stepAnd_63 : decode b_U_stepAnd 63 = .ok (.if_icmp .ne 15, 3) := by decide +kernel
theorem d_U_stepAnd_66 : decode b_U_stepAnd 66 = .ok (.aload_n 0, 1) := by decide +kernel
theorem d_U_stepAnd_67 : decode b_U_stepAnd 67 = .ok (.iload_n 2, 1) := by decide +kernel
theorem d_U_stepAnd_68 : decode b_U_stepAnd 68 = .ok (.iconst 1, 1) := by decide +kernel
theorem d_U_stepAnd_69 : decode b_U_stepAnd 69 = .ok (.invokevirtual 49, 3) := by decide +kernel
theorem d_U_stepAnd_72 : decode b_U_stepAnd 72 = .ok (.aload_n 0, 1) := by decide +kernel
theorem d_U_stepAnd_73 : decode b_U_stepAnd 73 = .ok (.iload_n 3, 1) := by decide +kernel
theorem d_U_stepAnd_74 : decode b_U_stepAnd 74 = .ok (.iconst 1, 1) := by decide +kernel
theorem d_U_stepAnd_75 : decode b_U_stepAnd 75 = .ok (.invokevirtual 49, 3) := by decide +kernel
theorem d_U_stepAnd_78 : decode b_U_stepAnd 78 = .ok (.iload 4, 2) := by decide +kernel
theorem d_U_stepAnd_80 : decode b_U_stepAnd 80 = .ok (.ifCond .ne 15, 3) := by decide +kernel
theorem d_U_stepAnd_83 : decode b_U_stepAnd 83 = .ok (.iload 5, 2) := by decide +kernel
theorem d_U_stepAnd_85 : decode b_U_stepAnd 85 = .ok (.iconst 1, 1) := by decide +kernel
theorem d_U_stepAnd_86 : decode b_U_stepAnd 86 = .ok (.if_icmp .ne 9, 3) := by decide +kernel
theorem d_U_stepAnd_89 : decode b_U_stepAnd 89 = .ok (.aload_n 0, 1) := by decide +kernel
theorem d_U_stepAnd_90 : decode b_U_stepAnd 90 = .ok (.iload_n 3, 1) := by decide +kernel
theorem d_U_stepAnd_91 : decode b_U_stepAnd 91 = .ok (.iconst 0, 1) := by decide +kernel
theorem d_U_stepAnd_92 : decode b_U_stepAnd 92 = .ok (.invokevirtual 49, 3) := by decide +kernel
theorem d_U_stepAnd_95 : decode b_U_stepAnd 95 = .ok (.iload 4, 2) := by decide +kernel
theorem d_U_stepAnd_97 : decode b_U_stepAnd 97 = .ok (.ifCond .ne 15, 3) := by decide +kernel
theorem d_U_stepAnd_100 : decode b_U_stepAnd 100 = .ok (.iload 6, 2) := by decide +kernel
theorem d_U_stepAnd_102 : decode b_U_stepAnd 102 = .ok (.iconst 1, 1) := by decide +kernel
theorem d_U_stepAnd_103 : decode b_U_stepAnd 103 = .ok (.if_icmp .ne 9, 3) := by decide +kernel
theorem d_U_stepAnd_106 : decode b_U_stepAnd 106 = .ok (.aload_n 0, 1) := by decide +kernel
theorem d_U_stepAnd_107 : decode b_U_stepAnd 107 = .ok (.iload_n 2, 1) := by decide +kernel
theorem d_U_stepAnd_108 : decode b_U_stepAnd 108 = .ok (.iconst 0, 1) := by decide +kernel
theorem d_U_stepAnd_109 : decode b_U_stepAnd 109 = .ok (.invokevirtual 49, 3) := by decide +kernel
theorem d_U_stepAnd_112 : decode b_U_stepAnd 112 = .ok (.return_, 1) := by decide +kernel
theorem d_U_stepClause_0 : decode b_U_stepClause 0 = .ok (.iconst 0, 1) := by decide +kernel
theorem d_U_stepClause_1 : decode b_U_stepClause 1 = .ok (.istore_n 2, 1) := by decide +kernel
theorem d_U_stepClause_2 : decode b_U_stepClause 2 = .ok (.iconst (-1), 1) := by decide +kernel
theorem d_U_stepClause_3 : decode b_U_stepClause 3 = .ok (.istore_n 3, 1) := by decide +kernel
theorem d_U_stepClause_4 : decode b_U_stepClause 4 = .ok (.iconst 0, 1) := by decide +kernel
theorem d_U_stepClause_5 : decode b_U_stepClause 5 = .ok (.istore 4, 2) := by decide +kernel
theorem d_U_stepClause_7 : decode b_U_stepClause 7 = .ok (.iload 4, 2) := by decide +kernel
theorem d_U_stepClause_9 : decode b_U_stepClause 9 = .ok (.aload_n 0, 1) := by decide +kernel
theorem d_U_stepClause_10 : decode b_U_stepClause 10 = .ok (.getfield 26, 3) := by decide +kernel
theorem d_U_stepClause_13 : decode b_U_stepClause 13 = .ok (.getfield 46, 3) := by decide +kernel
theorem d_U_stepClause_16 : decode b_U_stepClause 16 = .ok (.iload_n 1, 1) := by decide +kernel
theorem d_U_stepClause_17 : decode b_U_stepClause 17 = .ok (.iaload, 1) := by decide +kernel
theorem d_U_stepClause_18 : decode b_U_stepClause 18 = .ok (.if_icmp .ge 36, 3) := by decide +kernel
theorem d_U_stepClause_21 : decode b_U_stepClause 21 = .ok (.aload_n 0, 1) := by decide +kernel
theorem d_U_stepClause_22 : decode b_U_stepClause 22 = .ok (.getfield 26, 3) := by decide +kernel
theorem d_U_stepClause_25 : decode b_U_stepClause 25 = .ok (.iload_n 1, 1) := by decide +kernel
theorem d_U_stepClause_26 : decode b_U_stepClause 26 = .ok (.iload 4, 2) := by decide +kernel
theorem d_U_stepClause_28 : decode b_U_stepClause 28 = .ok (.invokevirtual 35, 3) := by decide +kernel
theorem d_U_stepClause_31 : decode b_U_stepClause 31 = .ok (.istore 5, 2) := by decide +kernel
theorem d_U_stepClause_33 : decode b_U_stepClause 33 = .ok (.aload_n 0, 1) := by decide +kernel
theorem d_U_stepClause_34 : decode b_U_stepClause 34 = .ok (.iload 5, 2) := by decide +kernel
theorem d_U_stepClause_36 : decode b_U_stepClause 36 = .ok (.invokevirtual 95, 3) := by decide +kernel
theorem d_U_stepClause_39 : decode b_U_stepClause 39 = .ok (.ifCond .eq 9, 3) := by decide +kernel
theorem d_U_stepClause_42 : decode b_U_stepClause 42 = .ok (.iinc 2 1, 3) := by decide +kernel
theorem d_U_stepClause_45 : decode b_U_stepClause 45 = .ok (.iload 5, 2) := by decide +kernel
theorem d_U_stepClause_47 : decode b_U_stepClause 47 = .ok (.istore_n 3, 1) := by decide +kernel
theorem d_U_stepClause_48 : decode b_U_stepClause 48 = .ok (.iinc 4 1, 3) := by decide +kernel
theorem d_U_stepClause_51 : decode b_U_stepClause 51 = .ok (.goto (-44), 3) := by decide +kernel
theorem d_U_stepClause_54 : decode b_U_stepClause 54 = .ok (.iload_n 2, 1) := by decide +kernel
theorem d_U_stepClause_55 : decode b_U_stepClause 55 = .ok (.ifCond .ne 11, 3) := by decide +kernel
theorem d_U_stepClause_58 : decode b_U_stepClause 58 = .ok (.aload_n 0, 1) := by decide +kernel
theorem d_U_stepClause_59 : decode b_U_stepClause 59 = .ok (.iconst 1, 1) := by decide +kernel
theorem d_U_stepClause_60 : decode b_U_stepClause 60 = .ok (.putfield 15, 3) := by decide +kernel
theorem d_U_stepClause_63 : decode b_U_stepClause 63 = .ok (.goto 14, 3) := by decide +kernel
theorem d_U_stepClause_66 : decode b_U_stepClause 66 = .ok (.iload_n 2, 1) := by decide +kernel
theorem d_U_stepClause_67 : decode b_U_stepClause 67 = .ok (.iconst 1, 1) := by decide +kernel
theorem d_U_stepClause_68 : decode b_U_stepClause 68 = .ok (.if_icmp .ne 9, 3) := by decide +kernel
theorem d_U_stepClause_71 : decode b_U_stepClause 71 = .ok (.aload_n 0, 1) := by decide +kernel
theorem d_U_stepClause_72 : decode b_U_stepClause 72 = .ok (.iload_n 3, 1) := by decide +kernel
theorem d_U_stepClause_73 : decode b_U_stepClause 73 = .ok (.iconst 1, 1) := by decide +kernel
theorem d_U_stepClause_74 : decode b_U_stepClause 74 = .ok (.invokevirtual 49, 3) := by decide +kernel
theorem d_U_stepClause_77 : decode b_U_stepClause 77 = .ok (.return_, 1) := by decide +kernel
theorem d_U_stepEquality_0 : decode b_U_stepEquality 0 = .ok (.aload_n 0, 1) := by decide +kernel
theorem d_U_stepEquality_1 : decode b_U_stepEquality 1 = .ok (.iload_n 1, 1) := by decide +kernel
theorem d_U_stepEquality_2 : decode b_U_stepEquality 2 = .ok (.invokevirtual 95, 3) := by decide +kernel
theorem d_U_stepEquality_5 : decode b_U_stepEquality 5 = .ok (.istore_n 3, 1) := by decide +kernel
theorem d_U_stepEquality_6 : decode b_U_stepEquality 6 = .ok (.aload_n 0, 1) := by decide +kernel
theorem d_U_stepEquality_7 : decode b_U_stepEquality 7 = .ok (.iload_n 2, 1) := by decide +kernel
theorem d_U_stepEquality_8 : decode b_U_stepEquality 8 = .ok (.invokevirtual 95, 3) := by decide +kernel
theorem d_U_stepEquality_11 : decode b_U_stepEquality 11 = .ok (.istore 4, 2) := by decide +kernel
theorem d_U_stepEquality_13 : decode b_U_stepEquality 13 = .ok (.iload_n 3, 1) := by decide +kernel
theorem d_U_stepEquality_14 : decode b_U_stepEquality 14 = .ok (.iconst 2, 1) := by decide +kernel
theorem d_U_stepEquality_15 : decode b_U_stepEquality 15 = .ok (.if_icmp .eq 9, 3) := by decide +kernel
theorem d_U_stepEquality_18 : decode b_U_stepEquality 18 = .ok (.aload_n 0, 1) := by decide +kernel
theorem d_U_stepEquality_19 : decode b_U_stepEquality 19 = .ok (.iload_n 2, 1) := by decide +kernel
theorem d_U_stepEquality_20 : decode b_U_stepEquality 20 = .ok (.iload_n 3, 1) := by decide +kernel
theorem d_U_stepEquality_21 : decode b_U_stepEquality 21 = .ok (.invokevirtual 49, 3) := by decide +kernel
theorem d_U_stepEquality_24 : decode b_U_stepEquality 24 = .ok (.iload 4, 2) := by decide +kernel
theorem d_U_stepEquality_26 : decode b_U_stepEquality 26 = .ok (.iconst 2, 1) := by decide +kernel
theorem d_U_stepEquality_27 : decode b_U_stepEquality 27 = .ok (.if_icmp .eq 10, 3) := by decide +kernel
theorem d_U_stepEquality_30 : decode b_U_stepEquality 30 = .ok (.aload_n 0, 1) := by decide +kernel
theorem d_U_stepEquality_31 : decode b_U_stepEquality 31 = .ok (.iload_n 1, 1) := by decide +kernel
theorem d_U_stepEquality_32 : decode b_U_stepEquality 32 = .ok (.iload 4, 2) := by decide +kernel
theorem d_U_stepEquality_34 : decode b_U_stepEquality 34 = .ok (.invokevirtual 49, 3) := by decide +kernel
theorem d_U_stepEquality_37 : decode b_U_stepEquality 37 = .ok (.return_, 1) := by decide +kernel
theorem d_U_comeToConflict_0 : decode b_U_comeToConflict 0 = .ok (.aload_n 0, 1) := by decide +kernel
theorem d_U_comeToConflict_1 : decode b_U_comeToConflict 1 = .ok (.iconst 1, 1) := by decide +kernel
theorem d_U_comeToConflict_2 : decode b_U_comeToConflict 2 = .ok (.putfield 19, 3) := by decide +kernel
theorem d_U_comeToConflict_5 : decode b_U_comeToConflict 5 = .ok (.iconst 0, 1) := by decide +kernel
theorem d_U_comeToConflict_6 : decode b_U_comeToConflict 6 = .ok (.istore_n 2, 1) := by decide +kernel
theorem d_U_comeToConflict_7 : decode b_U_comeToConflict 7 = .ok (.iload_n 2, 1) := by decide +kernel
theorem d_U_comeToConflict_8 : decode b_U_comeToConflict 8 = .ok (.bipush 40, 2) := by decide +kernel
theorem d_U_comeToConflict_10 : decode b_U_comeToConflict 10 = .ok (.if_icmp .gt 207, 3) := by decide +kernel
theorem d_U_comeToConflict_13 : decode b_U_comeToConflict 13 = .ok (.aload_n 0, 1) := by decide +kernel
theorem d_U_comeToConflict_14 : decode b_U_comeToConflict 14 = .ok (.getfield 19, 3) := by decide +kernel
theorem d_U_comeToConflict_17 : decode b_U_comeToConflict 17 = .ok (.ifCond .eq 200, 3) := by decide +kernel
theorem d_U_comeToConflict_20 : decode b_U_comeToConflict 20 = .ok (.aload_n 0, 1) := by decide +kernel
theorem d_U_comeToConflict_21 : decode b_U_comeToConflict 21 = .ok (.getfield 15, 3) := by decide +kernel
theorem d_U_comeToConflict_24 : decode b_U_comeToConflict 24 = .ok (.ifCond .ne 193, 3) := by decide +kernel
theorem d_U_comeToConflict_27 : decode b_U_comeToConflict 27 = .ok (.aload_n 0, 1) := by decide +kernel
theorem d_U_comeToConflict_28 : decode b_U_comeToConflict 28 = .ok (.iconst 0, 1) := by decide +kernel
theorem d_U_comeToConflict_29 : decode b_U_comeToConflict 29 = .ok (.putfield 19, 3) := by decide +kernel
theorem d_U_comeToConflict_32 : decode b_U_comeToConflict 32 = .ok (.iconst 1, 1) := by decide +kernel
theorem d_U_comeToConflict_33 : decode b_U_comeToConflict 33 = .ok (.istore_n 3, 1) := by decide +kernel
theorem d_U_comeToConflict_34 : decode b_U_comeToConflict 34 = .ok (.iload_n 3, 1) := by decide +kernel
theorem d_U_comeToConflict_35 : decode b_U_comeToConflict 35 = .ok (.aload_n 0, 1) := by decide +kernel
theorem d_U_comeToConflict_36 : decode b_U_comeToConflict 36 = .ok (.getfield 22, 3) := by decide +kernel
theorem d_U_comeToConflict_39 : decode b_U_comeToConflict 39 = .ok (.getfield 67, 3) := by decide +kernel
theorem d_U_comeToConflict_42 : decode b_U_comeToConflict 42 = .ok (.if_icmp .ge 91, 3) := by decide +kernel
theorem d_U_comeToConflict_45 : decode b_U_comeToConflict 45 = .ok (.aload_n 0, 1) := by decide +kernel
theorem d_U_comeToConflict_46 : decode b_U_comeToConflict 46 = .ok (.getfield 15, 3) := by decide +kernel
theorem d_U_comeToConflict_49 : decode b_U_comeToConflict 49 = .ok (.ifCond .ne 84, 3) := by decide +kernel
theorem d_U_comeToConflict_52 : decode b_U_comeToConflict 52 = .ok (.aload_n 0, 1) := by decide +kernel
theorem d_U_comeToConflict_53 : decode b_U_comeToConflict 53 = .ok (.getfield 22, 3) := by decide +kernel
theorem d_U_comeToConflict_56 : decode b_U_comeToConflict 56 = .ok (.getfield 70, 3) := by decide +kernel
theorem d_U_comeToConflict_59 : decode b_U_comeToConflict 59 = .ok (.iload_n 3, 1) := by decide +kernel
theorem d_U_comeToConflict_60 : decode b_U_comeToConflict 60 = .ok (.iaload, 1) := by decide +kernel
theorem d_U_comeToConflict_61 : decode b_U_comeToConflict 61 = .ok (.iconst 1, 1) := by decide +kernel
theorem d_U_comeToConflict_62 : decode b_U_comeToConflict 62 = .ok (.if_icmp .ne 29, 3) := by decide +kernel
theorem d_U_comeToConflict_65 : decode b_U_comeToConflict 65 = .ok (.aload_n 0, 1) := by decide +kernel
theorem d_U_comeToConflict_66 : decode b_U_comeToConflict 66 = .ok (.iload_n 3, 1) := by decide +kernel
theorem d_U_comeToConflict_67 : decode b_U_comeToConflict 67 = .ok (.aload_n 0, 1) := by decide +kernel
theorem d_U_comeToConflict_68 : decode b_U_comeToConflict 68 = .ok (.getfield 22, 3) := by decide +kernel
theorem d_U_comeToConflict_71 : decode b_U_comeToConflict 71 = .ok (.getfield 71, 3) := by decide +kernel
theorem d_U_comeToConflict_74 : decode b_U_comeToConflict 74 = .ok (.iload_n 3, 1) := by decide +kernel
theorem d_U_comeToConflict_75 : decode b_U_comeToConflict 75 = .ok (.iaload, 1) := by decide +kernel
theorem d_U_comeToConflict_76 : decode b_U_comeToConflict 76 = .ok (.aload_n 0, 1) := by decide +kernel
theorem d_U_comeToConflict_77 : decode b_U_comeToConflict 77 = .ok (.getfield 22, 3) := by decide +kernel
theorem d_U_comeToConflict_80 : decode b_U_comeToConflict 80 = .ok (.getfield 74, 3) := by decide +kernel
theorem d_U_comeToConflict_83 : decode b_U_comeToConflict 83 = .ok (.iload_n 3, 1) := by decide +kernel
theorem d_U_comeToConflict_84 : decode b_U_comeToConflict 84 = .ok (.iaload, 1) := by decide +kernel
theorem d_U_comeToConflict_85 : decode b_U_comeToConflict 85 = .ok (.invokevirtual 77, 3) := by decide +kernel
theorem d_U_comeToConflict_88 : decode b_U_comeToConflict 88 = .ok (.goto 39, 3) := by decide +kernel
theorem d_U_comeToConflict_91 : decode b_U_comeToConflict 91 = .ok (.aload_n 0, 1) := by decide +kernel
theorem d_U_comeToConflict_92 : decode b_U_comeToConflict 92 = .ok (.getfield 22, 3) := by decide +kernel
theorem d_U_comeToConflict_95 : decode b_U_comeToConflict 95 = .ok (.getfield 70, 3) := by decide +kernel
theorem d_U_comeToConflict_98 : decode b_U_comeToConflict 98 = .ok (.iload_n 3, 1) := by decide +kernel
theorem d_U_comeToConflict_99 : decode b_U_comeToConflict 99 = .ok (.iaload, 1) := by decide +kernel
theorem d_U_comeToConflict_100 : decode b_U_comeToConflict 100 = .ok (.iconst 2, 1) := by decide +kernel
theorem d_U_comeToConflict_101 : decode b_U_comeToConflict 101 = .ok (.if_icmp .ne 26, 3) := by decide +kernel
theorem d_U_comeToConflict_104 : decode b_U_comeToConflict 104 = .ok (.aload_n 0, 1) := by decide +kernel
theorem d_U_comeToConflict_105 : decode b_U_comeToConflict 105 = .ok (.iload_n 3, 1) := by decide +kernel
theorem d_U_comeToConflict_106 : decode b_U_comeToConflict 106 = .ok (.aload_n 0, 1) := by decide +kernel
theorem d_U_comeToConflict_107 : decode b_U_comeToConflict 107 = .ok (.getfield 22, 3) := by decide +kernel
theorem d_U_comeToConflict_110 : decode b_U_comeToConflict 110 = .ok (.getfield 71, 3) := by decide +kernel
theorem d_U_comeToConflict_113 : decode b_U_comeToConflict 113 = .ok (.iload_n 3, 1) := by decide +kernel
theorem d_U_comeToConflict_114 : decode b_U_comeToConflict 114 = .ok (.iaload, 1) := by decide +kernel
theorem d_U_comeToConflict_115 : decode b_U_comeToConflict 115 = .ok (.aload_n 0, 1) := by decide +kernel
theorem d_U_comeToConflict_116 : decode b_U_comeToConflict 116 = .ok (.getfield 22, 3) := by decide +kernel
theorem d_U_comeToConflict_119 : decode b_U_comeToConflict 119 = .ok (.getfield 74, 3) := by decide +kernel
theorem d_U_comeToConflict_122 : decode b_U_comeToConflict 122 = .ok (.iload_n 3, 1) := by decide +kernel
theorem d_U_comeToConflict_123 : decode b_U_comeToConflict 123 = .ok (.iaload, 1) := by decide +kernel
theorem d_U_comeToConflict_124 : decode b_U_comeToConflict 124 = .ok (.invokevirtual 81, 3) := by decide +kernel
theorem d_U_comeToConflict_127 : decode b_U_comeToConflict 127 = .ok (.iinc 3 1, 3) := by decide +kernel
theorem d_U_comeToConflict_130 : decode b_U_comeToConflict 130 = .ok (.goto (-96), 3) := by decide +kernel
theorem d_U_comeToConflict_133 : decode b_U_comeToConflict 133 = .ok (.iconst 0, 1) := by decide +kernel
theorem d_U_comeToConflict_134 : decode b_U_comeToConflict 134 = .ok (.istore_n 3, 1) := by decide +kernel
theorem d_U_comeToConflict_135 : decode b_U_comeToConflict 135 = .ok (.iload_n 3, 1) := by decide +kernel
theorem d_U_comeToConflict_136 : decode b_U_comeToConflict 136 = .ok (.iload_n 1, 1) := by decide +kernel
theorem d_U_comeToConflict_137 : decode b_U_comeToConflict 137 = .ok (.if_icmp .ge 74, 3) := by decide +kernel
theorem d_U_comeToConflict_140 : decode b_U_comeToConflict 140 = .ok (.aload_n 0, 1) := by decide +kernel
theorem d_U_comeToConflict_141 : decode b_U_comeToConflict 141 = .ok (.getfield 15, 3) := by decide +kernel
theorem d_U_comeToConflict_144 : decode b_U_comeToConflict 144 = .ok (.ifCond .ne 67, 3) := by decide +kernel
theorem d_U_comeToConflict_147 : decode b_U_comeToConflict 147 = .ok (.aload_n 0, 1) := by decide +kernel
theorem d_U_comeToConflict_148 : decode b_U_comeToConflict 148 = .ok (.getfield 26, 3) := by decide +kernel
theorem d_U_comeToConflict_151 : decode b_U_comeToConflict 151 = .ok (.getfield 84, 3) := by decide +kernel
theorem d_U_comeToConflict_154 : decode b_U_comeToConflict 154 = .ok (.iload_n 3, 1) := by decide +kernel
theorem d_U_comeToConflict_155 : decode b_U_comeToConflict 155 = .ok (.baload, 1) := by decide +kernel
theorem d_U_comeToConflict_156 : decode b_U_comeToConflict 156 = .ok (.ifCond .eq 6, 3) := by decide +kernel
theorem d_U_comeToConflict_159 : decode b_U_comeToConflict 159 = .ok (.goto 46, 3) := by decide +kernel
theorem d_U_comeToConflict_162 : decode b_U_comeToConflict 162 = .ok (.aload_n 0, 1) := by decide +kernel
theorem d_U_comeToConflict_163 : decode b_U_comeToConflict 163 = .ok (.getfield 26, 3) := by decide +kernel
theorem d_U_comeToConflict_166 : decode b_U_comeToConflict 166 = .ok (.getfield 30, 3) := by decide +kernel
theorem d_U_comeToConflict_169 : decode b_U_comeToConflict 169 = .ok (.iload_n 3, 1) := by decide +kernel
theorem d_U_comeToConflict_170 : decode b_U_comeToConflict 170 = .ok (.iaload, 1) := by decide +kernel
theorem d_U_comeToConflict_171 : decode b_U_comeToConflict 171 = .ok (.iconst 1, 1) := by decide +kernel
theorem d_U_comeToConflict_172 : decode b_U_comeToConflict 172 = .ok (.if_icmp .ne 28, 3) := by decide +kernel
theorem d_U_comeToConflict_175 : decode b_U_comeToConflict 175 = .ok (.aload_n 0, 1) := by decide +kernel
theorem d_U_comeToConflict_176 : decode b_U_comeToConflict 176 = .ok (.aload_n 0, 1) := by decide +kernel
theorem d_U_comeToConflict_177 : decode b_U_comeToConflict 177 = .ok (.getfield 26, 3) := by decide +kernel
theorem d_U_comeToConflict_180 : decode b_U_comeToConflict 180 = .ok (.iload_n 3, 1) := by decide +kernel
theorem d_U_comeToConflict_181 : decode b_U_comeToConflict 181 = .ok (.iconst 0, 1) := by decide +kernel
theorem d_U_comeToConflict_182 : decode b_U_comeToConflict 182 = .ok (.invokevirtual 35, 3) := by decide +kernel
theorem d_U_comeToConflict_185 : decode b_U_comeToConflict 185 = .ok (.aload_n 0, 1) := by decide +kernel
theorem d_U_comeToConflict_186 : decode b_U_comeToConflict 186 = .ok (.getfield 26, 3) := by decide +kernel
theorem d_U_comeToConflict_189 : decode b_U_comeToConflict 189 = .ok (.iload_n 3, 1) := by decide +kernel
theorem d_U_comeToConflict_190 : decode b_U_comeToConflict 190 = .ok (.iconst 1, 1) := by decide +kernel
theorem d_U_comeToConflict_191 : decode b_U_comeToConflict 191 = .ok (.invokevirtual 35, 3) := by decide +kernel
theorem d_U_comeToConflict_194 : decode b_U_comeToConflict 194 = .ok (.invokevirtual 88, 3) := by decide +kernel
theorem d_U_comeToConflict_197 : decode b_U_comeToConflict 197 = .ok (.goto 8, 3) := by decide +kernel
theorem d_U_comeToConflict_200 : decode b_U_comeToConflict 200 = .ok (.aload_n 0, 1) := by decide +kernel
theorem d_U_comeToConflict_201 : decode b_U_comeToConflict 201 = .ok (.iload_n 3, 1) := by decide +kernel
theorem d_U_comeToConflict_202 : decode b_U_comeToConflict 202 = .ok (.invokevirtual 91, 3) := by decide +kernel
theorem d_U_comeToConflict_205 : decode b_U_comeToConflict 205 = .ok (.iinc 3 1, 3) := by decide +kernel
theorem d_U_comeToConflict_208 : decode b_U_comeToConflict 208 = .ok (.goto (-73), 3) := by decide +kernel
theorem d_U_comeToConflict_211 : decode b_U_comeToConflict 211 = .ok (.iinc 2 1, 3) := by decide +kernel
theorem d_U_comeToConflict_214 : decode b_U_comeToConflict 214 = .ok (.goto (-207), 3) := by decide +kernel
theorem d_U_comeToConflict_217 : decode b_U_comeToConflict 217 = .ok (.aload_n 0, 1) := by decide +kernel
theorem d_U_comeToConflict_218 : decode b_U_comeToConflict 218 = .ok (.getfield 15, 3) := by decide +kernel
theorem d_U_comeToConflict_221 : decode b_U_comeToConflict 221 = .ok (.ireturn, 1) := by decide +kernel
theorem d_U_literalFollows_0 : decode b_U_literalFollows 0 = .ok (.aload_n 0, 1) := by decide +kernel
theorem d_U_literalFollows_1 : decode b_U_literalFollows 1 = .ok (.invokevirtual 43, 3) := by decide +kernel
theorem d_U_literalFollows_4 : decode b_U_literalFollows 4 = .ok (.aload_n 0, 1) := by decide +kernel
theorem d_U_literalFollows_5 : decode b_U_literalFollows 5 = .ok (.iload_n 1, 1) := by decide +kernel
theorem d_U_literalFollows_6 : decode b_U_literalFollows 6 = .ok (.iconst 0, 1) := by decide +kernel
theorem d_U_literalFollows_7 : decode b_U_literalFollows 7 = .ok (.invokevirtual 49, 3) := by decide +kernel
theorem d_U_literalFollows_10 : decode b_U_literalFollows 10 = .ok (.aload_n 0, 1) := by decide +kernel
theorem d_U_literalFollows_11 : decode b_U_literalFollows 11 = .ok (.aload_n 0, 1) := by decide +kernel
theorem d_U_literalFollows_12 : decode b_U_literalFollows 12 = .ok (.getfield 26, 3) := by decide +kernel
theorem d_U_literalFollows_15 : decode b_U_literalFollows 15 = .ok (.getfield 57, 3) := by decide +kernel
theorem d_U_literalFollows_18 : decode b_U_literalFollows 18 = .ok (.invokevirtual 53, 3) := by decide +kernel
theorem d_U_literalFollows_21 : decode b_U_literalFollows 21 = .ok (.ireturn, 1) := by decide +kernel
theorem d_U_bothConflict_0 : decode b_U_bothConflict 0 = .ok (.aload_n 0, 1) := by decide +kernel
theorem d_U_bothConflict_1 : decode b_U_bothConflict 1 = .ok (.invokevirtual 43, 3) := by decide +kernel
theorem d_U_bothConflict_4 : decode b_U_bothConflict 4 = .ok (.aload_n 0, 1) := by decide +kernel
theorem d_U_bothConflict_5 : decode b_U_bothConflict 5 = .ok (.iload_n 1, 1) := by decide +kernel
theorem d_U_bothConflict_6 : decode b_U_bothConflict 6 = .ok (.iconst 1, 1) := by decide +kernel
theorem d_U_bothConflict_7 : decode b_U_bothConflict 7 = .ok (.invokevirtual 49, 3) := by decide +kernel
theorem d_U_bothConflict_10 : decode b_U_bothConflict 10 = .ok (.aload_n 0, 1) := by decide +kernel
theorem d_U_bothConflict_11 : decode b_U_bothConflict 11 = .ok (.iload_n 2, 1) := by decide +kernel
theorem d_U_bothConflict_12 : decode b_U_bothConflict 12 = .ok (.iconst 1, 1) := by decide +kernel
theorem d_U_bothConflict_13 : decode b_U_bothConflict 13 = .ok (.invokevirtual 49, 3) := by decide +kernel
theorem d_U_bothConflict_16 : decode b_U_bothConflict 16 = .ok (.aload_n 0, 1) := by decide +kernel
theorem d_U_bothConflict_17 : decode b_U_bothConflict 17 = .ok (.iload_n 3, 1) := by decide +kernel
theorem d_U_bothConflict_18 : decode b_U_bothConflict 18 = .ok (.invokevirtual 53, 3) := by decide +kernel
theorem d_U_bothConflict_21 : decode b_U_bothConflict 21 = .ok (.ireturn, 1) := by decide +kernel
theorem d_U_lineFollows_0 : decode b_U_lineFollows 0 = .ok (.aload_n 0, 1) := by decide +kernel
theorem d_U_lineFollows_1 : decode b_U_lineFollows 1 = .ok (.getfield 26, 3) := by decide +kernel
theorem d_U_lineFollows_4 : decode b_U_lineFollows 4 = .ok (.getfield 30, 3) := by decide +kernel
theorem d_U_lineFollows_7 : decode b_U_lineFollows 7 = .ok (.iload_n 1, 1) := by decide +kernel
theorem d_U_lineFollows_8 : decode b_U_lineFollows 8 = .ok (.iaload, 1) := by decide +kernel
theorem d_U_lineFollows_9 : decode b_U_lineFollows 9 = .ok (.iconst 1, 1) := by decide +kernel
theorem d_U_lineFollows_10 : decode b_U_lineFollows 10 = .ok (.if_icmp .ne 53, 3) := by decide +kernel
theorem d_U_lineFollows_13 : decode b_U_lineFollows 13 = .ok (.aload_n 0, 1) := by decide +kernel
theorem d_U_lineFollows_14 : decode b_U_lineFollows 14 = .ok (.getfield 26, 3) := by decide +kernel
theorem d_U_lineFollows_17 : decode b_U_lineFollows 17 = .ok (.iload_n 1, 1) := by decide +kernel
theorem d_U_lineFollows_18 : decode b_U_lineFollows 18 = .ok (.iconst 0, 1) := by decide +kernel
theorem d_U_lineFollows_19 : decode b_U_lineFollows 19 = .ok (.invokevirtual 35, 3) := by decide +kernel
theorem d_U_lineFollows_22 : decode b_U_lineFollows 22 = .ok (.istore_n 2, 1) := by decide +kernel
theorem d_U_lineFollows_23 : decode b_U_lineFollows 23 = .ok (.aload_n 0, 1) := by decide +kernel
theorem d_U_lineFollows_24 : decode b_U_lineFollows 24 = .ok (.getfield 26, 3) := by decide +kernel
theorem d_U_lineFollows_27 : decode b_U_lineFollows 27 = .ok (.iload_n 1, 1) := by decide +kernel
theorem d_U_lineFollows_28 : decode b_U_lineFollows 28 = .ok (.iconst 1, 1) := by decide +kernel
theorem d_U_lineFollows_29 : decode b_U_lineFollows 29 = .ok (.invokevirtual 35, 3) := by decide +kernel
theorem d_U_lineFollows_32 : decode b_U_lineFollows 32 = .ok (.istore_n 3, 1) := by decide +kernel
theorem d_U_lineFollows_33 : decode b_U_lineFollows 33 = .ok (.aload_n 0, 1) := by decide +kernel
theorem d_U_lineFollows_34 : decode b_U_lineFollows 34 = .ok (.iload_n 2, 1) := by decide +kernel
theorem d_U_lineFollows_35 : decode b_U_lineFollows 35 = .ok (.iload_n 3, 1) := by decide +kernel
theorem d_U_lineFollows_36 : decode b_U_lineFollows 36 = .ok (.iconst 1, 1) := by decide +kernel
theorem d_U_lineFollows_37 : decode b_U_lineFollows 37 = .ok (.ixor, 1) := by decide +kernel
theorem d_U_lineFollows_38 : decode b_U_lineFollows 38 = .ok (.iload_n 1, 1) := by decide +kernel
theorem d_U_lineFollows_39 : decode b_U_lineFollows 39 = .ok (.invokevirtual 39, 3) := by decide +kernel
theorem d_U_lineFollows_42 : decode b_U_lineFollows 42 = .ok (.ifCond .eq 19, 3) := by decide +kernel
theorem d_U_lineFollows_45 : decode b_U_lineFollows 45 = .ok (.aload_n 0, 1) := by decide +kernel
theorem d_U_lineFollows_46 : decode b_U_lineFollows 46 = .ok (.iload_n 2, 1) := by decide +kernel
theorem d_U_lineFollows_47 : decode b_U_lineFollows 47 = .ok (.iconst 1, 1) := by decide +kernel
theorem d_U_lineFollows_48 : decode b_U_lineFollows 48 = .ok (.ixor, 1) := by decide +kernel
theorem d_U_lineFollows_49 : decode b_U_lineFollows 49 = .ok (.iload_n 3, 1) := by decide +kernel
theorem d_U_lineFollows_50 : decode b_U_lineFollows 50 = .ok (.iload_n 1, 1) := by decide +kernel
theorem d_U_lineFollows_51 : decode b_U_lineFollows 51 = .ok (.invokevirtual 39, 3) := by decide +kernel
theorem d_U_lineFollows_54 : decode b_U_lineFollows 54 = .ok (.ifCond .eq 7, 3) := by decide +kernel
theorem d_U_lineFollows_57 : decode b_U_lineFollows 57 = .ok (.iconst 1, 1) := by decide +kernel
theorem d_U_lineFollows_58 : decode b_U_lineFollows 58 = .ok (.goto 4, 3) := by decide +kernel
theorem d_U_lineFollows_61 : decode b_U_lineFollows 61 = .ok (.iconst 0, 1) := by decide +kernel
theorem d_U_lineFollows_62 : decode b_U_lineFollows 62 = .ok (.ireturn, 1) := by decide +kernel
theorem d_U_lineFollows_63 : decode b_U_lineFollows 63 = .ok (.aload_n 0, 1) := by decide +kernel
theorem d_U_lineFollows_64 : decode b_U_lineFollows 64 = .ok (.invokevirtual 43, 3) := by decide +kernel
theorem d_U_lineFollows_67 : decode b_U_lineFollows 67 = .ok (.iconst 0, 1) := by decide +kernel
theorem d_U_lineFollows_68 : decode b_U_lineFollows 68 = .ok (.istore_n 2, 1) := by decide +kernel
theorem d_U_lineFollows_69 : decode b_U_lineFollows 69 = .ok (.iload_n 2, 1) := by decide +kernel
theorem d_U_lineFollows_70 : decode b_U_lineFollows 70 = .ok (.aload_n 0, 1) := by decide +kernel
theorem d_U_lineFollows_71 : decode b_U_lineFollows 71 = .ok (.getfield 26, 3) := by decide +kernel
theorem d_U_lineFollows_74 : decode b_U_lineFollows 74 = .ok (.getfield 46, 3) := by decide +kernel
theorem d_U_lineFollows_77 : decode b_U_lineFollows 77 = .ok (.iload_n 1, 1) := by decide +kernel
theorem d_U_lineFollows_78 : decode b_U_lineFollows 78 = .ok (.iaload, 1) := by decide +kernel
theorem d_U_lineFollows_79 : decode b_U_lineFollows 79 = .ok (.if_icmp .ge 23, 3) := by decide +kernel
theorem d_U_lineFollows_82 : decode b_U_lineFollows 82 = .ok (.aload_n 0, 1) := by decide +kernel
theorem d_U_lineFollows_83 : decode b_U_lineFollows 83 = .ok (.aload_n 0, 1) := by decide +kernel
theorem d_U_lineFollows_84 : decode b_U_lineFollows 84 = .ok (.getfield 26, 3) := by decide +kernel
theorem d_U_lineFollows_87 : decode b_U_lineFollows 87 = .ok (.iload_n 1, 1) := by decide +kernel
theorem d_U_lineFollows_88 : decode b_U_lineFollows 88 = .ok (.iload_n 2, 1) := by decide +kernel
theorem d_U_lineFollows_89 : decode b_U_lineFollows 89 = .ok (.invokevirtual 35, 3) := by decide +kernel
theorem d_U_lineFollows_92 : decode b_U_lineFollows 92 = .ok (.iconst 0, 1) := by decide +kernel
theorem d_U_lineFollows_93 : decode b_U_lineFollows 93 = .ok (.invokevirtual 49, 3) := by decide +kernel
theorem d_U_lineFollows_96 : decode b_U_lineFollows 96 = .ok (.iinc 2 1, 3) := by decide +kernel
theorem d_U_lineFollows_99 : decode b_U_lineFollows 99 = .ok (.goto (-30), 3) := by decide +kernel
theorem d_U_lineFollows_102 : decode b_U_lineFollows 102 = .ok (.aload_n 0, 1) := by decide +kernel
theorem d_U_lineFollows_103 : decode b_U_lineFollows 103 = .ok (.iload_n 1, 1) := by decide +kernel
theorem d_U_lineFollows_104 : decode b_U_lineFollows 104 = .ok (.invokevirtual 53, 3) := by decide +kernel
theorem d_U_lineFollows_107 : decode b_U_lineFollows 107 = .ok (.ireturn, 1) := by decide +kernel
theorem d_U_new_0 : decode b_U_new 0 = .ok (.aload_n 0, 1) := by decide +kernel
theorem d_U_new_1 : decode b_U_new 1 = .ok (.invokespecial 3, 3) := by decide +kernel
theorem d_U_new_4 : decode b_U_new 4 = .ok (.aload_n 0, 1) := by decide +kernel
theorem d_U_new_5 : decode b_U_new 5 = .ok (.bipush 40, 2) := by decide +kernel
theorem d_U_new_7 : decode b_U_new 7 = .ok (.newarray .int, 2) := by decide +kernel
theorem d_U_new_9 : decode b_U_new 9 = .ok (.putfield 9, 3) := by decide +kernel
theorem d_U_new_12 : decode b_U_new 12 = .ok (.aload_n 0, 1) := by decide +kernel
theorem d_U_new_13 : decode b_U_new 13 = .ok (.iconst 0, 1) := by decide +kernel
theorem d_U_new_14 : decode b_U_new 14 = .ok (.putfield 15, 3) := by decide +kernel
theorem d_U_new_17 : decode b_U_new 17 = .ok (.aload_n 0, 1) := by decide +kernel
theorem d_U_new_18 : decode b_U_new 18 = .ok (.iconst 0, 1) := by decide +kernel
theorem d_U_new_19 : decode b_U_new 19 = .ok (.putfield 19, 3) := by decide +kernel
theorem d_U_new_22 : decode b_U_new 22 = .ok (.aload_n 0, 1) := by decide +kernel
theorem d_U_new_23 : decode b_U_new 23 = .ok (.aload_n 1, 1) := by decide +kernel
theorem d_U_new_24 : decode b_U_new 24 = .ok (.putfield 22, 3) := by decide +kernel
theorem d_U_new_27 : decode b_U_new 27 = .ok (.aload_n 0, 1) := by decide +kernel
theorem d_U_new_28 : decode b_U_new 28 = .ok (.aload_n 2, 1) := by decide +kernel
theorem d_U_new_29 : decode b_U_new 29 = .ok (.putfield 26, 3) := by decide +kernel
theorem d_U_new_32 : decode b_U_new 32 = .ok (.return_, 1) := by decide +kernel
def rm_U_begin : Room := { frames := 1, cells := 0, slots := 0, locals := 23 }
set_option maxHeartbeats 4000000 in
set_option maxRecDepth 100000 in
theorem c_U_begin (l : Launch) (D : va_G) (cA : Nat → ClassId) (ad : Nat → Nat) (sz : Nat) (U_conflict : Int32) (U_changed : Int32) (U_told : (Nat → Int32)) (post : Int32 → (Nat → Int32) → Prop) (h : wp_U_begin U_conflict U_told post) : Met l y_U_begin w_U_begin rm_U_begin (mPc D cA [.ref (ad 11)] [(k_U cA ad U_conflict U_changed), (k_U_told cA ad U_told)] sz) (va_Qv (fun (u : Int32 × (Nat → Int32)) => post u.1 u.2) (mB D (va_A [(k_U cA ad U_conflict U_changed), (k_U_told cA ad U_told)] sz) (fun (u : Int32 × (Nat → Int32)) => [(k_U cA ad u.1 U_changed), (k_U_told cA ad u.2)])) (va_A [(k_U cA ad U_conflict U_changed), (k_U_told cA ad U_told)] sz)) 0 0 (va_A [(k_U cA ad U_conflict U_changed), (k_U_told cA ad U_told)] sz) := by
  refine m_methV (by decide) rfl (Nat.le_of_ble_eq_true rfl) ?_
  intro p e s m below meth c A Q ls hx hb hml hown hts hK hA hw hl hE
  have hl : lv_has ls 1 [(0, .ref (ad 11))] := hl
  have hown : s.vm.findClass R_U = some m.cls := hown
  have hg : ∀ {w : Cond}, w ∈ gw → w.before _ s = true := fun h => hts _ (List.mem_cons_of_mem _ h)
  unfold wp_U_begin at h
  refine lv_aload_n hx hb d_U_begin_0 rfl (lv_at hl 0 rfl) ?_
  refine va_get (D := D) (ci := 3) (v := .ref (ad 12)) (C := R_U) (T := T_U) (N := 5) hx hb hts (fun w h => List.mem_cons_of_mem _ (iw_U w h)) hown hK.1 hw.1 0 rfl rfl 2 (by decide) (hg gm_100) (fun _ h9 => h9) rfl d_U_begin_1 ?_
  refine lv_iconst (v := 2) hx hb d_U_begin_4 (by decide) ?_
  refine m_callv (hr := va_runS (As := [.ref (ad 12), .int 2]) (rest := []) ⟨hx, hb, hml, hown, hts⟩ (c_A_fill l D cA ad _ U_told 2 _ h) (va_cwS 2 hts (ginS gm_425 gm_426 gm_13 gm_427) rfl rfl rfl (by decide +kernel) ⟨Nat.le_of_ble_eq_true rfl, Nat.le_of_ble_eq_true rfl⟩) (m_preS hK hw [1] rfl rfl) rfl rfl hl.1 rfl (lv_room (Nat.le_of_ble_eq_true rfl)) d_U_begin_5 ⟨Nat.zero_le _, Nat.zero_le _⟩) (w2 := (fun (u : (Nat → Int32)) => [(k_U cA ad U_conflict U_changed), (k_U_told cA ad u)])) (wr := [(k_U cA ad U_conflict U_changed)]) hw hA [1] [0] [0, 1] rfl rfl (by decide) (by decide) (by decide) (fun _ => rfl) (fun u H locs hw h => ?_)
  obtain ⟨U_told_5, rfl⟩ : ∃ z, z = u := ⟨_, rfl⟩
  have hw : mW D A s.heap [(k_U cA ad U_conflict U_changed), (k_U_told cA ad U_told_5)] H locs := hw
  refine lv_aload_n hx hb d_U_begin_8 rfl (lv_at hl 0 rfl) ?_
  refine va_get (D := D) (ci := 3) (v := .ref (ad 12)) (C := R_U) (T := T_U) (N := 5) hx hb hts (fun w h => List.mem_cons_of_mem _ (iw_U w h)) hown hK.1 hw.1 0 rfl rfl 2 (by decide) (hg gm_100) (fun _ h9 => h9) rfl d_U_begin_9 ?_
  refine lv_iconst (v := 0) hx hb d_U_begin_12 (by decide) ?_
  refine lv_iconst (v := 0) hx hb d_U_begin_13 (by decide) ?_
  refine m_iast (ws' := [(k_U cA ad U_conflict U_changed), (k_U_told cA ad (upd U_told_5 (0 : Int32).toNatClampNeg 0))]) hx hb hK.1 hw 1 0 rfl rfl h.1 rfl d_U_begin_14 (fun H locs hw => ?_)
  have h := h.2
  refine lv_aload_n hx hb d_U_begin_15 rfl (lv_at hl 0 rfl) ?_
  refine lv_iconst (v := 0) hx hb d_U_begin_16 (by decide) ?_
  refine m_put (ws' := [(k_U cA ad 0 U_changed), (k_U_told cA ad (upd U_told_5 (0 : Int32).toNatClampNeg 0))]) (ci := 3) (v := .int 0) (ty := .boolean) (C := R_U) (T := T_U) (N := 5) hx hb hts (fun w h => List.mem_cons_of_mem _ (iw_U w h)) ty_U tyok_U nm_U hown hK.1 hw 0 rfl rfl 3 (by decide) (hg gm_102) (fun _ h9 => h9) rfl (by decide +kernel) rfl rfl (Nat.le_of_ble_eq_true rfl) rfl d_U_begin_17 (fun H locs hw => ?_)
  exact hE (0, (upd U_told_5 (0 : Int32).toNatClampNeg 0)) _ _ _ _ h hw d_U_begin_20
def rm_U_tell : Room := { frames := 0, cells := 0, slots := 0, locals := 0 }
set_option maxHeartbeats 4000000 in
set_option maxRecDepth 100000 in
theorem c_U_tell (l : Launch) (D : va_G) (cA : Nat → ClassId) (ad : Nat → Nat) (sz : Nat) (U_conflict : Int32) (U_changed : Int32) (U_told : (Nat → Int32)) (p1 : Int32) (p2 : Int32) (post : Int32 → Int32 → (Nat → Int32) → Prop) (h : wp_U_tell U_conflict U_changed U_told p1 p2 post) : Met l y_U_tell w_U_tell rm_U_tell (mPc D cA [.ref (ad 11), .int p1, .int p2] [(k_U cA ad U_conflict U_changed), (k_U_told cA ad U_told)] sz) (va_Qv (fun (u : Int32 × Int32 × (Nat → Int32)) => post u.1 u.2.1 u.2.2) (mB D (va_A [(k_U cA ad U_conflict U_changed), (k_U_told cA ad U_told)] sz) (fun (u : Int32 × Int32 × (Nat → Int32)) => [(k_U cA ad u.1 u.2.1), (k_U_told cA ad u.2.2)])) (va_A [(k_U cA ad U_conflict U_changed), (k_U_told cA ad U_told)] sz)) 0 0 (va_A [(k_U cA ad U_conflict U_changed), (k_U_told cA ad U_told)] sz) := by
  refine m_methV (by decide) rfl (Nat.le_of_ble_eq_true rfl) ?_
  intro p e s m below meth c A Q ls hx hb hml hown hts hK hA hw hl hE
  have hl : lv_has ls 5 [(0, .ref (ad 11)), (1, .int p1), (2, .int p2)] := hl
  have hown : s.vm.findClass R_U = some m.cls := hown
  have hg : ∀ {w : Cond}, w ∈ gw → w.before _ s = true := fun h => hts _ (List.mem_cons_of_mem _ h)
  unfold wp_U_tell at h
  refine lv_iload_n hx hb d_U_tell_0 rfl (lv_at hl 1 rfl) ?_
  refine lv_iconst (v := 1) hx hb d_U_tell_1 (by decide) ?_
  refine lv_ishr hx hb d_U_tell_2 ?_
  refine lv_istore_n (lv' := [(3, .int (p1 >>> ((1 : Int32) &&& 31))), (0, .ref (ad 11)), (1, .int p1), (2, .int p2)]) hx hb d_U_tell_3 rfl hl (by decide) rfl (fun ls hl => ?_)
  refine lv_iload_n hx hb d_U_tell_4 rfl (lv_at hl 3 rfl) ?_
  refine lv_iload_n hx hb d_U_tell_5 rfl (lv_at hl 2 rfl) ?_
  refine lv_iconst (v := 1) hx hb d_U_tell_6 (by decide) ?_
  refine lv_iand hx hb d_U_tell_7 ?_
  refine lv_ixor hx hb d_U_tell_8 ?_
  refine lv_istore (lv' := [(4, .int (p2 ^^^ (p1 &&& 1))), (3, .int (p1 >>> ((1 : Int32) &&& 31))), (0, .ref (ad 11)), (1, .int p1), (2, .int p2)]) hx hb d_U_tell_9 hl (by decide) rfl (fun ls hl => ?_)
  refine lv_aload_n hx hb d_U_tell_11 rfl (lv_at hl 2 rfl) ?_
  refine va_get (D := D) (ci := 3) (v := .ref (ad 12)) (C := R_U) (T := T_U) (N := 5) hx hb hts (fun w h => List.mem_cons_of_mem _ (iw_U w h)) hown hK.1 hw.1 0 rfl rfl 2 (by decide) (hg gm_100) (fun _ h9 => h9) rfl d_U_tell_12 ?_
  refine lv_iload_n hx hb d_U_tell_15 rfl (lv_at hl 1 rfl) ?_
  refine va_iald hx hb hK.1 hw.1 1 0 rfl rfl h.1 d_U_tell_16 ?_
  have h := h.2
  refine lv_iconst (v := 2) hx hb d_U_tell_17 (by decide) ?_
  refine lv_icmp_ne (tgt := 37) hx hb d_U_tell_18 (by decide) (fun hc => ?_) (fun hc => ?_)
  · have h := h.2 hc
    refine lv_aload_n hx hb d_U_tell_37 rfl (lv_at hl 2 rfl) ?_
    refine va_get (D := D) (ci := 3) (v := .ref (ad 12)) (C := R_U) (T := T_U) (N := 5) hx hb hts (fun w h => List.mem_cons_of_mem _ (iw_U w h)) hown hK.1 hw.1 0 rfl rfl 2 (by decide) (hg gm_100) (fun _ h9 => h9) rfl d_U_tell_38 ?_
    refine lv_iload_n hx hb d_U_tell_41 rfl (lv_at hl 1 rfl) ?_
    refine va_iald hx hb hK.1 hw.1 1 0 rfl rfl h.1 d_U_tell_42 ?_
    have h := h.2
    refine lv_iload hx hb d_U_tell_43 (lv_at hl 0 rfl) ?_
    refine lv_icmp_eq (tgt := 53) hx hb d_U_tell_45 (by decide) (fun hc => ?_) (fun hc => ?_)
    · have h := h.1 hc
      exact hE (U_conflict, U_changed, U_told) _ _ _ _ h hw d_U_tell_53
    · have h := h.2 hc
      refine lv_aload_n hx hb d_U_tell_48 rfl (lv_at hl 2 rfl) ?_
      refine lv_iconst (v := 1) hx hb d_U_tell_49 (by decide) ?_
      refine m_put (ws' := [(k_U cA ad 1 U_changed), (k_U_told cA ad U_told)]) (ci := 3) (v := .int 1) (ty := .boolean) (C := R_U) (T := T_U) (N := 5) hx hb hts (fun w h => List.mem_cons_of_mem _ (iw_U w h)) ty_U tyok_U nm_U hown hK.1 hw 0 rfl rfl 3 (by decide) (hg gm_102) (fun _ h9 => h9) rfl (by decide +kernel) rfl rfl (Nat.le_of_ble_eq_true rfl) rfl d_U_tell_50 (fun H locs hw => ?_)
      exact hE (1, U_changed, U_told) _ _ _ _ h hw d_U_tell_53
  · have h := h.1 hc
    refine lv_aload_n hx hb d_U_tell_21 rfl (lv_at hl 2 rfl) ?_
    refine va_get (D := D) (ci := 3) (v := .ref (ad 12)) (C := R_U) (T := T_U) (N := 5) hx hb hts (fun w h => List.mem_cons_of_mem _ (iw_U w h)) hown hK.1 hw.1 0 rfl rfl 2 (by decide) (hg gm_100) (fun _ h9 => h9) rfl d_U_tell_22 ?_
    refine lv_iload_n hx hb d_U_tell_25 rfl (lv_at hl 1 rfl) ?_
    refine lv_iload hx hb d_U_tell_26 (lv_at hl 0 rfl) ?_
    refine m_iast (ws' := [(k_U cA ad U_conflict U_changed), (k_U_told cA ad (upd U_told (p1 >>> ((1 : Int32) &&& 31)).toNatClampNeg (p2 ^^^ (p1 &&& 1))))]) hx hb hK.1 hw 1 0 rfl rfl h.1 rfl d_U_tell_28 (fun H locs hw => ?_)
    have h := h.2
    refine lv_aload_n hx hb d_U_tell_29 rfl (lv_at hl 2 rfl) ?_
    refine lv_iconst (v := 1) hx hb d_U_tell_30 (by decide) ?_
    refine m_put (ws' := [(k_U cA ad U_conflict 1), (k_U_told cA ad (upd U_told (p1 >>> ((1 : Int32) &&& 31)).toNatClampNeg (p2 ^^^ (p1 &&& 1))))]) (ci := 3) (v := .int 1) (ty := .boolean) (C := R_U) (T := T_U) (N := 5) hx hb hts (fun w h => List.mem_cons_of_mem _ (iw_U w h)) ty_U tyok_U nm_U hown hK.1 hw 0 rfl rfl 4 (by decide) (hg gm_103) (fun _ h9 => h9) rfl (by decide +kernel) rfl rfl (Nat.le_of_ble_eq_true rfl) rfl d_U_tell_31 (fun H locs hw => ?_)
    refine lv_goto (tgt := 53) hx hb d_U_tell_34 (by decide) ?_
    exact hE (U_conflict, 1, (upd U_told (p1 >>> ((1 : Int32) &&& 31)).toNatClampNeg (p2 ^^^ (p1 &&& 1)))) _ _ _ _ h hw d_U_tell_53
def rm_U_toldOf : Room := { frames := 0, cells := 0, slots := 0, locals := 0 }
set_option maxHeartbeats 4000000 in
set_option maxRecDepth 100000 in
theorem c_U_toldOf (l : Launch) (D : va_G) (cA : Nat → ClassId) (ad : Nat → Nat) (sz : Nat) (U_conflict : Int32) (U_changed : Int32) (U_told : (Nat → Int32)) (p1 : Int32) (post : Int32 → Prop) (h : wp_U_toldOf U_told p1 post) : Met l y_U_toldOf w_U_toldOf rm_U_toldOf (mPc D cA [.ref (ad 11), .int p1] [(k_U cA ad U_conflict U_changed), (k_U_told cA ad U_told)] sz) (va_Qi (fun (r : Int32) (_ : Unit) => post r) (mB D (va_A [(k_U cA ad U_conflict U_changed), (k_U_told cA ad U_told)] sz) (fun (_ : Unit) => [(k_U cA ad U_conflict U_changed), (k_U_told cA ad U_told)])) (va_A [(k_U cA ad U_conflict U_changed), (k_U_told cA ad U_told)] sz)) 0 0 (va_A [(k_U cA ad U_conflict U_changed), (k_U_told cA ad U_told)] sz) := by
  refine m_methI (by decide) rfl (Nat.le_of_ble_eq_true rfl) ?_
  intro p e s m below meth c A Q ls hx hb hml hown hts hK hA hw hl hE
  have hl : lv_has ls 3 [(0, .ref (ad 11)), (1, .int p1)] := hl
  have hown : s.vm.findClass R_U = some m.cls := hown
  have hg : ∀ {w : Cond}, w ∈ gw → w.before _ s = true := fun h => hts _ (List.mem_cons_of_mem _ h)
  unfold wp_U_toldOf at h
  refine lv_aload_n hx hb d_U_toldOf_0 rfl (lv_at hl 0 rfl) ?_
  refine va_get (D := D) (ci := 3) (v := .ref (ad 12)) (C := R_U) (T := T_U) (N := 5) hx hb hts (fun w h => List.mem_cons_of_mem _ (iw_U w h)) hown hK.1 hw.1 0 rfl rfl 2 (by decide) (hg gm_100) (fun _ h9 => h9) rfl d_U_toldOf_1 ?_
  refine lv_iload_n hx hb d_U_toldOf_4 rfl (lv_at hl 1 rfl) ?_
  refine lv_iconst (v := 1) hx hb d_U_toldOf_5 (by decide) ?_
  refine lv_ishr hx hb d_U_toldOf_6 ?_
  refine va_iald hx hb hK.1 hw.1 1 0 rfl rfl h.1 d_U_toldOf_7 ?_
  have h := h.2
  refine lv_istore_n (lv' := [(2, .int (U_told (p1 >>> ((1 : Int32) &&& 31)).toNatClampNeg)), (0, .ref (ad 11)), (1, .int p1)]) hx hb d_U_toldOf_8 rfl hl (by decide) rfl (fun ls hl => ?_)
  refine lv_iload_n hx hb d_U_toldOf_9 rfl (lv_at hl 0 rfl) ?_
  refine lv_iconst (v := 2) hx hb d_U_toldOf_10 (by decide) ?_
  refine lv_icmp_ne (tgt := 18) hx hb d_U_toldOf_11 (by decide) (fun hc => ?_) (fun hc => ?_)
  · have h := h.2 hc
    refine lv_iload_n hx hb d_U_toldOf_18 rfl (lv_at hl 0 rfl) ?_
    refine lv_iload_n hx hb d_U_toldOf_19 rfl (lv_at hl 2 rfl) ?_
    refine lv_iconst (v := 1) hx hb d_U_toldOf_20 (by decide) ?_
    refine lv_iand hx hb d_U_toldOf_21 ?_
    refine lv_ixor hx hb d_U_toldOf_22 ?_
    exact hE ((U_told (p1 >>> ((1 : Int32) &&& 31)).toNatClampNeg) ^^^ (p1 &&& 1)) () _ _ _ _ h hw d_U_toldOf_23
  · have h := h.1 hc
    refine lv_iconst (v := 2) hx hb d_U_toldOf_14 (by decide) ?_
    refine lv_goto (tgt := 23) hx hb d_U_toldOf_15 (by decide) ?_
    exact hE 2 () _ _ _ _ h hw d_U_toldOf_23
def rm_U_stepEither : Room := { frames := 1, cells := 0, slots := 0, locals := 24 }
set_option maxHeartbeats 4000000 in
set_option maxRecDepth 100000 in
theorem c_U_stepEither (l : Launch) (D : va_G) (cA : Nat → ClassId) (ad : Nat → Nat) (sz : Nat) (U_conflict : Int32) (U_changed : Int32) (U_told : (Nat → Int32)) (p1 : Int32) (p2 : Int32) (p3 : Int32) (post : Int32 → Int32 → (Nat → Int32) → Prop) (h : wp_U_stepEither U_conflict U_changed U_told p1 p2 p3 post) : Met l y_U_stepEither w_U_stepEither rm_U_stepEither (mPc D cA [.ref (ad 11), .int p1, .int p2, .int p3] [(k_U cA ad U_conflict U_changed), (k_U_told cA ad U_told)] sz) (va_Qv (fun (u : Int32 × Int32 × (Nat → Int32)) => post u.1 u.2.1 u.2.2) (mB D (va_A [(k_U cA ad U_conflict U_changed), (k_U_told cA ad U_told)] sz) (fun (u : Int32 × Int32 × (Nat → Int32)) => [(k_U cA ad u.1 u.2.1), (k_U_told cA ad u.2.2)])) (va_A [(k_U cA ad U_conflict U_changed), (k_U_told cA ad U_told)] sz)) 0 0 (va_A [(k_U cA ad U_conflict U_changed), (k_U_told cA ad U_told)] sz) := by
  refine m_methV (by decide) rfl (Nat.le_of_ble_eq_true rfl) ?_
  intro p e s m below meth c A Q ls hx hb hml hown hts hK hA hw hl hE
  have hl : lv_has ls 7 [(0, .ref (ad 11)), (1, .int p1), (2, .int p2), (3, .int p3)] := hl
  have hown : s.vm.findClass R_U = some m.cls := hown
  have hg : ∀ {w : Cond}, w ∈ gw → w.before _ s = true := fun h => hts _ (List.mem_cons_of_mem _ h)
  have j68 : ∀ (x4 : Int32) (x6 : Int32) (U_conflict : Int32) (U_changed : Int32) (U_told : (Nat → Int32)) (H : Heap) (locs : List Loc) (ls : Array Slot), s_U_stepEither_68 p1 p2 p3 post x4 x6 U_conflict U_changed U_told → mW D A s.heap [(k_U cA ad U_conflict U_changed), (k_U_told cA ad U_told)] H locs → lv_has ls 7 [(0, .ref (ad 11)), (2, .int p2), (4, .int x4), (6, .int x6)] → W p l e rm_U_stepEither s m [.ref (ad 11), .int p1, .int p2, .int p3].toArray below meth c H locs 0 0 Q (F0 m 68 ls []) := by
    intro x4 x6 U_conflict U_changed U_told H locs ls h hw hl
    unfold s_U_stepEither_68 at h
    refine lv_iload hx hb d_U_stepEither_68 (lv_at hl 2 rfl) ?_
    refine lv_iconst (v := 2) hx hb d_U_stepEither_70 (by decide) ?_
    refine lv_icmp_eq (tgt := 90) hx hb d_U_stepEither_71 (by decide) (fun hc => ?_) (fun hc => ?_)
    · have h := h.1 hc
      exact hE (U_conflict, U_changed, U_told) _ _ _ _ h hw d_U_stepEither_90
    · have h := h.2 hc
      refine lv_iload hx hb d_U_stepEither_74 (lv_at hl 3 rfl) ?_
      refine lv_iconst (v := 2) hx hb d_U_stepEither_76 (by decide) ?_
      refine lv_icmp_eq (tgt := 90) hx hb d_U_stepEither_77 (by decide) (fun hc => ?_) (fun hc => ?_)
      · have h := h.1 hc
        exact hE (U_conflict, U_changed, U_told) _ _ _ _ h hw d_U_stepEither_90
      · have h := h.2 hc
        refine lv_aload_n hx hb d_U_stepEither_80 rfl (lv_at hl 0 rfl) ?_
        refine lv_iload_n hx hb d_U_stepEither_81 rfl (lv_at hl 1 rfl) ?_
        refine lv_iload hx hb d_U_stepEither_82 (lv_at hl 2 rfl) ?_
        refine lv_iload hx hb d_U_stepEither_84 (lv_at hl 3 rfl) ?_
        refine lv_ixor hx hb d_U_stepEither_86 ?_
        refine m_callv (hr := va_runV (As := [.int p2, .int (x4 ^^^ x6)]) (rest := []) ⟨hx, hb, hml, hown, hts⟩ (c_U_tell l D cA ad _ U_conflict U_changed U_told p2 (x4 ^^^ x6) _ h) (cwV 2 hts (ginV gm_428 gm_430 gs_27 gm_4 gm_431) rfl rfl rfl (by decide +kernel) ⟨Nat.le_of_ble_eq_true rfl, Nat.le_of_ble_eq_true rfl⟩) (m_preV 3 0 rfl rfl hK hw [0, 1] rfl rfl) rfl rfl hl.1 rfl (lv_room (Nat.le_of_ble_eq_true rfl)) d_U_stepEither_87 ⟨Nat.zero_le _, Nat.zero_le _⟩) (w2 := (fun (u : Int32 × Int32 × (Nat → Int32)) => [(k_U cA ad u.1 u.2.1), (k_U_told cA ad u.2.2)])) (wr := []) hw hA [0, 1] [] [0, 1] rfl rfl (by decide) (by decide) (by decide) (fun _ => rfl) (fun u H locs hw h => ?_)
        obtain ⟨U_conflict_87, U_changed_87, U_told_87⟩ := u
        have hw : mW D A s.heap [(k_U cA ad U_conflict_87 U_changed_87), (k_U_told cA ad U_told_87)] H locs := hw
        exact hE (U_conflict_87, U_changed_87, U_told_87) _ _ _ _ h hw d_U_stepEither_90
  have j46 : ∀ (x4 : Int32) (x5 : Int32) (x6 : Int32) (U_conflict : Int32) (U_changed : Int32) (U_told : (Nat → Int32)) (H : Heap) (locs : List Loc) (ls : Array Slot), s_U_stepEither_46 p1 p2 p3 post x4 x5 x6 U_conflict U_changed U_told → mW D A s.heap [(k_U cA ad U_conflict U_changed), (k_U_told cA ad U_told)] H locs → lv_has ls 7 [(0, .ref (ad 11)), (2, .int p2), (3, .int p3), (4, .int x4), (5, .int x5), (6, .int x6)] → W p l e rm_U_stepEither s m [.ref (ad 11), .int p1, .int p2, .int p3].toArray below meth c H locs 0 0 Q (F0 m 46 ls []) := by
    intro x4 x5 x6 U_conflict U_changed U_told H locs ls h hw hl
    unfold s_U_stepEither_46 at h
    refine lv_iload hx hb d_U_stepEither_46 (lv_at hl 3 rfl) ?_
    refine lv_iconst (v := 2) hx hb d_U_stepEither_48 (by decide) ?_
    refine lv_icmp_eq (tgt := 68) hx hb d_U_stepEither_49 (by decide) (fun hc => ?_) (fun hc => ?_)
    · have h := h.1 hc
      exact j68 _ _ _ _ _ _ _ _ h hw (lv_sub hl [0, 1, 3, 5] rfl)
    · have h := h.2 hc
      refine lv_iload hx hb d_U_stepEither_52 (lv_at hl 4 rfl) ?_
      refine lv_iconst (v := 2) hx hb d_U_stepEither_54 (by decide) ?_
      refine lv_icmp_eq (tgt := 68) hx hb d_U_stepEither_55 (by decide) (fun hc => ?_) (fun hc => ?_)
      · have h := h.1 hc
        exact j68 _ _ _ _ _ _ _ _ h hw (lv_sub hl [0, 1, 3, 5] rfl)
      · have h := h.2 hc
        refine lv_aload_n hx hb d_U_stepEither_58 rfl (lv_at hl 0 rfl) ?_
        refine lv_iload_n hx hb d_U_stepEither_59 rfl (lv_at hl 2 rfl) ?_
        refine lv_iload hx hb d_U_stepEither_60 (lv_at hl 3 rfl) ?_
        refine lv_iload hx hb d_U_stepEither_62 (lv_at hl 4 rfl) ?_
        refine lv_ixor hx hb d_U_stepEither_64 ?_
        refine m_callv (hr := va_runV (As := [.int p3, .int (x4 ^^^ x5)]) (rest := []) ⟨hx, hb, hml, hown, hts⟩ (c_U_tell l D cA ad _ U_conflict U_changed U_told p3 (x4 ^^^ x5) _ h) (cwV 2 hts (ginV gm_428 gm_430 gs_27 gm_4 gm_431) rfl rfl rfl (by decide +kernel) ⟨Nat.le_of_ble_eq_true rfl, Nat.le_of_ble_eq_true rfl⟩) (m_preV 3 0 rfl rfl hK hw [0, 1] rfl rfl) rfl rfl hl.1 rfl (lv_room (Nat.le_of_ble_eq_true rfl)) d_U_stepEither_65 ⟨Nat.zero_le _, Nat.zero_le _⟩) (w2 := (fun (u : Int32 × Int32 × (Nat → Int32)) => [(k_U cA ad u.1 u.2.1), (k_U_told cA ad u.2.2)])) (wr := []) hw hA [0, 1] [] [0, 1] rfl rfl (by decide) (by decide) (by decide) (fun _ => rfl) (fun u H locs hw h => ?_)
        obtain ⟨U_conflict_65, U_changed_65, U_told_65⟩ := u
        have hw : mW D A s.heap [(k_U cA ad U_conflict_65 U_changed_65), (k_U_told cA ad U_told_65)] H locs := hw
        exact j68 _ _ _ _ _ _ _ _ h hw (lv_sub hl [0, 1, 3, 5] rfl)
  unfold wp_U_stepEither at h
  refine lv_aload_n hx hb d_U_stepEither_0 rfl (lv_at hl 0 rfl) ?_
  refine va_get (D := D) (ci := 3) (v := .ref (ad 12)) (C := R_U) (T := T_U) (N := 5) hx hb hts (fun w h => List.mem_cons_of_mem _ (iw_U w h)) hown hK.1 hw.1 0 rfl rfl 2 (by decide) (hg gm_100) (fun _ h9 => h9) rfl d_U_stepEither_1 ?_
  refine lv_iload_n hx hb d_U_stepEither_4 rfl (lv_at hl 1 rfl) ?_
  refine va_iald hx hb hK.1 hw.1 1 0 rfl rfl h.1 d_U_stepEither_5 ?_
  have h := h.2
  refine lv_istore (lv' := [(4, .int (U_told p1.toNatClampNeg)), (0, .ref (ad 11)), (1, .int p1), (2, .int p2), (3, .int p3)]) hx hb d_U_stepEither_6 hl (by decide) rfl (fun ls hl => ?_)
  refine lv_aload_n hx hb d_U_stepEither_8 rfl (lv_at hl 1 rfl) ?_
  refine lv_iload_n hx hb d_U_stepEither_9 rfl (lv_at hl 3 rfl) ?_
  refine m_calli (hr := va_runV (As := [.int p2]) (rest := []) ⟨hx, hb, hml, hown, hts⟩ (c_U_toldOf l D cA ad _ U_conflict U_changed U_told p2 _ h) (cwV 1 hts (ginV gm_440 gm_442 gs_30 gm_4 gm_443) rfl rfl rfl (by decide +kernel) ⟨Nat.le_of_ble_eq_true rfl, Nat.le_of_ble_eq_true rfl⟩) (m_preV 3 0 rfl rfl hK hw [0, 1] rfl rfl) rfl rfl hl.1 rfl (lv_room (Nat.le_of_ble_eq_true rfl)) d_U_stepEither_10 ⟨Nat.zero_le _, Nat.zero_le _⟩) (w2 := (fun (_ : Unit) => [(k_U cA ad U_conflict U_changed), (k_U_told cA ad U_told)])) (wr := []) hw hA [0, 1] [] [0, 1] rfl rfl (by decide) (by decide) (by decide) (fun _ => rfl) (fun r10 u H locs hw h => ?_)
  refine lv_istore (lv' := [(5, .int r10), (4, .int (U_told p1.toNatClampNeg)), (0, .ref (ad 11)), (1, .int p1), (2, .int p2), (3, .int p3)]) hx hb d_U_stepEither_13 hl (by decide) rfl (fun ls hl => ?_)
  refine lv_aload_n hx hb d_U_stepEither_15 rfl (lv_at hl 2 rfl) ?_
  refine lv_iload_n hx hb d_U_stepEither_16 rfl (lv_at hl 5 rfl) ?_
  refine m_calli (hr := va_runV (As := [.int p3]) (rest := []) ⟨hx, hb, hml, hown, hts⟩ (c_U_toldOf l D cA ad _ U_conflict U_changed U_told p3 _ h) (cwV 1 hts (ginV gm_440 gm_442 gs_30 gm_4 gm_443) rfl rfl rfl (by decide +kernel) ⟨Nat.le_of_ble_eq_true rfl, Nat.le_of_ble_eq_true rfl⟩) (m_preV 3 0 rfl rfl hK hw [0, 1] rfl rfl) rfl rfl hl.1 rfl (lv_room (Nat.le_of_ble_eq_true rfl)) d_U_stepEither_17 ⟨Nat.zero_le _, Nat.zero_le _⟩) (w2 := (fun (_ : Unit) => [(k_U cA ad U_conflict U_changed), (k_U_told cA ad U_told)])) (wr := []) hw hA [0, 1] [] [0, 1] rfl rfl (by decide) (by decide) (by decide) (fun _ => rfl) (fun r17 u H locs hw h => ?_)
  refine lv_istore (lv' := [(6, .int r17), (5, .int r10), (4, .int (U_told p1.toNatClampNeg)), (0, .ref (ad 11)), (1, .int p1), (2, .int p2), (3, .int p3)]) hx hb d_U_stepEither_20 hl (by decide) rfl (fun ls hl => ?_)
  refine lv_iload hx hb d_U_stepEither_22 (lv_at hl 1 rfl) ?_
  refine lv_iconst (v := 2) hx hb d_U_stepEither_24 (by decide) ?_
  refine lv_icmp_eq (tgt := 46) hx hb d_U_stepEither_25 (by decide) (fun hc => ?_) (fun hc => ?_)
  · have h := h.1 hc
    exact j46 _ _ _ _ _ _ _ _ _ h hw (lv_sub hl [3, 5, 6, 2, 1, 0] rfl)
  · have h := h.2 hc
    refine lv_iload hx hb d_U_stepEither_28 (lv_at hl 0 rfl) ?_
    refine lv_iconst (v := 2) hx hb d_U_stepEither_30 (by decide) ?_
    refine lv_icmp_eq (tgt := 46) hx hb d_U_stepEither_31 (by decide) (fun hc => ?_) (fun hc => ?_)
    · have h := h.1 hc
      exact j46 _ _ _ _ _ _ _ _ _ h hw (lv_sub hl [3, 5, 6, 2, 1, 0] rfl)
    · have h := h.2 hc
      refine lv_aload_n hx hb d_U_stepEither_34 rfl (lv_at hl 3 rfl) ?_
      refine lv_iconst (v := 2) hx hb d_U_stepEither_35 (by decide) ?_
      refine lv_iload_n hx hb d_U_stepEither_36 rfl (lv_at hl 4 rfl) ?_
      refine lv_imul hx hb d_U_stepEither_37 ?_
      refine lv_iload hx hb d_U_stepEither_38 (lv_at hl 1 rfl) ?_
      refine lv_iload hx hb d_U_stepEither_40 (lv_at hl 0 rfl) ?_
      refine lv_ixor hx hb d_U_stepEither_42 ?_
      refine m_callv (hr := va_runV (As := [.int (2 * p1), .int (r10 ^^^ r17)]) (rest := []) ⟨hx, hb, hml, hown, hts⟩ (c_U_tell l D cA ad _ U_conflict U_changed U_told (2 * p1) (r10 ^^^ r17) _ h) (cwV 2 hts (ginV gm_428 gm_430 gs_27 gm_4 gm_431) rfl rfl rfl (by decide +kernel) ⟨Nat.le_of_ble_eq_true rfl, Nat.le_of_ble_eq_true rfl⟩) (m_preV 3 0 rfl rfl hK hw [0, 1] rfl rfl) rfl rfl hl.1 rfl (lv_room (Nat.le_of_ble_eq_true rfl)) d_U_stepEither_43 ⟨Nat.zero_le _, Nat.zero_le _⟩) (w2 := (fun (u : Int32 × Int32 × (Nat → Int32)) => [(k_U cA ad u.1 u.2.1), (k_U_told cA ad u.2.2)])) (wr := []) hw hA [0, 1] [] [0, 1] rfl rfl (by decide) (by decide) (by decide) (fun _ => rfl) (fun u H locs hw h => ?_)
      obtain ⟨U_conflict_43, U_changed_43, U_told_43⟩ := u
      have hw : mW D A s.heap [(k_U cA ad U_conflict_43 U_changed_43), (k_U_told cA ad U_told_43)] H locs := hw
      exact j46 _ _ _ _ _ _ _ _ _ h hw (lv_sub hl [3, 5, 6, 2, 1, 0] rfl)
def rm_U_stepAnd : Room := { frames := 1, cells := 0, slots := 0, locals := 24 }
set_option maxHeartbeats 4000000 in
set_option maxRecDepth 100000 in
theorem c_U_stepAnd (l : Launch) (D : va_G) (cA : Nat → ClassId) (ad : Nat → Nat) (sz : Nat) (U_conflict : Int32) (U_changed : Int32) (U_told : (Nat → Int32)) (p1 : Int32) (p2 : Int32) (p3 : Int32) (post : Int32 → Int32 → (Nat → Int32) → Prop) (h : wp_U_stepAnd U_conflict U_changed U_told p1 p2 p3 post) : Met l y_U_stepAnd w_U_stepAnd rm_U_stepAnd (mPc D cA [.ref (ad 11), .int p1, .int p2, .int p3] [(k_U cA ad U_conflict U_changed), (k_U_told cA ad U_told)] sz) (va_Qv (fun (u : Int32 × Int32 × (Nat → Int32)) => post u.1 u.2.1 u.2.2) (mB D (va_A [(k_U cA ad U_conflict U_changed), (k_U_told cA ad U_told)] sz) (fun (u : Int32 × Int32 × (Nat → Int32)) => [(k_U cA ad u.1 u.2.1), (k_U_told cA ad u.2.2)])) (va_A [(k_U cA ad U_conflict U_changed), (k_U_told cA ad U_told)] sz)) 0 0 (va_A [(k_U cA ad U_conflict U_changed), (k_U_told cA ad U_told)] sz) := by
  refine m_methV (by decide) rfl (Nat.le_of_ble_eq_true rfl) ?_
  intro p e s m below meth c A Q ls hx hb hml hown hts hK hA hw hl hE
  have hl : lv_has ls 7 [(0, .ref (ad 11)), (1, .int p1), (2, .int p2), (3, .int p3)] := hl
  have hown : s.vm.findClass R_U = some m.cls := hown
  have hg : ∀ {w : Cond}, w ∈ gw → w.before _ s = true := fun h => hts _ (List.mem_cons_of_mem _ h)
  have j95 : ∀ (x4 : Int32) (x6 : Int32) (U_conflict : Int32) (U_changed : Int32) (U_told : (Nat → Int32)) (H : Heap) (locs : List Loc) (ls : Array Slot), s_U_stepAnd_95 p1 p2 p3 post x4 x6 U_conflict U_changed U_told → mW D A s.heap [(k_U cA ad U_conflict U_changed), (k_U_told cA ad U_told)] H locs → lv_has ls 7 [(0, .ref (ad 11)), (2, .int p2), (4, .int x4), (6, .int x6)] → W p l e rm_U_stepAnd s m [.ref (ad 11), .int p1, .int p2, .int p3].toArray below meth c H locs 0 0 Q (F0 m 95 ls []) := by
    intro x4 x6 U_conflict U_changed U_told H locs ls h hw hl
    unfold s_U_stepAnd_95 at h
    refine lv_iload hx hb d_U_stepAnd_95 (lv_at hl 2 rfl) ?_
    refine lv_if_ne (tgt := 112) hx hb d_U_stepAnd_97 (by decide) (fun hc => ?_) (fun hc => ?_)
    · have h := h.2 hc
      exact hE (U_conflict, U_changed, U_told) _ _ _ _ h hw d_U_stepAnd_112
    · have h := h.1 hc
      refine lv_iload hx hb d_U_stepAnd_100 (lv_at hl 3 rfl) ?_
      refine lv_iconst (v := 1) hx hb d_U_stepAnd_102 (by decide) ?_
      refine lv_icmp_ne (tgt := 112) hx hb d_U_stepAnd_103 (by decide) (fun hc => ?_) (fun hc => ?_)
      · have h := h.2 hc
        exact hE (U_conflict, U_changed, U_told) _ _ _ _ h hw d_U_stepAnd_112
      · have h := h.1 hc
        refine lv_aload_n hx hb d_U_stepAnd_106 rfl (lv_at hl 0 rfl) ?_
        refine lv_iload_n hx hb d_U_stepAnd_107 rfl (lv_at hl 1 rfl) ?_
        refine lv_iconst (v := 0) hx hb d_U_stepAnd_108 (by decide) ?_
        refine m_callv (hr := va_runV (As := [.int p2, .int 0]) (rest := []) ⟨hx, hb, hml, hown, hts⟩ (c_U_tell l D cA ad _ U_conflict U_changed U_told p2 0 _ h) (cwV 2 hts (ginV gm_428 gm_430 gs_27 gm_4 gm_431) rfl rfl rfl (by decide +kernel) ⟨Nat.le_of_ble_eq_true rfl, Nat.le_of_ble_eq_true rfl⟩) (m_preV 3 0 rfl rfl hK hw [0, 1] rfl rfl) rfl rfl hl.1 rfl (lv_room (Nat.le_of_ble_eq_true rfl)) d_U_stepAnd_109 ⟨Nat.zero_le _, Nat.zero_le _⟩) (w2 := (fun (u : Int32 × Int32 × (Nat → Int32)) => [(k_U cA ad u.1 u.2.1), (k_U_told cA ad u.2.2)])) (wr := []) hw hA [0, 1] [] [0, 1] rfl rfl (by decide) (by decide) (by decide) (fun _ => rfl) (fun u H locs hw h => ?_)
        obtain ⟨U_conflict_109, U_changed_109, U_told_109⟩ := u
        have hw : mW D A s.heap [(k_U cA ad U_conflict_109 U_changed_109), (k_U_told cA ad U_told_109)] H locs := hw
        exact hE (U_conflict_109, U_changed_109, U_told_109) _ _ _ _ h hw d_U_stepAnd_112
  have j78 : ∀ (x4 : Int32) (x5 : Int32) (x6 : Int32) (U_conflict : Int32) (U_changed : Int32) (U_told : (Nat → Int32)) (H : Heap) (locs : List Loc) (ls : Array Slot), s_U_stepAnd_78 p1 p2 p3 post x4 x5 x6 U_conflict U_changed U_told → mW D A s.heap [(k_U cA ad U_conflict U_changed), (k_U_told cA ad U_told)] H locs → lv_has ls 7 [(0, .ref (ad 11)), (2, .int p2), (3, .int p3), (4, .int x4), (5, .int x5), (6, .int x6)] → W p l e rm_U_stepAnd s m [.ref (ad 11), .int p1, .int p2, .int p3].toArray below meth c H locs 0 0 Q (F0 m 78 ls []) := by
    intro x4 x5 x6 U_conflict U_changed U_told H locs ls h hw hl
    unfold s_U_stepAnd_78 at h
    refine lv_iload hx hb d_U_stepAnd_78 (lv_at hl 3 rfl) ?_
    refine lv_if_ne (tgt := 95) hx hb d_U_stepAnd_80 (by decide) (fun hc => ?_) (fun hc => ?_)
    · have h := h.2 hc
      exact j95 _ _ _ _ _ _ _ _ h hw (lv_sub hl [0, 1, 3, 5] rfl)
    · have h := h.1 hc
      refine lv_iload hx hb d_U_stepAnd_83 (lv_at hl 4 rfl) ?_
      refine lv_iconst (v := 1) hx hb d_U_stepAnd_85 (by decide) ?_
      refine lv_icmp_ne (tgt := 95) hx hb d_U_stepAnd_86 (by decide) (fun hc => ?_) (fun hc => ?_)
      · have h := h.2 hc
        exact j95 _ _ _ _ _ _ _ _ h hw (lv_sub hl [0, 1, 3, 5] rfl)
      · have h := h.1 hc
        refine lv_aload_n hx hb d_U_stepAnd_89 rfl (lv_at hl 0 rfl) ?_
        refine lv_iload_n hx hb d_U_stepAnd_90 rfl (lv_at hl 2 rfl) ?_
        refine lv_iconst (v := 0) hx hb d_U_stepAnd_91 (by decide) ?_
        refine m_callv (hr := va_runV (As := [.int p3, .int 0]) (rest := []) ⟨hx, hb, hml, hown, hts⟩ (c_U_tell l D cA ad _ U_conflict U_changed U_told p3 0 _ h) (cwV 2 hts (ginV gm_428 gm_430 gs_27 gm_4 gm_431) rfl rfl rfl (by decide +kernel) ⟨Nat.le_of_ble_eq_true rfl, Nat.le_of_ble_eq_true rfl⟩) (m_preV 3 0 rfl rfl hK hw [0, 1] rfl rfl) rfl rfl hl.1 rfl (lv_room (Nat.le_of_ble_eq_true rfl)) d_U_stepAnd_92 ⟨Nat.zero_le _, Nat.zero_le _⟩) (w2 := (fun (u : Int32 × Int32 × (Nat → Int32)) => [(k_U cA ad u.1 u.2.1), (k_U_told cA ad u.2.2)])) (wr := []) hw hA [0, 1] [] [0, 1] rfl rfl (by decide) (by decide) (by decide) (fun _ => rfl) (fun u H locs hw h => ?_)
        obtain ⟨U_conflict_92, U_changed_92, U_told_92⟩ := u
        have hw : mW D A s.heap [(k_U cA ad U_conflict_92 U_changed_92), (k_U_told cA ad U_told_92)] H locs := hw
        exact j95 _ _ _ _ _ _ _ _ h hw (lv_sub hl [0, 1, 3, 5] rfl)
  have j60 : ∀ (x4 : Int32) (x5 : Int32) (x6 : Int32) (U_conflict : Int32) (U_changed : Int32) (U_told : (Nat → Int32)) (H : Heap) (locs : List Loc) (ls : Array Slot), s_U_stepAnd_60 p1 p2 p3 post x4 x5 x6 U_conflict U_changed U_told → mW D A s.heap [(k_U cA ad U_conflict U_changed), (k_U_told cA ad U_told)] H locs → lv_has ls 7 [(0, .ref (ad 11)), (2, .int p2), (3, .int p3), (4, .int x4), (5, .int x5), (6, .int x6)] → W p l e rm_U_stepAnd s m [.ref (ad 11), .int p1, .int p2, .int p3].toArray below meth c H locs 0 0 Q (F0 m 60 ls []) := by
    intro x4 x5 x6 U_conflict U_changed U_told H locs ls h hw hl
    unfold s_U_stepAnd_60 at h
    refine lv_iload hx hb d_U_stepAnd_60 (lv_at hl 3 rfl) ?_
    refine lv_iconst (v := 1) hx hb d_U_stepAnd_62 (by decide) ?_
    refine lv_icmp_ne (tgt := 78) hx hb d_U_stepAnd_63 (by decide) (fun hc => ?_) (fun hc => ?_)
    · have h := h.2 hc
      exact j78 _ _ _ _ _ _ _ _ _ h hw (lv_sub hl [0, 1, 2, 3, 4, 5] rfl)
    · have h := h.1 hc
      refine lv_aload_n hx hb d_U_stepAnd_66 rfl (lv_at hl 0 rfl) ?_
      refine lv_iload_n hx hb d_U_stepAnd_67 rfl (lv_at hl 1 rfl) ?_
      refine lv_iconst (v := 1) hx hb d_U_stepAnd_68 (by decide) ?_
      refine m_callv (hr := va_runV (As := [.int p2, .int 1]) (rest := []) ⟨hx, hb, hml, hown, hts⟩ (c_U_tell l D cA ad _ U_conflict U_changed U_told p2 1 _ h) (cwV 2 hts (ginV gm_428 gm_430 gs_27 gm_4 gm_431) rfl rfl rfl (by decide +kernel) ⟨Nat.le_of_ble_eq_true rfl, Nat.le_of_ble_eq_true rfl⟩) (m_preV 3 0 rfl rfl hK hw [0, 1] rfl rfl) rfl rfl hl.1 rfl (lv_room (Nat.le_of_ble_eq_true rfl)) d_U_stepAnd_69 ⟨Nat.zero_le _, Nat.zero_le _⟩) (w2 := (fun (u : Int32 × Int32 × (Nat → Int32)) => [(k_U cA ad u.1 u.2.1), (k_U_told cA ad u.2.2)])) (wr := []) hw hA [0, 1] [] [0, 1] rfl rfl (by decide) (by decide) (by decide) (fun _ => rfl) (fun u H locs hw h => ?_)
      obtain ⟨U_conflict_69, U_changed_69, U_told_69⟩ := u
      have hw : mW D A s.heap [(k_U cA ad U_conflict_69 U_changed_69), (k_U_told cA ad U_told_69)] H locs := hw
      refine lv_aload_n hx hb d_U_stepAnd_72 rfl (lv_at hl 0 rfl) ?_
      refine lv_iload_n hx hb d_U_stepAnd_73 rfl (lv_at hl 2 rfl) ?_
      refine lv_iconst (v := 1) hx hb d_U_stepAnd_74 (by decide) ?_
      refine m_callv (hr := va_runV (As := [.int p3, .int 1]) (rest := []) ⟨hx, hb, hml, hown, hts⟩ (c_U_tell l D cA ad _ U_conflict_69 U_changed_69 U_told_69 p3 1 _ h) (cwV 2 hts (ginV gm_428 gm_430 gs_27 gm_4 gm_431) rfl rfl rfl (by decide +kernel) ⟨Nat.le_of_ble_eq_true rfl, Nat.le_of_ble_eq_true rfl⟩) (m_preV 3 0 rfl rfl hK hw [0, 1] rfl rfl) rfl rfl hl.1 rfl (lv_room (Nat.le_of_ble_eq_true rfl)) d_U_stepAnd_75 ⟨Nat.zero_le _, Nat.zero_le _⟩) (w2 := (fun (u : Int32 × Int32 × (Nat → Int32)) => [(k_U cA ad u.1 u.2.1), (k_U_told cA ad u.2.2)])) (wr := []) hw hA [0, 1] [] [0, 1] rfl rfl (by decide) (by decide) (by decide) (fun _ => rfl) (fun u H locs hw h => ?_)
      obtain ⟨U_conflict_75, U_changed_75, U_told_75⟩ := u
      have hw : mW D A s.heap [(k_U cA ad U_conflict_75 U_changed_75), (k_U_told cA ad U_told_75)] H locs := hw
      exact j78 _ _ _ _ _ _ _ _ _ h hw (lv_sub hl [0, 1, 2, 3, 4, 5] rfl)
  have j40 : ∀ (x4 : Int32) (x5 : Int32) (x6 : Int32) (U_conflict : Int32) (U_changed : Int32) (U_told : (Nat → Int32)) (H : Heap) (locs : List Loc) (ls : Array Slot), s_U_stepAnd_40 p1 p2 p3 post x4 x5 x6 U_conflict U_changed U_told → mW D A s.heap [(k_U cA ad U_conflict U_changed), (k_U_told cA ad U_told)] H locs → lv_has ls 7 [(0, .ref (ad 11)), (1, .int p1), (2, .int p2), (3, .int p3), (4, .int x4), (5, .int x5), (6, .int x6)] → W p l e rm_U_stepAnd s m [.ref (ad 11), .int p1, .int p2, .int p3].toArray below meth c H locs 0 0 Q (F0 m 40 ls []) := by
    intro x4 x5 x6 U_conflict U_changed U_told H locs ls h hw hl
    unfold s_U_stepAnd_40 at h
    refine lv_iload hx hb d_U_stepAnd_40 (lv_at hl 5 rfl) ?_
    refine lv_iconst (v := 1) hx hb d_U_stepAnd_42 (by decide) ?_
    refine lv_icmp_ne (tgt := 60) hx hb d_U_stepAnd_43 (by decide) (fun hc => ?_) (fun hc => ?_)
    · have h := h.2 hc
      exact j60 _ _ _ _ _ _ _ _ _ h hw (lv_sub hl [0, 2, 3, 4, 5, 6] rfl)
    · have h := h.1 hc
      refine lv_iload hx hb d_U_stepAnd_46 (lv_at hl 6 rfl) ?_
      refine lv_iconst (v := 1) hx hb d_U_stepAnd_48 (by decide) ?_
      refine lv_icmp_ne (tgt := 60) hx hb d_U_stepAnd_49 (by decide) (fun hc => ?_) (fun hc => ?_)
      · have h := h.2 hc
        exact j60 _ _ _ _ _ _ _ _ _ h hw (lv_sub hl [0, 2, 3, 4, 5, 6] rfl)
      · have h := h.1 hc
        refine lv_aload_n hx hb d_U_stepAnd_52 rfl (lv_at hl 0 rfl) ?_
        refine lv_iconst (v := 2) hx hb d_U_stepAnd_53 (by decide) ?_
        refine lv_iload_n hx hb d_U_stepAnd_54 rfl (lv_at hl 1 rfl) ?_
        refine lv_imul hx hb d_U_stepAnd_55 ?_
        refine lv_iconst (v := 1) hx hb d_U_stepAnd_56 (by decide) ?_
        refine m_callv (hr := va_runV (As := [.int (2 * p1), .int 1]) (rest := []) ⟨hx, hb, hml, hown, hts⟩ (c_U_tell l D cA ad _ U_conflict U_changed U_told (2 * p1) 1 _ h) (cwV 2 hts (ginV gm_428 gm_430 gs_27 gm_4 gm_431) rfl rfl rfl (by decide +kernel) ⟨Nat.le_of_ble_eq_true rfl, Nat.le_of_ble_eq_true rfl⟩) (m_preV 3 0 rfl rfl hK hw [0, 1] rfl rfl) rfl rfl hl.1 rfl (lv_room (Nat.le_of_ble_eq_true rfl)) d_U_stepAnd_57 ⟨Nat.zero_le _, Nat.zero_le _⟩) (w2 := (fun (u : Int32 × Int32 × (Nat → Int32)) => [(k_U cA ad u.1 u.2.1), (k_U_told cA ad u.2.2)])) (wr := []) hw hA [0, 1] [] [0, 1] rfl rfl (by decide) (by decide) (by decide) (fun _ => rfl) (fun u H locs hw h => ?_)
        obtain ⟨U_conflict_57, U_changed_57, U_told_57⟩ := u
        have hw : mW D A s.heap [(k_U cA ad U_conflict_57 U_changed_57), (k_U_told cA ad U_told_57)] H locs := hw
        exact j60 _ _ _ _ _ _ _ _ _ h hw (lv_sub hl [0, 2, 3, 4, 5, 6] rfl)
  have j32 : ∀ (x4 : Int32) (x5 : Int32) (x6 : Int32) (U_conflict : Int32) (U_changed : Int32) (U_told : (Nat → Int32)) (H : Heap) (locs : List Loc) (ls : Array Slot), s_U_stepAnd_32 p1 p2 p3 post x4 x5 x6 U_conflict U_changed U_told → mW D A s.heap [(k_U cA ad U_conflict U_changed), (k_U_told cA ad U_told)] H locs → lv_has ls 7 [(0, .ref (ad 11)), (1, .int p1), (2, .int p2), (3, .int p3), (4, .int x4), (5, .int x5), (6, .int x6)] → W p l e rm_U_stepAnd s m [.ref (ad 11), .int p1, .int p2, .int p3].toArray below meth c H locs 0 0 Q (F0 m 32 ls []) := by
    intro x4 x5 x6 U_conflict U_changed U_told H locs ls h hw hl
    unfold s_U_stepAnd_32 at h
    refine lv_aload_n hx hb d_U_stepAnd_32 rfl (lv_at hl 0 rfl) ?_
    refine lv_iconst (v := 2) hx hb d_U_stepAnd_33 (by decide) ?_
    refine lv_iload_n hx hb d_U_stepAnd_34 rfl (lv_at hl 1 rfl) ?_
    refine lv_imul hx hb d_U_stepAnd_35 ?_
    refine lv_iconst (v := 0) hx hb d_U_stepAnd_36 (by decide) ?_
    refine m_callv (hr := va_runV (As := [.int (2 * p1), .int 0]) (rest := []) ⟨hx, hb, hml, hown, hts⟩ (c_U_tell l D cA ad _ U_conflict U_changed U_told (2 * p1) 0 _ h) (cwV 2 hts (ginV gm_428 gm_430 gs_27 gm_4 gm_431) rfl rfl rfl (by decide +kernel) ⟨Nat.le_of_ble_eq_true rfl, Nat.le_of_ble_eq_true rfl⟩) (m_preV 3 0 rfl rfl hK hw [0, 1] rfl rfl) rfl rfl hl.1 rfl (lv_room (Nat.le_of_ble_eq_true rfl)) d_U_stepAnd_37 ⟨Nat.zero_le _, Nat.zero_le _⟩) (w2 := (fun (u : Int32 × Int32 × (Nat → Int32)) => [(k_U cA ad u.1 u.2.1), (k_U_told cA ad u.2.2)])) (wr := []) hw hA [0, 1] [] [0, 1] rfl rfl (by decide) (by decide) (by decide) (fun _ => rfl) (fun u H locs hw h => ?_)
    obtain ⟨U_conflict_37, U_changed_37, U_told_37⟩ := u
    have hw : mW D A s.heap [(k_U cA ad U_conflict_37 U_changed_37), (k_U_told cA ad U_told_37)] H locs := hw
    exact j40 _ _ _ _ _ _ _ _ _ h hw (lv_sub hl [0, 1, 2, 3, 4, 5, 6] rfl)
  unfold wp_U_stepAnd at h
  refine lv_aload_n hx hb d_U_stepAnd_0 rfl (lv_at hl 0 rfl) ?_
  refine va_get (D := D) (ci := 3) (v := .ref (ad 12)) (C := R_U) (T := T_U) (N := 5) hx hb hts (fun w h => List.mem_cons_of_mem _ (iw_U w h)) hown hK.1 hw.1 0 rfl rfl 2 (by decide) (hg gm_100) (fun _ h9 => h9) rfl d_U_stepAnd_1 ?_
  refine lv_iload_n hx hb d_U_stepAnd_4 rfl (lv_at hl 1 rfl) ?_
  refine va_iald hx hb hK.1 hw.1 1 0 rfl rfl h.1 d_U_stepAnd_5 ?_
  have h := h.2
  refine lv_istore (lv' := [(4, .int (U_told p1.toNatClampNeg)), (0, .ref (ad 11)), (1, .int p1), (2, .int p2), (3, .int p3)]) hx hb d_U_stepAnd_6 hl (by decide) rfl (fun ls hl => ?_)
  refine lv_aload_n hx hb d_U_stepAnd_8 rfl (lv_at hl 1 rfl) ?_
  refine lv_iload_n hx hb d_U_stepAnd_9 rfl (lv_at hl 3 rfl) ?_
  refine m_calli (hr := va_runV (As := [.int p2]) (rest := []) ⟨hx, hb, hml, hown, hts⟩ (c_U_toldOf l D cA ad _ U_conflict U_changed U_told p2 _ h) (cwV 1 hts (ginV gm_440 gm_442 gs_30 gm_4 gm_443) rfl rfl rfl (by decide +kernel) ⟨Nat.le_of_ble_eq_true rfl, Nat.le_of_ble_eq_true rfl⟩) (m_preV 3 0 rfl rfl hK hw [0, 1] rfl rfl) rfl rfl hl.1 rfl (lv_room (Nat.le_of_ble_eq_true rfl)) d_U_stepAnd_10 ⟨Nat.zero_le _, Nat.zero_le _⟩) (w2 := (fun (_ : Unit) => [(k_U cA ad U_conflict U_changed), (k_U_told cA ad U_told)])) (wr := []) hw hA [0, 1] [] [0, 1] rfl rfl (by decide) (by decide) (by decide) (fun _ => rfl) (fun r10 u H locs hw h => ?_)
  refine lv_istore (lv' := [(5, .int r10), (4, .int (U_told p1.toNatClampNeg)), (0, .ref (ad 11)), (1, .int p1), (2, .int p2), (3, .int p3)]) hx hb d_U_stepAnd_13 hl (by decide) rfl (fun ls hl => ?_)
  refine lv_aload_n hx hb d_U_stepAnd_15 rfl (lv_at hl 2 rfl) ?_
  refine lv_iload_n hx hb d_U_stepAnd_16 rfl (lv_at hl 5 rfl) ?_
  refine m_calli (hr := va_runV (As := [.int p3]) (rest := []) ⟨hx, hb, hml, hown, hts⟩ (c_U_toldOf l D cA ad _ U_conflict U_changed U_told p3 _ h) (cwV 1 hts (ginV gm_440 gm_442 gs_30 gm_4 gm_443) rfl rfl rfl (by decide +kernel) ⟨Nat.le_of_ble_eq_true rfl, Nat.le_of_ble_eq_true rfl⟩) (m_preV 3 0 rfl rfl hK hw [0, 1] rfl rfl) rfl rfl hl.1 rfl (lv_room (Nat.le_of_ble_eq_true rfl)) d_U_stepAnd_17 ⟨Nat.zero_le _, Nat.zero_le _⟩) (w2 := (fun (_ : Unit) => [(k_U cA ad U_conflict U_changed), (k_U_told cA ad U_told)])) (wr := []) hw hA [0, 1] [] [0, 1] rfl rfl (by decide) (by decide) (by decide) (fun _ => rfl) (fun r17 u H locs hw h => ?_)
  refine lv_istore (lv' := [(6, .int r17), (5, .int r10), (4, .int (U_told p1.toNatClampNeg)), (0, .ref (ad 11)), (1, .int p1), (2, .int p2), (3, .int p3)]) hx hb d_U_stepAnd_20 hl (by decide) rfl (fun ls hl => ?_)
  refine lv_iload hx hb d_U_stepAnd_22 (lv_at hl 1 rfl) ?_
  refine lv_if_eq (tgt := 32) hx hb d_U_stepAnd_24 (by decide) (fun hc => ?_) (fun hc => ?_)
  · have h := h.1 hc
    exact j32 _ _ _ _ _ _ _ _ _ h hw (lv_sub hl [3, 4, 5, 6, 2, 1, 0] rfl)
  · have h := h.2 hc
    refine lv_iload hx hb d_U_stepAnd_27 (lv_at hl 0 rfl) ?_
    refine lv_if_ne (tgt := 40) hx hb d_U_stepAnd_29 (by decide) (fun hc => ?_) (fun hc => ?_)
    · have h := h.2 hc
      exact j40 _ _ _ _ _ _ _ _ _ h hw (lv_sub hl [3, 4, 5, 6, 2, 1, 0] rfl)
    · have h := h.1 hc
      exact j32 _ _ _ _ _ _ _ _ _ h hw (lv_sub hl [3, 4, 5, 6, 2, 1, 0] rfl)
def rm_U_stepClause : Room := { frames := 1, cells := 0, slots := 0, locals := 24 }
set_option maxHeartbeats 4000000 in
set_option maxRecDepth 100000 in
theorem c_U_stepClause (l : Launch) (D : va_G) (cA : Nat → ClassId) (ad : Nat → Nat) (sz : Nat) (F_size : Int32) (F_sizes : (Nat → Int32)) (F_literals : (Nat → Int32)) (U_conflict : Int32) (U_changed : Int32) (U_told : (Nat → Int32)) (p1 : Int32) (post : Int32 → Int32 → (Nat → Int32) → Prop) (h : wp_U_stepClause F_sizes F_literals U_conflict U_changed U_told p1 post) : Met l y_U_stepClause w_U_stepClause rm_U_stepClause (mPc D cA [.ref (ad 11), .int p1] [(k_F cA ad F_size), (k_F_sizes cA ad F_sizes), (k_F_literals cA ad F_literals), (k_U cA ad U_conflict U_changed), (k_U_told cA ad U_told)] sz) (va_Qv (fun (u : Int32 × Int32 × (Nat → Int32)) => post u.1 u.2.1 u.2.2) (mB D (va_A [(k_F cA ad F_size), (k_F_sizes cA ad F_sizes), (k_F_literals cA ad F_literals), (k_U cA ad U_conflict U_changed), (k_U_told cA ad U_told)] sz) (fun (u : Int32 × Int32 × (Nat → Int32)) => [(k_F cA ad F_size), (k_F_sizes cA ad F_sizes), (k_F_literals cA ad F_literals), (k_U cA ad u.1 u.2.1), (k_U_told cA ad u.2.2)])) (va_A [(k_F cA ad F_size), (k_F_sizes cA ad F_sizes), (k_F_literals cA ad F_literals), (k_U cA ad U_conflict U_changed), (k_U_told cA ad U_told)] sz)) 0 0 (va_A [(k_F cA ad F_size), (k_F_sizes cA ad F_sizes), (k_F_literals cA ad F_literals), (k_U cA ad U_conflict U_changed), (k_U_told cA ad U_told)] sz) := by
  refine m_methV (by decide) rfl (Nat.le_of_ble_eq_true rfl) ?_
  intro p e s m below meth c A Q ls hx hb hml hown hts hK hA hw hl hE
  have hl : lv_has ls 6 [(0, .ref (ad 11)), (1, .int p1)] := hl
  have hown : s.vm.findClass R_U = some m.cls := hown
  have hg : ∀ {w : Cond}, w ∈ gw → w.before _ s = true := fun h => hts _ (List.mem_cons_of_mem _ h)
  obtain ⟨C7, hC7⟩ : ∃ C : Int32 → Int32 → Int32 → Int32 → Int32 → (Nat → Int32) → Prop, ∀ (x2 : Int32) (x3 : Int32) (x4 : Int32) (U_conflict : Int32) (U_changed : Int32) (U_told : (Nat → Int32)), C x2 x3 x4 U_conflict U_changed U_told ↔ (∀ (H : Heap) (locs : List Loc) (ls : Array Slot), mW D A s.heap [(k_F cA ad F_size), (k_F_sizes cA ad F_sizes), (k_F_literals cA ad F_literals), (k_U cA ad U_conflict U_changed), (k_U_told cA ad U_told)] H locs → lv_has ls 6 [(0, .ref (ad 11)), (1, .int p1), (2, .int x2), (3, .int x3), (4, .int x4)] → W p l e rm_U_stepClause s m [.ref (ad 11), .int p1].toArray below meth c H locs 0 0 Q (F0 m 7 ls [])) := ⟨_, fun _ _ _ _ _ _ => Iff.rfl⟩
  have j48 : ∀ (x2 : Int32) (x3 : Int32) (x4 : Int32) (U_conflict : Int32) (U_changed : Int32) (U_told : (Nat → Int32)) (H : Heap) (locs : List Loc) (ls : Array Slot), s_U_stepClause_48 F_sizes F_literals p1 C7 post x2 x3 x4 U_conflict U_changed U_told → mW D A s.heap [(k_F cA ad F_size), (k_F_sizes cA ad F_sizes), (k_F_literals cA ad F_literals), (k_U cA ad U_conflict U_changed), (k_U_told cA ad U_told)] H locs → lv_has ls 6 [(0, .ref (ad 11)), (1, .int p1), (2, .int x2), (3, .int x3), (4, .int x4)] → W p l e rm_U_stepClause s m [.ref (ad 11), .int p1].toArray below meth c H locs 0 0 Q (F0 m 48 ls []) := by
    intro x2 x3 x4 U_conflict U_changed U_told H locs ls h hw hl
    unfold s_U_stepClause_48 at h
    refine lv_iinc (v := (x4 + 1)) (lv' := [(4, .int (x4 + 1)), (0, .ref (ad 11)), (1, .int p1), (2, .int x2), (3, .int x3)]) hx hb d_U_stepClause_48 hl (k := 4) rfl rfl (by decide) rfl (fun ls hl => ?_)
    refine lv_goto (tgt := 7) hx hb d_U_stepClause_51 (by decide) ?_
    exact (hC7 _ _ _ _ _ _).1 h _ _ _ hw (lv_sub hl [1, 2, 3, 4, 0] rfl)
  have hc7 : ∀ (x2 : Int32) (x3 : Int32) (x4 : Int32) (U_conflict : Int32) (U_changed : Int32) (U_told : (Nat → Int32)), s_U_stepClause_7 F_sizes F_literals p1 C7 post x2 x3 x4 U_conflict U_changed U_told → C7 x2 x3 x4 U_conflict U_changed U_told := by
    intro x2 x3 x4 U_conflict U_changed U_told h
    unfold s_U_stepClause_7 at h
    refine (hC7 _ _ _ _ _ _).2 ?_
    intro H locs ls hw hl
    refine lv_iload hx hb d_U_stepClause_7 (lv_at hl 4 rfl) ?_
    refine lv_aload_n hx hb d_U_stepClause_9 rfl (lv_at hl 0 rfl) ?_
    refine va_get (D := D) (ci := 3) (v := .ref (ad 6)) (C := R_U) (T := T_U) (N := 5) hx hb hts (fun w h => List.mem_cons_of_mem _ (iw_U w h)) hown hK.1 hw.1 3 rfl rfl 1 (by decide) (hg gm_99) (fun _ h9 => h9) rfl d_U_stepClause_10 ?_
    refine va_getN (D := D) (ci := 2) (v := .ref (ad 8)) (C := R_F) (T := T_F) (N := 5) hx hb hts (fun w h => List.mem_cons_of_mem _ (iw_F w h)) hown hK.1 hw.1 0 rfl rfl 1 (by decide) (va_Nw.use rfl (hK.2 _ nw_70)) (fun _ h9 => h9) rfl d_U_stepClause_13 ?_
    refine lv_iload_n hx hb d_U_stepClause_16 rfl (lv_at hl 1 rfl) ?_
    refine va_iald hx hb hK.1 hw.1 1 0 rfl rfl h.1 d_U_stepClause_17 ?_
    have h := h.2
    refine lv_icmp_ge (tgt := 54) hx hb d_U_stepClause_18 (by decide) (fun hc => ?_) (fun hc => ?_)
    · have h := h.1 hc
      refine lv_iload_n hx hb d_U_stepClause_54 rfl (lv_at hl 2 rfl) ?_
      refine lv_if_ne (tgt := 66) hx hb d_U_stepClause_55 (by decide) (fun hc => ?_) (fun hc => ?_)
      · have h := h.2 hc
        refine lv_iload_n hx hb d_U_stepClause_66 rfl (lv_at hl 2 rfl) ?_
        refine lv_iconst (v := 1) hx hb d_U_stepClause_67 (by decide) ?_
        refine lv_icmp_ne (tgt := 77) hx hb d_U_stepClause_68 (by decide) (fun hc => ?_) (fun hc => ?_)
        · have h := h.2 hc
          exact hE (U_conflict, U_changed, U_told) _ _ _ _ h hw d_U_stepClause_77
        · have h := h.1 hc
          refine lv_aload_n hx hb d_U_stepClause_71 rfl (lv_at hl 0 rfl) ?_
          refine lv_iload_n hx hb d_U_stepClause_72 rfl (lv_at hl 3 rfl) ?_
          refine lv_iconst (v := 1) hx hb d_U_stepClause_73 (by decide) ?_
          refine m_callv (hr := va_runV (As := [.int x3, .int 1]) (rest := []) ⟨hx, hb, hml, hown, hts⟩ (c_U_tell l D cA ad _ U_conflict U_changed U_told x3 1 _ h) (cwV 2 hts (ginV gm_428 gm_430 gs_27 gm_4 gm_431) rfl rfl rfl (by decide +kernel) ⟨Nat.le_of_ble_eq_true rfl, Nat.le_of_ble_eq_true rfl⟩) (m_preV 3 3 rfl rfl hK hw [3, 4] rfl rfl) rfl rfl hl.1 rfl (lv_room (Nat.le_of_ble_eq_true rfl)) d_U_stepClause_74 ⟨Nat.zero_le _, Nat.zero_le _⟩) (w2 := (fun (u : Int32 × Int32 × (Nat → Int32)) => [(k_F cA ad F_size), (k_F_sizes cA ad F_sizes), (k_F_literals cA ad F_literals), (k_U cA ad u.1 u.2.1), (k_U_told cA ad u.2.2)])) (wr := [(k_F cA ad F_size), (k_F_sizes cA ad F_sizes), (k_F_literals cA ad F_literals)]) hw hA [3, 4] [0, 1, 2] [0, 1, 2, 3, 4] rfl rfl (by decide) (by decide) (by decide) (fun _ => rfl) (fun u H locs hw h => ?_)
          obtain ⟨U_conflict_74, U_changed_74, U_told_74⟩ := u
          have hw : mW D A s.heap [(k_F cA ad F_size), (k_F_sizes cA ad F_sizes), (k_F_literals cA ad F_literals), (k_U cA ad U_conflict_74 U_changed_74), (k_U_told cA ad U_told_74)] H locs := hw
          exact hE (U_conflict_74, U_changed_74, U_told_74) _ _ _ _ h hw d_U_stepClause_77
      · have h := h.1 hc
        refine lv_aload_n hx hb d_U_stepClause_58 rfl (lv_at hl 0 rfl) ?_
        refine lv_iconst (v := 1) hx hb d_U_stepClause_59 (by decide) ?_
        refine m_put (ws' := [(k_F cA ad F_size), (k_F_sizes cA ad F_sizes), (k_F_literals cA ad F_literals), (k_U cA ad 1 U_changed), (k_U_told cA ad U_told)]) (ci := 3) (v := .int 1) (ty := .boolean) (C := R_U) (T := T_U) (N := 5) hx hb hts (fun w h => List.mem_cons_of_mem _ (iw_U w h)) ty_U tyok_U nm_U hown hK.1 hw 3 rfl rfl 3 (by decide) (hg gm_102) (fun _ h9 => h9) rfl (by decide +kernel) rfl rfl (Nat.le_of_ble_eq_true rfl) rfl d_U_stepClause_60 (fun H locs hw => ?_)
        refine lv_goto (tgt := 77) hx hb d_U_stepClause_63 (by decide) ?_
        exact hE (1, U_changed, U_told) _ _ _ _ h hw d_U_stepClause_77
    · have h := h.2 hc
      refine lv_aload_n hx hb d_U_stepClause_21 rfl (lv_at hl 0 rfl) ?_
      refine va_get (D := D) (ci := 3) (v := .ref (ad 6)) (C := R_U) (T := T_U) (N := 5) hx hb hts (fun w h => List.mem_cons_of_mem _ (iw_U w h)) hown hK.1 hw.1 3 rfl rfl 1 (by decide) (hg gm_99) (fun _ h9 => h9) rfl d_U_stepClause_22 ?_
      refine lv_iload_n hx hb d_U_stepClause_25 rfl (lv_at hl 1 rfl) ?_
      refine lv_iload hx hb d_U_stepClause_26 (lv_at hl 4 rfl) ?_
      refine m_calli (hr := va_runVN (As := [.int p1, .int x4]) (rest := []) ⟨hx, hb, hml, hown, hts⟩ (c_F_literalOf l D cA ad _ F_size F_literals p1 x4 _ h) ⟨va_cnB 2 hts (gin gm_235) rfl rfl rfl (hK.2 _ nw_416) (hg gm_3) (by decide +kernel) ⟨Nat.le_of_ble_eq_true rfl, Nat.le_of_ble_eq_true rfl⟩, hg gm_234, hg gs_16⟩ (m_preV 2 0 rfl rfl hK hw [0, 2] rfl rfl) rfl rfl hl.1 rfl (lv_room (Nat.le_of_ble_eq_true rfl)) d_U_stepClause_28 ⟨Nat.zero_le _, Nat.zero_le _⟩) (w2 := (fun (_ : Unit) => [(k_F cA ad F_size), (k_F_sizes cA ad F_sizes), (k_F_literals cA ad F_literals), (k_U cA ad U_conflict U_changed), (k_U_told cA ad U_told)])) (wr := [(k_F_sizes cA ad F_sizes), (k_U cA ad U_conflict U_changed), (k_U_told cA ad U_told)]) hw hA [0, 2] [1, 3, 4] [3, 0, 4, 1, 2] rfl rfl (by decide) (by decide) (by decide) (fun _ => rfl) (fun r28 u H locs hw h => ?_)
      refine lv_istore (lv' := [(5, .int r28), (0, .ref (ad 11)), (1, .int p1), (2, .int x2), (3, .int x3), (4, .int x4)]) hx hb d_U_stepClause_31 hl (by decide) rfl (fun ls hl => ?_)
      refine lv_aload_n hx hb d_U_stepClause_33 rfl (lv_at hl 1 rfl) ?_
      refine lv_iload hx hb d_U_stepClause_34 (lv_at hl 0 rfl) ?_
      refine m_calli (hr := va_runV (As := [.int r28]) (rest := []) ⟨hx, hb, hml, hown, hts⟩ (c_U_toldOf l D cA ad _ U_conflict U_changed U_told r28 _ h) (cwV 1 hts (ginV gm_440 gm_442 gs_30 gm_4 gm_443) rfl rfl rfl (by decide +kernel) ⟨Nat.le_of_ble_eq_true rfl, Nat.le_of_ble_eq_true rfl⟩) (m_preV 3 3 rfl rfl hK hw [3, 4] rfl rfl) rfl rfl hl.1 rfl (lv_room (Nat.le_of_ble_eq_true rfl)) d_U_stepClause_36 ⟨Nat.zero_le _, Nat.zero_le _⟩) (w2 := (fun (_ : Unit) => [(k_F cA ad F_size), (k_F_sizes cA ad F_sizes), (k_F_literals cA ad F_literals), (k_U cA ad U_conflict U_changed), (k_U_told cA ad U_told)])) (wr := [(k_F cA ad F_size), (k_F_sizes cA ad F_sizes), (k_F_literals cA ad F_literals)]) hw hA [3, 4] [0, 1, 2] [0, 1, 2, 3, 4] rfl rfl (by decide) (by decide) (by decide) (fun _ => rfl) (fun r36 u H locs hw h => ?_)
      refine lv_if_eq (tgt := 48) hx hb d_U_stepClause_39 (by decide) (fun hc => ?_) (fun hc => ?_)
      · have h := h.1 hc
        exact j48 _ _ _ _ _ _ _ _ _ h hw (lv_sub hl [1, 2, 3, 4, 5] rfl)
      · have h := h.2 hc
        refine lv_iinc (v := (x2 + 1)) (lv' := [(2, .int (x2 + 1)), (5, .int r28), (0, .ref (ad 11)), (1, .int p1), (3, .int x3), (4, .int x4)]) hx hb d_U_stepClause_42 hl (k := 3) rfl rfl (by decide) rfl (fun ls hl => ?_)
        refine lv_iload hx hb d_U_stepClause_45 (lv_at hl 1 rfl) ?_
        refine lv_istore_n (lv' := [(3, .int r28), (2, .int (x2 + 1)), (5, .int r28), (0, .ref (ad 11)), (1, .int p1), (4, .int x4)]) hx hb d_U_stepClause_47 rfl hl (by decide) rfl (fun ls hl => ?_)
        exact j48 _ _ _ _ _ _ _ _ _ h hw (lv_sub hl [3, 4, 1, 0, 5] rfl)
  unfold wp_U_stepClause at h
  have h := h C7 hc7
  refine lv_iconst (v := 0) hx hb d_U_stepClause_0 (by decide) ?_
  refine lv_istore_n (lv' := [(2, .int 0), (0, .ref (ad 11)), (1, .int p1)]) hx hb d_U_stepClause_1 rfl hl (by decide) rfl (fun ls hl => ?_)
  refine lv_iconst (v := (-1)) hx hb d_U_stepClause_2 (by decide) ?_
  refine lv_istore_n (lv' := [(3, .int (-1)), (2, .int 0), (0, .ref (ad 11)), (1, .int p1)]) hx hb d_U_stepClause_3 rfl hl (by decide) rfl (fun ls hl => ?_)
  refine lv_iconst (v := 0) hx hb d_U_stepClause_4 (by decide) ?_
  refine lv_istore (lv' := [(4, .int 0), (3, .int (-1)), (2, .int 0), (0, .ref (ad 11)), (1, .int p1)]) hx hb d_U_stepClause_5 hl (by decide) rfl (fun ls hl => ?_)
  exact (hC7 _ _ _ _ _ _).1 h _ _ _ hw (lv_sub hl [3, 4, 2, 1, 0] rfl)
def rm_U_stepEquality : Room := { frames := 1, cells := 0, slots := 0, locals := 24 }
set_option maxHeartbeats 4000000 in
set_option maxRecDepth 100000 in
theorem c_U_stepEquality (l : Launch) (D : va_G) (cA : Nat → ClassId) (ad : Nat → Nat) (sz : Nat) (U_conflict : Int32) (U_changed : Int32) (U_told : (Nat → Int32)) (p1 : Int32) (p2 : Int32) (post : Int32 → Int32 → (Nat → Int32) → Prop) (h : wp_U_stepEquality U_conflict U_changed U_told p1 p2 post) : Met l y_U_stepEquality w_U_stepEquality rm_U_stepEquality (mPc D cA [.ref (ad 11), .int p1, .int p2] [(k_U cA ad U_conflict U_changed), (k_U_told cA ad U_told)] sz) (va_Qv (fun (u : Int32 × Int32 × (Nat → Int32)) => post u.1 u.2.1 u.2.2) (mB D (va_A [(k_U cA ad U_conflict U_changed), (k_U_told cA ad U_told)] sz) (fun (u : Int32 × Int32 × (Nat → Int32)) => [(k_U cA ad u.1 u.2.1), (k_U_told cA ad u.2.2)])) (va_A [(k_U cA ad U_conflict U_changed), (k_U_told cA ad U_told)] sz)) 0 0 (va_A [(k_U cA ad U_conflict U_changed), (k_U_told cA ad U_told)] sz) := by
  refine m_methV (by decide) rfl (Nat.le_of_ble_eq_true rfl) ?_
  intro p e s m below meth c A Q ls hx hb hml hown hts hK hA hw hl hE
  have hl : lv_has ls 5 [(0, .ref (ad 11)), (1, .int p1), (2, .int p2)] := hl
  have hown : s.vm.findClass R_U = some m.cls := hown
  have hg : ∀ {w : Cond}, w ∈ gw → w.before _ s = true := fun h => hts _ (List.mem_cons_of_mem _ h)
  have j24 : ∀ (x4 : Int32) (U_conflict : Int32) (U_changed : Int32) (U_told : (Nat → Int32)) (H : Heap) (locs : List Loc) (ls : Array Slot), s_U_stepEquality_24 p1 p2 post x4 U_conflict U_changed U_told → mW D A s.heap [(k_U cA ad U_conflict U_changed), (k_U_told cA ad U_told)] H locs → lv_has ls 5 [(0, .ref (ad 11)), (1, .int p1), (4, .int x4)] → W p l e rm_U_stepEquality s m [.ref (ad 11), .int p1, .int p2].toArray below meth c H locs 0 0 Q (F0 m 24 ls []) := by
    intro x4 U_conflict U_changed U_told H locs ls h hw hl
    unfold s_U_stepEquality_24 at h
    refine lv_iload hx hb d_U_stepEquality_24 (lv_at hl 2 rfl) ?_
    refine lv_iconst (v := 2) hx hb d_U_stepEquality_26 (by decide) ?_
    refine lv_icmp_eq (tgt := 37) hx hb d_U_stepEquality_27 (by decide) (fun hc => ?_) (fun hc => ?_)
    · have h := h.1 hc
      exact hE (U_conflict, U_changed, U_told) _ _ _ _ h hw d_U_stepEquality_37
    · have h := h.2 hc
      refine lv_aload_n hx hb d_U_stepEquality_30 rfl (lv_at hl 0 rfl) ?_
      refine lv_iload_n hx hb d_U_stepEquality_31 rfl (lv_at hl 1 rfl) ?_
      refine lv_iload hx hb d_U_stepEquality_32 (lv_at hl 2 rfl) ?_
      refine m_callv (hr := va_runV (As := [.int p1, .int x4]) (rest := []) ⟨hx, hb, hml, hown, hts⟩ (c_U_tell l D cA ad _ U_conflict U_changed U_told p1 x4 _ h) (cwV 2 hts (ginV gm_428 gm_430 gs_27 gm_4 gm_431) rfl rfl rfl (by decide +kernel) ⟨Nat.le_of_ble_eq_true rfl, Nat.le_of_ble_eq_true rfl⟩) (m_preV 3 0 rfl rfl hK hw [0, 1] rfl rfl) rfl rfl hl.1 rfl (lv_room (Nat.le_of_ble_eq_true rfl)) d_U_stepEquality_34 ⟨Nat.zero_le _, Nat.zero_le _⟩) (w2 := (fun (u : Int32 × Int32 × (Nat → Int32)) => [(k_U cA ad u.1 u.2.1), (k_U_told cA ad u.2.2)])) (wr := []) hw hA [0, 1] [] [0, 1] rfl rfl (by decide) (by decide) (by decide) (fun _ => rfl) (fun u H locs hw h => ?_)
      obtain ⟨U_conflict_34, U_changed_34, U_told_34⟩ := u
      have hw : mW D A s.heap [(k_U cA ad U_conflict_34 U_changed_34), (k_U_told cA ad U_told_34)] H locs := hw
      exact hE (U_conflict_34, U_changed_34, U_told_34) _ _ _ _ h hw d_U_stepEquality_37
  unfold wp_U_stepEquality at h
  refine lv_aload_n hx hb d_U_stepEquality_0 rfl (lv_at hl 0 rfl) ?_
  refine lv_iload_n hx hb d_U_stepEquality_1 rfl (lv_at hl 1 rfl) ?_
  refine m_calli (hr := va_runV (As := [.int p1]) (rest := []) ⟨hx, hb, hml, hown, hts⟩ (c_U_toldOf l D cA ad _ U_conflict U_changed U_told p1 _ h) (cwV 1 hts (ginV gm_440 gm_442 gs_30 gm_4 gm_443) rfl rfl rfl (by decide +kernel) ⟨Nat.le_of_ble_eq_true rfl, Nat.le_of_ble_eq_true rfl⟩) (m_preV 3 0 rfl rfl hK hw [0, 1] rfl rfl) rfl rfl hl.1 rfl (lv_room (Nat.le_of_ble_eq_true rfl)) d_U_stepEquality_2 ⟨Nat.zero_le _, Nat.zero_le _⟩) (w2 := (fun (_ : Unit) => [(k_U cA ad U_conflict U_changed), (k_U_told cA ad U_told)])) (wr := []) hw hA [0, 1] [] [0, 1] rfl rfl (by decide) (by decide) (by decide) (fun _ => rfl) (fun r2 u H locs hw h => ?_)
  refine lv_istore_n (lv' := [(3, .int r2), (0, .ref (ad 11)), (1, .int p1), (2, .int p2)]) hx hb d_U_stepEquality_5 rfl hl (by decide) rfl (fun ls hl => ?_)
  refine lv_aload_n hx hb d_U_stepEquality_6 rfl (lv_at hl 1 rfl) ?_
  refine lv_iload_n hx hb d_U_stepEquality_7 rfl (lv_at hl 3 rfl) ?_
  refine m_calli (hr := va_runV (As := [.int p2]) (rest := []) ⟨hx, hb, hml, hown, hts⟩ (c_U_toldOf l D cA ad _ U_conflict U_changed U_told p2 _ h) (cwV 1 hts (ginV gm_440 gm_442 gs_30 gm_4 gm_443) rfl rfl rfl (by decide +kernel) ⟨Nat.le_of_ble_eq_true rfl, Nat.le_of_ble_eq_true rfl⟩) (m_preV 3 0 rfl rfl hK hw [0, 1] rfl rfl) rfl rfl hl.1 rfl (lv_room (Nat.le_of_ble_eq_true rfl)) d_U_stepEquality_8 ⟨Nat.zero_le _, Nat.zero_le _⟩) (w2 := (fun (_ : Unit) => [(k_U cA ad U_conflict U_changed), (k_U_told cA ad U_told)])) (wr := []) hw hA [0, 1] [] [0, 1] rfl rfl (by decide) (by decide) (by decide) (fun _ => rfl) (fun r8 u H locs hw h => ?_)
  refine lv_istore (lv' := [(4, .int r8), (3, .int r2), (0, .ref (ad 11)), (1, .int p1), (2, .int p2)]) hx hb d_U_stepEquality_11 hl (by decide) rfl (fun ls hl => ?_)
  refine lv_iload_n hx hb d_U_stepEquality_13 rfl (lv_at hl 1 rfl) ?_
  refine lv_iconst (v := 2) hx hb d_U_stepEquality_14 (by decide) ?_
  refine lv_icmp_eq (tgt := 24) hx hb d_U_stepEquality_15 (by decide) (fun hc => ?_) (fun hc => ?_)
  · have h := h.1 hc
    exact j24 _ _ _ _ _ _ _ h hw (lv_sub hl [2, 3, 0] rfl)
  · have h := h.2 hc
    refine lv_aload_n hx hb d_U_stepEquality_18 rfl (lv_at hl 2 rfl) ?_
    refine lv_iload_n hx hb d_U_stepEquality_19 rfl (lv_at hl 4 rfl) ?_
    refine lv_iload_n hx hb d_U_stepEquality_20 rfl (lv_at hl 1 rfl) ?_
    refine m_callv (hr := va_runV (As := [.int p2, .int r2]) (rest := []) ⟨hx, hb, hml, hown, hts⟩ (c_U_tell l D cA ad _ U_conflict U_changed U_told p2 r2 _ h) (cwV 2 hts (ginV gm_428 gm_430 gs_27 gm_4 gm_431) rfl rfl rfl (by decide +kernel) ⟨Nat.le_of_ble_eq_true rfl, Nat.le_of_ble_eq_true rfl⟩) (m_preV 3 0 rfl rfl hK hw [0, 1] rfl rfl) rfl rfl hl.1 rfl (lv_room (Nat.le_of_ble_eq_true rfl)) d_U_stepEquality_21 ⟨Nat.zero_le _, Nat.zero_le _⟩) (w2 := (fun (u : Int32 × Int32 × (Nat → Int32)) => [(k_U cA ad u.1 u.2.1), (k_U_told cA ad u.2.2)])) (wr := []) hw hA [0, 1] [] [0, 1] rfl rfl (by decide) (by decide) (by decide) (fun _ => rfl) (fun u H locs hw h => ?_)
    obtain ⟨U_conflict_21, U_changed_21, U_told_21⟩ := u
    have hw : mW D A s.heap [(k_U cA ad U_conflict_21 U_changed_21), (k_U_told cA ad U_told_21)] H locs := hw
    exact j24 _ _ _ _ _ _ _ h hw (lv_sub hl [2, 3, 0] rfl)
def rm_U_comeToConflict : Room := { frames := 2, cells := 0, slots := 0, locals := 50 }
set_option maxHeartbeats 4000000 in
set_option maxRecDepth 100000 in
theorem c_U_comeToConflict (l : Launch) (D : va_G) (cA : Nat → ClassId) (ad : Nat → Nat) (sz : Nat) (G_size : Int32) (G_inputs : Int32) (G_kinds : (Nat → Int32)) (G_lefts : (Nat → Int32)) (G_rights : (Nat → Int32)) (F_size : Int32) (F_kinds : (Nat → Int32)) (F_sizes : (Nat → Int32)) (F_literals : (Nat → Int32)) (F_leftOut : (Nat → Int32)) (U_conflict : Int32) (U_changed : Int32) (U_told : (Nat → Int32)) (p1 : Int32) (post : Int32 → Int32 → Int32 → (Nat → Int32) → Prop) (h : wp_U_comeToConflict G_size G_kinds G_lefts G_rights F_kinds F_sizes F_literals F_leftOut U_conflict U_changed U_told p1 post) : Met l y_U_comeToConflict w_U_comeToConflict rm_U_comeToConflict (mPc D cA [.ref (ad 11), .int p1] [(k_G cA ad G_size G_inputs), (k_G_kinds cA ad G_kinds), (k_G_lefts cA ad G_lefts), (k_G_rights cA ad G_rights), (k_F cA ad F_size), (k_F_kinds cA ad F_kinds), (k_F_sizes cA ad F_sizes), (k_F_literals cA ad F_literals), (k_F_leftOut cA ad F_leftOut), (k_U cA ad U_conflict U_changed), (k_U_told cA ad U_told)] sz) (va_Qi (fun (r : Int32) (u : Int32 × Int32 × (Nat → Int32)) => post r u.1 u.2.1 u.2.2) (mB D (va_A [(k_G cA ad G_size G_inputs), (k_G_kinds cA ad G_kinds), (k_G_lefts cA ad G_lefts), (k_G_rights cA ad G_rights), (k_F cA ad F_size), (k_F_kinds cA ad F_kinds), (k_F_sizes cA ad F_sizes), (k_F_literals cA ad F_literals), (k_F_leftOut cA ad F_leftOut), (k_U cA ad U_conflict U_changed), (k_U_told cA ad U_told)] sz) (fun (u : Int32 × Int32 × (Nat → Int32)) => [(k_G cA ad G_size G_inputs), (k_G_kinds cA ad G_kinds), (k_G_lefts cA ad G_lefts), (k_G_rights cA ad G_rights), (k_F cA ad F_size), (k_F_kinds cA ad F_kinds), (k_F_sizes cA ad F_sizes), (k_F_literals cA ad F_literals), (k_F_leftOut cA ad F_leftOut), (k_U cA ad u.1 u.2.1), (k_U_told cA ad u.2.2)])) (va_A [(k_G cA ad G_size G_inputs), (k_G_kinds cA ad G_kinds), (k_G_lefts cA ad G_lefts), (k_G_rights cA ad G_rights), (k_F cA ad F_size), (k_F_kinds cA ad F_kinds), (k_F_sizes cA ad F_sizes), (k_F_literals cA ad F_literals), (k_F_leftOut cA ad F_leftOut), (k_U cA ad U_conflict U_changed), (k_U_told cA ad U_told)] sz)) 0 0 (va_A [(k_G cA ad G_size G_inputs), (k_G_kinds cA ad G_kinds), (k_G_lefts cA ad G_lefts), (k_G_rights cA ad G_rights), (k_F cA ad F_size), (k_F_kinds cA ad F_kinds), (k_F_sizes cA ad F_sizes), (k_F_literals cA ad F_literals), (k_F_leftOut cA ad F_leftOut), (k_U cA ad U_conflict U_changed), (k_U_told cA ad U_told)] sz) := by
  refine m_methZ (by decide) rfl (Nat.le_of_ble_eq_true rfl) ?_
  intro p e s m below meth c A Q ls hx hb hml hown hts hK hA hw hl hE
  have hl : lv_has ls 4 [(0, .ref (ad 11)), (1, .int p1)] := hl
  have hown : s.vm.findClass R_U = some m.cls := hown
  have hg : ∀ {w : Cond}, w ∈ gw → w.before _ s = true := fun h => hts _ (List.mem_cons_of_mem _ h)
  obtain ⟨C7, hC7⟩ : ∃ C : Int32 → Int32 → Int32 → (Nat → Int32) → Prop, ∀ (x2 : Int32) (U_conflict : Int32) (U_changed : Int32) (U_told : (Nat → Int32)), C x2 U_conflict U_changed U_told ↔ (∀ (H : Heap) (locs : List Loc) (ls : Array Slot), mW D A s.heap [(k_G cA ad G_size G_inputs), (k_G_kinds cA ad G_kinds), (k_G_lefts cA ad G_lefts), (k_G_rights cA ad G_rights), (k_F cA ad F_size), (k_F_kinds cA ad F_kinds), (k_F_sizes cA ad F_sizes), (k_F_literals cA ad F_literals), (k_F_leftOut cA ad F_leftOut), (k_U cA ad U_conflict U_changed), (k_U_told cA ad U_told)] H locs → lv_has ls 4 [(0, .ref (ad 11)), (1, .int p1), (2, .int x2)] → W p l e rm_U_comeToConflict s m [.ref (ad 11), .int p1].toArray below meth c H locs 0 0 Q (F0 m 7 ls [])) := ⟨_, fun _ _ _ _ => Iff.rfl⟩
  obtain ⟨C34, hC34⟩ : ∃ C : Int32 → Int32 → Int32 → Int32 → (Nat → Int32) → Prop, ∀ (x2 : Int32) (x3 : Int32) (U_conflict : Int32) (U_changed : Int32) (U_told : (Nat → Int32)), C x2 x3 U_conflict U_changed U_told ↔ (∀ (H : Heap) (locs : List Loc) (ls : Array Slot), mW D A s.heap [(k_G cA ad G_size G_inputs), (k_G_kinds cA ad G_kinds), (k_G_lefts cA ad G_lefts), (k_G_rights cA ad G_rights), (k_F cA ad F_size), (k_F_kinds cA ad F_kinds), (k_F_sizes cA ad F_sizes), (k_F_literals cA ad F_literals), (k_F_leftOut cA ad F_leftOut), (k_U cA ad U_conflict U_changed), (k_U_told cA ad U_told)] H locs → lv_has ls 4 [(0, .ref (ad 11)), (1, .int p1), (2, .int x2), (3, .int x3)] → W p l e rm_U_comeToConflict s m [.ref (ad 11), .int p1].toArray below meth c H locs 0 0 Q (F0 m 34 ls [])) := ⟨_, fun _ _ _ _ _ => Iff.rfl⟩
  obtain ⟨C135, hC135⟩ : ∃ C : Int32 → Int32 → Int32 → Int32 → (Nat → Int32) → Prop, ∀ (x2 : Int32) (x3 : Int32) (U_conflict : Int32) (U_changed : Int32) (U_told : (Nat → Int32)), C x2 x3 U_conflict U_changed U_told ↔ (∀ (H : Heap) (locs : List Loc) (ls : Array Slot), mW D A s.heap [(k_G cA ad G_size G_inputs), (k_G_kinds cA ad G_kinds), (k_G_lefts cA ad G_lefts), (k_G_rights cA ad G_rights), (k_F cA ad F_size), (k_F_kinds cA ad F_kinds), (k_F_sizes cA ad F_sizes), (k_F_literals cA ad F_literals), (k_F_leftOut cA ad F_leftOut), (k_U cA ad U_conflict U_changed), (k_U_told cA ad U_told)] H locs → lv_has ls 4 [(0, .ref (ad 11)), (1, .int p1), (2, .int x2), (3, .int x3)] → W p l e rm_U_comeToConflict s m [.ref (ad 11), .int p1].toArray below meth c H locs 0 0 Q (F0 m 135 ls [])) := ⟨_, fun _ _ _ _ _ => Iff.rfl⟩
  have j211 : ∀ (x2 : Int32) (U_conflict : Int32) (U_changed : Int32) (U_told : (Nat → Int32)) (H : Heap) (locs : List Loc) (ls : Array Slot), s_U_comeToConflict_211 G_size G_kinds G_lefts G_rights F_kinds F_sizes F_literals F_leftOut p1 C7 C34 C135 post x2 U_conflict U_changed U_told → mW D A s.heap [(k_G cA ad G_size G_inputs), (k_G_kinds cA ad G_kinds), (k_G_lefts cA ad G_lefts), (k_G_rights cA ad G_rights), (k_F cA ad F_size), (k_F_kinds cA ad F_kinds), (k_F_sizes cA ad F_sizes), (k_F_literals cA ad F_literals), (k_F_leftOut cA ad F_leftOut), (k_U cA ad U_conflict U_changed), (k_U_told cA ad U_told)] H locs → lv_has ls 4 [(0, .ref (ad 11)), (1, .int p1), (2, .int x2)] → W p l e rm_U_comeToConflict s m [.ref (ad 11), .int p1].toArray below meth c H locs 0 0 Q (F0 m 211 ls []) := by
    intro x2 U_conflict U_changed U_told H locs ls h hw hl
    unfold s_U_comeToConflict_211 at h
    refine lv_iinc (v := (x2 + 1)) (lv' := [(2, .int (x2 + 1)), (0, .ref (ad 11)), (1, .int p1)]) hx hb d_U_comeToConflict_211 hl (k := 2) rfl rfl (by decide) rfl (fun ls hl => ?_)
    refine lv_goto (tgt := 7) hx hb d_U_comeToConflict_214 (by decide) ?_
    exact (hC7 _ _ _ _).1 h _ _ _ hw (lv_sub hl [1, 2, 0] rfl)
  have j205 : ∀ (x2 : Int32) (x3 : Int32) (U_conflict : Int32) (U_changed : Int32) (U_told : (Nat → Int32)) (H : Heap) (locs : List Loc) (ls : Array Slot), s_U_comeToConflict_205 G_size G_kinds G_lefts G_rights F_kinds F_sizes F_literals F_leftOut p1 C7 C34 C135 post x2 x3 U_conflict U_changed U_told → mW D A s.heap [(k_G cA ad G_size G_inputs), (k_G_kinds cA ad G_kinds), (k_G_lefts cA ad G_lefts), (k_G_rights cA ad G_rights), (k_F cA ad F_size), (k_F_kinds cA ad F_kinds), (k_F_sizes cA ad F_sizes), (k_F_literals cA ad F_literals), (k_F_leftOut cA ad F_leftOut), (k_U cA ad U_conflict U_changed), (k_U_told cA ad U_told)] H locs → lv_has ls 4 [(0, .ref (ad 11)), (1, .int p1), (2, .int x2), (3, .int x3)] → W p l e rm_U_comeToConflict s m [.ref (ad 11), .int p1].toArray below meth c H locs 0 0 Q (F0 m 205 ls []) := by
    intro x2 x3 U_conflict U_changed U_told H locs ls h hw hl
    unfold s_U_comeToConflict_205 at h
    refine lv_iinc (v := (x3 + 1)) (lv' := [(3, .int (x3 + 1)), (0, .ref (ad 11)), (1, .int p1), (2, .int x2)]) hx hb d_U_comeToConflict_205 hl (k := 3) rfl rfl (by decide) rfl (fun ls hl => ?_)
    refine lv_goto (tgt := 135) hx hb d_U_comeToConflict_208 (by decide) ?_
    exact (hC135 _ _ _ _ _).1 h _ _ _ hw (lv_sub hl [1, 2, 3, 0] rfl)
  have j133 : ∀ (x2 : Int32) (U_conflict : Int32) (U_changed : Int32) (U_told : (Nat → Int32)) (H : Heap) (locs : List Loc) (ls : Array Slot), s_U_comeToConflict_133 G_size G_kinds G_lefts G_rights F_kinds F_sizes F_literals F_leftOut p1 C7 C34 C135 post x2 U_conflict U_changed U_told → mW D A s.heap [(k_G cA ad G_size G_inputs), (k_G_kinds cA ad G_kinds), (k_G_lefts cA ad G_lefts), (k_G_rights cA ad G_rights), (k_F cA ad F_size), (k_F_kinds cA ad F_kinds), (k_F_sizes cA ad F_sizes), (k_F_literals cA ad F_literals), (k_F_leftOut cA ad F_leftOut), (k_U cA ad U_conflict U_changed), (k_U_told cA ad U_told)] H locs → lv_has ls 4 [(0, .ref (ad 11)), (1, .int p1), (2, .int x2)] → W p l e rm_U_comeToConflict s m [.ref (ad 11), .int p1].toArray below meth c H locs 0 0 Q (F0 m 133 ls []) := by
    intro x2 U_conflict U_changed U_told H locs ls h hw hl
    unfold s_U_comeToConflict_133 at h
    refine lv_iconst (v := 0) hx hb d_U_comeToConflict_133 (by decide) ?_
    refine lv_istore_n (lv' := [(3, .int 0), (0, .ref (ad 11)), (1, .int p1), (2, .int x2)]) hx hb d_U_comeToConflict_134 rfl hl (by decide) rfl (fun ls hl => ?_)
    exact (hC135 _ _ _ _ _).1 h _ _ _ hw (lv_sub hl [1, 2, 3, 0] rfl)
  have j127 : ∀ (x2 : Int32) (x3 : Int32) (U_conflict : Int32) (U_changed : Int32) (U_told : (Nat → Int32)) (H : Heap) (locs : List Loc) (ls : Array Slot), s_U_comeToConflict_127 G_size G_kinds G_lefts G_rights F_kinds F_sizes F_literals F_leftOut p1 C7 C34 C135 post x2 x3 U_conflict U_changed U_told → mW D A s.heap [(k_G cA ad G_size G_inputs), (k_G_kinds cA ad G_kinds), (k_G_lefts cA ad G_lefts), (k_G_rights cA ad G_rights), (k_F cA ad F_size), (k_F_kinds cA ad F_kinds), (k_F_sizes cA ad F_sizes), (k_F_literals cA ad F_literals), (k_F_leftOut cA ad F_leftOut), (k_U cA ad U_conflict U_changed), (k_U_told cA ad U_told)] H locs → lv_has ls 4 [(0, .ref (ad 11)), (1, .int p1), (2, .int x2), (3, .int x3)] → W p l e rm_U_comeToConflict s m [.ref (ad 11), .int p1].toArray below meth c H locs 0 0 Q (F0 m 127 ls []) := by
    intro x2 x3 U_conflict U_changed U_told H locs ls h hw hl
    unfold s_U_comeToConflict_127 at h
    refine lv_iinc (v := (x3 + 1)) (lv' := [(3, .int (x3 + 1)), (0, .ref (ad 11)), (1, .int p1), (2, .int x2)]) hx hb d_U_comeToConflict_127 hl (k := 3) rfl rfl (by decide) rfl (fun ls hl => ?_)
    refine lv_goto (tgt := 34) hx hb d_U_comeToConflict_130 (by decide) ?_
    exact (hC34 _ _ _ _ _).1 h _ _ _ hw (lv_sub hl [1, 2, 3, 0] rfl)
  have hc7 : ∀ (x2 : Int32) (U_conflict : Int32) (U_changed : Int32) (U_told : (Nat → Int32)), s_U_comeToConflict_7 G_size G_kinds G_lefts G_rights F_kinds F_sizes F_literals F_leftOut p1 C7 C34 C135 post x2 U_conflict U_changed U_told → C7 x2 U_conflict U_changed U_told := by
    intro x2 U_conflict U_changed U_told h
    unfold s_U_comeToConflict_7 at h
    refine (hC7 _ _ _ _).2 ?_
    intro H locs ls hw hl
    refine lv_iload_n hx hb d_U_comeToConflict_7 rfl (lv_at hl 2 rfl) ?_
    refine lv_bipush (v := 40) hx hb d_U_comeToConflict_8 (by decide) ?_
    refine lv_icmp_gt (tgt := 217) hx hb d_U_comeToConflict_10 (by decide) (fun hc => ?_) (fun hc => ?_)
    · have h := h.1 hc
      refine lv_aload_n hx hb d_U_comeToConflict_217 rfl (lv_at hl 0 rfl) ?_
      refine va_get (D := D) (ci := 3) (v := .int U_conflict) (C := R_U) (T := T_U) (N := 5) hx hb hts (fun w h => List.mem_cons_of_mem _ (iw_U w h)) hown hK.1 hw.1 9 rfl rfl 3 (by decide) (hg gm_102) (fun _ h9 => h9) rfl d_U_comeToConflict_218 ?_
      exact hE U_conflict (U_conflict, U_changed, U_told) _ _ _ _ h.2 (isB_nar h.1) hw d_U_comeToConflict_221
    · have h := h.2 hc
      refine lv_aload_n hx hb d_U_comeToConflict_13 rfl (lv_at hl 0 rfl) ?_
      refine va_get (D := D) (ci := 3) (v := .int U_changed) (C := R_U) (T := T_U) (N := 5) hx hb hts (fun w h => List.mem_cons_of_mem _ (iw_U w h)) hown hK.1 hw.1 9 rfl rfl 4 (by decide) (hg gm_103) (fun _ h9 => h9) rfl d_U_comeToConflict_14 ?_
      refine lv_if_eq (tgt := 217) hx hb d_U_comeToConflict_17 (by decide) (fun hc => ?_) (fun hc => ?_)
      · have h := h.1 hc
        refine lv_aload_n hx hb d_U_comeToConflict_217 rfl (lv_at hl 0 rfl) ?_
        refine va_get (D := D) (ci := 3) (v := .int U_conflict) (C := R_U) (T := T_U) (N := 5) hx hb hts (fun w h => List.mem_cons_of_mem _ (iw_U w h)) hown hK.1 hw.1 9 rfl rfl 3 (by decide) (hg gm_102) (fun _ h9 => h9) rfl d_U_comeToConflict_218 ?_
        exact hE U_conflict (U_conflict, U_changed, U_told) _ _ _ _ h.2 (isB_nar h.1) hw d_U_comeToConflict_221
      · have h := h.2 hc
        refine lv_aload_n hx hb d_U_comeToConflict_20 rfl (lv_at hl 0 rfl) ?_
        refine va_get (D := D) (ci := 3) (v := .int U_conflict) (C := R_U) (T := T_U) (N := 5) hx hb hts (fun w h => List.mem_cons_of_mem _ (iw_U w h)) hown hK.1 hw.1 9 rfl rfl 3 (by decide) (hg gm_102) (fun _ h9 => h9) rfl d_U_comeToConflict_21 ?_
        refine lv_if_ne (tgt := 217) hx hb d_U_comeToConflict_24 (by decide) (fun hc => ?_) (fun hc => ?_)
        · have h := h.2 hc
          refine lv_aload_n hx hb d_U_comeToConflict_217 rfl (lv_at hl 0 rfl) ?_
          refine va_get (D := D) (ci := 3) (v := .int U_conflict) (C := R_U) (T := T_U) (N := 5) hx hb hts (fun w h => List.mem_cons_of_mem _ (iw_U w h)) hown hK.1 hw.1 9 rfl rfl 3 (by decide) (hg gm_102) (fun _ h9 => h9) rfl d_U_comeToConflict_218 ?_
          exact hE U_conflict (U_conflict, U_changed, U_told) _ _ _ _ h.2 (isB_nar h.1) hw d_U_comeToConflict_221
        · have h := h.1 hc
          refine lv_aload_n hx hb d_U_comeToConflict_27 rfl (lv_at hl 0 rfl) ?_
          refine lv_iconst (v := 0) hx hb d_U_comeToConflict_28 (by decide) ?_
          refine m_put (ws' := [(k_G cA ad G_size G_inputs), (k_G_kinds cA ad G_kinds), (k_G_lefts cA ad G_lefts), (k_G_rights cA ad G_rights), (k_F cA ad F_size), (k_F_kinds cA ad F_kinds), (k_F_sizes cA ad F_sizes), (k_F_literals cA ad F_literals), (k_F_leftOut cA ad F_leftOut), (k_U cA ad U_conflict 0), (k_U_told cA ad U_told)]) (ci := 3) (v := .int 0) (ty := .boolean) (C := R_U) (T := T_U) (N := 5) hx hb hts (fun w h => List.mem_cons_of_mem _ (iw_U w h)) ty_U tyok_U nm_U hown hK.1 hw 9 rfl rfl 4 (by decide) (hg gm_103) (fun _ h9 => h9) rfl (by decide +kernel) rfl rfl (Nat.le_of_ble_eq_true rfl) rfl d_U_comeToConflict_29 (fun H locs hw => ?_)
          refine lv_iconst (v := 1) hx hb d_U_comeToConflict_32 (by decide) ?_
          refine lv_istore_n (lv' := [(3, .int 1), (0, .ref (ad 11)), (1, .int p1), (2, .int x2)]) hx hb d_U_comeToConflict_33 rfl hl (by decide) rfl (fun ls hl => ?_)
          exact (hC34 _ _ _ _ _).1 h _ _ _ hw (lv_sub hl [1, 2, 3, 0] rfl)
  have hc34 : ∀ (x2 : Int32) (x3 : Int32) (U_conflict : Int32) (U_changed : Int32) (U_told : (Nat → Int32)), s_U_comeToConflict_34 G_size G_kinds G_lefts G_rights F_kinds F_sizes F_literals F_leftOut p1 C7 C34 C135 post x2 x3 U_conflict U_changed U_told → C34 x2 x3 U_conflict U_changed U_told := by
    intro x2 x3 U_conflict U_changed U_told h
    unfold s_U_comeToConflict_34 at h
    refine (hC34 _ _ _ _ _).2 ?_
    intro H locs ls hw hl
    refine lv_iload_n hx hb d_U_comeToConflict_34 rfl (lv_at hl 3 rfl) ?_
    refine lv_aload_n hx hb d_U_comeToConflict_35 rfl (lv_at hl 0 rfl) ?_
    refine va_get (D := D) (ci := 3) (v := .ref (ad 1)) (C := R_U) (T := T_U) (N := 5) hx hb hts (fun w h => List.mem_cons_of_mem _ (iw_U w h)) hown hK.1 hw.1 9 rfl rfl 0 (by decide) (hg gm_98) (fun _ h9 => h9) rfl d_U_comeToConflict_36 ?_
    refine va_getN (D := D) (ci := 1) (v := .int G_size) (C := R_G) (T := T_G) (N := 6) hx hb hts (fun w h => List.mem_cons_of_mem _ (iw_G w h)) hown hK.1 hw.1 0 rfl rfl 4 (by decide) (va_Nw.use rfl (hK.2 _ nw_40)) (fun _ h9 => h9) rfl d_U_comeToConflict_39 ?_
    refine lv_icmp_ge (tgt := 133) hx hb d_U_comeToConflict_42 (by decide) (fun hc => ?_) (fun hc => ?_)
    · have h := h.1 hc
      exact j133 _ _ _ _ _ _ _ h hw (lv_sub hl [0, 1, 2] rfl)
    · have h := h.2 hc
      refine lv_aload_n hx hb d_U_comeToConflict_45 rfl (lv_at hl 0 rfl) ?_
      refine va_get (D := D) (ci := 3) (v := .int U_conflict) (C := R_U) (T := T_U) (N := 5) hx hb hts (fun w h => List.mem_cons_of_mem _ (iw_U w h)) hown hK.1 hw.1 9 rfl rfl 3 (by decide) (hg gm_102) (fun _ h9 => h9) rfl d_U_comeToConflict_46 ?_
      refine lv_if_ne (tgt := 133) hx hb d_U_comeToConflict_49 (by decide) (fun hc => ?_) (fun hc => ?_)
      · have h := h.2 hc
        exact j133 _ _ _ _ _ _ _ h hw (lv_sub hl [0, 1, 2] rfl)
      · have h := h.1 hc
        refine lv_aload_n hx hb d_U_comeToConflict_52 rfl (lv_at hl 0 rfl) ?_
        refine va_get (D := D) (ci := 3) (v := .ref (ad 1)) (C := R_U) (T := T_U) (N := 5) hx hb hts (fun w h => List.mem_cons_of_mem _ (iw_U w h)) hown hK.1 hw.1 9 rfl rfl 0 (by decide) (hg gm_98) (fun _ h9 => h9) rfl d_U_comeToConflict_53 ?_
        refine va_getN (D := D) (ci := 1) (v := .ref (ad 2)) (C := R_G) (T := T_G) (N := 6) hx hb hts (fun w h => List.mem_cons_of_mem _ (iw_G w h)) hown hK.1 hw.1 0 rfl rfl 0 (by decide) (va_Nw.use rfl (hK.2 _ nw_32)) (fun _ h9 => h9) rfl d_U_comeToConflict_56 ?_
        refine lv_iload_n hx hb d_U_comeToConflict_59 rfl (lv_at hl 3 rfl) ?_
        refine va_iald hx hb hK.1 hw.1 1 0 rfl rfl h.1 d_U_comeToConflict_60 ?_
        have h := h.2
        refine lv_iconst (v := 1) hx hb d_U_comeToConflict_61 (by decide) ?_
        refine lv_icmp_ne (tgt := 91) hx hb d_U_comeToConflict_62 (by decide) (fun hc => ?_) (fun hc => ?_)
        · have h := h.2 hc
          refine lv_aload_n hx hb d_U_comeToConflict_91 rfl (lv_at hl 0 rfl) ?_
          refine va_get (D := D) (ci := 3) (v := .ref (ad 1)) (C := R_U) (T := T_U) (N := 5) hx hb hts (fun w h => List.mem_cons_of_mem _ (iw_U w h)) hown hK.1 hw.1 9 rfl rfl 0 (by decide) (hg gm_98) (fun _ h9 => h9) rfl d_U_comeToConflict_92 ?_
          refine va_getN (D := D) (ci := 1) (v := .ref (ad 2)) (C := R_G) (T := T_G) (N := 6) hx hb hts (fun w h => List.mem_cons_of_mem _ (iw_G w h)) hown hK.1 hw.1 0 rfl rfl 0 (by decide) (va_Nw.use rfl (hK.2 _ nw_32)) (fun _ h9 => h9) rfl d_U_comeToConflict_95 ?_
          refine lv_iload_n hx hb d_U_comeToConflict_98 rfl (lv_at hl 3 rfl) ?_
          refine va_iald hx hb hK.1 hw.1 1 0 rfl rfl h.1 d_U_comeToConflict_99 ?_
          have h := h.2
          refine lv_iconst (v := 2) hx hb d_U_comeToConflict_100 (by decide) ?_
          refine lv_icmp_ne (tgt := 127) hx hb d_U_comeToConflict_101 (by decide) (fun hc => ?_) (fun hc => ?_)
          · have h := h.2 hc
            exact j127 _ _ _ _ _ _ _ _ h hw (lv_sub hl [0, 1, 2, 3] rfl)
          · have h := h.1 hc
            refine lv_aload_n hx hb d_U_comeToConflict_104 rfl (lv_at hl 0 rfl) ?_
            refine lv_iload_n hx hb d_U_comeToConflict_105 rfl (lv_at hl 3 rfl) ?_
            refine lv_aload_n hx hb d_U_comeToConflict_106 rfl (lv_at hl 0 rfl) ?_
            refine va_get (D := D) (ci := 3) (v := .ref (ad 1)) (C := R_U) (T := T_U) (N := 5) hx hb hts (fun w h => List.mem_cons_of_mem _ (iw_U w h)) hown hK.1 hw.1 9 rfl rfl 0 (by decide) (hg gm_98) (fun _ h9 => h9) rfl d_U_comeToConflict_107 ?_
            refine va_getN (D := D) (ci := 1) (v := .ref (ad 3)) (C := R_G) (T := T_G) (N := 6) hx hb hts (fun w h => List.mem_cons_of_mem _ (iw_G w h)) hown hK.1 hw.1 0 rfl rfl 1 (by decide) (va_Nw.use rfl (hK.2 _ nw_34)) (fun _ h9 => h9) rfl d_U_comeToConflict_110 ?_
            refine lv_iload_n hx hb d_U_comeToConflict_113 rfl (lv_at hl 3 rfl) ?_
            refine va_iald hx hb hK.1 hw.1 2 0 rfl rfl h.1 d_U_comeToConflict_114 ?_
            have h := h.2
            refine lv_aload_n hx hb d_U_comeToConflict_115 rfl (lv_at hl 0 rfl) ?_
            refine va_get (D := D) (ci := 3) (v := .ref (ad 1)) (C := R_U) (T := T_U) (N := 5) hx hb hts (fun w h => List.mem_cons_of_mem _ (iw_U w h)) hown hK.1 hw.1 9 rfl rfl 0 (by decide) (hg gm_98) (fun _ h9 => h9) rfl d_U_comeToConflict_116 ?_
            refine va_getN (D := D) (ci := 1) (v := .ref (ad 4)) (C := R_G) (T := T_G) (N := 6) hx hb hts (fun w h => List.mem_cons_of_mem _ (iw_G w h)) hown hK.1 hw.1 0 rfl rfl 2 (by decide) (va_Nw.use rfl (hK.2 _ nw_36)) (fun _ h9 => h9) rfl d_U_comeToConflict_119 ?_
            refine lv_iload_n hx hb d_U_comeToConflict_122 rfl (lv_at hl 3 rfl) ?_
            refine va_iald hx hb hK.1 hw.1 3 0 rfl rfl h.1 d_U_comeToConflict_123 ?_
            have h := h.2
            refine m_callv (hr := va_runV (As := [.int x3, .int (G_lefts x3.toNatClampNeg), .int (G_rights x3.toNatClampNeg)]) (rest := []) ⟨hx, hb, hml, hown, hts⟩ (c_U_stepEither l D cA ad _ U_conflict U_changed U_told x3 (G_lefts x3.toNatClampNeg) (G_rights x3.toNatClampNeg) _ h) (cwV 3 hts (ginV gm_444 gm_446 gs_31 gm_4 gm_447) rfl rfl rfl (by decide +kernel) ⟨Nat.le_of_ble_eq_true rfl, Nat.le_of_ble_eq_true rfl⟩) (m_preV 3 9 rfl rfl hK hw [9, 10] rfl rfl) rfl rfl hl.1 rfl (lv_room (Nat.le_of_ble_eq_true rfl)) d_U_comeToConflict_124 ⟨Nat.zero_le _, Nat.zero_le _⟩) (w2 := (fun (u : Int32 × Int32 × (Nat → Int32)) => [(k_G cA ad G_size G_inputs), (k_G_kinds cA ad G_kinds), (k_G_lefts cA ad G_lefts), (k_G_rights cA ad G_rights), (k_F cA ad F_size), (k_F_kinds cA ad F_kinds), (k_F_sizes cA ad F_sizes), (k_F_literals cA ad F_literals), (k_F_leftOut cA ad F_leftOut), (k_U cA ad u.1 u.2.1), (k_U_told cA ad u.2.2)])) (wr := [(k_G cA ad G_size G_inputs), (k_G_kinds cA ad G_kinds), (k_G_lefts cA ad G_lefts), (k_G_rights cA ad G_rights), (k_F cA ad F_size), (k_F_kinds cA ad F_kinds), (k_F_sizes cA ad F_sizes), (k_F_literals cA ad F_literals), (k_F_leftOut cA ad F_leftOut)]) hw hA [9, 10] [0, 1, 2, 3, 4, 5, 6, 7, 8] [0, 1, 2, 3, 4, 5, 6, 7, 8, 9, 10] rfl rfl (by decide) (by decide) (by decide) (fun _ => rfl) (fun u H locs hw h => ?_)
            obtain ⟨U_conflict_124, U_changed_124, U_told_124⟩ := u
            have hw : mW D A s.heap [(k_G cA ad G_size G_inputs), (k_G_kinds cA ad G_kinds), (k_G_lefts cA ad G_lefts), (k_G_rights cA ad G_rights), (k_F cA ad F_size), (k_F_kinds cA ad F_kinds), (k_F_sizes cA ad F_sizes), (k_F_literals cA ad F_literals), (k_F_leftOut cA ad F_leftOut), (k_U cA ad U_conflict_124 U_changed_124), (k_U_told cA ad U_told_124)] H locs := hw
            exact j127 _ _ _ _ _ _ _ _ h hw (lv_sub hl [0, 1, 2, 3] rfl)
        · have h := h.1 hc
          refine lv_aload_n hx hb d_U_comeToConflict_65 rfl (lv_at hl 0 rfl) ?_
          refine lv_iload_n hx hb d_U_comeToConflict_66 rfl (lv_at hl 3 rfl) ?_
          refine lv_aload_n hx hb d_U_comeToConflict_67 rfl (lv_at hl 0 rfl) ?_
          refine va_get (D := D) (ci := 3) (v := .ref (ad 1)) (C := R_U) (T := T_U) (N := 5) hx hb hts (fun w h => List.mem_cons_of_mem _ (iw_U w h)) hown hK.1 hw.1 9 rfl rfl 0 (by decide) (hg gm_98) (fun _ h9 => h9) rfl d_U_comeToConflict_68 ?_
          refine va_getN (D := D) (ci := 1) (v := .ref (ad 3)) (C := R_G) (T := T_G) (N := 6) hx hb hts (fun w h => List.mem_cons_of_mem _ (iw_G w h)) hown hK.1 hw.1 0 rfl rfl 1 (by decide) (va_Nw.use rfl (hK.2 _ nw_34)) (fun _ h9 => h9) rfl d_U_comeToConflict_71 ?_
          refine lv_iload_n hx hb d_U_comeToConflict_74 rfl (lv_at hl 3 rfl) ?_
          refine va_iald hx hb hK.1 hw.1 2 0 rfl rfl h.1 d_U_comeToConflict_75 ?_
          have h := h.2
          refine lv_aload_n hx hb d_U_comeToConflict_76 rfl (lv_at hl 0 rfl) ?_
          refine va_get (D := D) (ci := 3) (v := .ref (ad 1)) (C := R_U) (T := T_U) (N := 5) hx hb hts (fun w h => List.mem_cons_of_mem _ (iw_U w h)) hown hK.1 hw.1 9 rfl rfl 0 (by decide) (hg gm_98) (fun _ h9 => h9) rfl d_U_comeToConflict_77 ?_
          refine va_getN (D := D) (ci := 1) (v := .ref (ad 4)) (C := R_G) (T := T_G) (N := 6) hx hb hts (fun w h => List.mem_cons_of_mem _ (iw_G w h)) hown hK.1 hw.1 0 rfl rfl 2 (by decide) (va_Nw.use rfl (hK.2 _ nw_36)) (fun _ h9 => h9) rfl d_U_comeToConflict_80 ?_
          refine lv_iload_n hx hb d_U_comeToConflict_83 rfl (lv_at hl 3 rfl) ?_
          refine va_iald hx hb hK.1 hw.1 3 0 rfl rfl h.1 d_U_comeToConflict_84 ?_
          have h := h.2
          refine m_callv (hr := va_runV (As := [.int x3, .int (G_lefts x3.toNatClampNeg), .int (G_rights x3.toNatClampNeg)]) (rest := []) ⟨hx, hb, hml, hown, hts⟩ (c_U_stepAnd l D cA ad _ U_conflict U_changed U_told x3 (G_lefts x3.toNatClampNeg) (G_rights x3.toNatClampNeg) _ h) (cwV 3 hts (ginV gm_436 gm_438 gs_29 gm_4 gm_439) rfl rfl rfl (by decide +kernel) ⟨Nat.le_of_ble_eq_true rfl, Nat.le_of_ble_eq_true rfl⟩) (m_preV 3 9 rfl rfl hK hw [9, 10] rfl rfl) rfl rfl hl.1 rfl (lv_room (Nat.le_of_ble_eq_true rfl)) d_U_comeToConflict_85 ⟨Nat.zero_le _, Nat.zero_le _⟩) (w2 := (fun (u : Int32 × Int32 × (Nat → Int32)) => [(k_G cA ad G_size G_inputs), (k_G_kinds cA ad G_kinds), (k_G_lefts cA ad G_lefts), (k_G_rights cA ad G_rights), (k_F cA ad F_size), (k_F_kinds cA ad F_kinds), (k_F_sizes cA ad F_sizes), (k_F_literals cA ad F_literals), (k_F_leftOut cA ad F_leftOut), (k_U cA ad u.1 u.2.1), (k_U_told cA ad u.2.2)])) (wr := [(k_G cA ad G_size G_inputs), (k_G_kinds cA ad G_kinds), (k_G_lefts cA ad G_lefts), (k_G_rights cA ad G_rights), (k_F cA ad F_size), (k_F_kinds cA ad F_kinds), (k_F_sizes cA ad F_sizes), (k_F_literals cA ad F_literals), (k_F_leftOut cA ad F_leftOut)]) hw hA [9, 10] [0, 1, 2, 3, 4, 5, 6, 7, 8] [0, 1, 2, 3, 4, 5, 6, 7, 8, 9, 10] rfl rfl (by decide) (by decide) (by decide) (fun _ => rfl) (fun u H locs hw h => ?_)
          obtain ⟨U_conflict_85, U_changed_85, U_told_85⟩ := u
          have hw : mW D A s.heap [(k_G cA ad G_size G_inputs), (k_G_kinds cA ad G_kinds), (k_G_lefts cA ad G_lefts), (k_G_rights cA ad G_rights), (k_F cA ad F_size), (k_F_kinds cA ad F_kinds), (k_F_sizes cA ad F_sizes), (k_F_literals cA ad F_literals), (k_F_leftOut cA ad F_leftOut), (k_U cA ad U_conflict_85 U_changed_85), (k_U_told cA ad U_told_85)] H locs := hw
          refine lv_goto (tgt := 127) hx hb d_U_comeToConflict_88 (by decide) ?_
          exact j127 _ _ _ _ _ _ _ _ h hw (lv_sub hl [0, 1, 2, 3] rfl)
  have hc135 : ∀ (x2 : Int32) (x3 : Int32) (U_conflict : Int32) (U_changed : Int32) (U_told : (Nat → Int32)), s_U_comeToConflict_135 G_size G_kinds G_lefts G_rights F_kinds F_sizes F_literals F_leftOut p1 C7 C34 C135 post x2 x3 U_conflict U_changed U_told → C135 x2 x3 U_conflict U_changed U_told := by
    intro x2 x3 U_conflict U_changed U_told h
    unfold s_U_comeToConflict_135 at h
    refine (hC135 _ _ _ _ _).2 ?_
    intro H locs ls hw hl
    refine lv_iload_n hx hb d_U_comeToConflict_135 rfl (lv_at hl 3 rfl) ?_
    refine lv_iload_n hx hb d_U_comeToConflict_136 rfl (lv_at hl 1 rfl) ?_
    refine lv_icmp_ge (tgt := 211) hx hb d_U_comeToConflict_137 (by decide) (fun hc => ?_) (fun hc => ?_)
    · have h := h.1 hc
      exact j211 _ _ _ _ _ _ _ h hw (lv_sub hl [0, 1, 2] rfl)
    · have h := h.2 hc
      refine lv_aload_n hx hb d_U_comeToConflict_140 rfl (lv_at hl 0 rfl) ?_
      refine va_get (D := D) (ci := 3) (v := .int U_conflict) (C := R_U) (T := T_U) (N := 5) hx hb hts (fun w h => List.mem_cons_of_mem _ (iw_U w h)) hown hK.1 hw.1 9 rfl rfl 3 (by decide) (hg gm_102) (fun _ h9 => h9) rfl d_U_comeToConflict_141 ?_
      refine lv_if_ne (tgt := 211) hx hb d_U_comeToConflict_144 (by decide) (fun hc => ?_) (fun hc => ?_)
      · have h := h.2 hc
        exact j211 _ _ _ _ _ _ _ h hw (lv_sub hl [0, 1, 2] rfl)
      · have h := h.1 hc
        refine lv_aload_n hx hb d_U_comeToConflict_147 rfl (lv_at hl 0 rfl) ?_
        refine va_get (D := D) (ci := 3) (v := .ref (ad 6)) (C := R_U) (T := T_U) (N := 5) hx hb hts (fun w h => List.mem_cons_of_mem _ (iw_U w h)) hown hK.1 hw.1 9 rfl rfl 1 (by decide) (hg gm_99) (fun _ h9 => h9) rfl d_U_comeToConflict_148 ?_
        refine va_getN (D := D) (ci := 2) (v := .ref (ad 10)) (C := R_F) (T := T_F) (N := 5) hx hb hts (fun w h => List.mem_cons_of_mem _ (iw_F w h)) hown hK.1 hw.1 4 rfl rfl 3 (by decide) (va_Nw.use rfl (hK.2 _ nw_75)) (fun _ h9 => h9) rfl d_U_comeToConflict_151 ?_
        refine lv_iload_n hx hb d_U_comeToConflict_154 rfl (lv_at hl 3 rfl) ?_
        refine va_zald hx hb hK.1 hw.1 8 1 rfl rfl h.1 d_U_comeToConflict_155 ?_
        have h := h.2
        refine lv_if_eq (tgt := 162) hx hb d_U_comeToConflict_156 (by decide) (fun hc => ?_) (fun hc => ?_)
        · have h := h.1 hc
          refine lv_aload_n hx hb d_U_comeToConflict_162 rfl (lv_at hl 0 rfl) ?_
          refine va_get (D := D) (ci := 3) (v := .ref (ad 6)) (C := R_U) (T := T_U) (N := 5) hx hb hts (fun w h => List.mem_cons_of_mem _ (iw_U w h)) hown hK.1 hw.1 9 rfl rfl 1 (by decide) (hg gm_99) (fun _ h9 => h9) rfl d_U_comeToConflict_163 ?_
          refine va_getN (D := D) (ci := 2) (v := .ref (ad 7)) (C := R_F) (T := T_F) (N := 5) hx hb hts (fun w h => List.mem_cons_of_mem _ (iw_F w h)) hown hK.1 hw.1 4 rfl rfl 0 (by decide) (va_Nw.use rfl (hK.2 _ nw_65)) (fun _ h9 => h9) rfl d_U_comeToConflict_166 ?_
          refine lv_iload_n hx hb d_U_comeToConflict_169 rfl (lv_at hl 3 rfl) ?_
          refine va_iald hx hb hK.1 hw.1 5 0 rfl rfl h.1 d_U_comeToConflict_170 ?_
          have h := h.2
          refine lv_iconst (v := 1) hx hb d_U_comeToConflict_171 (by decide) ?_
          refine lv_icmp_ne (tgt := 200) hx hb d_U_comeToConflict_172 (by decide) (fun hc => ?_) (fun hc => ?_)
          · have h := h.2 hc
            refine lv_aload_n hx hb d_U_comeToConflict_200 rfl (lv_at hl 0 rfl) ?_
            refine lv_iload_n hx hb d_U_comeToConflict_201 rfl (lv_at hl 3 rfl) ?_
            refine m_callv (hr := va_runV (As := [.int x3]) (rest := []) ⟨hx, hb, hml, hown, hts⟩ (c_U_stepClause l D cA ad _ F_size F_sizes F_literals U_conflict U_changed U_told x3 _ h) (cwV 1 hts (ginV gm_452 gm_454 gs_33 gm_4 gm_455) rfl rfl rfl (by decide +kernel) ⟨Nat.le_of_ble_eq_true rfl, Nat.le_of_ble_eq_true rfl⟩) (m_preV 3 9 rfl rfl hK hw [4, 6, 7, 9, 10] rfl rfl) rfl rfl hl.1 rfl (lv_room (Nat.le_of_ble_eq_true rfl)) d_U_comeToConflict_202 ⟨Nat.zero_le _, Nat.zero_le _⟩) (w2 := (fun (u : Int32 × Int32 × (Nat → Int32)) => [(k_G cA ad G_size G_inputs), (k_G_kinds cA ad G_kinds), (k_G_lefts cA ad G_lefts), (k_G_rights cA ad G_rights), (k_F cA ad F_size), (k_F_kinds cA ad F_kinds), (k_F_sizes cA ad F_sizes), (k_F_literals cA ad F_literals), (k_F_leftOut cA ad F_leftOut), (k_U cA ad u.1 u.2.1), (k_U_told cA ad u.2.2)])) (wr := [(k_G cA ad G_size G_inputs), (k_G_kinds cA ad G_kinds), (k_G_lefts cA ad G_lefts), (k_G_rights cA ad G_rights), (k_F_kinds cA ad F_kinds), (k_F_leftOut cA ad F_leftOut)]) hw hA [4, 6, 7, 9, 10] [0, 1, 2, 3, 5, 8] [0, 1, 2, 3, 6, 4, 7, 8, 5, 9, 10] rfl rfl (by decide) (by decide) (by decide) (fun _ => rfl) (fun u H locs hw h => ?_)
            obtain ⟨U_conflict_202, U_changed_202, U_told_202⟩ := u
            have hw : mW D A s.heap [(k_G cA ad G_size G_inputs), (k_G_kinds cA ad G_kinds), (k_G_lefts cA ad G_lefts), (k_G_rights cA ad G_rights), (k_F cA ad F_size), (k_F_kinds cA ad F_kinds), (k_F_sizes cA ad F_sizes), (k_F_literals cA ad F_literals), (k_F_leftOut cA ad F_leftOut), (k_U cA ad U_conflict_202 U_changed_202), (k_U_told cA ad U_told_202)] H locs := hw
            exact j205 _ _ _ _ _ _ _ _ h hw (lv_sub hl [0, 1, 2, 3] rfl)
          · have h := h.1 hc
            refine lv_aload_n hx hb d_U_comeToConflict_175 rfl (lv_at hl 0 rfl) ?_
            refine lv_aload_n hx hb d_U_comeToConflict_176 rfl (lv_at hl 0 rfl) ?_
            refine va_get (D := D) (ci := 3) (v := .ref (ad 6)) (C := R_U) (T := T_U) (N := 5) hx hb hts (fun w h => List.mem_cons_of_mem _ (iw_U w h)) hown hK.1 hw.1 9 rfl rfl 1 (by decide) (hg gm_99) (fun _ h9 => h9) rfl d_U_comeToConflict_177 ?_
            refine lv_iload_n hx hb d_U_comeToConflict_180 rfl (lv_at hl 3 rfl) ?_
            refine lv_iconst (v := 0) hx hb d_U_comeToConflict_181 (by decide) ?_
            refine m_calli (hr := va_runVN (As := [.int x3, .int 0]) (rest := [.ref (ad 11)]) ⟨hx, hb, hml, hown, hts⟩ (c_F_literalOf l D cA ad _ F_size F_literals x3 0 _ h) ⟨va_cnB 2 hts (gin gm_235) rfl rfl rfl (hK.2 _ nw_416) (hg gm_3) (by decide +kernel) ⟨Nat.le_of_ble_eq_true rfl, Nat.le_of_ble_eq_true rfl⟩, hg gm_234, hg gs_16⟩ (m_preV 2 4 rfl rfl hK hw [4, 7] rfl rfl) rfl rfl hl.1 rfl (lv_room (Nat.le_of_ble_eq_true rfl)) d_U_comeToConflict_182 ⟨Nat.zero_le _, Nat.zero_le _⟩) (w2 := (fun (_ : Unit) => [(k_G cA ad G_size G_inputs), (k_G_kinds cA ad G_kinds), (k_G_lefts cA ad G_lefts), (k_G_rights cA ad G_rights), (k_F cA ad F_size), (k_F_kinds cA ad F_kinds), (k_F_sizes cA ad F_sizes), (k_F_literals cA ad F_literals), (k_F_leftOut cA ad F_leftOut), (k_U cA ad U_conflict U_changed), (k_U_told cA ad U_told)])) (wr := [(k_G cA ad G_size G_inputs), (k_G_kinds cA ad G_kinds), (k_G_lefts cA ad G_lefts), (k_G_rights cA ad G_rights), (k_F_kinds cA ad F_kinds), (k_F_sizes cA ad F_sizes), (k_F_leftOut cA ad F_leftOut), (k_U cA ad U_conflict U_changed), (k_U_told cA ad U_told)]) hw hA [4, 7] [0, 1, 2, 3, 5, 6, 8, 9, 10] [0, 1, 2, 3, 9, 4, 5, 10, 6, 7, 8] rfl rfl (by decide) (by decide) (by decide) (fun _ => rfl) (fun r182 u H locs hw h => ?_)
            refine lv_aload_n hx hb d_U_comeToConflict_185 rfl (lv_at hl 0 rfl) ?_
            refine va_get (D := D) (ci := 3) (v := .ref (ad 6)) (C := R_U) (T := T_U) (N := 5) hx hb hts (fun w h => List.mem_cons_of_mem _ (iw_U w h)) hown hK.1 hw.1 9 rfl rfl 1 (by decide) (hg gm_99) (fun _ h9 => h9) rfl d_U_comeToConflict_186 ?_
            refine lv_iload_n hx hb d_U_comeToConflict_189 rfl (lv_at hl 3 rfl) ?_
            refine lv_iconst (v := 1) hx hb d_U_comeToConflict_190 (by decide) ?_
            refine m_calli (hr := va_runVN (As := [.int x3, .int 1]) (rest := [.int r182, .ref (ad 11)]) ⟨hx, hb, hml, hown, hts⟩ (c_F_literalOf l D cA ad _ F_size F_literals x3 1 _ h) ⟨va_cnB 2 hts (gin gm_235) rfl rfl rfl (hK.2 _ nw_416) (hg gm_3) (by decide +kernel) ⟨Nat.le_of_ble_eq_true rfl, Nat.le_of_ble_eq_true rfl⟩, hg gm_234, hg gs_16⟩ (m_preV 2 4 rfl rfl hK hw [4, 7] rfl rfl) rfl rfl hl.1 rfl (lv_room (Nat.le_of_ble_eq_true rfl)) d_U_comeToConflict_191 ⟨Nat.zero_le _, Nat.zero_le _⟩) (w2 := (fun (_ : Unit) => [(k_G cA ad G_size G_inputs), (k_G_kinds cA ad G_kinds), (k_G_lefts cA ad G_lefts), (k_G_rights cA ad G_rights), (k_F cA ad F_size), (k_F_kinds cA ad F_kinds), (k_F_sizes cA ad F_sizes), (k_F_literals cA ad F_literals), (k_F_leftOut cA ad F_leftOut), (k_U cA ad U_conflict U_changed), (k_U_told cA ad U_told)])) (wr := [(k_G cA ad G_size G_inputs), (k_G_kinds cA ad G_kinds), (k_G_lefts cA ad G_lefts), (k_G_rights cA ad G_rights), (k_F_kinds cA ad F_kinds), (k_F_sizes cA ad F_sizes), (k_F_leftOut cA ad F_leftOut), (k_U cA ad U_conflict U_changed), (k_U_told cA ad U_told)]) hw hA [4, 7] [0, 1, 2, 3, 5, 6, 8, 9, 10] [0, 1, 2, 3, 9, 4, 5, 10, 6, 7, 8] rfl rfl (by decide) (by decide) (by decide) (fun _ => rfl) (fun r191 u H locs hw h => ?_)
            refine m_callv (hr := va_runV (As := [.int r182, .int r191]) (rest := []) ⟨hx, hb, hml, hown, hts⟩ (c_U_stepEquality l D cA ad _ U_conflict U_changed U_told r182 r191 _ h) (cwV 2 hts (ginV gm_448 gm_450 gs_32 gm_4 gm_451) rfl rfl rfl (by decide +kernel) ⟨Nat.le_of_ble_eq_true rfl, Nat.le_of_ble_eq_true rfl⟩) (m_preV 3 9 rfl rfl hK hw [9, 10] rfl rfl) rfl rfl hl.1 rfl (lv_room (Nat.le_of_ble_eq_true rfl)) d_U_comeToConflict_194 ⟨Nat.zero_le _, Nat.zero_le _⟩) (w2 := (fun (u : Int32 × Int32 × (Nat → Int32)) => [(k_G cA ad G_size G_inputs), (k_G_kinds cA ad G_kinds), (k_G_lefts cA ad G_lefts), (k_G_rights cA ad G_rights), (k_F cA ad F_size), (k_F_kinds cA ad F_kinds), (k_F_sizes cA ad F_sizes), (k_F_literals cA ad F_literals), (k_F_leftOut cA ad F_leftOut), (k_U cA ad u.1 u.2.1), (k_U_told cA ad u.2.2)])) (wr := [(k_G cA ad G_size G_inputs), (k_G_kinds cA ad G_kinds), (k_G_lefts cA ad G_lefts), (k_G_rights cA ad G_rights), (k_F cA ad F_size), (k_F_kinds cA ad F_kinds), (k_F_sizes cA ad F_sizes), (k_F_literals cA ad F_literals), (k_F_leftOut cA ad F_leftOut)]) hw hA [9, 10] [0, 1, 2, 3, 4, 5, 6, 7, 8] [0, 1, 2, 3, 4, 5, 6, 7, 8, 9, 10] rfl rfl (by decide) (by decide) (by decide) (fun _ => rfl) (fun u H locs hw h => ?_)
            obtain ⟨U_conflict_194, U_changed_194, U_told_194⟩ := u
            have hw : mW D A s.heap [(k_G cA ad G_size G_inputs), (k_G_kinds cA ad G_kinds), (k_G_lefts cA ad G_lefts), (k_G_rights cA ad G_rights), (k_F cA ad F_size), (k_F_kinds cA ad F_kinds), (k_F_sizes cA ad F_sizes), (k_F_literals cA ad F_literals), (k_F_leftOut cA ad F_leftOut), (k_U cA ad U_conflict_194 U_changed_194), (k_U_told cA ad U_told_194)] H locs := hw
            refine lv_goto (tgt := 205) hx hb d_U_comeToConflict_197 (by decide) ?_
            exact j205 _ _ _ _ _ _ _ _ h hw (lv_sub hl [0, 1, 2, 3] rfl)
        · have h := h.2 hc
          refine lv_goto (tgt := 205) hx hb d_U_comeToConflict_159 (by decide) ?_
          exact j205 _ _ _ _ _ _ _ _ h hw (lv_sub hl [0, 1, 2, 3] rfl)
  unfold wp_U_comeToConflict at h
  have h := h C7 C34 C135 hc7 hc34 hc135
  refine lv_aload_n hx hb d_U_comeToConflict_0 rfl (lv_at hl 0 rfl) ?_
  refine lv_iconst (v := 1) hx hb d_U_comeToConflict_1 (by decide) ?_
  refine m_put (ws' := [(k_G cA ad G_size G_inputs), (k_G_kinds cA ad G_kinds), (k_G_lefts cA ad G_lefts), (k_G_rights cA ad G_rights), (k_F cA ad F_size), (k_F_kinds cA ad F_kinds), (k_F_sizes cA ad F_sizes), (k_F_literals cA ad F_literals), (k_F_leftOut cA ad F_leftOut), (k_U cA ad U_conflict 1), (k_U_told cA ad U_told)]) (ci := 3) (v := .int 1) (ty := .boolean) (C := R_U) (T := T_U) (N := 5) hx hb hts (fun w h => List.mem_cons_of_mem _ (iw_U w h)) ty_U tyok_U nm_U hown hK.1 hw 9 rfl rfl 4 (by decide) (hg gm_103) (fun _ h9 => h9) rfl (by decide +kernel) rfl rfl (Nat.le_of_ble_eq_true rfl) rfl d_U_comeToConflict_2 (fun H locs hw => ?_)
  refine lv_iconst (v := 0) hx hb d_U_comeToConflict_5 (by decide) ?_
  refine lv_istore_n (lv' := [(2, .int 0), (0, .ref (ad 11)), (1, .int p1)]) hx hb d_U_comeToConflict_6 rfl hl (by decide) rfl (fun ls hl => ?_)
  exact (hC7 _ _ _ _).1 h _ _ _ hw (lv_sub hl [1, 2, 0] rfl)
def rm_U_literalFollows : Room := { frames := 3, cells := 0, slots := 0, locals := 73 }
set_option maxHeartbeats 4000000 in
set_option maxRecDepth 100000 in
theorem c_U_literalFollows (l : Launch) (D : va_G) (cA : Nat → ClassId) (ad : Nat → Nat) (sz : Nat) (G_size : Int32) (G_inputs : Int32) (G_kinds : (Nat → Int32)) (G_lefts : (Nat → Int32)) (G_rights : (Nat → Int32)) (F_size : Int32) (F_kinds : (Nat → Int32)) (F_sizes : (Nat → Int32)) (F_literals : (Nat → Int32)) (F_leftOut : (Nat → Int32)) (U_conflict : Int32) (U_changed : Int32) (U_told : (Nat → Int32)) (p1 : Int32) (post : Int32 → Int32 → Int32 → (Nat → Int32) → Prop) (h : wp_U_literalFollows G_size G_kinds G_lefts G_rights F_size F_kinds F_sizes F_literals F_leftOut U_conflict U_changed U_told p1 post) : Met l y_U_literalFollows w_U_literalFollows rm_U_literalFollows (mPc D cA [.ref (ad 11), .int p1] [(k_G cA ad G_size G_inputs), (k_G_kinds cA ad G_kinds), (k_G_lefts cA ad G_lefts), (k_G_rights cA ad G_rights), (k_F cA ad F_size), (k_F_kinds cA ad F_kinds), (k_F_sizes cA ad F_sizes), (k_F_literals cA ad F_literals), (k_F_leftOut cA ad F_leftOut), (k_U cA ad U_conflict U_changed), (k_U_told cA ad U_told)] sz) (va_Qi (fun (r : Int32) (u : Int32 × Int32 × (Nat → Int32)) => post r u.1 u.2.1 u.2.2) (mB D (va_A [(k_G cA ad G_size G_inputs), (k_G_kinds cA ad G_kinds), (k_G_lefts cA ad G_lefts), (k_G_rights cA ad G_rights), (k_F cA ad F_size), (k_F_kinds cA ad F_kinds), (k_F_sizes cA ad F_sizes), (k_F_literals cA ad F_literals), (k_F_leftOut cA ad F_leftOut), (k_U cA ad U_conflict U_changed), (k_U_told cA ad U_told)] sz) (fun (u : Int32 × Int32 × (Nat → Int32)) => [(k_G cA ad G_size G_inputs), (k_G_kinds cA ad G_kinds), (k_G_lefts cA ad G_lefts), (k_G_rights cA ad G_rights), (k_F cA ad F_size), (k_F_kinds cA ad F_kinds), (k_F_sizes cA ad F_sizes), (k_F_literals cA ad F_literals), (k_F_leftOut cA ad F_leftOut), (k_U cA ad u.1 u.2.1), (k_U_told cA ad u.2.2)])) (va_A [(k_G cA ad G_size G_inputs), (k_G_kinds cA ad G_kinds), (k_G_lefts cA ad G_lefts), (k_G_rights cA ad G_rights), (k_F cA ad F_size), (k_F_kinds cA ad F_kinds), (k_F_sizes cA ad F_sizes), (k_F_literals cA ad F_literals), (k_F_leftOut cA ad F_leftOut), (k_U cA ad U_conflict U_changed), (k_U_told cA ad U_told)] sz)) 0 0 (va_A [(k_G cA ad G_size G_inputs), (k_G_kinds cA ad G_kinds), (k_G_lefts cA ad G_lefts), (k_G_rights cA ad G_rights), (k_F cA ad F_size), (k_F_kinds cA ad F_kinds), (k_F_sizes cA ad F_sizes), (k_F_literals cA ad F_literals), (k_F_leftOut cA ad F_leftOut), (k_U cA ad U_conflict U_changed), (k_U_told cA ad U_told)] sz) := by
  refine m_methZ (by decide) rfl (Nat.le_of_ble_eq_true rfl) ?_
  intro p e s m below meth c A Q ls hx hb hml hown hts hK hA hw hl hE
  have hl : lv_has ls 2 [(0, .ref (ad 11)), (1, .int p1)] := hl
  have hown : s.vm.findClass R_U = some m.cls := hown
  have hg : ∀ {w : Cond}, w ∈ gw → w.before _ s = true := fun h => hts _ (List.mem_cons_of_mem _ h)
  unfold wp_U_literalFollows at h
  refine lv_aload_n hx hb d_U_literalFollows_0 rfl (lv_at hl 0 rfl) ?_
  refine m_callv (hr := va_runV (As := []) (rest := []) ⟨hx, hb, hml, hown, hts⟩ (c_U_begin l D cA ad _ U_conflict U_changed U_told _ h) (cwV 0 hts (ginV gm_421 gm_423 gs_26 gm_4 gm_424) rfl rfl rfl (by decide +kernel) ⟨Nat.le_of_ble_eq_true rfl, Nat.le_of_ble_eq_true rfl⟩) (m_preV 3 9 rfl rfl hK hw [9, 10] rfl rfl) rfl rfl hl.1 rfl (lv_room (Nat.le_of_ble_eq_true rfl)) d_U_literalFollows_1 ⟨Nat.zero_le _, Nat.zero_le _⟩) (w2 := (fun (u : Int32 × (Nat → Int32)) => [(k_G cA ad G_size G_inputs), (k_G_kinds cA ad G_kinds), (k_G_lefts cA ad G_lefts), (k_G_rights cA ad G_rights), (k_F cA ad F_size), (k_F_kinds cA ad F_kinds), (k_F_sizes cA ad F_sizes), (k_F_literals cA ad F_literals), (k_F_leftOut cA ad F_leftOut), (k_U cA ad u.1 U_changed), (k_U_told cA ad u.2)])) (wr := [(k_G cA ad G_size G_inputs), (k_G_kinds cA ad G_kinds), (k_G_lefts cA ad G_lefts), (k_G_rights cA ad G_rights), (k_F cA ad F_size), (k_F_kinds cA ad F_kinds), (k_F_sizes cA ad F_sizes), (k_F_literals cA ad F_literals), (k_F_leftOut cA ad F_leftOut)]) hw hA [9, 10] [0, 1, 2, 3, 4, 5, 6, 7, 8] [0, 1, 2, 3, 4, 5, 6, 7, 8, 9, 10] rfl rfl (by decide) (by decide) (by decide) (fun _ => rfl) (fun u H locs hw h => ?_)
  obtain ⟨U_conflict_1, U_told_1⟩ := u
  have hw : mW D A s.heap [(k_G cA ad G_size G_inputs), (k_G_kinds cA ad G_kinds), (k_G_lefts cA ad G_lefts), (k_G_rights cA ad G_rights), (k_F cA ad F_size), (k_F_kinds cA ad F_kinds), (k_F_sizes cA ad F_sizes), (k_F_literals cA ad F_literals), (k_F_leftOut cA ad F_leftOut), (k_U cA ad U_conflict_1 U_changed), (k_U_told cA ad U_told_1)] H locs := hw
  refine lv_aload_n hx hb d_U_literalFollows_4 rfl (lv_at hl 0 rfl) ?_
  refine lv_iload_n hx hb d_U_literalFollows_5 rfl (lv_at hl 1 rfl) ?_
  refine lv_iconst (v := 0) hx hb d_U_literalFollows_6 (by decide) ?_
  refine m_callv (hr := va_runV (As := [.int p1, .int 0]) (rest := []) ⟨hx, hb, hml, hown, hts⟩ (c_U_tell l D cA ad _ U_conflict_1 U_changed U_told_1 p1 0 _ h) (cwV 2 hts (ginV gm_428 gm_430 gs_27 gm_4 gm_431) rfl rfl rfl (by decide +kernel) ⟨Nat.le_of_ble_eq_true rfl, Nat.le_of_ble_eq_true rfl⟩) (m_preV 3 9 rfl rfl hK hw [9, 10] rfl rfl) rfl rfl hl.1 rfl (lv_room (Nat.le_of_ble_eq_true rfl)) d_U_literalFollows_7 ⟨Nat.zero_le _, Nat.zero_le _⟩) (w2 := (fun (u : Int32 × Int32 × (Nat → Int32)) => [(k_G cA ad G_size G_inputs), (k_G_kinds cA ad G_kinds), (k_G_lefts cA ad G_lefts), (k_G_rights cA ad G_rights), (k_F cA ad F_size), (k_F_kinds cA ad F_kinds), (k_F_sizes cA ad F_sizes), (k_F_literals cA ad F_literals), (k_F_leftOut cA ad F_leftOut), (k_U cA ad u.1 u.2.1), (k_U_told cA ad u.2.2)])) (wr := [(k_G cA ad G_size G_inputs), (k_G_kinds cA ad G_kinds), (k_G_lefts cA ad G_lefts), (k_G_rights cA ad G_rights), (k_F cA ad F_size), (k_F_kinds cA ad F_kinds), (k_F_sizes cA ad F_sizes), (k_F_literals cA ad F_literals), (k_F_leftOut cA ad F_leftOut)]) hw hA [9, 10] [0, 1, 2, 3, 4, 5, 6, 7, 8] [0, 1, 2, 3, 4, 5, 6, 7, 8, 9, 10] rfl rfl (by decide) (by decide) (by decide) (fun _ => rfl) (fun u H locs hw h => ?_)
  obtain ⟨U_conflict_7, U_changed_7, U_told_7⟩ := u
  have hw : mW D A s.heap [(k_G cA ad G_size G_inputs), (k_G_kinds cA ad G_kinds), (k_G_lefts cA ad G_lefts), (k_G_rights cA ad G_rights), (k_F cA ad F_size), (k_F_kinds cA ad F_kinds), (k_F_sizes cA ad F_sizes), (k_F_literals cA ad F_literals), (k_F_leftOut cA ad F_leftOut), (k_U cA ad U_conflict_7 U_changed_7), (k_U_told cA ad U_told_7)] H locs := hw
  refine lv_aload_n hx hb d_U_literalFollows_10 rfl (lv_at hl 0 rfl) ?_
  refine lv_aload_n hx hb d_U_literalFollows_11 rfl (lv_at hl 0 rfl) ?_
  refine va_get (D := D) (ci := 3) (v := .ref (ad 6)) (C := R_U) (T := T_U) (N := 5) hx hb hts (fun w h => List.mem_cons_of_mem _ (iw_U w h)) hown hK.1 hw.1 9 rfl rfl 1 (by decide) (hg gm_99) (fun _ h9 => h9) rfl d_U_literalFollows_12 ?_
  refine va_getN (D := D) (ci := 2) (v := .int F_size) (C := R_F) (T := T_F) (N := 5) hx hb hts (fun w h => List.mem_cons_of_mem _ (iw_F w h)) hown hK.1 hw.1 4 rfl rfl 4 (by decide) (va_Nw.use rfl (hK.2 _ nw_79)) (fun _ h9 => h9) rfl d_U_literalFollows_15 ?_
  refine m_calli (hr := va_runV (As := [.int F_size]) (rest := []) ⟨hx, hb, hml, hown, hts⟩ (c_U_comeToConflict l D cA ad _ G_size G_inputs G_kinds G_lefts G_rights F_size F_kinds F_sizes F_literals F_leftOut U_conflict_7 U_changed_7 U_told_7 F_size _ h) (cwV 1 hts (ginV gm_432 gm_434 gs_28 gm_4 gm_435) rfl rfl rfl (by decide +kernel) ⟨Nat.le_of_ble_eq_true rfl, Nat.le_of_ble_eq_true rfl⟩) (m_preV 3 9 rfl rfl hK hw [0, 1, 2, 3, 4, 5, 6, 7, 8, 9, 10] rfl rfl) rfl rfl hl.1 rfl (lv_room (Nat.le_of_ble_eq_true rfl)) d_U_literalFollows_18 ⟨Nat.zero_le _, Nat.zero_le _⟩) (w2 := (fun (u : Int32 × Int32 × (Nat → Int32)) => [(k_G cA ad G_size G_inputs), (k_G_kinds cA ad G_kinds), (k_G_lefts cA ad G_lefts), (k_G_rights cA ad G_rights), (k_F cA ad F_size), (k_F_kinds cA ad F_kinds), (k_F_sizes cA ad F_sizes), (k_F_literals cA ad F_literals), (k_F_leftOut cA ad F_leftOut), (k_U cA ad u.1 u.2.1), (k_U_told cA ad u.2.2)])) (wr := []) hw hA [0, 1, 2, 3, 4, 5, 6, 7, 8, 9, 10] [] [0, 1, 2, 3, 4, 5, 6, 7, 8, 9, 10] rfl rfl (by decide) (by decide) (by decide) (fun _ => rfl) (fun r18 u H locs hw h => ?_)
  obtain ⟨U_conflict_18, U_changed_18, U_told_18⟩ := u
  have hw : mW D A s.heap [(k_G cA ad G_size G_inputs), (k_G_kinds cA ad G_kinds), (k_G_lefts cA ad G_lefts), (k_G_rights cA ad G_rights), (k_F cA ad F_size), (k_F_kinds cA ad F_kinds), (k_F_sizes cA ad F_sizes), (k_F_literals cA ad F_literals), (k_F_leftOut cA ad F_leftOut), (k_U cA ad U_conflict_18 U_changed_18), (k_U_told cA ad U_told_18)] H locs := hw
  exact hE r18 (U_conflict_18, U_changed_18, U_told_18) _ _ _ _ h.2 (isB_nar h.1) hw d_U_literalFollows_21
def rm_U_bothConflict : Room := { frames := 3, cells := 0, slots := 0, locals := 73 }
set_option maxHeartbeats 4000000 in
set_option maxRecDepth 100000 in
theorem c_U_bothConflict (l : Launch) (D : va_G) (cA : Nat → ClassId) (ad : Nat → Nat) (sz : Nat) (G_size : Int32) (G_inputs : Int32) (G_kinds : (Nat → Int32)) (G_lefts : (Nat → Int32)) (G_rights : (Nat → Int32)) (F_size : Int32) (F_kinds : (Nat → Int32)) (F_sizes : (Nat → Int32)) (F_literals : (Nat → Int32)) (F_leftOut : (Nat → Int32)) (U_conflict : Int32) (U_changed : Int32) (U_told : (Nat → Int32)) (p1 : Int32) (p2 : Int32) (p3 : Int32) (post : Int32 → Int32 → Int32 → (Nat → Int32) → Prop) (h : wp_U_bothConflict G_size G_kinds G_lefts G_rights F_kinds F_sizes F_literals F_leftOut U_conflict U_changed U_told p1 p2 p3 post) : Met l y_U_bothConflict w_U_bothConflict rm_U_bothConflict (mPc D cA [.ref (ad 11), .int p1, .int p2, .int p3] [(k_G cA ad G_size G_inputs), (k_G_kinds cA ad G_kinds), (k_G_lefts cA ad G_lefts), (k_G_rights cA ad G_rights), (k_F cA ad F_size), (k_F_kinds cA ad F_kinds), (k_F_sizes cA ad F_sizes), (k_F_literals cA ad F_literals), (k_F_leftOut cA ad F_leftOut), (k_U cA ad U_conflict U_changed), (k_U_told cA ad U_told)] sz) (va_Qi (fun (r : Int32) (u : Int32 × Int32 × (Nat → Int32)) => post r u.1 u.2.1 u.2.2) (mB D (va_A [(k_G cA ad G_size G_inputs), (k_G_kinds cA ad G_kinds), (k_G_lefts cA ad G_lefts), (k_G_rights cA ad G_rights), (k_F cA ad F_size), (k_F_kinds cA ad F_kinds), (k_F_sizes cA ad F_sizes), (k_F_literals cA ad F_literals), (k_F_leftOut cA ad F_leftOut), (k_U cA ad U_conflict U_changed), (k_U_told cA ad U_told)] sz) (fun (u : Int32 × Int32 × (Nat → Int32)) => [(k_G cA ad G_size G_inputs), (k_G_kinds cA ad G_kinds), (k_G_lefts cA ad G_lefts), (k_G_rights cA ad G_rights), (k_F cA ad F_size), (k_F_kinds cA ad F_kinds), (k_F_sizes cA ad F_sizes), (k_F_literals cA ad F_literals), (k_F_leftOut cA ad F_leftOut), (k_U cA ad u.1 u.2.1), (k_U_told cA ad u.2.2)])) (va_A [(k_G cA ad G_size G_inputs), (k_G_kinds cA ad G_kinds), (k_G_lefts cA ad G_lefts), (k_G_rights cA ad G_rights), (k_F cA ad F_size), (k_F_kinds cA ad F_kinds), (k_F_sizes cA ad F_sizes), (k_F_literals cA ad F_literals), (k_F_leftOut cA ad F_leftOut), (k_U cA ad U_conflict U_changed), (k_U_told cA ad U_told)] sz)) 0 0 (va_A [(k_G cA ad G_size G_inputs), (k_G_kinds cA ad G_kinds), (k_G_lefts cA ad G_lefts), (k_G_rights cA ad G_rights), (k_F cA ad F_size), (k_F_kinds cA ad F_kinds), (k_F_sizes cA ad F_sizes), (k_F_literals cA ad F_literals), (k_F_leftOut cA ad F_leftOut), (k_U cA ad U_conflict U_changed), (k_U_told cA ad U_told)] sz) := by
  refine m_methZ (by decide) rfl (Nat.le_of_ble_eq_true rfl) ?_
  intro p e s m below meth c A Q ls hx hb hml hown hts hK hA hw hl hE
  have hl : lv_has ls 4 [(0, .ref (ad 11)), (1, .int p1), (2, .int p2), (3, .int p3)] := hl
  have hown : s.vm.findClass R_U = some m.cls := hown
  have hg : ∀ {w : Cond}, w ∈ gw → w.before _ s = true := fun h => hts _ (List.mem_cons_of_mem _ h)
  unfold wp_U_bothConflict at h
  refine lv_aload_n hx hb d_U_bothConflict_0 rfl (lv_at hl 0 rfl) ?_
  refine m_callv (hr := va_runV (As := []) (rest := []) ⟨hx, hb, hml, hown, hts⟩ (c_U_begin l D cA ad _ U_conflict U_changed U_told _ h) (cwV 0 hts (ginV gm_421 gm_423 gs_26 gm_4 gm_424) rfl rfl rfl (by decide +kernel) ⟨Nat.le_of_ble_eq_true rfl, Nat.le_of_ble_eq_true rfl⟩) (m_preV 3 9 rfl rfl hK hw [9, 10] rfl rfl) rfl rfl hl.1 rfl (lv_room (Nat.le_of_ble_eq_true rfl)) d_U_bothConflict_1 ⟨Nat.zero_le _, Nat.zero_le _⟩) (w2 := (fun (u : Int32 × (Nat → Int32)) => [(k_G cA ad G_size G_inputs), (k_G_kinds cA ad G_kinds), (k_G_lefts cA ad G_lefts), (k_G_rights cA ad G_rights), (k_F cA ad F_size), (k_F_kinds cA ad F_kinds), (k_F_sizes cA ad F_sizes), (k_F_literals cA ad F_literals), (k_F_leftOut cA ad F_leftOut), (k_U cA ad u.1 U_changed), (k_U_told cA ad u.2)])) (wr := [(k_G cA ad G_size G_inputs), (k_G_kinds cA ad G_kinds), (k_G_lefts cA ad G_lefts), (k_G_rights cA ad G_rights), (k_F cA ad F_size), (k_F_kinds cA ad F_kinds), (k_F_sizes cA ad F_sizes), (k_F_literals cA ad F_literals), (k_F_leftOut cA ad F_leftOut)]) hw hA [9, 10] [0, 1, 2, 3, 4, 5, 6, 7, 8] [0, 1, 2, 3, 4, 5, 6, 7, 8, 9, 10] rfl rfl (by decide) (by decide) (by decide) (fun _ => rfl) (fun u H locs hw h => ?_)
  obtain ⟨U_conflict_1, U_told_1⟩ := u
  have hw : mW D A s.heap [(k_G cA ad G_size G_inputs), (k_G_kinds cA ad G_kinds), (k_G_lefts cA ad G_lefts), (k_G_rights cA ad G_rights), (k_F cA ad F_size), (k_F_kinds cA ad F_kinds), (k_F_sizes cA ad F_sizes), (k_F_literals cA ad F_literals), (k_F_leftOut cA ad F_leftOut), (k_U cA ad U_conflict_1 U_changed), (k_U_told cA ad U_told_1)] H locs := hw
  refine lv_aload_n hx hb d_U_bothConflict_4 rfl (lv_at hl 0 rfl) ?_
  refine lv_iload_n hx hb d_U_bothConflict_5 rfl (lv_at hl 1 rfl) ?_
  refine lv_iconst (v := 1) hx hb d_U_bothConflict_6 (by decide) ?_
  refine m_callv (hr := va_runV (As := [.int p1, .int 1]) (rest := []) ⟨hx, hb, hml, hown, hts⟩ (c_U_tell l D cA ad _ U_conflict_1 U_changed U_told_1 p1 1 _ h) (cwV 2 hts (ginV gm_428 gm_430 gs_27 gm_4 gm_431) rfl rfl rfl (by decide +kernel) ⟨Nat.le_of_ble_eq_true rfl, Nat.le_of_ble_eq_true rfl⟩) (m_preV 3 9 rfl rfl hK hw [9, 10] rfl rfl) rfl rfl hl.1 rfl (lv_room (Nat.le_of_ble_eq_true rfl)) d_U_bothConflict_7 ⟨Nat.zero_le _, Nat.zero_le _⟩) (w2 := (fun (u : Int32 × Int32 × (Nat → Int32)) => [(k_G cA ad G_size G_inputs), (k_G_kinds cA ad G_kinds), (k_G_lefts cA ad G_lefts), (k_G_rights cA ad G_rights), (k_F cA ad F_size), (k_F_kinds cA ad F_kinds), (k_F_sizes cA ad F_sizes), (k_F_literals cA ad F_literals), (k_F_leftOut cA ad F_leftOut), (k_U cA ad u.1 u.2.1), (k_U_told cA ad u.2.2)])) (wr := [(k_G cA ad G_size G_inputs), (k_G_kinds cA ad G_kinds), (k_G_lefts cA ad G_lefts), (k_G_rights cA ad G_rights), (k_F cA ad F_size), (k_F_kinds cA ad F_kinds), (k_F_sizes cA ad F_sizes), (k_F_literals cA ad F_literals), (k_F_leftOut cA ad F_leftOut)]) hw hA [9, 10] [0, 1, 2, 3, 4, 5, 6, 7, 8] [0, 1, 2, 3, 4, 5, 6, 7, 8, 9, 10] rfl rfl (by decide) (by decide) (by decide) (fun _ => rfl) (fun u H locs hw h => ?_)
  obtain ⟨U_conflict_7, U_changed_7, U_told_7⟩ := u
  have hw : mW D A s.heap [(k_G cA ad G_size G_inputs), (k_G_kinds cA ad G_kinds), (k_G_lefts cA ad G_lefts), (k_G_rights cA ad G_rights), (k_F cA ad F_size), (k_F_kinds cA ad F_kinds), (k_F_sizes cA ad F_sizes), (k_F_literals cA ad F_literals), (k_F_leftOut cA ad F_leftOut), (k_U cA ad U_conflict_7 U_changed_7), (k_U_told cA ad U_told_7)] H locs := hw
  refine lv_aload_n hx hb d_U_bothConflict_10 rfl (lv_at hl 0 rfl) ?_
  refine lv_iload_n hx hb d_U_bothConflict_11 rfl (lv_at hl 2 rfl) ?_
  refine lv_iconst (v := 1) hx hb d_U_bothConflict_12 (by decide) ?_
  refine m_callv (hr := va_runV (As := [.int p2, .int 1]) (rest := []) ⟨hx, hb, hml, hown, hts⟩ (c_U_tell l D cA ad _ U_conflict_7 U_changed_7 U_told_7 p2 1 _ h) (cwV 2 hts (ginV gm_428 gm_430 gs_27 gm_4 gm_431) rfl rfl rfl (by decide +kernel) ⟨Nat.le_of_ble_eq_true rfl, Nat.le_of_ble_eq_true rfl⟩) (m_preV 3 9 rfl rfl hK hw [9, 10] rfl rfl) rfl rfl hl.1 rfl (lv_room (Nat.le_of_ble_eq_true rfl)) d_U_bothConflict_13 ⟨Nat.zero_le _, Nat.zero_le _⟩) (w2 := (fun (u : Int32 × Int32 × (Nat → Int32)) => [(k_G cA ad G_size G_inputs), (k_G_kinds cA ad G_kinds), (k_G_lefts cA ad G_lefts), (k_G_rights cA ad G_rights), (k_F cA ad F_size), (k_F_kinds cA ad F_kinds), (k_F_sizes cA ad F_sizes), (k_F_literals cA ad F_literals), (k_F_leftOut cA ad F_leftOut), (k_U cA ad u.1 u.2.1), (k_U_told cA ad u.2.2)])) (wr := [(k_G cA ad G_size G_inputs), (k_G_kinds cA ad G_kinds), (k_G_lefts cA ad G_lefts), (k_G_rights cA ad G_rights), (k_F cA ad F_size), (k_F_kinds cA ad F_kinds), (k_F_sizes cA ad F_sizes), (k_F_literals cA ad F_literals), (k_F_leftOut cA ad F_leftOut)]) hw hA [9, 10] [0, 1, 2, 3, 4, 5, 6, 7, 8] [0, 1, 2, 3, 4, 5, 6, 7, 8, 9, 10] rfl rfl (by decide) (by decide) (by decide) (fun _ => rfl) (fun u H locs hw h => ?_)
  obtain ⟨U_conflict_13, U_changed_13, U_told_13⟩ := u
  have hw : mW D A s.heap [(k_G cA ad G_size G_inputs), (k_G_kinds cA ad G_kinds), (k_G_lefts cA ad G_lefts), (k_G_rights cA ad G_rights), (k_F cA ad F_size), (k_F_kinds cA ad F_kinds), (k_F_sizes cA ad F_sizes), (k_F_literals cA ad F_literals), (k_F_leftOut cA ad F_leftOut), (k_U cA ad U_conflict_13 U_changed_13), (k_U_told cA ad U_told_13)] H locs := hw
  refine lv_aload_n hx hb d_U_bothConflict_16 rfl (lv_at hl 0 rfl) ?_
  refine lv_iload_n hx hb d_U_bothConflict_17 rfl (lv_at hl 3 rfl) ?_
  refine m_calli (hr := va_runV (As := [.int p3]) (rest := []) ⟨hx, hb, hml, hown, hts⟩ (c_U_comeToConflict l D cA ad _ G_size G_inputs G_kinds G_lefts G_rights F_size F_kinds F_sizes F_literals F_leftOut U_conflict_13 U_changed_13 U_told_13 p3 _ h) (cwV 1 hts (ginV gm_432 gm_434 gs_28 gm_4 gm_435) rfl rfl rfl (by decide +kernel) ⟨Nat.le_of_ble_eq_true rfl, Nat.le_of_ble_eq_true rfl⟩) (m_preV 3 9 rfl rfl hK hw [0, 1, 2, 3, 4, 5, 6, 7, 8, 9, 10] rfl rfl) rfl rfl hl.1 rfl (lv_room (Nat.le_of_ble_eq_true rfl)) d_U_bothConflict_18 ⟨Nat.zero_le _, Nat.zero_le _⟩) (w2 := (fun (u : Int32 × Int32 × (Nat → Int32)) => [(k_G cA ad G_size G_inputs), (k_G_kinds cA ad G_kinds), (k_G_lefts cA ad G_lefts), (k_G_rights cA ad G_rights), (k_F cA ad F_size), (k_F_kinds cA ad F_kinds), (k_F_sizes cA ad F_sizes), (k_F_literals cA ad F_literals), (k_F_leftOut cA ad F_leftOut), (k_U cA ad u.1 u.2.1), (k_U_told cA ad u.2.2)])) (wr := []) hw hA [0, 1, 2, 3, 4, 5, 6, 7, 8, 9, 10] [] [0, 1, 2, 3, 4, 5, 6, 7, 8, 9, 10] rfl rfl (by decide) (by decide) (by decide) (fun _ => rfl) (fun r18 u H locs hw h => ?_)
  obtain ⟨U_conflict_18, U_changed_18, U_told_18⟩ := u
  have hw : mW D A s.heap [(k_G cA ad G_size G_inputs), (k_G_kinds cA ad G_kinds), (k_G_lefts cA ad G_lefts), (k_G_rights cA ad G_rights), (k_F cA ad F_size), (k_F_kinds cA ad F_kinds), (k_F_sizes cA ad F_sizes), (k_F_literals cA ad F_literals), (k_F_leftOut cA ad F_leftOut), (k_U cA ad U_conflict_18 U_changed_18), (k_U_told cA ad U_told_18)] H locs := hw
  exact hE r18 (U_conflict_18, U_changed_18, U_told_18) _ _ _ _ h.2 (isB_nar h.1) hw d_U_bothConflict_21
def rm_U_lineFollows : Room := { frames := 4, cells := 0, slots := 0, locals := 96 }
set_option maxHeartbeats 4000000 in
set_option maxRecDepth 100000 in
theorem c_U_lineFollows (l : Launch) (D : va_G) (cA : Nat → ClassId) (ad : Nat → Nat) (sz : Nat) (G_size : Int32) (G_inputs : Int32) (G_kinds : (Nat → Int32)) (G_lefts : (Nat → Int32)) (G_rights : (Nat → Int32)) (F_size : Int32) (F_kinds : (Nat → Int32)) (F_sizes : (Nat → Int32)) (F_literals : (Nat → Int32)) (F_leftOut : (Nat → Int32)) (U_conflict : Int32) (U_changed : Int32) (U_told : (Nat → Int32)) (p1 : Int32) (post : Int32 → Int32 → Int32 → (Nat → Int32) → Prop) (h : wp_U_lineFollows G_size G_kinds G_lefts G_rights F_kinds F_sizes F_literals F_leftOut U_conflict U_changed U_told p1 post) : Met l y_U_lineFollows w_U_lineFollows rm_U_lineFollows (mPc D cA [.ref (ad 11), .int p1] [(k_G cA ad G_size G_inputs), (k_G_kinds cA ad G_kinds), (k_G_lefts cA ad G_lefts), (k_G_rights cA ad G_rights), (k_F cA ad F_size), (k_F_kinds cA ad F_kinds), (k_F_sizes cA ad F_sizes), (k_F_literals cA ad F_literals), (k_F_leftOut cA ad F_leftOut), (k_U cA ad U_conflict U_changed), (k_U_told cA ad U_told)] sz) (va_Qi (fun (r : Int32) (u : Int32 × Int32 × (Nat → Int32)) => post r u.1 u.2.1 u.2.2) (mB D (va_A [(k_G cA ad G_size G_inputs), (k_G_kinds cA ad G_kinds), (k_G_lefts cA ad G_lefts), (k_G_rights cA ad G_rights), (k_F cA ad F_size), (k_F_kinds cA ad F_kinds), (k_F_sizes cA ad F_sizes), (k_F_literals cA ad F_literals), (k_F_leftOut cA ad F_leftOut), (k_U cA ad U_conflict U_changed), (k_U_told cA ad U_told)] sz) (fun (u : Int32 × Int32 × (Nat → Int32)) => [(k_G cA ad G_size G_inputs), (k_G_kinds cA ad G_kinds), (k_G_lefts cA ad G_lefts), (k_G_rights cA ad G_rights), (k_F cA ad F_size), (k_F_kinds cA ad F_kinds), (k_F_sizes cA ad F_sizes), (k_F_literals cA ad F_literals), (k_F_leftOut cA ad F_leftOut), (k_U cA ad u.1 u.2.1), (k_U_told cA ad u.2.2)])) (va_A [(k_G cA ad G_size G_inputs), (k_G_kinds cA ad G_kinds), (k_G_lefts cA ad G_lefts), (k_G_rights cA ad G_rights), (k_F cA ad F_size), (k_F_kinds cA ad F_kinds), (k_F_sizes cA ad F_sizes), (k_F_literals cA ad F_literals), (k_F_leftOut cA ad F_leftOut), (k_U cA ad U_conflict U_changed), (k_U_told cA ad U_told)] sz)) 0 0 (va_A [(k_G cA ad G_size G_inputs), (k_G_kinds cA ad G_kinds), (k_G_lefts cA ad G_lefts), (k_G_rights cA ad G_rights), (k_F cA ad F_size), (k_F_kinds cA ad F_kinds), (k_F_sizes cA ad F_sizes), (k_F_literals cA ad F_literals), (k_F_leftOut cA ad F_leftOut), (k_U cA ad U_conflict U_changed), (k_U_told cA ad U_told)] sz) := by
  refine m_methZ (by decide) rfl (Nat.le_of_ble_eq_true rfl) ?_
  intro p e s m below meth c A Q ls hx hb hml hown hts hK hA hw hl hE
  have hl : lv_has ls 4 [(0, .ref (ad 11)), (1, .int p1)] := hl
  have hown : s.vm.findClass R_U = some m.cls := hown
  have hg : ∀ {w : Cond}, w ∈ gw → w.before _ s = true := fun h => hts _ (List.mem_cons_of_mem _ h)
  obtain ⟨C69, hC69⟩ : ∃ C : Int32 → Int32 → Int32 → (Nat → Int32) → Prop, ∀ (x2 : Int32) (U_conflict : Int32) (U_changed : Int32) (U_told : (Nat → Int32)), C x2 U_conflict U_changed U_told ↔ (∀ (H : Heap) (locs : List Loc) (ls : Array Slot), mW D A s.heap [(k_G cA ad G_size G_inputs), (k_G_kinds cA ad G_kinds), (k_G_lefts cA ad G_lefts), (k_G_rights cA ad G_rights), (k_F cA ad F_size), (k_F_kinds cA ad F_kinds), (k_F_sizes cA ad F_sizes), (k_F_literals cA ad F_literals), (k_F_leftOut cA ad F_leftOut), (k_U cA ad U_conflict U_changed), (k_U_told cA ad U_told)] H locs → lv_has ls 4 [(0, .ref (ad 11)), (1, .int p1), (2, .int x2)] → W p l e rm_U_lineFollows s m [.ref (ad 11), .int p1].toArray below meth c H locs 0 0 Q (F0 m 69 ls [])) := ⟨_, fun _ _ _ _ => Iff.rfl⟩
  have hc69 : ∀ (x2 : Int32) (U_conflict : Int32) (U_changed : Int32) (U_told : (Nat → Int32)), s_U_lineFollows_69 G_size G_kinds G_lefts G_rights F_kinds F_sizes F_literals F_leftOut p1 C69 post x2 U_conflict U_changed U_told → C69 x2 U_conflict U_changed U_told := by
    intro x2 U_conflict U_changed U_told h
    unfold s_U_lineFollows_69 at h
    refine (hC69 _ _ _ _).2 ?_
    intro H locs ls hw hl
    refine lv_iload_n hx hb d_U_lineFollows_69 rfl (lv_at hl 2 rfl) ?_
    refine lv_aload_n hx hb d_U_lineFollows_70 rfl (lv_at hl 0 rfl) ?_
    refine va_get (D := D) (ci := 3) (v := .ref (ad 6)) (C := R_U) (T := T_U) (N := 5) hx hb hts (fun w h => List.mem_cons_of_mem _ (iw_U w h)) hown hK.1 hw.1 9 rfl rfl 1 (by decide) (hg gm_99) (fun _ h9 => h9) rfl d_U_lineFollows_71 ?_
    refine va_getN (D := D) (ci := 2) (v := .ref (ad 8)) (C := R_F) (T := T_F) (N := 5) hx hb hts (fun w h => List.mem_cons_of_mem _ (iw_F w h)) hown hK.1 hw.1 4 rfl rfl 1 (by decide) (va_Nw.use rfl (hK.2 _ nw_70)) (fun _ h9 => h9) rfl d_U_lineFollows_74 ?_
    refine lv_iload_n hx hb d_U_lineFollows_77 rfl (lv_at hl 1 rfl) ?_
    refine va_iald hx hb hK.1 hw.1 6 0 rfl rfl h.1 d_U_lineFollows_78 ?_
    have h := h.2
    refine lv_icmp_ge (tgt := 102) hx hb d_U_lineFollows_79 (by decide) (fun hc => ?_) (fun hc => ?_)
    · have h := h.1 hc
      refine lv_aload_n hx hb d_U_lineFollows_102 rfl (lv_at hl 0 rfl) ?_
      refine lv_iload_n hx hb d_U_lineFollows_103 rfl (lv_at hl 1 rfl) ?_
      refine m_calli (hr := va_runV (As := [.int p1]) (rest := []) ⟨hx, hb, hml, hown, hts⟩ (c_U_comeToConflict l D cA ad _ G_size G_inputs G_kinds G_lefts G_rights F_size F_kinds F_sizes F_literals F_leftOut U_conflict U_changed U_told p1 _ h) (cwV 1 hts (ginV gm_432 gm_434 gs_28 gm_4 gm_435) rfl rfl rfl (by decide +kernel) ⟨Nat.le_of_ble_eq_true rfl, Nat.le_of_ble_eq_true rfl⟩) (m_preV 3 9 rfl rfl hK hw [0, 1, 2, 3, 4, 5, 6, 7, 8, 9, 10] rfl rfl) rfl rfl hl.1 rfl (lv_room (Nat.le_of_ble_eq_true rfl)) d_U_lineFollows_104 ⟨Nat.zero_le _, Nat.zero_le _⟩) (w2 := (fun (u : Int32 × Int32 × (Nat → Int32)) => [(k_G cA ad G_size G_inputs), (k_G_kinds cA ad G_kinds), (k_G_lefts cA ad G_lefts), (k_G_rights cA ad G_rights), (k_F cA ad F_size), (k_F_kinds cA ad F_kinds), (k_F_sizes cA ad F_sizes), (k_F_literals cA ad F_literals), (k_F_leftOut cA ad F_leftOut), (k_U cA ad u.1 u.2.1), (k_U_told cA ad u.2.2)])) (wr := []) hw hA [0, 1, 2, 3, 4, 5, 6, 7, 8, 9, 10] [] [0, 1, 2, 3, 4, 5, 6, 7, 8, 9, 10] rfl rfl (by decide) (by decide) (by decide) (fun _ => rfl) (fun r104 u H locs hw h => ?_)
      obtain ⟨U_conflict_104, U_changed_104, U_told_104⟩ := u
      have hw : mW D A s.heap [(k_G cA ad G_size G_inputs), (k_G_kinds cA ad G_kinds), (k_G_lefts cA ad G_lefts), (k_G_rights cA ad G_rights), (k_F cA ad F_size), (k_F_kinds cA ad F_kinds), (k_F_sizes cA ad F_sizes), (k_F_literals cA ad F_literals), (k_F_leftOut cA ad F_leftOut), (k_U cA ad U_conflict_104 U_changed_104), (k_U_told cA ad U_told_104)] H locs := hw
      exact hE r104 (U_conflict_104, U_changed_104, U_told_104) _ _ _ _ h.2 (isB_nar h.1) hw d_U_lineFollows_107
    · have h := h.2 hc
      refine lv_aload_n hx hb d_U_lineFollows_82 rfl (lv_at hl 0 rfl) ?_
      refine lv_aload_n hx hb d_U_lineFollows_83 rfl (lv_at hl 0 rfl) ?_
      refine va_get (D := D) (ci := 3) (v := .ref (ad 6)) (C := R_U) (T := T_U) (N := 5) hx hb hts (fun w h => List.mem_cons_of_mem _ (iw_U w h)) hown hK.1 hw.1 9 rfl rfl 1 (by decide) (hg gm_99) (fun _ h9 => h9) rfl d_U_lineFollows_84 ?_
      refine lv_iload_n hx hb d_U_lineFollows_87 rfl (lv_at hl 1 rfl) ?_
      refine lv_iload_n hx hb d_U_lineFollows_88 rfl (lv_at hl 2 rfl) ?_
      refine m_calli (hr := va_runVN (As := [.int p1, .int x2]) (rest := [.ref (ad 11)]) ⟨hx, hb, hml, hown, hts⟩ (c_F_literalOf l D cA ad _ F_size F_literals p1 x2 _ h) ⟨va_cnB 2 hts (gin gm_235) rfl rfl rfl (hK.2 _ nw_416) (hg gm_3) (by decide +kernel) ⟨Nat.le_of_ble_eq_true rfl, Nat.le_of_ble_eq_true rfl⟩, hg gm_234, hg gs_16⟩ (m_preV 2 4 rfl rfl hK hw [4, 7] rfl rfl) rfl rfl hl.1 rfl (lv_room (Nat.le_of_ble_eq_true rfl)) d_U_lineFollows_89 ⟨Nat.zero_le _, Nat.zero_le _⟩) (w2 := (fun (_ : Unit) => [(k_G cA ad G_size G_inputs), (k_G_kinds cA ad G_kinds), (k_G_lefts cA ad G_lefts), (k_G_rights cA ad G_rights), (k_F cA ad F_size), (k_F_kinds cA ad F_kinds), (k_F_sizes cA ad F_sizes), (k_F_literals cA ad F_literals), (k_F_leftOut cA ad F_leftOut), (k_U cA ad U_conflict U_changed), (k_U_told cA ad U_told)])) (wr := [(k_G cA ad G_size G_inputs), (k_G_kinds cA ad G_kinds), (k_G_lefts cA ad G_lefts), (k_G_rights cA ad G_rights), (k_F_kinds cA ad F_kinds), (k_F_sizes cA ad F_sizes), (k_F_leftOut cA ad F_leftOut), (k_U cA ad U_conflict U_changed), (k_U_told cA ad U_told)]) hw hA [4, 7] [0, 1, 2, 3, 5, 6, 8, 9, 10] [0, 1, 2, 3, 9, 4, 5, 10, 6, 7, 8] rfl rfl (by decide) (by decide) (by decide) (fun _ => rfl) (fun r89 u H locs hw h => ?_)
      refine lv_iconst (v := 0) hx hb d_U_lineFollows_92 (by decide) ?_
      refine m_callv (hr := va_runV (As := [.int r89, .int 0]) (rest := []) ⟨hx, hb, hml, hown, hts⟩ (c_U_tell l D cA ad _ U_conflict U_changed U_told r89 0 _ h) (cwV 2 hts (ginV gm_428 gm_430 gs_27 gm_4 gm_431) rfl rfl rfl (by decide +kernel) ⟨Nat.le_of_ble_eq_true rfl, Nat.le_of_ble_eq_true rfl⟩) (m_preV 3 9 rfl rfl hK hw [9, 10] rfl rfl) rfl rfl hl.1 rfl (lv_room (Nat.le_of_ble_eq_true rfl)) d_U_lineFollows_93 ⟨Nat.zero_le _, Nat.zero_le _⟩) (w2 := (fun (u : Int32 × Int32 × (Nat → Int32)) => [(k_G cA ad G_size G_inputs), (k_G_kinds cA ad G_kinds), (k_G_lefts cA ad G_lefts), (k_G_rights cA ad G_rights), (k_F cA ad F_size), (k_F_kinds cA ad F_kinds), (k_F_sizes cA ad F_sizes), (k_F_literals cA ad F_literals), (k_F_leftOut cA ad F_leftOut), (k_U cA ad u.1 u.2.1), (k_U_told cA ad u.2.2)])) (wr := [(k_G cA ad G_size G_inputs), (k_G_kinds cA ad G_kinds), (k_G_lefts cA ad G_lefts), (k_G_rights cA ad G_rights), (k_F cA ad F_size), (k_F_kinds cA ad F_kinds), (k_F_sizes cA ad F_sizes), (k_F_literals cA ad F_literals), (k_F_leftOut cA ad F_leftOut)]) hw hA [9, 10] [0, 1, 2, 3, 4, 5, 6, 7, 8] [0, 1, 2, 3, 4, 5, 6, 7, 8, 9, 10] rfl rfl (by decide) (by decide) (by decide) (fun _ => rfl) (fun u H locs hw h => ?_)
      obtain ⟨U_conflict_93, U_changed_93, U_told_93⟩ := u
      have hw : mW D A s.heap [(k_G cA ad G_size G_inputs), (k_G_kinds cA ad G_kinds), (k_G_lefts cA ad G_lefts), (k_G_rights cA ad G_rights), (k_F cA ad F_size), (k_F_kinds cA ad F_kinds), (k_F_sizes cA ad F_sizes), (k_F_literals cA ad F_literals), (k_F_leftOut cA ad F_leftOut), (k_U cA ad U_conflict_93 U_changed_93), (k_U_told cA ad U_told_93)] H locs := hw
      refine lv_iinc (v := (x2 + 1)) (lv' := [(2, .int (x2 + 1)), (0, .ref (ad 11)), (1, .int p1)]) hx hb d_U_lineFollows_96 hl (k := 2) rfl rfl (by decide) rfl (fun ls hl => ?_)
      refine lv_goto (tgt := 69) hx hb d_U_lineFollows_99 (by decide) ?_
      exact (hC69 _ _ _ _).1 h _ _ _ hw (lv_sub hl [1, 2, 0] rfl)
  unfold wp_U_lineFollows at h
  have h := h C69 hc69
  refine lv_aload_n hx hb d_U_lineFollows_0 rfl (lv_at hl 0 rfl) ?_
  refine va_get (D := D) (ci := 3) (v := .ref (ad 6)) (C := R_U) (T := T_U) (N := 5) hx hb hts (fun w h => List.mem_cons_of_mem _ (iw_U w h)) hown hK.1 hw.1 9 rfl rfl 1 (by decide) (hg gm_99) (fun _ h9 => h9) rfl d_U_lineFollows_1 ?_
  refine va_getN (D := D) (ci := 2) (v := .ref (ad 7)) (C := R_F) (T := T_F) (N := 5) hx hb hts (fun w h => List.mem_cons_of_mem _ (iw_F w h)) hown hK.1 hw.1 4 rfl rfl 0 (by decide) (va_Nw.use rfl (hK.2 _ nw_65)) (fun _ h9 => h9) rfl d_U_lineFollows_4 ?_
  refine lv_iload_n hx hb d_U_lineFollows_7 rfl (lv_at hl 1 rfl) ?_
  refine va_iald hx hb hK.1 hw.1 5 0 rfl rfl h.1 d_U_lineFollows_8 ?_
  have h := h.2
  refine lv_iconst (v := 1) hx hb d_U_lineFollows_9 (by decide) ?_
  refine lv_icmp_ne (tgt := 63) hx hb d_U_lineFollows_10 (by decide) (fun hc => ?_) (fun hc => ?_)
  · have h := h.2 hc
    refine lv_aload_n hx hb d_U_lineFollows_63 rfl (lv_at hl 0 rfl) ?_
    refine m_callv (hr := va_runV (As := []) (rest := []) ⟨hx, hb, hml, hown, hts⟩ (c_U_begin l D cA ad _ U_conflict U_changed U_told _ h) (cwV 0 hts (ginV gm_421 gm_423 gs_26 gm_4 gm_424) rfl rfl rfl (by decide +kernel) ⟨Nat.le_of_ble_eq_true rfl, Nat.le_of_ble_eq_true rfl⟩) (m_preV 3 9 rfl rfl hK hw [9, 10] rfl rfl) rfl rfl hl.1 rfl (lv_room (Nat.le_of_ble_eq_true rfl)) d_U_lineFollows_64 ⟨Nat.zero_le _, Nat.zero_le _⟩) (w2 := (fun (u : Int32 × (Nat → Int32)) => [(k_G cA ad G_size G_inputs), (k_G_kinds cA ad G_kinds), (k_G_lefts cA ad G_lefts), (k_G_rights cA ad G_rights), (k_F cA ad F_size), (k_F_kinds cA ad F_kinds), (k_F_sizes cA ad F_sizes), (k_F_literals cA ad F_literals), (k_F_leftOut cA ad F_leftOut), (k_U cA ad u.1 U_changed), (k_U_told cA ad u.2)])) (wr := [(k_G cA ad G_size G_inputs), (k_G_kinds cA ad G_kinds), (k_G_lefts cA ad G_lefts), (k_G_rights cA ad G_rights), (k_F cA ad F_size), (k_F_kinds cA ad F_kinds), (k_F_sizes cA ad F_sizes), (k_F_literals cA ad F_literals), (k_F_leftOut cA ad F_leftOut)]) hw hA [9, 10] [0, 1, 2, 3, 4, 5, 6, 7, 8] [0, 1, 2, 3, 4, 5, 6, 7, 8, 9, 10] rfl rfl (by decide) (by decide) (by decide) (fun _ => rfl) (fun u H locs hw h => ?_)
    obtain ⟨U_conflict_64, U_told_64⟩ := u
    have hw : mW D A s.heap [(k_G cA ad G_size G_inputs), (k_G_kinds cA ad G_kinds), (k_G_lefts cA ad G_lefts), (k_G_rights cA ad G_rights), (k_F cA ad F_size), (k_F_kinds cA ad F_kinds), (k_F_sizes cA ad F_sizes), (k_F_literals cA ad F_literals), (k_F_leftOut cA ad F_leftOut), (k_U cA ad U_conflict_64 U_changed), (k_U_told cA ad U_told_64)] H locs := hw
    refine lv_iconst (v := 0) hx hb d_U_lineFollows_67 (by decide) ?_
    refine lv_istore_n (lv' := [(2, .int 0), (0, .ref (ad 11)), (1, .int p1)]) hx hb d_U_lineFollows_68 rfl hl (by decide) rfl (fun ls hl => ?_)
    exact (hC69 _ _ _ _).1 h _ _ _ hw (lv_sub hl [1, 2, 0] rfl)
  · have h := h.1 hc
    refine lv_aload_n hx hb d_U_lineFollows_13 rfl (lv_at hl 0 rfl) ?_
    refine va_get (D := D) (ci := 3) (v := .ref (ad 6)) (C := R_U) (T := T_U) (N := 5) hx hb hts (fun w h => List.mem_cons_of_mem _ (iw_U w h)) hown hK.1 hw.1 9 rfl rfl 1 (by decide) (hg gm_99) (fun _ h9 => h9) rfl d_U_lineFollows_14 ?_
    refine lv_iload_n hx hb d_U_lineFollows_17 rfl (lv_at hl 1 rfl) ?_
    refine lv_iconst (v := 0) hx hb d_U_lineFollows_18 (by decide) ?_
    refine m_calli (hr := va_runVN (As := [.int p1, .int 0]) (rest := []) ⟨hx, hb, hml, hown, hts⟩ (c_F_literalOf l D cA ad _ F_size F_literals p1 0 _ h) ⟨va_cnB 2 hts (gin gm_235) rfl rfl rfl (hK.2 _ nw_416) (hg gm_3) (by decide +kernel) ⟨Nat.le_of_ble_eq_true rfl, Nat.le_of_ble_eq_true rfl⟩, hg gm_234, hg gs_16⟩ (m_preV 2 4 rfl rfl hK hw [4, 7] rfl rfl) rfl rfl hl.1 rfl (lv_room (Nat.le_of_ble_eq_true rfl)) d_U_lineFollows_19 ⟨Nat.zero_le _, Nat.zero_le _⟩) (w2 := (fun (_ : Unit) => [(k_G cA ad G_size G_inputs), (k_G_kinds cA ad G_kinds), (k_G_lefts cA ad G_lefts), (k_G_rights cA ad G_rights), (k_F cA ad F_size), (k_F_kinds cA ad F_kinds), (k_F_sizes cA ad F_sizes), (k_F_literals cA ad F_literals), (k_F_leftOut cA ad F_leftOut), (k_U cA ad U_conflict U_changed), (k_U_told cA ad U_told)])) (wr := [(k_G cA ad G_size G_inputs), (k_G_kinds cA ad G_kinds), (k_G_lefts cA ad G_lefts), (k_G_rights cA ad G_rights), (k_F_kinds cA ad F_kinds), (k_F_sizes cA ad F_sizes), (k_F_leftOut cA ad F_leftOut), (k_U cA ad U_conflict U_changed), (k_U_told cA ad U_told)]) hw hA [4, 7] [0, 1, 2, 3, 5, 6, 8, 9, 10] [0, 1, 2, 3, 9, 4, 5, 10, 6, 7, 8] rfl rfl (by decide) (by decide) (by decide) (fun _ => rfl) (fun r19 u H locs hw h => ?_)
    refine lv_istore_n (lv' := [(2, .int r19), (0, .ref (ad 11)), (1, .int p1)]) hx hb d_U_lineFollows_22 rfl hl (by decide) rfl (fun ls hl => ?_)
    refine lv_aload_n hx hb d_U_lineFollows_23 rfl (lv_at hl 1 rfl) ?_
    refine va_get (D := D) (ci := 3) (v := .ref (ad 6)) (C := R_U) (T := T_U) (N := 5) hx hb hts (fun w h => List.mem_cons_of_mem _ (iw_U w h)) hown hK.1 hw.1 9 rfl rfl 1 (by decide) (hg gm_99) (fun _ h9 => h9) rfl d_U_lineFollows_24 ?_
    refine lv_iload_n hx hb d_U_lineFollows_27 rfl (lv_at hl 2 rfl) ?_
    refine lv_iconst (v := 1) hx hb d_U_lineFollows_28 (by decide) ?_
    refine m_calli (hr := va_runVN (As := [.int p1, .int 1]) (rest := []) ⟨hx, hb, hml, hown, hts⟩ (c_F_literalOf l D cA ad _ F_size F_literals p1 1 _ h) ⟨va_cnB 2 hts (gin gm_235) rfl rfl rfl (hK.2 _ nw_416) (hg gm_3) (by decide +kernel) ⟨Nat.le_of_ble_eq_true rfl, Nat.le_of_ble_eq_true rfl⟩, hg gm_234, hg gs_16⟩ (m_preV 2 4 rfl rfl hK hw [4, 7] rfl rfl) rfl rfl hl.1 rfl (lv_room (Nat.le_of_ble_eq_true rfl)) d_U_lineFollows_29 ⟨Nat.zero_le _, Nat.zero_le _⟩) (w2 := (fun (_ : Unit) => [(k_G cA ad G_size G_inputs), (k_G_kinds cA ad G_kinds), (k_G_lefts cA ad G_lefts), (k_G_rights cA ad G_rights), (k_F cA ad F_size), (k_F_kinds cA ad F_kinds), (k_F_sizes cA ad F_sizes), (k_F_literals cA ad F_literals), (k_F_leftOut cA ad F_leftOut), (k_U cA ad U_conflict U_changed), (k_U_told cA ad U_told)])) (wr := [(k_G cA ad G_size G_inputs), (k_G_kinds cA ad G_kinds), (k_G_lefts cA ad G_lefts), (k_G_rights cA ad G_rights), (k_F_kinds cA ad F_kinds), (k_F_sizes cA ad F_sizes), (k_F_leftOut cA ad F_leftOut), (k_U cA ad U_conflict U_changed), (k_U_told cA ad U_told)]) hw hA [4, 7] [0, 1, 2, 3, 5, 6, 8, 9, 10] [0, 1, 2, 3, 9, 4, 5, 10, 6, 7, 8] rfl rfl (by decide) (by decide) (by decide) (fun _ => rfl) (fun r29 u H locs hw h => ?_)
    refine lv_istore_n (lv' := [(3, .int r29), (2, .int r19), (0, .ref (ad 11)), (1, .int p1)]) hx hb d_U_lineFollows_32 rfl hl (by decide) rfl (fun ls hl => ?_)
    refine lv_aload_n hx hb d_U_lineFollows_33 rfl (lv_at hl 2 rfl) ?_
    refine lv_iload_n hx hb d_U_lineFollows_34 rfl (lv_at hl 1 rfl) ?_
    refine lv_iload_n hx hb d_U_lineFollows_35 rfl (lv_at hl 0 rfl) ?_
    refine lv_iconst (v := 1) hx hb d_U_lineFollows_36 (by decide) ?_
    refine lv_ixor hx hb d_U_lineFollows_37 ?_
    refine lv_iload_n hx hb d_U_lineFollows_38 rfl (lv_at hl 3 rfl) ?_
    refine m_calli (hr := va_runV (As := [.int r19, .int (r29 ^^^ 1), .int p1]) (rest := []) ⟨hx, hb, hml, hown, hts⟩ (c_U_bothConflict l D cA ad _ G_size G_inputs G_kinds G_lefts G_rights F_size F_kinds F_sizes F_literals F_leftOut U_conflict U_changed U_told r19 (r29 ^^^ 1) p1 _ h) (cwV 3 hts (ginV gm_417 gm_419 gs_25 gm_4 gm_420) rfl rfl rfl (by decide +kernel) ⟨Nat.le_of_ble_eq_true rfl, Nat.le_of_ble_eq_true rfl⟩) (m_preV 3 9 rfl rfl hK hw [0, 1, 2, 3, 4, 5, 6, 7, 8, 9, 10] rfl rfl) rfl rfl hl.1 rfl (lv_room (Nat.le_of_ble_eq_true rfl)) d_U_lineFollows_39 ⟨Nat.zero_le _, Nat.zero_le _⟩) (w2 := (fun (u : Int32 × Int32 × (Nat → Int32)) => [(k_G cA ad G_size G_inputs), (k_G_kinds cA ad G_kinds), (k_G_lefts cA ad G_lefts), (k_G_rights cA ad G_rights), (k_F cA ad F_size), (k_F_kinds cA ad F_kinds), (k_F_sizes cA ad F_sizes), (k_F_literals cA ad F_literals), (k_F_leftOut cA ad F_leftOut), (k_U cA ad u.1 u.2.1), (k_U_told cA ad u.2.2)])) (wr := []) hw hA [0, 1, 2, 3, 4, 5, 6, 7, 8, 9, 10] [] [0, 1, 2, 3, 4, 5, 6, 7, 8, 9, 10] rfl rfl (by decide) (by decide) (by decide) (fun _ => rfl) (fun r39 u H locs hw h => ?_)
    obtain ⟨U_conflict_39, U_changed_39, U_told_39⟩ := u
    have hw : mW D A s.heap [(k_G cA ad G_size G_inputs), (k_G_kinds cA ad G_kinds), (k_G_lefts cA ad G_lefts), (k_G_rights cA ad G_rights), (k_F cA ad F_size), (k_F_kinds cA ad F_kinds), (k_F_sizes cA ad F_sizes), (k_F_literals cA ad F_literals), (k_F_leftOut cA ad F_leftOut), (k_U cA ad U_conflict_39 U_changed_39), (k_U_told cA ad U_told_39)] H locs := hw
    refine lv_if_eq (tgt := 61) hx hb d_U_lineFollows_42 (by decide) (fun hc => ?_) (fun hc => ?_)
    · have h := h.1 hc
      refine lv_iconst (v := 0) hx hb d_U_lineFollows_61 (by decide) ?_
      exact hE 0 (U_conflict_39, U_changed_39, U_told_39) _ _ _ _ h rfl hw d_U_lineFollows_62
    · have h := h.2 hc
      refine lv_aload_n hx hb d_U_lineFollows_45 rfl (lv_at hl 2 rfl) ?_
      refine lv_iload_n hx hb d_U_lineFollows_46 rfl (lv_at hl 1 rfl) ?_
      refine lv_iconst (v := 1) hx hb d_U_lineFollows_47 (by decide) ?_
      refine lv_ixor hx hb d_U_lineFollows_48 ?_
      refine lv_iload_n hx hb d_U_lineFollows_49 rfl (lv_at hl 0 rfl) ?_
      refine lv_iload_n hx hb d_U_lineFollows_50 rfl (lv_at hl 3 rfl) ?_
      refine m_calli (hr := va_runV (As := [.int (r19 ^^^ 1), .int r29, .int p1]) (rest := []) ⟨hx, hb, hml, hown, hts⟩ (c_U_bothConflict l D cA ad _ G_size G_inputs G_kinds G_lefts G_rights F_size F_kinds F_sizes F_literals F_leftOut U_conflict_39 U_changed_39 U_told_39 (r19 ^^^ 1) r29 p1 _ h) (cwV 3 hts (ginV gm_417 gm_419 gs_25 gm_4 gm_420) rfl rfl rfl (by decide +kernel) ⟨Nat.le_of_ble_eq_true rfl, Nat.le_of_ble_eq_true rfl⟩) (m_preV 3 9 rfl rfl hK hw [0, 1, 2, 3, 4, 5, 6, 7, 8, 9, 10] rfl rfl) rfl rfl hl.1 rfl (lv_room (Nat.le_of_ble_eq_true rfl)) d_U_lineFollows_51 ⟨Nat.zero_le _, Nat.zero_le _⟩) (w2 := (fun (u : Int32 × Int32 × (Nat → Int32)) => [(k_G cA ad G_size G_inputs), (k_G_kinds cA ad G_kinds), (k_G_lefts cA ad G_lefts), (k_G_rights cA ad G_rights), (k_F cA ad F_size), (k_F_kinds cA ad F_kinds), (k_F_sizes cA ad F_sizes), (k_F_literals cA ad F_literals), (k_F_leftOut cA ad F_leftOut), (k_U cA ad u.1 u.2.1), (k_U_told cA ad u.2.2)])) (wr := []) hw hA [0, 1, 2, 3, 4, 5, 6, 7, 8, 9, 10] [] [0, 1, 2, 3, 4, 5, 6, 7, 8, 9, 10] rfl rfl (by decide) (by decide) (by decide) (fun _ => rfl) (fun r51 u H locs hw h => ?_)
      obtain ⟨U_conflict_51, U_changed_51, U_told_51⟩ := u
      have hw : mW D A s.heap [(k_G cA ad G_size G_inputs), (k_G_kinds cA ad G_kinds), (k_G_lefts cA ad G_lefts), (k_G_rights cA ad G_rights), (k_F cA ad F_size), (k_F_kinds cA ad F_kinds), (k_F_sizes cA ad F_sizes), (k_F_literals cA ad F_literals), (k_F_leftOut cA ad F_leftOut), (k_U cA ad U_conflict_51 U_changed_51), (k_U_told cA ad U_told_51)] H locs := hw
      refine lv_if_eq (tgt := 61) hx hb d_U_lineFollows_54 (by decide) (fun hc => ?_) (fun hc => ?_)
      · have h := h.1 hc
        refine lv_iconst (v := 0) hx hb d_U_lineFollows_61 (by decide) ?_
        exact hE 0 (U_conflict_51, U_changed_51, U_told_51) _ _ _ _ h rfl hw d_U_lineFollows_62
      · have h := h.2 hc
        refine lv_iconst (v := 1) hx hb d_U_lineFollows_57 (by decide) ?_
        refine lv_goto (tgt := 62) hx hb d_U_lineFollows_58 (by decide) ?_
        exact hE 1 (U_conflict_51, U_changed_51, U_told_51) _ _ _ _ h rfl hw d_U_lineFollows_62
end
section
theorem d_T_append_0 : decode b_T_append 0 = .ok (.aload_n 0, 1) := by decide +kernel
theorem d_T_append_1 : decode b_T_append 1 = .ok (.getfield 15, 3) := by decide +kernel
theorem d_T_append_4 : decode b_T_append 4 = .ok (.sipush 1000, 3) := by decide +kernel
theorem d_T_append_7 : decode b_T_append 7 = .ok (.if_icmp .lt 5, 3) := by decide +kernel
theorem d_T_append_10 : decode b_T_append 10 = .ok (.iconst 0, 1) := by decide +kernel
theorem d_T_append_11 : decode b_T_append 11 = .ok (.ireturn, 1) := by decide +kernel
theorem d_T_append_12 : decode b_T_append 12 = .ok (.aload_n 0, 1) := by decide +kernel
theorem d_T_append_13 : decode b_T_append 13 = .ok (.getfield 9, 3) := by decide +kernel
theorem d_T_append_16 : decode b_T_append 16 = .ok (.aload_n 0, 1) := by decide +kernel
theorem d_T_append_17 : decode b_T_append 17 = .ok (.getfield 15, 3) := by decide +kernel
theorem d_T_append_20 : decode b_T_append 20 = .ok (.iload_n 1, 1) := by decide +kernel
theorem d_T_append_21 : decode b_T_append 21 = .ok (.sipush 255, 3) := by decide +kernel
theorem d_T_append_24 : decode b_T_append 24 = .ok (.iand, 1) := by decide +kernel
theorem d_T_append_25 : decode b_T_append 25 = .ok (.iastore, 1) := by decide +kernel
theorem d_T_append_26 : decode b_T_append 26 = .ok (.aload_n 0, 1) := by decide +kernel
theorem d_T_append_27 : decode b_T_append 27 = .ok (.dup, 1) := by decide +kernel
theorem d_T_append_28 : decode b_T_append 28 = .ok (.getfield 15, 3) := by decide +kernel
theorem d_T_append_31 : decode b_T_append 31 = .ok (.iconst 1, 1) := by decide +kernel
theorem d_T_append_32 : decode b_T_append 32 = .ok (.iadd, 1) := by decide +kernel
theorem d_T_append_33 : decode b_T_append 33 = .ok (.putfield 15, 3) := by decide +kernel
theorem d_T_append_36 : decode b_T_append 36 = .ok (.iconst 1, 1) := by decide +kernel
theorem d_T_append_37 : decode b_T_append 37 = .ok (.ireturn, 1) := by decide +kernel
theorem d_T_here_0 : decode b_T_here 0 = .ok (.aload_n 0, 1) := by decide +kernel
theorem d_T_here_1 : decode b_T_here 1 = .ok (.getfield 19, 3) := by decide +kernel
theorem d_T_here_4 : decode b_T_here 4 = .ok (.aload_n 0, 1) := by decide +kernel
theorem d_T_here_5 : decode b_T_here 5 = .ok (.getfield 15, 3) := by decide +kernel
theorem d_T_here_8 : decode b_T_here 8 = .ok (.if_icmp .ge 15, 3) := by decide +kernel
theorem d_T_here_11 : decode b_T_here 11 = .ok (.aload_n 0, 1) := by decide +kernel
theorem d_T_here_12 : decode b_T_here 12 = .ok (.getfield 9, 3) := by decide +kernel
theorem d_T_here_15 : decode b_T_here 15 = .ok (.aload_n 0, 1) := by decide +kernel
theorem d_T_here_16 : decode b_T_here 16 = .ok (.getfield 19, 3) := by decide +kernel
theorem d_T_here_19 : decode b_T_here 19 = .ok (.iaload, 1) := by decide +kernel
theorem d_T_here_20 : decode b_T_here 20 = .ok (.goto 4, 3) := by decide +kernel
theorem d_T_here_23 : decode b_T_here 23 = .ok (.iconst (-1), 1) := by decide +kernel
theorem d_T_here_24 : decode b_T_here 24 = .ok (.ireturn, 1) := by decide +kernel
theorem d_T_isBlankHere_0 : decode b_T_isBlankHere 0 = .ok (.aload_n 0, 1) := by decide +kernel
theorem d_T_isBlankHere_1 : decode b_T_isBlankHere 1 = .ok (.invokevirtual 39, 3) := by decide +kernel
theorem d_T_isBlankHere_4 : decode b_T_isBlankHere 4 = .ok (.istore_n 1, 1) := by decide +kernel
theorem d_T_isBlankHere_5 : decode b_T_isBlankHere 5 = .ok (.iload_n 1, 1) := by decide +kernel
theorem d_T_isBlankHere_6 : decode b_T_isBlankHere 6 = .ok (.bipush 32, 2) := by decide +kernel
theorem d_T_isBlankHere_8 : decode b_T_isBlankHere 8 = .ok (.if_icmp .eq 15, 3) := by decide +kernel
theorem d_T_isBlankHere_11 : decode b_T_isBlankHere 11 = .ok (.iload_n 1, 1) := by decide +kernel
theorem d_T_isBlankHere_12 : decode b_T_isBlankHere 12 = .ok (.bipush 9, 2) := by decide +kernel
theorem d_T_isBlankHere_14 : decode b_T_isBlankHere 14 = .ok (.if_icmp .eq 9, 3) := by decide +kernel
theorem d_T_isBlankHere_17 : decode b_T_isBlankHere 17 = .ok (.iload_n 1, 1) := by decide +kernel
theorem d_T_isBlankHere_18 : decode b_T_isBlankHere 18 = .ok (.bipush 13, 2) := by decide +kernel
theorem d_T_isBlankHere_20 : decode b_T_isBlankHere 20 = .ok (.if_icmp .ne 7, 3) := by decide +kernel
theorem d_T_isBlankHere_23 : decode b_T_isBlankHere 23 = .ok (.iconst 1, 1) := by decide +kernel
theorem d_T_isBlankHere_24 : decode b_T_isBlankHere 24 = .ok (.goto 4, 3) := by decide +kernel
theorem d_T_isBlankHere_27 : decode b_T_isBlankHere 27 = .ok (.iconst 0, 1) := by decide +kernel
theorem d_T_isBlankHere_28 : decode b_T_isBlankHere 28 = .ok (.ireturn, 1) := by decide +kernel
theorem d_T_skipToLine_0 : decode b_T_skipToLine 0 = .ok (.aload_n 0, 1) := by decide +kernel
theorem d_T_skipToLine_1 : decode b_T_skipToLine 1 = .ok (.getfield 19, 3) := by decide +kernel
theorem d_T_skipToLine_4 : decode b_T_skipToLine 4 = .ok (.aload_n 0, 1) := by decide +kernel
theorem d_T_skipToLine_5 : decode b_T_skipToLine 5 = .ok (.getfield 15, 3) := by decide +kernel
theorem d_T_skipToLine_8 : decode b_T_skipToLine 8 = .ok (.if_icmp .ge 32, 3) := by decide +kernel
theorem d_T_skipToLine_11 : decode b_T_skipToLine 11 = .ok (.aload_n 0, 1) := by decide +kernel
theorem d_T_skipToLine_12 : decode b_T_skipToLine 12 = .ok (.invokevirtual 101, 3) := by decide +kernel
theorem d_T_skipToLine_15 : decode b_T_skipToLine 15 = .ok (.ifCond .ne 12, 3) := by decide +kernel
theorem d_T_skipToLine_18 : decode b_T_skipToLine 18 = .ok (.aload_n 0, 1) := by decide +kernel
theorem d_T_skipToLine_19 : decode b_T_skipToLine 19 = .ok (.invokevirtual 39, 3) := by decide +kernel
theorem d_T_skipToLine_22 : decode b_T_skipToLine 22 = .ok (.bipush 10, 2) := by decide +kernel
theorem d_T_skipToLine_24 : decode b_T_skipToLine 24 = .ok (.if_icmp .ne 16, 3) := by decide +kernel
theorem d_T_skipToLine_27 : decode b_T_skipToLine 27 = .ok (.aload_n 0, 1) := by decide +kernel
theorem d_T_skipToLine_28 : decode b_T_skipToLine 28 = .ok (.dup, 1) := by decide +kernel
theorem d_T_skipToLine_29 : decode b_T_skipToLine 29 = .ok (.getfield 19, 3) := by decide +kernel
theorem d_T_skipToLine_32 : decode b_T_skipToLine 32 = .ok (.iconst 1, 1) := by decide +kernel
theorem d_T_skipToLine_33 : decode b_T_skipToLine 33 = .ok (.iadd, 1) := by decide +kernel
theorem d_T_skipToLine_34 : decode b_T_skipToLine 34 = .ok (.putfield 19, 3) := by decide +kernel
theorem d_T_skipToLine_37 : decode b_T_skipToLine 37 = .ok (.goto (-37), 3) := by decide +kernel
theorem d_T_skipToLine_40 : decode b_T_skipToLine 40 = .ok (.return_, 1) := by decide +kernel
theorem d_T_skipBlanks_0 : decode b_T_skipBlanks 0 = .ok (.aload_n 0, 1) := by decide +kernel
theorem d_T_skipBlanks_1 : decode b_T_skipBlanks 1 = .ok (.getfield 19, 3) := by decide +kernel
theorem d_T_skipBlanks_4 : decode b_T_skipBlanks 4 = .ok (.aload_n 0, 1) := by decide +kernel
theorem d_T_skipBlanks_5 : decode b_T_skipBlanks 5 = .ok (.getfield 15, 3) := by decide +kernel
theorem d_T_skipBlanks_8 : decode b_T_skipBlanks 8 = .ok (.if_icmp .ge 23, 3) := by decide +kernel
theorem d_T_skipBlanks_11 : decode b_T_skipBlanks 11 = .ok (.aload_n 0, 1) := by decide +kernel
theorem d_T_skipBlanks_12 : decode b_T_skipBlanks 12 = .ok (.invokevirtual 101, 3) := by decide +kernel
theorem d_T_skipBlanks_15 : decode b_T_skipBlanks 15 = .ok (.ifCond .eq 16, 3) := by decide +kernel
theorem d_T_skipBlanks_18 : decode b_T_skipBlanks 18 = .ok (.aload_n 0, 1) := by decide +kernel
theorem d_T_skipBlanks_19 : decode b_T_skipBlanks 19 = .ok (.dup, 1) := by decide +kernel
theorem d_T_skipBlanks_20 : decode b_T_skipBlanks 20 = .ok (.getfield 19, 3) := by decide +kernel
theorem d_T_skipBlanks_23 : decode b_T_skipBlanks 23 = .ok (.iconst 1, 1) := by decide +kernel
theorem d_T_skipBlanks_24 : decode b_T_skipBlanks 24 = .ok (.iadd, 1) := by decide +kernel
theorem d_T_skipBlanks_25 : decode b_T_skipBlanks 25 = .ok (.putfield 19, 3) := by decide +kernel
theorem d_T_skipBlanks_28 : decode b_T_skipBlanks 28 = .ok (.goto (-28), 3) := by decide +kernel
theorem d_T_skipBlanks_31 : decode b_T_skipBlanks 31 = .ok (.return_, 1) := by decide +kernel
theorem d_T_isSignHere_0 : decode b_T_isSignHere 0 = .ok (.aload_n 0, 1) := by decide +kernel
theorem d_T_isSignHere_1 : decode b_T_isSignHere 1 = .ok (.invokevirtual 39, 3) := by decide +kernel
theorem d_T_isSignHere_4 : decode b_T_isSignHere 4 = .ok (.bipush 43, 2) := by decide +kernel
theorem d_T_isSignHere_6 : decode b_T_isSignHere 6 = .ok (.if_icmp .eq 12, 3) := by decide +kernel
theorem d_T_isSignHere_9 : decode b_T_isSignHere 9 = .ok (.aload_n 0, 1) := by decide +kernel
theorem d_T_isSignHere_10 : decode b_T_isSignHere 10 = .ok (.invokevirtual 39, 3) := by decide +kernel
theorem d_T_isSignHere_13 : decode b_T_isSignHere 13 = .ok (.bipush 45, 2) := by decide +kernel
theorem d_T_isSignHere_15 : decode b_T_isSignHere 15 = .ok (.if_icmp .ne 7, 3) := by decide +kernel
theorem d_T_isSignHere_18 : decode b_T_isSignHere 18 = .ok (.iconst 1, 1) := by decide +kernel
theorem d_T_isSignHere_19 : decode b_T_isSignHere 19 = .ok (.goto 4, 3) := by decide +kernel
theorem d_T_isSignHere_22 : decode b_T_isSignHere 22 = .ok (.iconst 0, 1) := by decide +kernel
theorem d_T_isSignHere_23 : decode b_T_isSignHere 23 = .ok (.ireturn, 1) := by decide +kernel
theorem d_T_isDigitHere_0 : decode b_T_isDigitHere 0 = .ok (.aload_n 0, 1) := by decide +kernel
theorem d_T_isDigitHere_1 : decode b_T_isDigitHere 1 = .ok (.invokevirtual 39, 3) := by decide +kernel
theorem d_T_isDigitHere_4 : decode b_T_isDigitHere 4 = .ok (.bipush 48, 2) := by decide +kernel
theorem d_T_isDigitHere_6 : decode b_T_isDigitHere 6 = .ok (.if_icmp .lt 16, 3) := by decide +kernel
theorem d_T_isDigitHere_9 : decode b_T_isDigitHere 9 = .ok (.aload_n 0, 1) := by decide +kernel
theorem d_T_isDigitHere_10 : decode b_T_isDigitHere 10 = .ok (.invokevirtual 39, 3) := by decide +kernel
theorem d_T_isDigitHere_13 : decode b_T_isDigitHere 13 = .ok (.bipush 57, 2) := by decide +kernel
theorem d_T_isDigitHere_15 : decode b_T_isDigitHere 15 = .ok (.if_icmp .gt 7, 3) := by decide +kernel
theorem d_T_isDigitHere_18 : decode b_T_isDigitHere 18 = .ok (.iconst 1, 1) := by decide +kernel
theorem d_T_isDigitHere_19 : decode b_T_isDigitHere 19 = .ok (.goto 4, 3) := by decide +kernel
theorem d_T_isDigitHere_22 : decode b_T_isDigitHere 22 = .ok (.iconst 0, 1) := by decide +kernel
theorem d_T_isDigitHere_23 : decode b_T_isDigitHere 23 = .ok (.ireturn, 1) := by decide +kernel
theorem d_T_readNumber_0 : decode b_T_readNumber 0 = .ok (.iconst (-1), 1) := by decide +kernel
theorem d_T_readNumber_1 : decode b_T_readNumber 1 = .ok (.istore_n 1, 1) := by decide +kernel
theorem d_T_readNumber_2 : decode b_T_readNumber 2 = .ok (.aload_n 0, 1) := by decide +kernel
theorem d_T_readNumber_3 : decode b_T_readNumber 3 = .ok (.getfield 19, 3) := by decide +kernel
theorem d_T_readNumber_6 : decode b_T_readNumber 6 = .ok (.aload_n 0, 1) := by decide +kernel
theorem d_T_readNumber_7 : decode b_T_readNumber 7 = .ok (.getfield 15, 3) := by decide +kernel
theorem d_T_readNumber_10 : decode b_T_readNumber 10 = .ok (.if_icmp .ge 45, 3) := by decide +kernel
theorem d_T_readNumber_13 : decode b_T_readNumber 13 = .ok (.aload_n 0, 1) := by decide +kernel
theorem d_T_readNumber_14 : decode b_T_readNumber 14 = .ok (.invokevirtual 89, 3) := by decide +kernel
theorem d_T_readNumber_17 : decode b_T_readNumber 17 = .ok (.ifCond .eq 38, 3) := by decide +kernel
theorem d_T_readNumber_20 : decode b_T_readNumber 20 = .ok (.iload_n 1, 1) := by decide +kernel
theorem d_T_readNumber_21 : decode b_T_readNumber 21 = .ok (.iconst 0, 1) := by decide +kernel
theorem d_T_readNumber_22 : decode b_T_readNumber 22 = .ok (.invokestatic 92, 3) := by decide +kernel
theorem d_T_readNumber_25 : decode b_T_readNumber 25 = .ok (.bipush 10, 2) := by decide +kernel
theorem d_T_readNumber_27 : decode b_T_readNumber 27 = .ok (.imul, 1) := by decide +kernel
theorem d_T_readNumber_28 : decode b_T_readNumber 28 = .ok (.aload_n 0, 1) := by decide +kernel
theorem d_T_readNumber_29 : decode b_T_readNumber 29 = .ok (.invokevirtual 39, 3) := by decide +kernel
theorem d_T_readNumber_32 : decode b_T_readNumber 32 = .ok (.iadd, 1) := by decide +kernel
theorem d_T_readNumber_33 : decode b_T_readNumber 33 = .ok (.bipush 48, 2) := by decide +kernel
theorem d_T_readNumber_35 : decode b_T_readNumber 35 = .ok (.isub, 1) := by decide +kernel
theorem d_T_readNumber_36 : decode b_T_readNumber 36 = .ok (.bipush 40, 2) := by decide +kernel
theorem d_T_readNumber_38 : decode b_T_readNumber 38 = .ok (.invokestatic 98, 3) := by decide +kernel
theorem d_T_readNumber_41 : decode b_T_readNumber 41 = .ok (.istore_n 1, 1) := by decide +kernel
theorem d_T_readNumber_42 : decode b_T_readNumber 42 = .ok (.aload_n 0, 1) := by decide +kernel
theorem d_T_readNumber_43 : decode b_T_readNumber 43 = .ok (.dup, 1) := by decide +kernel
theorem d_T_readNumber_44 : decode b_T_readNumber 44 = .ok (.getfield 19, 3) := by decide +kernel
theorem d_T_readNumber_47 : decode b_T_readNumber 47 = .ok (.iconst 1, 1) := by decide +kernel
theorem d_T_readNumber_48 : decode b_T_readNumber 48 = .ok (.iadd, 1) := by decide +kernel
theorem d_T_readNumber_49 : decode b_T_readNumber 49 = .ok (.putfield 19, 3) := by decide +kernel
theorem d_T_readNumber_52 : decode b_T_readNumber 52 = .ok (.goto (-50), 3) := by decide +kernel
theorem d_T_readNumber_55 : decode b_T_readNumber 55 = .ok (.iload_n 1, 1) := by decide +kernel
theorem d_T_readNumber_56 : decode b_T_readNumber 56 = .ok (.ireturn, 1) := by decide +kernel
theorem d_T_readLiteral_0 : decode b_T_readLiteral 0 = .ok (.aload_n 0, 1) := by decide +kernel
theorem d_T_readLiteral_1 : decode b_T_readLiteral 1 = .ok (.getfield 19, 3) := by decide +kernel
theorem d_T_readLiteral_4 : decode b_T_readLiteral 4 = .ok (.istore_n 2, 1) := by decide +kernel
theorem d_T_readLiteral_5 : decode b_T_readLiteral 5 = .ok (.aload_n 0, 1) := by decide +kernel
theorem d_T_readLiteral_6 : decode b_T_readLiteral 6 = .ok (.invokevirtual 39, 3) := by decide +kernel
theorem d_T_readLiteral_9 : decode b_T_readLiteral 9 = .ok (.bipush 45, 2) := by decide +kernel
theorem d_T_readLiteral_11 : decode b_T_readLiteral 11 = .ok (.if_icmp .ne 7, 3) := by decide +kernel
theorem d_T_readLiteral_14 : decode b_T_readLiteral 14 = .ok (.iconst 1, 1) := by decide +kernel
theorem d_T_readLiteral_15 : decode b_T_readLiteral 15 = .ok (.goto 4, 3) := by decide +kernel
theorem d_T_readLiteral_18 : decode b_T_readLiteral 18 = .ok (.iconst 0, 1) := by decide +kernel
theorem d_T_readLiteral_19 : decode b_T_readLiteral 19 = .ok (.istore_n 3, 1) := by decide +kernel
theorem d_T_readLiteral_20 : decode b_T_readLiteral 20 = .ok (.aload_n 0, 1) := by decide +kernel
theorem d_T_readLiteral_21 : decode b_T_readLiteral 21 = .ok (.dup, 1) := by decide +kernel
theorem d_T_readLiteral_22 : decode b_T_readLiteral 22 = .ok (.getfield 19, 3) := by decide +kernel
theorem d_T_readLiteral_25 : decode b_T_readLiteral 25 = .ok (.iconst 1, 1) := by decide +kernel
theorem d_T_readLiteral_26 : decode b_T_readLiteral 26 = .ok (.iadd, 1) := by decide +kernel
theorem d_T_readLiteral_27 : decode b_T_readLiteral 27 = .ok (.putfield 19, 3) := by decide +kernel
theorem d_T_readLiteral_30 : decode b_T_readLiteral 30 = .ok (.aload_n 0, 1) := by decide +kernel
theorem d_T_readLiteral_31 : decode b_T_readLiteral 31 = .ok (.invokevirtual 53, 3) := by decide +kernel
theorem d_T_readLiteral_34 : decode b_T_readLiteral 34 = .ok (.aload_n 0, 1) := by decide +kernel
theorem d_T_readLiteral_35 : decode b_T_readLiteral 35 = .ok (.invokevirtual 66, 3) := by decide +kernel
theorem d_T_readLiteral_38 : decode b_T_readLiteral 38 = .ok (.istore 4, 2) := by decide +kernel
theorem d_T_readLiteral_40 : decode b_T_readLiteral 40 = .ok (.aload_n 0, 1) := by decide +kernel
theorem d_T_readLiteral_41 : decode b_T_readLiteral 41 = .ok (.invokevirtual 53, 3) := by decide +kernel
theorem d_T_readLiteral_44 : decode b_T_readLiteral 44 = .ok (.aload_n 0, 1) := by decide +kernel
theorem d_T_readLiteral_45 : decode b_T_readLiteral 45 = .ok (.getfield 29, 3) := by decide +kernel
theorem d_T_readLiteral_48 : decode b_T_readLiteral 48 = .ok (.iload_n 1, 1) := by decide +kernel
theorem d_T_readLiteral_49 : decode b_T_readLiteral 49 = .ok (.invokevirtual 69, 3) := by decide +kernel
theorem d_T_readLiteral_52 : decode b_T_readLiteral 52 = .ok (.ifCond .ne 15, 3) := by decide +kernel
theorem d_T_readLiteral_55 : decode b_T_readLiteral 55 = .ok (.aload_n 0, 1) := by decide +kernel
theorem d_T_readLiteral_56 : decode b_T_readLiteral 56 = .ok (.getfield 25, 3) := by decide +kernel
theorem d_T_readLiteral_59 : decode b_T_readLiteral 59 = .ok (.iload 4, 2) := by decide +kernel
theorem d_T_readLiteral_61 : decode b_T_readLiteral 61 = .ok (.invokevirtual 73, 3) := by decide +kernel
theorem d_T_readLiteral_64 : decode b_T_readLiteral 64 = .ok (.ifCond .ne 9, 3) := by decide +kernel
theorem d_T_readLiteral_67 : decode b_T_readLiteral 67 = .ok (.aload_n 0, 1) := by decide +kernel
theorem d_T_readLiteral_68 : decode b_T_readLiteral 68 = .ok (.iload_n 2, 1) := by decide +kernel
theorem d_T_readLiteral_69 : decode b_T_readLiteral 69 = .ok (.putfield 22, 3) := by decide +kernel
theorem d_T_readLiteral_72 : decode b_T_readLiteral 72 = .ok (.return_, 1) := by decide +kernel
theorem d_T_readLiteral_73 : decode b_T_readLiteral 73 = .ok (.iconst 2, 1) := by decide +kernel
theorem d_T_readLiteral_74 : decode b_T_readLiteral 74 = .ok (.iload 4, 2) := by decide +kernel
theorem d_T_readLiteral_76 : decode b_T_readLiteral 76 = .ok (.imul, 1) := by decide +kernel
theorem d_T_readLiteral_77 : decode b_T_readLiteral 77 = .ok (.iload_n 3, 1) := by decide +kernel
theorem d_T_readLiteral_78 : decode b_T_readLiteral 78 = .ok (.iadd, 1) := by decide +kernel
theorem d_T_readLiteral_79 : decode b_T_readLiteral 79 = .ok (.istore 5, 2) := by decide +kernel
theorem d_T_readLiteral_81 : decode b_T_readLiteral 81 = .ok (.aload_n 0, 1) := by decide +kernel
theorem d_T_readLiteral_82 : decode b_T_readLiteral 82 = .ok (.getfield 29, 3) := by decide +kernel
theorem d_T_readLiteral_85 : decode b_T_readLiteral 85 = .ok (.getfield 78, 3) := by decide +kernel
theorem d_T_readLiteral_88 : decode b_T_readLiteral 88 = .ok (.iload_n 1, 1) := by decide +kernel
theorem d_T_readLiteral_89 : decode b_T_readLiteral 89 = .ok (.iaload, 1) := by decide +kernel
theorem d_T_readLiteral_90 : decode b_T_readLiteral 90 = .ok (.iconst 1, 1) := by decide +kernel
theorem d_T_readLiteral_91 : decode b_T_readLiteral 91 = .ok (.if_icmp .eq 16, 3) := by decide +kernel
theorem d_T_readLiteral_94 : decode b_T_readLiteral 94 = .ok (.aload_n 0, 1) := by decide +kernel
theorem d_T_readLiteral_95 : decode b_T_readLiteral 95 = .ok (.getfield 29, 3) := by decide +kernel
theorem d_T_readLiteral_98 : decode b_T_readLiteral 98 = .ok (.iload_n 1, 1) := by decide +kernel
theorem d_T_readLiteral_99 : decode b_T_readLiteral 99 = .ok (.iload 5, 2) := by decide +kernel
theorem d_T_readLiteral_101 : decode b_T_readLiteral 101 = .ok (.invokevirtual 81, 3) := by decide +kernel
theorem d_T_readLiteral_104 : decode b_T_readLiteral 104 = .ok (.ifCond .ne 13, 3) := by decide +kernel
theorem d_T_readLiteral_107 : decode b_T_readLiteral 107 = .ok (.aload_n 0, 1) := by decide +kernel
theorem d_T_readLiteral_108 : decode b_T_readLiteral 108 = .ok (.getfield 29, 3) := by decide +kernel
theorem d_T_readLiteral_111 : decode b_T_readLiteral 111 = .ok (.iload_n 1, 1) := by decide +kernel
theorem d_T_readLiteral_112 : decode b_T_readLiteral 112 = .ok (.iload 5, 2) := by decide +kernel
theorem d_T_readLiteral_114 : decode b_T_readLiteral 114 = .ok (.invokevirtual 85, 3) := by decide +kernel
theorem d_T_readLiteral_117 : decode b_T_readLiteral 117 = .ok (.return_, 1) := by decide +kernel
theorem d_T_endLine_0 : decode b_T_endLine 0 = .ok (.aload_n 0, 1) := by decide +kernel
theorem d_T_endLine_1 : decode b_T_endLine 1 = .ok (.getfield 29, 3) := by decide +kernel
theorem d_T_endLine_4 : decode b_T_endLine 4 = .ok (.getfield 78, 3) := by decide +kernel
theorem d_T_endLine_7 : decode b_T_endLine 7 = .ok (.iload_n 1, 1) := by decide +kernel
theorem d_T_endLine_8 : decode b_T_endLine 8 = .ok (.iaload, 1) := by decide +kernel
theorem d_T_endLine_9 : decode b_T_endLine 9 = .ok (.iconst 1, 1) := by decide +kernel
theorem d_T_endLine_10 : decode b_T_endLine 10 = .ok (.if_icmp .ne 18, 3) := by decide +kernel
theorem d_T_endLine_13 : decode b_T_endLine 13 = .ok (.aload_n 0, 1) := by decide +kernel
theorem d_T_endLine_14 : decode b_T_endLine 14 = .ok (.getfield 29, 3) := by decide +kernel
theorem d_T_endLine_17 : decode b_T_endLine 17 = .ok (.iload_n 1, 1) := by decide +kernel
theorem d_T_endLine_18 : decode b_T_endLine 18 = .ok (.invokevirtual 69, 3) := by decide +kernel
theorem d_T_endLine_21 : decode b_T_endLine 21 = .ok (.ifCond .ne 7, 3) := by decide +kernel
theorem d_T_endLine_24 : decode b_T_endLine 24 = .ok (.iconst 1, 1) := by decide +kernel
theorem d_T_endLine_25 : decode b_T_endLine 25 = .ok (.goto 4, 3) := by decide +kernel
theorem d_T_endLine_28 : decode b_T_endLine 28 = .ok (.iconst 0, 1) := by decide +kernel
theorem d_T_endLine_29 : decode b_T_endLine 29 = .ok (.istore_n 2, 1) := by decide +kernel
theorem d_T_endLine_30 : decode b_T_endLine 30 = .ok (.aload_n 0, 1) := by decide +kernel
theorem d_T_endLine_31 : decode b_T_endLine 31 = .ok (.getfield 19, 3) := by decide +kernel
theorem d_T_endLine_34 : decode b_T_endLine 34 = .ok (.aload_n 0, 1) := by decide +kernel
theorem d_T_endLine_35 : decode b_T_endLine 35 = .ok (.getfield 15, 3) := by decide +kernel
theorem d_T_endLine_38 : decode b_T_endLine 38 = .ok (.if_icmp .ge 12, 3) := by decide +kernel
theorem d_T_endLine_41 : decode b_T_endLine 41 = .ok (.aload_n 0, 1) := by decide +kernel
theorem d_T_endLine_42 : decode b_T_endLine 42 = .ok (.invokevirtual 39, 3) := by decide +kernel
theorem d_T_endLine_45 : decode b_T_endLine 45 = .ok (.bipush 10, 2) := by decide +kernel
theorem d_T_endLine_47 : decode b_T_endLine 47 = .ok (.if_icmp .ne 7, 3) := by decide +kernel
theorem d_T_endLine_50 : decode b_T_endLine 50 = .ok (.iconst 1, 1) := by decide +kernel
theorem d_T_endLine_51 : decode b_T_endLine 51 = .ok (.goto 4, 3) := by decide +kernel
theorem d_T_endLine_54 : decode b_T_endLine 54 = .ok (.iconst 0, 1) := by decide +kernel
theorem d_T_endLine_55 : decode b_T_endLine 55 = .ok (.istore_n 3, 1) := by decide +kernel
theorem d_T_endLine_56 : decode b_T_endLine 56 = .ok (.iload_n 2, 1) := by decide +kernel
theorem d_T_endLine_57 : decode b_T_endLine 57 = .ok (.ifCond .ne 7, 3) := by decide +kernel
theorem d_T_endLine_60 : decode b_T_endLine 60 = .ok (.iload_n 3, 1) := by decide +kernel
theorem d_T_endLine_61 : decode b_T_endLine 61 = .ok (.ifCond .ne 11, 3) := by decide +kernel
theorem d_T_endLine_64 : decode b_T_endLine 64 = .ok (.aload_n 0, 1) := by decide +kernel
theorem d_T_endLine_65 : decode b_T_endLine 65 = .ok (.aload_n 0, 1) := by decide +kernel
theorem d_T_endLine_66 : decode b_T_endLine 66 = .ok (.getfield 19, 3) := by decide +kernel
theorem d_T_endLine_69 : decode b_T_endLine 69 = .ok (.putfield 22, 3) := by decide +kernel
theorem d_T_endLine_72 : decode b_T_endLine 72 = .ok (.return_, 1) := by decide +kernel
theorem d_T_readLine_0 : decode b_T_readLine 0 = .ok (.aload_n 0, 1) := by decide +kernel
theorem d_T_readLine_1 : decode b_T_readLine 1 = .ok (.invokevirtual 39, 3) := by decide +kernel
theorem d_T_readLine_4 : decode b_T_readLine 4 = .ok (.istore_n 1, 1) := by decide +kernel
theorem d_T_readLine_5 : decode b_T_readLine 5 = .ok (.iload_n 1, 1) := by decide +kernel
theorem d_T_readLine_6 : decode b_T_readLine 6 = .ok (.bipush 99, 2) := by decide +kernel
theorem d_T_readLine_8 : decode b_T_readLine 8 = .ok (.if_icmp .eq 9, 3) := by decide +kernel
theorem d_T_readLine_11 : decode b_T_readLine 11 = .ok (.iload_n 1, 1) := by decide +kernel
theorem d_T_readLine_12 : decode b_T_readLine 12 = .ok (.bipush 61, 2) := by decide +kernel
theorem d_T_readLine_14 : decode b_T_readLine 14 = .ok (.if_icmp .ne 13, 3) := by decide +kernel
theorem d_T_readLine_17 : decode b_T_readLine 17 = .ok (.aload_n 0, 1) := by decide +kernel
theorem d_T_readLine_18 : decode b_T_readLine 18 = .ok (.getfield 29, 3) := by decide +kernel
theorem d_T_readLine_21 : decode b_T_readLine 21 = .ok (.invokevirtual 43, 3) := by decide +kernel
theorem d_T_readLine_24 : decode b_T_readLine 24 = .ok (.ifCond .eq 12, 3) := by decide +kernel
theorem d_T_readLine_27 : decode b_T_readLine 27 = .ok (.aload_n 0, 1) := by decide +kernel
theorem d_T_readLine_28 : decode b_T_readLine 28 = .ok (.aload_n 0, 1) := by decide +kernel
theorem d_T_readLine_29 : decode b_T_readLine 29 = .ok (.getfield 19, 3) := by decide +kernel
theorem d_T_readLine_32 : decode b_T_readLine 32 = .ok (.putfield 22, 3) := by decide +kernel
theorem d_T_readLine_35 : decode b_T_readLine 35 = .ok (.return_, 1) := by decide +kernel
theorem d_T_readLine_36 : decode b_T_readLine 36 = .ok (.aload_n 0, 1) := by decide +kernel
theorem d_T_readLine_37 : decode b_T_readLine 37 = .ok (.getfield 29, 3) := by decide +kernel
theorem d_T_readLine_40 : decode b_T_readLine 40 = .ok (.iload_n 1, 1) := by decide +kernel
theorem d_T_readLine_41 : decode b_T_readLine 41 = .ok (.bipush 61, 2) := by decide +kernel
theorem d_T_readLine_43 : decode b_T_readLine 43 = .ok (.if_icmp .ne 7, 3) := by decide +kernel
theorem d_T_readLine_46 : decode b_T_readLine 46 = .ok (.iconst 1, 1) := by decide +kernel
theorem d_T_readLine_47 : decode b_T_readLine 47 = .ok (.goto 4, 3) := by decide +kernel
theorem d_T_readLine_50 : decode b_T_readLine 50 = .ok (.iconst 0, 1) := by decide +kernel
theorem d_T_readLine_51 : decode b_T_readLine 51 = .ok (.invokevirtual 49, 3) := by decide +kernel
theorem d_T_readLine_54 : decode b_T_readLine 54 = .ok (.istore_n 2, 1) := by decide +kernel
theorem d_T_readLine_55 : decode b_T_readLine 55 = .ok (.aload_n 0, 1) := by decide +kernel
theorem d_T_readLine_56 : decode b_T_readLine 56 = .ok (.dup, 1) := by decide +kernel
theorem d_T_readLine_57 : decode b_T_readLine 57 = .ok (.getfield 19, 3) := by decide +kernel
theorem d_T_readLine_60 : decode b_T_readLine 60 = .ok (.iconst 1, 1) := by decide +kernel
theorem d_T_readLine_61 : decode b_T_readLine 61 = .ok (.iadd, 1) := by decide +kernel
theorem d_T_readLine_62 : decode b_T_readLine 62 = .ok (.putfield 19, 3) := by decide +kernel
theorem d_T_readLine_65 : decode b_T_readLine 65 = .ok (.aload_n 0, 1) := by decide +kernel
theorem d_T_readLine_66 : decode b_T_readLine 66 = .ok (.invokevirtual 53, 3) := by decide +kernel
theorem d_T_readLine_69 : decode b_T_readLine 69 = .ok (.iconst 0, 1) := by decide +kernel
theorem d_T_readLine_70 : decode b_T_readLine 70 = .ok (.istore_n 3, 1) := by decide +kernel
theorem d_T_readLine_71 : decode b_T_readLine 71 = .ok (.iload_n 3, 1) := by decide +kernel
theorem d_T_readLine_72 : decode b_T_readLine 72 = .ok (.sipush 1000, 3) := by decide +kernel
theorem d_T_readLine_75 : decode b_T_readLine 75 = .ok (.if_icmp .ge 29, 3) := by decide +kernel
theorem d_T_readLine_78 : decode b_T_readLine 78 = .ok (.aload_n 0, 1) := by decide +kernel
theorem d_T_readLine_79 : decode b_T_readLine 79 = .ok (.invokevirtual 56, 3) := by decide +kernel
theorem d_T_readLine_82 : decode b_T_readLine 82 = .ok (.ifCond .eq 22, 3) := by decide +kernel
theorem d_T_readLine_85 : decode b_T_readLine 85 = .ok (.aload_n 0, 1) := by decide +kernel
theorem d_T_readLine_86 : decode b_T_readLine 86 = .ok (.getfield 22, 3) := by decide +kernel
theorem d_T_readLine_89 : decode b_T_readLine 89 = .ok (.iconst (-1), 1) := by decide +kernel
theorem d_T_readLine_90 : decode b_T_readLine 90 = .ok (.if_icmp .ne 14, 3) := by decide +kernel
theorem d_T_readLine_93 : decode b_T_readLine 93 = .ok (.aload_n 0, 1) := by decide +kernel
theorem d_T_readLine_94 : decode b_T_readLine 94 = .ok (.iload_n 2, 1) := by decide +kernel
theorem d_T_readLine_95 : decode b_T_readLine 95 = .ok (.invokevirtual 59, 3) := by decide +kernel
theorem d_T_readLine_98 : decode b_T_readLine 98 = .ok (.iinc 3 1, 3) := by decide +kernel
theorem d_T_readLine_101 : decode b_T_readLine 101 = .ok (.goto (-30), 3) := by decide +kernel
theorem d_T_readLine_104 : decode b_T_readLine 104 = .ok (.aload_n 0, 1) := by decide +kernel
theorem d_T_readLine_105 : decode b_T_readLine 105 = .ok (.getfield 22, 3) := by decide +kernel
theorem d_T_readLine_108 : decode b_T_readLine 108 = .ok (.iconst (-1), 1) := by decide +kernel
theorem d_T_readLine_109 : decode b_T_readLine 109 = .ok (.if_icmp .ne 8, 3) := by decide +kernel
theorem d_T_readLine_112 : decode b_T_readLine 112 = .ok (.aload_n 0, 1) := by decide +kernel
theorem d_T_readLine_113 : decode b_T_readLine 113 = .ok (.iload_n 2, 1) := by decide +kernel
theorem d_T_readLine_114 : decode b_T_readLine 114 = .ok (.invokevirtual 63, 3) := by decide +kernel
theorem d_T_readLine_117 : decode b_T_readLine 117 = .ok (.return_, 1) := by decide +kernel
theorem d_T_readAll_0 : decode b_T_readAll 0 = .ok (.aload_n 0, 1) := by decide +kernel
theorem d_T_readAll_1 : decode b_T_readAll 1 = .ok (.iconst 0, 1) := by decide +kernel
theorem d_T_readAll_2 : decode b_T_readAll 2 = .ok (.putfield 19, 3) := by decide +kernel
theorem d_T_readAll_5 : decode b_T_readAll 5 = .ok (.aload_n 0, 1) := by decide +kernel
theorem d_T_readAll_6 : decode b_T_readAll 6 = .ok (.iconst (-1), 1) := by decide +kernel
theorem d_T_readAll_7 : decode b_T_readAll 7 = .ok (.putfield 22, 3) := by decide +kernel
theorem d_T_readAll_10 : decode b_T_readAll 10 = .ok (.aload_n 0, 1) := by decide +kernel
theorem d_T_readAll_11 : decode b_T_readAll 11 = .ok (.invokevirtual 33, 3) := by decide +kernel
theorem d_T_readAll_14 : decode b_T_readAll 14 = .ok (.iconst 0, 1) := by decide +kernel
theorem d_T_readAll_15 : decode b_T_readAll 15 = .ok (.istore_n 1, 1) := by decide +kernel
theorem d_T_readAll_16 : decode b_T_readAll 16 = .ok (.iload_n 1, 1) := by decide +kernel
theorem d_T_readAll_17 : decode b_T_readAll 17 = .ok (.bipush 24, 2) := by decide +kernel
theorem d_T_readAll_19 : decode b_T_readAll 19 = .ok (.if_icmp .gt 36, 3) := by decide +kernel
theorem d_T_readAll_22 : decode b_T_readAll 22 = .ok (.aload_n 0, 1) := by decide +kernel
theorem d_T_readAll_23 : decode b_T_readAll 23 = .ok (.getfield 19, 3) := by decide +kernel
theorem d_T_readAll_26 : decode b_T_readAll 26 = .ok (.aload_n 0, 1) := by decide +kernel
theorem d_T_readAll_27 : decode b_T_readAll 27 = .ok (.getfield 15, 3) := by decide +kernel
theorem d_T_readAll_30 : decode b_T_readAll 30 = .ok (.if_icmp .ge 25, 3) := by decide +kernel
theorem d_T_readAll_33 : decode b_T_readAll 33 = .ok (.aload_n 0, 1) := by decide +kernel
theorem d_T_readAll_34 : decode b_T_readAll 34 = .ok (.getfield 22, 3) := by decide +kernel
theorem d_T_readAll_37 : decode b_T_readAll 37 = .ok (.iconst (-1), 1) := by decide +kernel
theorem d_T_readAll_38 : decode b_T_readAll 38 = .ok (.if_icmp .ne 17, 3) := by decide +kernel
theorem d_T_readAll_41 : decode b_T_readAll 41 = .ok (.aload_n 0, 1) := by decide +kernel
theorem d_T_readAll_42 : decode b_T_readAll 42 = .ok (.invokevirtual 36, 3) := by decide +kernel
theorem d_T_readAll_45 : decode b_T_readAll 45 = .ok (.aload_n 0, 1) := by decide +kernel
theorem d_T_readAll_46 : decode b_T_readAll 46 = .ok (.invokevirtual 33, 3) := by decide +kernel
theorem d_T_readAll_49 : decode b_T_readAll 49 = .ok (.iinc 1 1, 3) := by decide +kernel
theorem d_T_readAll_52 : decode b_T_readAll 52 = .ok (.goto (-36), 3) := by decide +kernel
theorem d_T_readAll_55 : decode b_T_readAll 55 = .ok (.aload_n 0, 1) := by decide +kernel
theorem d_T_readAll_56 : decode b_T_readAll 56 = .ok (.iconst 0, 1) := by decide +kernel
theorem d_T_readAll_57 : decode b_T_readAll 57 = .ok (.putfield 15, 3) := by decide +kernel
theorem d_T_readAll_60 : decode b_T_readAll 60 = .ok (.aload_n 0, 1) := by decide +kernel
theorem d_T_readAll_61 : decode b_T_readAll 61 = .ok (.getfield 22, 3) := by decide +kernel
theorem d_T_readAll_64 : decode b_T_readAll 64 = .ok (.ireturn, 1) := by decide +kernel
theorem d_T_new_0 : decode b_T_new 0 = .ok (.aload_n 0, 1) := by decide +kernel
theorem d_T_new_1 : decode b_T_new 1 = .ok (.invokespecial 3, 3) := by decide +kernel
theorem d_T_new_4 : decode b_T_new 4 = .ok (.aload_n 0, 1) := by decide +kernel
theorem d_T_new_5 : decode b_T_new 5 = .ok (.sipush 1000, 3) := by decide +kernel
theorem d_T_new_8 : decode b_T_new 8 = .ok (.newarray .int, 2) := by decide +kernel
theorem d_T_new_10 : decode b_T_new 10 = .ok (.putfield 9, 3) := by decide +kernel
theorem d_T_new_13 : decode b_T_new 13 = .ok (.aload_n 0, 1) := by decide +kernel
theorem d_T_new_14 : decode b_T_new 14 = .ok (.iconst 0, 1) := by decide +kernel
theorem d_T_new_15 : decode b_T_new 15 = .ok (.putfield 15, 3) := by decide +kernel
theorem d_T_new_18 : decode b_T_new 18 = .ok (.aload_n 0, 1) := by decide +kernel
theorem d_T_new_19 : decode b_T_new 19 = .ok (.iconst 0, 1) := by decide +kernel
theorem d_T_new_20 : decode b_T_new 20 = .ok (.putfield 19, 3) := by decide +kernel
theorem d_T_new_23 : decode b_T_new 23 = .ok (.aload_n 0, 1) := by decide +kernel
theorem d_T_new_24 : decode b_T_new 24 = .ok (.iconst (-1), 1) := by decide +kernel
theorem d_T_new_25 : decode b_T_new 25 = .ok (.putfield 22, 3) := by decide +kernel
theorem d_T_new_28 : decode b_T_new 28 = .ok (.aload_n 0, 1) := by decide +kernel
theorem d_T_new_29 : decode b_T_new 29 = .ok (.aload_n 1, 1) := by decide +kernel
theorem d_T_new_30 : decode b_T_new 30 = .ok (.putfield 25, 3) := by decide +kernel
theorem d_T_new_33 : decode b_T_new 33 = .ok (.aload_n 0, 1) := by decide +kernel
theorem d_T_new_34 : decode b_T_new 34 = .ok (.aload_n 2, 1) := by decide +kernel
theorem d_T_new_35 : decode b_T_new 35 = .ok (.putfield 29, 3) := by decide +kernel
theorem d_T_new_38 : decode b_T_new 38 = .ok (.return_, 1) := by decide +kernel
def rm_T_append : Room := { frames := 0, cells := 0, slots := 0, locals := 0 }
set_option maxHeartbeats 4000000 in
set_option maxRecDepth 100000 in
theorem c_T_append (l : Launch) (D : va_G) (cA : Nat → ClassId) (ad : Nat → Nat) (sz : Nat) (T_size : Int32) (T_place : Int32) (T_fault : Int32) (T_bytes : (Nat → Int32)) (p1 : Int32) (post : Int32 → Int32 → (Nat → Int32) → Prop) (h : wp_T_append T_size T_bytes p1 post) : Met l y_T_append w_T_append rm_T_append (mPc D cA [.ref (ad 13), .int p1] [(k_T cA ad T_size T_place T_fault), (k_T_bytes cA ad T_bytes)] sz) (va_Qi (fun (r : Int32) (u : Int32 × (Nat → Int32)) => post r u.1 u.2) (mB D (va_A [(k_T cA ad T_size T_place T_fault), (k_T_bytes cA ad T_bytes)] sz) (fun (u : Int32 × (Nat → Int32)) => [(k_T cA ad u.1 T_place T_fault), (k_T_bytes cA ad u.2)])) (va_A [(k_T cA ad T_size T_place T_fault), (k_T_bytes cA ad T_bytes)] sz)) 0 0 (va_A [(k_T cA ad T_size T_place T_fault), (k_T_bytes cA ad T_bytes)] sz) := by
  refine m_methZ (by decide) rfl (Nat.le_of_ble_eq_true rfl) ?_
  intro p e s m below meth c A Q ls hx hb hml hown hts hK hA hw hl hE
  have hl : lv_has ls 2 [(0, .ref (ad 13)), (1, .int p1)] := hl
  have hown : s.vm.findClass R_T = some m.cls := hown
  have hg : ∀ {w : Cond}, w ∈ gw → w.before _ s = true := fun h => hts _ (List.mem_cons_of_mem _ h)
  unfold wp_T_append at h
  refine lv_aload_n hx hb d_T_append_0 rfl (lv_at hl 0 rfl) ?_
  refine va_get (D := D) (ci := 4) (v := .int T_size) (C := R_T) (T := T_T) (N := 6) hx hb hts (fun w h => List.mem_cons_of_mem _ (iw_T w h)) hown hK.1 hw.1 0 rfl rfl 3 (by decide) (hg gm_124) (fun _ h9 => h9) rfl d_T_append_1 ?_
  refine lv_sipush (v := 1000) hx hb d_T_append_4 (by decide) ?_
  refine lv_icmp_lt (tgt := 12) hx hb d_T_append_7 (by decide) (fun hc => ?_) (fun hc => ?_)
  · have h := h.1 hc
    refine lv_aload_n hx hb d_T_append_12 rfl (lv_at hl 0 rfl) ?_
    refine va_get (D := D) (ci := 4) (v := .ref (ad 14)) (C := R_T) (T := T_T) (N := 6) hx hb hts (fun w h => List.mem_cons_of_mem _ (iw_T w h)) hown hK.1 hw.1 0 rfl rfl 2 (by decide) (hg gm_123) (fun _ h9 => h9) rfl d_T_append_13 ?_
    refine lv_aload_n hx hb d_T_append_16 rfl (lv_at hl 0 rfl) ?_
    refine va_get (D := D) (ci := 4) (v := .int T_size) (C := R_T) (T := T_T) (N := 6) hx hb hts (fun w h => List.mem_cons_of_mem _ (iw_T w h)) hown hK.1 hw.1 0 rfl rfl 3 (by decide) (hg gm_124) (fun _ h9 => h9) rfl d_T_append_17 ?_
    refine lv_iload_n hx hb d_T_append_20 rfl (lv_at hl 1 rfl) ?_
    refine lv_sipush (v := 255) hx hb d_T_append_21 (by decide) ?_
    refine lv_iand hx hb d_T_append_24 ?_
    refine m_iast (ws' := [(k_T cA ad T_size T_place T_fault), (k_T_bytes cA ad (upd T_bytes T_size.toNatClampNeg (p1 &&& 255)))]) hx hb hK.1 hw 1 0 rfl rfl h.1 rfl d_T_append_25 (fun H locs hw => ?_)
    have h := h.2
    refine lv_aload_n hx hb d_T_append_26 rfl (lv_at hl 0 rfl) ?_
    refine lv_dup hx hb d_T_append_27 rfl ?_
    refine va_get (D := D) (ci := 4) (v := .int T_size) (C := R_T) (T := T_T) (N := 6) hx hb hts (fun w h => List.mem_cons_of_mem _ (iw_T w h)) hown hK.1 hw.1 0 rfl rfl 3 (by decide) (hg gm_124) (fun _ h9 => h9) rfl d_T_append_28 ?_
    refine lv_iconst (v := 1) hx hb d_T_append_31 (by decide) ?_
    refine lv_iadd hx hb d_T_append_32 ?_
    refine m_put (ws' := [(k_T cA ad (T_size + 1) T_place T_fault), (k_T_bytes cA ad (upd T_bytes T_size.toNatClampNeg (p1 &&& 255)))]) (ci := 4) (v := .int (T_size + 1)) (ty := .int) (C := R_T) (T := T_T) (N := 6) hx hb hts (fun w h => List.mem_cons_of_mem _ (iw_T w h)) ty_T tyok_T nm_T hown hK.1 hw 0 rfl rfl 3 (by decide) (hg gm_124) (fun _ h9 => h9) rfl (by decide +kernel) rfl rfl (Nat.le_of_ble_eq_true rfl) rfl d_T_append_33 (fun H locs hw => ?_)
    refine lv_iconst (v := 1) hx hb d_T_append_36 (by decide) ?_
    exact hE 1 ((T_size + 1), (upd T_bytes T_size.toNatClampNeg (p1 &&& 255))) _ _ _ _ h rfl hw d_T_append_37
  · have h := h.2 hc
    refine lv_iconst (v := 0) hx hb d_T_append_10 (by decide) ?_
    exact hE 0 (T_size, T_bytes) _ _ _ _ h rfl hw d_T_append_11
def rm_T_here : Room := { frames := 0, cells := 0, slots := 0, locals := 0 }
set_option maxHeartbeats 4000000 in
set_option maxRecDepth 100000 in
theorem c_T_here (l : Launch) (D : va_G) (cA : Nat → ClassId) (ad : Nat → Nat) (sz : Nat) (T_size : Int32) (T_place : Int32) (T_fault : Int32) (T_bytes : (Nat → Int32)) (post : Int32 → Prop) (h : wp_T_here T_size T_place T_bytes post) : Met l y_T_here w_T_here rm_T_here (mPc D cA [.ref (ad 13)] [(k_T cA ad T_size T_place T_fault), (k_T_bytes cA ad T_bytes)] sz) (va_Qi (fun (r : Int32) (_ : Unit) => post r) (mB D (va_A [(k_T cA ad T_size T_place T_fault), (k_T_bytes cA ad T_bytes)] sz) (fun (_ : Unit) => [(k_T cA ad T_size T_place T_fault), (k_T_bytes cA ad T_bytes)])) (va_A [(k_T cA ad T_size T_place T_fault), (k_T_bytes cA ad T_bytes)] sz)) 0 0 (va_A [(k_T cA ad T_size T_place T_fault), (k_T_bytes cA ad T_bytes)] sz) := by
  refine m_methI (by decide) rfl (Nat.le_of_ble_eq_true rfl) ?_
  intro p e s m below meth c A Q ls hx hb hml hown hts hK hA hw hl hE
  have hl : lv_has ls 1 [(0, .ref (ad 13))] := hl
  have hown : s.vm.findClass R_T = some m.cls := hown
  have hg : ∀ {w : Cond}, w ∈ gw → w.before _ s = true := fun h => hts _ (List.mem_cons_of_mem _ h)
  unfold wp_T_here at h
  refine lv_aload_n hx hb d_T_here_0 rfl (lv_at hl 0 rfl) ?_
  refine va_get (D := D) (ci := 4) (v := .int T_place) (C := R_T) (T := T_T) (N := 6) hx hb hts (fun w h => List.mem_cons_of_mem _ (iw_T w h)) hown hK.1 hw.1 0 rfl rfl 4 (by decide) (hg gm_126) (fun _ h9 => h9) rfl d_T_here_1 ?_
  refine lv_aload_n hx hb d_T_here_4 rfl (lv_at hl 0 rfl) ?_
  refine va_get (D := D) (ci := 4) (v := .int T_size) (C := R_T) (T := T_T) (N := 6) hx hb hts (fun w h => List.mem_cons_of_mem _ (iw_T w h)) hown hK.1 hw.1 0 rfl rfl 3 (by decide) (hg gm_124) (fun _ h9 => h9) rfl d_T_here_5 ?_
  refine lv_icmp_ge (tgt := 23) hx hb d_T_here_8 (by decide) (fun hc => ?_) (fun hc => ?_)
  · have h := h.1 hc
    refine lv_iconst (v := (-1)) hx hb d_T_here_23 (by decide) ?_
    exact hE (-1) () _ _ _ _ h hw d_T_here_24
  · have h := h.2 hc
    refine lv_aload_n hx hb d_T_here_11 rfl (lv_at hl 0 rfl) ?_
    refine va_get (D := D) (ci := 4) (v := .ref (ad 14)) (C := R_T) (T := T_T) (N := 6) hx hb hts (fun w h => List.mem_cons_of_mem _ (iw_T w h)) hown hK.1 hw.1 0 rfl rfl 2 (by decide) (hg gm_123) (fun _ h9 => h9) rfl d_T_here_12 ?_
    refine lv_aload_n hx hb d_T_here_15 rfl (lv_at hl 0 rfl) ?_
    refine va_get (D := D) (ci := 4) (v := .int T_place) (C := R_T) (T := T_T) (N := 6) hx hb hts (fun w h => List.mem_cons_of_mem _ (iw_T w h)) hown hK.1 hw.1 0 rfl rfl 4 (by decide) (hg gm_126) (fun _ h9 => h9) rfl d_T_here_16 ?_
    refine va_iald hx hb hK.1 hw.1 1 0 rfl rfl h.1 d_T_here_19 ?_
    have h := h.2
    refine lv_goto (tgt := 24) hx hb d_T_here_20 (by decide) ?_
    exact hE (T_bytes T_place.toNatClampNeg) () _ _ _ _ h hw d_T_here_24
def rm_T_isBlankHere : Room := { frames := 1, cells := 0, slots := 0, locals := 20 }
set_option maxHeartbeats 4000000 in
set_option maxRecDepth 100000 in
theorem c_T_isBlankHere (l : Launch) (D : va_G) (cA : Nat → ClassId) (ad : Nat → Nat) (sz : Nat) (T_size : Int32) (T_place : Int32) (T_fault : Int32) (T_bytes : (Nat → Int32)) (post : Int32 → Prop) (h : wp_T_isBlankHere T_size T_place T_bytes post) : Met l y_T_isBlankHere w_T_isBlankHere rm_T_isBlankHere (mPc D cA [.ref (ad 13)] [(k_T cA ad T_size T_place T_fault), (k_T_bytes cA ad T_bytes)] sz) (va_Qi (fun (r : Int32) (_ : Unit) => post r) (mB D (va_A [(k_T cA ad T_size T_place T_fault), (k_T_bytes cA ad T_bytes)] sz) (fun (_ : Unit) => [(k_T cA ad T_size T_place T_fault), (k_T_bytes cA ad T_bytes)])) (va_A [(k_T cA ad T_size T_place T_fault), (k_T_bytes cA ad T_bytes)] sz)) 0 0 (va_A [(k_T cA ad T_size T_place T_fault), (k_T_bytes cA ad T_bytes)] sz) := by
  refine m_methZ (by decide) rfl (Nat.le_of_ble_eq_true rfl) ?_
  intro p e s m below meth c A Q ls hx hb hml hown hts hK hA hw hl hE
  have hl : lv_has ls 2 [(0, .ref (ad 13))] := hl
  have hown : s.vm.findClass R_T = some m.cls := hown
  have hg : ∀ {w : Cond}, w ∈ gw → w.before _ s = true := fun h => hts _ (List.mem_cons_of_mem _ h)
  unfold wp_T_isBlankHere at h
  refine lv_aload_n hx hb d_T_isBlankHere_0 rfl (lv_at hl 0 rfl) ?_
  refine m_calli (hr := va_runV (As := []) (rest := []) ⟨hx, hb, hml, hown, hts⟩ (c_T_here l D cA ad _ T_size T_place T_fault T_bytes _ h) (cwV 0 hts (ginV gm_178 gm_180 gs_4 gm_5 gm_181) rfl rfl rfl (by decide +kernel) ⟨Nat.le_of_ble_eq_true rfl, Nat.le_of_ble_eq_true rfl⟩) (m_preV 4 0 rfl rfl hK hw [0, 1] rfl rfl) rfl rfl hl.1 rfl (lv_room (Nat.le_of_ble_eq_true rfl)) d_T_isBlankHere_1 ⟨Nat.zero_le _, Nat.zero_le _⟩) (w2 := (fun (_ : Unit) => [(k_T cA ad T_size T_place T_fault), (k_T_bytes cA ad T_bytes)])) (wr := []) hw hA [0, 1] [] [0, 1] rfl rfl (by decide) (by decide) (by decide) (fun _ => rfl) (fun r1 u H locs hw h => ?_)
  refine lv_istore_n (lv' := [(1, .int r1), (0, .ref (ad 13))]) hx hb d_T_isBlankHere_4 rfl hl (by decide) rfl (fun ls hl => ?_)
  refine lv_iload_n hx hb d_T_isBlankHere_5 rfl (lv_at hl 0 rfl) ?_
  refine lv_bipush (v := 32) hx hb d_T_isBlankHere_6 (by decide) ?_
  refine lv_icmp_eq (tgt := 23) hx hb d_T_isBlankHere_8 (by decide) (fun hc => ?_) (fun hc => ?_)
  · have h := h.1 hc
    refine lv_iconst (v := 1) hx hb d_T_isBlankHere_23 (by decide) ?_
    refine lv_goto (tgt := 28) hx hb d_T_isBlankHere_24 (by decide) ?_
    exact hE 1 () _ _ _ _ h rfl hw d_T_isBlankHere_28
  · have h := h.2 hc
    refine lv_iload_n hx hb d_T_isBlankHere_11 rfl (lv_at hl 0 rfl) ?_
    refine lv_bipush (v := 9) hx hb d_T_isBlankHere_12 (by decide) ?_
    refine lv_icmp_eq (tgt := 23) hx hb d_T_isBlankHere_14 (by decide) (fun hc => ?_) (fun hc => ?_)
    · have h := h.1 hc
      refine lv_iconst (v := 1) hx hb d_T_isBlankHere_23 (by decide) ?_
      refine lv_goto (tgt := 28) hx hb d_T_isBlankHere_24 (by decide) ?_
      exact hE 1 () _ _ _ _ h rfl hw d_T_isBlankHere_28
    · have h := h.2 hc
      refine lv_iload_n hx hb d_T_isBlankHere_17 rfl (lv_at hl 0 rfl) ?_
      refine lv_bipush (v := 13) hx hb d_T_isBlankHere_18 (by decide) ?_
      refine lv_icmp_ne (tgt := 27) hx hb d_T_isBlankHere_20 (by decide) (fun hc => ?_) (fun hc => ?_)
      · have h := h.2 hc
        refine lv_iconst (v := 0) hx hb d_T_isBlankHere_27 (by decide) ?_
        exact hE 0 () _ _ _ _ h rfl hw d_T_isBlankHere_28
      · have h := h.1 hc
        refine lv_iconst (v := 1) hx hb d_T_isBlankHere_23 (by decide) ?_
        refine lv_goto (tgt := 28) hx hb d_T_isBlankHere_24 (by decide) ?_
        exact hE 1 () _ _ _ _ h rfl hw d_T_isBlankHere_28
def rm_T_skipToLine : Room := { frames := 2, cells := 0, slots := 0, locals := 41 }
set_option maxHeartbeats 4000000 in
set_option maxRecDepth 100000 in
theorem c_T_skipToLine (l : Launch) (D : va_G) (cA : Nat → ClassId) (ad : Nat → Nat) (sz : Nat) (T_size : Int32) (T_place : Int32) (T_fault : Int32) (T_bytes : (Nat → Int32)) (post : Int32 → Prop) (h : wp_T_skipToLine T_size T_place T_bytes post) : Met l y_T_skipToLine w_T_skipToLine rm_T_skipToLine (mPc D cA [.ref (ad 13)] [(k_T cA ad T_size T_place T_fault), (k_T_bytes cA ad T_bytes)] sz) (va_Qv (fun (u : Int32) => post u) (mB D (va_A [(k_T cA ad T_size T_place T_fault), (k_T_bytes cA ad T_bytes)] sz) (fun (u : Int32) => [(k_T cA ad T_size u T_fault), (k_T_bytes cA ad T_bytes)])) (va_A [(k_T cA ad T_size T_place T_fault), (k_T_bytes cA ad T_bytes)] sz)) 0 0 (va_A [(k_T cA ad T_size T_place T_fault), (k_T_bytes cA ad T_bytes)] sz) := by
  refine m_methV (by decide) rfl (Nat.le_of_ble_eq_true rfl) ?_
  intro p e s m below meth c A Q ls hx hb hml hown hts hK hA hw hl hE
  have hl : lv_has ls 1 [(0, .ref (ad 13))] := hl
  have hown : s.vm.findClass R_T = some m.cls := hown
  have hg : ∀ {w : Cond}, w ∈ gw → w.before _ s = true := fun h => hts _ (List.mem_cons_of_mem _ h)
  obtain ⟨C0, hC0⟩ : ∃ C : Int32 → Prop, ∀ (T_place : Int32), C T_place ↔ (∀ (H : Heap) (locs : List Loc) (ls : Array Slot), mW D A s.heap [(k_T cA ad T_size T_place T_fault), (k_T_bytes cA ad T_bytes)] H locs → lv_has ls 1 [(0, .ref (ad 13))] → W p l e rm_T_skipToLine s m [.ref (ad 13)].toArray below meth c H locs 0 0 Q (F0 m 0 ls [])) := ⟨_, fun _ => Iff.rfl⟩
  have j27 : ∀ (T_place : Int32) (H : Heap) (locs : List Loc) (ls : Array Slot), s_T_skipToLine_27 T_size T_bytes C0 post T_place → mW D A s.heap [(k_T cA ad T_size T_place T_fault), (k_T_bytes cA ad T_bytes)] H locs → lv_has ls 1 [(0, .ref (ad 13))] → W p l e rm_T_skipToLine s m [.ref (ad 13)].toArray below meth c H locs 0 0 Q (F0 m 27 ls []) := by
    intro T_place H locs ls h hw hl
    unfold s_T_skipToLine_27 at h
    refine lv_aload_n hx hb d_T_skipToLine_27 rfl (lv_at hl 0 rfl) ?_
    refine lv_dup hx hb d_T_skipToLine_28 rfl ?_
    refine va_get (D := D) (ci := 4) (v := .int T_place) (C := R_T) (T := T_T) (N := 6) hx hb hts (fun w h => List.mem_cons_of_mem _ (iw_T w h)) hown hK.1 hw.1 0 rfl rfl 4 (by decide) (hg gm_126) (fun _ h9 => h9) rfl d_T_skipToLine_29 ?_
    refine lv_iconst (v := 1) hx hb d_T_skipToLine_32 (by decide) ?_
    refine lv_iadd hx hb d_T_skipToLine_33 ?_
    refine m_put (ws' := [(k_T cA ad T_size (T_place + 1) T_fault), (k_T_bytes cA ad T_bytes)]) (ci := 4) (v := .int (T_place + 1)) (ty := .int) (C := R_T) (T := T_T) (N := 6) hx hb hts (fun w h => List.mem_cons_of_mem _ (iw_T w h)) ty_T tyok_T nm_T hown hK.1 hw 0 rfl rfl 4 (by decide) (hg gm_126) (fun _ h9 => h9) rfl (by decide +kernel) rfl rfl (Nat.le_of_ble_eq_true rfl) rfl d_T_skipToLine_34 (fun H locs hw => ?_)
    refine lv_goto (tgt := 0) hx hb d_T_skipToLine_37 (by decide) ?_
    exact (hC0 _).1 h _ _ _ hw (lv_sub hl [0] rfl)
  have hc0 : ∀ (T_place : Int32), s_T_skipToLine_0 T_size T_bytes C0 post T_place → C0 T_place := by
    intro T_place h
    unfold s_T_skipToLine_0 at h
    refine (hC0 _).2 ?_
    intro H locs ls hw hl
    refine lv_aload_n hx hb d_T_skipToLine_0 rfl (lv_at hl 0 rfl) ?_
    refine va_get (D := D) (ci := 4) (v := .int T_place) (C := R_T) (T := T_T) (N := 6) hx hb hts (fun w h => List.mem_cons_of_mem _ (iw_T w h)) hown hK.1 hw.1 0 rfl rfl 4 (by decide) (hg gm_126) (fun _ h9 => h9) rfl d_T_skipToLine_1 ?_
    refine lv_aload_n hx hb d_T_skipToLine_4 rfl (lv_at hl 0 rfl) ?_
    refine va_get (D := D) (ci := 4) (v := .int T_size) (C := R_T) (T := T_T) (N := 6) hx hb hts (fun w h => List.mem_cons_of_mem _ (iw_T w h)) hown hK.1 hw.1 0 rfl rfl 3 (by decide) (hg gm_124) (fun _ h9 => h9) rfl d_T_skipToLine_5 ?_
    refine lv_icmp_ge (tgt := 40) hx hb d_T_skipToLine_8 (by decide) (fun hc => ?_) (fun hc => ?_)
    · have h := h.1 hc
      exact hE (T_place) _ _ _ _ h hw d_T_skipToLine_40
    · have h := h.2 hc
      refine lv_aload_n hx hb d_T_skipToLine_11 rfl (lv_at hl 0 rfl) ?_
      refine m_calli (hr := va_runV (As := []) (rest := []) ⟨hx, hb, hml, hown, hts⟩ (c_T_isBlankHere l D cA ad _ T_size T_place T_fault T_bytes _ h) (cwV 0 hts (ginV gm_174 gm_176 gs_3 gm_5 gm_177) rfl rfl rfl (by decide +kernel) ⟨Nat.le_of_ble_eq_true rfl, Nat.le_of_ble_eq_true rfl⟩) (m_preV 4 0 rfl rfl hK hw [0, 1] rfl rfl) rfl rfl hl.1 rfl (lv_room (Nat.le_of_ble_eq_true rfl)) d_T_skipToLine_12 ⟨Nat.zero_le _, Nat.zero_le _⟩) (w2 := (fun (_ : Unit) => [(k_T cA ad T_size T_place T_fault), (k_T_bytes cA ad T_bytes)])) (wr := []) hw hA [0, 1] [] [0, 1] rfl rfl (by decide) (by decide) (by decide) (fun _ => rfl) (fun r12 u H locs hw h => ?_)
      refine lv_if_ne (tgt := 27) hx hb d_T_skipToLine_15 (by decide) (fun hc => ?_) (fun hc => ?_)
      · have h := h.2 hc
        exact j27 _ _ _ _ h hw (lv_sub hl [0] rfl)
      · have h := h.1 hc
        refine lv_aload_n hx hb d_T_skipToLine_18 rfl (lv_at hl 0 rfl) ?_
        refine m_calli (hr := va_runV (As := []) (rest := []) ⟨hx, hb, hml, hown, hts⟩ (c_T_here l D cA ad _ T_size T_place T_fault T_bytes _ h) (cwV 0 hts (ginV gm_178 gm_180 gs_4 gm_5 gm_181) rfl rfl rfl (by decide +kernel) ⟨Nat.le_of_ble_eq_true rfl, Nat.le_of_ble_eq_true rfl⟩) (m_preV 4 0 rfl rfl hK hw [0, 1] rfl rfl) rfl rfl hl.1 rfl (lv_room (Nat.le_of_ble_eq_true rfl)) d_T_skipToLine_19 ⟨Nat.zero_le _, Nat.zero_le _⟩) (w2 := (fun (_ : Unit) => [(k_T cA ad T_size T_place T_fault), (k_T_bytes cA ad T_bytes)])) (wr := []) hw hA [0, 1] [] [0, 1] rfl rfl (by decide) (by decide) (by decide) (fun _ => rfl) (fun r19 u H locs hw h => ?_)
        refine lv_bipush (v := 10) hx hb d_T_skipToLine_22 (by decide) ?_
        refine lv_icmp_ne (tgt := 40) hx hb d_T_skipToLine_24 (by decide) (fun hc => ?_) (fun hc => ?_)
        · have h := h.2 hc
          exact hE (T_place) _ _ _ _ h hw d_T_skipToLine_40
        · have h := h.1 hc
          exact j27 _ _ _ _ h hw (lv_sub hl [0] rfl)
  unfold wp_T_skipToLine at h
  have h := h C0 hc0
  exact (hC0 _).1 h _ _ _ hw (lv_sub hl [0] rfl)
def rm_T_skipBlanks : Room := { frames := 2, cells := 0, slots := 0, locals := 41 }
set_option maxHeartbeats 4000000 in
set_option maxRecDepth 100000 in
theorem c_T_skipBlanks (l : Launch) (D : va_G) (cA : Nat → ClassId) (ad : Nat → Nat) (sz : Nat) (T_size : Int32) (T_place : Int32) (T_fault : Int32) (T_bytes : (Nat → Int32)) (post : Int32 → Prop) (h : wp_T_skipBlanks T_size T_place T_bytes post) : Met l y_T_skipBlanks w_T_skipBlanks rm_T_skipBlanks (mPc D cA [.ref (ad 13)] [(k_T cA ad T_size T_place T_fault), (k_T_bytes cA ad T_bytes)] sz) (va_Qv (fun (u : Int32) => post u) (mB D (va_A [(k_T cA ad T_size T_place T_fault), (k_T_bytes cA ad T_bytes)] sz) (fun (u : Int32) => [(k_T cA ad T_size u T_fault), (k_T_bytes cA ad T_bytes)])) (va_A [(k_T cA ad T_size T_place T_fault), (k_T_bytes cA ad T_bytes)] sz)) 0 0 (va_A [(k_T cA ad T_size T_place T_fault), (k_T_bytes cA ad T_bytes)] sz) := by
  refine m_methV (by decide) rfl (Nat.le_of_ble_eq_true rfl) ?_
  intro p e s m below meth c A Q ls hx hb hml hown hts hK hA hw hl hE
  have hl : lv_has ls 1 [(0, .ref (ad 13))] := hl
  have hown : s.vm.findClass R_T = some m.cls := hown
  have hg : ∀ {w : Cond}, w ∈ gw → w.before _ s = true := fun h => hts _ (List.mem_cons_of_mem _ h)
  obtain ⟨C0, hC0⟩ : ∃ C : Int32 → Prop, ∀ (T_place : Int32), C T_place ↔ (∀ (H : Heap) (locs : List Loc) (ls : Array Slot), mW D A s.heap [(k_T cA ad T_size T_place T_fault), (k_T_bytes cA ad T_bytes)] H locs → lv_has ls 1 [(0, .ref (ad 13))] → W p l e rm_T_skipBlanks s m [.ref (ad 13)].toArray below meth c H locs 0 0 Q (F0 m 0 ls [])) := ⟨_, fun _ => Iff.rfl⟩
  have hc0 : ∀ (T_place : Int32), s_T_skipBlanks_0 T_size T_bytes C0 post T_place → C0 T_place := by
    intro T_place h
    unfold s_T_skipBlanks_0 at h
    refine (hC0 _).2 ?_
    intro H locs ls hw hl
    refine lv_aload_n hx hb d_T_skipBlanks_0 rfl (lv_at hl 0 rfl) ?_
    refine va_get (D := D) (ci := 4) (v := .int T_place) (C := R_T) (T := T_T) (N := 6) hx hb hts (fun w h => List.mem_cons_of_mem _ (iw_T w h)) hown hK.1 hw.1 0 rfl rfl 4 (by decide) (hg gm_126) (fun _ h9 => h9) rfl d_T_skipBlanks_1 ?_
    refine lv_aload_n hx hb d_T_skipBlanks_4 rfl (lv_at hl 0 rfl) ?_
    refine va_get (D := D) (ci := 4) (v := .int T_size) (C := R_T) (T := T_T) (N := 6) hx hb hts (fun w h => List.mem_cons_of_mem _ (iw_T w h)) hown hK.1 hw.1 0 rfl rfl 3 (by decide) (hg gm_124) (fun _ h9 => h9) rfl d_T_skipBlanks_5 ?_
    refine lv_icmp_ge (tgt := 31) hx hb d_T_skipBlanks_8 (by decide) (fun hc => ?_) (fun hc => ?_)
    · have h := h.1 hc
      exact hE (T_place) _ _ _ _ h hw d_T_skipBlanks_31
    · have h := h.2 hc
      refine lv_aload_n hx hb d_T_skipBlanks_11 rfl (lv_at hl 0 rfl) ?_
      refine m_calli (hr := va_runV (As := []) (rest := []) ⟨hx, hb, hml, hown, hts⟩ (c_T_isBlankHere l D cA ad _ T_size T_place T_fault T_bytes _ h) (cwV 0 hts (ginV gm_174 gm_176 gs_3 gm_5 gm_177) rfl rfl rfl (by decide +kernel) ⟨Nat.le_of_ble_eq_true rfl, Nat.le_of_ble_eq_true rfl⟩) (m_preV 4 0 rfl rfl hK hw [0, 1] rfl rfl) rfl rfl hl.1 rfl (lv_room (Nat.le_of_ble_eq_true rfl)) d_T_skipBlanks_12 ⟨Nat.zero_le _, Nat.zero_le _⟩) (w2 := (fun (_ : Unit) => [(k_T cA ad T_size T_place T_fault), (k_T_bytes cA ad T_bytes)])) (wr := []) hw hA [0, 1] [] [0, 1] rfl rfl (by decide) (by decide) (by decide) (fun _ => rfl) (fun r12 u H locs hw h => ?_)
      refine lv_if_eq (tgt := 31) hx hb d_T_skipBlanks_15 (by decide) (fun hc => ?_) (fun hc => ?_)
      · have h := h.1 hc
        exact hE (T_place) _ _ _ _ h hw d_T_skipBlanks_31
      · have h := h.2 hc
        refine lv_aload_n hx hb d_T_skipBlanks_18 rfl (lv_at hl 0 rfl) ?_
        refine lv_dup hx hb d_T_skipBlanks_19 rfl ?_
        refine va_get (D := D) (ci := 4) (v := .int T_place) (C := R_T) (T := T_T) (N := 6) hx hb hts (fun w h => List.mem_cons_of_mem _ (iw_T w h)) hown hK.1 hw.1 0 rfl rfl 4 (by decide) (hg gm_126) (fun _ h9 => h9) rfl d_T_skipBlanks_20 ?_
        refine lv_iconst (v := 1) hx hb d_T_skipBlanks_23 (by decide) ?_
        refine lv_iadd hx hb d_T_skipBlanks_24 ?_
        refine m_put (ws' := [(k_T cA ad T_size (T_place + 1) T_fault), (k_T_bytes cA ad T_bytes)]) (ci := 4) (v := .int (T_place + 1)) (ty := .int) (C := R_T) (T := T_T) (N := 6) hx hb hts (fun w h => List.mem_cons_of_mem _ (iw_T w h)) ty_T tyok_T nm_T hown hK.1 hw 0 rfl rfl 4 (by decide) (hg gm_126) (fun _ h9 => h9) rfl (by decide +kernel) rfl rfl (Nat.le_of_ble_eq_true rfl) rfl d_T_skipBlanks_25 (fun H locs hw => ?_)
        refine lv_goto (tgt := 0) hx hb d_T_skipBlanks_28 (by decide) ?_
        exact (hC0 _).1 h _ _ _ hw (lv_sub hl [0] rfl)
  unfold wp_T_skipBlanks at h
  have h := h C0 hc0
  exact (hC0 _).1 h _ _ _ hw (lv_sub hl [0] rfl)
def rm_T_isSignHere : Room := { frames := 1, cells := 0, slots := 0, locals := 20 }
set_option maxHeartbeats 4000000 in
set_option maxRecDepth 100000 in
theorem c_T_isSignHere (l : Launch) (D : va_G) (cA : Nat → ClassId) (ad : Nat → Nat) (sz : Nat) (T_size : Int32) (T_place : Int32) (T_fault : Int32) (T_bytes : (Nat → Int32)) (post : Int32 → Prop) (h : wp_T_isSignHere T_size T_place T_bytes post) : Met l y_T_isSignHere w_T_isSignHere rm_T_isSignHere (mPc D cA [.ref (ad 13)] [(k_T cA ad T_size T_place T_fault), (k_T_bytes cA ad T_bytes)] sz) (va_Qi (fun (r : Int32) (_ : Unit) => post r) (mB D (va_A [(k_T cA ad T_size T_place T_fault), (k_T_bytes cA ad T_bytes)] sz) (fun (_ : Unit) => [(k_T cA ad T_size T_place T_fault), (k_T_bytes cA ad T_bytes)])) (va_A [(k_T cA ad T_size T_place T_fault), (k_T_bytes cA ad T_bytes)] sz)) 0 0 (va_A [(k_T cA ad T_size T_place T_fault), (k_T_bytes cA ad T_bytes)] sz) := by
  refine m_methZ (by decide) rfl (Nat.le_of_ble_eq_true rfl) ?_
  intro p e s m below meth c A Q ls hx hb hml hown hts hK hA hw hl hE
  have hl : lv_has ls 1 [(0, .ref (ad 13))] := hl
  have hown : s.vm.findClass R_T = some m.cls := hown
  have hg : ∀ {w : Cond}, w ∈ gw → w.before _ s = true := fun h => hts _ (List.mem_cons_of_mem _ h)
  unfold wp_T_isSignHere at h
  refine lv_aload_n hx hb d_T_isSignHere_0 rfl (lv_at hl 0 rfl) ?_
  refine m_calli (hr := va_runV (As := []) (rest := []) ⟨hx, hb, hml, hown, hts⟩ (c_T_here l D cA ad _ T_size T_place T_fault T_bytes _ h) (cwV 0 hts (ginV gm_178 gm_180 gs_4 gm_5 gm_181) rfl rfl rfl (by decide +kernel) ⟨Nat.le_of_ble_eq_true rfl, Nat.le_of_ble_eq_true rfl⟩) (m_preV 4 0 rfl rfl hK hw [0, 1] rfl rfl) rfl rfl hl.1 rfl (lv_room (Nat.le_of_ble_eq_true rfl)) d_T_isSignHere_1 ⟨Nat.zero_le _, Nat.zero_le _⟩) (w2 := (fun (_ : Unit) => [(k_T cA ad T_size T_place T_fault), (k_T_bytes cA ad T_bytes)])) (wr := []) hw hA [0, 1] [] [0, 1] rfl rfl (by decide) (by decide) (by decide) (fun _ => rfl) (fun r1 u H locs hw h => ?_)
  refine lv_bipush (v := 43) hx hb d_T_isSignHere_4 (by decide) ?_
  refine lv_icmp_eq (tgt := 18) hx hb d_T_isSignHere_6 (by decide) (fun hc => ?_) (fun hc => ?_)
  · have h := h.1 hc
    refine lv_iconst (v := 1) hx hb d_T_isSignHere_18 (by decide) ?_
    refine lv_goto (tgt := 23) hx hb d_T_isSignHere_19 (by decide) ?_
    exact hE 1 () _ _ _ _ h rfl hw d_T_isSignHere_23
  · have h := h.2 hc
    refine lv_aload_n hx hb d_T_isSignHere_9 rfl (lv_at hl 0 rfl) ?_
    refine m_calli (hr := va_runV (As := []) (rest := []) ⟨hx, hb, hml, hown, hts⟩ (c_T_here l D cA ad _ T_size T_place T_fault T_bytes _ h) (cwV 0 hts (ginV gm_178 gm_180 gs_4 gm_5 gm_181) rfl rfl rfl (by decide +kernel) ⟨Nat.le_of_ble_eq_true rfl, Nat.le_of_ble_eq_true rfl⟩) (m_preV 4 0 rfl rfl hK hw [0, 1] rfl rfl) rfl rfl hl.1 rfl (lv_room (Nat.le_of_ble_eq_true rfl)) d_T_isSignHere_10 ⟨Nat.zero_le _, Nat.zero_le _⟩) (w2 := (fun (_ : Unit) => [(k_T cA ad T_size T_place T_fault), (k_T_bytes cA ad T_bytes)])) (wr := []) hw hA [0, 1] [] [0, 1] rfl rfl (by decide) (by decide) (by decide) (fun _ => rfl) (fun r10 u H locs hw h => ?_)
    refine lv_bipush (v := 45) hx hb d_T_isSignHere_13 (by decide) ?_
    refine lv_icmp_ne (tgt := 22) hx hb d_T_isSignHere_15 (by decide) (fun hc => ?_) (fun hc => ?_)
    · have h := h.2 hc
      refine lv_iconst (v := 0) hx hb d_T_isSignHere_22 (by decide) ?_
      exact hE 0 () _ _ _ _ h rfl hw d_T_isSignHere_23
    · have h := h.1 hc
      refine lv_iconst (v := 1) hx hb d_T_isSignHere_18 (by decide) ?_
      refine lv_goto (tgt := 23) hx hb d_T_isSignHere_19 (by decide) ?_
      exact hE 1 () _ _ _ _ h rfl hw d_T_isSignHere_23
def rm_T_isDigitHere : Room := { frames := 1, cells := 0, slots := 0, locals := 20 }
set_option maxHeartbeats 4000000 in
set_option maxRecDepth 100000 in
theorem c_T_isDigitHere (l : Launch) (D : va_G) (cA : Nat → ClassId) (ad : Nat → Nat) (sz : Nat) (T_size : Int32) (T_place : Int32) (T_fault : Int32) (T_bytes : (Nat → Int32)) (post : Int32 → Prop) (h : wp_T_isDigitHere T_size T_place T_bytes post) : Met l y_T_isDigitHere w_T_isDigitHere rm_T_isDigitHere (mPc D cA [.ref (ad 13)] [(k_T cA ad T_size T_place T_fault), (k_T_bytes cA ad T_bytes)] sz) (va_Qi (fun (r : Int32) (_ : Unit) => post r) (mB D (va_A [(k_T cA ad T_size T_place T_fault), (k_T_bytes cA ad T_bytes)] sz) (fun (_ : Unit) => [(k_T cA ad T_size T_place T_fault), (k_T_bytes cA ad T_bytes)])) (va_A [(k_T cA ad T_size T_place T_fault), (k_T_bytes cA ad T_bytes)] sz)) 0 0 (va_A [(k_T cA ad T_size T_place T_fault), (k_T_bytes cA ad T_bytes)] sz) := by
  refine m_methZ (by decide) rfl (Nat.le_of_ble_eq_true rfl) ?_
  intro p e s m below meth c A Q ls hx hb hml hown hts hK hA hw hl hE
  have hl : lv_has ls 1 [(0, .ref (ad 13))] := hl
  have hown : s.vm.findClass R_T = some m.cls := hown
  have hg : ∀ {w : Cond}, w ∈ gw → w.before _ s = true := fun h => hts _ (List.mem_cons_of_mem _ h)
  unfold wp_T_isDigitHere at h
  refine lv_aload_n hx hb d_T_isDigitHere_0 rfl (lv_at hl 0 rfl) ?_
  refine m_calli (hr := va_runV (As := []) (rest := []) ⟨hx, hb, hml, hown, hts⟩ (c_T_here l D cA ad _ T_size T_place T_fault T_bytes _ h) (cwV 0 hts (ginV gm_178 gm_180 gs_4 gm_5 gm_181) rfl rfl rfl (by decide +kernel) ⟨Nat.le_of_ble_eq_true rfl, Nat.le_of_ble_eq_true rfl⟩) (m_preV 4 0 rfl rfl hK hw [0, 1] rfl rfl) rfl rfl hl.1 rfl (lv_room (Nat.le_of_ble_eq_true rfl)) d_T_isDigitHere_1 ⟨Nat.zero_le _, Nat.zero_le _⟩) (w2 := (fun (_ : Unit) => [(k_T cA ad T_size T_place T_fault), (k_T_bytes cA ad T_bytes)])) (wr := []) hw hA [0, 1] [] [0, 1] rfl rfl (by decide) (by decide) (by decide) (fun _ => rfl) (fun r1 u H locs hw h => ?_)
  refine lv_bipush (v := 48) hx hb d_T_isDigitHere_4 (by decide) ?_
  refine lv_icmp_lt (tgt := 22) hx hb d_T_isDigitHere_6 (by decide) (fun hc => ?_) (fun hc => ?_)
  · have h := h.1 hc
    refine lv_iconst (v := 0) hx hb d_T_isDigitHere_22 (by decide) ?_
    exact hE 0 () _ _ _ _ h rfl hw d_T_isDigitHere_23
  · have h := h.2 hc
    refine lv_aload_n hx hb d_T_isDigitHere_9 rfl (lv_at hl 0 rfl) ?_
    refine m_calli (hr := va_runV (As := []) (rest := []) ⟨hx, hb, hml, hown, hts⟩ (c_T_here l D cA ad _ T_size T_place T_fault T_bytes _ h) (cwV 0 hts (ginV gm_178 gm_180 gs_4 gm_5 gm_181) rfl rfl rfl (by decide +kernel) ⟨Nat.le_of_ble_eq_true rfl, Nat.le_of_ble_eq_true rfl⟩) (m_preV 4 0 rfl rfl hK hw [0, 1] rfl rfl) rfl rfl hl.1 rfl (lv_room (Nat.le_of_ble_eq_true rfl)) d_T_isDigitHere_10 ⟨Nat.zero_le _, Nat.zero_le _⟩) (w2 := (fun (_ : Unit) => [(k_T cA ad T_size T_place T_fault), (k_T_bytes cA ad T_bytes)])) (wr := []) hw hA [0, 1] [] [0, 1] rfl rfl (by decide) (by decide) (by decide) (fun _ => rfl) (fun r10 u H locs hw h => ?_)
    refine lv_bipush (v := 57) hx hb d_T_isDigitHere_13 (by decide) ?_
    refine lv_icmp_gt (tgt := 22) hx hb d_T_isDigitHere_15 (by decide) (fun hc => ?_) (fun hc => ?_)
    · have h := h.1 hc
      refine lv_iconst (v := 0) hx hb d_T_isDigitHere_22 (by decide) ?_
      exact hE 0 () _ _ _ _ h rfl hw d_T_isDigitHere_23
    · have h := h.2 hc
      refine lv_iconst (v := 1) hx hb d_T_isDigitHere_18 (by decide) ?_
      refine lv_goto (tgt := 23) hx hb d_T_isDigitHere_19 (by decide) ?_
      exact hE 1 () _ _ _ _ h rfl hw d_T_isDigitHere_23
def rm_T_readNumber : Room := { frames := 2, cells := 0, slots := 0, locals := 40 }
set_option maxHeartbeats 4000000 in
set_option maxRecDepth 100000 in
theorem c_T_readNumber (l : Launch) (D : va_G) (cA : Nat → ClassId) (ad : Nat → Nat) (sz : Nat) (T_size : Int32) (T_place : Int32) (T_fault : Int32) (T_bytes : (Nat → Int32)) (post : Int32 → Int32 → Prop) (h : wp_T_readNumber T_size T_place T_bytes post) : Met l y_T_readNumber w_T_readNumber rm_T_readNumber (mPc D cA [.ref (ad 13)] [(k_T cA ad T_size T_place T_fault), (k_T_bytes cA ad T_bytes)] sz) (va_Qi (fun (r : Int32) (u : Int32) => post r u) (mB D (va_A [(k_T cA ad T_size T_place T_fault), (k_T_bytes cA ad T_bytes)] sz) (fun (u : Int32) => [(k_T cA ad T_size u T_fault), (k_T_bytes cA ad T_bytes)])) (va_A [(k_T cA ad T_size T_place T_fault), (k_T_bytes cA ad T_bytes)] sz)) 0 0 (va_A [(k_T cA ad T_size T_place T_fault), (k_T_bytes cA ad T_bytes)] sz) := by
  refine m_methI (by decide) rfl (Nat.le_of_ble_eq_true rfl) ?_
  intro p e s m below meth c A Q ls hx hb hml hown hts hK hA hw hl hE
  have hl : lv_has ls 2 [(0, .ref (ad 13))] := hl
  have hown : s.vm.findClass R_T = some m.cls := hown
  have hg : ∀ {w : Cond}, w ∈ gw → w.before _ s = true := fun h => hts _ (List.mem_cons_of_mem _ h)
  obtain ⟨C2, hC2⟩ : ∃ C : Int32 → Int32 → Prop, ∀ (x1 : Int32) (T_place : Int32), C x1 T_place ↔ (∀ (H : Heap) (locs : List Loc) (ls : Array Slot), mW D A s.heap [(k_T cA ad T_size T_place T_fault), (k_T_bytes cA ad T_bytes)] H locs → lv_has ls 2 [(0, .ref (ad 13)), (1, .int x1)] → W p l e rm_T_readNumber s m [.ref (ad 13)].toArray below meth c H locs 0 0 Q (F0 m 2 ls [])) := ⟨_, fun _ _ => Iff.rfl⟩
  have hc2 : ∀ (x1 : Int32) (T_place : Int32), s_T_readNumber_2 T_size T_bytes C2 post x1 T_place → C2 x1 T_place := by
    intro x1 T_place h
    unfold s_T_readNumber_2 at h
    refine (hC2 _ _).2 ?_
    intro H locs ls hw hl
    refine lv_aload_n hx hb d_T_readNumber_2 rfl (lv_at hl 0 rfl) ?_
    refine va_get (D := D) (ci := 4) (v := .int T_place) (C := R_T) (T := T_T) (N := 6) hx hb hts (fun w h => List.mem_cons_of_mem _ (iw_T w h)) hown hK.1 hw.1 0 rfl rfl 4 (by decide) (hg gm_126) (fun _ h9 => h9) rfl d_T_readNumber_3 ?_
    refine lv_aload_n hx hb d_T_readNumber_6 rfl (lv_at hl 0 rfl) ?_
    refine va_get (D := D) (ci := 4) (v := .int T_size) (C := R_T) (T := T_T) (N := 6) hx hb hts (fun w h => List.mem_cons_of_mem _ (iw_T w h)) hown hK.1 hw.1 0 rfl rfl 3 (by decide) (hg gm_124) (fun _ h9 => h9) rfl d_T_readNumber_7 ?_
    refine lv_icmp_ge (tgt := 55) hx hb d_T_readNumber_10 (by decide) (fun hc => ?_) (fun hc => ?_)
    · have h := h.1 hc
      refine lv_iload_n hx hb d_T_readNumber_55 rfl (lv_at hl 1 rfl) ?_
      exact hE x1 (T_place) _ _ _ _ h hw d_T_readNumber_56
    · have h := h.2 hc
      refine lv_aload_n hx hb d_T_readNumber_13 rfl (lv_at hl 0 rfl) ?_
      refine m_calli (hr := va_runV (As := []) (rest := []) ⟨hx, hb, hml, hown, hts⟩ (c_T_isDigitHere l D cA ad _ T_size T_place T_fault T_bytes _ h) (cwV 0 hts (ginV gm_210 gm_212 gs_12 gm_5 gm_213) rfl rfl rfl (by decide +kernel) ⟨Nat.le_of_ble_eq_true rfl, Nat.le_of_ble_eq_true rfl⟩) (m_preV 4 0 rfl rfl hK hw [0, 1] rfl rfl) rfl rfl hl.1 rfl (lv_room (Nat.le_of_ble_eq_true rfl)) d_T_readNumber_14 ⟨Nat.zero_le _, Nat.zero_le _⟩) (w2 := (fun (_ : Unit) => [(k_T cA ad T_size T_place T_fault), (k_T_bytes cA ad T_bytes)])) (wr := []) hw hA [0, 1] [] [0, 1] rfl rfl (by decide) (by decide) (by decide) (fun _ => rfl) (fun r14 u H locs hw h => ?_)
      refine lv_if_eq (tgt := 55) hx hb d_T_readNumber_17 (by decide) (fun hc => ?_) (fun hc => ?_)
      · have h := h.1 hc
        refine lv_iload_n hx hb d_T_readNumber_55 rfl (lv_at hl 1 rfl) ?_
        exact hE x1 (T_place) _ _ _ _ h hw d_T_readNumber_56
      · have h := h.2 hc
        refine lv_iload_n hx hb d_T_readNumber_20 rfl (lv_at hl 1 rfl) ?_
        refine lv_iconst (v := 0) hx hb d_T_readNumber_21 (by decide) ?_
        refine va_mmax hx hb (hml.trans hl.1.symm) hown (hg gm_214) (hg gm_215) (hg gm_16) (hg gm_216) (Nat.le_of_ble_eq_true rfl) (Nat.le_of_ble_eq_true rfl) (Nat.zero_le _) (Nat.zero_le _) d_T_readNumber_22 ?_
        refine lv_bipush (v := 10) hx hb d_T_readNumber_25 (by decide) ?_
        refine lv_imul hx hb d_T_readNumber_27 ?_
        refine lv_aload_n hx hb d_T_readNumber_28 rfl (lv_at hl 0 rfl) ?_
        refine m_calli (hr := va_runV (As := []) (rest := [.int ((if x1 < 0 then 0 else x1) * 10)]) ⟨hx, hb, hml, hown, hts⟩ (c_T_here l D cA ad _ T_size T_place T_fault T_bytes _ h) (cwV 0 hts (ginV gm_178 gm_180 gs_4 gm_5 gm_181) rfl rfl rfl (by decide +kernel) ⟨Nat.le_of_ble_eq_true rfl, Nat.le_of_ble_eq_true rfl⟩) (m_preV 4 0 rfl rfl hK hw [0, 1] rfl rfl) rfl rfl hl.1 rfl (lv_room (Nat.le_of_ble_eq_true rfl)) d_T_readNumber_29 ⟨Nat.zero_le _, Nat.zero_le _⟩) (w2 := (fun (_ : Unit) => [(k_T cA ad T_size T_place T_fault), (k_T_bytes cA ad T_bytes)])) (wr := []) hw hA [0, 1] [] [0, 1] rfl rfl (by decide) (by decide) (by decide) (fun _ => rfl) (fun r29 u H locs hw h => ?_)
        refine lv_iadd hx hb d_T_readNumber_32 ?_
        refine lv_bipush (v := 48) hx hb d_T_readNumber_33 (by decide) ?_
        refine lv_isub hx hb d_T_readNumber_35 ?_
        refine lv_bipush (v := 40) hx hb d_T_readNumber_36 (by decide) ?_
        refine va_mmin hx hb (hml.trans hl.1.symm) hown (hg gm_217) (hg gm_218) (hg gm_16) (hg gm_219) (Nat.le_of_ble_eq_true rfl) (Nat.le_of_ble_eq_true rfl) (Nat.zero_le _) (Nat.zero_le _) d_T_readNumber_38 ?_
        refine lv_istore_n (lv' := [(1, .int (if 40 < ((((if x1 < 0 then 0 else x1) * 10) + r29) - 48) then 40 else ((((if x1 < 0 then 0 else x1) * 10) + r29) - 48))), (0, .ref (ad 13))]) hx hb d_T_readNumber_41 rfl hl (by decide) rfl (fun ls hl => ?_)
        refine lv_aload_n hx hb d_T_readNumber_42 rfl (lv_at hl 1 rfl) ?_
        refine lv_dup hx hb d_T_readNumber_43 rfl ?_
        refine va_get (D := D) (ci := 4) (v := .int T_place) (C := R_T) (T := T_T) (N := 6) hx hb hts (fun w h => List.mem_cons_of_mem _ (iw_T w h)) hown hK.1 hw.1 0 rfl rfl 4 (by decide) (hg gm_126) (fun _ h9 => h9) rfl d_T_readNumber_44 ?_
        refine lv_iconst (v := 1) hx hb d_T_readNumber_47 (by decide) ?_
        refine lv_iadd hx hb d_T_readNumber_48 ?_
        refine m_put (ws' := [(k_T cA ad T_size (T_place + 1) T_fault), (k_T_bytes cA ad T_bytes)]) (ci := 4) (v := .int (T_place + 1)) (ty := .int) (C := R_T) (T := T_T) (N := 6) hx hb hts (fun w h => List.mem_cons_of_mem _ (iw_T w h)) ty_T tyok_T nm_T hown hK.1 hw 0 rfl rfl 4 (by decide) (hg gm_126) (fun _ h9 => h9) rfl (by decide +kernel) rfl rfl (Nat.le_of_ble_eq_true rfl) rfl d_T_readNumber_49 (fun H locs hw => ?_)
        refine lv_goto (tgt := 2) hx hb d_T_readNumber_52 (by decide) ?_
        exact (hC2 _ _).1 h _ _ _ hw (lv_sub hl [1, 0] rfl)
  unfold wp_T_readNumber at h
  have h := h C2 hc2
  refine lv_iconst (v := (-1)) hx hb d_T_readNumber_0 (by decide) ?_
  refine lv_istore_n (lv' := [(1, .int (-1)), (0, .ref (ad 13))]) hx hb d_T_readNumber_1 rfl hl (by decide) rfl (fun ls hl => ?_)
  exact (hC2 _ _).1 h _ _ _ hw (lv_sub hl [1, 0] rfl)
def rm_T_readLiteral : Room := { frames := 3, cells := 0, slots := 0, locals := 61 }
set_option maxHeartbeats 4000000 in
set_option maxRecDepth 100000 in
theorem c_T_readLiteral (l : Launch) (D : va_G) (cA : Nat → ClassId) (ad : Nat → Nat) (sz : Nat) (G_size : Int32) (G_inputs : Int32) (F_size : Int32) (F_kinds : (Nat → Int32)) (F_sizes : (Nat → Int32)) (F_literals : (Nat → Int32)) (T_size : Int32) (T_place : Int32) (T_fault : Int32) (T_bytes : (Nat → Int32)) (p1 : Int32) (post : (Nat → Int32) → (Nat → Int32) → Int32 → Int32 → Prop) (h : wp_T_readLiteral G_size F_kinds F_sizes F_literals T_size T_place T_fault T_bytes p1 post) : Met l y_T_readLiteral w_T_readLiteral rm_T_readLiteral (mPc D cA [.ref (ad 13), .int p1] [(k_G cA ad G_size G_inputs), (k_F cA ad F_size), (k_F_kinds cA ad F_kinds), (k_F_sizes cA ad F_sizes), (k_F_literals cA ad F_literals), (k_T cA ad T_size T_place T_fault), (k_T_bytes cA ad T_bytes)] sz) (va_Qv (fun (u : (Nat → Int32) × (Nat → Int32) × Int32 × Int32) => post u.1 u.2.1 u.2.2.1 u.2.2.2) (mB D (va_A [(k_G cA ad G_size G_inputs), (k_F cA ad F_size), (k_F_kinds cA ad F_kinds), (k_F_sizes cA ad F_sizes), (k_F_literals cA ad F_literals), (k_T cA ad T_size T_place T_fault), (k_T_bytes cA ad T_bytes)] sz) (fun (u : (Nat → Int32) × (Nat → Int32) × Int32 × Int32) => [(k_G cA ad G_size G_inputs), (k_F cA ad F_size), (k_F_kinds cA ad F_kinds), (k_F_sizes cA ad u.1), (k_F_literals cA ad u.2.1), (k_T cA ad T_size u.2.2.1 u.2.2.2), (k_T_bytes cA ad T_bytes)])) (va_A [(k_G cA ad G_size G_inputs), (k_F cA ad F_size), (k_F_kinds cA ad F_kinds), (k_F_sizes cA ad F_sizes), (k_F_literals cA ad F_literals), (k_T cA ad T_size T_place T_fault), (k_T_bytes cA ad T_bytes)] sz)) 0 0 (va_A [(k_G cA ad G_size G_inputs), (k_F cA ad F_size), (k_F_kinds cA ad F_kinds), (k_F_sizes cA ad F_sizes), (k_F_literals cA ad F_literals), (k_T cA ad T_size T_place T_fault), (k_T_bytes cA ad T_bytes)] sz) := by
  refine m_methV (by decide) rfl (Nat.le_of_ble_eq_true rfl) ?_
  intro p e s m below meth c A Q ls hx hb hml hown hts hK hA hw hl hE
  have hl : lv_has ls 6 [(0, .ref (ad 13)), (1, .int p1)] := hl
  have hown : s.vm.findClass R_T = some m.cls := hown
  have hg : ∀ {w : Cond}, w ∈ gw → w.before _ s = true := fun h => hts _ (List.mem_cons_of_mem _ h)
  have j107 : ∀ (x5 : Int32) (F_sizes : (Nat → Int32)) (F_literals : (Nat → Int32)) (T_place : Int32) (T_fault : Int32) (H : Heap) (locs : List Loc) (ls : Array Slot), s_T_readLiteral_107 G_size F_kinds T_size T_bytes p1 post x5 F_sizes F_literals T_place T_fault → mW D A s.heap [(k_G cA ad G_size G_inputs), (k_F cA ad F_size), (k_F_kinds cA ad F_kinds), (k_F_sizes cA ad F_sizes), (k_F_literals cA ad F_literals), (k_T cA ad T_size T_place T_fault), (k_T_bytes cA ad T_bytes)] H locs → lv_has ls 6 [(0, .ref (ad 13)), (1, .int p1), (5, .int x5)] → W p l e rm_T_readLiteral s m [.ref (ad 13), .int p1].toArray below meth c H locs 0 0 Q (F0 m 107 ls []) := by
    intro x5 F_sizes F_literals T_place T_fault H locs ls h hw hl
    unfold s_T_readLiteral_107 at h
    refine lv_aload_n hx hb d_T_readLiteral_107 rfl (lv_at hl 0 rfl) ?_
    refine va_get (D := D) (ci := 4) (v := .ref (ad 6)) (C := R_T) (T := T_T) (N := 6) hx hb hts (fun w h => List.mem_cons_of_mem _ (iw_T w h)) hown hK.1 hw.1 5 rfl rfl 1 (by decide) (hg gm_122) (fun _ h9 => h9) rfl d_T_readLiteral_108 ?_
    refine lv_iload_n hx hb d_T_readLiteral_111 rfl (lv_at hl 1 rfl) ?_
    refine lv_iload hx hb d_T_readLiteral_112 (lv_at hl 2 rfl) ?_
    refine m_callv (hr := va_runVN (As := [.int p1, .int x5]) (rest := []) ⟨hx, hb, hml, hown, hts⟩ (c_F_append l D cA ad _ F_size F_sizes F_literals p1 x5 _ h) ⟨va_cnB 2 hts (gin gm_239) rfl rfl rfl (hK.2 _ nw_236) (hg gm_3) (by decide +kernel) ⟨Nat.le_of_ble_eq_true rfl, Nat.le_of_ble_eq_true rfl⟩, hg gm_238, hg gs_17⟩ (m_preV 2 1 rfl rfl hK hw [1, 3, 4] rfl rfl) rfl rfl hl.1 rfl (lv_room (Nat.le_of_ble_eq_true rfl)) d_T_readLiteral_114 ⟨Nat.zero_le _, Nat.zero_le _⟩) (w2 := (fun (u : (Nat → Int32) × (Nat → Int32)) => [(k_G cA ad G_size G_inputs), (k_F cA ad F_size), (k_F_kinds cA ad F_kinds), (k_F_sizes cA ad u.1), (k_F_literals cA ad u.2), (k_T cA ad T_size T_place T_fault), (k_T_bytes cA ad T_bytes)])) (wr := [(k_G cA ad G_size G_inputs), (k_F_kinds cA ad F_kinds), (k_T cA ad T_size T_place T_fault), (k_T_bytes cA ad T_bytes)]) hw hA [1, 3, 4] [0, 2, 5, 6] [0, 4, 1, 5, 6, 2, 3] rfl rfl (by decide) (by decide) (by decide) (fun _ => rfl) (fun u H locs hw h => ?_)
    obtain ⟨F_sizes_114, F_literals_114⟩ := u
    have hw : mW D A s.heap [(k_G cA ad G_size G_inputs), (k_F cA ad F_size), (k_F_kinds cA ad F_kinds), (k_F_sizes cA ad F_sizes_114), (k_F_literals cA ad F_literals_114), (k_T cA ad T_size T_place T_fault), (k_T_bytes cA ad T_bytes)] H locs := hw
    exact hE (F_sizes_114, F_literals_114, T_place, T_fault) _ _ _ _ h hw d_T_readLiteral_117
  have j67 : ∀ (x2 : Int32) (F_sizes : (Nat → Int32)) (F_literals : (Nat → Int32)) (T_place : Int32) (T_fault : Int32) (H : Heap) (locs : List Loc) (ls : Array Slot), s_T_readLiteral_67 G_size F_kinds T_size T_bytes p1 post x2 F_sizes F_literals T_place T_fault → mW D A s.heap [(k_G cA ad G_size G_inputs), (k_F cA ad F_size), (k_F_kinds cA ad F_kinds), (k_F_sizes cA ad F_sizes), (k_F_literals cA ad F_literals), (k_T cA ad T_size T_place T_fault), (k_T_bytes cA ad T_bytes)] H locs → lv_has ls 6 [(0, .ref (ad 13)), (2, .int x2)] → W p l e rm_T_readLiteral s m [.ref (ad 13), .int p1].toArray below meth c H locs 0 0 Q (F0 m 67 ls []) := by
    intro x2 F_sizes F_literals T_place T_fault H locs ls h hw hl
    unfold s_T_readLiteral_67 at h
    refine lv_aload_n hx hb d_T_readLiteral_67 rfl (lv_at hl 0 rfl) ?_
    refine lv_iload_n hx hb d_T_readLiteral_68 rfl (lv_at hl 1 rfl) ?_
    refine m_put (ws' := [(k_G cA ad G_size G_inputs), (k_F cA ad F_size), (k_F_kinds cA ad F_kinds), (k_F_sizes cA ad F_sizes), (k_F_literals cA ad F_literals), (k_T cA ad T_size T_place x2), (k_T_bytes cA ad T_bytes)]) (ci := 4) (v := .int x2) (ty := .int) (C := R_T) (T := T_T) (N := 6) hx hb hts (fun w h => List.mem_cons_of_mem _ (iw_T w h)) ty_T tyok_T nm_T hown hK.1 hw 5 rfl rfl 5 (by decide) (hg gm_127) (fun _ h9 => h9) rfl (by decide +kernel) rfl rfl (Nat.le_of_ble_eq_true rfl) rfl d_T_readLiteral_69 (fun H locs hw => ?_)
    exact hE (F_sizes, F_literals, T_place, x2) _ _ _ _ h hw d_T_readLiteral_72
  have j19 : ∀ (s0 : Int32) (x2 : Int32) (F_sizes : (Nat → Int32)) (F_literals : (Nat → Int32)) (T_place : Int32) (T_fault : Int32) (H : Heap) (locs : List Loc) (ls : Array Slot), s_T_readLiteral_19 G_size F_kinds T_size T_bytes p1 post s0 x2 F_sizes F_literals T_place T_fault → mW D A s.heap [(k_G cA ad G_size G_inputs), (k_F cA ad F_size), (k_F_kinds cA ad F_kinds), (k_F_sizes cA ad F_sizes), (k_F_literals cA ad F_literals), (k_T cA ad T_size T_place T_fault), (k_T_bytes cA ad T_bytes)] H locs → lv_has ls 6 [(0, .ref (ad 13)), (1, .int p1), (2, .int x2)] → W p l e rm_T_readLiteral s m [.ref (ad 13), .int p1].toArray below meth c H locs 0 0 Q (F0 m 19 ls [.int s0]) := by
    intro s0 x2 F_sizes F_literals T_place T_fault H locs ls h hw hl
    unfold s_T_readLiteral_19 at h
    refine lv_istore_n (lv' := [(3, .int s0), (0, .ref (ad 13)), (1, .int p1), (2, .int x2)]) hx hb d_T_readLiteral_19 rfl hl (by decide) rfl (fun ls hl => ?_)
    refine lv_aload_n hx hb d_T_readLiteral_20 rfl (lv_at hl 1 rfl) ?_
    refine lv_dup hx hb d_T_readLiteral_21 rfl ?_
    refine va_get (D := D) (ci := 4) (v := .int T_place) (C := R_T) (T := T_T) (N := 6) hx hb hts (fun w h => List.mem_cons_of_mem _ (iw_T w h)) hown hK.1 hw.1 5 rfl rfl 4 (by decide) (hg gm_126) (fun _ h9 => h9) rfl d_T_readLiteral_22 ?_
    refine lv_iconst (v := 1) hx hb d_T_readLiteral_25 (by decide) ?_
    refine lv_iadd hx hb d_T_readLiteral_26 ?_
    refine m_put (ws' := [(k_G cA ad G_size G_inputs), (k_F cA ad F_size), (k_F_kinds cA ad F_kinds), (k_F_sizes cA ad F_sizes), (k_F_literals cA ad F_literals), (k_T cA ad T_size (T_place + 1) T_fault), (k_T_bytes cA ad T_bytes)]) (ci := 4) (v := .int (T_place + 1)) (ty := .int) (C := R_T) (T := T_T) (N := 6) hx hb hts (fun w h => List.mem_cons_of_mem _ (iw_T w h)) ty_T tyok_T nm_T hown hK.1 hw 5 rfl rfl 4 (by decide) (hg gm_126) (fun _ h9 => h9) rfl (by decide +kernel) rfl rfl (Nat.le_of_ble_eq_true rfl) rfl d_T_readLiteral_27 (fun H locs hw => ?_)
    refine lv_aload_n hx hb d_T_readLiteral_30 rfl (lv_at hl 1 rfl) ?_
    refine m_callv (hr := va_runV (As := []) (rest := []) ⟨hx, hb, hml, hown, hts⟩ (c_T_skipBlanks l D cA ad _ T_size (T_place + 1) T_fault T_bytes _ h) (cwV 0 hts (ginV gm_194 gm_196 gs_8 gm_5 gm_197) rfl rfl rfl (by decide +kernel) ⟨Nat.le_of_ble_eq_true rfl, Nat.le_of_ble_eq_true rfl⟩) (m_preV 4 5 rfl rfl hK hw [5, 6] rfl rfl) rfl rfl hl.1 rfl (lv_room (Nat.le_of_ble_eq_true rfl)) d_T_readLiteral_31 ⟨Nat.zero_le _, Nat.zero_le _⟩) (w2 := (fun (u : Int32) => [(k_G cA ad G_size G_inputs), (k_F cA ad F_size), (k_F_kinds cA ad F_kinds), (k_F_sizes cA ad F_sizes), (k_F_literals cA ad F_literals), (k_T cA ad T_size u T_fault), (k_T_bytes cA ad T_bytes)])) (wr := [(k_G cA ad G_size G_inputs), (k_F cA ad F_size), (k_F_kinds cA ad F_kinds), (k_F_sizes cA ad F_sizes), (k_F_literals cA ad F_literals)]) hw hA [5, 6] [0, 1, 2, 3, 4] [0, 1, 2, 3, 4, 5, 6] rfl rfl (by decide) (by decide) (by decide) (fun _ => rfl) (fun u H locs hw h => ?_)
    obtain ⟨T_place_31, rfl⟩ : ∃ z, z = u := ⟨_, rfl⟩
    have hw : mW D A s.heap [(k_G cA ad G_size G_inputs), (k_F cA ad F_size), (k_F_kinds cA ad F_kinds), (k_F_sizes cA ad F_sizes), (k_F_literals cA ad F_literals), (k_T cA ad T_size T_place_31 T_fault), (k_T_bytes cA ad T_bytes)] H locs := hw
    refine lv_aload_n hx hb d_T_readLiteral_34 rfl (lv_at hl 1 rfl) ?_
    refine m_calli (hr := va_runV (As := []) (rest := []) ⟨hx, hb, hml, hown, hts⟩ (c_T_readNumber l D cA ad _ T_size T_place_31 T_fault T_bytes _ h) (cwV 0 hts (ginV gm_206 gm_208 gs_11 gm_5 gm_209) rfl rfl rfl (by decide +kernel) ⟨Nat.le_of_ble_eq_true rfl, Nat.le_of_ble_eq_true rfl⟩) (m_preV 4 5 rfl rfl hK hw [5, 6] rfl rfl) rfl rfl hl.1 rfl (lv_room (Nat.le_of_ble_eq_true rfl)) d_T_readLiteral_35 ⟨Nat.zero_le _, Nat.zero_le _⟩) (w2 := (fun (u : Int32) => [(k_G cA ad G_size G_inputs), (k_F cA ad F_size), (k_F_kinds cA ad F_kinds), (k_F_sizes cA ad F_sizes), (k_F_literals cA ad F_literals), (k_T cA ad T_size u T_fault), (k_T_bytes cA ad T_bytes)])) (wr := [(k_G cA ad G_size G_inputs), (k_F cA ad F_size), (k_F_kinds cA ad F_kinds), (k_F_sizes cA ad F_sizes), (k_F_literals cA ad F_literals)]) hw hA [5, 6] [0, 1, 2, 3, 4] [0, 1, 2, 3, 4, 5, 6] rfl rfl (by decide) (by decide) (by decide) (fun _ => rfl) (fun r35 u H locs hw h => ?_)
    obtain ⟨T_place_35, rfl⟩ : ∃ z, z = u := ⟨_, rfl⟩
    have hw : mW D A s.heap [(k_G cA ad G_size G_inputs), (k_F cA ad F_size), (k_F_kinds cA ad F_kinds), (k_F_sizes cA ad F_sizes), (k_F_literals cA ad F_literals), (k_T cA ad T_size T_place_35 T_fault), (k_T_bytes cA ad T_bytes)] H locs := hw
    refine lv_istore (lv' := [(4, .int r35), (3, .int s0), (0, .ref (ad 13)), (1, .int p1), (2, .int x2)]) hx hb d_T_readLiteral_38 hl (by decide) rfl (fun ls hl => ?_)
    refine lv_aload_n hx hb d_T_readLiteral_40 rfl (lv_at hl 2 rfl) ?_
    refine m_callv (hr := va_runV (As := []) (rest := []) ⟨hx, hb, hml, hown, hts⟩ (c_T_skipBlanks l D cA ad _ T_size T_place_35 T_fault T_bytes _ h) (cwV 0 hts (ginV gm_194 gm_196 gs_8 gm_5 gm_197) rfl rfl rfl (by decide +kernel) ⟨Nat.le_of_ble_eq_true rfl, Nat.le_of_ble_eq_true rfl⟩) (m_preV 4 5 rfl rfl hK hw [5, 6] rfl rfl) rfl rfl hl.1 rfl (lv_room (Nat.le_of_ble_eq_true rfl)) d_T_readLiteral_41 ⟨Nat.zero_le _, Nat.zero_le _⟩) (w2 := (fun (u : Int32) => [(k_G cA ad G_size G_inputs), (k_F cA ad F_size), (k_F_kinds cA ad F_kinds), (k_F_sizes cA ad F_sizes), (k_F_literals cA ad F_literals), (k_T cA ad T_size u T_fault), (k_T_bytes cA ad T_bytes)])) (wr := [(k_G cA ad G_size G_inputs), (k_F cA ad F_size), (k_F_kinds cA ad F_kinds), (k_F_sizes cA ad F_sizes), (k_F_literals cA ad F_literals)]) hw hA [5, 6] [0, 1, 2, 3, 4] [0, 1, 2, 3, 4, 5, 6] rfl rfl (by decide) (by decide) (by decide) (fun _ => rfl) (fun u H locs hw h => ?_)
    obtain ⟨T_place_41, rfl⟩ : ∃ z, z = u := ⟨_, rfl⟩
    have hw : mW D A s.heap [(k_G cA ad G_size G_inputs), (k_F cA ad F_size), (k_F_kinds cA ad F_kinds), (k_F_sizes cA ad F_sizes), (k_F_literals cA ad F_literals), (k_T cA ad T_size T_place_41 T_fault), (k_T_bytes cA ad T_bytes)] H locs := hw
    refine lv_aload_n hx hb d_T_readLiteral_44 rfl (lv_at hl 2 rfl) ?_
    refine va_get (D := D) (ci := 4) (v := .ref (ad 6)) (C := R_T) (T := T_T) (N := 6) hx hb hts (fun w h => List.mem_cons_of_mem _ (iw_T w h)) hown hK.1 hw.1 5 rfl rfl 1 (by decide) (hg gm_122) (fun _ h9 => h9) rfl d_T_readLiteral_45 ?_
    refine lv_iload_n hx hb d_T_readLiteral_48 rfl (lv_at hl 3 rfl) ?_
    refine m_calli (hr := va_runVN (As := [.int p1]) (rest := []) ⟨hx, hb, hml, hown, hts⟩ (c_F_isLineFull l D cA ad _ F_size F_kinds F_sizes p1 _ h) ⟨va_cnB 1 hts (gin gm_223) rfl rfl rfl (hK.2 _ nw_220) (hg gm_3) (by decide +kernel) ⟨Nat.le_of_ble_eq_true rfl, Nat.le_of_ble_eq_true rfl⟩, hg gm_222, hg gs_13⟩ (m_preV 2 1 rfl rfl hK hw [1, 2, 3] rfl rfl) rfl rfl hl.1 rfl (lv_room (Nat.le_of_ble_eq_true rfl)) d_T_readLiteral_49 ⟨Nat.zero_le _, Nat.zero_le _⟩) (w2 := (fun (_ : Unit) => [(k_G cA ad G_size G_inputs), (k_F cA ad F_size), (k_F_kinds cA ad F_kinds), (k_F_sizes cA ad F_sizes), (k_F_literals cA ad F_literals), (k_T cA ad T_size T_place_41 T_fault), (k_T_bytes cA ad T_bytes)])) (wr := [(k_G cA ad G_size G_inputs), (k_F_literals cA ad F_literals), (k_T cA ad T_size T_place_41 T_fault), (k_T_bytes cA ad T_bytes)]) hw hA [1, 2, 3] [0, 4, 5, 6] [0, 4, 5, 6, 1, 2, 3] rfl rfl (by decide) (by decide) (by decide) (fun _ => rfl) (fun r49 u H locs hw h => ?_)
    refine lv_if_ne (tgt := 67) hx hb d_T_readLiteral_52 (by decide) (fun hc => ?_) (fun hc => ?_)
    · have h := h.2 hc
      exact j67 _ _ _ _ _ _ _ _ h hw (lv_sub hl [2, 4] rfl)
    · have h := h.1 hc
      refine lv_aload_n hx hb d_T_readLiteral_55 rfl (lv_at hl 2 rfl) ?_
      refine va_get (D := D) (ci := 4) (v := .ref (ad 1)) (C := R_T) (T := T_T) (N := 6) hx hb hts (fun w h => List.mem_cons_of_mem _ (iw_T w h)) hown hK.1 hw.1 5 rfl rfl 0 (by decide) (hg gm_121) (fun _ h9 => h9) rfl d_T_readLiteral_56 ?_
      refine lv_iload hx hb d_T_readLiteral_59 (lv_at hl 0 rfl) ?_
      refine m_calli (hr := va_runVN (As := [.int r35]) (rest := []) ⟨hx, hb, hml, hown, hts⟩ (c_G_has l D cA ad _ G_size G_inputs r35 _ h) ⟨va_cnB 1 hts (gin gm_227) rfl rfl rfl (hK.2 _ nw_224) (hg gm_2) (by decide +kernel) ⟨Nat.le_of_ble_eq_true rfl, Nat.le_of_ble_eq_true rfl⟩, hg gm_226, hg gs_14⟩ (m_preV 1 0 rfl rfl hK hw [0] rfl rfl) rfl rfl hl.1 rfl (lv_room (Nat.le_of_ble_eq_true rfl)) d_T_readLiteral_61 ⟨Nat.zero_le _, Nat.zero_le _⟩) (w2 := (fun (_ : Unit) => [(k_G cA ad G_size G_inputs), (k_F cA ad F_size), (k_F_kinds cA ad F_kinds), (k_F_sizes cA ad F_sizes), (k_F_literals cA ad F_literals), (k_T cA ad T_size T_place_41 T_fault), (k_T_bytes cA ad T_bytes)])) (wr := [(k_F cA ad F_size), (k_F_kinds cA ad F_kinds), (k_F_sizes cA ad F_sizes), (k_F_literals cA ad F_literals), (k_T cA ad T_size T_place_41 T_fault), (k_T_bytes cA ad T_bytes)]) hw hA [0] [1, 2, 3, 4, 5, 6] [6, 0, 1, 2, 3, 4, 5] rfl rfl (by decide) (by decide) (by decide) (fun _ => rfl) (fun r61 u H locs hw h => ?_)
      refine lv_if_ne (tgt := 73) hx hb d_T_readLiteral_64 (by decide) (fun hc => ?_) (fun hc => ?_)
      · have h := h.2 hc
        refine lv_iconst (v := 2) hx hb d_T_readLiteral_73 (by decide) ?_
        refine lv_iload hx hb d_T_readLiteral_74 (lv_at hl 0 rfl) ?_
        refine lv_imul hx hb d_T_readLiteral_76 ?_
        refine lv_iload_n hx hb d_T_readLiteral_77 rfl (lv_at hl 1 rfl) ?_
        refine lv_iadd hx hb d_T_readLiteral_78 ?_
        refine lv_istore (lv' := [(5, .int ((2 * r35) + s0)), (4, .int r35), (3, .int s0), (0, .ref (ad 13)), (1, .int p1), (2, .int x2)]) hx hb d_T_readLiteral_79 hl (by decide) rfl (fun ls hl => ?_)
        refine lv_aload_n hx hb d_T_readLiteral_81 rfl (lv_at hl 3 rfl) ?_
        refine va_get (D := D) (ci := 4) (v := .ref (ad 6)) (C := R_T) (T := T_T) (N := 6) hx hb hts (fun w h => List.mem_cons_of_mem _ (iw_T w h)) hown hK.1 hw.1 5 rfl rfl 1 (by decide) (hg gm_122) (fun _ h9 => h9) rfl d_T_readLiteral_82 ?_
        refine va_getN (D := D) (ci := 2) (v := .ref (ad 7)) (C := R_F) (T := T_F) (N := 5) hx hb hts (fun w h => List.mem_cons_of_mem _ (iw_F w h)) hown hK.1 hw.1 1 rfl rfl 0 (by decide) (va_Nw.use rfl (hK.2 _ nw_68)) (fun _ h9 => h9) rfl d_T_readLiteral_85 ?_
        refine lv_iload_n hx hb d_T_readLiteral_88 rfl (lv_at hl 4 rfl) ?_
        refine va_iald hx hb hK.1 hw.1 2 0 rfl rfl h.1 d_T_readLiteral_89 ?_
        have h := h.2
        refine lv_iconst (v := 1) hx hb d_T_readLiteral_90 (by decide) ?_
        refine lv_icmp_eq (tgt := 107) hx hb d_T_readLiteral_91 (by decide) (fun hc => ?_) (fun hc => ?_)
        · have h := h.1 hc
          exact j107 _ _ _ _ _ _ _ _ h hw (lv_sub hl [3, 4, 0] rfl)
        · have h := h.2 hc
          refine lv_aload_n hx hb d_T_readLiteral_94 rfl (lv_at hl 3 rfl) ?_
          refine va_get (D := D) (ci := 4) (v := .ref (ad 6)) (C := R_T) (T := T_T) (N := 6) hx hb hts (fun w h => List.mem_cons_of_mem _ (iw_T w h)) hown hK.1 hw.1 5 rfl rfl 1 (by decide) (hg gm_122) (fun _ h9 => h9) rfl d_T_readLiteral_95 ?_
          refine lv_iload_n hx hb d_T_readLiteral_98 rfl (lv_at hl 4 rfl) ?_
          refine lv_iload hx hb d_T_readLiteral_99 (lv_at hl 0 rfl) ?_
          refine m_calli (hr := va_runVN (As := [.int p1, .int ((2 * r35) + s0)]) (rest := []) ⟨hx, hb, hml, hown, hts⟩ (c_F_contains l D cA ad _ F_size F_sizes F_literals p1 ((2 * r35) + s0) _ h) ⟨va_cnB 2 hts (gin gm_231) rfl rfl rfl (hK.2 _ nw_228) (hg gm_3) (by decide +kernel) ⟨Nat.le_of_ble_eq_true rfl, Nat.le_of_ble_eq_true rfl⟩, hg gm_230, hg gs_15⟩ (m_preV 2 1 rfl rfl hK hw [1, 3, 4] rfl rfl) rfl rfl hl.1 rfl (lv_room (Nat.le_of_ble_eq_true rfl)) d_T_readLiteral_101 ⟨Nat.zero_le _, Nat.zero_le _⟩) (w2 := (fun (_ : Unit) => [(k_G cA ad G_size G_inputs), (k_F cA ad F_size), (k_F_kinds cA ad F_kinds), (k_F_sizes cA ad F_sizes), (k_F_literals cA ad F_literals), (k_T cA ad T_size T_place_41 T_fault), (k_T_bytes cA ad T_bytes)])) (wr := [(k_G cA ad G_size G_inputs), (k_F_kinds cA ad F_kinds), (k_T cA ad T_size T_place_41 T_fault), (k_T_bytes cA ad T_bytes)]) hw hA [1, 3, 4] [0, 2, 5, 6] [0, 4, 1, 5, 6, 2, 3] rfl rfl (by decide) (by decide) (by decide) (fun _ => rfl) (fun r101 u H locs hw h => ?_)
          refine lv_if_ne (tgt := 117) hx hb d_T_readLiteral_104 (by decide) (fun hc => ?_) (fun hc => ?_)
          · have h := h.2 hc
            exact hE (F_sizes, F_literals, T_place_41, T_fault) _ _ _ _ h hw d_T_readLiteral_117
          · have h := h.1 hc
            exact j107 _ _ _ _ _ _ _ _ h hw (lv_sub hl [3, 4, 0] rfl)
      · have h := h.1 hc
        exact j67 _ _ _ _ _ _ _ _ h hw (lv_sub hl [2, 4] rfl)
  unfold wp_T_readLiteral at h
  refine lv_aload_n hx hb d_T_readLiteral_0 rfl (lv_at hl 0 rfl) ?_
  refine va_get (D := D) (ci := 4) (v := .int T_place) (C := R_T) (T := T_T) (N := 6) hx hb hts (fun w h => List.mem_cons_of_mem _ (iw_T w h)) hown hK.1 hw.1 5 rfl rfl 4 (by decide) (hg gm_126) (fun _ h9 => h9) rfl d_T_readLiteral_1 ?_
  refine lv_istore_n (lv' := [(2, .int T_place), (0, .ref (ad 13)), (1, .int p1)]) hx hb d_T_readLiteral_4 rfl hl (by decide) rfl (fun ls hl => ?_)
  refine lv_aload_n hx hb d_T_readLiteral_5 rfl (lv_at hl 1 rfl) ?_
  refine m_calli (hr := va_runV (As := []) (rest := []) ⟨hx, hb, hml, hown, hts⟩ (c_T_here l D cA ad _ T_size T_place T_fault T_bytes _ h) (cwV 0 hts (ginV gm_178 gm_180 gs_4 gm_5 gm_181) rfl rfl rfl (by decide +kernel) ⟨Nat.le_of_ble_eq_true rfl, Nat.le_of_ble_eq_true rfl⟩) (m_preV 4 5 rfl rfl hK hw [5, 6] rfl rfl) rfl rfl hl.1 rfl (lv_room (Nat.le_of_ble_eq_true rfl)) d_T_readLiteral_6 ⟨Nat.zero_le _, Nat.zero_le _⟩) (w2 := (fun (_ : Unit) => [(k_G cA ad G_size G_inputs), (k_F cA ad F_size), (k_F_kinds cA ad F_kinds), (k_F_sizes cA ad F_sizes), (k_F_literals cA ad F_literals), (k_T cA ad T_size T_place T_fault), (k_T_bytes cA ad T_bytes)])) (wr := [(k_G cA ad G_size G_inputs), (k_F cA ad F_size), (k_F_kinds cA ad F_kinds), (k_F_sizes cA ad F_sizes), (k_F_literals cA ad F_literals)]) hw hA [5, 6] [0, 1, 2, 3, 4] [0, 1, 2, 3, 4, 5, 6] rfl rfl (by decide) (by decide) (by decide) (fun _ => rfl) (fun r6 u H locs hw h => ?_)
  refine lv_bipush (v := 45) hx hb d_T_readLiteral_9 (by decide) ?_
  refine lv_icmp_ne (tgt := 18) hx hb d_T_readLiteral_11 (by decide) (fun hc => ?_) (fun hc => ?_)
  · have h := h.2 hc
    refine lv_iconst (v := 0) hx hb d_T_readLiteral_18 (by decide) ?_
    exact j19 _ _ _ _ _ _ _ _ _ h hw (lv_sub hl [1, 2, 0] rfl)
  · have h := h.1 hc
    refine lv_iconst (v := 1) hx hb d_T_readLiteral_14 (by decide) ?_
    refine lv_goto (tgt := 19) hx hb d_T_readLiteral_15 (by decide) ?_
    exact j19 _ _ _ _ _ _ _ _ _ h hw (lv_sub hl [1, 2, 0] rfl)
def rm_T_endLine : Room := { frames := 1, cells := 0, slots := 0, locals := 21 }
set_option maxHeartbeats 4000000 in
set_option maxRecDepth 100000 in
theorem c_T_endLine (l : Launch) (D : va_G) (cA : Nat → ClassId) (ad : Nat → Nat) (sz : Nat) (F_size : Int32) (F_kinds : (Nat → Int32)) (F_sizes : (Nat → Int32)) (T_size : Int32) (T_place : Int32) (T_fault : Int32) (T_bytes : (Nat → Int32)) (p1 : Int32) (post : Int32 → Prop) (h : wp_T_endLine F_kinds F_sizes T_size T_place T_fault T_bytes p1 post) : Met l y_T_endLine w_T_endLine rm_T_endLine (mPc D cA [.ref (ad 13), .int p1] [(k_F cA ad F_size), (k_F_kinds cA ad F_kinds), (k_F_sizes cA ad F_sizes), (k_T cA ad T_size T_place T_fault), (k_T_bytes cA ad T_bytes)] sz) (va_Qv (fun (u : Int32) => post u) (mB D (va_A [(k_F cA ad F_size), (k_F_kinds cA ad F_kinds), (k_F_sizes cA ad F_sizes), (k_T cA ad T_size T_place T_fault), (k_T_bytes cA ad T_bytes)] sz) (fun (u : Int32) => [(k_F cA ad F_size), (k_F_kinds cA ad F_kinds), (k_F_sizes cA ad F_sizes), (k_T cA ad T_size T_place u), (k_T_bytes cA ad T_bytes)])) (va_A [(k_F cA ad F_size), (k_F_kinds cA ad F_kinds), (k_F_sizes cA ad F_sizes), (k_T cA ad T_size T_place T_fault), (k_T_bytes cA ad T_bytes)] sz)) 0 0 (va_A [(k_F cA ad F_size), (k_F_kinds cA ad F_kinds), (k_F_sizes cA ad F_sizes), (k_T cA ad T_size T_place T_fault), (k_T_bytes cA ad T_bytes)] sz) := by
  refine m_methV (by decide) rfl (Nat.le_of_ble_eq_true rfl) ?_
  intro p e s m below meth c A Q ls hx hb hml hown hts hK hA hw hl hE
  have hl : lv_has ls 4 [(0, .ref (ad 13)), (1, .int p1)] := hl
  have hown : s.vm.findClass R_T = some m.cls := hown
  have hg : ∀ {w : Cond}, w ∈ gw → w.before _ s = true := fun h => hts _ (List.mem_cons_of_mem _ h)
  have j64 : ∀ (T_fault : Int32) (H : Heap) (locs : List Loc) (ls : Array Slot), s_T_endLine_64 F_kinds F_sizes T_size T_place T_bytes p1 post T_fault → mW D A s.heap [(k_F cA ad F_size), (k_F_kinds cA ad F_kinds), (k_F_sizes cA ad F_sizes), (k_T cA ad T_size T_place T_fault), (k_T_bytes cA ad T_bytes)] H locs → lv_has ls 4 [(0, .ref (ad 13))] → W p l e rm_T_endLine s m [.ref (ad 13), .int p1].toArray below meth c H locs 0 0 Q (F0 m 64 ls []) := by
    intro T_fault H locs ls h hw hl
    unfold s_T_endLine_64 at h
    refine lv_aload_n hx hb d_T_endLine_64 rfl (lv_at hl 0 rfl) ?_
    refine lv_aload_n hx hb d_T_endLine_65 rfl (lv_at hl 0 rfl) ?_
    refine va_get (D := D) (ci := 4) (v := .int T_place) (C := R_T) (T := T_T) (N := 6) hx hb hts (fun w h => List.mem_cons_of_mem _ (iw_T w h)) hown hK.1 hw.1 3 rfl rfl 4 (by decide) (hg gm_126) (fun _ h9 => h9) rfl d_T_endLine_66 ?_
    refine m_put (ws' := [(k_F cA ad F_size), (k_F_kinds cA ad F_kinds), (k_F_sizes cA ad F_sizes), (k_T cA ad T_size T_place T_place), (k_T_bytes cA ad T_bytes)]) (ci := 4) (v := .int T_place) (ty := .int) (C := R_T) (T := T_T) (N := 6) hx hb hts (fun w h => List.mem_cons_of_mem _ (iw_T w h)) ty_T tyok_T nm_T hown hK.1 hw 3 rfl rfl 5 (by decide) (hg gm_127) (fun _ h9 => h9) rfl (by decide +kernel) rfl rfl (Nat.le_of_ble_eq_true rfl) rfl d_T_endLine_69 (fun H locs hw => ?_)
    exact hE (T_place) _ _ _ _ h hw d_T_endLine_72
  have j55 : ∀ (s0 : Int32) (x2 : Int32) (T_fault : Int32) (H : Heap) (locs : List Loc) (ls : Array Slot), s_T_endLine_55 F_kinds F_sizes T_size T_place T_bytes p1 post s0 x2 T_fault → mW D A s.heap [(k_F cA ad F_size), (k_F_kinds cA ad F_kinds), (k_F_sizes cA ad F_sizes), (k_T cA ad T_size T_place T_fault), (k_T_bytes cA ad T_bytes)] H locs → lv_has ls 4 [(0, .ref (ad 13)), (2, .int x2)] → W p l e rm_T_endLine s m [.ref (ad 13), .int p1].toArray below meth c H locs 0 0 Q (F0 m 55 ls [.int s0]) := by
    intro s0 x2 T_fault H locs ls h hw hl
    unfold s_T_endLine_55 at h
    refine lv_istore_n (lv' := [(3, .int s0), (0, .ref (ad 13)), (2, .int x2)]) hx hb d_T_endLine_55 rfl hl (by decide) rfl (fun ls hl => ?_)
    refine lv_iload_n hx hb d_T_endLine_56 rfl (lv_at hl 2 rfl) ?_
    refine lv_if_ne (tgt := 64) hx hb d_T_endLine_57 (by decide) (fun hc => ?_) (fun hc => ?_)
    · have h := h.2 hc
      exact j64 _ _ _ _ h hw (lv_sub hl [1] rfl)
    · have h := h.1 hc
      refine lv_iload_n hx hb d_T_endLine_60 rfl (lv_at hl 0 rfl) ?_
      refine lv_if_ne (tgt := 72) hx hb d_T_endLine_61 (by decide) (fun hc => ?_) (fun hc => ?_)
      · have h := h.2 hc
        exact hE (T_fault) _ _ _ _ h hw d_T_endLine_72
      · have h := h.1 hc
        exact j64 _ _ _ _ h hw (lv_sub hl [1] rfl)
  have j50 : ∀ (x2 : Int32) (T_fault : Int32) (H : Heap) (locs : List Loc) (ls : Array Slot), s_T_endLine_50 F_kinds F_sizes T_size T_place T_bytes p1 post x2 T_fault → mW D A s.heap [(k_F cA ad F_size), (k_F_kinds cA ad F_kinds), (k_F_sizes cA ad F_sizes), (k_T cA ad T_size T_place T_fault), (k_T_bytes cA ad T_bytes)] H locs → lv_has ls 4 [(0, .ref (ad 13)), (2, .int x2)] → W p l e rm_T_endLine s m [.ref (ad 13), .int p1].toArray below meth c H locs 0 0 Q (F0 m 50 ls []) := by
    intro x2 T_fault H locs ls h hw hl
    unfold s_T_endLine_50 at h
    refine lv_iconst (v := 1) hx hb d_T_endLine_50 (by decide) ?_
    refine lv_goto (tgt := 55) hx hb d_T_endLine_51 (by decide) ?_
    exact j55 _ _ _ _ _ _ h hw (lv_sub hl [0, 1] rfl)
  have j29 : ∀ (s0 : Int32) (T_fault : Int32) (H : Heap) (locs : List Loc) (ls : Array Slot), s_T_endLine_29 F_kinds F_sizes T_size T_place T_bytes p1 post s0 T_fault → mW D A s.heap [(k_F cA ad F_size), (k_F_kinds cA ad F_kinds), (k_F_sizes cA ad F_sizes), (k_T cA ad T_size T_place T_fault), (k_T_bytes cA ad T_bytes)] H locs → lv_has ls 4 [(0, .ref (ad 13))] → W p l e rm_T_endLine s m [.ref (ad 13), .int p1].toArray below meth c H locs 0 0 Q (F0 m 29 ls [.int s0]) := by
    intro s0 T_fault H locs ls h hw hl
    unfold s_T_endLine_29 at h
    refine lv_istore_n (lv' := [(2, .int s0), (0, .ref (ad 13))]) hx hb d_T_endLine_29 rfl hl (by decide) rfl (fun ls hl => ?_)
    refine lv_aload_n hx hb d_T_endLine_30 rfl (lv_at hl 1 rfl) ?_
    refine va_get (D := D) (ci := 4) (v := .int T_place) (C := R_T) (T := T_T) (N := 6) hx hb hts (fun w h => List.mem_cons_of_mem _ (iw_T w h)) hown hK.1 hw.1 3 rfl rfl 4 (by decide) (hg gm_126) (fun _ h9 => h9) rfl d_T_endLine_31 ?_
    refine lv_aload_n hx hb d_T_endLine_34 rfl (lv_at hl 1 rfl) ?_
    refine va_get (D := D) (ci := 4) (v := .int T_size) (C := R_T) (T := T_T) (N := 6) hx hb hts (fun w h => List.mem_cons_of_mem _ (iw_T w h)) hown hK.1 hw.1 3 rfl rfl 3 (by decide) (hg gm_124) (fun _ h9 => h9) rfl d_T_endLine_35 ?_
    refine lv_icmp_ge (tgt := 50) hx hb d_T_endLine_38 (by decide) (fun hc => ?_) (fun hc => ?_)
    · have h := h.1 hc
      exact j50 _ _ _ _ _ h hw (lv_sub hl [1, 0] rfl)
    · have h := h.2 hc
      refine lv_aload_n hx hb d_T_endLine_41 rfl (lv_at hl 1 rfl) ?_
      refine m_calli (hr := va_runV (As := []) (rest := []) ⟨hx, hb, hml, hown, hts⟩ (c_T_here l D cA ad _ T_size T_place T_fault T_bytes _ h) (cwV 0 hts (ginV gm_178 gm_180 gs_4 gm_5 gm_181) rfl rfl rfl (by decide +kernel) ⟨Nat.le_of_ble_eq_true rfl, Nat.le_of_ble_eq_true rfl⟩) (m_preV 4 3 rfl rfl hK hw [3, 4] rfl rfl) rfl rfl hl.1 rfl (lv_room (Nat.le_of_ble_eq_true rfl)) d_T_endLine_42 ⟨Nat.zero_le _, Nat.zero_le _⟩) (w2 := (fun (_ : Unit) => [(k_F cA ad F_size), (k_F_kinds cA ad F_kinds), (k_F_sizes cA ad F_sizes), (k_T cA ad T_size T_place T_fault), (k_T_bytes cA ad T_bytes)])) (wr := [(k_F cA ad F_size), (k_F_kinds cA ad F_kinds), (k_F_sizes cA ad F_sizes)]) hw hA [3, 4] [0, 1, 2] [0, 1, 2, 3, 4] rfl rfl (by decide) (by decide) (by decide) (fun _ => rfl) (fun r42 u H locs hw h => ?_)
      refine lv_bipush (v := 10) hx hb d_T_endLine_45 (by decide) ?_
      refine lv_icmp_ne (tgt := 54) hx hb d_T_endLine_47 (by decide) (fun hc => ?_) (fun hc => ?_)
      · have h := h.2 hc
        refine lv_iconst (v := 0) hx hb d_T_endLine_54 (by decide) ?_
        exact j55 _ _ _ _ _ _ h hw (lv_sub hl [1, 0] rfl)
      · have h := h.1 hc
        exact j50 _ _ _ _ _ h hw (lv_sub hl [1, 0] rfl)
  have j28 : ∀ (T_fault : Int32) (H : Heap) (locs : List Loc) (ls : Array Slot), s_T_endLine_28 F_kinds F_sizes T_size T_place T_bytes p1 post T_fault → mW D A s.heap [(k_F cA ad F_size), (k_F_kinds cA ad F_kinds), (k_F_sizes cA ad F_sizes), (k_T cA ad T_size T_place T_fault), (k_T_bytes cA ad T_bytes)] H locs → lv_has ls 4 [(0, .ref (ad 13))] → W p l e rm_T_endLine s m [.ref (ad 13), .int p1].toArray below meth c H locs 0 0 Q (F0 m 28 ls []) := by
    intro T_fault H locs ls h hw hl
    unfold s_T_endLine_28 at h
    refine lv_iconst (v := 0) hx hb d_T_endLine_28 (by decide) ?_
    exact j29 _ _ _ _ _ h hw (lv_sub hl [0] rfl)
  unfold wp_T_endLine at h
  refine lv_aload_n hx hb d_T_endLine_0 rfl (lv_at hl 0 rfl) ?_
  refine va_get (D := D) (ci := 4) (v := .ref (ad 6)) (C := R_T) (T := T_T) (N := 6) hx hb hts (fun w h => List.mem_cons_of_mem _ (iw_T w h)) hown hK.1 hw.1 3 rfl rfl 1 (by decide) (hg gm_122) (fun _ h9 => h9) rfl d_T_endLine_1 ?_
  refine va_getN (D := D) (ci := 2) (v := .ref (ad 7)) (C := R_F) (T := T_F) (N := 5) hx hb hts (fun w h => List.mem_cons_of_mem _ (iw_F w h)) hown hK.1 hw.1 0 rfl rfl 0 (by decide) (va_Nw.use rfl (hK.2 _ nw_68)) (fun _ h9 => h9) rfl d_T_endLine_4 ?_
  refine lv_iload_n hx hb d_T_endLine_7 rfl (lv_at hl 1 rfl) ?_
  refine va_iald hx hb hK.1 hw.1 1 0 rfl rfl h.1 d_T_endLine_8 ?_
  have h := h.2
  refine lv_iconst (v := 1) hx hb d_T_endLine_9 (by decide) ?_
  refine lv_icmp_ne (tgt := 28) hx hb d_T_endLine_10 (by decide) (fun hc => ?_) (fun hc => ?_)
  · have h := h.2 hc
    exact j28 _ _ _ _ h hw (lv_sub hl [0] rfl)
  · have h := h.1 hc
    refine lv_aload_n hx hb d_T_endLine_13 rfl (lv_at hl 0 rfl) ?_
    refine va_get (D := D) (ci := 4) (v := .ref (ad 6)) (C := R_T) (T := T_T) (N := 6) hx hb hts (fun w h => List.mem_cons_of_mem _ (iw_T w h)) hown hK.1 hw.1 3 rfl rfl 1 (by decide) (hg gm_122) (fun _ h9 => h9) rfl d_T_endLine_14 ?_
    refine lv_iload_n hx hb d_T_endLine_17 rfl (lv_at hl 1 rfl) ?_
    refine m_calli (hr := va_runVN (As := [.int p1]) (rest := []) ⟨hx, hb, hml, hown, hts⟩ (c_F_isLineFull l D cA ad _ F_size F_kinds F_sizes p1 _ h) ⟨va_cnB 1 hts (gin gm_223) rfl rfl rfl (hK.2 _ nw_220) (hg gm_3) (by decide +kernel) ⟨Nat.le_of_ble_eq_true rfl, Nat.le_of_ble_eq_true rfl⟩, hg gm_222, hg gs_13⟩ (m_preV 2 0 rfl rfl hK hw [0, 1, 2] rfl rfl) rfl rfl hl.1 rfl (lv_room (Nat.le_of_ble_eq_true rfl)) d_T_endLine_18 ⟨Nat.zero_le _, Nat.zero_le _⟩) (w2 := (fun (_ : Unit) => [(k_F cA ad F_size), (k_F_kinds cA ad F_kinds), (k_F_sizes cA ad F_sizes), (k_T cA ad T_size T_place T_fault), (k_T_bytes cA ad T_bytes)])) (wr := [(k_T cA ad T_size T_place T_fault), (k_T_bytes cA ad T_bytes)]) hw hA [0, 1, 2] [3, 4] [2, 3, 4, 0, 1] rfl rfl (by decide) (by decide) (by decide) (fun _ => rfl) (fun r18 u H locs hw h => ?_)
    refine lv_if_ne (tgt := 28) hx hb d_T_endLine_21 (by decide) (fun hc => ?_) (fun hc => ?_)
    · have h := h.2 hc
      exact j28 _ _ _ _ h hw (lv_sub hl [0] rfl)
    · have h := h.1 hc
      refine lv_iconst (v := 1) hx hb d_T_endLine_24 (by decide) ?_
      refine lv_goto (tgt := 29) hx hb d_T_endLine_25 (by decide) ?_
      exact j29 _ _ _ _ _ h hw (lv_sub hl [0] rfl)
def rm_T_readLine : Room := { frames := 4, cells := 0, slots := 0, locals := 86 }
set_option maxHeartbeats 4000000 in
set_option maxRecDepth 100000 in
theorem c_T_readLine (l : Launch) (D : va_G) (cA : Nat → ClassId) (ad : Nat → Nat) (sz : Nat) (G_size : Int32) (G_inputs : Int32) (F_size : Int32) (F_kinds : (Nat → Int32)) (F_sizes : (Nat → Int32)) (F_literals : (Nat → Int32)) (T_size : Int32) (T_place : Int32) (T_fault : Int32) (T_bytes : (Nat → Int32)) (post : Int32 → (Nat → Int32) → (Nat → Int32) → (Nat → Int32) → Int32 → Int32 → Prop) (h : wp_T_readLine G_size F_size F_kinds F_sizes F_literals T_size T_place T_fault T_bytes post) : Met l y_T_readLine w_T_readLine rm_T_readLine (mPc D cA [.ref (ad 13)] [(k_G cA ad G_size G_inputs), (k_F cA ad F_size), (k_F_kinds cA ad F_kinds), (k_F_sizes cA ad F_sizes), (k_F_literals cA ad F_literals), (k_T cA ad T_size T_place T_fault), (k_T_bytes cA ad T_bytes)] sz) (va_Qv (fun (u : Int32 × (Nat → Int32) × (Nat → Int32) × (Nat → Int32) × Int32 × Int32) => post u.1 u.2.1 u.2.2.1 u.2.2.2.1 u.2.2.2.2.1 u.2.2.2.2.2) (mB D (va_A [(k_G cA ad G_size G_inputs), (k_F cA ad F_size), (k_F_kinds cA ad F_kinds), (k_F_sizes cA ad F_sizes), (k_F_literals cA ad F_literals), (k_T cA ad T_size T_place T_fault), (k_T_bytes cA ad T_bytes)] sz) (fun (u : Int32 × (Nat → Int32) × (Nat → Int32) × (Nat → Int32) × Int32 × Int32) => [(k_G cA ad G_size G_inputs), (k_F cA ad u.1), (k_F_kinds cA ad u.2.1), (k_F_sizes cA ad u.2.2.1), (k_F_literals cA ad u.2.2.2.1), (k_T cA ad T_size u.2.2.2.2.1 u.2.2.2.2.2), (k_T_bytes cA ad T_bytes)])) (va_A [(k_G cA ad G_size G_inputs), (k_F cA ad F_size), (k_F_kinds cA ad F_kinds), (k_F_sizes cA ad F_sizes), (k_F_literals cA ad F_literals), (k_T cA ad T_size T_place T_fault), (k_T_bytes cA ad T_bytes)] sz)) 0 0 (va_A [(k_G cA ad G_size G_inputs), (k_F cA ad F_size), (k_F_kinds cA ad F_kinds), (k_F_sizes cA ad F_sizes), (k_F_literals cA ad F_literals), (k_T cA ad T_size T_place T_fault), (k_T_bytes cA ad T_bytes)] sz) := by
  refine m_methV (by decide) rfl (Nat.le_of_ble_eq_true rfl) ?_
  intro p e s m below meth c A Q ls hx hb hml hown hts hK hA hw hl hE
  have hl : lv_has ls 4 [(0, .ref (ad 13))] := hl
  have hown : s.vm.findClass R_T = some m.cls := hown
  have hg : ∀ {w : Cond}, w ∈ gw → w.before _ s = true := fun h => hts _ (List.mem_cons_of_mem _ h)
  obtain ⟨C71, hC71⟩ : ∃ C : Int32 → Int32 → Int32 → (Nat → Int32) → (Nat → Int32) → (Nat → Int32) → Int32 → Int32 → Prop, ∀ (x2 : Int32) (x3 : Int32) (F_size : Int32) (F_kinds : (Nat → Int32)) (F_sizes : (Nat → Int32)) (F_literals : (Nat → Int32)) (T_place : Int32) (T_fault : Int32), C x2 x3 F_size F_kinds F_sizes F_literals T_place T_fault ↔ (∀ (H : Heap) (locs : List Loc) (ls : Array Slot), mW D A s.heap [(k_G cA ad G_size G_inputs), (k_F cA ad F_size), (k_F_kinds cA ad F_kinds), (k_F_sizes cA ad F_sizes), (k_F_literals cA ad F_literals), (k_T cA ad T_size T_place T_fault), (k_T_bytes cA ad T_bytes)] H locs → lv_has ls 4 [(0, .ref (ad 13)), (2, .int x2), (3, .int x3)] → W p l e rm_T_readLine s m [.ref (ad 13)].toArray below meth c H locs 0 0 Q (F0 m 71 ls [])) := ⟨_, fun _ _ _ _ _ _ _ _ => Iff.rfl⟩
  have j104 : ∀ (x2 : Int32) (F_size : Int32) (F_kinds : (Nat → Int32)) (F_sizes : (Nat → Int32)) (F_literals : (Nat → Int32)) (T_place : Int32) (T_fault : Int32) (H : Heap) (locs : List Loc) (ls : Array Slot), s_T_readLine_104 G_size T_size T_bytes C71 post x2 F_size F_kinds F_sizes F_literals T_place T_fault → mW D A s.heap [(k_G cA ad G_size G_inputs), (k_F cA ad F_size), (k_F_kinds cA ad F_kinds), (k_F_sizes cA ad F_sizes), (k_F_literals cA ad F_literals), (k_T cA ad T_size T_place T_fault), (k_T_bytes cA ad T_bytes)] H locs → lv_has ls 4 [(0, .ref (ad 13)), (2, .int x2)] → W p l e rm_T_readLine s m [.ref (ad 13)].toArray below meth c H locs 0 0 Q (F0 m 104 ls []) := by
    intro x2 F_size F_kinds F_sizes F_literals T_place T_fault H locs ls h hw hl
    unfold s_T_readLine_104 at h
    refine lv_aload_n hx hb d_T_readLine_104 rfl (lv_at hl 0 rfl) ?_
    refine va_get (D := D) (ci := 4) (v := .int T_fault) (C := R_T) (T := T_T) (N := 6) hx hb hts (fun w h => List.mem_cons_of_mem _ (iw_T w h)) hown hK.1 hw.1 5 rfl rfl 5 (by decide) (hg gm_127) (fun _ h9 => h9) rfl d_T_readLine_105 ?_
    refine lv_iconst (v := (-1)) hx hb d_T_readLine_108 (by decide) ?_
    refine lv_icmp_ne (tgt := 117) hx hb d_T_readLine_109 (by decide) (fun hc => ?_) (fun hc => ?_)
    · have h := h.2 hc
      exact hE (F_size, F_kinds, F_sizes, F_literals, T_place, T_fault) _ _ _ _ h hw d_T_readLine_117
    · have h := h.1 hc
      refine lv_aload_n hx hb d_T_readLine_112 rfl (lv_at hl 0 rfl) ?_
      refine lv_iload_n hx hb d_T_readLine_113 rfl (lv_at hl 1 rfl) ?_
      refine m_callv (hr := va_runV (As := [.int x2]) (rest := []) ⟨hx, hb, hml, hown, hts⟩ (c_T_endLine l D cA ad _ F_size F_kinds F_sizes T_size T_place T_fault T_bytes x2 _ h) (cwV 1 hts (ginV gm_240 gm_242 gs_18 gm_5 gm_243) rfl rfl rfl (by decide +kernel) ⟨Nat.le_of_ble_eq_true rfl, Nat.le_of_ble_eq_true rfl⟩) (m_preV 4 5 rfl rfl hK hw [1, 2, 3, 5, 6] rfl rfl) rfl rfl hl.1 rfl (lv_room (Nat.le_of_ble_eq_true rfl)) d_T_readLine_114 ⟨Nat.zero_le _, Nat.zero_le _⟩) (w2 := (fun (u : Int32) => [(k_G cA ad G_size G_inputs), (k_F cA ad F_size), (k_F_kinds cA ad F_kinds), (k_F_sizes cA ad F_sizes), (k_F_literals cA ad F_literals), (k_T cA ad T_size T_place u), (k_T_bytes cA ad T_bytes)])) (wr := [(k_G cA ad G_size G_inputs), (k_F_literals cA ad F_literals)]) hw hA [1, 2, 3, 5, 6] [0, 4] [0, 2, 3, 4, 1, 5, 6] rfl rfl (by decide) (by decide) (by decide) (fun _ => rfl) (fun u H locs hw h => ?_)
      obtain ⟨T_fault_114, rfl⟩ : ∃ z, z = u := ⟨_, rfl⟩
      have hw : mW D A s.heap [(k_G cA ad G_size G_inputs), (k_F cA ad F_size), (k_F_kinds cA ad F_kinds), (k_F_sizes cA ad F_sizes), (k_F_literals cA ad F_literals), (k_T cA ad T_size T_place T_fault_114), (k_T_bytes cA ad T_bytes)] H locs := hw
      exact hE (F_size, F_kinds, F_sizes, F_literals, T_place, T_fault_114) _ _ _ _ h hw d_T_readLine_117
  have j51 : ∀ (s0 : Int32) (F_size : Int32) (F_kinds : (Nat → Int32)) (F_sizes : (Nat → Int32)) (F_literals : (Nat → Int32)) (T_place : Int32) (T_fault : Int32) (H : Heap) (locs : List Loc) (ls : Array Slot), s_T_readLine_51 G_size T_size T_bytes C71 post s0 F_size F_kinds F_sizes F_literals T_place T_fault → mW D A s.heap [(k_G cA ad G_size G_inputs), (k_F cA ad F_size), (k_F_kinds cA ad F_kinds), (k_F_sizes cA ad F_sizes), (k_F_literals cA ad F_literals), (k_T cA ad T_size T_place T_fault), (k_T_bytes cA ad T_bytes)] H locs → lv_has ls 4 [(0, .ref (ad 13))] → W p l e rm_T_readLine s m [.ref (ad 13)].toArray below meth c H locs 0 0 Q (F0 m 51 ls [.int s0, .ref (ad 6)]) := by
    intro s0 F_size F_kinds F_sizes F_literals T_place T_fault H locs ls h hw hl
    unfold s_T_readLine_51 at h
    refine m_calli (hr := va_runVN (As := [.int s0]) (rest := []) ⟨hx, hb, hml, hown, hts⟩ (c_F_add l D cA ad _ F_size F_kinds F_sizes s0 _ h) ⟨va_cnB 1 hts (gin gm_193) rfl rfl rfl (hK.2 _ nw_190) (hg gm_3) (by decide +kernel) ⟨Nat.le_of_ble_eq_true rfl, Nat.le_of_ble_eq_true rfl⟩, hg gm_192, hg gs_7⟩ (m_preV 2 1 rfl rfl hK hw [1, 2, 3] rfl rfl) rfl rfl hl.1 rfl (lv_room (Nat.le_of_ble_eq_true rfl)) d_T_readLine_51 ⟨Nat.zero_le _, Nat.zero_le _⟩) (w2 := (fun (u : Int32 × (Nat → Int32) × (Nat → Int32)) => [(k_G cA ad G_size G_inputs), (k_F cA ad u.1), (k_F_kinds cA ad u.2.1), (k_F_sizes cA ad u.2.2), (k_F_literals cA ad F_literals), (k_T cA ad T_size T_place T_fault), (k_T_bytes cA ad T_bytes)])) (wr := [(k_G cA ad G_size G_inputs), (k_F_literals cA ad F_literals), (k_T cA ad T_size T_place T_fault), (k_T_bytes cA ad T_bytes)]) hw hA [1, 2, 3] [0, 4, 5, 6] [0, 4, 5, 6, 1, 2, 3] rfl rfl (by decide) (by decide) (by decide) (fun _ => rfl) (fun r51 u H locs hw h => ?_)
    obtain ⟨F_size_51, F_kinds_51, F_sizes_51⟩ := u
    have hw : mW D A s.heap [(k_G cA ad G_size G_inputs), (k_F cA ad F_size_51), (k_F_kinds cA ad F_kinds_51), (k_F_sizes cA ad F_sizes_51), (k_F_literals cA ad F_literals), (k_T cA ad T_size T_place T_fault), (k_T_bytes cA ad T_bytes)] H locs := hw
    refine lv_istore_n (lv' := [(2, .int r51), (0, .ref (ad 13))]) hx hb d_T_readLine_54 rfl hl (by decide) rfl (fun ls hl => ?_)
    refine lv_aload_n hx hb d_T_readLine_55 rfl (lv_at hl 1 rfl) ?_
    refine lv_dup hx hb d_T_readLine_56 rfl ?_
    refine va_get (D := D) (ci := 4) (v := .int T_place) (C := R_T) (T := T_T) (N := 6) hx hb hts (fun w h => List.mem_cons_of_mem _ (iw_T w h)) hown hK.1 hw.1 5 rfl rfl 4 (by decide) (hg gm_126) (fun _ h9 => h9) rfl d_T_readLine_57 ?_
    refine lv_iconst (v := 1) hx hb d_T_readLine_60 (by decide) ?_
    refine lv_iadd hx hb d_T_readLine_61 ?_
    refine m_put (ws' := [(k_G cA ad G_size G_inputs), (k_F cA ad F_size_51), (k_F_kinds cA ad F_kinds_51), (k_F_sizes cA ad F_sizes_51), (k_F_literals cA ad F_literals), (k_T cA ad T_size (T_place + 1) T_fault), (k_T_bytes cA ad T_bytes)]) (ci := 4) (v := .int (T_place + 1)) (ty := .int) (C := R_T) (T := T_T) (N := 6) hx hb hts (fun w h => List.mem_cons_of_mem _ (iw_T w h)) ty_T tyok_T nm_T hown hK.1 hw 5 rfl rfl 4 (by decide) (hg gm_126) (fun _ h9 => h9) rfl (by decide +kernel) rfl rfl (Nat.le_of_ble_eq_true rfl) rfl d_T_readLine_62 (fun H locs hw => ?_)
    refine lv_aload_n hx hb d_T_readLine_65 rfl (lv_at hl 1 rfl) ?_
    refine m_callv (hr := va_runV (As := []) (rest := []) ⟨hx, hb, hml, hown, hts⟩ (c_T_skipBlanks l D cA ad _ T_size (T_place + 1) T_fault T_bytes _ h) (cwV 0 hts (ginV gm_194 gm_196 gs_8 gm_5 gm_197) rfl rfl rfl (by decide +kernel) ⟨Nat.le_of_ble_eq_true rfl, Nat.le_of_ble_eq_true rfl⟩) (m_preV 4 5 rfl rfl hK hw [5, 6] rfl rfl) rfl rfl hl.1 rfl (lv_room (Nat.le_of_ble_eq_true rfl)) d_T_readLine_66 ⟨Nat.zero_le _, Nat.zero_le _⟩) (w2 := (fun (u : Int32) => [(k_G cA ad G_size G_inputs), (k_F cA ad F_size_51), (k_F_kinds cA ad F_kinds_51), (k_F_sizes cA ad F_sizes_51), (k_F_literals cA ad F_literals), (k_T cA ad T_size u T_fault), (k_T_bytes cA ad T_bytes)])) (wr := [(k_G cA ad G_size G_inputs), (k_F cA ad F_size_51), (k_F_kinds cA ad F_kinds_51), (k_F_sizes cA ad F_sizes_51), (k_F_literals cA ad F_literals)]) hw hA [5, 6] [0, 1, 2, 3, 4] [0, 1, 2, 3, 4, 5, 6] rfl rfl (by decide) (by decide) (by decide) (fun _ => rfl) (fun u H locs hw h => ?_)
    obtain ⟨T_place_66, rfl⟩ : ∃ z, z = u := ⟨_, rfl⟩
    have hw : mW D A s.heap [(k_G cA ad G_size G_inputs), (k_F cA ad F_size_51), (k_F_kinds cA ad F_kinds_51), (k_F_sizes cA ad F_sizes_51), (k_F_literals cA ad F_literals), (k_T cA ad T_size T_place_66 T_fault), (k_T_bytes cA ad T_bytes)] H locs := hw
    refine lv_iconst (v := 0) hx hb d_T_readLine_69 (by decide) ?_
    refine lv_istore_n (lv' := [(3, .int 0), (2, .int r51), (0, .ref (ad 13))]) hx hb d_T_readLine_70 rfl hl (by decide) rfl (fun ls hl => ?_)
    exact (hC71 _ _ _ _ _ _ _ _).1 h _ _ _ hw (lv_sub hl [2, 1, 0] rfl)
  have j27 : ∀ (F_size : Int32) (F_kinds : (Nat → Int32)) (F_sizes : (Nat → Int32)) (F_literals : (Nat → Int32)) (T_place : Int32) (T_fault : Int32) (H : Heap) (locs : List Loc) (ls : Array Slot), s_T_readLine_27 G_size T_size T_bytes C71 post F_size F_kinds F_sizes F_literals T_place T_fault → mW D A s.heap [(k_G cA ad G_size G_inputs), (k_F cA ad F_size), (k_F_kinds cA ad F_kinds), (k_F_sizes cA ad F_sizes), (k_F_literals cA ad F_literals), (k_T cA ad T_size T_place T_fault), (k_T_bytes cA ad T_bytes)] H locs → lv_has ls 4 [(0, .ref (ad 13))] → W p l e rm_T_readLine s m [.ref (ad 13)].toArray below meth c H locs 0 0 Q (F0 m 27 ls []) := by
    intro F_size F_kinds F_sizes F_literals T_place T_fault H locs ls h hw hl
    unfold s_T_readLine_27 at h
    refine lv_aload_n hx hb d_T_readLine_27 rfl (lv_at hl 0 rfl) ?_
    refine lv_aload_n hx hb d_T_readLine_28 rfl (lv_at hl 0 rfl) ?_
    refine va_get (D := D) (ci := 4) (v := .int T_place) (C := R_T) (T := T_T) (N := 6) hx hb hts (fun w h => List.mem_cons_of_mem _ (iw_T w h)) hown hK.1 hw.1 5 rfl rfl 4 (by decide) (hg gm_126) (fun _ h9 => h9) rfl d_T_readLine_29 ?_
    refine m_put (ws' := [(k_G cA ad G_size G_inputs), (k_F cA ad F_size), (k_F_kinds cA ad F_kinds), (k_F_sizes cA ad F_sizes), (k_F_literals cA ad F_literals), (k_T cA ad T_size T_place T_place), (k_T_bytes cA ad T_bytes)]) (ci := 4) (v := .int T_place) (ty := .int) (C := R_T) (T := T_T) (N := 6) hx hb hts (fun w h => List.mem_cons_of_mem _ (iw_T w h)) ty_T tyok_T nm_T hown hK.1 hw 5 rfl rfl 5 (by decide) (hg gm_127) (fun _ h9 => h9) rfl (by decide +kernel) rfl rfl (Nat.le_of_ble_eq_true rfl) rfl d_T_readLine_32 (fun H locs hw => ?_)
    exact hE (F_size, F_kinds, F_sizes, F_literals, T_place, T_place) _ _ _ _ h hw d_T_readLine_35
  have j17 : ∀ (x1 : Int32) (F_size : Int32) (F_kinds : (Nat → Int32)) (F_sizes : (Nat → Int32)) (F_literals : (Nat → Int32)) (T_place : Int32) (T_fault : Int32) (H : Heap) (locs : List Loc) (ls : Array Slot), s_T_readLine_17 G_size T_size T_bytes C71 post x1 F_size F_kinds F_sizes F_literals T_place T_fault → mW D A s.heap [(k_G cA ad G_size G_inputs), (k_F cA ad F_size), (k_F_kinds cA ad F_kinds), (k_F_sizes cA ad F_sizes), (k_F_literals cA ad F_literals), (k_T cA ad T_size T_place T_fault), (k_T_bytes cA ad T_bytes)] H locs → lv_has ls 4 [(0, .ref (ad 13)), (1, .int x1)] → W p l e rm_T_readLine s m [.ref (ad 13)].toArray below meth c H locs 0 0 Q (F0 m 17 ls []) := by
    intro x1 F_size F_kinds F_sizes F_literals T_place T_fault H locs ls h hw hl
    unfold s_T_readLine_17 at h
    refine lv_aload_n hx hb d_T_readLine_17 rfl (lv_at hl 0 rfl) ?_
    refine va_get (D := D) (ci := 4) (v := .ref (ad 6)) (C := R_T) (T := T_T) (N := 6) hx hb hts (fun w h => List.mem_cons_of_mem _ (iw_T w h)) hown hK.1 hw.1 5 rfl rfl 1 (by decide) (hg gm_122) (fun _ h9 => h9) rfl d_T_readLine_18 ?_
    refine m_calli (hr := va_runVN (As := []) (rest := []) ⟨hx, hb, hml, hown, hts⟩ (c_F_isFull l D cA ad _ F_size _ h) ⟨va_cnB 0 hts (gin gm_189) rfl rfl rfl (hK.2 _ nw_186) (hg gm_3) (by decide +kernel) ⟨Nat.le_of_ble_eq_true rfl, Nat.le_of_ble_eq_true rfl⟩, hg gm_188, hg gs_6⟩ (m_preV 2 1 rfl rfl hK hw [1] rfl rfl) rfl rfl hl.1 rfl (lv_room (Nat.le_of_ble_eq_true rfl)) d_T_readLine_21 ⟨Nat.zero_le _, Nat.zero_le _⟩) (w2 := (fun (_ : Unit) => [(k_G cA ad G_size G_inputs), (k_F cA ad F_size), (k_F_kinds cA ad F_kinds), (k_F_sizes cA ad F_sizes), (k_F_literals cA ad F_literals), (k_T cA ad T_size T_place T_fault), (k_T_bytes cA ad T_bytes)])) (wr := [(k_G cA ad G_size G_inputs), (k_F_kinds cA ad F_kinds), (k_F_sizes cA ad F_sizes), (k_F_literals cA ad F_literals), (k_T cA ad T_size T_place T_fault), (k_T_bytes cA ad T_bytes)]) hw hA [1] [0, 2, 3, 4, 5, 6] [0, 6, 1, 2, 3, 4, 5] rfl rfl (by decide) (by decide) (by decide) (fun _ => rfl) (fun r21 u H locs hw h => ?_)
    refine lv_if_eq (tgt := 36) hx hb d_T_readLine_24 (by decide) (fun hc => ?_) (fun hc => ?_)
    · have h := h.1 hc
      refine lv_aload_n hx hb d_T_readLine_36 rfl (lv_at hl 0 rfl) ?_
      refine va_get (D := D) (ci := 4) (v := .ref (ad 6)) (C := R_T) (T := T_T) (N := 6) hx hb hts (fun w h => List.mem_cons_of_mem _ (iw_T w h)) hown hK.1 hw.1 5 rfl rfl 1 (by decide) (hg gm_122) (fun _ h9 => h9) rfl d_T_readLine_37 ?_
      refine lv_iload_n hx hb d_T_readLine_40 rfl (lv_at hl 1 rfl) ?_
      refine lv_bipush (v := 61) hx hb d_T_readLine_41 (by decide) ?_
      refine lv_icmp_ne (tgt := 50) hx hb d_T_readLine_43 (by decide) (fun hc => ?_) (fun hc => ?_)
      · have h := h.2 hc
        refine lv_iconst (v := 0) hx hb d_T_readLine_50 (by decide) ?_
        exact j51 _ _ _ _ _ _ _ _ _ _ h hw (lv_sub hl [0] rfl)
      · have h := h.1 hc
        refine lv_iconst (v := 1) hx hb d_T_readLine_46 (by decide) ?_
        refine lv_goto (tgt := 51) hx hb d_T_readLine_47 (by decide) ?_
        exact j51 _ _ _ _ _ _ _ _ _ _ h hw (lv_sub hl [0] rfl)
    · have h := h.2 hc
      exact j27 _ _ _ _ _ _ _ _ _ h hw (lv_sub hl [0] rfl)
  have hc71 : ∀ (x2 : Int32) (x3 : Int32) (F_size : Int32) (F_kinds : (Nat → Int32)) (F_sizes : (Nat → Int32)) (F_literals : (Nat → Int32)) (T_place : Int32) (T_fault : Int32), s_T_readLine_71 G_size T_size T_bytes C71 post x2 x3 F_size F_kinds F_sizes F_literals T_place T_fault → C71 x2 x3 F_size F_kinds F_sizes F_literals T_place T_fault := by
    intro x2 x3 F_size F_kinds F_sizes F_literals T_place T_fault h
    unfold s_T_readLine_71 at h
    refine (hC71 _ _ _ _ _ _ _ _).2 ?_
    intro H locs ls hw hl
    refine lv_iload_n hx hb d_T_readLine_71 rfl (lv_at hl 2 rfl) ?_
    refine lv_sipush (v := 1000) hx hb d_T_readLine_72 (by decide) ?_
    refine lv_icmp_ge (tgt := 104) hx hb d_T_readLine_75 (by decide) (fun hc => ?_) (fun hc => ?_)
    · have h := h.1 hc
      exact j104 _ _ _ _ _ _ _ _ _ _ h hw (lv_sub hl [0, 1] rfl)
    · have h := h.2 hc
      refine lv_aload_n hx hb d_T_readLine_78 rfl (lv_at hl 0 rfl) ?_
      refine m_calli (hr := va_runV (As := []) (rest := []) ⟨hx, hb, hml, hown, hts⟩ (c_T_isSignHere l D cA ad _ T_size T_place T_fault T_bytes _ h) (cwV 0 hts (ginV gm_198 gm_200 gs_9 gm_5 gm_201) rfl rfl rfl (by decide +kernel) ⟨Nat.le_of_ble_eq_true rfl, Nat.le_of_ble_eq_true rfl⟩) (m_preV 4 5 rfl rfl hK hw [5, 6] rfl rfl) rfl rfl hl.1 rfl (lv_room (Nat.le_of_ble_eq_true rfl)) d_T_readLine_79 ⟨Nat.zero_le _, Nat.zero_le _⟩) (w2 := (fun (_ : Unit) => [(k_G cA ad G_size G_inputs), (k_F cA ad F_size), (k_F_kinds cA ad F_kinds), (k_F_sizes cA ad F_sizes), (k_F_literals cA ad F_literals), (k_T cA ad T_size T_place T_fault), (k_T_bytes cA ad T_bytes)])) (wr := [(k_G cA ad G_size G_inputs), (k_F cA ad F_size), (k_F_kinds cA ad F_kinds), (k_F_sizes cA ad F_sizes), (k_F_literals cA ad F_literals)]) hw hA [5, 6] [0, 1, 2, 3, 4] [0, 1, 2, 3, 4, 5, 6] rfl rfl (by decide) (by decide) (by decide) (fun _ => rfl) (fun r79 u H locs hw h => ?_)
      refine lv_if_eq (tgt := 104) hx hb d_T_readLine_82 (by decide) (fun hc => ?_) (fun hc => ?_)
      · have h := h.1 hc
        exact j104 _ _ _ _ _ _ _ _ _ _ h hw (lv_sub hl [0, 1] rfl)
      · have h := h.2 hc
        refine lv_aload_n hx hb d_T_readLine_85 rfl (lv_at hl 0 rfl) ?_
        refine va_get (D := D) (ci := 4) (v := .int T_fault) (C := R_T) (T := T_T) (N := 6) hx hb hts (fun w h => List.mem_cons_of_mem _ (iw_T w h)) hown hK.1 hw.1 5 rfl rfl 5 (by decide) (hg gm_127) (fun _ h9 => h9) rfl d_T_readLine_86 ?_
        refine lv_iconst (v := (-1)) hx hb d_T_readLine_89 (by decide) ?_
        refine lv_icmp_ne (tgt := 104) hx hb d_T_readLine_90 (by decide) (fun hc => ?_) (fun hc => ?_)
        · have h := h.2 hc
          exact j104 _ _ _ _ _ _ _ _ _ _ h hw (lv_sub hl [0, 1] rfl)
        · have h := h.1 hc
          refine lv_aload_n hx hb d_T_readLine_93 rfl (lv_at hl 0 rfl) ?_
          refine lv_iload_n hx hb d_T_readLine_94 rfl (lv_at hl 1 rfl) ?_
          refine m_callv (hr := va_runV (As := [.int x2]) (rest := []) ⟨hx, hb, hml, hown, hts⟩ (c_T_readLiteral l D cA ad _ G_size G_inputs F_size F_kinds F_sizes F_literals T_size T_place T_fault T_bytes x2 _ h) (cwV 1 hts (ginV gm_202 gm_204 gs_10 gm_5 gm_205) rfl rfl rfl (by decide +kernel) ⟨Nat.le_of_ble_eq_true rfl, Nat.le_of_ble_eq_true rfl⟩) (m_preV 4 5 rfl rfl hK hw [0, 1, 2, 3, 4, 5, 6] rfl rfl) rfl rfl hl.1 rfl (lv_room (Nat.le_of_ble_eq_true rfl)) d_T_readLine_95 ⟨Nat.zero_le _, Nat.zero_le _⟩) (w2 := (fun (u : (Nat → Int32) × (Nat → Int32) × Int32 × Int32) => [(k_G cA ad G_size G_inputs), (k_F cA ad F_size), (k_F_kinds cA ad F_kinds), (k_F_sizes cA ad u.1), (k_F_literals cA ad u.2.1), (k_T cA ad T_size u.2.2.1 u.2.2.2), (k_T_bytes cA ad T_bytes)])) (wr := []) hw hA [0, 1, 2, 3, 4, 5, 6] [] [0, 1, 2, 3, 4, 5, 6] rfl rfl (by decide) (by decide) (by decide) (fun _ => rfl) (fun u H locs hw h => ?_)
          obtain ⟨F_sizes_95, F_literals_95, T_place_95, T_fault_95⟩ := u
          have hw : mW D A s.heap [(k_G cA ad G_size G_inputs), (k_F cA ad F_size), (k_F_kinds cA ad F_kinds), (k_F_sizes cA ad F_sizes_95), (k_F_literals cA ad F_literals_95), (k_T cA ad T_size T_place_95 T_fault_95), (k_T_bytes cA ad T_bytes)] H locs := hw
          refine lv_iinc (v := (x3 + 1)) (lv' := [(3, .int (x3 + 1)), (0, .ref (ad 13)), (2, .int x2)]) hx hb d_T_readLine_98 hl (k := 2) rfl rfl (by decide) rfl (fun ls hl => ?_)
          refine lv_goto (tgt := 71) hx hb d_T_readLine_101 (by decide) ?_
          exact (hC71 _ _ _ _ _ _ _ _).1 h _ _ _ hw (lv_sub hl [1, 2, 0] rfl)
  unfold wp_T_readLine at h
  have h := h C71 hc71
  refine lv_aload_n hx hb d_T_readLine_0 rfl (lv_at hl 0 rfl) ?_
  refine m_calli (hr := va_runV (As := []) (rest := []) ⟨hx, hb, hml, hown, hts⟩ (c_T_here l D cA ad _ T_size T_place T_fault T_bytes _ h) (cwV 0 hts (ginV gm_178 gm_180 gs_4 gm_5 gm_181) rfl rfl rfl (by decide +kernel) ⟨Nat.le_of_ble_eq_true rfl, Nat.le_of_ble_eq_true rfl⟩) (m_preV 4 5 rfl rfl hK hw [5, 6] rfl rfl) rfl rfl hl.1 rfl (lv_room (Nat.le_of_ble_eq_true rfl)) d_T_readLine_1 ⟨Nat.zero_le _, Nat.zero_le _⟩) (w2 := (fun (_ : Unit) => [(k_G cA ad G_size G_inputs), (k_F cA ad F_size), (k_F_kinds cA ad F_kinds), (k_F_sizes cA ad F_sizes), (k_F_literals cA ad F_literals), (k_T cA ad T_size T_place T_fault), (k_T_bytes cA ad T_bytes)])) (wr := [(k_G cA ad G_size G_inputs), (k_F cA ad F_size), (k_F_kinds cA ad F_kinds), (k_F_sizes cA ad F_sizes), (k_F_literals cA ad F_literals)]) hw hA [5, 6] [0, 1, 2, 3, 4] [0, 1, 2, 3, 4, 5, 6] rfl rfl (by decide) (by decide) (by decide) (fun _ => rfl) (fun r1 u H locs hw h => ?_)
  refine lv_istore_n (lv' := [(1, .int r1), (0, .ref (ad 13))]) hx hb d_T_readLine_4 rfl hl (by decide) rfl (fun ls hl => ?_)
  refine lv_iload_n hx hb d_T_readLine_5 rfl (lv_at hl 0 rfl) ?_
  refine lv_bipush (v := 99) hx hb d_T_readLine_6 (by decide) ?_
  refine lv_icmp_eq (tgt := 17) hx hb d_T_readLine_8 (by decide) (fun hc => ?_) (fun hc => ?_)
  · have h := h.1 hc
    exact j17 _ _ _ _ _ _ _ _ _ _ h hw (lv_sub hl [1, 0] rfl)
  · have h := h.2 hc
    refine lv_iload_n hx hb d_T_readLine_11 rfl (lv_at hl 0 rfl) ?_
    refine lv_bipush (v := 61) hx hb d_T_readLine_12 (by decide) ?_
    refine lv_icmp_ne (tgt := 27) hx hb d_T_readLine_14 (by decide) (fun hc => ?_) (fun hc => ?_)
    · have h := h.2 hc
      exact j27 _ _ _ _ _ _ _ _ _ h hw (lv_sub hl [1] rfl)
    · have h := h.1 hc
      exact j17 _ _ _ _ _ _ _ _ _ _ h hw (lv_sub hl [1, 0] rfl)
def rm_T_readAll : Room := { frames := 5, cells := 0, slots := 0, locals := 109 }
set_option maxHeartbeats 4000000 in
set_option maxRecDepth 100000 in
theorem c_T_readAll (l : Launch) (D : va_G) (cA : Nat → ClassId) (ad : Nat → Nat) (sz : Nat) (G_size : Int32) (G_inputs : Int32) (F_size : Int32) (F_kinds : (Nat → Int32)) (F_sizes : (Nat → Int32)) (F_literals : (Nat → Int32)) (T_size : Int32) (T_place : Int32) (T_fault : Int32) (T_bytes : (Nat → Int32)) (post : Int32 → Int32 → (Nat → Int32) → (Nat → Int32) → (Nat → Int32) → Int32 → Int32 → Int32 → Prop) (h : wp_T_readAll G_size F_size F_kinds F_sizes F_literals T_size T_place T_fault T_bytes post) : Met l y_T_readAll w_T_readAll rm_T_readAll (mPc D cA [.ref (ad 13)] [(k_G cA ad G_size G_inputs), (k_F cA ad F_size), (k_F_kinds cA ad F_kinds), (k_F_sizes cA ad F_sizes), (k_F_literals cA ad F_literals), (k_T cA ad T_size T_place T_fault), (k_T_bytes cA ad T_bytes)] sz) (va_Qi (fun (r : Int32) (u : Int32 × (Nat → Int32) × (Nat → Int32) × (Nat → Int32) × Int32 × Int32 × Int32) => post r u.1 u.2.1 u.2.2.1 u.2.2.2.1 u.2.2.2.2.1 u.2.2.2.2.2.1 u.2.2.2.2.2.2) (mB D (va_A [(k_G cA ad G_size G_inputs), (k_F cA ad F_size), (k_F_kinds cA ad F_kinds), (k_F_sizes cA ad F_sizes), (k_F_literals cA ad F_literals), (k_T cA ad T_size T_place T_fault), (k_T_bytes cA ad T_bytes)] sz) (fun (u : Int32 × (Nat → Int32) × (Nat → Int32) × (Nat → Int32) × Int32 × Int32 × Int32) => [(k_G cA ad G_size G_inputs), (k_F cA ad u.1), (k_F_kinds cA ad u.2.1), (k_F_sizes cA ad u.2.2.1), (k_F_literals cA ad u.2.2.2.1), (k_T cA ad u.2.2.2.2.1 u.2.2.2.2.2.1 u.2.2.2.2.2.2), (k_T_bytes cA ad T_bytes)])) (va_A [(k_G cA ad G_size G_inputs), (k_F cA ad F_size), (k_F_kinds cA ad F_kinds), (k_F_sizes cA ad F_sizes), (k_F_literals cA ad F_literals), (k_T cA ad T_size T_place T_fault), (k_T_bytes cA ad T_bytes)] sz)) 0 0 (va_A [(k_G cA ad G_size G_inputs), (k_F cA ad F_size), (k_F_kinds cA ad F_kinds), (k_F_sizes cA ad F_sizes), (k_F_literals cA ad F_literals), (k_T cA ad T_size T_place T_fault), (k_T_bytes cA ad T_bytes)] sz) := by
  refine m_methI (by decide) rfl (Nat.le_of_ble_eq_true rfl) ?_
  intro p e s m below meth c A Q ls hx hb hml hown hts hK hA hw hl hE
  have hl : lv_has ls 2 [(0, .ref (ad 13))] := hl
  have hown : s.vm.findClass R_T = some m.cls := hown
  have hg : ∀ {w : Cond}, w ∈ gw → w.before _ s = true := fun h => hts _ (List.mem_cons_of_mem _ h)
  obtain ⟨C16, hC16⟩ : ∃ C : Int32 → Int32 → (Nat → Int32) → (Nat → Int32) → (Nat → Int32) → Int32 → Int32 → Int32 → Prop, ∀ (x1 : Int32) (F_size : Int32) (F_kinds : (Nat → Int32)) (F_sizes : (Nat → Int32)) (F_literals : (Nat → Int32)) (T_size : Int32) (T_place : Int32) (T_fault : Int32), C x1 F_size F_kinds F_sizes F_literals T_size T_place T_fault ↔ (∀ (H : Heap) (locs : List Loc) (ls : Array Slot), mW D A s.heap [(k_G cA ad G_size G_inputs), (k_F cA ad F_size), (k_F_kinds cA ad F_kinds), (k_F_sizes cA ad F_sizes), (k_F_literals cA ad F_literals), (k_T cA ad T_size T_place T_fault), (k_T_bytes cA ad T_bytes)] H locs → lv_has ls 2 [(0, .ref (ad 13)), (1, .int x1)] → W p l e rm_T_readAll s m [.ref (ad 13)].toArray below meth c H locs 0 0 Q (F0 m 16 ls [])) := ⟨_, fun _ _ _ _ _ _ _ _ => Iff.rfl⟩
  have j55 : ∀ (F_size : Int32) (F_kinds : (Nat → Int32)) (F_sizes : (Nat → Int32)) (F_literals : (Nat → Int32)) (T_size : Int32) (T_place : Int32) (T_fault : Int32) (H : Heap) (locs : List Loc) (ls : Array Slot), s_T_readAll_55 G_size T_bytes C16 post F_size F_kinds F_sizes F_literals T_size T_place T_fault → mW D A s.heap [(k_G cA ad G_size G_inputs), (k_F cA ad F_size), (k_F_kinds cA ad F_kinds), (k_F_sizes cA ad F_sizes), (k_F_literals cA ad F_literals), (k_T cA ad T_size T_place T_fault), (k_T_bytes cA ad T_bytes)] H locs → lv_has ls 2 [(0, .ref (ad 13))] → W p l e rm_T_readAll s m [.ref (ad 13)].toArray below meth c H locs 0 0 Q (F0 m 55 ls []) := by
    intro F_size F_kinds F_sizes F_literals T_size T_place T_fault H locs ls h hw hl
    unfold s_T_readAll_55 at h
    refine lv_aload_n hx hb d_T_readAll_55 rfl (lv_at hl 0 rfl) ?_
    refine lv_iconst (v := 0) hx hb d_T_readAll_56 (by decide) ?_
    refine m_put (ws' := [(k_G cA ad G_size G_inputs), (k_F cA ad F_size), (k_F_kinds cA ad F_kinds), (k_F_sizes cA ad F_sizes), (k_F_literals cA ad F_literals), (k_T cA ad 0 T_place T_fault), (k_T_bytes cA ad T_bytes)]) (ci := 4) (v := .int 0) (ty := .int) (C := R_T) (T := T_T) (N := 6) hx hb hts (fun w h => List.mem_cons_of_mem _ (iw_T w h)) ty_T tyok_T nm_T hown hK.1 hw 5 rfl rfl 3 (by decide) (hg gm_124) (fun _ h9 => h9) rfl (by decide +kernel) rfl rfl (Nat.le_of_ble_eq_true rfl) rfl d_T_readAll_57 (fun H locs hw => ?_)
    refine lv_aload_n hx hb d_T_readAll_60 rfl (lv_at hl 0 rfl) ?_
    refine va_get (D := D) (ci := 4) (v := .int T_fault) (C := R_T) (T := T_T) (N := 6) hx hb hts (fun w h => List.mem_cons_of_mem _ (iw_T w h)) hown hK.1 hw.1 5 rfl rfl 5 (by decide) (hg gm_127) (fun _ h9 => h9) rfl d_T_readAll_61 ?_
    exact hE T_fault (F_size, F_kinds, F_sizes, F_literals, 0, T_place, T_fault) _ _ _ _ h hw d_T_readAll_64
  have hc16 : ∀ (x1 : Int32) (F_size : Int32) (F_kinds : (Nat → Int32)) (F_sizes : (Nat → Int32)) (F_literals : (Nat → Int32)) (T_size : Int32) (T_place : Int32) (T_fault : Int32), s_T_readAll_16 G_size T_bytes C16 post x1 F_size F_kinds F_sizes F_literals T_size T_place T_fault → C16 x1 F_size F_kinds F_sizes F_literals T_size T_place T_fault := by
    intro x1 F_size F_kinds F_sizes F_literals T_size T_place T_fault h
    unfold s_T_readAll_16 at h
    refine (hC16 _ _ _ _ _ _ _ _).2 ?_
    intro H locs ls hw hl
    refine lv_iload_n hx hb d_T_readAll_16 rfl (lv_at hl 1 rfl) ?_
    refine lv_bipush (v := 24) hx hb d_T_readAll_17 (by decide) ?_
    refine lv_icmp_gt (tgt := 55) hx hb d_T_readAll_19 (by decide) (fun hc => ?_) (fun hc => ?_)
    · have h := h.1 hc
      exact j55 _ _ _ _ _ _ _ _ _ _ h hw (lv_sub hl [0] rfl)
    · have h := h.2 hc
      refine lv_aload_n hx hb d_T_readAll_22 rfl (lv_at hl 0 rfl) ?_
      refine va_get (D := D) (ci := 4) (v := .int T_place) (C := R_T) (T := T_T) (N := 6) hx hb hts (fun w h => List.mem_cons_of_mem _ (iw_T w h)) hown hK.1 hw.1 5 rfl rfl 4 (by decide) (hg gm_126) (fun _ h9 => h9) rfl d_T_readAll_23 ?_
      refine lv_aload_n hx hb d_T_readAll_26 rfl (lv_at hl 0 rfl) ?_
      refine va_get (D := D) (ci := 4) (v := .int T_size) (C := R_T) (T := T_T) (N := 6) hx hb hts (fun w h => List.mem_cons_of_mem _ (iw_T w h)) hown hK.1 hw.1 5 rfl rfl 3 (by decide) (hg gm_124) (fun _ h9 => h9) rfl d_T_readAll_27 ?_
      refine lv_icmp_ge (tgt := 55) hx hb d_T_readAll_30 (by decide) (fun hc => ?_) (fun hc => ?_)
      · have h := h.1 hc
        exact j55 _ _ _ _ _ _ _ _ _ _ h hw (lv_sub hl [0] rfl)
      · have h := h.2 hc
        refine lv_aload_n hx hb d_T_readAll_33 rfl (lv_at hl 0 rfl) ?_
        refine va_get (D := D) (ci := 4) (v := .int T_fault) (C := R_T) (T := T_T) (N := 6) hx hb hts (fun w h => List.mem_cons_of_mem _ (iw_T w h)) hown hK.1 hw.1 5 rfl rfl 5 (by decide) (hg gm_127) (fun _ h9 => h9) rfl d_T_readAll_34 ?_
        refine lv_iconst (v := (-1)) hx hb d_T_readAll_37 (by decide) ?_
        refine lv_icmp_ne (tgt := 55) hx hb d_T_readAll_38 (by decide) (fun hc => ?_) (fun hc => ?_)
        · have h := h.2 hc
          exact j55 _ _ _ _ _ _ _ _ _ _ h hw (lv_sub hl [0] rfl)
        · have h := h.1 hc
          refine lv_aload_n hx hb d_T_readAll_41 rfl (lv_at hl 0 rfl) ?_
          refine m_callv (hr := va_runV (As := []) (rest := []) ⟨hx, hb, hml, hown, hts⟩ (c_T_readLine l D cA ad _ G_size G_inputs F_size F_kinds F_sizes F_literals T_size T_place T_fault T_bytes _ h) (cwV 0 hts (ginV gm_182 gm_184 gs_5 gm_5 gm_185) rfl rfl rfl (by decide +kernel) ⟨Nat.le_of_ble_eq_true rfl, Nat.le_of_ble_eq_true rfl⟩) (m_preV 4 5 rfl rfl hK hw [0, 1, 2, 3, 4, 5, 6] rfl rfl) rfl rfl hl.1 rfl (lv_room (Nat.le_of_ble_eq_true rfl)) d_T_readAll_42 ⟨Nat.zero_le _, Nat.zero_le _⟩) (w2 := (fun (u : Int32 × (Nat → Int32) × (Nat → Int32) × (Nat → Int32) × Int32 × Int32) => [(k_G cA ad G_size G_inputs), (k_F cA ad u.1), (k_F_kinds cA ad u.2.1), (k_F_sizes cA ad u.2.2.1), (k_F_literals cA ad u.2.2.2.1), (k_T cA ad T_size u.2.2.2.2.1 u.2.2.2.2.2), (k_T_bytes cA ad T_bytes)])) (wr := []) hw hA [0, 1, 2, 3, 4, 5, 6] [] [0, 1, 2, 3, 4, 5, 6] rfl rfl (by decide) (by decide) (by decide) (fun _ => rfl) (fun u H locs hw h => ?_)
          obtain ⟨F_size_42, F_kinds_42, F_sizes_42, F_literals_42, T_place_42, T_fault_42⟩ := u
          have hw : mW D A s.heap [(k_G cA ad G_size G_inputs), (k_F cA ad F_size_42), (k_F_kinds cA ad F_kinds_42), (k_F_sizes cA ad F_sizes_42), (k_F_literals cA ad F_literals_42), (k_T cA ad T_size T_place_42 T_fault_42), (k_T_bytes cA ad T_bytes)] H locs := hw
          refine lv_aload_n hx hb d_T_readAll_45 rfl (lv_at hl 0 rfl) ?_
          refine m_callv (hr := va_runV (As := []) (rest := []) ⟨hx, hb, hml, hown, hts⟩ (c_T_skipToLine l D cA ad _ T_size T_place_42 T_fault_42 T_bytes _ h) (cwV 0 hts (ginV gm_170 gm_172 gs_2 gm_5 gm_173) rfl rfl rfl (by decide +kernel) ⟨Nat.le_of_ble_eq_true rfl, Nat.le_of_ble_eq_true rfl⟩) (m_preV 4 5 rfl rfl hK hw [5, 6] rfl rfl) rfl rfl hl.1 rfl (lv_room (Nat.le_of_ble_eq_true rfl)) d_T_readAll_46 ⟨Nat.zero_le _, Nat.zero_le _⟩) (w2 := (fun (u : Int32) => [(k_G cA ad G_size G_inputs), (k_F cA ad F_size_42), (k_F_kinds cA ad F_kinds_42), (k_F_sizes cA ad F_sizes_42), (k_F_literals cA ad F_literals_42), (k_T cA ad T_size u T_fault_42), (k_T_bytes cA ad T_bytes)])) (wr := [(k_G cA ad G_size G_inputs), (k_F cA ad F_size_42), (k_F_kinds cA ad F_kinds_42), (k_F_sizes cA ad F_sizes_42), (k_F_literals cA ad F_literals_42)]) hw hA [5, 6] [0, 1, 2, 3, 4] [0, 1, 2, 3, 4, 5, 6] rfl rfl (by decide) (by decide) (by decide) (fun _ => rfl) (fun u H locs hw h => ?_)
          obtain ⟨T_place_46, rfl⟩ : ∃ z, z = u := ⟨_, rfl⟩
          have hw : mW D A s.heap [(k_G cA ad G_size G_inputs), (k_F cA ad F_size_42), (k_F_kinds cA ad F_kinds_42), (k_F_sizes cA ad F_sizes_42), (k_F_literals cA ad F_literals_42), (k_T cA ad T_size T_place_46 T_fault_42), (k_T_bytes cA ad T_bytes)] H locs := hw
          refine lv_iinc (v := (x1 + 1)) (lv' := [(1, .int (x1 + 1)), (0, .ref (ad 13))]) hx hb d_T_readAll_49 hl (k := 1) rfl rfl (by decide) rfl (fun ls hl => ?_)
          refine lv_goto (tgt := 16) hx hb d_T_readAll_52 (by decide) ?_
          exact (hC16 _ _ _ _ _ _ _ _).1 h _ _ _ hw (lv_sub hl [1, 0] rfl)
  unfold wp_T_readAll at h
  have h := h C16 hc16
  refine lv_aload_n hx hb d_T_readAll_0 rfl (lv_at hl 0 rfl) ?_
  refine lv_iconst (v := 0) hx hb d_T_readAll_1 (by decide) ?_
  refine m_put (ws' := [(k_G cA ad G_size G_inputs), (k_F cA ad F_size), (k_F_kinds cA ad F_kinds), (k_F_sizes cA ad F_sizes), (k_F_literals cA ad F_literals), (k_T cA ad T_size 0 T_fault), (k_T_bytes cA ad T_bytes)]) (ci := 4) (v := .int 0) (ty := .int) (C := R_T) (T := T_T) (N := 6) hx hb hts (fun w h => List.mem_cons_of_mem _ (iw_T w h)) ty_T tyok_T nm_T hown hK.1 hw 5 rfl rfl 4 (by decide) (hg gm_126) (fun _ h9 => h9) rfl (by decide +kernel) rfl rfl (Nat.le_of_ble_eq_true rfl) rfl d_T_readAll_2 (fun H locs hw => ?_)
  refine lv_aload_n hx hb d_T_readAll_5 rfl (lv_at hl 0 rfl) ?_
  refine lv_iconst (v := (-1)) hx hb d_T_readAll_6 (by decide) ?_
  refine m_put (ws' := [(k_G cA ad G_size G_inputs), (k_F cA ad F_size), (k_F_kinds cA ad F_kinds), (k_F_sizes cA ad F_sizes), (k_F_literals cA ad F_literals), (k_T cA ad T_size 0 (-1)), (k_T_bytes cA ad T_bytes)]) (ci := 4) (v := .int (-1)) (ty := .int) (C := R_T) (T := T_T) (N := 6) hx hb hts (fun w h => List.mem_cons_of_mem _ (iw_T w h)) ty_T tyok_T nm_T hown hK.1 hw 5 rfl rfl 5 (by decide) (hg gm_127) (fun _ h9 => h9) rfl (by decide +kernel) rfl rfl (Nat.le_of_ble_eq_true rfl) rfl d_T_readAll_7 (fun H locs hw => ?_)
  refine lv_aload_n hx hb d_T_readAll_10 rfl (lv_at hl 0 rfl) ?_
  refine m_callv (hr := va_runV (As := []) (rest := []) ⟨hx, hb, hml, hown, hts⟩ (c_T_skipToLine l D cA ad _ T_size 0 (-1) T_bytes _ h) (cwV 0 hts (ginV gm_170 gm_172 gs_2 gm_5 gm_173) rfl rfl rfl (by decide +kernel) ⟨Nat.le_of_ble_eq_true rfl, Nat.le_of_ble_eq_true rfl⟩) (m_preV 4 5 rfl rfl hK hw [5, 6] rfl rfl) rfl rfl hl.1 rfl (lv_room (Nat.le_of_ble_eq_true rfl)) d_T_readAll_11 ⟨Nat.zero_le _, Nat.zero_le _⟩) (w2 := (fun (u : Int32) => [(k_G cA ad G_size G_inputs), (k_F cA ad F_size), (k_F_kinds cA ad F_kinds), (k_F_sizes cA ad F_sizes), (k_F_literals cA ad F_literals), (k_T cA ad T_size u (-1)), (k_T_bytes cA ad T_bytes)])) (wr := [(k_G cA ad G_size G_inputs), (k_F cA ad F_size), (k_F_kinds cA ad F_kinds), (k_F_sizes cA ad F_sizes), (k_F_literals cA ad F_literals)]) hw hA [5, 6] [0, 1, 2, 3, 4] [0, 1, 2, 3, 4, 5, 6] rfl rfl (by decide) (by decide) (by decide) (fun _ => rfl) (fun u H locs hw h => ?_)
  obtain ⟨T_place_11, rfl⟩ : ∃ z, z = u := ⟨_, rfl⟩
  have hw : mW D A s.heap [(k_G cA ad G_size G_inputs), (k_F cA ad F_size), (k_F_kinds cA ad F_kinds), (k_F_sizes cA ad F_sizes), (k_F_literals cA ad F_literals), (k_T cA ad T_size T_place_11 (-1)), (k_T_bytes cA ad T_bytes)] H locs := hw
  refine lv_iconst (v := 0) hx hb d_T_readAll_14 (by decide) ?_
  refine lv_istore_n (lv' := [(1, .int 0), (0, .ref (ad 13))]) hx hb d_T_readAll_15 rfl hl (by decide) rfl (fun ls hl => ?_)
  exact (hC16 _ _ _ _ _ _ _ _).1 h _ _ _ hw (lv_sub hl [1, 0] rfl)
end
