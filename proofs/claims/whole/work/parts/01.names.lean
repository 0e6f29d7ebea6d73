-- ===== PART A: goes FIRST, ahead of the names: the tables' words, and 'selects' of the private methods out of them =====
/-- a private method of a class that the tables say can be made, by its rows of tables_1 -/
def lw_okq (q : MethodName × Nat) : Prop := (q.1.cls ≠ "java/lang/invoke/MethodHandle" ∧ q.1.cls ≠ "java/lang/invoke/VarHandle") ∧ Cond.instantiable q.1.cls q.2 ∈ tables_1 ∧ Cond.privateMethod q.1 ∈ tables_1 ∧ Cond.instanceMethod q.1 ∈ tables_1
theorem lw_p0 : lw_okq (⟨"TalkStrainer$Stock", "bearersOf", "(I)I"⟩, 4) := ⟨⟨by decide +kernel, by decide +kernel⟩, List.mem_of_getElem? (i := 23) (by decide +kernel), List.mem_of_getElem? (i := 317) (by decide +kernel), List.mem_of_getElem? (i := 318) (by decide +kernel)⟩
theorem lw_p1 : lw_okq (⟨"TalkStrainer$Shelves", "heldOn", "(I)I"⟩, 4) := ⟨⟨by decide +kernel, by decide +kernel⟩, List.mem_of_getElem? (i := 115) (by decide +kernel), List.mem_of_getElem? (i := 336) (by decide +kernel), List.mem_of_getElem? (i := 337) (by decide +kernel)⟩
theorem lw_p2 : lw_okq (⟨"TalkStrainer", "wordFromThree", "(II)Z"⟩, 10) := ⟨⟨by decide +kernel, by decide +kernel⟩, List.mem_of_getElem? (i := 15) (by decide +kernel), List.mem_of_getElem? (i := 345) (by decide +kernel), List.mem_of_getElem? (i := 346) (by decide +kernel)⟩
theorem lw_p3 : lw_okq (⟨"TalkStrainer$Changes", "forgetOldest", "()V"⟩, 6) := ⟨⟨by decide +kernel, by decide +kernel⟩, List.mem_of_getElem? (i := 51) (by decide +kernel), List.mem_of_getElem? (i := 388) (by decide +kernel), List.mem_of_getElem? (i := 389) (by decide +kernel)⟩
theorem lw_p4 : lw_okq (⟨"TalkStrainer", "isMesh", "(I)Z"⟩, 10) := ⟨⟨by decide +kernel, by decide +kernel⟩, List.mem_of_getElem? (i := 15) (by decide +kernel), List.mem_of_getElem? (i := 396) (by decide +kernel), List.mem_of_getElem? (i := 397) (by decide +kernel)⟩
theorem lw_p5 : lw_okq (⟨"TalkStrainer$Law", "readLines", "()V"⟩, 10) := ⟨⟨by decide +kernel, by decide +kernel⟩, List.mem_of_getElem? (i := 77) (by decide +kernel), List.mem_of_getElem? (i := 424) (by decide +kernel), List.mem_of_getElem? (i := 425) (by decide +kernel)⟩
theorem lw_p6 : lw_okq (⟨"TalkStrainer$Law", "readLine", "()V"⟩, 10) := ⟨⟨by decide +kernel, by decide +kernel⟩, List.mem_of_getElem? (i := 77) (by decide +kernel), List.mem_of_getElem? (i := 428) (by decide +kernel), List.mem_of_getElem? (i := 429) (by decide +kernel)⟩
theorem lw_p7 : lw_okq (⟨"TalkStrainer$Law", "readLevel", "(II)V"⟩, 10) := ⟨⟨by decide +kernel, by decide +kernel⟩, List.mem_of_getElem? (i := 77) (by decide +kernel), List.mem_of_getElem? (i := 432) (by decide +kernel), List.mem_of_getElem? (i := 433) (by decide +kernel)⟩
theorem lw_p8 : lw_okq (⟨"TalkStrainer$Law", "readOperand", "(I)V"⟩, 10) := ⟨⟨by decide +kernel, by decide +kernel⟩, List.mem_of_getElem? (i := 77) (by decide +kernel), List.mem_of_getElem? (i := 436) (by decide +kernel), List.mem_of_getElem? (i := 437) (by decide +kernel)⟩
theorem lw_p9 : lw_okq (⟨"TalkStrainer$Law", "nextByte", "()I"⟩, 10) := ⟨⟨by decide +kernel, by decide +kernel⟩, List.mem_of_getElem? (i := 77) (by decide +kernel), List.mem_of_getElem? (i := 440) (by decide +kernel), List.mem_of_getElem? (i := 441) (by decide +kernel)⟩
theorem lw_p10 : lw_okq (⟨"TalkStrainer$Law", "readNumber", "()V"⟩, 10) := ⟨⟨by decide +kernel, by decide +kernel⟩, List.mem_of_getElem? (i := 77) (by decide +kernel), List.mem_of_getElem? (i := 447) (by decide +kernel), List.mem_of_getElem? (i := 448) (by decide +kernel)⟩
theorem lw_p11 : lw_okq (⟨"TalkStrainer$Law", "addStep", "(I)V"⟩, 10) := ⟨⟨by decide +kernel, by decide +kernel⟩, List.mem_of_getElem? (i := 77) (by decide +kernel), List.mem_of_getElem? (i := 451) (by decide +kernel), List.mem_of_getElem? (i := 452) (by decide +kernel)⟩
theorem lw_p12 : lw_okq (⟨"TalkStrainer$Law", "closeBracket", "()V"⟩, 10) := ⟨⟨by decide +kernel, by decide +kernel⟩, List.mem_of_getElem? (i := 77) (by decide +kernel), List.mem_of_getElem? (i := 458) (by decide +kernel), List.mem_of_getElem? (i := 459) (by decide +kernel)⟩
theorem lw_p13 : lw_okq (⟨"TalkStrainer", "fineOf", "(I)I"⟩, 10) := ⟨⟨by decide +kernel, by decide +kernel⟩, List.mem_of_getElem? (i := 15) (by decide +kernel), List.mem_of_getElem? (i := 469) (by decide +kernel), List.mem_of_getElem? (i := 470) (by decide +kernel)⟩
theorem lw_p14 : lw_okq (⟨"TalkStrainer", "hear", "(II)I"⟩, 10) := ⟨⟨by decide +kernel, by decide +kernel⟩, List.mem_of_getElem? (i := 15) (by decide +kernel), List.mem_of_getElem? (i := 493) (by decide +kernel), List.mem_of_getElem? (i := 494) (by decide +kernel)⟩
theorem lw_p15 : lw_okq (⟨"TalkStrainer", "isMeshOrNone", "(I)Z"⟩, 10) := ⟨⟨by decide +kernel, by decide +kernel⟩, List.mem_of_getElem? (i := 15) (by decide +kernel), List.mem_of_getElem? (i := 497) (by decide +kernel), List.mem_of_getElem? (i := 498) (by decide +kernel)⟩
def lw_privs_1 : List (MethodName × Nat) := [(⟨"TalkStrainer$Stock", "bearersOf", "(I)I"⟩, 4), (⟨"TalkStrainer$Shelves", "heldOn", "(I)I"⟩, 4), (⟨"TalkStrainer", "wordFromThree", "(II)Z"⟩, 10), (⟨"TalkStrainer$Changes", "forgetOldest", "()V"⟩, 6), (⟨"TalkStrainer", "isMesh", "(I)Z"⟩, 10), (⟨"TalkStrainer$Law", "readLines", "()V"⟩, 10), (⟨"TalkStrainer$Law", "readLine", "()V"⟩, 10), (⟨"TalkStrainer$Law", "readLevel", "(II)V"⟩, 10), (⟨"TalkStrainer$Law", "readOperand", "(I)V"⟩, 10), (⟨"TalkStrainer$Law", "nextByte", "()I"⟩, 10), (⟨"TalkStrainer$Law", "readNumber", "()V"⟩, 10), (⟨"TalkStrainer$Law", "addStep", "(I)V"⟩, 10), (⟨"TalkStrainer$Law", "closeBracket", "()V"⟩, 10), (⟨"TalkStrainer", "fineOf", "(I)I"⟩, 10), (⟨"TalkStrainer", "hear", "(II)I"⟩, 10), (⟨"TalkStrainer", "isMeshOrNone", "(I)Z"⟩, 10)]
theorem lw_r1 : ∀ q ∈ lw_privs_1, lw_okq q := List.forall_mem_cons.mpr ⟨lw_p0, List.forall_mem_cons.mpr ⟨lw_p1, List.forall_mem_cons.mpr ⟨lw_p2, List.forall_mem_cons.mpr ⟨lw_p3, List.forall_mem_cons.mpr ⟨lw_p4, List.forall_mem_cons.mpr ⟨lw_p5, List.forall_mem_cons.mpr ⟨lw_p6, List.forall_mem_cons.mpr ⟨lw_p7, List.forall_mem_cons.mpr ⟨lw_p8, List.forall_mem_cons.mpr ⟨lw_p9, List.forall_mem_cons.mpr ⟨lw_p10, List.forall_mem_cons.mpr ⟨lw_p11, List.forall_mem_cons.mpr ⟨lw_p12, List.forall_mem_cons.mpr ⟨lw_p13, List.forall_mem_cons.mpr ⟨lw_p14, List.forall_mem_cons.mpr ⟨lw_p15, fun _ h => absurd h List.not_mem_nil⟩⟩⟩⟩⟩⟩⟩⟩⟩⟩⟩⟩⟩⟩⟩⟩
theorem lw_p16 : lw_okq (⟨"TalkStrainer", "readSaying", "(I[I)I"⟩, 10) := ⟨⟨by decide +kernel, by decide +kernel⟩, List.mem_of_getElem? (i := 15) (by decide +kernel), List.mem_of_getElem? (i := 501) (by decide +kernel), List.mem_of_getElem? (i := 502) (by decide +kernel)⟩
theorem lw_p17 : lw_okq (⟨"TalkStrainer$Sieve", "clearNet", "()V"⟩, 7) := ⟨⟨by decide +kernel, by decide +kernel⟩, List.mem_of_getElem? (i := 137) (by decide +kernel), List.mem_of_getElem? (i := 526) (by decide +kernel), List.mem_of_getElem? (i := 527) (by decide +kernel)⟩
theorem lw_p18 : lw_okq (⟨"TalkStrainer$Sieve", "addToNet", "(I)V"⟩, 7) := ⟨⟨by decide +kernel, by decide +kernel⟩, List.mem_of_getElem? (i := 137) (by decide +kernel), List.mem_of_getElem? (i := 530) (by decide +kernel), List.mem_of_getElem? (i := 531) (by decide +kernel)⟩
theorem lw_p19 : lw_okq (⟨"TalkStrainer$Sieve", "hurtByNet", "()I"⟩, 7) := ⟨⟨by decide +kernel, by decide +kernel⟩, List.mem_of_getElem? (i := 137) (by decide +kernel), List.mem_of_getElem? (i := 534) (by decide +kernel), List.mem_of_getElem? (i := 535) (by decide +kernel)⟩
theorem lw_p20 : lw_okq (⟨"TalkStrainer", "pairRefusal", "(I)I"⟩, 10) := ⟨⟨by decide +kernel, by decide +kernel⟩, List.mem_of_getElem? (i := 15) (by decide +kernel), List.mem_of_getElem? (i := 550) (by decide +kernel), List.mem_of_getElem? (i := 551) (by decide +kernel)⟩
theorem lw_p21 : lw_okq (⟨"TalkStrainer$Search", "neededFrom", "(II[III)I"⟩, 9) := ⟨⟨by decide +kernel, by decide +kernel⟩, List.mem_of_getElem? (i := 172) (by decide +kernel), List.mem_of_getElem? (i := 567) (by decide +kernel), List.mem_of_getElem? (i := 568) (by decide +kernel)⟩
theorem lw_p22 : lw_okq (⟨"TalkStrainer$Search", "neededWith", "(III[III)I"⟩, 9) := ⟨⟨by decide +kernel, by decide +kernel⟩, List.mem_of_getElem? (i := 172) (by decide +kernel), List.mem_of_getElem? (i := 571) (by decide +kernel), List.mem_of_getElem? (i := 572) (by decide +kernel)⟩
theorem lw_p23 : lw_okq (⟨"TalkStrainer$Search", "firstStep", "(II[III)I"⟩, 9) := ⟨⟨by decide +kernel, by decide +kernel⟩, List.mem_of_getElem? (i := 172) (by decide +kernel), List.mem_of_getElem? (i := 577) (by decide +kernel), List.mem_of_getElem? (i := 578) (by decide +kernel)⟩
theorem lw_p24 : lw_okq (⟨"TalkStrainer$Search", "wordsLeftAt", "(III)I"⟩, 9) := ⟨⟨by decide +kernel, by decide +kernel⟩, List.mem_of_getElem? (i := 172) (by decide +kernel), List.mem_of_getElem? (i := 645) (by decide +kernel), List.mem_of_getElem? (i := 646) (by decide +kernel)⟩
theorem lw_p25 : lw_okq (⟨"TalkStrainer$Sieve", "somethingCameOf", "(I)Z"⟩, 7) := ⟨⟨by decide +kernel, by decide +kernel⟩, List.mem_of_getElem? (i := 137) (by decide +kernel), List.mem_of_getElem? (i := 684) (by decide +kernel), List.mem_of_getElem? (i := 685) (by decide +kernel)⟩
theorem lw_p26 : lw_okq (⟨"TalkStrainer$Search", "winningFrom", "(II)I"⟩, 9) := ⟨⟨by decide +kernel, by decide +kernel⟩, List.mem_of_getElem? (i := 172) (by decide +kernel), List.mem_of_getElem? (i := 704) (by decide +kernel), List.mem_of_getElem? (i := 705) (by decide +kernel)⟩
theorem lw_p27 : lw_okq (⟨"TalkStrainer$Leaves", "run", "(IIII)I"⟩, 6) := ⟨⟨by decide +kernel, by decide +kernel⟩, List.mem_of_getElem? (i := 237) (by decide +kernel), List.mem_of_getElem? (i := 798) (by decide +kernel), List.mem_of_getElem? (i := 799) (by decide +kernel)⟩
theorem lw_p28 : lw_okq (⟨"TalkStrainer$Leaves", "noteBody", "(I)V"⟩, 6) := ⟨⟨by decide +kernel, by decide +kernel⟩, List.mem_of_getElem? (i := 237) (by decide +kernel), List.mem_of_getElem? (i := 809) (by decide +kernel), List.mem_of_getElem? (i := 810) (by decide +kernel)⟩
theorem lw_p29 : lw_okq (⟨"TalkStrainer$Leaves", "answerOf", "(III)I"⟩, 6) := ⟨⟨by decide +kernel, by decide +kernel⟩, List.mem_of_getElem? (i := 237) (by decide +kernel), List.mem_of_getElem? (i := 813) (by decide +kernel), List.mem_of_getElem? (i := 814) (by decide +kernel)⟩
theorem lw_p30 : lw_okq (⟨"TalkStrainer", "elementRefusal", "(II)I"⟩, 10) := ⟨⟨by decide +kernel, by decide +kernel⟩, List.mem_of_getElem? (i := 15) (by decide +kernel), List.mem_of_getElem? (i := 845) (by decide +kernel), List.mem_of_getElem? (i := 846) (by decide +kernel)⟩
theorem lw_p31 : lw_okq (⟨"TalkStrainerModel", "addWord", "(III)I"⟩, 62) := ⟨⟨by decide +kernel, by decide +kernel⟩, List.mem_of_getElem? (i := 897) (by decide +kernel), List.mem_of_getElem? (i := 1098) (by decide +kernel), List.mem_of_getElem? (i := 1099) (by decide +kernel)⟩
def lw_privs_2 : List (MethodName × Nat) := [(⟨"TalkStrainer", "readSaying", "(I[I)I"⟩, 10), (⟨"TalkStrainer$Sieve", "clearNet", "()V"⟩, 7), (⟨"TalkStrainer$Sieve", "addToNet", "(I)V"⟩, 7), (⟨"TalkStrainer$Sieve", "hurtByNet", "()I"⟩, 7), (⟨"TalkStrainer", "pairRefusal", "(I)I"⟩, 10), (⟨"TalkStrainer$Search", "neededFrom", "(II[III)I"⟩, 9), (⟨"TalkStrainer$Search", "neededWith", "(III[III)I"⟩, 9), (⟨"TalkStrainer$Search", "firstStep", "(II[III)I"⟩, 9), (⟨"TalkStrainer$Search", "wordsLeftAt", "(III)I"⟩, 9), (⟨"TalkStrainer$Sieve", "somethingCameOf", "(I)Z"⟩, 7), (⟨"TalkStrainer$Search", "winningFrom", "(II)I"⟩, 9), (⟨"TalkStrainer$Leaves", "run", "(IIII)I"⟩, 6), (⟨"TalkStrainer$Leaves", "noteBody", "(I)V"⟩, 6), (⟨"TalkStrainer$Leaves", "answerOf", "(III)I"⟩, 6), (⟨"TalkStrainer", "elementRefusal", "(II)I"⟩, 10), (⟨"TalkStrainerModel", "addWord", "(III)I"⟩, 62)]
theorem lw_r2 : ∀ q ∈ lw_privs_2, lw_okq q := List.forall_mem_cons.mpr ⟨lw_p16, List.forall_mem_cons.mpr ⟨lw_p17, List.forall_mem_cons.mpr ⟨lw_p18, List.forall_mem_cons.mpr ⟨lw_p19, List.forall_mem_cons.mpr ⟨lw_p20, List.forall_mem_cons.mpr ⟨lw_p21, List.forall_mem_cons.mpr ⟨lw_p22, List.forall_mem_cons.mpr ⟨lw_p23, List.forall_mem_cons.mpr ⟨lw_p24, List.forall_mem_cons.mpr ⟨lw_p25, List.forall_mem_cons.mpr ⟨lw_p26, List.forall_mem_cons.mpr ⟨lw_p27, List.forall_mem_cons.mpr ⟨lw_p28, List.forall_mem_cons.mpr ⟨lw_p29, List.forall_mem_cons.mpr ⟨lw_p30, List.forall_mem_cons.mpr ⟨lw_p31, fun _ h => absurd h List.not_mem_nil⟩⟩⟩⟩⟩⟩⟩⟩⟩⟩⟩⟩⟩⟩⟩⟩
theorem lw_p32 : lw_okq (⟨"TalkStrainerModel", "lays", "(III)V"⟩, 62) := ⟨⟨by decide +kernel, by decide +kernel⟩, List.mem_of_getElem? (i := 897) (by decide +kernel), List.mem_of_getElem? (i := 1122) (by decide +kernel), List.mem_of_getElem? (i := 1123) (by decide +kernel)⟩
theorem lw_p33 : lw_okq (⟨"TalkStrainerModel", "isOne", "(II)Z"⟩, 62) := ⟨⟨by decide +kernel, by decide +kernel⟩, List.mem_of_getElem? (i := 897) (by decide +kernel), List.mem_of_getElem? (i := 1134) (by decide +kernel), List.mem_of_getElem? (i := 1135) (by decide +kernel)⟩
theorem lw_p34 : lw_okq (⟨"TalkStrainerModel", "isWord", "(I)Z"⟩, 62) := ⟨⟨by decide +kernel, by decide +kernel⟩, List.mem_of_getElem? (i := 897) (by decide +kernel), List.mem_of_getElem? (i := 1138) (by decide +kernel), List.mem_of_getElem? (i := 1139) (by decide +kernel)⟩
theorem lw_p35 : lw_okq (⟨"TalkStrainerModel", "isMesh", "(I)Z"⟩, 62) := ⟨⟨by decide +kernel, by decide +kernel⟩, List.mem_of_getElem? (i := 897) (by decide +kernel), List.mem_of_getElem? (i := 1142) (by decide +kernel), List.mem_of_getElem? (i := 1143) (by decide +kernel)⟩
theorem lw_p36 : lw_okq (⟨"TalkStrainerModel", "changes", "(III)I"⟩, 62) := ⟨⟨by decide +kernel, by decide +kernel⟩, List.mem_of_getElem? (i := 897) (by decide +kernel), List.mem_of_getElem? (i := 1149) (by decide +kernel), List.mem_of_getElem? (i := 1150) (by decide +kernel)⟩
theorem lw_p37 : lw_okq (⟨"TalkStrainerModel", "valueAt", "(II)I"⟩, 62) := ⟨⟨by decide +kernel, by decide +kernel⟩, List.mem_of_getElem? (i := 897) (by decide +kernel), List.mem_of_getElem? (i := 1153) (by decide +kernel), List.mem_of_getElem? (i := 1154) (by decide +kernel)⟩
theorem lw_p38 : lw_okq (⟨"TalkStrainerModel", "readText", "(I)I"⟩, 62) := ⟨⟨by decide +kernel, by decide +kernel⟩, List.mem_of_getElem? (i := 897) (by decide +kernel), List.mem_of_getElem? (i := 1169) (by decide +kernel), List.mem_of_getElem? (i := 1170) (by decide +kernel)⟩
theorem lw_p39 : lw_okq (⟨"TalkStrainerModel", "line", "()V"⟩, 62) := ⟨⟨by decide +kernel, by decide +kernel⟩, List.mem_of_getElem? (i := 897) (by decide +kernel), List.mem_of_getElem? (i := 1173) (by decide +kernel), List.mem_of_getElem? (i := 1174) (by decide +kernel)⟩
theorem lw_p40 : lw_okq (⟨"TalkStrainerModel", "either", "()V"⟩, 62) := ⟨⟨by decide +kernel, by decide +kernel⟩, List.mem_of_getElem? (i := 897) (by decide +kernel), List.mem_of_getElem? (i := 1177) (by decide +kernel), List.mem_of_getElem? (i := 1178) (by decide +kernel)⟩
theorem lw_p41 : lw_okq (⟨"TalkStrainerModel", "both", "()V"⟩, 62) := ⟨⟨by decide +kernel, by decide +kernel⟩, List.mem_of_getElem? (i := 897) (by decide +kernel), List.mem_of_getElem? (i := 1181) (by decide +kernel), List.mem_of_getElem? (i := 1182) (by decide +kernel)⟩
theorem lw_p42 : lw_okq (⟨"TalkStrainerModel", "compared", "()V"⟩, 62) := ⟨⟨by decide +kernel, by decide +kernel⟩, List.mem_of_getElem? (i := 897) (by decide +kernel), List.mem_of_getElem? (i := 1185) (by decide +kernel), List.mem_of_getElem? (i := 1186) (by decide +kernel)⟩
theorem lw_p43 : lw_okq (⟨"TalkStrainerModel", "sum", "()V"⟩, 62) := ⟨⟨by decide +kernel, by decide +kernel⟩, List.mem_of_getElem? (i := 897) (by decide +kernel), List.mem_of_getElem? (i := 1189) (by decide +kernel), List.mem_of_getElem? (i := 1190) (by decide +kernel)⟩
theorem lw_p44 : lw_okq (⟨"TalkStrainerModel", "product", "()V"⟩, 62) := ⟨⟨by decide +kernel, by decide +kernel⟩, List.mem_of_getElem? (i := 897) (by decide +kernel), List.mem_of_getElem? (i := 1193) (by decide +kernel), List.mem_of_getElem? (i := 1194) (by decide +kernel)⟩
theorem lw_p45 : lw_okq (⟨"TalkStrainerModel", "operand", "()V"⟩, 62) := ⟨⟨by decide +kernel, by decide +kernel⟩, List.mem_of_getElem? (i := 897) (by decide +kernel), List.mem_of_getElem? (i := 1197) (by decide +kernel), List.mem_of_getElem? (i := 1198) (by decide +kernel)⟩
theorem lw_p46 : lw_okq (⟨"TalkStrainerModel", "look", "()I"⟩, 62) := ⟨⟨by decide +kernel, by decide +kernel⟩, List.mem_of_getElem? (i := 897) (by decide +kernel), List.mem_of_getElem? (i := 1201) (by decide +kernel), List.mem_of_getElem? (i := 1202) (by decide +kernel)⟩
theorem lw_p47 : lw_okq (⟨"TalkStrainerModel", "addStep", "(II)V"⟩, 62) := ⟨⟨by decide +kernel, by decide +kernel⟩, List.mem_of_getElem? (i := 897) (by decide +kernel), List.mem_of_getElem? (i := 1208) (by decide +kernel), List.mem_of_getElem? (i := 1209) (by decide +kernel)⟩
def lw_privs_3 : List (MethodName × Nat) := [(⟨"TalkStrainerModel", "lays", "(III)V"⟩, 62), (⟨"TalkStrainerModel", "isOne", "(II)Z"⟩, 62), (⟨"TalkStrainerModel", "isWord", "(I)Z"⟩, 62), (⟨"TalkStrainerModel", "isMesh", "(I)Z"⟩, 62), (⟨"TalkStrainerModel", "changes", "(III)I"⟩, 62), (⟨"TalkStrainerModel", "valueAt", "(II)I"⟩, 62), (⟨"TalkStrainerModel", "readText", "(I)I"⟩, 62), (⟨"TalkStrainerModel", "line", "()V"⟩, 62), (⟨"TalkStrainerModel", "either", "()V"⟩, 62), (⟨"TalkStrainerModel", "both", "()V"⟩, 62), (⟨"TalkStrainerModel", "compared", "()V"⟩, 62), (⟨"TalkStrainerModel", "sum", "()V"⟩, 62), (⟨"TalkStrainerModel", "product", "()V"⟩, 62), (⟨"TalkStrainerModel", "operand", "()V"⟩, 62), (⟨"TalkStrainerModel", "look", "()I"⟩, 62), (⟨"TalkStrainerModel", "addStep", "(II)V"⟩, 62)]
theorem lw_r3 : ∀ q ∈ lw_privs_3, lw_okq q := List.forall_mem_cons.mpr ⟨lw_p32, List.forall_mem_cons.mpr ⟨lw_p33, List.forall_mem_cons.mpr ⟨lw_p34, List.forall_mem_cons.mpr ⟨lw_p35, List.forall_mem_cons.mpr ⟨lw_p36, List.forall_mem_cons.mpr ⟨lw_p37, List.forall_mem_cons.mpr ⟨lw_p38, List.forall_mem_cons.mpr ⟨lw_p39, List.forall_mem_cons.mpr ⟨lw_p40, List.forall_mem_cons.mpr ⟨lw_p41, List.forall_mem_cons.mpr ⟨lw_p42, List.forall_mem_cons.mpr ⟨lw_p43, List.forall_mem_cons.mpr ⟨lw_p44, List.forall_mem_cons.mpr ⟨lw_p45, List.forall_mem_cons.mpr ⟨lw_p46, List.forall_mem_cons.mpr ⟨lw_p47, fun _ h => absurd h List.not_mem_nil⟩⟩⟩⟩⟩⟩⟩⟩⟩⟩⟩⟩⟩⟩⟩⟩
theorem lw_p48 : lw_okq (⟨"TalkStrainerModel", "opens", "()Z"⟩, 62) := ⟨⟨by decide +kernel, by decide +kernel⟩, List.mem_of_getElem? (i := 897) (by decide +kernel), List.mem_of_getElem? (i := 1212) (by decide +kernel), List.mem_of_getElem? (i := 1213) (by decide +kernel)⟩
theorem lw_p49 : lw_okq (⟨"TalkStrainerModel", "wrong", "()V"⟩, 62) := ⟨⟨by decide +kernel, by decide +kernel⟩, List.mem_of_getElem? (i := 897) (by decide +kernel), List.mem_of_getElem? (i := 1216) (by decide +kernel), List.mem_of_getElem? (i := 1217) (by decide +kernel)⟩
theorem lw_p50 : lw_okq (⟨"TalkStrainerModel", "figure", "()V"⟩, 62) := ⟨⟨by decide +kernel, by decide +kernel⟩, List.mem_of_getElem? (i := 897) (by decide +kernel), List.mem_of_getElem? (i := 1220) (by decide +kernel), List.mem_of_getElem? (i := 1221) (by decide +kernel)⟩
theorem lw_p51 : lw_okq (⟨"TalkStrainerModel", "passes", "(IIII)Z"⟩, 62) := ⟨⟨by decide +kernel, by decide +kernel⟩, List.mem_of_getElem? (i := 897) (by decide +kernel), List.mem_of_getElem? (i := 1228) (by decide +kernel), List.mem_of_getElem? (i := 1229) (by decide +kernel)⟩
theorem lw_p52 : lw_okq (⟨"TalkStrainerModel", "passesBy", "(IIII)Z"⟩, 62) := ⟨⟨by decide +kernel, by decide +kernel⟩, List.mem_of_getElem? (i := 897) (by decide +kernel), List.mem_of_getElem? (i := 1232) (by decide +kernel), List.mem_of_getElem? (i := 1233) (by decide +kernel)⟩
theorem lw_p53 : lw_okq (⟨"TalkStrainerModel", "gives", "(I)I"⟩, 62) := ⟨⟨by decide +kernel, by decide +kernel⟩, List.mem_of_getElem? (i := 897) (by decide +kernel), List.mem_of_getElem? (i := 1236) (by decide +kernel), List.mem_of_getElem? (i := 1237) (by decide +kernel)⟩
theorem lw_p54 : lw_okq (⟨"TalkStrainerModel", "worked", "(III)I"⟩, 62) := ⟨⟨by decide +kernel, by decide +kernel⟩, List.mem_of_getElem? (i := 897) (by decide +kernel), List.mem_of_getElem? (i := 1240) (by decide +kernel), List.mem_of_getElem? (i := 1241) (by decide +kernel)⟩
theorem lw_p55 : lw_okq (⟨"TalkStrainerModel", "isMeshOrNone", "(I)Z"⟩, 62) := ⟨⟨by decide +kernel, by decide +kernel⟩, List.mem_of_getElem? (i := 897) (by decide +kernel), List.mem_of_getElem? (i := 1251) (by decide +kernel), List.mem_of_getElem? (i := 1252) (by decide +kernel)⟩
theorem lw_p56 : lw_okq (⟨"TalkStrainerModel", "rowFault", "(I)I"⟩, 62) := ⟨⟨by decide +kernel, by decide +kernel⟩, List.mem_of_getElem? (i := 897) (by decide +kernel), List.mem_of_getElem? (i := 1255) (by decide +kernel), List.mem_of_getElem? (i := 1256) (by decide +kernel)⟩
theorem lw_p57 : lw_okq (⟨"TalkStrainerModel", "laySaying", "(I)V"⟩, 62) := ⟨⟨by decide +kernel, by decide +kernel⟩, List.mem_of_getElem? (i := 897) (by decide +kernel), List.mem_of_getElem? (i := 1259) (by decide +kernel), List.mem_of_getElem? (i := 1260) (by decide +kernel)⟩
theorem lw_p58 : lw_okq (⟨"TalkStrainerModel", "at", "(II)I"⟩, 62) := ⟨⟨by decide +kernel, by decide +kernel⟩, List.mem_of_getElem? (i := 897) (by decide +kernel), List.mem_of_getElem? (i := 1263) (by decide +kernel), List.mem_of_getElem? (i := 1264) (by decide +kernel)⟩
theorem lw_p59 : lw_okq (⟨"TalkStrainerModel", "goThrough", "(II)V"⟩, 62) := ⟨⟨by decide +kernel, by decide +kernel⟩, List.mem_of_getElem? (i := 897) (by decide +kernel), List.mem_of_getElem? (i := 1267) (by decide +kernel), List.mem_of_getElem? (i := 1268) (by decide +kernel)⟩
theorem lw_p60 : lw_okq (⟨"TalkStrainerModel", "makesSense", "()Z"⟩, 62) := ⟨⟨by decide +kernel, by decide +kernel⟩, List.mem_of_getElem? (i := 897) (by decide +kernel), List.mem_of_getElem? (i := 1271) (by decide +kernel), List.mem_of_getElem? (i := 1272) (by decide +kernel)⟩
theorem lw_p61 : lw_okq (⟨"TalkStrainerModel", "hurtBy", "(Z)I"⟩, 62) := ⟨⟨by decide +kernel, by decide +kernel⟩, List.mem_of_getElem? (i := 897) (by decide +kernel), List.mem_of_getElem? (i := 1275) (by decide +kernel), List.mem_of_getElem? (i := 1276) (by decide +kernel)⟩
theorem lw_p62 : lw_okq (⟨"TalkStrainerModel", "harmLeft", "()I"⟩, 62) := ⟨⟨by decide +kernel, by decide +kernel⟩, List.mem_of_getElem? (i := 897) (by decide +kernel), List.mem_of_getElem? (i := 1279) (by decide +kernel), List.mem_of_getElem? (i := 1280) (by decide +kernel)⟩
theorem lw_p63 : lw_okq (⟨"TalkStrainerModel", "bothFault", "(I)I"⟩, 62) := ⟨⟨by decide +kernel, by decide +kernel⟩, List.mem_of_getElem? (i := 897) (by decide +kernel), List.mem_of_getElem? (i := 1294) (by decide +kernel), List.mem_of_getElem? (i := 1295) (by decide +kernel)⟩
def lw_privs_4 : List (MethodName × Nat) := [(⟨"TalkStrainerModel", "opens", "()Z"⟩, 62), (⟨"TalkStrainerModel", "wrong", "()V"⟩, 62), (⟨"TalkStrainerModel", "figure", "()V"⟩, 62), (⟨"TalkStrainerModel", "passes", "(IIII)Z"⟩, 62), (⟨"TalkStrainerModel", "passesBy", "(IIII)Z"⟩, 62), (⟨"TalkStrainerModel", "gives", "(I)I"⟩, 62), (⟨"TalkStrainerModel", "worked", "(III)I"⟩, 62), (⟨"TalkStrainerModel", "isMeshOrNone", "(I)Z"⟩, 62), (⟨"TalkStrainerModel", "rowFault", "(I)I"⟩, 62), (⟨"TalkStrainerModel", "laySaying", "(I)V"⟩, 62), (⟨"TalkStrainerModel", "at", "(II)I"⟩, 62), (⟨"TalkStrainerModel", "goThrough", "(II)V"⟩, 62), (⟨"TalkStrainerModel", "makesSense", "()Z"⟩, 62), (⟨"TalkStrainerModel", "hurtBy", "(Z)I"⟩, 62), (⟨"TalkStrainerModel", "harmLeft", "()I"⟩, 62), (⟨"TalkStrainerModel", "bothFault", "(I)I"⟩, 62)]
theorem lw_r4 : ∀ q ∈ lw_privs_4, lw_okq q := List.forall_mem_cons.mpr ⟨lw_p48, List.forall_mem_cons.mpr ⟨lw_p49, List.forall_mem_cons.mpr ⟨lw_p50, List.forall_mem_cons.mpr ⟨lw_p51, List.forall_mem_cons.mpr ⟨lw_p52, List.forall_mem_cons.mpr ⟨lw_p53, List.forall_mem_cons.mpr ⟨lw_p54, List.forall_mem_cons.mpr ⟨lw_p55, List.forall_mem_cons.mpr ⟨lw_p56, List.forall_mem_cons.mpr ⟨lw_p57, List.forall_mem_cons.mpr ⟨lw_p58, List.forall_mem_cons.mpr ⟨lw_p59, List.forall_mem_cons.mpr ⟨lw_p60, List.forall_mem_cons.mpr ⟨lw_p61, List.forall_mem_cons.mpr ⟨lw_p62, List.forall_mem_cons.mpr ⟨lw_p63, fun _ h => absurd h List.not_mem_nil⟩⟩⟩⟩⟩⟩⟩⟩⟩⟩⟩⟩⟩⟩⟩⟩
theorem lw_p64 : lw_okq (⟨"TalkStrainerModel", "layRow", "(I)V"⟩, 62) := ⟨⟨by decide +kernel, by decide +kernel⟩, List.mem_of_getElem? (i := 897) (by decide +kernel), List.mem_of_getElem? (i := 1302) (by decide +kernel), List.mem_of_getElem? (i := 1303) (by decide +kernel)⟩
theorem lw_p65 : lw_okq (⟨"TalkStrainerModel", "findSay", "(II)Z"⟩, 62) := ⟨⟨by decide +kernel, by decide +kernel⟩, List.mem_of_getElem? (i := 897) (by decide +kernel), List.mem_of_getElem? (i := 1306) (by decide +kernel), List.mem_of_getElem? (i := 1307) (by decide +kernel)⟩
theorem lw_p66 : lw_okq (⟨"TalkStrainerModel", "maySay", "(IIII)Z"⟩, 62) := ⟨⟨by decide +kernel, by decide +kernel⟩, List.mem_of_getElem? (i := 897) (by decide +kernel), List.mem_of_getElem? (i := 1310) (by decide +kernel), List.mem_of_getElem? (i := 1311) (by decide +kernel)⟩
theorem lw_p67 : lw_okq (⟨"TalkStrainerModel", "saysAt", "(II)I"⟩, 62) := ⟨⟨by decide +kernel, by decide +kernel⟩, List.mem_of_getElem? (i := 897) (by decide +kernel), List.mem_of_getElem? (i := 1314) (by decide +kernel), List.mem_of_getElem? (i := 1315) (by decide +kernel)⟩
theorem lw_p68 : lw_okq (⟨"TalkStrainerModel", "allPass", "(I)Z"⟩, 62) := ⟨⟨by decide +kernel, by decide +kernel⟩, List.mem_of_getElem? (i := 897) (by decide +kernel), List.mem_of_getElem? (i := 1322) (by decide +kernel), List.mem_of_getElem? (i := 1323) (by decide +kernel)⟩
theorem lw_p69 : lw_okq (⟨"TalkStrainerModel", "keepsBy", "(II)Z"⟩, 62) := ⟨⟨by decide +kernel, by decide +kernel⟩, List.mem_of_getElem? (i := 897) (by decide +kernel), List.mem_of_getElem? (i := 1330) (by decide +kernel), List.mem_of_getElem? (i := 1331) (by decide +kernel)⟩
theorem lw_p70 : lw_okq (⟨"TalkStrainerModel", "laySet", "(I)V"⟩, 62) := ⟨⟨by decide +kernel, by decide +kernel⟩, List.mem_of_getElem? (i := 897) (by decide +kernel), List.mem_of_getElem? (i := 1345) (by decide +kernel), List.mem_of_getElem? (i := 1346) (by decide +kernel)⟩
theorem lw_p71 : lw_okq (⟨"TalkStrainerModel", "layBoth", "(I)V"⟩, 62) := ⟨⟨by decide +kernel, by decide +kernel⟩, List.mem_of_getElem? (i := 897) (by decide +kernel), List.mem_of_getElem? (i := 1354) (by decide +kernel), List.mem_of_getElem? (i := 1355) (by decide +kernel)⟩
theorem lw_p72 : lw_okq (⟨"TalkStrainerModel", "isMuch", "()Z"⟩, 62) := ⟨⟨by decide +kernel, by decide +kernel⟩, List.mem_of_getElem? (i := 897) (by decide +kernel), List.mem_of_getElem? (i := 1358) (by decide +kernel), List.mem_of_getElem? (i := 1359) (by decide +kernel)⟩
theorem lw_p73 : lw_okq (⟨"TalkStrainerModel", "findSaid", "(I)V"⟩, 62) := ⟨⟨by decide +kernel, by decide +kernel⟩, List.mem_of_getElem? (i := 897) (by decide +kernel), List.mem_of_getElem? (i := 1362) (by decide +kernel), List.mem_of_getElem? (i := 1363) (by decide +kernel)⟩
theorem lw_p74 : lw_okq (⟨"TalkStrainerModel", "comes", "(III)Z"⟩, 62) := ⟨⟨by decide +kernel, by decide +kernel⟩, List.mem_of_getElem? (i := 897) (by decide +kernel), List.mem_of_getElem? (i := 1366) (by decide +kernel), List.mem_of_getElem? (i := 1367) (by decide +kernel)⟩
theorem lw_p75 : lw_okq (⟨"TalkStrainerModel", "wayAt", "(II)J"⟩, 62) := ⟨⟨by decide +kernel, by decide +kernel⟩, List.mem_of_getElem? (i := 897) (by decide +kernel), List.mem_of_getElem? (i := 1370) (by decide +kernel), List.mem_of_getElem? (i := 1371) (by decide +kernel)⟩
theorem lw_p76 : lw_okq (⟨"TalkStrainerModel", "stays", "(III)Z"⟩, 62) := ⟨⟨by decide +kernel, by decide +kernel⟩, List.mem_of_getElem? (i := 897) (by decide +kernel), List.mem_of_getElem? (i := 1374) (by decide +kernel), List.mem_of_getElem? (i := 1375) (by decide +kernel)⟩
theorem lw_p77 : lw_okq (⟨"TalkStrainerModel", "leftAt", "(III)I"⟩, 62) := ⟨⟨by decide +kernel, by decide +kernel⟩, List.mem_of_getElem? (i := 897) (by decide +kernel), List.mem_of_getElem? (i := 1386) (by decide +kernel), List.mem_of_getElem? (i := 1387) (by decide +kernel)⟩
theorem lw_p78 : lw_okq (⟨"TalkStrainerModel", "goFine", "(I)V"⟩, 62) := ⟨⟨by decide +kernel, by decide +kernel⟩, List.mem_of_getElem? (i := 897) (by decide +kernel), List.mem_of_getElem? (i := 1394) (by decide +kernel), List.mem_of_getElem? (i := 1395) (by decide +kernel)⟩
theorem lw_p79 : lw_okq (⟨"TalkStrainerModel", "justComes", "()Z"⟩, 62) := ⟨⟨by decide +kernel, by decide +kernel⟩, List.mem_of_getElem? (i := 897) (by decide +kernel), List.mem_of_getElem? (i := 1398) (by decide +kernel), List.mem_of_getElem? (i := 1399) (by decide +kernel)⟩
def lw_privs_5 : List (MethodName × Nat) := [(⟨"TalkStrainerModel", "layRow", "(I)V"⟩, 62), (⟨"TalkStrainerModel", "findSay", "(II)Z"⟩, 62), (⟨"TalkStrainerModel", "maySay", "(IIII)Z"⟩, 62), (⟨"TalkStrainerModel", "saysAt", "(II)I"⟩, 62), (⟨"TalkStrainerModel", "allPass", "(I)Z"⟩, 62), (⟨"TalkStrainerModel", "keepsBy", "(II)Z"⟩, 62), (⟨"TalkStrainerModel", "laySet", "(I)V"⟩, 62), (⟨"TalkStrainerModel", "layBoth", "(I)V"⟩, 62), (⟨"TalkStrainerModel", "isMuch", "()Z"⟩, 62), (⟨"TalkStrainerModel", "findSaid", "(I)V"⟩, 62), (⟨"TalkStrainerModel", "comes", "(III)Z"⟩, 62), (⟨"TalkStrainerModel", "wayAt", "(II)J"⟩, 62), (⟨"TalkStrainerModel", "stays", "(III)Z"⟩, 62), (⟨"TalkStrainerModel", "leftAt", "(III)I"⟩, 62), (⟨"TalkStrainerModel", "goFine", "(I)V"⟩, 62), (⟨"TalkStrainerModel", "justComes", "()Z"⟩, 62)]
theorem lw_r5 : ∀ q ∈ lw_privs_5, lw_okq q := List.forall_mem_cons.mpr ⟨lw_p64, List.forall_mem_cons.mpr ⟨lw_p65, List.forall_mem_cons.mpr ⟨lw_p66, List.forall_mem_cons.mpr ⟨lw_p67, List.forall_mem_cons.mpr ⟨lw_p68, List.forall_mem_cons.mpr ⟨lw_p69, List.forall_mem_cons.mpr ⟨lw_p70, List.forall_mem_cons.mpr ⟨lw_p71, List.forall_mem_cons.mpr ⟨lw_p72, List.forall_mem_cons.mpr ⟨lw_p73, List.forall_mem_cons.mpr ⟨lw_p74, List.forall_mem_cons.mpr ⟨lw_p75, List.forall_mem_cons.mpr ⟨lw_p76, List.forall_mem_cons.mpr ⟨lw_p77, List.forall_mem_cons.mpr ⟨lw_p78, List.forall_mem_cons.mpr ⟨lw_p79, fun _ h => absurd h List.not_mem_nil⟩⟩⟩⟩⟩⟩⟩⟩⟩⟩⟩⟩⟩⟩⟩⟩
theorem lw_p80 : lw_okq (⟨"TalkStrainerModel", "changesNothing", "(III)Z"⟩, 62) := ⟨⟨by decide +kernel, by decide +kernel⟩, List.mem_of_getElem? (i := 897) (by decide +kernel), List.mem_of_getElem? (i := 1406) (by decide +kernel), List.mem_of_getElem? (i := 1407) (by decide +kernel)⟩
theorem lw_p81 : lw_okq (⟨"TalkStrainerModel", "harmOf", "(I)I"⟩, 62) := ⟨⟨by decide +kernel, by decide +kernel⟩, List.mem_of_getElem? (i := 897) (by decide +kernel), List.mem_of_getElem? (i := 1414) (by decide +kernel), List.mem_of_getElem? (i := 1415) (by decide +kernel)⟩
theorem lw_p82 : lw_okq (⟨"TalkStrainerModel", "comesOf", "(I)Z"⟩, 62) := ⟨⟨by decide +kernel, by decide +kernel⟩, List.mem_of_getElem? (i := 897) (by decide +kernel), List.mem_of_getElem? (i := 1418) (by decide +kernel), List.mem_of_getElem? (i := 1419) (by decide +kernel)⟩
theorem lw_p83 : lw_okq (⟨"TalkStrainerModel", "playedMany", "()I"⟩, 62) := ⟨⟨by decide +kernel, by decide +kernel⟩, List.mem_of_getElem? (i := 897) (by decide +kernel), List.mem_of_getElem? (i := 1433) (by decide +kernel), List.mem_of_getElem? (i := 1434) (by decide +kernel)⟩
theorem lw_p84 : lw_okq (⟨"TalkStrainerModel", "winningWord", "(II)I"⟩, 62) := ⟨⟨by decide +kernel, by decide +kernel⟩, List.mem_of_getElem? (i := 897) (by decide +kernel), List.mem_of_getElem? (i := 1437) (by decide +kernel), List.mem_of_getElem? (i := 1438) (by decide +kernel)⟩
theorem lw_p85 : lw_okq (⟨"TalkStrainerModel", "mayPlay", "(III)Z"⟩, 62) := ⟨⟨by decide +kernel, by decide +kernel⟩, List.mem_of_getElem? (i := 897) (by decide +kernel), List.mem_of_getElem? (i := 1441) (by decide +kernel), List.mem_of_getElem? (i := 1442) (by decide +kernel)⟩
theorem lw_p86 : lw_okq (⟨"TalkStrainerModel", "isBody", "(I)Z"⟩, 62) := ⟨⟨by decide +kernel, by decide +kernel⟩, List.mem_of_getElem? (i := 897) (by decide +kernel), List.mem_of_getElem? (i := 1482) (by decide +kernel), List.mem_of_getElem? (i := 1483) (by decide +kernel)⟩
theorem lw_p87 : lw_okq (⟨"TalkStrainerModel", "passing", "(II)I"⟩, 62) := ⟨⟨by decide +kernel, by decide +kernel⟩, List.mem_of_getElem? (i := 897) (by decide +kernel), List.mem_of_getElem? (i := 1486) (by decide +kernel), List.mem_of_getElem? (i := 1487) (by decide +kernel)⟩
theorem lw_p88 : lw_okq (⟨"TalkStrainerModel", "ran", "(I)V"⟩, 62) := ⟨⟨by decide +kernel, by decide +kernel⟩, List.mem_of_getElem? (i := 897) (by decide +kernel), List.mem_of_getElem? (i := 1493) (by decide +kernel), List.mem_of_getElem? (i := 1494) (by decide +kernel)⟩
theorem lw_p89 : lw_okq (⟨"TalkStrainerModel", "plainPasses", "(II)I"⟩, 62) := ⟨⟨by decide +kernel, by decide +kernel⟩, List.mem_of_getElem? (i := 897) (by decide +kernel), List.mem_of_getElem? (i := 1497) (by decide +kernel), List.mem_of_getElem? (i := 1498) (by decide +kernel)⟩
theorem lw_p90 : lw_okq (⟨"TalkStrainerModel", "maidPasses", "(II)I"⟩, 62) := ⟨⟨by decide +kernel, by decide +kernel⟩, List.mem_of_getElem? (i := 897) (by decide +kernel), List.mem_of_getElem? (i := 1501) (by decide +kernel), List.mem_of_getElem? (i := 1502) (by decide +kernel)⟩
theorem lw_p91 : lw_okq (⟨"TalkStrainerModel", "staying", "(II)I"⟩, 62) := ⟨⟨by decide +kernel, by decide +kernel⟩, List.mem_of_getElem? (i := 897) (by decide +kernel), List.mem_of_getElem? (i := 1505) (by decide +kernel), List.mem_of_getElem? (i := 1506) (by decide +kernel)⟩
theorem lw_p92 : lw_okq (⟨"TalkStrainerModel", "barbStays", "(II)I"⟩, 62) := ⟨⟨by decide +kernel, by decide +kernel⟩, List.mem_of_getElem? (i := 897) (by decide +kernel), List.mem_of_getElem? (i := 1509) (by decide +kernel), List.mem_of_getElem? (i := 1510) (by decide +kernel)⟩
theorem lw_p93 : lw_okq (⟨"TalkStrainerModel", "plainStays", "(II)I"⟩, 62) := ⟨⟨by decide +kernel, by decide +kernel⟩, List.mem_of_getElem? (i := 897) (by decide +kernel), List.mem_of_getElem? (i := 1513) (by decide +kernel), List.mem_of_getElem? (i := 1514) (by decide +kernel)⟩
theorem lw_p94 : lw_okq (⟨"TalkStrainerModel", "hurting", "(II)I"⟩, 62) := ⟨⟨by decide +kernel, by decide +kernel⟩, List.mem_of_getElem? (i := 897) (by decide +kernel), List.mem_of_getElem? (i := 1517) (by decide +kernel), List.mem_of_getElem? (i := 1518) (by decide +kernel)⟩
theorem lw_p95 : lw_okq (⟨"TalkStrainerModel", "complimentHurts", "(II)I"⟩, 62) := ⟨⟨by decide +kernel, by decide +kernel⟩, List.mem_of_getElem? (i := 897) (by decide +kernel), List.mem_of_getElem? (i := 1521) (by decide +kernel), List.mem_of_getElem? (i := 1522) (by decide +kernel)⟩
def lw_privs_6 : List (MethodName × Nat) := [(⟨"TalkStrainerModel", "changesNothing", "(III)Z"⟩, 62), (⟨"TalkStrainerModel", "harmOf", "(I)I"⟩, 62), (⟨"TalkStrainerModel", "comesOf", "(I)Z"⟩, 62), (⟨"TalkStrainerModel", "playedMany", "()I"⟩, 62), (⟨"TalkStrainerModel", "winningWord", "(II)I"⟩, 62), (⟨"TalkStrainerModel", "mayPlay", "(III)Z"⟩, 62), (⟨"TalkStrainerModel", "isBody", "(I)Z"⟩, 62), (⟨"TalkStrainerModel", "passing", "(II)I"⟩, 62), (⟨"TalkStrainerModel", "ran", "(I)V"⟩, 62), (⟨"TalkStrainerModel", "plainPasses", "(II)I"⟩, 62), (⟨"TalkStrainerModel", "maidPasses", "(II)I"⟩, 62), (⟨"TalkStrainerModel", "staying", "(II)I"⟩, 62), (⟨"TalkStrainerModel", "barbStays", "(II)I"⟩, 62), (⟨"TalkStrainerModel", "plainStays", "(II)I"⟩, 62), (⟨"TalkStrainerModel", "hurting", "(II)I"⟩, 62), (⟨"TalkStrainerModel", "complimentHurts", "(II)I"⟩, 62)]
theorem lw_r6 : ∀ q ∈ lw_privs_6, lw_okq q := List.forall_mem_cons.mpr ⟨lw_p80, List.forall_mem_cons.mpr ⟨lw_p81, List.forall_mem_cons.mpr ⟨lw_p82, List.forall_mem_cons.mpr ⟨lw_p83, List.forall_mem_cons.mpr ⟨lw_p84, List.forall_mem_cons.mpr ⟨lw_p85, List.forall_mem_cons.mpr ⟨lw_p86, List.forall_mem_cons.mpr ⟨lw_p87, List.forall_mem_cons.mpr ⟨lw_p88, List.forall_mem_cons.mpr ⟨lw_p89, List.forall_mem_cons.mpr ⟨lw_p90, List.forall_mem_cons.mpr ⟨lw_p91, List.forall_mem_cons.mpr ⟨lw_p92, List.forall_mem_cons.mpr ⟨lw_p93, List.forall_mem_cons.mpr ⟨lw_p94, List.forall_mem_cons.mpr ⟨lw_p95, fun _ h => absurd h List.not_mem_nil⟩⟩⟩⟩⟩⟩⟩⟩⟩⟩⟩⟩⟩⟩⟩⟩
theorem lw_p96 : lw_okq (⟨"TalkStrainerModel", "plainHurts", "(II)I"⟩, 62) := ⟨⟨by decide +kernel, by decide +kernel⟩, List.mem_of_getElem? (i := 897) (by decide +kernel), List.mem_of_getElem? (i := 1525) (by decide +kernel), List.mem_of_getElem? (i := 1526) (by decide +kernel)⟩
theorem lw_p97 : lw_okq (⟨"TalkStrainerModel", "telling", "(II)I"⟩, 62) := ⟨⟨by decide +kernel, by decide +kernel⟩, List.mem_of_getElem? (i := 897) (by decide +kernel), List.mem_of_getElem? (i := 1529) (by decide +kernel), List.mem_of_getElem? (i := 1530) (by decide +kernel)⟩
theorem lw_p98 : lw_okq (⟨"TalkStrainerModel", "plainTells", "(II)I"⟩, 62) := ⟨⟨by decide +kernel, by decide +kernel⟩, List.mem_of_getElem? (i := 897) (by decide +kernel), List.mem_of_getElem? (i := 1533) (by decide +kernel), List.mem_of_getElem? (i := 1534) (by decide +kernel)⟩
theorem lw_p99 : lw_okq (⟨"TalkStrainerModel", "whyNoPlace", "(II)I"⟩, 62) := ⟨⟨by decide +kernel, by decide +kernel⟩, List.mem_of_getElem? (i := 897) (by decide +kernel), List.mem_of_getElem? (i := 1553) (by decide +kernel), List.mem_of_getElem? (i := 1554) (by decide +kernel)⟩
def lw_privs_7 : List (MethodName × Nat) := [(⟨"TalkStrainerModel", "plainHurts", "(II)I"⟩, 62), (⟨"TalkStrainerModel", "telling", "(II)I"⟩, 62), (⟨"TalkStrainerModel", "plainTells", "(II)I"⟩, 62), (⟨"TalkStrainerModel", "whyNoPlace", "(II)I"⟩, 62)]
theorem lw_r7 : ∀ q ∈ lw_privs_7, lw_okq q := List.forall_mem_cons.mpr ⟨lw_p96, List.forall_mem_cons.mpr ⟨lw_p97, List.forall_mem_cons.mpr ⟨lw_p98, List.forall_mem_cons.mpr ⟨lw_p99, fun _ h => absurd h List.not_mem_nil⟩⟩⟩⟩
def lw_privs : List (MethodName × Nat) := lw_privs_1 ++ (lw_privs_2 ++ (lw_privs_3 ++ (lw_privs_4 ++ (lw_privs_5 ++ (lw_privs_6 ++ (lw_privs_7))))))
def lw_tbl : List Cond := k2_sels lw_privs ++ tables_1
theorem lw_privs_ok : ∀ q ∈ lw_privs, lw_okq q := by
  show ∀ q ∈ lw_privs_1 ++ (lw_privs_2 ++ (lw_privs_3 ++ (lw_privs_4 ++ (lw_privs_5 ++ (lw_privs_6 ++ (lw_privs_7)))))), lw_okq q
  exact List.forall_mem_append.mpr ⟨lw_r1, List.forall_mem_append.mpr ⟨lw_r2, List.forall_mem_append.mpr ⟨lw_r3, List.forall_mem_append.mpr ⟨lw_r4, List.forall_mem_append.mpr ⟨lw_r5, List.forall_mem_append.mpr ⟨lw_r6, lw_r7⟩⟩⟩⟩⟩⟩
def RX0 : String := "TalkStrainer$Changes"
def TX0 : u_T := fun k => match k with
  | 0 => ("TalkStrainer$Changes", "numbers", "[I", true)
  | 1 => ("TalkStrainer$Changes", "whats", "[I", true)
  | 2 => ("TalkStrainer$Changes", "before", "[I", true)
  | 3 => ("TalkStrainer$Changes", "after", "[I", true)
  | 4 => ("TalkStrainer$Changes", "done", "I", false)
  | _ => ("TalkStrainer$Changes", "undone", "I", false)
def tyX0 : Nat → FieldType := fun k => match k with
  | 0 => .array .int
  | 1 => .array .int
  | 2 => .array .int
  | 3 => .array .int
  | 4 => .int
  | _ => .int
abbrev wsX00 : List Cond := u_ws RX0 TX0 6
theorem nmX0 : ∀ a, a < 6 → ∀ b, b < 6 → a ≠ b → (TX0 a).2.1 ≠ (TX0 b).2.1 := by decide +kernel
theorem tyX0_ok : ∀ k, k < 6 → parseFieldDescriptor (TX0 k).2.2.1 = some (tyX0 k) := by decide +kernel
abbrev cX0_init : ByteArray := prog_2_method_1_code
def yX0_init : MethodName := ⟨RX0, "<init>", "()V"⟩
abbrev cX0_note : ByteArray := prog_2_method_2_code
def yX0_note : MethodName := ⟨RX0, "note", "(IIII)V"⟩
abbrev cX0_forgetOldest : ByteArray := prog_2_method_3_code
def yX0_forgetOldest : MethodName := ⟨RX0, "forgetOldest", "()V"⟩
abbrev cX0_stepBack : ByteArray := prog_2_method_4_code
def yX0_stepBack : MethodName := ⟨RX0, "stepBack", "(LTalkStrainer$Stock;)I"⟩
abbrev cX0_stepOn : ByteArray := prog_2_method_5_code
def yX0_stepOn : MethodName := ⟨RX0, "stepOn", "(LTalkStrainer$Stock;)I"⟩
def RX1 : String := "TalkStrainer$Deeds"
def TX1 : u_T := fun k => match k with
  | 0 => ("TalkStrainer$Deeds", "lying", "[I", true)
  | 1 => ("TalkStrainer$Deeds", "harm", "[I", true)
  | 2 => ("TalkStrainer$Deeds", "told", "[I", true)
  | 3 => ("TalkStrainer$Deeds", "imageLying", "[I", true)
  | 4 => ("TalkStrainer$Deeds", "imageHarm", "[I", true)
  | 5 => ("TalkStrainer$Deeds", "imageTold", "[I", true)
  | _ => ("TalkStrainer$Deeds", "hasImage", "Z", false)
def tyX1 : Nat → FieldType := fun k => match k with
  | 0 => .array .int
  | 1 => .array .int
  | 2 => .array .int
  | 3 => .array .int
  | 4 => .array .int
  | 5 => .array .int
  | _ => .boolean
abbrev wsX10 : List Cond := u_ws RX1 TX1 7
theorem nmX1 : ∀ a, a < 7 → ∀ b, b < 7 → a ≠ b → (TX1 a).2.1 ≠ (TX1 b).2.1 := by decide +kernel
theorem tyX1_ok : ∀ k, k < 7 → parseFieldDescriptor (TX1 k).2.2.1 = some (tyX1 k) := by decide +kernel
abbrev cX1_init : ByteArray := prog_3_method_1_code
def yX1_init : MethodName := ⟨RX1, "<init>", "()V"⟩
abbrev cX1_lyingIn : ByteArray := prog_3_method_2_code
def yX1_lyingIn : MethodName := ⟨RX1, "lyingIn", "(I)I"⟩
abbrev cX1_harmIn : ByteArray := prog_3_method_3_code
def yX1_harmIn : MethodName := ⟨RX1, "harmIn", "(I)I"⟩
abbrev cX1_ledOf : ByteArray := prog_3_method_4_code
def yX1_ledOf : MethodName := ⟨RX1, "ledOf", "(I)I"⟩
abbrev cX1_noteSaying : ByteArray := prog_3_method_5_code
def yX1_noteSaying : MethodName := ⟨RX1, "noteSaying", "(IIIII)V"⟩
abbrev cX1_rinseOut : ByteArray := prog_3_method_6_code
def yX1_rinseOut : MethodName := ⟨RX1, "rinseOut", "(I)I"⟩
abbrev cX1_keepImage : ByteArray := prog_3_method_7_code
def yX1_keepImage : MethodName := ⟨RX1, "keepImage", "()I"⟩
abbrev cX1_layBack : ByteArray := prog_3_method_8_code
def yX1_layBack : MethodName := ⟨RX1, "layBack", "()I"⟩
def RX2 : String := "TalkStrainer$Law"
def TX2 : u_T := fun k => match k with
  | 0 => ("TalkStrainer$Law", "tape", "[I", true)
  | 1 => ("TalkStrainer$Law", "draft", "[I", true)
  | 2 => ("TalkStrainer$Law", "steps", "[I", true)
  | 3 => ("TalkStrainer$Law", "stack", "[I", true)
  | 4 => ("TalkStrainer$Law", "names", "[I", true)
  | 5 => ("TalkStrainer$Law", "fed", "I", false)
  | 6 => ("TalkStrainer$Law", "drafted", "I", false)
  | 7 => ("TalkStrainer$Law", "stepCount", "I", false)
  | 8 => ("TalkStrainer$Law", "at", "I", false)
  | _ => ("TalkStrainer$Law", "faulty", "Z", false)
def tyX2 : Nat → FieldType := fun k => match k with
  | 0 => .array .int
  | 1 => .array .int
  | 2 => .array .int
  | 3 => .array .int
  | 4 => .array .int
  | 5 => .int
  | 6 => .int
  | 7 => .int
  | 8 => .int
  | _ => .boolean
abbrev wsX20 : List Cond := u_ws RX2 TX2 10
theorem nmX2 : ∀ a, a < 10 → ∀ b, b < 10 → a ≠ b → (TX2 a).2.1 ≠ (TX2 b).2.1 := by decide +kernel
theorem tyX2_ok : ∀ k, k < 10 → parseFieldDescriptor (TX2 k).2.2.1 = some (tyX2 k) := by decide +kernel
abbrev cX2_init : ByteArray := prog_4_method_1_code
def yX2_init : MethodName := ⟨RX2, "<init>", "()V"⟩
abbrev cX2_take : ByteArray := prog_4_method_2_code
def yX2_take : MethodName := ⟨RX2, "take", "(I)I"⟩
abbrev cX2_becomeTape : ByteArray := prog_4_method_3_code
def yX2_becomeTape : MethodName := ⟨RX2, "becomeTape", "()I"⟩
abbrev cX2_readLines : ByteArray := prog_4_method_4_code
def yX2_readLines : MethodName := ⟨RX2, "readLines", "()V"⟩
abbrev cX2_readLine : ByteArray := prog_4_method_5_code
def yX2_readLine : MethodName := ⟨RX2, "readLine", "()V"⟩
abbrev cX2_readLevel : ByteArray := prog_4_method_6_code
def yX2_readLevel : MethodName := ⟨RX2, "readLevel", "(II)V"⟩
abbrev cX2_readOperand : ByteArray := prog_4_method_7_code
def yX2_readOperand : MethodName := ⟨RX2, "readOperand", "(I)V"⟩
abbrev cX2_closeBracket : ByteArray := prog_4_method_8_code
def yX2_closeBracket : MethodName := ⟨RX2, "closeBracket", "()V"⟩
abbrev cX2_readNumber : ByteArray := prog_4_method_9_code
def yX2_readNumber : MethodName := ⟨RX2, "readNumber", "()V"⟩
abbrev cX2_nextByte : ByteArray := prog_4_method_10_code
def yX2_nextByte : MethodName := ⟨RX2, "nextByte", "()I"⟩
abbrev cX2_addStep : ByteArray := prog_4_method_11_code
def yX2_addStep : MethodName := ⟨RX2, "addStep", "(I)V"⟩
abbrev cX2_isDigit : ByteArray := prog_4_method_12_code
def yX2_isDigit : MethodName := ⟨RX2, "isDigit", "(I)Z"⟩
abbrev cX2_levelOf : ByteArray := prog_4_method_13_code
def yX2_levelOf : MethodName := ⟨RX2, "levelOf", "(I)I"⟩
abbrev cX2_nameOf : ByteArray := prog_4_method_14_code
def yX2_nameOf : MethodName := ⟨RX2, "nameOf", "(I)I"⟩
abbrev cX2_isTold : ByteArray := prog_4_method_15_code
def yX2_isTold : MethodName := ⟨RX2, "isTold", "()Z"⟩
abbrev cX2_worth : ByteArray := prog_4_method_16_code
def yX2_worth : MethodName := ⟨RX2, "worth", "(IIIIII)I"⟩
abbrev cX2_joined : ByteArray := prog_4_method_17_code
def yX2_joined : MethodName := ⟨RX2, "joined", "(III)I"⟩
def RX3 : String := "TalkStrainer$Leaves"
def TX3 : u_T := fun k => match k with
  | 0 => ("TalkStrainer$Leaves", "kinds", "[I", true)
  | 1 => ("TalkStrainer$Leaves", "traced", "[I", true)
  | 2 => ("TalkStrainer$Leaves", "bodies", "I", false)
  | 3 => ("TalkStrainer$Leaves", "ran", "I", false)
  | 4 => ("TalkStrainer$Leaves", "number", "I", false)
  | _ => ("TalkStrainer$Leaves", "kind", "I", false)
def tyX3 : Nat → FieldType := fun k => match k with
  | 0 => .array .int
  | 1 => .array .int
  | 2 => .int
  | 3 => .int
  | 4 => .int
  | _ => .int
abbrev wsX30 : List Cond := u_ws RX3 TX3 6
theorem nmX3 : ∀ a, a < 6 → ∀ b, b < 6 → a ≠ b → (TX3 a).2.1 ≠ (TX3 b).2.1 := by decide +kernel
theorem tyX3_ok : ∀ k, k < 6 → parseFieldDescriptor (TX3 k).2.2.1 = some (tyX3 k) := by decide +kernel
abbrev cX3_init : ByteArray := prog_5_method_1_code
def yX3_init : MethodName := ⟨RX3, "<init>", "()V"⟩
abbrev cX3_keepBody : ByteArray := prog_5_method_2_code
def yX3_keepBody : MethodName := ⟨RX3, "keepBody", "(I)I"⟩
abbrev cX3_kindOf : ByteArray := prog_5_method_3_code
def yX3_kindOf : MethodName := ⟨RX3, "kindOf", "(I)I"⟩
abbrev cX3_isUnder : ByteArray := prog_5_method_4_code
def yX3_isUnder : MethodName := ⟨RX3, "isUnder", "(II)Z"⟩
abbrev cX3_traceAt : ByteArray := prog_5_method_5_code
def yX3_traceAt : MethodName := ⟨RX3, "traceAt", "(I)I"⟩
abbrev cX3_actOf : ByteArray := prog_5_method_6_code
def yX3_actOf : MethodName := ⟨RX3, "actOf", "(III)I"⟩
abbrev cX3_bodyFrom : ByteArray := prog_5_method_7_code
def yX3_bodyFrom : MethodName := ⟨RX3, "bodyFrom", "(II)I"⟩
abbrev cX3_noteBody : ByteArray := prog_5_method_8_code
def yX3_noteBody : MethodName := ⟨RX3, "noteBody", "(I)V"⟩
abbrev cX3_run : ByteArray := prog_5_method_9_code
def yX3_run : MethodName := ⟨RX3, "run", "(IIII)I"⟩
abbrev cX3_answerOf : ByteArray := prog_5_method_10_code
def yX3_answerOf : MethodName := ⟨RX3, "answerOf", "(III)I"⟩
def RX4 : String := "TalkStrainer$Search"
def TX4 : u_T := fun k => match k with
  | 0 => ("TalkStrainer$Search", "stock", "LTalkStrainer$Stock;", true)
  | 1 => ("TalkStrainer$Search", "sieve", "LTalkStrainer$Sieve;", true)
  | 2 => ("TalkStrainer$Search", "found", "[I", true)
  | 3 => ("TalkStrainer$Search", "trial", "[I", true)
  | 4 => ("TalkStrainer$Search", "before", "[I", true)
  | 5 => ("TalkStrainer$Search", "needed", "[[I", true)
  | 6 => ("TalkStrainer$Search", "ways", "[[J", true)
  | 7 => ("TalkStrainer$Search", "passing", "[I", true)
  | _ => ("TalkStrainer$Search", "wins", "[Z", true)
def tyX4 : Nat → FieldType := fun k => match k with
  | 0 => .object "TalkStrainer$Stock"
  | 1 => .object "TalkStrainer$Sieve"
  | 2 => .array .int
  | 3 => .array .int
  | 4 => .array .int
  | 5 => .array (.array .int)
  | 6 => .array (.array .long)
  | 7 => .array .int
  | _ => .array .boolean
abbrev wsX40 : List Cond := u_ws RX4 TX4 9
theorem nmX4 : ∀ a, a < 9 → ∀ b, b < 9 → a ≠ b → (TX4 a).2.1 ≠ (TX4 b).2.1 := by decide +kernel
theorem tyX4_ok : ∀ k, k < 9 → parseFieldDescriptor (TX4 k).2.2.1 = some (tyX4 k) := by decide +kernel
abbrev cX4_init : ByteArray := prog_6_method_1_code
def yX4_init : MethodName := ⟨RX4, "<init>", "(LTalkStrainer$Stock;LTalkStrainer$Sieve;)V"⟩
abbrev cX4_foundAt : ByteArray := prog_6_method_2_code
def yX4_foundAt : MethodName := ⟨RX4, "foundAt", "(I)I"⟩
abbrev cX4_shortestSaying : ByteArray := prog_6_method_3_code
def yX4_shortestSaying : MethodName := ⟨RX4, "shortestSaying", "([III)I"⟩
abbrev cX4_neededFrom : ByteArray := prog_6_method_4_code
def yX4_neededFrom : MethodName := ⟨RX4, "neededFrom", "(II[III)I"⟩
abbrev cX4_firstStep : ByteArray := prog_6_method_5_code
def yX4_firstStep : MethodName := ⟨RX4, "firstStep", "(II[III)I"⟩
abbrev cX4_neededWith : ByteArray := prog_6_method_6_code
def yX4_neededWith : MethodName := ⟨RX4, "neededWith", "(III[III)I"⟩
abbrev cX4_greatestHarmlessSet : ByteArray := prog_6_method_7_code
def yX4_greatestHarmlessSet : MethodName := ⟨RX4, "greatestHarmlessSet", "()I"⟩
abbrev cX4_mergings : ByteArray := prog_6_method_8_code
def yX4_mergings : MethodName := ⟨RX4, "mergings", "([II[III)J"⟩
abbrev cX4_firstMerging : ByteArray := prog_6_method_9_code
def yX4_firstMerging : MethodName := ⟨RX4, "firstMerging", "([II[III)V"⟩
abbrev cX4_sayingsWithLeft : ByteArray := prog_6_method_10_code
def yX4_sayingsWithLeft : MethodName := ⟨RX4, "sayingsWithLeft", "([IIII)J"⟩
abbrev cX4_wordsLeftAt : ByteArray := prog_6_method_11_code
def yX4_wordsLeftAt : MethodName := ⟨RX4, "wordsLeftAt", "(III)I"⟩
abbrev cX4_unheardBehind : ByteArray := prog_6_method_12_code
def yX4_unheardBehind : MethodName := ⟨RX4, "unheardBehind", "([IIII)I"⟩
abbrev cX4_winningWord : ByteArray := prog_6_method_13_code
def yX4_winningWord : MethodName := ⟨RX4, "winningWord", "(I)I"⟩
abbrev cX4_winningFrom : ByteArray := prog_6_method_14_code
def yX4_winningFrom : MethodName := ⟨RX4, "winningFrom", "(II)I"⟩
abbrev cX4_drawnEvenings : ByteArray := prog_6_method_15_code
def yX4_drawnEvenings : MethodName := ⟨RX4, "drawnEvenings", "(IIIIZ)I"⟩
def RX5 : String := "TalkStrainer$Shelves"
def TX5 : u_T := fun k => match k with
  | 0 => ("TalkStrainer$Shelves", "holds", "[I", true)
  | 1 => ("TalkStrainer$Shelves", "body", "[I", true)
  | 2 => ("TalkStrainer$Shelves", "length", "[I", true)
  | _ => ("TalkStrainer$Shelves", "rows", "[[J", true)
def tyX5 : Nat → FieldType := fun k => match k with
  | 0 => .array .int
  | 1 => .array .int
  | 2 => .array .int
  | _ => .array (.array .long)
abbrev wsX50 : List Cond := u_ws RX5 TX5 4
theorem nmX5 : ∀ a, a < 4 → ∀ b, b < 4 → a ≠ b → (TX5 a).2.1 ≠ (TX5 b).2.1 := by decide +kernel
theorem tyX5_ok : ∀ k, k < 4 → parseFieldDescriptor (TX5 k).2.2.1 = some (tyX5 k) := by decide +kernel
abbrev cX5_init : ByteArray := prog_7_method_1_code
def yX5_init : MethodName := ⟨RX5, "<init>", "()V"⟩
abbrev cX5_heldOn : ByteArray := prog_7_method_2_code
def yX5_heldOn : MethodName := ⟨RX5, "heldOn", "(I)I"⟩
abbrev cX5_isEmpty : ByteArray := prog_7_method_3_code
def yX5_isEmpty : MethodName := ⟨RX5, "isEmpty", "(I)Z"⟩
abbrev cX5_isRow : ByteArray := prog_7_method_4_code
def yX5_isRow : MethodName := ⟨RX5, "isRow", "(I)Z"⟩
abbrev cX5_isAlike : ByteArray := prog_7_method_5_code
def yX5_isAlike : MethodName := ⟨RX5, "isAlike", "(II)Z"⟩
abbrev cX5_bytesRefusal : ByteArray := prog_7_method_6_code
def yX5_bytesRefusal : MethodName := ⟨RX5, "bytesRefusal", "(I)I"⟩
abbrev cX5_lengthOf : ByteArray := prog_7_method_7_code
def yX5_lengthOf : MethodName := ⟨RX5, "lengthOf", "(I)I"⟩
abbrev cX5_bodyOn : ByteArray := prog_7_method_8_code
def yX5_bodyOn : MethodName := ⟨RX5, "bodyOn", "(I)I"⟩
abbrev cX5_hasRange : ByteArray := prog_7_method_9_code
def yX5_hasRange : MethodName := ⟨RX5, "hasRange", "(III)Z"⟩
abbrev cX5_hold : ByteArray := prog_7_method_10_code
def yX5_hold : MethodName := ⟨RX5, "hold", "(II)V"⟩
abbrev cX5_newRow : ByteArray := prog_7_method_11_code
def yX5_newRow : MethodName := ⟨RX5, "newRow", "(III)V"⟩
abbrev cX5_valueAt : ByteArray := prog_7_method_12_code
def yX5_valueAt : MethodName := ⟨RX5, "valueAt", "(II)J"⟩
abbrev cX5_setAt : ByteArray := prog_7_method_13_code
def yX5_setAt : MethodName := ⟨RX5, "setAt", "(IIJ)V"⟩
abbrev cX5_lowestBits : ByteArray := prog_7_method_14_code
def yX5_lowestBits : MethodName := ⟨RX5, "lowestBits", "(IJ)J"⟩
abbrev cX5_copyRange : ByteArray := prog_7_method_15_code
def yX5_copyRange : MethodName := ⟨RX5, "copyRange", "(IIIII)V"⟩
def RX6 : String := "TalkStrainer$Sieve"
def TX6 : u_T := fun k => match k with
  | 0 => ("TalkStrainer$Sieve", "stock", "LTalkStrainer$Stock;", true)
  | 1 => ("TalkStrainer$Sieve", "law", "LTalkStrainer$Law;", true)
  | 2 => ("TalkStrainer$Sieve", "came", "[I", true)
  | 3 => ("TalkStrainer$Sieve", "left", "[I", true)
  | 4 => ("TalkStrainer$Sieve", "net", "[I", true)
  | 5 => ("TalkStrainer$Sieve", "cameCount", "I", false)
  | _ => ("TalkStrainer$Sieve", "leftCount", "I", false)
def tyX6 : Nat → FieldType := fun k => match k with
  | 0 => .object "TalkStrainer$Stock"
  | 1 => .object "TalkStrainer$Law"
  | 2 => .array .int
  | 3 => .array .int
  | 4 => .array .int
  | 5 => .int
  | _ => .int
abbrev wsX60 : List Cond := u_ws RX6 TX6 7
theorem nmX6 : ∀ a, a < 7 → ∀ b, b < 7 → a ≠ b → (TX6 a).2.1 ≠ (TX6 b).2.1 := by decide +kernel
theorem tyX6_ok : ∀ k, k < 7 → parseFieldDescriptor (TX6 k).2.2.1 = some (tyX6 k) := by decide +kernel
abbrev cX6_init : ByteArray := prog_8_method_1_code
def yX6_init : MethodName := ⟨RX6, "<init>", "(LTalkStrainer$Stock;LTalkStrainer$Law;)V"⟩
abbrev cX6_passes : ByteArray := prog_8_method_2_code
def yX6_passes : MethodName := ⟨RX6, "passes", "(IIII)Z"⟩
abbrev cX6_strain : ByteArray := prog_8_method_3_code
def yX6_strain : MethodName := ⟨RX6, "strain", "([IIII)V"⟩
abbrev cX6_copyCame : ByteArray := prog_8_method_4_code
def yX6_copyCame : MethodName := ⟨RX6, "copyCame", "([I)I"⟩
abbrev cX6_cameJust : ByteArray := prog_8_method_5_code
def yX6_cameJust : MethodName := ⟨RX6, "cameJust", "([II)Z"⟩
abbrev cX6_makesSense : ByteArray := prog_8_method_6_code
def yX6_makesSense : MethodName := ⟨RX6, "makesSense", "([II)Z"⟩
abbrev cX6_fitsAt : ByteArray := prog_8_method_7_code
def yX6_fitsAt : MethodName := ⟨RX6, "fitsAt", "(II)Z"⟩
abbrev cX6_sumOf : ByteArray := prog_8_method_8_code
def yX6_sumOf : MethodName := ⟨RX6, "sumOf", "([III)I"⟩
abbrev cX6_hurtBy : ByteArray := prog_8_method_9_code
def yX6_hurtBy : MethodName := ⟨RX6, "hurtBy", "([II)I"⟩
abbrev cX6_hurtBySet : ByteArray := prog_8_method_10_code
def yX6_hurtBySet : MethodName := ⟨RX6, "hurtBySet", "(I)I"⟩
abbrev cX6_clearNet : ByteArray := prog_8_method_11_code
def yX6_clearNet : MethodName := ⟨RX6, "clearNet", "()V"⟩
abbrev cX6_addToNet : ByteArray := prog_8_method_12_code
def yX6_addToNet : MethodName := ⟨RX6, "addToNet", "(I)V"⟩
abbrev cX6_hurtByNet : ByteArray := prog_8_method_13_code
def yX6_hurtByNet : MethodName := ⟨RX6, "hurtByNet", "()I"⟩
abbrev cX6_keepsJust : ByteArray := prog_8_method_14_code
def yX6_keepsJust : MethodName := ⟨RX6, "keepsJust", "(II)Z"⟩
abbrev cX6_harmLeftOf : ByteArray := prog_8_method_15_code
def yX6_harmLeftOf : MethodName := ⟨RX6, "harmLeftOf", "(I)I"⟩
abbrev cX6_mostHarmLeftOf : ByteArray := prog_8_method_16_code
def yX6_mostHarmLeftOf : MethodName := ⟨RX6, "mostHarmLeftOf", "()I"⟩
abbrev cX6_spite : ByteArray := prog_8_method_17_code
def yX6_spite : MethodName := ⟨RX6, "spite", "()I"⟩
abbrev cX6_somethingCameOf : ByteArray := prog_8_method_18_code
def yX6_somethingCameOf : MethodName := ⟨RX6, "somethingCameOf", "(I)Z"⟩
def RX7 : String := "TalkStrainer$Stock"
def TX7 : u_T := fun k => match k with
  | 0 => ("TalkStrainer$Stock", "numbers", "[[I", true)
  | 1 => ("TalkStrainer$Stock", "words", "I", false)
  | 2 => ("TalkStrainer$Stock", "meshes", "I", false)
  | _ => ("TalkStrainer$Stock", "people", "I", false)
def tyX7 : Nat → FieldType := fun k => match k with
  | 0 => .array (.array .int)
  | 1 => .int
  | 2 => .int
  | _ => .int
abbrev wsX70 : List Cond := u_ws RX7 TX7 4
theorem nmX7 : ∀ a, a < 4 → ∀ b, b < 4 → a ≠ b → (TX7 a).2.1 ≠ (TX7 b).2.1 := by decide +kernel
theorem tyX7_ok : ∀ k, k < 4 → parseFieldDescriptor (TX7 k).2.2.1 = some (tyX7 k) := by decide +kernel
abbrev cX7_init : ByteArray := prog_9_method_1_code
def yX7_init : MethodName := ⟨RX7, "<init>", "()V"⟩
abbrev cX7_newWord : ByteArray := prog_9_method_2_code
def yX7_newWord : MethodName := ⟨RX7, "newWord", "(III)I"⟩
abbrev cX7_newMesh : ByteArray := prog_9_method_3_code
def yX7_newMesh : MethodName := ⟨RX7, "newMesh", "(I)I"⟩
abbrev cX7_newPerson : ByteArray := prog_9_method_4_code
def yX7_newPerson : MethodName := ⟨RX7, "newPerson", "(I)I"⟩
abbrev cX7_allows : ByteArray := prog_9_method_5_code
def yX7_allows : MethodName := ⟨RX7, "allows", "(II)Z"⟩
abbrev cX7_has : ByteArray := prog_9_method_6_code
def yX7_has : MethodName := ⟨RX7, "has", "(II)Z"⟩
abbrev cX7_bearersOf : ByteArray := prog_9_method_7_code
def yX7_bearersOf : MethodName := ⟨RX7, "bearersOf", "(I)I"⟩
abbrev cX7_get : ByteArray := prog_9_method_8_code
def yX7_get : MethodName := ⟨RX7, "get", "(II)I"⟩
abbrev cX7_set : ByteArray := prog_9_method_9_code
def yX7_set : MethodName := ⟨RX7, "set", "(III)V"⟩
def RX8 : String := "TalkStrainer"
def TX8 : u_T := fun k => match k with
  | 0 => ("TalkStrainer", "stock", "LTalkStrainer$Stock;", true)
  | 1 => ("TalkStrainer", "changes", "LTalkStrainer$Changes;", true)
  | 2 => ("TalkStrainer", "law", "LTalkStrainer$Law;", true)
  | 3 => ("TalkStrainer", "shelves", "LTalkStrainer$Shelves;", true)
  | 4 => ("TalkStrainer", "sieve", "LTalkStrainer$Sieve;", true)
  | 5 => ("TalkStrainer", "search", "LTalkStrainer$Search;", true)
  | 6 => ("TalkStrainer", "deeds", "LTalkStrainer$Deeds;", true)
  | 7 => ("TalkStrainer", "leaves", "LTalkStrainer$Leaves;", true)
  | 8 => ("TalkStrainer", "saying", "[I", true)
  | _ => ("TalkStrainer", "second", "[I", true)
def tyX8 : Nat → FieldType := fun k => match k with
  | 0 => .object "TalkStrainer$Stock"
  | 1 => .object "TalkStrainer$Changes"
  | 2 => .object "TalkStrainer$Law"
  | 3 => .object "TalkStrainer$Shelves"
  | 4 => .object "TalkStrainer$Sieve"
  | 5 => .object "TalkStrainer$Search"
  | 6 => .object "TalkStrainer$Deeds"
  | 7 => .object "TalkStrainer$Leaves"
  | 8 => .array .int
  | _ => .array .int
abbrev wsX80 : List Cond := u_ws RX8 TX8 10
theorem nmX8 : ∀ a, a < 10 → ∀ b, b < 10 → a ≠ b → (TX8 a).2.1 ≠ (TX8 b).2.1 := by decide +kernel
theorem tyX8_ok : ∀ k, k < 10 → parseFieldDescriptor (TX8 k).2.2.1 = some (tyX8 k) := by decide +kernel
abbrev cX8_init : ByteArray := prog_1_method_1_code
def yX8_init : MethodName := ⟨RX8, "<init>", "()V"⟩
abbrev cX8_word : ByteArray := prog_1_method_2_code
def yX8_word : MethodName := ⟨RX8, "word", "(II)I"⟩
abbrev cX8_words : ByteArray := prog_1_method_3_code
def yX8_words : MethodName := ⟨RX8, "words", "(III)I"⟩
abbrev cX8_mesh : ByteArray := prog_1_method_4_code
def yX8_mesh : MethodName := ⟨RX8, "mesh", "(I)I"⟩
abbrev cX8_person : ByteArray := prog_1_method_5_code
def yX8_person : MethodName := ⟨RX8, "person", "(I)I"⟩
abbrev cX8_mend : ByteArray := prog_1_method_6_code
def yX8_mend : MethodName := ⟨RX8, "mend", "(III)I"⟩
abbrev cX8_of : ByteArray := prog_1_method_7_code
def yX8_of : MethodName := ⟨RX8, "of", "(II)I"⟩
abbrev cX8_feed : ByteArray := prog_1_method_8_code
def yX8_feed : MethodName := ⟨RX8, "feed", "(I)I"⟩
abbrev cX8_law : ByteArray := prog_1_method_9_code
def yX8_law : MethodName := ⟨RX8, "law", "()I"⟩
abbrev cX8_lets : ByteArray := prog_1_method_10_code
def yX8_lets : MethodName := ⟨RX8, "lets", "(II)I"⟩
abbrev cX8_through : ByteArray := prog_1_method_11_code
def yX8_through : MethodName := ⟨RX8, "through", "(III)I"⟩
abbrev cX8_nth : ByteArray := prog_1_method_12_code
def yX8_nth : MethodName := ⟨RX8, "nth", "(IIII)I"⟩
abbrev cX8_several : ByteArray := prog_1_method_13_code
def yX8_several : MethodName := ⟨RX8, "several", "(II)I"⟩
abbrev cX8_say : ByteArray := prog_1_method_14_code
def yX8_say : MethodName := ⟨RX8, "say", "(III)I"⟩
abbrev cX8_finest : ByteArray := prog_1_method_15_code
def yX8_finest : MethodName := ⟨RX8, "finest", "(I)I"⟩
abbrev cX8_keeps : ByteArray := prog_1_method_16_code
def yX8_keeps : MethodName := ⟨RX8, "keeps", "(I)I"⟩
abbrev cX8_leastLost : ByteArray := prog_1_method_17_code
def yX8_leastLost : MethodName := ⟨RX8, "leastLost", "(I)I"⟩
abbrev cX8_most : ByteArray := prog_1_method_18_code
def yX8_most : MethodName := ⟨RX8, "most", "(I)I"⟩
abbrev cX8_said : ByteArray := prog_1_method_19_code
def yX8_said : MethodName := ⟨RX8, "said", "(II)J"⟩
abbrev cX8_saidAt : ByteArray := prog_1_method_20_code
def yX8_saidAt : MethodName := ⟨RX8, "saidAt", "(III)I"⟩
abbrev cX8_alone : ByteArray := prog_1_method_21_code
def yX8_alone : MethodName := ⟨RX8, "alone", "(III)J"⟩
abbrev cX8_howFine : ByteArray := prog_1_method_22_code
def yX8_howFine : MethodName := ⟨RX8, "howFine", "(II)I"⟩
abbrev cX8_between : ByteArray := prog_1_method_23_code
def yX8_between : MethodName := ⟨RX8, "between", "(III)I"⟩
abbrev cX8_meant : ByteArray := prog_1_method_24_code
def yX8_meant : MethodName := ⟨RX8, "meant", "(III)I"⟩
abbrev cX8_likely : ByteArray := prog_1_method_25_code
def yX8_likely : MethodName := ⟨RX8, "likely", "(IIII)J"⟩
abbrev cX8_game : ByteArray := prog_1_method_26_code
def yX8_game : MethodName := ⟨RX8, "game", "(II)I"⟩
abbrev cX8_drawn : ByteArray := prog_1_method_27_code
def yX8_drawn : MethodName := ⟨RX8, "drawn", "(IIII)I"⟩
abbrev cX8_speak : ByteArray := prog_1_method_28_code
def yX8_speak : MethodName := ⟨RX8, "speak", "(II)I"⟩
abbrev cX8_rinse : ByteArray := prog_1_method_29_code
def yX8_rinse : MethodName := ⟨RX8, "rinse", "(I)I"⟩
abbrev cX8_led : ByteArray := prog_1_method_30_code
def yX8_led : MethodName := ⟨RX8, "led", "(I)I"⟩
abbrev cX8_image : ByteArray := prog_1_method_31_code
def yX8_image : MethodName := ⟨RX8, "image", "()I"⟩
abbrev cX8_back : ByteArray := prog_1_method_32_code
def yX8_back : MethodName := ⟨RX8, "back", "()I"⟩
abbrev cX8_undo : ByteArray := prog_1_method_33_code
def yX8_undo : MethodName := ⟨RX8, "undo", "()I"⟩
abbrev cX8_redo : ByteArray := prog_1_method_34_code
def yX8_redo : MethodName := ⟨RX8, "redo", "()I"⟩
abbrev cX8_body : ByteArray := prog_1_method_35_code
def yX8_body : MethodName := ⟨RX8, "body", "(I)I"⟩
abbrev cX8_act : ByteArray := prog_1_method_36_code
def yX8_act : MethodName := ⟨RX8, "act", "(III)I"⟩
abbrev cX8_trace : ByteArray := prog_1_method_37_code
def yX8_trace : MethodName := ⟨RX8, "trace", "(I)I"⟩
abbrev cX8_keep : ByteArray := prog_1_method_38_code
def yX8_keep : MethodName := ⟨RX8, "keep", "(II)I"⟩
abbrev cX8_row : ByteArray := prog_1_method_39_code
def yX8_row : MethodName := ⟨RX8, "row", "(III)I"⟩
abbrev cX8_put : ByteArray := prog_1_method_40_code
def yX8_put : MethodName := ⟨RX8, "put", "(IIJ)I"⟩
abbrev cX8_element : ByteArray := prog_1_method_41_code
def yX8_element : MethodName := ⟨RX8, "element", "(II)J"⟩
abbrev cX8_shift : ByteArray := prog_1_method_42_code
def yX8_shift : MethodName := ⟨RX8, "shift", "(IIIII)I"⟩
abbrev cX8_taken : ByteArray := prog_1_method_43_code
def yX8_taken : MethodName := ⟨RX8, "taken", "(II)I"⟩
abbrev cX8_count : ByteArray := prog_1_method_44_code
def yX8_count : MethodName := ⟨RX8, "count", "(I)I"⟩
abbrev cX8_isShelf : ByteArray := prog_1_method_45_code
def yX8_isShelf : MethodName := ⟨RX8, "isShelf", "(I)Z"⟩
abbrev cX8_isMesh : ByteArray := prog_1_method_46_code
def yX8_isMesh : MethodName := ⟨RX8, "isMesh", "(I)Z"⟩
abbrev cX8_isMeshOrNone : ByteArray := prog_1_method_47_code
def yX8_isMeshOrNone : MethodName := ⟨RX8, "isMeshOrNone", "(I)Z"⟩
abbrev cX8_fineOf : ByteArray := prog_1_method_48_code
def yX8_fineOf : MethodName := ⟨RX8, "fineOf", "(I)I"⟩
abbrev cX8_hear : ByteArray := prog_1_method_49_code
def yX8_hear : MethodName := ⟨RX8, "hear", "(II)I"⟩
abbrev cX8_readSaying : ByteArray := prog_1_method_50_code
def yX8_readSaying : MethodName := ⟨RX8, "readSaying", "(I[I)I"⟩
abbrev cX8_pairRefusal : ByteArray := prog_1_method_51_code
def yX8_pairRefusal : MethodName := ⟨RX8, "pairRefusal", "(I)I"⟩
abbrev cX8_elementRefusal : ByteArray := prog_1_method_52_code
def yX8_elementRefusal : MethodName := ⟨RX8, "elementRefusal", "(II)I"⟩
abbrev cX8_wordFromThree : ByteArray := prog_1_method_53_code
def yX8_wordFromThree : MethodName := ⟨RX8, "wordFromThree", "(II)Z"⟩
abbrev cX8_greatestCommon : ByteArray := prog_1_method_54_code
def yX8_greatestCommon : MethodName := ⟨RX8, "greatestCommon", "(II)I"⟩
def RX9 : String := "TalkStrainerModel"
def TX9 : u_T := fun k => match k with
  | 0 => ("TalkStrainerModel", "code", "I", false)
  | 1 => ("TalkStrainerModel", "words", "I", false)
  | 2 => ("TalkStrainerModel", "sizeOf", "[I", true)
  | 3 => ("TalkStrainerModel", "harm", "[I", true)
  | 4 => ("TalkStrainerModel", "sweet", "[I", true)
  | 5 => ("TalkStrainerModel", "sortOf", "[I", true)
  | 6 => ("TalkStrainerModel", "meantOf", "[I", true)
  | 7 => ("TalkStrainerModel", "meshes", "I", false)
  | 8 => ("TalkStrainerModel", "fine", "[I", true)
  | 9 => ("TalkStrainerModel", "lies1", "[I", true)
  | 10 => ("TalkStrainerModel", "harmIn", "[I", true)
  | 11 => ("TalkStrainerModel", "people", "I", false)
  | 12 => ("TalkStrainerModel", "thin", "[I", true)
  | 13 => ("TalkStrainerModel", "bends", "I", false)
  | 14 => ("TalkStrainerModel", "doneMany", "I", false)
  | 15 => ("TalkStrainerModel", "undoneMany", "I", false)
  | 16 => ("TalkStrainerModel", "changeOf", "[I", true)
  | 17 => ("TalkStrainerModel", "changeAt", "[I", true)
  | 18 => ("TalkStrainerModel", "before", "[I", true)
  | 19 => ("TalkStrainerModel", "behind", "[I", true)
  | 20 => ("TalkStrainerModel", "tape", "[B", true)
  | 21 => ("TalkStrainerModel", "taped", "I", false)
  | 22 => ("TalkStrainerModel", "here", "I", false)
  | 23 => ("TalkStrainerModel", "fault", "I", false)
  | 24 => ("TalkStrainerModel", "open", "I", false)
  | 25 => ("TalkStrainerModel", "laid", "I", false)
  | 26 => ("TalkStrainerModel", "act", "[B", true)
  | 27 => ("TalkStrainerModel", "with", "[I", true)
  | 28 => ("TalkStrainerModel", "lineMany", "[I", true)
  | 29 => ("TalkStrainerModel", "testEnd", "[S", true)
  | 30 => ("TalkStrainerModel", "lineEnd", "[S", true)
  | 31 => ("TalkStrainerModel", "facts", "[I", true)
  | 32 => ("TalkStrainerModel", "pile", "[I", true)
  | 33 => ("TalkStrainerModel", "hasLaw", "Z", false)
  | 34 => ("TalkStrainerModel", "saying", "[I", true)
  | 35 => ("TalkStrainerModel", "saidMany", "I", false)
  | 36 => ("TalkStrainerModel", "came", "[I", true)
  | 37 => ("TalkStrainerModel", "cameMany", "I", false)
  | 38 => ("TalkStrainerModel", "left1", "[I", true)
  | 39 => ("TalkStrainerModel", "leftMany", "I", false)
  | 40 => ("TalkStrainerModel", "canBe", "[Z", true)
  | 41 => ("TalkStrainerModel", "long1", "I", false)
  | 42 => ("TalkStrainerModel", "row1", "[I", true)
  | 43 => ("TalkStrainerModel", "rowMany", "I", false)
  | 44 => ("TalkStrainerModel", "ways1", "[J", true)
  | 45 => ("TalkStrainerModel", "rest1", "[I", true)
  | 46 => ("TalkStrainerModel", "restMany", "I", false)
  | 47 => ("TalkStrainerModel", "wins", "[Z", true)
  | 48 => ("TalkStrainerModel", "ledOf", "[I", true)
  | 49 => ("TalkStrainerModel", "hasImage", "Z", false)
  | 50 => ("TalkStrainerModel", "keptMany", "I", false)
  | 51 => ("TalkStrainerModel", "keptLies", "[I", true)
  | 52 => ("TalkStrainerModel", "keptHarm", "[I", true)
  | 53 => ("TalkStrainerModel", "keptLed", "[I", true)
  | 54 => ("TalkStrainerModel", "bodies", "I", false)
  | 55 => ("TalkStrainerModel", "kind", "[I", true)
  | 56 => ("TalkStrainerModel", "traces", "I", false)
  | 57 => ("TalkStrainerModel", "traced", "[I", true)
  | 58 => ("TalkStrainerModel", "holds", "[I", true)
  | 59 => ("TalkStrainerModel", "size", "[I", true)
  | 60 => ("TalkStrainerModel", "elements", "[J", true)
  | _ => ("TalkStrainerModel", "shifted", "[J", true)
def tyX9 : Nat → FieldType := fun k => match k with
  | 0 => .int
  | 1 => .int
  | 2 => .array .int
  | 3 => .array .int
  | 4 => .array .int
  | 5 => .array .int
  | 6 => .array .int
  | 7 => .int
  | 8 => .array .int
  | 9 => .array .int
  | 10 => .array .int
  | 11 => .int
  | 12 => .array .int
  | 13 => .int
  | 14 => .int
  | 15 => .int
  | 16 => .array .int
  | 17 => .array .int
  | 18 => .array .int
  | 19 => .array .int
  | 20 => .array .byte
  | 21 => .int
  | 22 => .int
  | 23 => .int
  | 24 => .int
  | 25 => .int
  | 26 => .array .byte
  | 27 => .array .int
  | 28 => .array .int
  | 29 => .array .short
  | 30 => .array .short
  | 31 => .array .int
  | 32 => .array .int
  | 33 => .boolean
  | 34 => .array .int
  | 35 => .int
  | 36 => .array .int
  | 37 => .int
  | 38 => .array .int
  | 39 => .int
  | 40 => .array .boolean
  | 41 => .int
  | 42 => .array .int
  | 43 => .int
  | 44 => .array .long
  | 45 => .array .int
  | 46 => .int
  | 47 => .array .boolean
  | 48 => .array .int
  | 49 => .boolean
  | 50 => .int
  | 51 => .array .int
  | 52 => .array .int
  | 53 => .array .int
  | 54 => .int
  | 55 => .array .int
  | 56 => .int
  | 57 => .array .int
  | 58 => .array .int
  | 59 => .array .int
  | 60 => .array .long
  | _ => .array .long
abbrev wsX90 : List Cond := u_ws RX9 TX9 62
theorem nmX9 : ∀ a, a < 62 → ∀ b, b < 62 → a ≠ b → (TX9 a).2.1 ≠ (TX9 b).2.1 := by decide +kernel
theorem tyX9_ok : ∀ k, k < 62 → parseFieldDescriptor (TX9 k).2.2.1 = some (tyX9 k) := by decide +kernel
abbrev cX9_init : ByteArray := prog_11_method_1_code
def yX9_init : MethodName := ⟨RX9, "<init>", "()V"⟩
abbrev cX9_in : ByteArray := prog_11_method_3_code
def yX9_in : MethodName := ⟨RX9, "in", "(III)Z"⟩
abbrev cX9_bitsOf : ByteArray := prog_11_method_4_code
def yX9_bitsOf : MethodName := ⟨RX9, "bitsOf", "(I)I"⟩
abbrev cX9_isWord : ByteArray := prog_11_method_5_code
def yX9_isWord : MethodName := ⟨RX9, "isWord", "(I)Z"⟩
abbrev cX9_isMesh : ByteArray := prog_11_method_6_code
def yX9_isMesh : MethodName := ⟨RX9, "isMesh", "(I)Z"⟩
abbrev cX9_isMeshOrNone : ByteArray := prog_11_method_7_code
def yX9_isMeshOrNone : MethodName := ⟨RX9, "isMeshOrNone", "(I)Z"⟩
abbrev cX9_addWord : ByteArray := prog_11_method_8_code
def yX9_addWord : MethodName := ⟨RX9, "addWord", "(III)I"⟩
abbrev cX9_word : ByteArray := prog_11_method_9_code
def yX9_word : MethodName := ⟨RX9, "word", "(II)I"⟩
abbrev cX9_words : ByteArray := prog_11_method_10_code
def yX9_words : MethodName := ⟨RX9, "words", "(III)I"⟩
abbrev cX9_mesh : ByteArray := prog_11_method_11_code
def yX9_mesh : MethodName := ⟨RX9, "mesh", "(I)I"⟩
abbrev cX9_person : ByteArray := prog_11_method_12_code
def yX9_person : MethodName := ⟨RX9, "person", "(I)I"⟩
abbrev cX9_valueAt : ByteArray := prog_11_method_13_code
def yX9_valueAt : MethodName := ⟨RX9, "valueAt", "(II)I"⟩
abbrev cX9_lays : ByteArray := prog_11_method_14_code
def yX9_lays : MethodName := ⟨RX9, "lays", "(III)V"⟩
abbrev cX9_changes : ByteArray := prog_11_method_15_code
def yX9_changes : MethodName := ⟨RX9, "changes", "(III)I"⟩
abbrev cX9_undo : ByteArray := prog_11_method_16_code
def yX9_undo : MethodName := ⟨RX9, "undo", "()I"⟩
abbrev cX9_redo : ByteArray := prog_11_method_17_code
def yX9_redo : MethodName := ⟨RX9, "redo", "()I"⟩
abbrev cX9_isOne : ByteArray := prog_11_method_18_code
def yX9_isOne : MethodName := ⟨RX9, "isOne", "(II)Z"⟩
abbrev cX9_mayHave : ByteArray := prog_11_method_19_code
def yX9_mayHave : MethodName := ⟨RX9, "mayHave", "(II)Z"⟩
abbrev cX9_mend : ByteArray := prog_11_method_20_code
def yX9_mend : MethodName := ⟨RX9, "mend", "(III)I"⟩
abbrev cX9_of : ByteArray := prog_11_method_21_code
def yX9_of : MethodName := ⟨RX9, "of", "(II)I"⟩
abbrev cX9_feed : ByteArray := prog_11_method_22_code
def yX9_feed : MethodName := ⟨RX9, "feed", "(I)I"⟩
abbrev cX9_look : ByteArray := prog_11_method_23_code
def yX9_look : MethodName := ⟨RX9, "look", "()I"⟩
abbrev cX9_wrong : ByteArray := prog_11_method_24_code
def yX9_wrong : MethodName := ⟨RX9, "wrong", "()V"⟩
abbrev cX9_addStep : ByteArray := prog_11_method_25_code
def yX9_addStep : MethodName := ⟨RX9, "addStep", "(II)V"⟩
abbrev cX9_nameOf : ByteArray := prog_11_method_26_code
def yX9_nameOf : MethodName := ⟨RX9, "nameOf", "(I)I"⟩
abbrev cX9_opens : ByteArray := prog_11_method_27_code
def yX9_opens : MethodName := ⟨RX9, "opens", "()Z"⟩
abbrev cX9_figure : ByteArray := prog_11_method_28_code
def yX9_figure : MethodName := ⟨RX9, "figure", "()V"⟩
abbrev cX9_operand : ByteArray := prog_11_method_29_code
def yX9_operand : MethodName := ⟨RX9, "operand", "()V"⟩
abbrev cX9_product : ByteArray := prog_11_method_30_code
def yX9_product : MethodName := ⟨RX9, "product", "()V"⟩
abbrev cX9_sum : ByteArray := prog_11_method_31_code
def yX9_sum : MethodName := ⟨RX9, "sum", "()V"⟩
abbrev cX9_compared : ByteArray := prog_11_method_32_code
def yX9_compared : MethodName := ⟨RX9, "compared", "()V"⟩
abbrev cX9_both : ByteArray := prog_11_method_33_code
def yX9_both : MethodName := ⟨RX9, "both", "()V"⟩
abbrev cX9_either : ByteArray := prog_11_method_34_code
def yX9_either : MethodName := ⟨RX9, "either", "()V"⟩
abbrev cX9_line : ByteArray := prog_11_method_35_code
def yX9_line : MethodName := ⟨RX9, "line", "()V"⟩
abbrev cX9_readText : ByteArray := prog_11_method_36_code
def yX9_readText : MethodName := ⟨RX9, "readText", "(I)I"⟩
abbrev cX9_twoOf : ByteArray := prog_11_method_37_code
def yX9_twoOf : MethodName := ⟨RX9, "twoOf", "(III)I"⟩
abbrev cX9_worked : ByteArray := prog_11_method_38_code
def yX9_worked : MethodName := ⟨RX9, "worked", "(III)I"⟩
abbrev cX9_gives : ByteArray := prog_11_method_39_code
def yX9_gives : MethodName := ⟨RX9, "gives", "(I)I"⟩
abbrev cX9_law : ByteArray := prog_11_method_40_code
def yX9_law : MethodName := ⟨RX9, "law", "()I"⟩
abbrev cX9_passesBy : ByteArray := prog_11_method_41_code
def yX9_passesBy : MethodName := ⟨RX9, "passesBy", "(IIII)Z"⟩
abbrev cX9_passes : ByteArray := prog_11_method_42_code
def yX9_passes : MethodName := ⟨RX9, "passes", "(IIII)Z"⟩
abbrev cX9_lets : ByteArray := prog_11_method_43_code
def yX9_lets : MethodName := ⟨RX9, "lets", "(II)I"⟩
abbrev cX9_rowFault : ByteArray := prog_11_method_44_code
def yX9_rowFault : MethodName := ⟨RX9, "rowFault", "(I)I"⟩
abbrev cX9_at : ByteArray := prog_11_method_45_code
def yX9_at : MethodName := ⟨RX9, "at", "(II)I"⟩
abbrev cX9_laySaying : ByteArray := prog_11_method_46_code
def yX9_laySaying : MethodName := ⟨RX9, "laySaying", "(I)V"⟩
abbrev cX9_goThrough : ByteArray := prog_11_method_47_code
def yX9_goThrough : MethodName := ⟨RX9, "goThrough", "(II)V"⟩
abbrev cX9_makesSense : ByteArray := prog_11_method_48_code
def yX9_makesSense : MethodName := ⟨RX9, "makesSense", "()Z"⟩
abbrev cX9_hurtBy : ByteArray := prog_11_method_49_code
def yX9_hurtBy : MethodName := ⟨RX9, "hurtBy", "(Z)I"⟩
abbrev cX9_harmLeft : ByteArray := prog_11_method_50_code
def yX9_harmLeft : MethodName := ⟨RX9, "harmLeft", "()I"⟩
abbrev cX9_through : ByteArray := prog_11_method_51_code
def yX9_through : MethodName := ⟨RX9, "through", "(III)I"⟩
abbrev cX9_nth : ByteArray := prog_11_method_52_code
def yX9_nth : MethodName := ⟨RX9, "nth", "(IIII)I"⟩
abbrev cX9_areShelves : ByteArray := prog_11_method_53_code
def yX9_areShelves : MethodName := ⟨RX9, "areShelves", "(I)Z"⟩
abbrev cX9_bothFault : ByteArray := prog_11_method_54_code
def yX9_bothFault : MethodName := ⟨RX9, "bothFault", "(I)I"⟩
abbrev cX9_several : ByteArray := prog_11_method_55_code
def yX9_several : MethodName := ⟨RX9, "several", "(II)I"⟩
abbrev cX9_layRow : ByteArray := prog_11_method_56_code
def yX9_layRow : MethodName := ⟨RX9, "layRow", "(I)V"⟩
abbrev cX9_maySay : ByteArray := prog_11_method_57_code
def yX9_maySay : MethodName := ⟨RX9, "maySay", "(IIII)Z"⟩
abbrev cX9_findSay : ByteArray := prog_11_method_58_code
def yX9_findSay : MethodName := ⟨RX9, "findSay", "(II)Z"⟩
abbrev cX9_saysAt : ByteArray := prog_11_method_59_code
def yX9_saysAt : MethodName := ⟨RX9, "saysAt", "(II)I"⟩
abbrev cX9_say : ByteArray := prog_11_method_60_code
def yX9_say : MethodName := ⟨RX9, "say", "(III)I"⟩
abbrev cX9_allPass : ByteArray := prog_11_method_61_code
def yX9_allPass : MethodName := ⟨RX9, "allPass", "(I)Z"⟩
abbrev cX9_finest : ByteArray := prog_11_method_62_code
def yX9_finest : MethodName := ⟨RX9, "finest", "(I)I"⟩
abbrev cX9_keepsBy : ByteArray := prog_11_method_63_code
def yX9_keepsBy : MethodName := ⟨RX9, "keepsBy", "(II)Z"⟩
abbrev cX9_keeps : ByteArray := prog_11_method_64_code
def yX9_keeps : MethodName := ⟨RX9, "keeps", "(I)I"⟩
abbrev cX9_leastLost : ByteArray := prog_11_method_65_code
def yX9_leastLost : MethodName := ⟨RX9, "leastLost", "(I)I"⟩
abbrev cX9_laySet : ByteArray := prog_11_method_66_code
def yX9_laySet : MethodName := ⟨RX9, "laySet", "(I)V"⟩
abbrev cX9_most : ByteArray := prog_11_method_67_code
def yX9_most : MethodName := ⟨RX9, "most", "(I)I"⟩
abbrev cX9_wayAt : ByteArray := prog_11_method_68_code
def yX9_wayAt : MethodName := ⟨RX9, "wayAt", "(II)J"⟩
abbrev cX9_comes : ByteArray := prog_11_method_69_code
def yX9_comes : MethodName := ⟨RX9, "comes", "(III)Z"⟩
abbrev cX9_stays : ByteArray := prog_11_method_70_code
def yX9_stays : MethodName := ⟨RX9, "stays", "(III)Z"⟩
abbrev cX9_layBoth : ByteArray := prog_11_method_71_code
def yX9_layBoth : MethodName := ⟨RX9, "layBoth", "(I)V"⟩
abbrev cX9_findSaid : ByteArray := prog_11_method_72_code
def yX9_findSaid : MethodName := ⟨RX9, "findSaid", "(I)V"⟩
abbrev cX9_isMuch : ByteArray := prog_11_method_73_code
def yX9_isMuch : MethodName := ⟨RX9, "isMuch", "()Z"⟩
abbrev cX9_said : ByteArray := prog_11_method_74_code
def yX9_said : MethodName := ⟨RX9, "said", "(II)J"⟩
abbrev cX9_saidAt : ByteArray := prog_11_method_75_code
def yX9_saidAt : MethodName := ⟨RX9, "saidAt", "(III)I"⟩
abbrev cX9_leftAt : ByteArray := prog_11_method_76_code
def yX9_leftAt : MethodName := ⟨RX9, "leftAt", "(III)I"⟩
abbrev cX9_alone : ByteArray := prog_11_method_77_code
def yX9_alone : MethodName := ⟨RX9, "alone", "(III)J"⟩
abbrev cX9_justComes : ByteArray := prog_11_method_78_code
def yX9_justComes : MethodName := ⟨RX9, "justComes", "()Z"⟩
abbrev cX9_goFine : ByteArray := prog_11_method_79_code
def yX9_goFine : MethodName := ⟨RX9, "goFine", "(I)V"⟩
abbrev cX9_howFine : ByteArray := prog_11_method_80_code
def yX9_howFine : MethodName := ⟨RX9, "howFine", "(II)I"⟩
abbrev cX9_changesNothing : ByteArray := prog_11_method_81_code
def yX9_changesNothing : MethodName := ⟨RX9, "changesNothing", "(III)Z"⟩
abbrev cX9_between : ByteArray := prog_11_method_82_code
def yX9_between : MethodName := ⟨RX9, "between", "(III)I"⟩
abbrev cX9_harmOf : ByteArray := prog_11_method_83_code
def yX9_harmOf : MethodName := ⟨RX9, "harmOf", "(I)I"⟩
abbrev cX9_comesOf : ByteArray := prog_11_method_84_code
def yX9_comesOf : MethodName := ⟨RX9, "comesOf", "(I)Z"⟩
abbrev cX9_meant : ByteArray := prog_11_method_85_code
def yX9_meant : MethodName := ⟨RX9, "meant", "(III)I"⟩
abbrev cX9_lowest : ByteArray := prog_11_method_86_code
def yX9_lowest : MethodName := ⟨RX9, "lowest", "(JJI)J"⟩
abbrev cX9_likely : ByteArray := prog_11_method_87_code
def yX9_likely : MethodName := ⟨RX9, "likely", "(IIII)J"⟩
abbrev cX9_playedMany : ByteArray := prog_11_method_88_code
def yX9_playedMany : MethodName := ⟨RX9, "playedMany", "()I"⟩
abbrev cX9_mayPlay : ByteArray := prog_11_method_89_code
def yX9_mayPlay : MethodName := ⟨RX9, "mayPlay", "(III)Z"⟩
abbrev cX9_winningWord : ByteArray := prog_11_method_90_code
def yX9_winningWord : MethodName := ⟨RX9, "winningWord", "(II)I"⟩
abbrev cX9_game : ByteArray := prog_11_method_91_code
def yX9_game : MethodName := ⟨RX9, "game", "(II)I"⟩
abbrev cX9_drawn : ByteArray := prog_11_method_92_code
def yX9_drawn : MethodName := ⟨RX9, "drawn", "(IIII)I"⟩
abbrev cX9_speak : ByteArray := prog_11_method_93_code
def yX9_speak : MethodName := ⟨RX9, "speak", "(II)I"⟩
abbrev cX9_rinse : ByteArray := prog_11_method_94_code
def yX9_rinse : MethodName := ⟨RX9, "rinse", "(I)I"⟩
abbrev cX9_led : ByteArray := prog_11_method_95_code
def yX9_led : MethodName := ⟨RX9, "led", "(I)I"⟩
abbrev cX9_image : ByteArray := prog_11_method_96_code
def yX9_image : MethodName := ⟨RX9, "image", "()I"⟩
abbrev cX9_back : ByteArray := prog_11_method_97_code
def yX9_back : MethodName := ⟨RX9, "back", "()I"⟩
abbrev cX9_isBody : ByteArray := prog_11_method_98_code
def yX9_isBody : MethodName := ⟨RX9, "isBody", "(I)Z"⟩
abbrev cX9_ran : ByteArray := prog_11_method_99_code
def yX9_ran : MethodName := ⟨RX9, "ran", "(I)V"⟩
abbrev cX9_trace : ByteArray := prog_11_method_100_code
def yX9_trace : MethodName := ⟨RX9, "trace", "(I)I"⟩
abbrev cX9_body : ByteArray := prog_11_method_101_code
def yX9_body : MethodName := ⟨RX9, "body", "(I)I"⟩
abbrev cX9_isUnder : ByteArray := prog_11_method_102_code
def yX9_isUnder : MethodName := ⟨RX9, "isUnder", "(II)Z"⟩
abbrev cX9_plainPasses : ByteArray := prog_11_method_103_code
def yX9_plainPasses : MethodName := ⟨RX9, "plainPasses", "(II)I"⟩
abbrev cX9_maidPasses : ByteArray := prog_11_method_104_code
def yX9_maidPasses : MethodName := ⟨RX9, "maidPasses", "(II)I"⟩
abbrev cX9_passing : ByteArray := prog_11_method_105_code
def yX9_passing : MethodName := ⟨RX9, "passing", "(II)I"⟩
abbrev cX9_plainStays : ByteArray := prog_11_method_106_code
def yX9_plainStays : MethodName := ⟨RX9, "plainStays", "(II)I"⟩
abbrev cX9_barbStays : ByteArray := prog_11_method_107_code
def yX9_barbStays : MethodName := ⟨RX9, "barbStays", "(II)I"⟩
abbrev cX9_staying : ByteArray := prog_11_method_108_code
def yX9_staying : MethodName := ⟨RX9, "staying", "(II)I"⟩
abbrev cX9_plainHurts : ByteArray := prog_11_method_109_code
def yX9_plainHurts : MethodName := ⟨RX9, "plainHurts", "(II)I"⟩
abbrev cX9_complimentHurts : ByteArray := prog_11_method_110_code
def yX9_complimentHurts : MethodName := ⟨RX9, "complimentHurts", "(II)I"⟩
abbrev cX9_hurting : ByteArray := prog_11_method_111_code
def yX9_hurting : MethodName := ⟨RX9, "hurting", "(II)I"⟩
abbrev cX9_plainTells : ByteArray := prog_11_method_112_code
def yX9_plainTells : MethodName := ⟨RX9, "plainTells", "(II)I"⟩
abbrev cX9_telling : ByteArray := prog_11_method_113_code
def yX9_telling : MethodName := ⟨RX9, "telling", "(II)I"⟩
abbrev cX9_act : ByteArray := prog_11_method_114_code
def yX9_act : MethodName := ⟨RX9, "act", "(III)I"⟩
abbrev cX9_count : ByteArray := prog_11_method_115_code
def yX9_count : MethodName := ⟨RX9, "count", "(I)I"⟩
abbrev cX9_isShelf : ByteArray := prog_11_method_116_code
def yX9_isShelf : MethodName := ⟨RX9, "isShelf", "(I)Z"⟩
abbrev cX9_keep : ByteArray := prog_11_method_117_code
def yX9_keep : MethodName := ⟨RX9, "keep", "(II)I"⟩
abbrev cX9_row : ByteArray := prog_11_method_118_code
def yX9_row : MethodName := ⟨RX9, "row", "(III)I"⟩
abbrev cX9_whyNoPlace : ByteArray := prog_11_method_119_code
def yX9_whyNoPlace : MethodName := ⟨RX9, "whyNoPlace", "(II)I"⟩
abbrev cX9_put : ByteArray := prog_11_method_120_code
def yX9_put : MethodName := ⟨RX9, "put", "(IIJ)I"⟩
abbrev cX9_element : ByteArray := prog_11_method_121_code
def yX9_element : MethodName := ⟨RX9, "element", "(II)J"⟩
abbrev cX9_shift : ByteArray := prog_11_method_122_code
def yX9_shift : MethodName := ⟨RX9, "shift", "(IIIII)I"⟩
abbrev cX9_taken : ByteArray := prog_11_method_123_code
def yX9_taken : MethodName := ⟨RX9, "taken", "(II)I"⟩
def RJ6 : String := "java/lang/Integer"
def TJ6 : u_T := fun k => match k with
  | _ => ("", "", "", false)
abbrev wsJ60 : List Cond := u_ws RJ6 TJ6 0
abbrev cJ6_bitCount_0f7a4 : ByteArray := prog_12_method_49_code
def yJ6_bitCount_0f7a4 : MethodName := ⟨RJ6, "bitCount", "(I)I"⟩
def RJ9 : String := "java/lang/Math"
def TJ9 : u_T := fun k => match k with
  | _ => ("", "", "", false)
abbrev wsJ90 : List Cond := u_ws RJ9 TJ9 0
abbrev cJ9_min_7cf53 : ByteArray := prog_13_method_69_code
def yJ9_min_7cf53 : MethodName := ⟨RJ9, "min", "(II)I"⟩
def RJ10 : String := "java/lang/System"
def TJ10 : u_T := fun k => match k with
  | _ => ("", "", "", false)
abbrev wsJ100 : List Cond := u_ws RJ10 TJ10 0
def RL : String := "TalkStrainerLaw"
abbrev cL_law : ByteArray := code
def yL_law : MethodName := ⟨RL, "law", "([I)Z"⟩
abbrev vwCl : List vw_C := [(RX0, TX0, 6), (RX1, TX1, 7), (RX2, TX2, 10), (RX3, TX3, 6), (RX4, TX4, 9), (RX5, TX5, 4), (RX6, TX6, 7), (RX7, TX7, 4), (RX8, TX8, 10), (RX9, TX9, 62)]
/-! THE CLAIM OUT OF ONE WALK OF THE LAW'S BODY. Your part is whole_start (and what it stands on); all else here is the same for every law, but numbers. -/
def R_law : String := "TalkStrainerLaw"
def lw_P (b : Addr) (xs : List Int32) (args : Array Value) (s : State) : Prop := args = #[.ref b] ∧ s.IntsAt b xs ∧ xs.length ≤ 3072 ∧ (Jvm.Cond.and given_1 narrow_1).before args s = true
def lw_Q (_ : Array Value) (s : State) (o : Outcome) (t : State) : Prop := o = .returned (some (.int 1)) ∧ Framed s o t [] 600000 7302250
def lw_Z (below : List Frame) (a : Array Value) (s : State) : State → Prop := fun t => ∃ o, t.status = .running ∧ Ended t below o ∧ lw_Q a s o t
/-- the law's own end, with 1 on the stack, nothing written that was there before, its room as the claim has it -/
theorem lw_ret {p : Program} {l : Launch} {e : Env} {s : State} {m : MethodId} {below : List Frame} {meth : Method} {c : Code} {b : Nat} (hx : p.tables.exec = Jvm.exec) (hb : c.code = code) (hr : meth.sig.returnType = ret) (hlocks : meth.locks = false) {pc : Nat} {H : Heap} {ls : Array Slot} (hdg : decode code pc = .ok (.ireturn, 1)) : W p l e room_1 s m #[Value.ref b] below meth c H [] 600000 7302250 (lw_Z below #[Value.ref b] s) (F0 m pc ls [.int 1]) := by
  intro T hT X
  obtain ⟨fs, hret, hrun, hended, hW, hframe⟩ := X.leave (v := some (.int 1)) (hlocks := hlocks) (fun h => by rw [hr] at h; cases h)
  have hmeth' : T.vm.method? m = some meth := X.method'
  refine ⟨T.setFrames fs, ?_, .returned (some (.int 1)), hrun, hended, rfl, ⟨_, rfl⟩, hW, hframe⟩
  jvm_step X.here [X.here.top, hx, hb, hdg, hmeth', hr, ret, narrow_b1]
  (try refine ⟨rfl, ?_⟩); (try refine ⟨rfl, ?_⟩)
  first | (intro acts; rw [hret _ acts rfl rfl rfl]) | rw [hret _ _ rfl rfl rfl]
  exact Steps.refl _
/-- what holds at the law's entry: the machine, the code, the tables' words (any of lw_tbl by 'hts w (by decide +kernel)'), the script of L ints xs at the cell b, what the Statement gives of the start (any of its parts by flat_of_before) -/
def lw_At (p : Program) (s : State) (m : MethodId) (meth : Method) (c : Code) (b L : Nat) (xs : Nat → Int32) : Prop :=
  p.tables.exec = Jvm.exec ∧ c.code = code ∧ meth.sig.returnType = ret ∧ c.maxLocals = 4 ∧ s.vm.findClass R_law = some m.cls ∧ (∀ w ∈ lw_tbl, w.before #[Value.ref b] s = true) ∧ va_X b L xs s s.heap ∧ b < s.heap.size ∧ meth.locks = false ∧ (Jvm.Cond.and given_1 narrow_1).before #[Value.ref b] s = true
