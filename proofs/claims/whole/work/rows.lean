section
-- ===== PART A: goes FIRST, ahead of the names: the tables' words, and 'selects' of the private methods out of them =====
/-- a private method of a class that the tables say can be made, by its rows of tables_1 -/
def lw_okq (q : MethodName × Nat) : Prop := (q.1.cls ≠ "java/lang/invoke/MethodHandle" ∧ q.1.cls ≠ "java/lang/invoke/VarHandle") ∧ Cond.instantiable q.1.cls q.2 ∈ tables_1 ∧ Cond.privateMethod q.1 ∈ tables_1 ∧ Cond.instanceMethod q.1 ∈ tables_1
theorem lw_p0 : lw_okq (⟨"ToolCrib$Jobs", "forget", "()V"⟩, 5) := ⟨⟨by decide +kernel, by decide +kernel⟩, List.mem_of_getElem? (i := 56) (by decide +kernel), List.mem_of_getElem? (i := 64) (by decide +kernel), List.mem_of_getElem? (i := 65) (by decide +kernel)⟩
theorem lw_p1 : lw_okq (⟨"ToolCrib", "textOf", "(I)LToolCrib$Text;"⟩, 16) := ⟨⟨by decide +kernel, by decide +kernel⟩, List.mem_of_getElem? (i := 20) (by decide +kernel), List.mem_of_getElem? (i := 232) (by decide +kernel), List.mem_of_getElem? (i := 233) (by decide +kernel)⟩
theorem lw_p2 : lw_okq (⟨"ToolCrib$Tape", "isBegin", "(I)Z"⟩, 5) := ⟨⟨by decide +kernel, by decide +kernel⟩, List.mem_of_getElem? (i := 86) (by decide +kernel), List.mem_of_getElem? (i := 251) (by decide +kernel), List.mem_of_getElem? (i := 252) (by decide +kernel)⟩
theorem lw_p3 : lw_okq (⟨"ToolCrib$Tape", "byteAt", "(I)I"⟩, 5) := ⟨⟨by decide +kernel, by decide +kernel⟩, List.mem_of_getElem? (i := 86) (by decide +kernel), List.mem_of_getElem? (i := 255) (by decide +kernel), List.mem_of_getElem? (i := 256) (by decide +kernel)⟩
theorem lw_p4 : lw_okq (⟨"ToolCrib$Tape", "tokenFrom", "(I)I"⟩, 5) := ⟨⟨by decide +kernel, by decide +kernel⟩, List.mem_of_getElem? (i := 86) (by decide +kernel), List.mem_of_getElem? (i := 268) (by decide +kernel), List.mem_of_getElem? (i := 269) (by decide +kernel)⟩
theorem lw_p5 : lw_okq (⟨"ToolCrib$Tape", "wordOf", "(II)I"⟩, 5) := ⟨⟨by decide +kernel, by decide +kernel⟩, List.mem_of_getElem? (i := 86) (by decide +kernel), List.mem_of_getElem? (i := 272) (by decide +kernel), List.mem_of_getElem? (i := 273) (by decide +kernel)⟩
theorem lw_p6 : lw_okq (⟨"ToolCrib$Tape", "isWord", "(Ljava/lang/String;II)Z"⟩, 5) := ⟨⟨by decide +kernel, by decide +kernel⟩, List.mem_of_getElem? (i := 86) (by decide +kernel), List.mem_of_getElem? (i := 277) (by decide +kernel), List.mem_of_getElem? (i := 278) (by decide +kernel)⟩
theorem lw_p7 : lw_okq (⟨"ToolCrib$Tape", "numberOf", "(II)I"⟩, 5) := ⟨⟨by decide +kernel, by decide +kernel⟩, List.mem_of_getElem? (i := 86) (by decide +kernel), List.mem_of_getElem? (i := 294) (by decide +kernel), List.mem_of_getElem? (i := 295) (by decide +kernel)⟩
theorem lw_p8 : lw_okq (⟨"ToolCrib$Tape", "keep", "(II)V"⟩, 5) := ⟨⟨by decide +kernel, by decide +kernel⟩, List.mem_of_getElem? (i := 86) (by decide +kernel), List.mem_of_getElem? (i := 301) (by decide +kernel), List.mem_of_getElem? (i := 302) (by decide +kernel)⟩
theorem lw_p9 : lw_okq (⟨"ToolCrib$Reader", "readPart", "(I)V"⟩, 5) := ⟨⟨by decide +kernel, by decide +kernel⟩, List.mem_of_getElem? (i := 110) (by decide +kernel), List.mem_of_getElem? (i := 309) (by decide +kernel), List.mem_of_getElem? (i := 310) (by decide +kernel)⟩
theorem lw_p10 : lw_okq (⟨"ToolCrib$Reader", "expect", "(I)V"⟩, 5) := ⟨⟨by decide +kernel, by decide +kernel⟩, List.mem_of_getElem? (i := 110) (by decide +kernel), List.mem_of_getElem? (i := 313) (by decide +kernel), List.mem_of_getElem? (i := 314) (by decide +kernel)⟩
theorem lw_p11 : lw_okq (⟨"ToolCrib$Reader", "advance", "()V"⟩, 5) := ⟨⟨by decide +kernel, by decide +kernel⟩, List.mem_of_getElem? (i := 110) (by decide +kernel), List.mem_of_getElem? (i := 317) (by decide +kernel), List.mem_of_getElem? (i := 318) (by decide +kernel)⟩
theorem lw_p12 : lw_okq (⟨"ToolCrib$Reader", "refuse", "()V"⟩, 5) := ⟨⟨by decide +kernel, by decide +kernel⟩, List.mem_of_getElem? (i := 110) (by decide +kernel), List.mem_of_getElem? (i := 321) (by decide +kernel), List.mem_of_getElem? (i := 322) (by decide +kernel)⟩
theorem lw_p13 : lw_okq (⟨"ToolCrib$Reader", "readEither", "(I)V"⟩, 5) := ⟨⟨by decide +kernel, by decide +kernel⟩, List.mem_of_getElem? (i := 110) (by decide +kernel), List.mem_of_getElem? (i := 329) (by decide +kernel), List.mem_of_getElem? (i := 330) (by decide +kernel)⟩
theorem lw_p14 : lw_okq (⟨"ToolCrib$Reader", "readBoth", "(I)V"⟩, 5) := ⟨⟨by decide +kernel, by decide +kernel⟩, List.mem_of_getElem? (i := 110) (by decide +kernel), List.mem_of_getElem? (i := 333) (by decide +kernel), List.mem_of_getElem? (i := 334) (by decide +kernel)⟩
theorem lw_p15 : lw_okq (⟨"ToolCrib$Reader", "readNot", "(I)V"⟩, 5) := ⟨⟨by decide +kernel, by decide +kernel⟩, List.mem_of_getElem? (i := 110) (by decide +kernel), List.mem_of_getElem? (i := 337) (by decide +kernel), List.mem_of_getElem? (i := 338) (by decide +kernel)⟩
def lw_privs_1 : List (MethodName × Nat) := [(⟨"ToolCrib$Jobs", "forget", "()V"⟩, 5), (⟨"ToolCrib", "textOf", "(I)LToolCrib$Text;"⟩, 16), (⟨"ToolCrib$Tape", "isBegin", "(I)Z"⟩, 5), (⟨"ToolCrib$Tape", "byteAt", "(I)I"⟩, 5), (⟨"ToolCrib$Tape", "tokenFrom", "(I)I"⟩, 5), (⟨"ToolCrib$Tape", "wordOf", "(II)I"⟩, 5), (⟨"ToolCrib$Tape", "isWord", "(Ljava/lang/String;II)Z"⟩, 5), (⟨"ToolCrib$Tape", "numberOf", "(II)I"⟩, 5), (⟨"ToolCrib$Tape", "keep", "(II)V"⟩, 5), (⟨"ToolCrib$Reader", "readPart", "(I)V"⟩, 5), (⟨"ToolCrib$Reader", "expect", "(I)V"⟩, 5), (⟨"ToolCrib$Reader", "advance", "()V"⟩, 5), (⟨"ToolCrib$Reader", "refuse", "()V"⟩, 5), (⟨"ToolCrib$Reader", "readEither", "(I)V"⟩, 5), (⟨"ToolCrib$Reader", "readBoth", "(I)V"⟩, 5), (⟨"ToolCrib$Reader", "readNot", "(I)V"⟩, 5)]
theorem lw_r1 : ∀ q ∈ lw_privs_1, lw_okq q := List.forall_mem_cons.mpr ⟨lw_p0, List.forall_mem_cons.mpr ⟨lw_p1, List.forall_mem_cons.mpr ⟨lw_p2, List.forall_mem_cons.mpr ⟨lw_p3, List.forall_mem_cons.mpr ⟨lw_p4, List.forall_mem_cons.mpr ⟨lw_p5, List.forall_mem_cons.mpr ⟨lw_p6, List.forall_mem_cons.mpr ⟨lw_p7, List.forall_mem_cons.mpr ⟨lw_p8, List.forall_mem_cons.mpr ⟨lw_p9, List.forall_mem_cons.mpr ⟨lw_p10, List.forall_mem_cons.mpr ⟨lw_p11, List.forall_mem_cons.mpr ⟨lw_p12, List.forall_mem_cons.mpr ⟨lw_p13, List.forall_mem_cons.mpr ⟨lw_p14, List.forall_mem_cons.mpr ⟨lw_p15, fun _ h => absurd h List.not_mem_nil⟩⟩⟩⟩⟩⟩⟩⟩⟩⟩⟩⟩⟩⟩⟩⟩
theorem lw_p16 : lw_okq (⟨"ToolCrib$Reader", "mayOpen", "(I)Z"⟩, 5) := ⟨⟨by decide +kernel, by decide +kernel⟩, List.mem_of_getElem? (i := 110) (by decide +kernel), List.mem_of_getElem? (i := 341) (by decide +kernel), List.mem_of_getElem? (i := 342) (by decide +kernel)⟩
theorem lw_p17 : lw_okq (⟨"ToolCrib$Reader", "readSum", "(I)V"⟩, 5) := ⟨⟨by decide +kernel, by decide +kernel⟩, List.mem_of_getElem? (i := 110) (by decide +kernel), List.mem_of_getElem? (i := 349) (by decide +kernel), List.mem_of_getElem? (i := 350) (by decide +kernel)⟩
theorem lw_p18 : lw_okq (⟨"ToolCrib$Reader", "readTerm", "(I)V"⟩, 5) := ⟨⟨by decide +kernel, by decide +kernel⟩, List.mem_of_getElem? (i := 110) (by decide +kernel), List.mem_of_getElem? (i := 353) (by decide +kernel), List.mem_of_getElem? (i := 354) (by decide +kernel)⟩
theorem lw_p19 : lw_okq (⟨"ToolCrib$Reader", "readOne", "(I)V"⟩, 5) := ⟨⟨by decide +kernel, by decide +kernel⟩, List.mem_of_getElem? (i := 110) (by decide +kernel), List.mem_of_getElem? (i := 357) (by decide +kernel), List.mem_of_getElem? (i := 358) (by decide +kernel)⟩
theorem lw_p20 : lw_okq (⟨"ToolCrib$Reader", "accept", "(I)Z"⟩, 5) := ⟨⟨by decide +kernel, by decide +kernel⟩, List.mem_of_getElem? (i := 110) (by decide +kernel), List.mem_of_getElem? (i := 361) (by decide +kernel), List.mem_of_getElem? (i := 362) (by decide +kernel)⟩
theorem lw_p21 : lw_okq (⟨"ToolCrib", "edgeOf", "(I)LToolCrib$Edge;"⟩, 16) := ⟨⟨by decide +kernel, by decide +kernel⟩, List.mem_of_getElem? (i := 20) (by decide +kernel), List.mem_of_getElem? (i := 490) (by decide +kernel), List.mem_of_getElem? (i := 491) (by decide +kernel)⟩
theorem lw_p22 : lw_okq (⟨"ToolCrib", "toolOf", "(I)LToolCrib$Tool;"⟩, 16) := ⟨⟨by decide +kernel, by decide +kernel⟩, List.mem_of_getElem? (i := 20) (by decide +kernel), List.mem_of_getElem? (i := 585) (by decide +kernel), List.mem_of_getElem? (i := 586) (by decide +kernel)⟩
theorem lw_p23 : lw_okq (⟨"ToolCrib", "ruleFor", "(LToolCrib$Tool;I)I"⟩, 16) := ⟨⟨by decide +kernel, by decide +kernel⟩, List.mem_of_getElem? (i := 20) (by decide +kernel), List.mem_of_getElem? (i := 625) (by decide +kernel), List.mem_of_getElem? (i := 626) (by decide +kernel)⟩
theorem lw_p24 : lw_okq (⟨"ToolCrib", "machineOf", "(I)LToolCrib$Machine;"⟩, 16) := ⟨⟨by decide +kernel, by decide +kernel⟩, List.mem_of_getElem? (i := 20) (by decide +kernel), List.mem_of_getElem? (i := 675) (by decide +kernel), List.mem_of_getElem? (i := 676) (by decide +kernel)⟩
theorem lw_p25 : lw_okq (⟨"ToolCrib", "takerOf", "(II)I"⟩, 16) := ⟨⟨by decide +kernel, by decide +kernel⟩, List.mem_of_getElem? (i := 20) (by decide +kernel), List.mem_of_getElem? (i := 717) (by decide +kernel), List.mem_of_getElem? (i := 718) (by decide +kernel)⟩
theorem lw_p26 : lw_okq (⟨"ToolCrib$Jobs", "wantsAt", "(I)I"⟩, 5) := ⟨⟨by decide +kernel, by decide +kernel⟩, List.mem_of_getElem? (i := 56) (by decide +kernel), List.mem_of_getElem? (i := 763) (by decide +kernel), List.mem_of_getElem? (i := 764) (by decide +kernel)⟩
theorem lw_p27 : lw_okq (⟨"ToolCrib$Jobs", "outgoing", "(II)I"⟩, 5) := ⟨⟨by decide +kernel, by decide +kernel⟩, List.mem_of_getElem? (i := 56) (by decide +kernel), List.mem_of_getElem? (i := 768) (by decide +kernel), List.mem_of_getElem? (i := 769) (by decide +kernel)⟩
theorem lw_p28 : lw_okq (⟨"ToolCrib$Jobs", "findBest", "(I)V"⟩, 5) := ⟨⟨by decide +kernel, by decide +kernel⟩, List.mem_of_getElem? (i := 56) (by decide +kernel), List.mem_of_getElem? (i := 783) (by decide +kernel), List.mem_of_getElem? (i := 784) (by decide +kernel)⟩
theorem lw_p29 : lw_okq (⟨"ToolCrib$Jobs", "keepRow", "(II)V"⟩, 5) := ⟨⟨by decide +kernel, by decide +kernel⟩, List.mem_of_getElem? (i := 56) (by decide +kernel), List.mem_of_getElem? (i := 788) (by decide +kernel), List.mem_of_getElem? (i := 789) (by decide +kernel)⟩
theorem lw_p30 : lw_okq (⟨"ToolCrib$Jobs", "nextRow", "()Z"⟩, 5) := ⟨⟨by decide +kernel, by decide +kernel⟩, List.mem_of_getElem? (i := 56) (by decide +kernel), List.mem_of_getElem? (i := 792) (by decide +kernel), List.mem_of_getElem? (i := 793) (by decide +kernel)⟩
theorem lw_p31 : lw_okq (⟨"ToolCrib$Jobs", "swap", "(II)V"⟩, 5) := ⟨⟨by decide +kernel, by decide +kernel⟩, List.mem_of_getElem? (i := 56) (by decide +kernel), List.mem_of_getElem? (i := 796) (by decide +kernel), List.mem_of_getElem? (i := 797) (by decide +kernel)⟩
def lw_privs_2 : List (MethodName × Nat) := [(⟨"ToolCrib$Reader", "mayOpen", "(I)Z"⟩, 5), (⟨"ToolCrib$Reader", "readSum", "(I)V"⟩, 5), (⟨"ToolCrib$Reader", "readTerm", "(I)V"⟩, 5), (⟨"ToolCrib$Reader", "readOne", "(I)V"⟩, 5), (⟨"ToolCrib$Reader", "accept", "(I)Z"⟩, 5), (⟨"ToolCrib", "edgeOf", "(I)LToolCrib$Edge;"⟩, 16), (⟨"ToolCrib", "toolOf", "(I)LToolCrib$Tool;"⟩, 16), (⟨"ToolCrib", "ruleFor", "(LToolCrib$Tool;I)I"⟩, 16), (⟨"ToolCrib", "machineOf", "(I)LToolCrib$Machine;"⟩, 16), (⟨"ToolCrib", "takerOf", "(II)I"⟩, 16), (⟨"ToolCrib$Jobs", "wantsAt", "(I)I"⟩, 5), (⟨"ToolCrib$Jobs", "outgoing", "(II)I"⟩, 5), (⟨"ToolCrib$Jobs", "findBest", "(I)V"⟩, 5), (⟨"ToolCrib$Jobs", "keepRow", "(II)V"⟩, 5), (⟨"ToolCrib$Jobs", "nextRow", "()Z"⟩, 5), (⟨"ToolCrib$Jobs", "swap", "(II)V"⟩, 5)]
theorem lw_r2 : ∀ q ∈ lw_privs_2, lw_okq q := List.forall_mem_cons.mpr ⟨lw_p16, List.forall_mem_cons.mpr ⟨lw_p17, List.forall_mem_cons.mpr ⟨lw_p18, List.forall_mem_cons.mpr ⟨lw_p19, List.forall_mem_cons.mpr ⟨lw_p20, List.forall_mem_cons.mpr ⟨lw_p21, List.forall_mem_cons.mpr ⟨lw_p22, List.forall_mem_cons.mpr ⟨lw_p23, List.forall_mem_cons.mpr ⟨lw_p24, List.forall_mem_cons.mpr ⟨lw_p25, List.forall_mem_cons.mpr ⟨lw_p26, List.forall_mem_cons.mpr ⟨lw_p27, List.forall_mem_cons.mpr ⟨lw_p28, List.forall_mem_cons.mpr ⟨lw_p29, List.forall_mem_cons.mpr ⟨lw_p30, List.forall_mem_cons.mpr ⟨lw_p31, fun _ h => absurd h List.not_mem_nil⟩⟩⟩⟩⟩⟩⟩⟩⟩⟩⟩⟩⟩⟩⟩⟩
theorem lw_p32 : lw_okq (⟨"ToolCrib", "edgesNotGood", "()I"⟩, 16) := ⟨⟨by decide +kernel, by decide +kernel⟩, List.mem_of_getElem? (i := 20) (by decide +kernel), List.mem_of_getElem? (i := 808) (by decide +kernel), List.mem_of_getElem? (i := 809) (by decide +kernel)⟩
theorem lw_p33 : lw_okq (⟨"ToolCrib", "sheetOf", "(I)LToolCrib$Sheet;"⟩, 16) := ⟨⟨by decide +kernel, by decide +kernel⟩, List.mem_of_getElem? (i := 20) (by decide +kernel), List.mem_of_getElem? (i := 816) (by decide +kernel), List.mem_of_getElem? (i := 817) (by decide +kernel)⟩
theorem lw_p34 : lw_okq (⟨"ToolCrib", "cutBySheet", "(ILToolCrib$Sheet;II)I"⟩, 16) := ⟨⟨by decide +kernel, by decide +kernel⟩, List.mem_of_getElem? (i := 20) (by decide +kernel), List.mem_of_getElem? (i := 841) (by decide +kernel), List.mem_of_getElem? (i := 842) (by decide +kernel)⟩
theorem lw_p35 : lw_okq (⟨"ToolCribModel", "spell", "(IJ)V"⟩, 59) := ⟨⟨by decide +kernel, by decide +kernel⟩, List.mem_of_getElem? (i := 854) (by decide +kernel), List.mem_of_getElem? (i := 861) (by decide +kernel), List.mem_of_getElem? (i := 862) (by decide +kernel)⟩
theorem lw_p36 : lw_okq (⟨"ToolCribModel", "isEdge", "(I)Z"⟩, 59) := ⟨⟨by decide +kernel, by decide +kernel⟩, List.mem_of_getElem? (i := 854) (by decide +kernel), List.mem_of_getElem? (i := 1066) (by decide +kernel), List.mem_of_getElem? (i := 1067) (by decide +kernel)⟩
theorem lw_p37 : lw_okq (⟨"ToolCribModel", "wearOf", "(III)I"⟩, 59) := ⟨⟨by decide +kernel, by decide +kernel⟩, List.mem_of_getElem? (i := 854) (by decide +kernel), List.mem_of_getElem? (i := 1083) (by decide +kernel), List.mem_of_getElem? (i := 1084) (by decide +kernel)⟩
theorem lw_p38 : lw_okq (⟨"ToolCribModel", "fresh", "(I)V"⟩, 59) := ⟨⟨by decide +kernel, by decide +kernel⟩, List.mem_of_getElem? (i := 854) (by decide +kernel), List.mem_of_getElem? (i := 1091) (by decide +kernel), List.mem_of_getElem? (i := 1092) (by decide +kernel)⟩
theorem lw_p39 : lw_okq (⟨"ToolCribModel", "isTool", "(I)Z"⟩, 59) := ⟨⟨by decide +kernel, by decide +kernel⟩, List.mem_of_getElem? (i := 854) (by decide +kernel), List.mem_of_getElem? (i := 1111) (by decide +kernel), List.mem_of_getElem? (i := 1112) (by decide +kernel)⟩
theorem lw_p40 : lw_okq (⟨"ToolCribModel", "nominal", "(I)I"⟩, 59) := ⟨⟨by decide +kernel, by decide +kernel⟩, List.mem_of_getElem? (i := 854) (by decide +kernel), List.mem_of_getElem? (i := 1115) (by decide +kernel), List.mem_of_getElem? (i := 1116) (by decide +kernel)⟩
theorem lw_p41 : lw_okq (⟨"ToolCribModel", "reads", "(I)I"⟩, 59) := ⟨⟨by decide +kernel, by decide +kernel⟩, List.mem_of_getElem? (i := 854) (by decide +kernel), List.mem_of_getElem? (i := 1127) (by decide +kernel), List.mem_of_getElem? (i := 1128) (by decide +kernel)⟩
theorem lw_p42 : lw_okq (⟨"ToolCribModel", "read", "(II)I"⟩, 59) := ⟨⟨by decide +kernel, by decide +kernel⟩, List.mem_of_getElem? (i := 854) (by decide +kernel), List.mem_of_getElem? (i := 1143) (by decide +kernel), List.mem_of_getElem? (i := 1144) (by decide +kernel)⟩
theorem lw_p43 : lw_okq (⟨"ToolCribModel", "next", "()V"⟩, 59) := ⟨⟨by decide +kernel, by decide +kernel⟩, List.mem_of_getElem? (i := 854) (by decide +kernel), List.mem_of_getElem? (i := 1147) (by decide +kernel), List.mem_of_getElem? (i := 1148) (by decide +kernel)⟩
theorem lw_p44 : lw_okq (⟨"ToolCribModel", "byteAt", "(I)I"⟩, 59) := ⟨⟨by decide +kernel, by decide +kernel⟩, List.mem_of_getElem? (i := 854) (by decide +kernel), List.mem_of_getElem? (i := 1151) (by decide +kernel), List.mem_of_getElem? (i := 1152) (by decide +kernel)⟩
theorem lw_p45 : lw_okq (⟨"ToolCribModel", "part", "(J)I"⟩, 59) := ⟨⟨by decide +kernel, by decide +kernel⟩, List.mem_of_getElem? (i := 854) (by decide +kernel), List.mem_of_getElem? (i := 1161) (by decide +kernel), List.mem_of_getElem? (i := 1162) (by decide +kernel)⟩
theorem lw_p46 : lw_okq (⟨"ToolCribModel", "isWord", "(J)Z"⟩, 59) := ⟨⟨by decide +kernel, by decide +kernel⟩, List.mem_of_getElem? (i := 854) (by decide +kernel), List.mem_of_getElem? (i := 1165) (by decide +kernel), List.mem_of_getElem? (i := 1166) (by decide +kernel)⟩
theorem lw_p47 : lw_okq (⟨"ToolCribModel", "fail", "()V"⟩, 59) := ⟨⟨by decide +kernel, by decide +kernel⟩, List.mem_of_getElem? (i := 854) (by decide +kernel), List.mem_of_getElem? (i := 1169) (by decide +kernel), List.mem_of_getElem? (i := 1170) (by decide +kernel)⟩
def lw_privs_3 : List (MethodName × Nat) := [(⟨"ToolCrib", "edgesNotGood", "()I"⟩, 16), (⟨"ToolCrib", "sheetOf", "(I)LToolCrib$Sheet;"⟩, 16), (⟨"ToolCrib", "cutBySheet", "(ILToolCrib$Sheet;II)I"⟩, 16), (⟨"ToolCribModel", "spell", "(IJ)V"⟩, 59), (⟨"ToolCribModel", "isEdge", "(I)Z"⟩, 59), (⟨"ToolCribModel", "wearOf", "(III)I"⟩, 59), (⟨"ToolCribModel", "fresh", "(I)V"⟩, 59), (⟨"ToolCribModel", "isTool", "(I)Z"⟩, 59), (⟨"ToolCribModel", "nominal", "(I)I"⟩, 59), (⟨"ToolCribModel", "reads", "(I)I"⟩, 59), (⟨"ToolCribModel", "read", "(II)I"⟩, 59), (⟨"ToolCribModel", "next", "()V"⟩, 59), (⟨"ToolCribModel", "byteAt", "(I)I"⟩, 59), (⟨"ToolCribModel", "part", "(J)I"⟩, 59), (⟨"ToolCribModel", "isWord", "(J)Z"⟩, 59), (⟨"ToolCribModel", "fail", "()V"⟩, 59)]
theorem lw_r3 : ∀ q ∈ lw_privs_3, lw_okq q := List.forall_mem_cons.mpr ⟨lw_p32, List.forall_mem_cons.mpr ⟨lw_p33, List.forall_mem_cons.mpr ⟨lw_p34, List.forall_mem_cons.mpr ⟨lw_p35, List.forall_mem_cons.mpr ⟨lw_p36, List.forall_mem_cons.mpr ⟨lw_p37, List.forall_mem_cons.mpr ⟨lw_p38, List.forall_mem_cons.mpr ⟨lw_p39, List.forall_mem_cons.mpr ⟨lw_p40, List.forall_mem_cons.mpr ⟨lw_p41, List.forall_mem_cons.mpr ⟨lw_p42, List.forall_mem_cons.mpr ⟨lw_p43, List.forall_mem_cons.mpr ⟨lw_p44, List.forall_mem_cons.mpr ⟨lw_p45, List.forall_mem_cons.mpr ⟨lw_p46, List.forall_mem_cons.mpr ⟨lw_p47, fun _ h => absurd h List.not_mem_nil⟩⟩⟩⟩⟩⟩⟩⟩⟩⟩⟩⟩⟩⟩⟩⟩
theorem lw_p48 : lw_okq (⟨"ToolCribModel", "either", "()I"⟩, 59) := ⟨⟨by decide +kernel, by decide +kernel⟩, List.mem_of_getElem? (i := 854) (by decide +kernel), List.mem_of_getElem? (i := 1173) (by decide +kernel), List.mem_of_getElem? (i := 1174) (by decide +kernel)⟩
theorem lw_p49 : lw_okq (⟨"ToolCribModel", "both", "()I"⟩, 59) := ⟨⟨by decide +kernel, by decide +kernel⟩, List.mem_of_getElem? (i := 854) (by decide +kernel), List.mem_of_getElem? (i := 1177) (by decide +kernel), List.mem_of_getElem? (i := 1178) (by decide +kernel)⟩
theorem lw_p50 : lw_okq (⟨"ToolCribModel", "not", "()I"⟩, 59) := ⟨⟨by decide +kernel, by decide +kernel⟩, List.mem_of_getElem? (i := 854) (by decide +kernel), List.mem_of_getElem? (i := 1181) (by decide +kernel), List.mem_of_getElem? (i := 1182) (by decide +kernel)⟩
theorem lw_p51 : lw_okq (⟨"ToolCribModel", "opens", "()Z"⟩, 59) := ⟨⟨by decide +kernel, by decide +kernel⟩, List.mem_of_getElem? (i := 854) (by decide +kernel), List.mem_of_getElem? (i := 1186) (by decide +kernel), List.mem_of_getElem? (i := 1187) (by decide +kernel)⟩
theorem lw_p52 : lw_okq (⟨"ToolCribModel", "added", "()I"⟩, 59) := ⟨⟨by decide +kernel, by decide +kernel⟩, List.mem_of_getElem? (i := 854) (by decide +kernel), List.mem_of_getElem? (i := 1190) (by decide +kernel), List.mem_of_getElem? (i := 1191) (by decide +kernel)⟩
theorem lw_p53 : lw_okq (⟨"ToolCribModel", "term", "()I"⟩, 59) := ⟨⟨by decide +kernel, by decide +kernel⟩, List.mem_of_getElem? (i := 854) (by decide +kernel), List.mem_of_getElem? (i := 1194) (by decide +kernel), List.mem_of_getElem? (i := 1195) (by decide +kernel)⟩
theorem lw_p54 : lw_okq (⟨"ToolCribModel", "one", "()I"⟩, 59) := ⟨⟨by decide +kernel, by decide +kernel⟩, List.mem_of_getElem? (i := 854) (by decide +kernel), List.mem_of_getElem? (i := 1198) (by decide +kernel), List.mem_of_getElem? (i := 1199) (by decide +kernel)⟩
theorem lw_p55 : lw_okq (⟨"ToolCribModel", "isSign", "(I)Z"⟩, 59) := ⟨⟨by decide +kernel, by decide +kernel⟩, List.mem_of_getElem? (i := 854) (by decide +kernel), List.mem_of_getElem? (i := 1202) (by decide +kernel), List.mem_of_getElem? (i := 1203) (by decide +kernel)⟩
theorem lw_p56 : lw_okq (⟨"ToolCribModel", "name", "()I"⟩, 59) := ⟨⟨by decide +kernel, by decide +kernel⟩, List.mem_of_getElem? (i := 854) (by decide +kernel), List.mem_of_getElem? (i := 1206) (by decide +kernel), List.mem_of_getElem? (i := 1207) (by decide +kernel)⟩
theorem lw_p57 : lw_okq (⟨"ToolCribModel", "saysOf", "(II)I"⟩, 59) := ⟨⟨by decide +kernel, by decide +kernel⟩, List.mem_of_getElem? (i := 854) (by decide +kernel), List.mem_of_getElem? (i := 1230) (by decide +kernel), List.mem_of_getElem? (i := 1231) (by decide +kernel)⟩
theorem lw_p58 : lw_okq (⟨"ToolCribModel", "isMachine", "(I)Z"⟩, 59) := ⟨⟨by decide +kernel, by decide +kernel⟩, List.mem_of_getElem? (i := 854) (by decide +kernel), List.mem_of_getElem? (i := 1242) (by decide +kernel), List.mem_of_getElem? (i := 1243) (by decide +kernel)⟩
theorem lw_p59 : lw_okq (⟨"ToolCribModel", "isFree", "(III)Z"⟩, 59) := ⟨⟨by decide +kernel, by decide +kernel⟩, List.mem_of_getElem? (i := 854) (by decide +kernel), List.mem_of_getElem? (i := 1246) (by decide +kernel), List.mem_of_getElem? (i := 1247) (by decide +kernel)⟩
theorem lw_p60 : lw_okq (⟨"ToolCribModel", "cutBy", "(IIII)I"⟩, 59) := ⟨⟨by decide +kernel, by decide +kernel⟩, List.mem_of_getElem? (i := 854) (by decide +kernel), List.mem_of_getElem? (i := 1269) (by decide +kernel), List.mem_of_getElem? (i := 1270) (by decide +kernel)⟩
theorem lw_p61 : lw_okq (⟨"ToolCribModel", "isMore", "(II)Z"⟩, 59) := ⟨⟨by decide +kernel, by decide +kernel⟩, List.mem_of_getElem? (i := 854) (by decide +kernel), List.mem_of_getElem? (i := 1273) (by decide +kernel), List.mem_of_getElem? (i := 1274) (by decide +kernel)⟩
theorem lw_p62 : lw_okq (⟨"ToolCribModel", "goesOn", "(II)V"⟩, 59) := ⟨⟨by decide +kernel, by decide +kernel⟩, List.mem_of_getElem? (i := 854) (by decide +kernel), List.mem_of_getElem? (i := 1277) (by decide +kernel), List.mem_of_getElem? (i := 1278) (by decide +kernel)⟩
theorem lw_p63 : lw_okq (⟨"ToolCribModel", "isRoom", "(I)Z"⟩, 59) := ⟨⟨by decide +kernel, by decide +kernel⟩, List.mem_of_getElem? (i := 854) (by decide +kernel), List.mem_of_getElem? (i := 1293) (by decide +kernel), List.mem_of_getElem? (i := 1294) (by decide +kernel)⟩
def lw_privs_4 : List (MethodName × Nat) := [(⟨"ToolCribModel", "either", "()I"⟩, 59), (⟨"ToolCribModel", "both", "()I"⟩, 59), (⟨"ToolCribModel", "not", "()I"⟩, 59), (⟨"ToolCribModel", "opens", "()Z"⟩, 59), (⟨"ToolCribModel", "added", "()I"⟩, 59), (⟨"ToolCribModel", "term", "()I"⟩, 59), (⟨"ToolCribModel", "one", "()I"⟩, 59), (⟨"ToolCribModel", "isSign", "(I)Z"⟩, 59), (⟨"ToolCribModel", "name", "()I"⟩, 59), (⟨"ToolCribModel", "saysOf", "(II)I"⟩, 59), (⟨"ToolCribModel", "isMachine", "(I)Z"⟩, 59), (⟨"ToolCribModel", "isFree", "(III)Z"⟩, 59), (⟨"ToolCribModel", "cutBy", "(IIII)I"⟩, 59), (⟨"ToolCribModel", "isMore", "(II)Z"⟩, 59), (⟨"ToolCribModel", "goesOn", "(II)V"⟩, 59), (⟨"ToolCribModel", "isRoom", "(I)Z"⟩, 59)]
theorem lw_r4 : ∀ q ∈ lw_privs_4, lw_okq q := List.forall_mem_cons.mpr ⟨lw_p48, List.forall_mem_cons.mpr ⟨lw_p49, List.forall_mem_cons.mpr ⟨lw_p50, List.forall_mem_cons.mpr ⟨lw_p51, List.forall_mem_cons.mpr ⟨lw_p52, List.forall_mem_cons.mpr ⟨lw_p53, List.forall_mem_cons.mpr ⟨lw_p54, List.forall_mem_cons.mpr ⟨lw_p55, List.forall_mem_cons.mpr ⟨lw_p56, List.forall_mem_cons.mpr ⟨lw_p57, List.forall_mem_cons.mpr ⟨lw_p58, List.forall_mem_cons.mpr ⟨lw_p59, List.forall_mem_cons.mpr ⟨lw_p60, List.forall_mem_cons.mpr ⟨lw_p61, List.forall_mem_cons.mpr ⟨lw_p62, List.forall_mem_cons.mpr ⟨lw_p63, fun _ h => absurd h List.not_mem_nil⟩⟩⟩⟩⟩⟩⟩⟩⟩⟩⟩⟩⟩⟩⟩⟩
theorem lw_p64 : lw_okq (⟨"ToolCribModel", "changesOf", "(I)I"⟩, 59) := ⟨⟨by decide +kernel, by decide +kernel⟩, List.mem_of_getElem? (i := 854) (by decide +kernel), List.mem_of_getElem? (i := 1297) (by decide +kernel), List.mem_of_getElem? (i := 1298) (by decide +kernel)⟩
theorem lw_p65 : lw_okq (⟨"ToolCribModel", "nextOf", "(II)I"⟩, 59) := ⟨⟨by decide +kernel, by decide +kernel⟩, List.mem_of_getElem? (i := 854) (by decide +kernel), List.mem_of_getElem? (i := 1301) (by decide +kernel), List.mem_of_getElem? (i := 1302) (by decide +kernel)⟩
theorem lw_p66 : lw_okq (⟨"ToolCribModel", "goesUp", "()Z"⟩, 59) := ⟨⟨by decide +kernel, by decide +kernel⟩, List.mem_of_getElem? (i := 854) (by decide +kernel), List.mem_of_getElem? (i := 1309) (by decide +kernel), List.mem_of_getElem? (i := 1310) (by decide +kernel)⟩
def lw_privs_5 : List (MethodName × Nat) := [(⟨"ToolCribModel", "changesOf", "(I)I"⟩, 59), (⟨"ToolCribModel", "nextOf", "(II)I"⟩, 59), (⟨"ToolCribModel", "goesUp", "()Z"⟩, 59)]
theorem lw_r5 : ∀ q ∈ lw_privs_5, lw_okq q := List.forall_mem_cons.mpr ⟨lw_p64, List.forall_mem_cons.mpr ⟨lw_p65, List.forall_mem_cons.mpr ⟨lw_p66, fun _ h => absurd h List.not_mem_nil⟩⟩⟩
def lw_privs : List (MethodName × Nat) := lw_privs_1 ++ (lw_privs_2 ++ (lw_privs_3 ++ (lw_privs_4 ++ (lw_privs_5))))
def lw_tbl : List Cond := k2_sels lw_privs ++ tables_1
theorem lw_privs_ok : ∀ q ∈ lw_privs, lw_okq q := by
  show ∀ q ∈ lw_privs_1 ++ (lw_privs_2 ++ (lw_privs_3 ++ (lw_privs_4 ++ (lw_privs_5)))), lw_okq q
  exact List.forall_mem_append.mpr ⟨lw_r1, List.forall_mem_append.mpr ⟨lw_r2, List.forall_mem_append.mpr ⟨lw_r3, List.forall_mem_append.mpr ⟨lw_r4, lw_r5⟩⟩⟩⟩
-- ===== end of PART A; then your names; then what follows =====
end
section
def RX0 : String := "ToolCrib$Edge"
def TX0 : u_T := fun k => match k with
  | 0 => ("ToolCrib$Edge", "kind", "I", true)
  | 1 => ("ToolCrib$Edge", "least", "I", true)
  | 2 => ("ToolCrib$Edge", "life", "I", true)
  | 3 => ("ToolCrib$Edge", "trail", "[I", true)
  | 4 => ("ToolCrib$Edge", "trailSize", "I", false)
  | 5 => ("ToolCrib$Edge", "length", "I", false)
  | 6 => ("ToolCrib$Edge", "left", "I", false)
  | 7 => ("ToolCrib$Edge", "state", "I", false)
  | 8 => ("ToolCrib$Edge", "cutsDone", "I", false)
  | 9 => ("ToolCrib$Edge", "lastSpeed", "I", false)
  | 10 => ("ToolCrib$Edge", "lastStuff", "I", false)
  | 11 => ("ToolCrib$Edge", "inTool", "I", false)
  | _ => ("ToolCrib$Edge", "wearSoFar", "J", false)
def tyX0 : Nat → FieldType := fun k => match k with
  | 0 => .int
  | 1 => .int
  | 2 => .int
  | 3 => .array .int
  | 4 => .int
  | 5 => .int
  | 6 => .int
  | 7 => .int
  | 8 => .int
  | 9 => .int
  | 10 => .int
  | 11 => .int
  | _ => .long
theorem nmX0 : ∀ a, a < 13 → ∀ b, b < 13 → a ≠ b → (TX0 a).2.1 ≠ (TX0 b).2.1 := by decide +kernel
theorem tyX0_ok : ∀ k, k < 13 → parseFieldDescriptor (TX0 k).2.2.1 = some (tyX0 k) := by decide +kernel
abbrev cX0_init : ByteArray := prog_2_method_1_code
def yX0_init : MethodName := ⟨RX0, "<init>", "(IIIII)V"⟩
abbrev cX0_wearInAll : ByteArray := prog_2_method_2_code
def yX0_wearInAll : MethodName := ⟨RX0, "wearInAll", "()J"⟩
abbrev cX0_isMoreUsedThan : ByteArray := prog_2_method_3_code
def yX0_isMoreUsedThan : MethodName := ⟨RX0, "isMoreUsedThan", "(LToolCrib$Edge;)Z"⟩
abbrev cX0_renew : ByteArray := prog_2_method_4_code
def yX0_renew : MethodName := ⟨RX0, "renew", "()V"⟩
abbrev cX0_cutBy : ByteArray := prog_2_method_5_code
def yX0_cutBy : MethodName := ⟨RX0, "cutBy", "(III)V"⟩
abbrev cX0_trailAt : ByteArray := prog_2_method_6_code
def yX0_trailAt : MethodName := ⟨RX0, "trailAt", "(I)I"⟩
abbrev cX0_follow : ByteArray := prog_2_method_7_code
def yX0_follow : MethodName := ⟨RX0, "follow", "(I)V"⟩
def RX1 : String := "ToolCrib$Jobs"
def TX1 : u_T := fun k => match k with
  | 0 => ("ToolCrib$Jobs", "count", "I", false)
  | 1 => ("ToolCrib$Jobs", "wants", "[I", true)
  | 2 => ("ToolCrib$Jobs", "row", "[I", true)
  | 3 => ("ToolCrib$Jobs", "fewest", "[I", true)
  | _ => ("ToolCrib$Jobs", "best", "[[I", true)
def tyX1 : Nat → FieldType := fun k => match k with
  | 0 => .int
  | 1 => .array .int
  | 2 => .array .int
  | 3 => .array .int
  | _ => .array (.array .int)
theorem nmX1 : ∀ a, a < 5 → ∀ b, b < 5 → a ≠ b → (TX1 a).2.1 ≠ (TX1 b).2.1 := by decide +kernel
theorem tyX1_ok : ∀ k, k < 5 → parseFieldDescriptor (TX1 k).2.2.1 = some (tyX1 k) := by decide +kernel
abbrev cX1_init : ByteArray := prog_3_method_1_code
def yX1_init : MethodName := ⟨RX1, "<init>", "()V"⟩
abbrev cX1_forget : ByteArray := prog_3_method_2_code
def yX1_forget : MethodName := ⟨RX1, "forget", "()V"⟩
abbrev cX1_add : ByteArray := prog_3_method_3_code
def yX1_add : MethodName := ⟨RX1, "add", "(I)I"⟩
abbrev cX1_wantsAt : ByteArray := prog_3_method_4_code
def yX1_wantsAt : MethodName := ⟨RX1, "wantsAt", "(I)I"⟩
abbrev cX1_readOrder : ByteArray := prog_3_method_5_code
def yX1_readOrder : MethodName := ⟨RX1, "readOrder", "(J)Z"⟩
abbrev cX1_changesOfRow : ByteArray := prog_3_method_6_code
def yX1_changesOfRow : MethodName := ⟨RX1, "changesOfRow", "(I)I"⟩
abbrev cX1_outgoing : ByteArray := prog_3_method_7_code
def yX1_outgoing : MethodName := ⟨RX1, "outgoing", "(II)I"⟩
abbrev cX1_greatestOf : ByteArray := prog_3_method_8_code
def yX1_greatestOf : MethodName := ⟨RX1, "greatestOf", "(I)I"⟩
abbrev cX1_fewestChanges : ByteArray := prog_3_method_9_code
def yX1_fewestChanges : MethodName := ⟨RX1, "fewestChanges", "(I)I"⟩
abbrev cX1_bestAt : ByteArray := prog_3_method_10_code
def yX1_bestAt : MethodName := ⟨RX1, "bestAt", "(II)I"⟩
abbrev cX1_findBest : ByteArray := prog_3_method_11_code
def yX1_findBest : MethodName := ⟨RX1, "findBest", "(I)V"⟩
abbrev cX1_keepRow : ByteArray := prog_3_method_12_code
def yX1_keepRow : MethodName := ⟨RX1, "keepRow", "(II)V"⟩
abbrev cX1_nextRow : ByteArray := prog_3_method_13_code
def yX1_nextRow : MethodName := ⟨RX1, "nextRow", "()Z"⟩
abbrev cX1_swap : ByteArray := prog_3_method_14_code
def yX1_swap : MethodName := ⟨RX1, "swap", "(II)V"⟩
def RX2 : String := "ToolCrib$Machine"
def TX2 : u_T := fun k => match k with
  | 0 => ("ToolCrib$Machine", "speed", "I", true)
  | 1 => ("ToolCrib$Machine", "places", "I", true)
  | _ => ("ToolCrib$Machine", "held", "[I", true)
def tyX2 : Nat → FieldType := fun k => match k with
  | 0 => .int
  | 1 => .int
  | _ => .array .int
theorem nmX2 : ∀ a, a < 3 → ∀ b, b < 3 → a ≠ b → (TX2 a).2.1 ≠ (TX2 b).2.1 := by decide +kernel
theorem tyX2_ok : ∀ k, k < 3 → parseFieldDescriptor (TX2 k).2.2.1 = some (tyX2 k) := by decide +kernel
abbrev cX2_init : ByteArray := prog_4_method_1_code
def yX2_init : MethodName := ⟨RX2, "<init>", "(II)V"⟩
abbrev cX2_hasPlace : ByteArray := prog_4_method_2_code
def yX2_hasPlace : MethodName := ⟨RX2, "hasPlace", "(I)Z"⟩
abbrev cX2_heldAt : ByteArray := prog_4_method_3_code
def yX2_heldAt : MethodName := ⟨RX2, "heldAt", "(I)I"⟩
abbrev cX2_hasRoom : ByteArray := prog_4_method_4_code
def yX2_hasRoom : MethodName := ⟨RX2, "hasRoom", "(II)Z"⟩
abbrev cX2_leastRoom : ByteArray := prog_4_method_5_code
def yX2_leastRoom : MethodName := ⟨RX2, "leastRoom", "(I)I"⟩
abbrev cX2_hold : ByteArray := prog_4_method_6_code
def yX2_hold : MethodName := ⟨RX2, "hold", "(III)V"⟩
def RX3 : String := "ToolCrib$Reader"
def TX3 : u_T := fun k => match k with
  | 0 => ("ToolCrib$Reader", "tape", "LToolCrib$Tape;", true)
  | 1 => ("ToolCrib$Reader", "text", "LToolCrib$Text;", false)
  | 2 => ("ToolCrib$Reader", "at", "I", false)
  | 3 => ("ToolCrib$Reader", "token", "I", false)
  | _ => ("ToolCrib$Reader", "fault", "I", false)
def tyX3 : Nat → FieldType := fun k => match k with
  | 0 => .object "ToolCrib$Tape"
  | 1 => .object "ToolCrib$Text"
  | 2 => .int
  | 3 => .int
  | _ => .int
theorem nmX3 : ∀ a, a < 5 → ∀ b, b < 5 → a ≠ b → (TX3 a).2.1 ≠ (TX3 b).2.1 := by decide +kernel
theorem tyX3_ok : ∀ k, k < 5 → parseFieldDescriptor (TX3 k).2.2.1 = some (tyX3 k) := by decide +kernel
abbrev cX3_init : ByteArray := prog_5_method_1_code
def yX3_init : MethodName := ⟨RX3, "<init>", "(LToolCrib$Tape;)V"⟩
abbrev cX3_readInto : ByteArray := prog_5_method_2_code
def yX3_readInto : MethodName := ⟨RX3, "readInto", "(LToolCrib$Text;)I"⟩
abbrev cX3_readPart : ByteArray := prog_5_method_3_code
def yX3_readPart : MethodName := ⟨RX3, "readPart", "(I)V"⟩
abbrev cX3_readEither : ByteArray := prog_5_method_4_code
def yX3_readEither : MethodName := ⟨RX3, "readEither", "(I)V"⟩
abbrev cX3_readBoth : ByteArray := prog_5_method_5_code
def yX3_readBoth : MethodName := ⟨RX3, "readBoth", "(I)V"⟩
abbrev cX3_readNot : ByteArray := prog_5_method_6_code
def yX3_readNot : MethodName := ⟨RX3, "readNot", "(I)V"⟩
abbrev cX3_readSum : ByteArray := prog_5_method_7_code
def yX3_readSum : MethodName := ⟨RX3, "readSum", "(I)V"⟩
abbrev cX3_readTerm : ByteArray := prog_5_method_8_code
def yX3_readTerm : MethodName := ⟨RX3, "readTerm", "(I)V"⟩
abbrev cX3_readOne : ByteArray := prog_5_method_9_code
def yX3_readOne : MethodName := ⟨RX3, "readOne", "(I)V"⟩
abbrev cX3_mayOpen : ByteArray := prog_5_method_10_code
def yX3_mayOpen : MethodName := ⟨RX3, "mayOpen", "(I)Z"⟩
abbrev cX3_accept : ByteArray := prog_5_method_11_code
def yX3_accept : MethodName := ⟨RX3, "accept", "(I)Z"⟩
abbrev cX3_expect : ByteArray := prog_5_method_12_code
def yX3_expect : MethodName := ⟨RX3, "expect", "(I)V"⟩
abbrev cX3_refuse : ByteArray := prog_5_method_13_code
def yX3_refuse : MethodName := ⟨RX3, "refuse", "()V"⟩
abbrev cX3_advance : ByteArray := prog_5_method_14_code
def yX3_advance : MethodName := ⟨RX3, "advance", "()V"⟩
def RX4 : String := "ToolCrib$Setter"
def TX4 : u_T := fun k => match k with
  | 0 => ("ToolCrib$Setter", "off", "I", false)
  | 1 => ("ToolCrib$Setter", "drift", "I", false)
  | _ => ("ToolCrib$Setter", "offset", "I", false)
def tyX4 : Nat → FieldType := fun k => match k with
  | 0 => .int
  | 1 => .int
  | _ => .int
theorem nmX4 : ∀ a, a < 3 → ∀ b, b < 3 → a ≠ b → (TX4 a).2.1 ≠ (TX4 b).2.1 := by decide +kernel
theorem tyX4_ok : ∀ k, k < 3 → parseFieldDescriptor (TX4 k).2.2.1 = some (tyX4 k) := by decide +kernel
abbrev cX4_init : ByteArray := prog_6_method_1_code
def yX4_init : MethodName := ⟨RX4, "<init>", "()V"⟩
abbrev cX4_reads : ByteArray := prog_6_method_2_code
def yX4_reads : MethodName := ⟨RX4, "reads", "(I)I"⟩
def RX5 : String := "ToolCrib$Sheet"
def TX5 : u_T := fun k => match k with
  | 0 => ("ToolCrib$Sheet", "sort", "I", false)
  | 1 => ("ToolCrib$Sheet", "size", "I", false)
  | _ => ("ToolCrib$Sheet", "cells", "[I", true)
def tyX5 : Nat → FieldType := fun k => match k with
  | 0 => .int
  | 1 => .int
  | _ => .array .int
theorem nmX5 : ∀ a, a < 3 → ∀ b, b < 3 → a ≠ b → (TX5 a).2.1 ≠ (TX5 b).2.1 := by decide +kernel
theorem tyX5_ok : ∀ k, k < 3 → parseFieldDescriptor (TX5 k).2.2.1 = some (tyX5 k) := by decide +kernel
abbrev cX5_init : ByteArray := prog_7_method_1_code
def yX5_init : MethodName := ⟨RX5, "<init>", "()V"⟩
abbrev cX5_become : ByteArray := prog_7_method_2_code
def yX5_become : MethodName := ⟨RX5, "become", "(II)V"⟩
abbrev cX5_has : ByteArray := prog_7_method_3_code
def yX5_has : MethodName := ⟨RX5, "has", "(I)Z"⟩
abbrev cX5_get : ByteArray := prog_7_method_4_code
def yX5_get : MethodName := ⟨RX5, "get", "(I)I"⟩
abbrev cX5_set : ByteArray := prog_7_method_5_code
def yX5_set : MethodName := ⟨RX5, "set", "(II)V"⟩
def RX6 : String := "ToolCrib$Stack"
def TX6 : u_T := fun k => match k with
  | 0 => ("ToolCrib$Stack", "waiting", "[I", true)
  | _ => ("ToolCrib$Stack", "height", "I", false)
def tyX6 : Nat → FieldType := fun k => match k with
  | 0 => .array .int
  | _ => .int
theorem nmX6 : ∀ a, a < 2 → ∀ b, b < 2 → a ≠ b → (TX6 a).2.1 ≠ (TX6 b).2.1 := by decide +kernel
theorem tyX6_ok : ∀ k, k < 2 → parseFieldDescriptor (TX6 k).2.2.1 = some (tyX6 k) := by decide +kernel
abbrev cX6_init : ByteArray := prog_8_method_1_code
def yX6_init : MethodName := ⟨RX6, "<init>", "()V"⟩
abbrev cX6_clear : ByteArray := prog_8_method_2_code
def yX6_clear : MethodName := ⟨RX6, "clear", "()V"⟩
abbrev cX6_push : ByteArray := prog_8_method_3_code
def yX6_push : MethodName := ⟨RX6, "push", "(I)V"⟩
abbrev cX6_pop : ByteArray := prog_8_method_4_code
def yX6_pop : MethodName := ⟨RX6, "pop", "()I"⟩
def RX7 : String := "ToolCrib$Tape"
def TX7 : u_T := fun k => match k with
  | 0 => ("ToolCrib$Tape", "bytes", "[B", true)
  | 1 => ("ToolCrib$Tape", "tokens", "[I", true)
  | 2 => ("ToolCrib$Tape", "places", "[I", true)
  | 3 => ("ToolCrib$Tape", "size", "I", false)
  | _ => ("ToolCrib$Tape", "tokenCount", "I", false)
def tyX7 : Nat → FieldType := fun k => match k with
  | 0 => .array .byte
  | 1 => .array .int
  | 2 => .array .int
  | 3 => .int
  | _ => .int
theorem nmX7 : ∀ a, a < 5 → ∀ b, b < 5 → a ≠ b → (TX7 a).2.1 ≠ (TX7 b).2.1 := by decide +kernel
theorem tyX7_ok : ∀ k, k < 5 → parseFieldDescriptor (TX7 k).2.2.1 = some (tyX7 k) := by decide +kernel
abbrev cX7_init : ByteArray := prog_9_method_1_code
def yX7_init : MethodName := ⟨RX7, "<init>", "()V"⟩
abbrev cX7_add : ByteArray := prog_9_method_2_code
def yX7_add : MethodName := ⟨RX7, "add", "(B)V"⟩
abbrev cX7_empty : ByteArray := prog_9_method_3_code
def yX7_empty : MethodName := ⟨RX7, "empty", "()V"⟩
abbrev cX7_split : ByteArray := prog_9_method_4_code
def yX7_split : MethodName := ⟨RX7, "split", "()V"⟩
abbrev cX7_keep : ByteArray := prog_9_method_5_code
def yX7_keep : MethodName := ⟨RX7, "keep", "(II)V"⟩
abbrev cX7_tokenAt : ByteArray := prog_9_method_6_code
def yX7_tokenAt : MethodName := ⟨RX7, "tokenAt", "(I)I"⟩
abbrev cX7_placeAt : ByteArray := prog_9_method_7_code
def yX7_placeAt : MethodName := ⟨RX7, "placeAt", "(I)I"⟩
abbrev cX7_byteAt : ByteArray := prog_9_method_8_code
def yX7_byteAt : MethodName := ⟨RX7, "byteAt", "(I)I"⟩
abbrev cX7_isBegin : ByteArray := prog_9_method_9_code
def yX7_isBegin : MethodName := ⟨RX7, "isBegin", "(I)Z"⟩
abbrev cX7_isOneRun : ByteArray := prog_9_method_10_code
def yX7_isOneRun : MethodName := ⟨RX7, "isOneRun", "(II)Z"⟩
abbrev cX7_isLetter : ByteArray := prog_9_method_11_code
def yX7_isLetter : MethodName := ⟨RX7, "isLetter", "(I)Z"⟩
abbrev cX7_isDigit : ByteArray := prog_9_method_12_code
def yX7_isDigit : MethodName := ⟨RX7, "isDigit", "(I)Z"⟩
abbrev cX7_tokenFrom : ByteArray := prog_9_method_13_code
def yX7_tokenFrom : MethodName := ⟨RX7, "tokenFrom", "(I)I"⟩
abbrev cX7_numberOf : ByteArray := prog_9_method_14_code
def yX7_numberOf : MethodName := ⟨RX7, "numberOf", "(II)I"⟩
abbrev cX7_signOf : ByteArray := prog_9_method_15_code
def yX7_signOf : MethodName := ⟨RX7, "signOf", "(I)I"⟩
abbrev cX7_wordOf : ByteArray := prog_9_method_16_code
def yX7_wordOf : MethodName := ⟨RX7, "wordOf", "(II)I"⟩
abbrev cX7_isWord : ByteArray := prog_9_method_17_code
def yX7_isWord : MethodName := ⟨RX7, "isWord", "(Ljava/lang/String;II)Z"⟩
def RX8 : String := "ToolCrib$Text"
def TX8 : u_T := fun k => match k with
  | 0 => ("ToolCrib$Text", "steps", "[I", true)
  | 1 => ("ToolCrib$Text", "ends", "[I", true)
  | 2 => ("ToolCrib$Text", "size", "I", false)
  | _ => ("ToolCrib$Text", "closed", "I", false)
def tyX8 : Nat → FieldType := fun k => match k with
  | 0 => .array .int
  | 1 => .array .int
  | 2 => .int
  | _ => .int
theorem nmX8 : ∀ a, a < 4 → ∀ b, b < 4 → a ≠ b → (TX8 a).2.1 ≠ (TX8 b).2.1 := by decide +kernel
theorem tyX8_ok : ∀ k, k < 4 → parseFieldDescriptor (TX8 k).2.2.1 = some (tyX8 k) := by decide +kernel
abbrev cX8_init : ByteArray := prog_10_method_1_code
def yX8_init : MethodName := ⟨RX8, "<init>", "()V"⟩
abbrev cX8_clear : ByteArray := prog_10_method_2_code
def yX8_clear : MethodName := ⟨RX8, "clear", "()V"⟩
abbrev cX8_add : ByteArray := prog_10_method_3_code
def yX8_add : MethodName := ⟨RX8, "add", "(I)V"⟩
abbrev cX8_closePart : ByteArray := prog_10_method_4_code
def yX8_closePart : MethodName := ⟨RX8, "closePart", "()V"⟩
abbrev cX8_valueOf : ByteArray := prog_10_method_5_code
def yX8_valueOf : MethodName := ⟨RX8, "valueOf", "(I[ILToolCrib$Stack;)I"⟩
abbrev cX8_resultOf : ByteArray := prog_10_method_6_code
def yX8_resultOf : MethodName := ⟨RX8, "resultOf", "(I[ILToolCrib$Stack;)I"⟩
abbrev cX8_joined : ByteArray := prog_10_method_7_code
def yX8_joined : MethodName := ⟨RX8, "joined", "(III)I"⟩
def RX9 : String := "ToolCrib$Tool"
def TX9 : u_T := fun k => match k with
  | 0 => ("ToolCrib$Tool", "holder", "I", true)
  | 1 => ("ToolCrib$Tool", "edgeNumber", "I", true)
  | 2 => ("ToolCrib$Tool", "edge", "LToolCrib$Edge;", true)
  | 3 => ("ToolCrib$Tool", "size", "I", true)
  | 4 => ("ToolCrib$Tool", "family", "I", true)
  | 5 => ("ToolCrib$Tool", "measured", "I", false)
  | 6 => ("ToolCrib$Tool", "inMachine", "I", false)
  | _ => ("ToolCrib$Tool", "atPlace", "I", false)
def tyX9 : Nat → FieldType := fun k => match k with
  | 0 => .int
  | 1 => .int
  | 2 => .object "ToolCrib$Edge"
  | 3 => .int
  | 4 => .int
  | 5 => .int
  | 6 => .int
  | _ => .int
theorem nmX9 : ∀ a, a < 8 → ∀ b, b < 8 → a ≠ b → (TX9 a).2.1 ≠ (TX9 b).2.1 := by decide +kernel
theorem tyX9_ok : ∀ k, k < 8 → parseFieldDescriptor (TX9 k).2.2.1 = some (tyX9 k) := by decide +kernel
abbrev cX9_init : ByteArray := prog_11_method_1_code
def yX9_init : MethodName := ⟨RX9, "<init>", "(IILToolCrib$Edge;II)V"⟩
abbrev cX9_nominal : ByteArray := prog_11_method_2_code
def yX9_nominal : MethodName := ⟨RX9, "nominal", "()I"⟩
def RX10 : String := "ToolCrib"
def TX10 : u_T := fun k => match k with
  | 0 => ("ToolCrib", "edges", "[LToolCrib$Edge;", true)
  | 1 => ("ToolCrib", "tools", "[LToolCrib$Tool;", true)
  | 2 => ("ToolCrib", "machines", "[LToolCrib$Machine;", true)
  | 3 => ("ToolCrib", "texts", "[LToolCrib$Text;", true)
  | 4 => ("ToolCrib", "sheets", "[LToolCrib$Sheet;", true)
  | 5 => ("ToolCrib", "gauge", "LToolCrib$Setter;", true)
  | 6 => ("ToolCrib", "jobs", "LToolCrib$Jobs;", true)
  | 7 => ("ToolCrib", "tape", "LToolCrib$Tape;", true)
  | 8 => ("ToolCrib", "reader", "LToolCrib$Reader;", true)
  | 9 => ("ToolCrib", "stack", "LToolCrib$Stack;", true)
  | 10 => ("ToolCrib", "names", "[I", true)
  | 11 => ("ToolCrib", "edgeCount", "I", false)
  | 12 => ("ToolCrib", "toolCount", "I", false)
  | 13 => ("ToolCrib", "machineCount", "I", false)
  | 14 => ("ToolCrib", "textCount", "I", false)
  | _ => ("ToolCrib", "rule", "I", false)
def tyX10 : Nat → FieldType := fun k => match k with
  | 0 => .array (.object "ToolCrib$Edge")
  | 1 => .array (.object "ToolCrib$Tool")
  | 2 => .array (.object "ToolCrib$Machine")
  | 3 => .array (.object "ToolCrib$Text")
  | 4 => .array (.object "ToolCrib$Sheet")
  | 5 => .object "ToolCrib$Setter"
  | 6 => .object "ToolCrib$Jobs"
  | 7 => .object "ToolCrib$Tape"
  | 8 => .object "ToolCrib$Reader"
  | 9 => .object "ToolCrib$Stack"
  | 10 => .array .int
  | 11 => .int
  | 12 => .int
  | 13 => .int
  | 14 => .int
  | _ => .int
theorem nmX10 : ∀ a, a < 16 → ∀ b, b < 16 → a ≠ b → (TX10 a).2.1 ≠ (TX10 b).2.1 := by decide +kernel
theorem tyX10_ok : ∀ k, k < 16 → parseFieldDescriptor (TX10 k).2.2.1 = some (tyX10 k) := by decide +kernel
abbrev cX10_init : ByteArray := prog_1_method_1_code
def yX10_init : MethodName := ⟨RX10, "<init>", "()V"⟩
abbrev cX10_edge : ByteArray := prog_1_method_2_code
def yX10_edge : MethodName := ⟨RX10, "edge", "(IIIII)I"⟩
abbrev cX10_edgeTold : ByteArray := prog_1_method_3_code
def yX10_edgeTold : MethodName := ⟨RX10, "edgeTold", "(II)I"⟩
abbrev cX10_used : ByteArray := prog_1_method_4_code
def yX10_used : MethodName := ⟨RX10, "used", "(II)J"⟩
abbrev cX10_wear : ByteArray := prog_1_method_5_code
def yX10_wear : MethodName := ⟨RX10, "wear", "(III)I"⟩
abbrev cX10_turn : ByteArray := prog_1_method_6_code
def yX10_turn : MethodName := ⟨RX10, "turn", "(I)I"⟩
abbrev cX10_grind : ByteArray := prog_1_method_7_code
def yX10_grind : MethodName := ⟨RX10, "grind", "(II)I"⟩
abbrev cX10_trail : ByteArray := prog_1_method_8_code
def yX10_trail : MethodName := ⟨RX10, "trail", "(II)I"⟩
abbrev cX10_tool : ByteArray := prog_1_method_9_code
def yX10_tool : MethodName := ⟨RX10, "tool", "(IIII)I"⟩
abbrev cX10_toolTold : ByteArray := prog_1_method_10_code
def yX10_toolTold : MethodName := ⟨RX10, "toolTold", "(II)I"⟩
abbrev cX10_setter : ByteArray := prog_1_method_11_code
def yX10_setter : MethodName := ⟨RX10, "setter", "(II)I"⟩
abbrev cX10_calibrate : ByteArray := prog_1_method_12_code
def yX10_calibrate : MethodName := ⟨RX10, "calibrate", "(I)I"⟩
abbrev cX10_measure : ByteArray := prog_1_method_13_code
def yX10_measure : MethodName := ⟨RX10, "measure", "(I)I"⟩
abbrev cX10_feed : ByteArray := prog_1_method_14_code
def yX10_feed : MethodName := ⟨RX10, "feed", "(IJ)I"⟩
abbrev cX10_text : ByteArray := prog_1_method_15_code
def yX10_text : MethodName := ⟨RX10, "text", "()I"⟩
abbrev cX10_force : ByteArray := prog_1_method_16_code
def yX10_force : MethodName := ⟨RX10, "force", "(I)I"⟩
abbrev cX10_says : ByteArray := prog_1_method_17_code
def yX10_says : MethodName := ⟨RX10, "says", "(II)J"⟩
abbrev cX10_machine : ByteArray := prog_1_method_18_code
def yX10_machine : MethodName := ⟨RX10, "machine", "(II)I"⟩
abbrev cX10_put : ByteArray := prog_1_method_19_code
def yX10_put : MethodName := ⟨RX10, "put", "(III)I"⟩
abbrev cX10_take : ByteArray := prog_1_method_20_code
def yX10_take : MethodName := ⟨RX10, "take", "(I)I"⟩
abbrev cX10_at : ByteArray := prog_1_method_21_code
def yX10_at : MethodName := ⟨RX10, "at", "(II)I"⟩
abbrev cX10_room : ByteArray := prog_1_method_22_code
def yX10_room : MethodName := ⟨RX10, "room", "(II)I"⟩
abbrev cX10_cut : ByteArray := prog_1_method_23_code
def yX10_cut : MethodName := ⟨RX10, "cut", "(IIII)I"⟩
abbrev cX10_job : ByteArray := prog_1_method_24_code
def yX10_job : MethodName := ⟨RX10, "job", "(I)I"⟩
abbrev cX10_changes : ByteArray := prog_1_method_25_code
def yX10_changes : MethodName := ⟨RX10, "changes", "(JI)I"⟩
abbrev cX10_order : ByteArray := prog_1_method_26_code
def yX10_order : MethodName := ⟨RX10, "order", "(II)I"⟩
abbrev cX10_count : ByteArray := prog_1_method_27_code
def yX10_count : MethodName := ⟨RX10, "count", "(I)I"⟩
abbrev cX10_sheet : ByteArray := prog_1_method_28_code
def yX10_sheet : MethodName := ⟨RX10, "sheet", "(III)I"⟩
abbrev cX10_cell : ByteArray := prog_1_method_29_code
def yX10_cell : MethodName := ⟨RX10, "cell", "(III)I"⟩
abbrev cX10_cuts : ByteArray := prog_1_method_30_code
def yX10_cuts : MethodName := ⟨RX10, "cuts", "(IIIII)I"⟩
abbrev cX10_taken : ByteArray := prog_1_method_31_code
def yX10_taken : MethodName := ⟨RX10, "taken", "(II)I"⟩
abbrev cX10_within : ByteArray := prog_1_method_32_code
def yX10_within : MethodName := ⟨RX10, "within", "(III)Z"⟩
abbrev cX10_isFamily : ByteArray := prog_1_method_33_code
def yX10_isFamily : MethodName := ⟨RX10, "isFamily", "(I)Z"⟩
abbrev cX10_edgeOf : ByteArray := prog_1_method_34_code
def yX10_edgeOf : MethodName := ⟨RX10, "edgeOf", "(I)LToolCrib$Edge;"⟩
abbrev cX10_toolOf : ByteArray := prog_1_method_35_code
def yX10_toolOf : MethodName := ⟨RX10, "toolOf", "(I)LToolCrib$Tool;"⟩
abbrev cX10_textOf : ByteArray := prog_1_method_36_code
def yX10_textOf : MethodName := ⟨RX10, "textOf", "(I)LToolCrib$Text;"⟩
abbrev cX10_machineOf : ByteArray := prog_1_method_37_code
def yX10_machineOf : MethodName := ⟨RX10, "machineOf", "(I)LToolCrib$Machine;"⟩
abbrev cX10_sheetOf : ByteArray := prog_1_method_38_code
def yX10_sheetOf : MethodName := ⟨RX10, "sheetOf", "(I)LToolCrib$Sheet;"⟩
abbrev cX10_isUnder : ByteArray := prog_1_method_39_code
def yX10_isUnder : MethodName := ⟨RX10, "isUnder", "(II)Z"⟩
abbrev cX10_wearOf : ByteArray := prog_1_method_40_code
def yX10_wearOf : MethodName := ⟨RX10, "wearOf", "(III)I"⟩
abbrev cX10_commonDivisor : ByteArray := prog_1_method_41_code
def yX10_commonDivisor : MethodName := ⟨RX10, "commonDivisor", "(JJ)J"⟩
abbrev cX10_edgesNotGood : ByteArray := prog_1_method_42_code
def yX10_edgesNotGood : MethodName := ⟨RX10, "edgesNotGood", "()I"⟩
abbrev cX10_ruleFor : ByteArray := prog_1_method_43_code
def yX10_ruleFor : MethodName := ⟨RX10, "ruleFor", "(LToolCrib$Tool;I)I"⟩
abbrev cX10_takerOf : ByteArray := prog_1_method_44_code
def yX10_takerOf : MethodName := ⟨RX10, "takerOf", "(II)I"⟩
abbrev cX10_cutBySheet : ByteArray := prog_1_method_45_code
def yX10_cutBySheet : MethodName := ⟨RX10, "cutBySheet", "(ILToolCrib$Sheet;II)I"⟩
def RX11 : String := "ToolCribModel"
def TX11 : u_T := fun k => match k with
  | 0 => ("ToolCribModel", "thrown", "I", false)
  | 1 => ("ToolCribModel", "edges", "I", false)
  | 2 => ("ToolCribModel", "kind", "[I", true)
  | 3 => ("ToolCribModel", "length", "[I", true)
  | 4 => ("ToolCribModel", "least", "[I", true)
  | 5 => ("ToolCribModel", "cornersLeft", "[I", true)
  | 6 => ("ToolCribModel", "life", "[I", true)
  | 7 => ("ToolCribModel", "state", "[I", true)
  | 8 => ("ToolCribModel", "cutsDone", "[I", true)
  | 9 => ("ToolCribModel", "wearDone", "[J", true)
  | 10 => ("ToolCribModel", "lastSpeed", "[I", true)
  | 11 => ("ToolCribModel", "lastStuff", "[I", true)
  | 12 => ("ToolCribModel", "toolOf", "[I", true)
  | 13 => ("ToolCribModel", "trails", "[I", true)
  | 14 => ("ToolCribModel", "trailSize", "[I", true)
  | 15 => ("ToolCribModel", "tools", "I", false)
  | 16 => ("ToolCribModel", "holder", "[I", true)
  | 17 => ("ToolCribModel", "edgeOf", "[I", true)
  | 18 => ("ToolCribModel", "wide", "[I", true)
  | 19 => ("ToolCribModel", "family", "[I", true)
  | 20 => ("ToolCribModel", "measured", "[I", true)
  | 21 => ("ToolCribModel", "machineOf", "[I", true)
  | 22 => ("ToolCribModel", "placeOf", "[I", true)
  | 23 => ("ToolCribModel", "off", "I", false)
  | 24 => ("ToolCribModel", "drift", "I", false)
  | 25 => ("ToolCribModel", "offset", "I", false)
  | 26 => ("ToolCribModel", "texts", "[I", true)
  | 27 => ("ToolCribModel", "textSize", "[I", true)
  | 28 => ("ToolCribModel", "textCount", "I", false)
  | 29 => ("ToolCribModel", "rule", "I", false)
  | 30 => ("ToolCribModel", "tape", "[I", true)
  | 31 => ("ToolCribModel", "taped", "I", false)
  | 32 => ("ToolCribModel", "from", "I", false)
  | 33 => ("ToolCribModel", "size", "I", false)
  | 34 => ("ToolCribModel", "token", "I", false)
  | 35 => ("ToolCribModel", "tokenAt", "I", false)
  | 36 => ("ToolCribModel", "tokenWorth", "J", false)
  | 37 => ("ToolCribModel", "here", "I", false)
  | 38 => ("ToolCribModel", "open", "I", false)
  | 39 => ("ToolCribModel", "bad", "Z", false)
  | 40 => ("ToolCribModel", "fault", "I", false)
  | 41 => ("ToolCribModel", "valueCuts", "I", false)
  | 42 => ("ToolCribModel", "valueSpeed", "I", false)
  | 43 => ("ToolCribModel", "valueStuff", "I", false)
  | 44 => ("ToolCribModel", "valueLife", "I", false)
  | 45 => ("ToolCribModel", "valueReading", "I", false)
  | 46 => ("ToolCribModel", "valueNominal", "I", false)
  | 47 => ("ToolCribModel", "machines", "I", false)
  | 48 => ("ToolCribModel", "speed", "[I", true)
  | 49 => ("ToolCribModel", "places", "[I", true)
  | 50 => ("ToolCribModel", "held", "[I", true)
  | 51 => ("ToolCribModel", "jobs", "I", false)
  | 52 => ("ToolCribModel", "wants", "[I", true)
  | 53 => ("ToolCribModel", "row", "[I", true)
  | 54 => ("ToolCribModel", "bestRow", "[I", true)
  | 55 => ("ToolCribModel", "isThere", "[Z", true)
  | 56 => ("ToolCribModel", "sorts", "[I", true)
  | 57 => ("ToolCribModel", "sheetSize", "[I", true)
  | _ => ("ToolCribModel", "items", "[I", true)
def tyX11 : Nat → FieldType := fun k => match k with
  | 0 => .int
  | 1 => .int
  | 2 => .array .int
  | 3 => .array .int
  | 4 => .array .int
  | 5 => .array .int
  | 6 => .array .int
  | 7 => .array .int
  | 8 => .array .int
  | 9 => .array .long
  | 10 => .array .int
  | 11 => .array .int
  | 12 => .array .int
  | 13 => .array .int
  | 14 => .array .int
  | 15 => .int
  | 16 => .array .int
  | 17 => .array .int
  | 18 => .array .int
  | 19 => .array .int
  | 20 => .array .int
  | 21 => .array .int
  | 22 => .array .int
  | 23 => .int
  | 24 => .int
  | 25 => .int
  | 26 => .array .int
  | 27 => .array .int
  | 28 => .int
  | 29 => .int
  | 30 => .array .int
  | 31 => .int
  | 32 => .int
  | 33 => .int
  | 34 => .int
  | 35 => .int
  | 36 => .long
  | 37 => .int
  | 38 => .int
  | 39 => .boolean
  | 40 => .int
  | 41 => .int
  | 42 => .int
  | 43 => .int
  | 44 => .int
  | 45 => .int
  | 46 => .int
  | 47 => .int
  | 48 => .array .int
  | 49 => .array .int
  | 50 => .array .int
  | 51 => .int
  | 52 => .array .int
  | 53 => .array .int
  | 54 => .array .int
  | 55 => .array .boolean
  | 56 => .array .int
  | 57 => .array .int
  | _ => .array .int
theorem nmX11 : ∀ a, a < 59 → ∀ b, b < 59 → a ≠ b → (TX11 a).2.1 ≠ (TX11 b).2.1 := by decide +kernel
theorem tyX11_ok : ∀ k, k < 59 → parseFieldDescriptor (TX11 k).2.2.1 = some (tyX11 k) := by decide +kernel
abbrev cX11_in : ByteArray := prog_13_method_2_code
def yX11_in : MethodName := ⟨RX11, "in", "(III)Z"⟩
abbrev cX11_init : ByteArray := prog_13_method_3_code
def yX11_init : MethodName := ⟨RX11, "<init>", "()V"⟩
abbrev cX11_spell : ByteArray := prog_13_method_4_code
def yX11_spell : MethodName := ⟨RX11, "spell", "(IJ)V"⟩
abbrev cX11_isEdge : ByteArray := prog_13_method_5_code
def yX11_isEdge : MethodName := ⟨RX11, "isEdge", "(I)Z"⟩
abbrev cX11_hasCorners : ByteArray := prog_13_method_6_code
def yX11_hasCorners : MethodName := ⟨RX11, "hasCorners", "(I)Z"⟩
abbrev cX11_edge : ByteArray := prog_13_method_7_code
def yX11_edge : MethodName := ⟨RX11, "edge", "(IIIII)I"⟩
abbrev cX11_edgeTold : ByteArray := prog_13_method_8_code
def yX11_edgeTold : MethodName := ⟨RX11, "edgeTold", "(II)I"⟩
abbrev cX11_divisor : ByteArray := prog_13_method_9_code
def yX11_divisor : MethodName := ⟨RX11, "divisor", "(JJ)J"⟩
abbrev cX11_used : ByteArray := prog_13_method_10_code
def yX11_used : MethodName := ⟨RX11, "used", "(II)J"⟩
abbrev cX11_wearOf : ByteArray := prog_13_method_11_code
def yX11_wearOf : MethodName := ⟨RX11, "wearOf", "(III)I"⟩
abbrev cX11_wear : ByteArray := prog_13_method_12_code
def yX11_wear : MethodName := ⟨RX11, "wear", "(III)I"⟩
abbrev cX11_fresh : ByteArray := prog_13_method_13_code
def yX11_fresh : MethodName := ⟨RX11, "fresh", "(I)V"⟩
abbrev cX11_turn : ByteArray := prog_13_method_14_code
def yX11_turn : MethodName := ⟨RX11, "turn", "(I)I"⟩
abbrev cX11_grind : ByteArray := prog_13_method_15_code
def yX11_grind : MethodName := ⟨RX11, "grind", "(II)I"⟩
abbrev cX11_trail : ByteArray := prog_13_method_16_code
def yX11_trail : MethodName := ⟨RX11, "trail", "(II)I"⟩
abbrev cX11_goesOn : ByteArray := prog_13_method_17_code
def yX11_goesOn : MethodName := ⟨RX11, "goesOn", "(II)V"⟩
abbrev cX11_isTool : ByteArray := prog_13_method_18_code
def yX11_isTool : MethodName := ⟨RX11, "isTool", "(I)Z"⟩
abbrev cX11_tool : ByteArray := prog_13_method_19_code
def yX11_tool : MethodName := ⟨RX11, "tool", "(IIII)I"⟩
abbrev cX11_nominal : ByteArray := prog_13_method_20_code
def yX11_nominal : MethodName := ⟨RX11, "nominal", "(I)I"⟩
abbrev cX11_toolTold : ByteArray := prog_13_method_21_code
def yX11_toolTold : MethodName := ⟨RX11, "toolTold", "(II)I"⟩
abbrev cX11_setter : ByteArray := prog_13_method_22_code
def yX11_setter : MethodName := ⟨RX11, "setter", "(II)I"⟩
abbrev cX11_reads : ByteArray := prog_13_method_23_code
def yX11_reads : MethodName := ⟨RX11, "reads", "(I)I"⟩
abbrev cX11_calibrate : ByteArray := prog_13_method_24_code
def yX11_calibrate : MethodName := ⟨RX11, "calibrate", "(I)I"⟩
abbrev cX11_measure : ByteArray := prog_13_method_25_code
def yX11_measure : MethodName := ⟨RX11, "measure", "(I)I"⟩
abbrev cX11_feed : ByteArray := prog_13_method_26_code
def yX11_feed : MethodName := ⟨RX11, "feed", "(IJ)I"⟩
abbrev cX11_byteAt : ByteArray := prog_13_method_27_code
def yX11_byteAt : MethodName := ⟨RX11, "byteAt", "(I)I"⟩
abbrev cX11_next : ByteArray := prog_13_method_28_code
def yX11_next : MethodName := ⟨RX11, "next", "()V"⟩
abbrev cX11_fail : ByteArray := prog_13_method_29_code
def yX11_fail : MethodName := ⟨RX11, "fail", "()V"⟩
abbrev cX11_isWord : ByteArray := prog_13_method_30_code
def yX11_isWord : MethodName := ⟨RX11, "isWord", "(J)Z"⟩
abbrev cX11_isSign : ByteArray := prog_13_method_31_code
def yX11_isSign : MethodName := ⟨RX11, "isSign", "(I)Z"⟩
abbrev cX11_opens : ByteArray := prog_13_method_32_code
def yX11_opens : MethodName := ⟨RX11, "opens", "()Z"⟩
abbrev cX11_name : ByteArray := prog_13_method_33_code
def yX11_name : MethodName := ⟨RX11, "name", "()I"⟩
abbrev cX11_one : ByteArray := prog_13_method_34_code
def yX11_one : MethodName := ⟨RX11, "one", "()I"⟩
abbrev cX11_term : ByteArray := prog_13_method_35_code
def yX11_term : MethodName := ⟨RX11, "term", "()I"⟩
abbrev cX11_added : ByteArray := prog_13_method_36_code
def yX11_added : MethodName := ⟨RX11, "added", "()I"⟩
abbrev cX11_not : ByteArray := prog_13_method_37_code
def yX11_not : MethodName := ⟨RX11, "not", "()I"⟩
abbrev cX11_both : ByteArray := prog_13_method_38_code
def yX11_both : MethodName := ⟨RX11, "both", "()I"⟩
abbrev cX11_either : ByteArray := prog_13_method_39_code
def yX11_either : MethodName := ⟨RX11, "either", "()I"⟩
abbrev cX11_part : ByteArray := prog_13_method_40_code
def yX11_part : MethodName := ⟨RX11, "part", "(J)I"⟩
abbrev cX11_read : ByteArray := prog_13_method_41_code
def yX11_read : MethodName := ⟨RX11, "read", "(II)I"⟩
abbrev cX11_saysOf : ByteArray := prog_13_method_42_code
def yX11_saysOf : MethodName := ⟨RX11, "saysOf", "(II)I"⟩
abbrev cX11_text : ByteArray := prog_13_method_43_code
def yX11_text : MethodName := ⟨RX11, "text", "()I"⟩
abbrev cX11_force : ByteArray := prog_13_method_44_code
def yX11_force : MethodName := ⟨RX11, "force", "(I)I"⟩
abbrev cX11_says : ByteArray := prog_13_method_45_code
def yX11_says : MethodName := ⟨RX11, "says", "(II)J"⟩
abbrev cX11_isMachine : ByteArray := prog_13_method_46_code
def yX11_isMachine : MethodName := ⟨RX11, "isMachine", "(I)Z"⟩
abbrev cX11_machine : ByteArray := prog_13_method_47_code
def yX11_machine : MethodName := ⟨RX11, "machine", "(II)I"⟩
abbrev cX11_isFree : ByteArray := prog_13_method_48_code
def yX11_isFree : MethodName := ⟨RX11, "isFree", "(III)Z"⟩
abbrev cX11_put : ByteArray := prog_13_method_49_code
def yX11_put : MethodName := ⟨RX11, "put", "(III)I"⟩
abbrev cX11_take : ByteArray := prog_13_method_50_code
def yX11_take : MethodName := ⟨RX11, "take", "(I)I"⟩
abbrev cX11_at : ByteArray := prog_13_method_51_code
def yX11_at : MethodName := ⟨RX11, "at", "(II)I"⟩
abbrev cX11_room : ByteArray := prog_13_method_52_code
def yX11_room : MethodName := ⟨RX11, "room", "(II)I"⟩
abbrev cX11_isMore : ByteArray := prog_13_method_53_code
def yX11_isMore : MethodName := ⟨RX11, "isMore", "(II)Z"⟩
abbrev cX11_cutBy : ByteArray := prog_13_method_54_code
def yX11_cutBy : MethodName := ⟨RX11, "cutBy", "(IIII)I"⟩
abbrev cX11_isCut : ByteArray := prog_13_method_55_code
def yX11_isCut : MethodName := ⟨RX11, "isCut", "(III)Z"⟩
abbrev cX11_cut : ByteArray := prog_13_method_56_code
def yX11_cut : MethodName := ⟨RX11, "cut", "(IIII)I"⟩
abbrev cX11_bits : ByteArray := prog_13_method_57_code
def yX11_bits : MethodName := ⟨RX11, "bits", "(I)I"⟩
abbrev cX11_job : ByteArray := prog_13_method_58_code
def yX11_job : MethodName := ⟨RX11, "job", "(I)I"⟩
abbrev cX11_isRoom : ByteArray := prog_13_method_59_code
def yX11_isRoom : MethodName := ⟨RX11, "isRoom", "(I)Z"⟩
abbrev cX11_nextOf : ByteArray := prog_13_method_60_code
def yX11_nextOf : MethodName := ⟨RX11, "nextOf", "(II)I"⟩
abbrev cX11_changesOf : ByteArray := prog_13_method_61_code
def yX11_changesOf : MethodName := ⟨RX11, "changesOf", "(I)I"⟩
abbrev cX11_changes : ByteArray := prog_13_method_62_code
def yX11_changes : MethodName := ⟨RX11, "changes", "(JI)I"⟩
abbrev cX11_goesUp : ByteArray := prog_13_method_63_code
def yX11_goesUp : MethodName := ⟨RX11, "goesUp", "()Z"⟩
abbrev cX11_order : ByteArray := prog_13_method_64_code
def yX11_order : MethodName := ⟨RX11, "order", "(II)I"⟩
abbrev cX11_count : ByteArray := prog_13_method_65_code
def yX11_count : MethodName := ⟨RX11, "count", "(I)I"⟩
abbrev cX11_isSheet : ByteArray := prog_13_method_66_code
def yX11_isSheet : MethodName := ⟨RX11, "isSheet", "(I)Z"⟩
abbrev cX11_sheet : ByteArray := prog_13_method_67_code
def yX11_sheet : MethodName := ⟨RX11, "sheet", "(III)I"⟩
abbrev cX11_cell : ByteArray := prog_13_method_68_code
def yX11_cell : MethodName := ⟨RX11, "cell", "(III)I"⟩
abbrev cX11_cuts : ByteArray := prog_13_method_69_code
def yX11_cuts : MethodName := ⟨RX11, "cuts", "(IIIII)I"⟩
abbrev cX11_over : ByteArray := prog_13_method_70_code
def yX11_over : MethodName := ⟨RX11, "over", "(I)I"⟩
abbrev cX11_taken : ByteArray := prog_13_method_71_code
def yX11_taken : MethodName := ⟨RX11, "taken", "(II)I"⟩
def RJ6 : String := "java/lang/Integer"
def TJ6 : u_T := fun k => match k with
  | _ => ("", "", "", false)
def tyJ6 : Nat → FieldType := fun k => match k with
  | _ => .int
abbrev cJ6_bitCount_0f7a4 : ByteArray := prog_14_method_49_code
def yJ6_bitCount_0f7a4 : MethodName := ⟨RJ6, "bitCount", "(I)I"⟩
def RJ9 : String := "java/lang/Math"
def TJ9 : u_T := fun k => match k with
  | _ => ("", "", "", false)
def tyJ9 : Nat → FieldType := fun k => match k with
  | _ => .int
abbrev cJ9_max_7cf53 : ByteArray := prog_15_method_65_code
def yJ9_max_7cf53 : MethodName := ⟨RJ9, "max", "(II)I"⟩
def RJ0 : String := "java/lang/String"
def TJ0 : u_T := fun k => match k with
  | _ => ("", "", "", false)
def tyJ0 : Nat → FieldType := fun k => match k with
  | _ => .int
abbrev cJ0_length_8abf5 : ByteArray := prog_16_method_54_code
def yJ0_length_8abf5 : MethodName := ⟨RJ0, "length", "()I"⟩
abbrev cJ0_charAt_5068e : ByteArray := prog_16_method_56_code
def yJ0_charAt_5068e : MethodName := ⟨RJ0, "charAt", "(I)C"⟩
abbrev cJ0_coder_7d493 : ByteArray := prog_16_method_152_code
def yJ0_coder_7d493 : MethodName := ⟨RJ0, "coder", "()B"⟩
abbrev cJ0_isLatin1_aae02 : ByteArray := prog_16_method_154_code
def yJ0_isLatin1_aae02 : MethodName := ⟨RJ0, "isLatin1", "()Z"⟩
abbrev cJ0_checkIndex_df160 : ByteArray := prog_16_method_155_code
def yJ0_checkIndex_df160 : MethodName := ⟨RJ0, "checkIndex", "(II)V"⟩
def RJ1 : String := "java/lang/StringLatin1"
def TJ1 : u_T := fun k => match k with
  | _ => ("", "", "", false)
def tyJ1 : Nat → FieldType := fun k => match k with
  | _ => .int
abbrev cJ1_charAt_3b067 : ByteArray := prog_17_method_2_code
def yJ1_charAt_3b067 : MethodName := ⟨RJ1, "charAt", "([BI)C"⟩
def RJ2 : String := "java/lang/StringUTF16"
def TJ2 : u_T := fun k => match k with
  | _ => ("", "", "", false)
def tyJ2 : Nat → FieldType := fun k => match k with
  | _ => .int
abbrev cJ2_getChar_3b067 : ByteArray := prog_18_method_5_code
def yJ2_getChar_3b067 : MethodName := ⟨RJ2, "getChar", "([BI)C"⟩
abbrev cJ2_length_9d52b : ByteArray := prog_18_method_6_code
def yJ2_length_9d52b : MethodName := ⟨RJ2, "length", "([B)I"⟩
abbrev cJ2_charAt_3b067 : ByteArray := prog_18_method_83_code
def yJ2_charAt_3b067 : MethodName := ⟨RJ2, "charAt", "([BI)C"⟩
abbrev cJ2_checkIndex_2214a : ByteArray := prog_18_method_91_code
def yJ2_checkIndex_2214a : MethodName := ⟨RJ2, "checkIndex", "(I[B)V"⟩
def RJ3 : String := "jdk/internal/util/Preconditions"
def TJ3 : u_T := fun k => match k with
  | _ => ("", "", "", false)
def tyJ3 : Nat → FieldType := fun k => match k with
  | _ => .int
abbrev cJ3_checkIndex_8e157 : ByteArray := prog_19_method_11_code
def yJ3_checkIndex_8e157 : MethodName := ⟨RJ3, "checkIndex", "(IILjava/util/function/BiFunction;)I"⟩
abbrev vwCl : List vw_C := [(RX0, TX0, 13), (RX1, TX1, 5), (RX2, TX2, 3), (RX3, TX3, 5), (RX4, TX4, 3), (RX5, TX5, 3), (RX6, TX6, 2), (RX7, TX7, 5), (RX8, TX8, 4), (RX9, TX9, 8), (RX10, TX10, 16), (RX11, TX11, 59)]
end
section
/-! THE ABSTRACT MACHINE: addresses are pairs of numbers, a memory is a map of them; zV is a judgement over it, and its rows stand on the kit's rows of W -/
abbrev zAd : Type := Nat × Nat
abbrev zVal : Type := Int32 ⊕ Int64 ⊕ Option zAd
abbrev zi (x : Int32) : zVal := .inl x
abbrev zl (x : Int64) : zVal := .inr (.inl x)
abbrev zr (a : zAd) : zVal := .inr (.inr (some a))
abbrev zn : zVal := .inr (.inr none)
abbrev zArr : Type := Nat × ((Nat → Int32) ⊕ (Nat → Int64) ⊕ (Nat → Option zAd))
abbrev zE : Type := (Nat × zArr) ⊕ (Nat × List zVal)
abbrev zM : Type := zAd → Option zE
abbrev zLs : Type := Nat → Option zVal
abbrev zY : Type := MethodName × ByteArray × Nat × Option FieldType
/-- the tables' numbers: of classes and slots, of array classes; the first new address; the literals' addresses; the script's address, length, numbers -/
abbrev zG : Type := va_G × (Nat → ClassId) × Nat × (Nat → Nat) × (Nat × Nat × (Nat → Int32))
def zc (θ : zAd → Nat) : zVal → Value
  | .inl x => .int x
  | .inr (.inl x) => .long x
  | .inr (.inr none) => .null
  | .inr (.inr (some a)) => .ref (θ a)
def zcA (θ : zAd → Nat) : zArr → vp_A
  | (n, .inl f) => (n, .inl f)
  | (n, .inr (.inl f)) => (n, .inr (.inl f))
  | (n, .inr (.inr f)) => (n, .inr (.inr (.inr (.inr fun i => (f i).map θ))))
def zcE (θ : zAd → Nat) (dA : Nat → ClassId) : zE → va_E
  | .inl (t, x) => .inl (dA t, zcA θ x)
  | .inr (ci, fs) => .inr (ci, fs.map (zc θ))
def zupd (M : zM) (a : zAd) (e : zE) : zM := fun x => if x = a then some e else M x
def zset (ls : zLs) (i : Nat) (v : zVal) : zLs := fun j => if j = i then some v else if j + 1 = i then (match ls j with | some (.inr (.inl _)) => none | w => w) else ls j
def zsetL (ls : zLs) (i : Nat) (v : zVal) : zLs := fun j => if j = i then some v else if j = i + 1 then none else if j + 1 = i then (match ls j with | some (.inr (.inl _)) => none | w => w) else ls j
def okV (M : zM) : zVal → Prop
  | .inr (.inr (some a)) => a.1 = 0 ∨ M a ≠ none
  | _ => True
def okA (M : zM) : zArr → Prop
  | (n, .inr (.inr f)) => ∀ i a, i < n → f i = some a → M a ≠ none
  | _ => True
def okE (M : zM) : zE → Prop
  | .inl (_, x) => okA M x
  | .inr (_, fs) => ∀ v ∈ fs, okV M v
def okS (M : zM) (st : List zVal) : Prop := ∀ v ∈ st, okV M v
def zDom (M M' : zM) : Prop := ∀ a, M a ≠ none → M' a ≠ none
def zExt (θ0 : zAd → Nat) (M0 : zM) (θ : zAd → Nat) (M : zM) : Prop := zDom M0 M ∧ ∀ a, (a.1 = 0 ∨ M0 a ≠ none) → θ a = θ0 a
def zTyL (dA : Nat → ClassId) : List (ClassId × FieldType) := [(dA 0, .int), (dA 1, .long), (dA 2, .byte), (dA 3, .boolean), (dA 4, .object "ToolCrib$Edge"), (dA 5, .object "ToolCrib$Tool"), (dA 6, .object "ToolCrib$Machine"), (dA 7, .object "ToolCrib$Text"), (dA 8, .object "ToolCrib$Sheet"), (dA 9, .array .int)]
def zTW : List Cond := lw_tbl.filter goodWord
theorem zTW_good : GoodIn zTW zTW := fun _ hw => ⟨hw, good_of_word (List.mem_filter.mp hw).2⟩
theorem zTW_of {w : Cond} {i : Nat} (h : lw_tbl[i]? = some w) (hg : goodWord w = true) : w ∈ zTW := List.mem_filter.mpr ⟨List.mem_of_getElem? h, hg⟩
def zNest : List (String × Nat × MethodName × String) := [("ToolCrib", 41, yX4_init, "ToolCrib"), ("ToolCrib", 55, yX7_init, "ToolCrib"), ("ToolCrib", 71, yX6_init, "ToolCrib"), ("ToolCrib", 80, yX8_init, "ToolCrib"), ("ToolCrib", 81, yX5_init, "ToolCrib"), ("ToolCrib$Edge", 50, yX10_wearOf, "ToolCrib")]
def zAO : List String := ["ToolCrib$Edge", "ToolCrib$Tool", "ToolCrib$Machine", "ToolCrib$Text", "ToolCrib$Sheet"]
/-- the literals: class, entry, text, number -/
def zStrs : List (String × Nat × String × Nat) := [("ToolCrib", 82, "worn life < cuts ; broken 500 < cuts * speed ; check reading = nominal ;", 0), ("ToolCrib$Tape", 64, "cuts", 1), ("ToolCrib$Tape", 72, "speed", 2), ("ToolCrib$Tape", 74, "stuff", 3), ("ToolCrib$Tape", 76, "life", 4), ("ToolCrib$Tape", 78, "reading", 5), ("ToolCrib$Tape", 80, "nominal", 6), ("ToolCrib$Tape", 82, "worn", 7), ("ToolCrib$Tape", 84, "broken", 8), ("ToolCrib$Tape", 86, "check", 9), ("ToolCrib$Tape", 88, "or", 10), ("ToolCrib$Tape", 90, "and", 11), ("ToolCrib$Tape", 92, "not", 12)]
def zByt : List (List Int32) := [
  [119,111,114,110,32,108,105,102,101,32,60,32,99,117,116,115,32,59,32,98,114,111,107,101,110,32,53,48,48,32,60,32,99,117,116,115,32,42,32,115,112,101,101,100,32,59,32,99,104,101,99,107,32,114,101,97,100,105,110,103,32,61,32,110,111,109,105,110,97,108,32,59],
  [99,117,116,115], [115,112,101,101,100], [115,116,117,102,102], [108,105,102,101], [114,101,97,100,105,110,103], [110,111,109,105,110,97,108], [119,111,114,110], [98,114,111,107,101,110], [99,104,101,99,107], [111,114], [97,110,100], [110,111,116]]
def zLen : List Nat := [72, 4, 5, 5, 4, 7, 7, 4, 6, 5, 2, 3, 3]
def zAOA (U : State) : Prop := (Cond.arrayOver (.array .int)).before #[] U = true
def zA (G : zG) : Nat → Prop := fun q => G.2.2.1 ≤ q
def zK (G : zG) (U : State) : Prop := va_K G.1 vwCl (zTyL G.2.1) U ∧ (∀ q ∈ zNest, va_Nw (.methodLinkNest q.1 q.2.1 q.2.2.1 q.2.2.2) U) ∧ (∀ C ∈ zAO, va_AO C U) ∧ zAOA U ∧ (∀ q ∈ zStrs, vk_R q.1 q.2.1 q.2.2.1 (G.2.2.2.1 q.2.2.2) U)
def zS (G : zG) (U : State) (H : Heap) : Prop := vk_S 13 zLen zByt G.2.2.2.1 (fun i => G.2.2.2.1 (100 + i)) (zA G) U H ∧ va_Z "java/lang/String" "COMPACT_STRINGS" "Z" (.int 1) (zA G) U H ∧ va_Zq "jdk/internal/util/Preconditions" "SIOOBE_FORMATTER" "Ljava/util/function/BiFunction;" (zA G) U H ∧ va_X G.2.2.2.2.1 G.2.2.2.2.2.1 G.2.2.2.2.2.2 U H ∧ G.2.2.2.2.1 < H.size ∧ ¬ zA G G.2.2.2.2.1
theorem zS.moved {G : zG} {u U : State} {H : Heap} (hvm : u.vm.Alike U.vm) (h : zS G u H) : zS G U H := ⟨vk_S.moved hvm h.1, va_Z.moved hvm h.2.1, va_Zq.moved hvm h.2.2.1, va_X.moved hvm h.2.2.2.1, h.2.2.2.2⟩
theorem zS.kept {G : zG} {U : State} {H H1 : Heap} (h : zS G U H) (hz : H.size ≤ H1.size) (hq : ∀ a : Nat, a < H.size → ¬ zA G a → H1[a]? = H[a]?) : zS G U H1 := ⟨h.1.kept hq, h.2.1.kept hq, h.2.2.1.kept hq, h.2.2.2.1.kept (hq _ h.2.2.2.2.1 h.2.2.2.2.2), Nat.lt_of_lt_of_le h.2.2.2.2.1 hz, h.2.2.2.2.2⟩
/-- a cell stands in the heap; at kind 1 it is the script -/
def zAt (G : zG) (θ : zAd → Nat) (a : zAd) (e : zE) (H : Heap) : Prop := if a.1 = 1 then e = .inl (0, G.2.2.2.2.2.1, .inl G.2.2.2.2.2.2) ∧ θ a = G.2.2.2.2.1 ∧ G.2.2.2.2.1 < G.2.2.1 else va_at G.1 vwCl (θ a, zcE θ G.2.1 e) H
def zR (G : zG) (θ : zAd → Nat) (M : zM) (H : Heap) : Prop :=
  (∀ a e, M a = some e → zAt G θ a e H ∧ okE M e ∧ (2 ≤ a.1 → zA G (θ a))) ∧ (∀ a a', M a ≠ none → M a' ≠ none → θ a = θ a' → a = a') ∧ (∀ i, θ (0, i) = G.2.2.2.1 i)
def zRm (fr cm sm : Nat) : Room := { frames := fr, cells := cm, slots := sm, locals := 41 * fr }
def zX (G : zG) (y : zY) (p : Program) (s : State) (m : MethodId) (args : Array Value) (meth : Method) (c : Code) : Prop :=
  p.tables.exec = Jvm.exec ∧ c.code = y.2.1 ∧ c.maxLocals = y.2.2.1 ∧ meth.sig.returnType = y.2.2.2 ∧ s.vm.findClass y.1.cls = some m.cls ∧ (y.1.name = "<init>" → meth.name = "<init>") ∧ (∀ w ∈ zTW, w.before args s = true) ∧ meth.locks = false ∧ zK G s ∧ zS G s s.heap ∧ G.2.2.1 ≤ s.heap.size
def zLr (θ : zAd → Nat) (M : zM) (ls : zLs) (lsA : Array Slot) (n : Nat) : Prop := lsA.size = n ∧ lv_wf lsA ∧ ∀ i v, ls i = some v → lsA[i]? = some (.val (zc θ v)) ∧ okV M v
def zQc (G : zG) (θ : zAd → Nat) (M : zM) (r : Option zVal) (M' : zM) : Array Value → State → Outcome → State → Prop := fun _ st o t =>
  ∃ θ', zExt θ M θ' M' ∧ o = .returned (r.map (zc θ')) ∧ zR G θ' M' t.heap ∧ (∀ v, r = some v → okV M' v) ∧ va_F (zA G) st t
/-- all that a place of a run stands on -/
def zPre (y : zY) (fr cm sm : Nat) (ls : zLs) (st : List zVal) (M : zM) (G : zG) (p : Program) (s : State) (m : MethodId) (args : Array Value) (meth : Method) (c : Code) (H : Heap) (locs : List Loc) (cells slots : Nat) (θ0 : zAd → Nat) (M0 : zM) (θ : zAd → Nat) (lsA : Array Slot) (R : Room) : Prop :=
  zX G y p s m args meth c ∧ (fr ≤ R.frames ∧ 41 * fr ≤ R.locals ∧ cells + cm ≤ R.cells ∧ slots + sm ≤ R.slots) ∧ va_S (zA G) s.heap H locs ∧ zExt θ0 M0 θ M ∧ zR G θ M H ∧ zLr θ M ls lsA y.2.2.1 ∧ okS M st
def zT (y : zY) (fr cm sm pc : Nat) (ls : zLs) (st : List zVal) (M : zM) (r : Option zVal) (M' : zM) : Prop :=
  ∀ {G : zG} {p : Program} {l : Launch} {e : Env} {s : State} {m : MethodId} {args : Array Value} {below : List Frame} {meth : Method} {c : Code} {H : Heap} {locs : List Loc} {cells slots : Nat} {θ0 : zAd → Nat} {M0 : zM} {θ : zAd → Nat} {lsA : Array Slot} {R : Room},
    zPre y fr cm sm ls st M G p s m args meth c H locs cells slots θ0 M0 θ lsA R →
    W p l e R s m args below meth c H locs cells slots (MQ below (zQc G θ0 M0 r M') args s (cells + cm) (slots + sm) (zA G)) (F0 m pc lsA (st.map (zc θ)))
def zV (y : zY) (fr cm sm pc : Nat) (ls : zLs) (st : List zVal) (M : zM) (Q : Option zVal → zM → Prop) : Prop := ∃ r M', Q r M' ∧ zT y fr cm sm pc ls st M r M'
abbrev zws (y : zY) : List Cond := Cond.code y.1 y.2.1 y.2.2.1 y.2.2.2 :: zTW
def zCt (y : zY) (fr cm sm : Nat) (As : List zVal) (M : zM) (r : Option zVal) (M' : zM) : Prop :=
  ∀ (G : zG) (l : Launch) (θ : zAd → Nat), okS M As → Met l y.1 (zws y) (zRm fr cm sm) (va_Pc (As.map (zc θ)) (fun U => zK G U ∧ zS G U U.heap ∧ zR G θ M U.heap ∧ G.2.2.1 ≤ U.heap.size)) (zQc G θ M r M') cm sm (zA G)
/-- a contract: from the memory M the method comes back, and Q holds of its answer and of the memory then -/
def zC (y : zY) (fr cm sm : Nat) (As : List zVal) (M : zM) (Q : Option zVal → zM → Prop) : Prop := ∃ r M', Q r M' ∧ zCt y fr cm sm As M r M'
theorem zV.mono {y : zY} {fr cm sm pc : Nat} {ls : zLs} {st : List zVal} {M : zM} {Q Q' : Option zVal → zM → Prop} (h : zV y fr cm sm pc ls st M Q) (hq : ∀ r M', Q r M' → Q' r M') : zV y fr cm sm pc ls st M Q' := by
  obtain ⟨r, M', h1, h2⟩ := h
  exact ⟨r, M', hq _ _ h1, h2⟩
theorem zC.mono {y : zY} {fr cm sm : Nat} {As : List zVal} {M : zM} {Q Q' : Option zVal → zM → Prop} (h : zC y fr cm sm As M Q) (hq : ∀ r M', Q r M' → Q' r M') : zC y fr cm sm As M Q' := by
  obtain ⟨r, M', h1, h2⟩ := h
  exact ⟨r, M', hq _ _ h1, h2⟩
theorem okV.up {M M' : zM} (h : zDom M M') {v : zVal} (hv : okV M v) : okV M' v := by
  match v, hv with
  | .inl _, _ => trivial
  | .inr (.inl _), _ => trivial
  | .inr (.inr none), _ => trivial
  | .inr (.inr (some a)), hv => exact hv.imp id (h a)
theorem okE.up {M M' : zM} (h : zDom M M') {e : zE} (he : okE M e) : okE M' e := by
  match e, he with
  | .inl (_, _, .inl _), _ => trivial
  | .inl (_, _, .inr (.inl _)), _ => trivial
  | .inl (_, _, .inr (.inr f)), he => exact fun i a hi ha => h a (he i a hi ha)
  | .inr (_, fs), he => exact fun v hv => (he v hv).up h
theorem okS.up {M M' : zM} (h : zDom M M') {st : List zVal} (hs : okS M st) : okS M' st := fun v hv => (hs v hv).up h
theorem okS.nil {M : zM} : okS M [] := fun _ h => absurd h List.not_mem_nil
theorem okS.c {M : zM} {v : zVal} {st : List zVal} (hv : okV M v) (hs : okS M st) : okS M (v :: st) := List.forall_mem_cons.mpr ⟨hv, hs⟩
theorem okS.t {M : zM} {v : zVal} {st : List zVal} (hs : okS M (v :: st)) : okS M st := (List.forall_mem_cons.mp hs).2
theorem okS.h {M : zM} {v : zVal} {st : List zVal} (hs : okS M (v :: st)) : okV M v := (List.forall_mem_cons.mp hs).1
theorem zDom.rf {M : zM} : zDom M M := fun _ h => h
theorem zDom.upd {M : zM} {a : zAd} {e : zE} : zDom M (zupd M a e) := fun x h => by
  unfold zupd
  split
  · exact fun q => by cases q
  · exact h
theorem zExt.rf {θ : zAd → Nat} {M : zM} : zExt θ M θ M := ⟨zDom.rf, fun _ _ => rfl⟩
theorem zExt.tr {θ0 θ1 θ2 : zAd → Nat} {M0 M1 M2 : zM} (h : zExt θ0 M0 θ1 M1) (h2 : zExt θ1 M1 θ2 M2) : zExt θ0 M0 θ2 M2 :=
  ⟨fun a x => h2.1 a (h.1 a x), fun a x => (h2.2 a (x.imp id (h.1 a))).trans (h.2 a x)⟩
theorem zc.ext {θ0 θ1 : zAd → Nat} {M0 M1 : zM} (h : zExt θ0 M0 θ1 M1) {v : zVal} (hv : okV M0 v) : zc θ1 v = zc θ0 v := by
  match v, hv with
  | .inl _, _ => rfl
  | .inr (.inl _), _ => rfl
  | .inr (.inr none), _ => rfl
  | .inr (.inr (some a)), hv => exact congrArg Value.ref (h.2 a hv)
theorem zc.exts {θ0 θ1 : zAd → Nat} {M0 M1 : zM} (h : zExt θ0 M0 θ1 M1) {st : List zVal} (hs : okS M0 st) : st.map (zc θ1) = st.map (zc θ0) := List.map_congr_left fun v hv => zc.ext h (hs v hv)
theorem zcE.at {D : va_G} {dA : Nat → ClassId} {θ0 θ1 : zAd → Nat} {M0 M1 : zM} (h : zExt θ0 M0 θ1 M1) {e : zE} (he : okE M0 e) {H : Heap} {a : Nat} (ha : va_at D vwCl (a, zcE θ0 dA e) H) : va_at D vwCl (a, zcE θ1 dA e) H := by
  match e, he, ha with
  | .inl (_, _, .inl _), _, ha => exact ha
  | .inl (_, _, .inr (.inl _)), _, ha => exact ha
  | .inl (t, n, .inr (.inr f)), he, ha =>
    have e1 : arrV (dA t) n (fun j => va_rf ((f j).map θ1)) = arrV (dA t) n (fun j => va_rf ((f j).map θ0)) := by
      unfold arrV
      congr 2
      funext j
      cases hf : f j.val with
      | none => simp [hf]
      | some x => simp [hf, h.2 x (Or.inr (he j.val x j.isLt hf))]
    exact Eq.trans ha (congrArg some e1.symm)
  | .inr (ci, fs), he, ha =>
    have e1 : fs.map (zc θ1) = fs.map (zc θ0) := zc.exts (st := fs) h he
    show va_at D vwCl (a, .inr (ci, fs.map (zc θ1))) H
    rw [e1]
    exact ha
theorem zLr.ext {θ0 θ1 : zAd → Nat} {M0 M1 : zM} (h : zExt θ0 M0 θ1 M1) {ls : zLs} {lsA : Array Slot} {n : Nat} (hl : zLr θ0 M0 ls lsA n) : zLr θ1 M1 ls lsA n :=
  ⟨hl.1, hl.2.1, fun i v hv => ⟨by rw [zc.ext h (hl.2.2 i v hv).2]; exact (hl.2.2 i v hv).1, (hl.2.2 i v hv).2.up h.1⟩⟩
theorem zAt.g {G : zG} {θ : zAd → Nat} {a : zAd} {e : zE} {H : Heap} (h : zAt G θ a e H) (h1 : a.1 ≠ 1) : va_at G.1 vwCl (θ a, zcE θ G.2.1 e) H := by
  unfold zAt at h
  rwa [if_neg h1] at h
theorem zAt.of {G : zG} {θ : zAd → Nat} {a : zAd} {e : zE} {H : Heap} (h1 : a.1 ≠ 1) (h : va_at G.1 vwCl (θ a, zcE θ G.2.1 e) H) : zAt G θ a e H := by
  unfold zAt
  rwa [if_neg h1]
theorem zAt.s {G : zG} {θ : zAd → Nat} {a : zAd} {e : zE} {H : Heap} (h : zAt G θ a e H) (h1 : a.1 = 1) : e = .inl (0, G.2.2.2.2.2.1, .inl G.2.2.2.2.2.2) ∧ θ a = G.2.2.2.2.1 ∧ G.2.2.2.2.1 < G.2.2.1 := by
  unfold zAt at h
  rwa [if_pos h1] at h
theorem zAt.kept {G : zG} {θ : zAd → Nat} {a : zAd} {e : zE} {H H1 : Heap} (h : zAt G θ a e H) (hq : H1[θ a]? = H[θ a]?) : zAt G θ a e H1 := by
  by_cases h1 : a.1 = 1
  · have h2 := h.s h1
    unfold zAt
    rwa [if_pos h1]
  · exact zAt.of h1 ((h.g h1).kept hq)
theorem zAt.lt {G : zG} {θ : zAd → Nat} {a : zAd} {e : zE} {H : Heap} (h : zAt G θ a e H) (hb : G.2.2.1 ≤ H.size) : θ a < H.size := by
  by_cases h1 : a.1 = 1
  · have h2 := h.s h1
    omega
  · exact (h.g h1).lt
theorem zAt.ext {G : zG} {θ0 θ1 : zAd → Nat} {M0 M1 : zM} (hE : zExt θ0 M0 θ1 M1) {a : zAd} {e : zE} {H : Heap} (ha : M0 a ≠ none) (he : okE M0 e) (h : zAt G θ0 a e H) : zAt G θ1 a e H := by
  have e9 := hE.2 a (Or.inr ha)
  by_cases h1 : a.1 = 1
  · have h2 := h.s h1
    unfold zAt
    rw [if_pos h1, e9]
    exact h2
  · refine zAt.of h1 ?_
    rw [e9]
    exact zcE.at hE he (h.g h1)
theorem zR.g {G : zG} {θ : zAd → Nat} {M : zM} {H : Heap} {a : zAd} {e : zE} (h : zR G θ M H) (ha : M a = some e) (h1 : a.1 ≠ 1 ∨ ∀ n f, e ≠ .inl (0, n, .inl f)) : va_at G.1 vwCl (θ a, zcE θ G.2.1 e) H := by
  have h2 := (h.1 a e ha).1
  by_cases q : a.1 = 1
  · rcases h1 with z | z
    · exact absurd q z
    · exact absurd (h2.s q).1 (z _ _)
  · exact h2.g q
theorem zR.set {G : zG} {θ : zAd → Nat} {M : zM} {H H1 : Heap} {a : zAd} {e0 e1 : zE} (h : zR G θ M H) (ha : M a = some e0) (h21 : 2 ≤ a.1) (h1 : va_at G.1 vwCl (θ a, zcE θ G.2.1 e1) H1) (ho : ∀ q : Nat, q ≠ θ a → H1[q]? = H[q]?) (hk : okE M e1) : zR G θ (zupd M a e1) H1 := by
  have hne : ∀ x, zupd M a e1 x ≠ none → M x ≠ none := fun x hx => by
    unfold zupd at hx
    split at hx
    · next q => rw [q, ha]; exact fun z => by cases z
    · exact hx
  have ham : M a ≠ none := by rw [ha]; exact fun z => by cases z
  refine ⟨fun x e hx => ?_, fun x x' hx hx' => h.2.1 x x' (hne x hx) (hne x' hx'), h.2.2⟩
  by_cases q : x = a
  · subst q
    have : e = e1 := by unfold zupd at hx; rw [if_pos rfl] at hx; exact (Option.some.inj hx).symm
    subst this
    exact ⟨zAt.of (by omega) h1, hk.up zDom.upd, (h.1 x e0 ha).2.2⟩
  · have hx2 : M x = some e := by unfold zupd at hx; rw [if_neg q] at hx; exact hx
    obtain ⟨g1, g2, g3⟩ := h.1 x e hx2
    have hxm : M x ≠ none := by rw [hx2]; exact fun z => by cases z
    exact ⟨g1.kept (ho _ (fun z => q (h.2.1 x a hxm ham z))), g2.up zDom.upd, g3⟩
theorem zR.new {G : zG} {θ : zAd → Nat} {M : zM} {H H1 : Heap} {a : zAd} {e1 : zE} (h : zR G θ M H) (ha : M a = none) (h2 : 2 ≤ a.1) (hb : G.2.2.1 ≤ H.size) (h1 : va_at G.1 vwCl (H.size, zcE (fun x => if x = a then H.size else θ x) G.2.1 e1) H1) (ho : ∀ q : Nat, q < H.size → H1[q]? = H[q]?) (hk : okE (zupd M a e1) e1) :
    zR G (fun x => if x = a then H.size else θ x) (zupd M a e1) H1 ∧ zExt θ M (fun x => if x = a then H.size else θ x) (zupd M a e1) := by
  have hE : zExt θ M (fun x => if x = a then H.size else θ x) (zupd M a e1) := by
    refine ⟨zDom.upd, fun x hx => ?_⟩
    show (if x = a then H.size else θ x) = θ x
    rw [if_neg]
    intro q
    subst q
    rcases hx with hx | hx
    · omega
    · exact hx ha
  have hlt : ∀ x, M x ≠ none → θ x < H.size := fun x hx => by
    cases hm : M x with
    | none => exact absurd hm hx
    | some e => exact (h.1 x e hm).1.lt hb
  refine ⟨⟨fun x e hx => ?_, fun x x' hx hx' hq => ?_, fun i => ?_⟩, hE⟩
  · by_cases q : x = a
    · subst q
      have : e = e1 := by unfold zupd at hx; rw [if_pos rfl] at hx; exact (Option.some.inj hx).symm
      subst this
      refine ⟨zAt.of (by omega) ?_, hk, fun _ => ?_⟩
      · show va_at G.1 vwCl ((if x = x then H.size else θ x), _) H1
        rw [if_pos rfl]
        exact h1
      · show G.2.2.1 ≤ (if x = x then H.size else θ x)
        rw [if_pos rfl]
        exact hb
    · have hx2 : M x = some e := by unfold zupd at hx; rw [if_neg q] at hx; exact hx
      obtain ⟨g1, g2, g3⟩ := h.1 x e hx2
      have e9 : (if x = a then H.size else θ x) = θ x := if_neg q
      have hxm : M x ≠ none := by rw [hx2]; exact fun z => by cases z
      refine ⟨(zAt.ext hE hxm g2 g1).kept ?_, g2.up zDom.upd, fun z => ?_⟩
      · show H1[(if x = a then H.size else θ x)]? = H[(if x = a then H.size else θ x)]?
        rw [e9]
        exact ho _ (g1.lt hb)
      · show G.2.2.1 ≤ (if x = a then H.size else θ x)
        rw [e9]
        exact g3 z
  · have go : ∀ z, zupd M a e1 z ≠ none → z ≠ a → M z ≠ none := fun z hz q => by unfold zupd at hz; rw [if_neg q] at hz; exact hz
    by_cases q : x = a <;> by_cases q' : x' = a
    · rw [q, q']
    · have e2 : (if x' = a then H.size else θ x') = θ x' := if_neg q'
      have e1' : (if x = a then H.size else θ x) = H.size := if_pos q
      have hq2 : H.size = θ x' := e1'.symm.trans (Eq.trans hq e2)
      have := hlt x' (go x' hx' q')
      omega
    · have e2 : (if x' = a then H.size else θ x') = H.size := if_pos q'
      have e1' : (if x = a then H.size else θ x) = θ x := if_neg q
      have hq2 : θ x = H.size := e1'.symm.trans (Eq.trans hq e2)
      have := hlt x (go x hx q)
      omega
    · have e2 : (if x' = a then H.size else θ x') = θ x' := if_neg q'
      have e1' : (if x = a then H.size else θ x) = θ x := if_neg q
      exact h.2.1 x x' (go x hx q) (go x' hx' q') (e1'.symm.trans (Eq.trans hq e2))
  · show (if ((0, i) : zAd) = a then H.size else θ (0, i)) = _
    rw [if_neg (fun q => by rw [← q] at h2; simp at h2)]
    exact h.2.2 i
end
section
/-- the judgement at a place, out of the judgement at the next, the memory as it was -/
theorem z_pure {Y : zY} {fr cm sm pc pc' : Nat} {ls ls' : zLs} {st st' : List zVal} {M : zM} {Q : Option zVal → zM → Prop} (k : zV Y fr cm sm pc' ls' st' M Q)
    (h : ∀ {G : zG} {p : Program} {l : Launch} {e : Env} {s : State} {m : MethodId} {args : Array Value} {below : List Frame} {meth : Method} {c : Code} {H : Heap} {locs : List Loc} {cells slots : Nat} {θ0 : zAd → Nat} {M0 : zM} {θ : zAd → Nat} {lsA : Array Slot} {R : Room} {Z : State → Prop},
      zPre Y fr cm sm ls st M G p s m args meth c H locs cells slots θ0 M0 θ lsA R → (∀ lsA' : Array Slot, zLr θ M ls' lsA' Y.2.2.1 → okS M st' → W p l e R s m args below meth c H locs cells slots Z (F0 m pc' lsA' (st'.map (zc θ)))) → W p l e R s m args below meth c H locs cells slots Z (F0 m pc lsA (st.map (zc θ)))) : zV Y fr cm sm pc ls st M Q := by
  obtain ⟨r, M', hq, hk⟩ := k
  exact ⟨r, M', hq, fun P => h P (fun lsA' hl hs => hk ⟨P.1, P.2.1, P.2.2.1, P.2.2.2.1, P.2.2.2.2.1, hl, hs⟩)⟩
def zD (Y : zY) (pc len : Nat) (i : Instr) (n : Nat) : Prop := decode Y.2.1 pc = .ok (i, len) ∧ pc + len = n
def zB (Y : zY) (pc : Nat) (i : Int → Instr) (n t : Nat) : Prop := ∃ off, decode Y.2.1 pc = .ok (i off, 3) ∧ pc + 3 = n ∧ (pc : Int) + off = (t : Int)
def zIl (Y : zY) (pc i n : Nat) : Prop := (∃ k : Fin 4, (k : Nat) = i ∧ decode Y.2.1 pc = .ok (.iload_n k, 1) ∧ pc + 1 = n) ∨ (decode Y.2.1 pc = .ok (.iload i, 2) ∧ pc + 2 = n)
def zLl (Y : zY) (pc i n : Nat) : Prop := (∃ k : Fin 4, (k : Nat) = i ∧ decode Y.2.1 pc = .ok (.lload_n k, 1) ∧ pc + 1 = n) ∨ (decode Y.2.1 pc = .ok (.lload i, 2) ∧ pc + 2 = n)
def zAl (Y : zY) (pc i n : Nat) : Prop := (∃ k : Fin 4, (k : Nat) = i ∧ decode Y.2.1 pc = .ok (.aload_n k, 1) ∧ pc + 1 = n) ∨ (decode Y.2.1 pc = .ok (.aload i, 2) ∧ pc + 2 = n)
def zIs (Y : zY) (pc i n : Nat) : Prop := i < Y.2.2.1 ∧ ((∃ k : Fin 4, (k : Nat) = i ∧ decode Y.2.1 pc = .ok (.istore_n k, 1) ∧ pc + 1 = n) ∨ (decode Y.2.1 pc = .ok (.istore i, 2) ∧ pc + 2 = n))
def zLS (Y : zY) (pc i n : Nat) : Prop := i + 1 < Y.2.2.1 ∧ ((∃ k : Fin 4, (k : Nat) = i ∧ decode Y.2.1 pc = .ok (.lstore_n k, 1) ∧ pc + 1 = n) ∨ (decode Y.2.1 pc = .ok (.lstore i, 2) ∧ pc + 2 = n))
def zAs (Y : zY) (pc i n : Nat) : Prop := i < Y.2.2.1 ∧ ((∃ k : Fin 4, (k : Nat) = i ∧ decode Y.2.1 pc = .ok (.astore_n k, 1) ∧ pc + 1 = n) ∨ (decode Y.2.1 pc = .ok (.astore i, 2) ∧ pc + 2 = n))
def zIn (Y : zY) (pc i : Nat) (d : Int32) (n : Nat) : Prop := i < Y.2.2.1 ∧ ∃ k : Int, Int32.ofInt k = d ∧ decode Y.2.1 pc = .ok (.iinc i k, 3) ∧ pc + 3 = n
def zCo (Y : zY) (pc : Nat) (v : Int32) (n : Nat) : Prop := (∃ k : Int, Int32.ofInt k = v ∧ decode Y.2.1 pc = .ok (.iconst k, 1) ∧ pc + 1 = n) ∨ (∃ k : Int, (Int8.ofInt k).toInt32 = v ∧ decode Y.2.1 pc = .ok (.bipush k, 2) ∧ pc + 2 = n) ∨ (∃ k : Int, (Int16.ofInt k).toInt32 = v ∧ decode Y.2.1 pc = .ok (.sipush k, 3) ∧ pc + 3 = n) ∨ (∃ k : Nat, (Cond.constant Y.1.cls k v) ∈ zTW ∧ decode Y.2.1 pc = .ok (.ldc_w k, 3) ∧ pc + 3 = n)
def zCL (Y : zY) (pc : Nat) (v : Int64) (n : Nat) : Prop := (∃ k : Fin 2, Int64.ofNat (k : Nat) = v ∧ decode Y.2.1 pc = .ok (.lconst k, 1) ∧ pc + 1 = n) ∨ (∃ k : Nat, (Cond.constantLong Y.1.cls k v) ∈ zTW ∧ decode Y.2.1 pc = .ok (.ldc2_w k, 3) ∧ pc + 3 = n)
section ZR
variable {Y : zY} {fr cm sm pc n : Nat} {ls : zLs} {st : List zVal} {M : zM} {Q : Option zVal → zM → Prop}
theorem zPre.x {ls : zLs} {st : List zVal} {G : zG} {p : Program} {s : State} {m : MethodId} {args : Array Value} {meth : Method} {c : Code} {H : Heap} {locs : List Loc} {cells slots : Nat} {θ0 : zAd → Nat} {M0 : zM} {θ : zAd → Nat} {lsA : Array Slot} {R : Room} (P : zPre Y fr cm sm ls st M G p s m args meth c H locs cells slots θ0 M0 θ lsA R) : p.tables.exec = Jvm.exec := P.1.1
theorem zPre.b {ls : zLs} {st : List zVal} {G : zG} {p : Program} {s : State} {m : MethodId} {args : Array Value} {meth : Method} {c : Code} {H : Heap} {locs : List Loc} {cells slots : Nat} {θ0 : zAd → Nat} {M0 : zM} {θ : zAd → Nat} {lsA : Array Slot} {R : Room} (P : zPre Y fr cm sm ls st M G p s m args meth c H locs cells slots θ0 M0 θ lsA R) : c.code = Y.2.1 := P.1.2.1
theorem zPre.o {ls : zLs} {st : List zVal} {G : zG} {p : Program} {s : State} {m : MethodId} {args : Array Value} {meth : Method} {c : Code} {H : Heap} {locs : List Loc} {cells slots : Nat} {θ0 : zAd → Nat} {M0 : zM} {θ : zAd → Nat} {lsA : Array Slot} {R : Room} (P : zPre Y fr cm sm ls st M G p s m args meth c H locs cells slots θ0 M0 θ lsA R) : s.vm.findClass Y.1.cls = some m.cls := P.1.2.2.2.2.1
theorem zPre.w {ls : zLs} {st : List zVal} {G : zG} {p : Program} {s : State} {m : MethodId} {args : Array Value} {meth : Method} {c : Code} {H : Heap} {locs : List Loc} {cells slots : Nat} {θ0 : zAd → Nat} {M0 : zM} {θ : zAd → Nat} {lsA : Array Slot} {R : Room} (P : zPre Y fr cm sm ls st M G p s m args meth c H locs cells slots θ0 M0 θ lsA R) : ∀ w ∈ zTW, w.before args s = true := P.1.2.2.2.2.2.2.1
theorem zPre.L {ls : zLs} {st : List zVal} {G : zG} {p : Program} {s : State} {m : MethodId} {args : Array Value} {meth : Method} {c : Code} {H : Heap} {locs : List Loc} {cells slots : Nat} {θ0 : zAd → Nat} {M0 : zM} {θ : zAd → Nat} {lsA : Array Slot} {R : Room} (P : zPre Y fr cm sm ls st M G p s m args meth c H locs cells slots θ0 M0 θ lsA R) : zLr θ M ls lsA Y.2.2.1 := P.2.2.2.2.2.1
theorem zPre.sk {ls : zLs} {st : List zVal} {G : zG} {p : Program} {s : State} {m : MethodId} {args : Array Value} {meth : Method} {c : Code} {H : Heap} {locs : List Loc} {cells slots : Nat} {θ0 : zAd → Nat} {M0 : zM} {θ : zAd → Nat} {lsA : Array Slot} {R : Room} (P : zPre Y fr cm sm ls st M G p s m args meth c H locs cells slots θ0 M0 θ lsA R) : okS M st := P.2.2.2.2.2.2
theorem z_iadd {x y : Int32} (hd : zD Y pc 1 .iadd n) (k : zV Y fr cm sm n ls (zi (x + y) :: st) M Q) : zV Y fr cm sm pc ls (zi y :: zi x :: st) M Q := by
  obtain ⟨hd, rfl⟩ := hd
  exact z_pure k (fun P kk => lv_iadd P.x P.b hd (kk _ P.L (okS.c trivial P.sk.t.t)))
theorem z_isub {x y : Int32} (hd : zD Y pc 1 .isub n) (k : zV Y fr cm sm n ls (zi (x - y) :: st) M Q) : zV Y fr cm sm pc ls (zi y :: zi x :: st) M Q := by
  obtain ⟨hd, rfl⟩ := hd
  exact z_pure k (fun P kk => lv_isub P.x P.b hd (kk _ P.L (okS.c trivial P.sk.t.t)))
theorem z_imul {x y : Int32} (hd : zD Y pc 1 .imul n) (k : zV Y fr cm sm n ls (zi (x * y) :: st) M Q) : zV Y fr cm sm pc ls (zi y :: zi x :: st) M Q := by
  obtain ⟨hd, rfl⟩ := hd
  exact z_pure k (fun P kk => lv_imul P.x P.b hd (kk _ P.L (okS.c trivial P.sk.t.t)))
theorem z_iand {x y : Int32} (hd : zD Y pc 1 .iand n) (k : zV Y fr cm sm n ls (zi (x &&& y) :: st) M Q) : zV Y fr cm sm pc ls (zi y :: zi x :: st) M Q := by
  obtain ⟨hd, rfl⟩ := hd
  exact z_pure k (fun P kk => lv_iand P.x P.b hd (kk _ P.L (okS.c trivial P.sk.t.t)))
theorem z_ior {x y : Int32} (hd : zD Y pc 1 .ior n) (k : zV Y fr cm sm n ls (zi (x ||| y) :: st) M Q) : zV Y fr cm sm pc ls (zi y :: zi x :: st) M Q := by
  obtain ⟨hd, rfl⟩ := hd
  exact z_pure k (fun P kk => lv_ior P.x P.b hd (kk _ P.L (okS.c trivial P.sk.t.t)))
theorem z_ixor {x y : Int32} (hd : zD Y pc 1 .ixor n) (k : zV Y fr cm sm n ls (zi (x ^^^ y) :: st) M Q) : zV Y fr cm sm pc ls (zi y :: zi x :: st) M Q := by
  obtain ⟨hd, rfl⟩ := hd
  exact z_pure k (fun P kk => lv_ixor P.x P.b hd (kk _ P.L (okS.c trivial P.sk.t.t)))
theorem z_ishl {x y : Int32} (hd : zD Y pc 1 .ishl n) (k : zV Y fr cm sm n ls (zi (x <<< (y &&& 31)) :: st) M Q) : zV Y fr cm sm pc ls (zi y :: zi x :: st) M Q := by
  obtain ⟨hd, rfl⟩ := hd
  exact z_pure k (fun P kk => lv_ishl P.x P.b hd (kk _ P.L (okS.c trivial P.sk.t.t)))
theorem z_ishr {x y : Int32} (hd : zD Y pc 1 .ishr n) (k : zV Y fr cm sm n ls (zi (x >>> (y &&& 31)) :: st) M Q) : zV Y fr cm sm pc ls (zi y :: zi x :: st) M Q := by
  obtain ⟨hd, rfl⟩ := hd
  exact z_pure k (fun P kk => lv_ishr P.x P.b hd (kk _ P.L (okS.c trivial P.sk.t.t)))
theorem z_ladd {x y : Int64} (hd : zD Y pc 1 .ladd n) (k : zV Y fr cm sm n ls (zl (x + y) :: st) M Q) : zV Y fr cm sm pc ls (zl y :: zl x :: st) M Q := by
  obtain ⟨hd, rfl⟩ := hd
  exact z_pure k (fun P kk => lv_ladd P.x P.b hd (kk _ P.L (okS.c trivial P.sk.t.t)))
theorem z_lsub {x y : Int64} (hd : zD Y pc 1 .lsub n) (k : zV Y fr cm sm n ls (zl (x - y) :: st) M Q) : zV Y fr cm sm pc ls (zl y :: zl x :: st) M Q := by
  obtain ⟨hd, rfl⟩ := hd
  exact z_pure k (fun P kk => lv_lsub P.x P.b hd (kk _ P.L (okS.c trivial P.sk.t.t)))
theorem z_lmul {x y : Int64} (hd : zD Y pc 1 .lmul n) (k : zV Y fr cm sm n ls (zl (x * y) :: st) M Q) : zV Y fr cm sm pc ls (zl y :: zl x :: st) M Q := by
  obtain ⟨hd, rfl⟩ := hd
  exact z_pure k (fun P kk => lv_lmul P.x P.b hd (kk _ P.L (okS.c trivial P.sk.t.t)))
theorem z_land {x y : Int64} (hd : zD Y pc 1 .land n) (k : zV Y fr cm sm n ls (zl (x &&& y) :: st) M Q) : zV Y fr cm sm pc ls (zl y :: zl x :: st) M Q := by
  obtain ⟨hd, rfl⟩ := hd
  exact z_pure k (fun P kk => lv_land P.x P.b hd (kk _ P.L (okS.c trivial P.sk.t.t)))
theorem z_lor {x y : Int64} (hd : zD Y pc 1 .lor n) (k : zV Y fr cm sm n ls (zl (x ||| y) :: st) M Q) : zV Y fr cm sm pc ls (zl y :: zl x :: st) M Q := by
  obtain ⟨hd, rfl⟩ := hd
  exact z_pure k (fun P kk => lv_lor P.x P.b hd (kk _ P.L (okS.c trivial P.sk.t.t)))
theorem z_idiv {x y : Int32} (hd : zD Y pc 1 .idiv n) (hne : ¬ y = 0) (k : zV Y fr cm sm n ls (zi (x / y) :: st) M Q) : zV Y fr cm sm pc ls (zi y :: zi x :: st) M Q := by
  obtain ⟨hd, rfl⟩ := hd
  exact z_pure k (fun P kk => lv_idiv P.x P.b hd hne (kk _ P.L (okS.c trivial P.sk.t.t)))
theorem z_ldiv {x y : Int64} (hd : zD Y pc 1 .ldiv n) (hne : ¬ y = 0) (k : zV Y fr cm sm n ls (zl (x / y) :: st) M Q) : zV Y fr cm sm pc ls (zl y :: zl x :: st) M Q := by
  obtain ⟨hd, rfl⟩ := hd
  exact z_pure k (fun P kk => lv_ldiv P.x P.b hd hne (kk _ P.L (okS.c trivial P.sk.t.t)))
theorem z_lrem {x y : Int64} (hd : zD Y pc 1 .lrem n) (hne : ¬ y = 0) (k : zV Y fr cm sm n ls (zl (x - x / y * y) :: st) M Q) : zV Y fr cm sm pc ls (zl y :: zl x :: st) M Q := by
  obtain ⟨hd, rfl⟩ := hd
  exact z_pure k (fun P kk => lv_lrem P.x P.b hd hne (kk _ P.L (okS.c trivial P.sk.t.t)))
theorem z_ineg {x : Int32} (hd : zD Y pc 1 .ineg n) (k : zV Y fr cm sm n ls (zi (-x) :: st) M Q) : zV Y fr cm sm pc ls (zi x :: st) M Q := by
  obtain ⟨hd, rfl⟩ := hd
  exact z_pure k (fun P kk => lv_ineg P.x P.b hd (kk _ P.L (okS.c trivial P.sk.t)))
theorem z_i2l {x : Int32} (hd : zD Y pc 1 .i2l n) (k : zV Y fr cm sm n ls (zl (x.toInt64) :: st) M Q) : zV Y fr cm sm pc ls (zi x :: st) M Q := by
  obtain ⟨hd, rfl⟩ := hd
  exact z_pure k (fun P kk => lv_i2l P.x P.b hd rfl (kk _ P.L (okS.c trivial P.sk.t)))
theorem z_l2i {x : Int64} (hd : zD Y pc 1 .l2i n) (k : zV Y fr cm sm n ls (zi (x.toInt32) :: st) M Q) : zV Y fr cm sm pc ls (zl x :: st) M Q := by
  obtain ⟨hd, rfl⟩ := hd
  exact z_pure k (fun P kk => lv_l2i P.x P.b hd rfl (kk _ P.L (okS.c trivial P.sk.t)))
theorem z_i2b {x : Int32} (hd : zD Y pc 1 .i2b n) (k : zV Y fr cm sm n ls (zi (x.toInt8.toInt32) :: st) M Q) : zV Y fr cm sm pc ls (zi x :: st) M Q := by
  obtain ⟨hd, rfl⟩ := hd
  exact z_pure k (fun P kk => lv_i2b P.x P.b hd rfl (kk _ P.L (okS.c trivial P.sk.t)))
theorem z_i2s {x : Int32} (hd : zD Y pc 1 .i2s n) (k : zV Y fr cm sm n ls (zi (x.toInt16.toInt32) :: st) M Q) : zV Y fr cm sm pc ls (zi x :: st) M Q := by
  obtain ⟨hd, rfl⟩ := hd
  exact z_pure k (fun P kk => lv_i2s P.x P.b hd rfl (kk _ P.L (okS.c trivial P.sk.t)))
theorem z_i2c {x : Int32} (hd : zD Y pc 1 .i2c n) (k : zV Y fr cm sm n ls (zi ((x.toUInt32 % 65536).toInt32) :: st) M Q) : zV Y fr cm sm pc ls (zi x :: st) M Q := by
  obtain ⟨hd, rfl⟩ := hd
  exact z_pure k (fun P kk => lv_i2c P.x P.b hd rfl (kk _ P.L (okS.c trivial P.sk.t)))
theorem z_iushr {x y : Int32} (hd : zD Y pc 1 .iushr n) (k : zV Y fr cm sm n ls (zi ((x.toUInt32 >>> (y.toUInt32 &&& Int32.toUInt32 31)).toInt32) :: st) M Q) : zV Y fr cm sm pc ls (zi y :: zi x :: st) M Q := by
  obtain ⟨hd, rfl⟩ := hd
  exact z_pure k (fun P kk => lv_iushr P.x P.b hd rfl (kk _ P.L (okS.c trivial P.sk.t.t)))
theorem z_lshl {x : Int64} {y : Int32} (hd : zD Y pc 1 .lshl n) (k : zV Y fr cm sm n ls (zl (x <<< (y.toInt64 &&& 63)) :: st) M Q) : zV Y fr cm sm pc ls (zi y :: zl x :: st) M Q := by
  obtain ⟨hd, rfl⟩ := hd
  exact z_pure k (fun P kk => lv_lshl P.x P.b hd rfl (kk _ P.L (okS.c trivial P.sk.t.t)))
theorem z_lshr {x : Int64} {y : Int32} (hd : zD Y pc 1 .lshr n) (k : zV Y fr cm sm n ls (zl (x >>> (y.toInt64 &&& 63)) :: st) M Q) : zV Y fr cm sm pc ls (zi y :: zl x :: st) M Q := by
  obtain ⟨hd, rfl⟩ := hd
  exact z_pure k (fun P kk => lv_lshr P.x P.b hd rfl (kk _ P.L (okS.c trivial P.sk.t.t)))
theorem z_lcmp {x y : Int64} (hd : zD Y pc 1 .lcmp n) (k : zV Y fr cm sm n ls (zi (lg_cmp x y) :: st) M Q) : zV Y fr cm sm pc ls (zl y :: zl x :: st) M Q := by
  obtain ⟨hd, rfl⟩ := hd
  exact z_pure k (fun P kk => W.lcmp P.x P.b hd (kk _ P.L (okS.c trivial P.sk.t.t)))
theorem z_co {v : Int32} (hd : zCo Y pc v n) (k : zV Y fr cm sm n ls (zi v :: st) M Q) : zV Y fr cm sm pc ls st M Q := by
  rcases hd with ⟨c0, hv, hd, rfl⟩ | ⟨c0, hv, hd, rfl⟩ | ⟨c0, hv, hd, rfl⟩ | ⟨c0, hv, hd, rfl⟩
  · exact z_pure k (fun P kk => lv_iconst P.x P.b hd hv (kk _ P.L (okS.c trivial P.sk)))
  · exact z_pure k (fun P kk => lv_bipush P.x P.b hd hv (kk _ P.L (okS.c trivial P.sk)))
  · exact z_pure k (fun P kk => lv_sipush P.x P.b hd hv (kk _ P.L (okS.c trivial P.sk)))
  · exact z_pure k (fun P kk => lv_ldcw P.x P.b P.o (P.w _ hv) hd (kk _ P.L (okS.c trivial P.sk)))
theorem z_cl {v : Int64} (hd : zCL Y pc v n) (k : zV Y fr cm sm n ls (zl v :: st) M Q) : zV Y fr cm sm pc ls st M Q := by
  rcases hd with ⟨c0, hv, hd, rfl⟩ | ⟨c0, hv, hd, rfl⟩
  · exact z_pure k (fun P kk => lv_lconst P.x P.b hd hv (kk _ P.L (okS.c trivial P.sk)))
  · exact z_pure k (fun P kk => W.ldc2 P.x P.b P.o (P.w _ hv) rfl hd (kk _ P.L (okS.c trivial P.sk)))
theorem z_null (hd : zD Y pc 1 .aconst_null n) (k : zV Y fr cm sm n ls (zn :: st) M Q) : zV Y fr cm sm pc ls st M Q := by
  obtain ⟨hd, rfl⟩ := hd
  exact z_pure k (fun P kk => lv_null P.x P.b hd (kk _ P.L (okS.c trivial P.sk)))
theorem z_goto {t : Nat} (hd : zB Y pc .goto n t) (k : zV Y fr cm sm t ls st M Q) : zV Y fr cm sm pc ls st M Q := by
  obtain ⟨off, hd, -, ht⟩ := hd
  exact z_pure k (fun P kk => lv_goto P.x P.b hd ht (kk _ P.L P.sk))
theorem z_il {i : Nat} {x : Int32} (hd : zIl Y pc i n) (hl : ls i = some (zi x)) (k : zV Y fr cm sm n ls (zi x :: st) M Q) : zV Y fr cm sm pc ls st M Q := by
  rcases hd with ⟨k0, hi, hd, rfl⟩ | ⟨hd, rfl⟩
  · exact z_pure k (fun P kk => lv_iload_n P.x P.b hd hi (P.L.2.2 _ _ hl).1 (kk _ P.L (okS.c trivial P.sk)))
  · exact z_pure k (fun P kk => lv_iload P.x P.b hd (P.L.2.2 _ _ hl).1 (kk _ P.L (okS.c trivial P.sk)))
theorem z_ll {i : Nat} {x : Int64} (hd : zLl Y pc i n) (hl : ls i = some (zl x)) (k : zV Y fr cm sm n ls (zl x :: st) M Q) : zV Y fr cm sm pc ls st M Q := by
  rcases hd with ⟨k0, hi, hd, rfl⟩ | ⟨hd, rfl⟩
  · exact z_pure k (fun P kk => lv_lload_n P.x P.b hd hi (P.L.2.2 _ _ hl).1 (kk _ P.L (okS.c trivial P.sk)))
  · exact z_pure k (fun P kk => lv_lload P.x P.b hd (P.L.2.2 _ _ hl).1 (kk _ P.L (okS.c trivial P.sk)))
theorem z_al {i : Nat} {x : zAd} (hd : zAl Y pc i n) (hl : ls i = some (zr x)) (k : zV Y fr cm sm n ls (zr x :: st) M Q) : zV Y fr cm sm pc ls st M Q := by
  rcases hd with ⟨k0, hi, hd, rfl⟩ | ⟨hd, rfl⟩
  · exact z_pure k (fun P kk => lv_aload_n P.x P.b hd hi (P.L.2.2 _ _ hl).1 (kk _ P.L (okS.c (P.L.2.2 _ _ hl).2 P.sk)))
  · exact z_pure k (fun P kk => lv_aload P.x P.b hd (P.L.2.2 _ _ hl).1 (kk _ P.L (okS.c (P.L.2.2 _ _ hl).2 P.sk)))
theorem zLr.has {θ : zAd → Nat} {ls : zLs} {lsA : Array Slot} {nL : Nat} (h : zLr θ M ls lsA nL) : lv_has lsA nL [] := ⟨h.1, h.2.1, fun _ q => absurd q List.not_mem_nil⟩
theorem zLr.has1 {θ : zAd → Nat} {ls : zLs} {lsA : Array Slot} {nL : Nat} (h : zLr θ M ls lsA nL) {j : Nat} {w : zVal} (hw : ls j = some w) : lv_has lsA nL [(j, zc θ w)] := ⟨h.1, h.2.1, fun q hq => by
  rw [List.mem_singleton.mp hq]
  exact (h.2.2 j w hw).1⟩
theorem zc_cat2 {θ : zAd → Nat} {v : zVal} (h : (zc θ v).category = 2) : ∃ x, v = zl x := by
  match v, h with
  | .inl x, h => cases h
  | .inr (.inl x), _ => exact ⟨x, rfl⟩
  | .inr (.inr none), h => cases h
  | .inr (.inr (some a)), h => cases h
/-- a store of one slot -/
theorem zLr.st1 {θ : zAd → Nat} {ls : zLs} {lsA ls2 : Array Slot} {nL i : Nat} {v : zVal} (h : zLr θ M ls lsA nL) (hi : i < nL) (hv : okV M v) (hc : (zc θ v).category = 1) (hs : storeLocals lsA i (zc θ v) = some ls2) : zLr θ M (zset ls i v) ls2 nL := by
  obtain ⟨l0, e0, h0⟩ := lv_store1 (v := zc θ v) h.has hi hc
  cases hs.symm.trans e0
  refine ⟨h0.1, h0.2.1, fun j w hj => ?_⟩
  have keep : ∀ w, ls j = some w → j ≠ i → ¬ (j + 1 = i ∧ (zc θ w).category = 2) → ls2[j]? = some (.val (zc θ w)) ∧ okV M w := fun w hw h1 h2 => by
    obtain ⟨l1, e1, q1⟩ := lv_store1 (v := zc θ v) (h.has1 hw) hi hc
    cases hs.symm.trans e1
    refine ⟨?_, (h.2.2 j w hw).2⟩
    refine q1.2.2 (j, zc θ w) (List.mem_cons_of_mem _ (List.mem_filter.mpr ⟨List.mem_singleton.mpr rfl, ?_⟩))
    simp only [Bool.and_eq_true, Bool.not_eq_true', beq_eq_false_iff_ne, ne_eq, Bool.and_eq_false_iff]
    refine ⟨h1, ?_⟩
    by_cases g : j + 1 = i
    · exact Or.inr (fun g2 => h2 ⟨g, g2⟩)
    · exact Or.inl g
  unfold zset at hj
  by_cases q : j = i
  · rw [if_pos q] at hj
    cases hj
    subst q
    exact ⟨h0.2.2 (j, zc θ v) List.mem_cons_self, hv⟩
  · rw [if_neg q] at hj
    by_cases q2 : j + 1 = i
    · rw [if_pos q2] at hj
      split at hj
      · cases hj
      · next z => exact keep w hj q (fun g => by
          obtain ⟨x, hx⟩ := zc_cat2 g.2
          exact z x (by rw [hj, hx]))
    · rw [if_neg q2] at hj
      exact keep w hj q (fun g => q2 g.1)
/-- a store of two -/
theorem zLr.st2 {θ : zAd → Nat} {ls : zLs} {lsA ls2 : Array Slot} {nL i : Nat} {v : zVal} (h : zLr θ M ls lsA nL) (hi : i + 1 < nL) (hv : okV M v) (hc : (zc θ v).category = 2) (hs : storeLocals lsA i (zc θ v) = some ls2) : zLr θ M (zsetL ls i v) ls2 nL := by
  obtain ⟨l0, e0, h0⟩ := lv_store2 (v := zc θ v) h.has hi hc
  cases hs.symm.trans e0
  refine ⟨h0.1, h0.2.1, fun j w hj => ?_⟩
  have keep : ∀ w, ls j = some w → j ≠ i → j ≠ i + 1 → ¬ (j + 1 = i ∧ (zc θ w).category = 2) → ls2[j]? = some (.val (zc θ w)) ∧ okV M w := fun w hw h1 h1' h2 => by
    obtain ⟨l1, e1, q1⟩ := lv_store2 (v := zc θ v) (h.has1 hw) hi hc
    cases hs.symm.trans e1
    refine ⟨?_, (h.2.2 j w hw).2⟩
    refine q1.2.2 (j, zc θ w) (List.mem_cons_of_mem _ (List.mem_filter.mpr ⟨List.mem_singleton.mpr rfl, ?_⟩))
    simp only [Bool.and_eq_true, Bool.not_eq_true', beq_eq_false_iff_ne, ne_eq, Bool.and_eq_false_iff]
    refine ⟨h1, h1', ?_⟩
    by_cases g : j + 1 = i
    · exact Or.inr (fun g2 => h2 ⟨g, g2⟩)
    · exact Or.inl g
  unfold zsetL at hj
  by_cases q : j = i
  · rw [if_pos q] at hj
    cases hj
    subst q
    exact ⟨h0.2.2 (j, zc θ v) List.mem_cons_self, hv⟩
  · rw [if_neg q] at hj
    by_cases q1 : j = i + 1
    · rw [if_pos q1] at hj
      cases hj
    · rw [if_neg q1] at hj
      by_cases q2 : j + 1 = i
      · rw [if_pos q2] at hj
        split at hj
        · cases hj
        · next z => exact keep w hj q q1 (fun g => by
            obtain ⟨x, hx⟩ := zc_cat2 g.2
            exact z x (by rw [hj, hx]))
      · rw [if_neg q2] at hj
        exact keep w hj q q1 (fun g => q2 g.1)
theorem lv_has.any {ls2 : Array Slot} {nL : Nat} {l : List (Nat × Value)} (h : lv_has ls2 nL l) : lv_has ls2 nL l := h
section ZSt
variable {p : Program} {l : Launch} {e : Env} {R : Room} {s : State} {m : MethodId} {args : Array Value} {below : List Frame} {meth : Method} {c : Code} {H : Heap} {locs : List Loc} {cells slots : Nat} {Z : State → Prop} {cc : ByteArray} {lsA : Array Slot} {rest : List Value} {θ : zAd → Nat}
theorem zs_i {i : Nat} {x : Int32} {ls' : zLs} (hexec : p.tables.exec = Jvm.exec) (hb : c.code = cc) (hd : (∃ k : Fin 4, (k : Nat) = i ∧ decode cc pc = .ok (.istore_n k, 1) ∧ pc + 1 = n) ∨ (decode cc pc = .ok (.istore i, 2) ∧ pc + 2 = n)) {nL : Nat} (hL : zLr θ M ls lsA nL) (hi : i < nL)
    (kk : ∀ ls2, zLr θ M (zset ls i (zi x)) ls2 nL → W p l e R s m args below meth c H locs cells slots Z (F0 m n ls2 rest)) : W p l e R s m args below meth c H locs cells slots Z (F0 m pc lsA (.int x :: rest)) := by
  obtain ⟨ls2, e1, -⟩ := lv_store1 (v := .int x) hL.has hi rfl
  have w := kk ls2 (hL.st1 (v := zi x) hi trivial rfl e1)
  rcases hd with ⟨k, hk, hd, rfl⟩ | ⟨hd, rfl⟩
  · subst hk
    intro T hT X
    obtain ⟨t, a, b⟩ := w T hT X
    refine ⟨t, ?_, b⟩
    jvm_step X.here [X.here.top, ↓top_set X.here.top, hexec, hb, hd, e1]
    exact a
  · intro T hT X
    obtain ⟨t, a, b⟩ := w T hT X
    refine ⟨t, ?_, b⟩
    jvm_step X.here [X.here.top, ↓top_set X.here.top, hexec, hb, hd, e1]
    exact a
theorem zs_l {i : Nat} {x : Int64} (hexec : p.tables.exec = Jvm.exec) (hb : c.code = cc) (hd : (∃ k : Fin 4, (k : Nat) = i ∧ decode cc pc = .ok (.lstore_n k, 1) ∧ pc + 1 = n) ∨ (decode cc pc = .ok (.lstore i, 2) ∧ pc + 2 = n)) {nL : Nat} (hL : zLr θ M ls lsA nL) (hi : i + 1 < nL)
    (kk : ∀ ls2, zLr θ M (zsetL ls i (zl x)) ls2 nL → W p l e R s m args below meth c H locs cells slots Z (F0 m n ls2 rest)) : W p l e R s m args below meth c H locs cells slots Z (F0 m pc lsA (.long x :: rest)) := by
  obtain ⟨ls2, e1, -⟩ := lv_store2 (v := .long x) hL.has hi rfl
  have w := kk ls2 (hL.st2 (v := zl x) hi trivial rfl e1)
  rcases hd with ⟨k, hk, hd, rfl⟩ | ⟨hd, rfl⟩
  · subst hk
    intro T hT X
    obtain ⟨t, a, b⟩ := w T hT X
    refine ⟨t, ?_, b⟩
    jvm_step X.here [X.here.top, ↓top_set X.here.top, hexec, hb, hd, e1]
    exact a
  · intro T hT X
    obtain ⟨t, a, b⟩ := w T hT X
    refine ⟨t, ?_, b⟩
    jvm_step X.here [X.here.top, ↓top_set X.here.top, hexec, hb, hd, e1]
    exact a
theorem zs_a {i : Nat} {v : zVal} (hv0 : zc θ v = .null ∨ ∃ a, zc θ v = .ref a) (hok : okV M v) (hexec : p.tables.exec = Jvm.exec) (hb : c.code = cc) (hd : (∃ k : Fin 4, (k : Nat) = i ∧ decode cc pc = .ok (.astore_n k, 1) ∧ pc + 1 = n) ∨ (decode cc pc = .ok (.astore i, 2) ∧ pc + 2 = n)) {nL : Nat} (hL : zLr θ M ls lsA nL) (hi : i < nL)
    (kk : ∀ ls2, zLr θ M (zset ls i v) ls2 nL → W p l e R s m args below meth c H locs cells slots Z (F0 m n ls2 rest)) : W p l e R s m args below meth c H locs cells slots Z (F0 m pc lsA (zc θ v :: rest)) := by
  have hc : (zc θ v).category = 1 := by rcases hv0 with h | ⟨a, h⟩ <;> rw [h] <;> rfl
  obtain ⟨ls2, e1, -⟩ := lv_store1 (v := zc θ v) hL.has hi hc
  have w := kk ls2 (hL.st1 (v := v) hi hok hc e1)
  rcases hv0 with h | ⟨a0, h⟩ <;> rw [h] at e1 ⊢ <;> rcases hd with ⟨k, hk, hd, rfl⟩ | ⟨hd, rfl⟩
  · subst hk
    intro T hT X
    obtain ⟨t, a, b⟩ := w T hT X
    refine ⟨t, ?_, b⟩
    jvm_step X.here [X.here.top, ↓top_set X.here.top, hexec, hb, hd, e1, Value.isRef]
    exact a
  · intro T hT X
    obtain ⟨t, a, b⟩ := w T hT X
    refine ⟨t, ?_, b⟩
    jvm_step X.here [X.here.top, ↓top_set X.here.top, hexec, hb, hd, e1, Value.isRef]
    exact a
  · subst hk
    intro T hT X
    obtain ⟨t, a, b⟩ := w T hT X
    refine ⟨t, ?_, b⟩
    jvm_step X.here [X.here.top, ↓top_set X.here.top, hexec, hb, hd, e1, Value.isRef]
    exact a
  · intro T hT X
    obtain ⟨t, a, b⟩ := w T hT X
    refine ⟨t, ?_, b⟩
    jvm_step X.here [X.here.top, ↓top_set X.here.top, hexec, hb, hd, e1, Value.isRef]
    exact a
theorem zs_inc {i : Nat} {x : Int32} {k : Int} (hexec : p.tables.exec = Jvm.exec) (hb : c.code = cc) (hd : decode cc pc = .ok (.iinc i k, 3)) {nL : Nat} (hL : zLr θ M ls lsA nL) (hx : ls i = some (zi x)) (hi : i < nL)
    (kk : ∀ ls2, zLr θ M (zset ls i (zi (x + Int32.ofInt k))) ls2 nL → W p l e R s m args below meth c H locs cells slots Z (F0 m (pc + 3) ls2 rest)) : W p l e R s m args below meth c H locs cells slots Z (F0 m pc lsA rest) := by
  obtain ⟨ls2, e1, -⟩ := lv_store1 (v := .int (x + Int32.ofInt k)) hL.has hi rfl
  have w := kk ls2 (hL.st1 (v := zi (x + Int32.ofInt k)) hi trivial rfl e1)
  have hg : lsA[i]? = some (.val (.int x)) := (hL.2.2 _ _ hx).1
  intro T hT X
  obtain ⟨t, a, b⟩ := w T hT X
  refine ⟨t, ?_, b⟩
  jvm_step X.here [X.here.top, ↓top_set X.here.top, hexec, hb, hd, hg, e1]
  exact a
end ZSt
theorem z_is {i : Nat} {x : Int32} (hd : zIs Y pc i n) (k : zV Y fr cm sm n (zset ls i (zi x)) st M Q) : zV Y fr cm sm pc ls (zi x :: st) M Q :=
  z_pure k (fun P kk => zs_i (ls' := ls) P.x P.b hd.2 P.L hd.1 (fun ls2 h2 => kk ls2 h2 P.sk.t))
theorem z_ls {i : Nat} {x : Int64} (hd : zLS Y pc i n) (k : zV Y fr cm sm n (zsetL ls i (zl x)) st M Q) : zV Y fr cm sm pc ls (zl x :: st) M Q :=
  z_pure k (fun P kk => zs_l P.x P.b hd.2 P.L hd.1 (fun ls2 h2 => kk ls2 h2 P.sk.t))
theorem z_as {i : Nat} {x : Option zAd} (hd : zAs Y pc i n) (k : zV Y fr cm sm n (zset ls i (.inr (.inr x))) st M Q) : zV Y fr cm sm pc ls (.inr (.inr x) :: st) M Q :=
  z_pure k (fun P kk => zs_a (v := .inr (.inr x)) (by cases x; exact Or.inl rfl; exact Or.inr ⟨_, rfl⟩) P.sk.h P.x P.b hd.2 P.L hd.1 (fun ls2 h2 => kk ls2 h2 P.sk.t))
theorem z_in {i : Nat} {x d : Int32} (hd : zIn Y pc i d n) (hx : ls i = some (zi x)) (k : zV Y fr cm sm n (zset ls i (zi (x + d))) st M Q) : zV Y fr cm sm pc ls st M Q := by
  obtain ⟨hi, k0, rfl, hd, rfl⟩ := hd
  exact z_pure k (fun P kk => zs_inc P.x P.b hd P.L hx hi (fun ls2 h2 => kk ls2 h2 P.sk))
theorem z_dup_i {x : Int32} (hd : zD Y pc 1 .dup n) (k : zV Y fr cm sm n ls (zi x :: zi x :: st) M Q) : zV Y fr cm sm pc ls (zi x :: st) M Q := by
  obtain ⟨hd, rfl⟩ := hd
  exact z_pure k (fun P kk => lv_dup P.x P.b hd rfl (kk _ P.L (okS.c P.sk.h P.sk)))
theorem z_dup {x : Option zAd} (hd : zD Y pc 1 .dup n) (k : zV Y fr cm sm n ls (.inr (.inr x) :: .inr (.inr x) :: st) M Q) : zV Y fr cm sm pc ls (.inr (.inr x) :: st) M Q := by
  obtain ⟨hd, rfl⟩ := hd
  exact z_pure k (fun P kk => lv_dup P.x P.b hd (by cases x <;> rfl) (kk _ P.L (okS.c P.sk.h P.sk)))
theorem z_dup2 {x : Int32} {a : zAd} (hd : zD Y pc 1 .dup2 n) (k : zV Y fr cm sm n ls (zi x :: zr a :: zi x :: zr a :: st) M Q) : zV Y fr cm sm pc ls (zi x :: zr a :: st) M Q := by
  obtain ⟨hd, rfl⟩ := hd
  exact z_pure k (fun P kk => lv_dup2_11 P.x P.b hd rfl rfl (kk _ P.L (okS.c P.sk.h (okS.c P.sk.t.h P.sk))))
theorem z_pop_i {x : Int32} (hd : zD Y pc 1 .pop n) (k : zV Y fr cm sm n ls st M Q) : zV Y fr cm sm pc ls (zi x :: st) M Q := by
  obtain ⟨hd, rfl⟩ := hd
  exact z_pure k (fun P kk => lv_pop P.x P.b hd rfl (kk _ P.L P.sk.t))
theorem z_if_eq {x : Int32} {t : Nat} (hd : zB Y pc (.ifCond .eq) n t) (kt : x = 0 → zV Y fr cm sm t ls st M Q) (kf : ¬ x = 0 → zV Y fr cm sm n ls st M Q) : zV Y fr cm sm pc ls (zi x :: st) M Q := by
  obtain ⟨off, hd, rfl, ht⟩ := hd
  by_cases h : x = 0
  · exact z_pure (kt h) (fun P kk => lv_if_eq P.x P.b hd ht (fun _ => kk _ P.L P.sk.t) (fun q => absurd h q))
  · exact z_pure (kf h) (fun P kk => lv_if_eq P.x P.b hd ht (fun q => absurd q h) (fun _ => kk _ P.L P.sk.t))
theorem z_icmp_eq {x y : Int32} {t : Nat} (hd : zB Y pc (.if_icmp .eq) n t) (kt : x = y → zV Y fr cm sm t ls st M Q) (kf : ¬ x = y → zV Y fr cm sm n ls st M Q) : zV Y fr cm sm pc ls (zi y :: zi x :: st) M Q := by
  obtain ⟨off, hd, rfl, ht⟩ := hd
  by_cases h : x = y
  · exact z_pure (kt h) (fun P kk => lv_icmp_eq P.x P.b hd ht (fun _ => kk _ P.L P.sk.t.t) (fun q => absurd h q))
  · exact z_pure (kf h) (fun P kk => lv_icmp_eq P.x P.b hd ht (fun q => absurd q h) (fun _ => kk _ P.L P.sk.t.t))
theorem z_if_ne {x : Int32} {t : Nat} (hd : zB Y pc (.ifCond .ne) n t) (kt : ¬ x = 0 → zV Y fr cm sm t ls st M Q) (kf : x = 0 → zV Y fr cm sm n ls st M Q) : zV Y fr cm sm pc ls (zi x :: st) M Q := by
  obtain ⟨off, hd, rfl, ht⟩ := hd
  by_cases h : x = 0
  · exact z_pure (kf h) (fun P kk => lv_if_ne P.x P.b hd ht (fun q => absurd h q) (fun _ => kk _ P.L P.sk.t))
  · exact z_pure (kt h) (fun P kk => lv_if_ne P.x P.b hd ht (fun _ => kk _ P.L P.sk.t) (fun q => absurd q h))
theorem z_icmp_ne {x y : Int32} {t : Nat} (hd : zB Y pc (.if_icmp .ne) n t) (kt : ¬ x = y → zV Y fr cm sm t ls st M Q) (kf : x = y → zV Y fr cm sm n ls st M Q) : zV Y fr cm sm pc ls (zi y :: zi x :: st) M Q := by
  obtain ⟨off, hd, rfl, ht⟩ := hd
  by_cases h : x = y
  · exact z_pure (kf h) (fun P kk => lv_icmp_ne P.x P.b hd ht (fun q => absurd h q) (fun _ => kk _ P.L P.sk.t.t))
  · exact z_pure (kt h) (fun P kk => lv_icmp_ne P.x P.b hd ht (fun _ => kk _ P.L P.sk.t.t) (fun q => absurd q h))
theorem z_if_lt {x : Int32} {t : Nat} (hd : zB Y pc (.ifCond .lt) n t) (kt : x < 0 → zV Y fr cm sm t ls st M Q) (kf : ¬ x < 0 → zV Y fr cm sm n ls st M Q) : zV Y fr cm sm pc ls (zi x :: st) M Q := by
  obtain ⟨off, hd, rfl, ht⟩ := hd
  by_cases h : x < 0
  · exact z_pure (kt h) (fun P kk => lv_if_lt P.x P.b hd ht (fun _ => kk _ P.L P.sk.t) (fun q => absurd h q))
  · exact z_pure (kf h) (fun P kk => lv_if_lt P.x P.b hd ht (fun q => absurd q h) (fun _ => kk _ P.L P.sk.t))
theorem z_icmp_lt {x y : Int32} {t : Nat} (hd : zB Y pc (.if_icmp .lt) n t) (kt : x < y → zV Y fr cm sm t ls st M Q) (kf : ¬ x < y → zV Y fr cm sm n ls st M Q) : zV Y fr cm sm pc ls (zi y :: zi x :: st) M Q := by
  obtain ⟨off, hd, rfl, ht⟩ := hd
  by_cases h : x < y
  · exact z_pure (kt h) (fun P kk => lv_icmp_lt P.x P.b hd ht (fun _ => kk _ P.L P.sk.t.t) (fun q => absurd h q))
  · exact z_pure (kf h) (fun P kk => lv_icmp_lt P.x P.b hd ht (fun q => absurd q h) (fun _ => kk _ P.L P.sk.t.t))
theorem z_if_ge {x : Int32} {t : Nat} (hd : zB Y pc (.ifCond .ge) n t) (kt : 0 ≤ x → zV Y fr cm sm t ls st M Q) (kf : ¬ 0 ≤ x → zV Y fr cm sm n ls st M Q) : zV Y fr cm sm pc ls (zi x :: st) M Q := by
  obtain ⟨off, hd, rfl, ht⟩ := hd
  by_cases h : 0 ≤ x
  · exact z_pure (kt h) (fun P kk => lv_if_ge P.x P.b hd ht (fun _ => kk _ P.L P.sk.t) (fun q => absurd h q))
  · exact z_pure (kf h) (fun P kk => lv_if_ge P.x P.b hd ht (fun q => absurd q h) (fun _ => kk _ P.L P.sk.t))
theorem z_icmp_ge {x y : Int32} {t : Nat} (hd : zB Y pc (.if_icmp .ge) n t) (kt : y ≤ x → zV Y fr cm sm t ls st M Q) (kf : ¬ y ≤ x → zV Y fr cm sm n ls st M Q) : zV Y fr cm sm pc ls (zi y :: zi x :: st) M Q := by
  obtain ⟨off, hd, rfl, ht⟩ := hd
  by_cases h : y ≤ x
  · exact z_pure (kt h) (fun P kk => lv_icmp_ge P.x P.b hd ht (fun _ => kk _ P.L P.sk.t.t) (fun q => absurd h q))
  · exact z_pure (kf h) (fun P kk => lv_icmp_ge P.x P.b hd ht (fun q => absurd q h) (fun _ => kk _ P.L P.sk.t.t))
theorem z_if_gt {x : Int32} {t : Nat} (hd : zB Y pc (.ifCond .gt) n t) (kt : 0 < x → zV Y fr cm sm t ls st M Q) (kf : ¬ 0 < x → zV Y fr cm sm n ls st M Q) : zV Y fr cm sm pc ls (zi x :: st) M Q := by
  obtain ⟨off, hd, rfl, ht⟩ := hd
  by_cases h : 0 < x
  · exact z_pure (kt h) (fun P kk => lv_if_gt P.x P.b hd ht (fun _ => kk _ P.L P.sk.t) (fun q => absurd h q))
  · exact z_pure (kf h) (fun P kk => lv_if_gt P.x P.b hd ht (fun q => absurd q h) (fun _ => kk _ P.L P.sk.t))
theorem z_icmp_gt {x y : Int32} {t : Nat} (hd : zB Y pc (.if_icmp .gt) n t) (kt : y < x → zV Y fr cm sm t ls st M Q) (kf : ¬ y < x → zV Y fr cm sm n ls st M Q) : zV Y fr cm sm pc ls (zi y :: zi x :: st) M Q := by
  obtain ⟨off, hd, rfl, ht⟩ := hd
  by_cases h : y < x
  · exact z_pure (kt h) (fun P kk => lv_icmp_gt P.x P.b hd ht (fun _ => kk _ P.L P.sk.t.t) (fun q => absurd h q))
  · exact z_pure (kf h) (fun P kk => lv_icmp_gt P.x P.b hd ht (fun q => absurd q h) (fun _ => kk _ P.L P.sk.t.t))
theorem z_if_le {x : Int32} {t : Nat} (hd : zB Y pc (.ifCond .le) n t) (kt : x ≤ 0 → zV Y fr cm sm t ls st M Q) (kf : ¬ x ≤ 0 → zV Y fr cm sm n ls st M Q) : zV Y fr cm sm pc ls (zi x :: st) M Q := by
  obtain ⟨off, hd, rfl, ht⟩ := hd
  by_cases h : x ≤ 0
  · exact z_pure (kt h) (fun P kk => lv_if_le P.x P.b hd ht (fun _ => kk _ P.L P.sk.t) (fun q => absurd h q))
  · exact z_pure (kf h) (fun P kk => lv_if_le P.x P.b hd ht (fun q => absurd q h) (fun _ => kk _ P.L P.sk.t))
theorem z_icmp_le {x y : Int32} {t : Nat} (hd : zB Y pc (.if_icmp .le) n t) (kt : x ≤ y → zV Y fr cm sm t ls st M Q) (kf : ¬ x ≤ y → zV Y fr cm sm n ls st M Q) : zV Y fr cm sm pc ls (zi y :: zi x :: st) M Q := by
  obtain ⟨off, hd, rfl, ht⟩ := hd
  by_cases h : x ≤ y
  · exact z_pure (kt h) (fun P kk => lv_icmp_le P.x P.b hd ht (fun _ => kk _ P.L P.sk.t.t) (fun q => absurd h q))
  · exact z_pure (kf h) (fun P kk => lv_icmp_le P.x P.b hd ht (fun q => absurd q h) (fun _ => kk _ P.L P.sk.t.t))
theorem z_ifnull {x : Option zAd} {t : Nat} (hd : zB Y pc .ifnull n t) (kt : x = none → zV Y fr cm sm t ls st M Q) (kf : ∀ a, x = some a → zV Y fr cm sm n ls st M Q) : zV Y fr cm sm pc ls (.inr (.inr x) :: st) M Q := by
  obtain ⟨off, hd, rfl, ht⟩ := hd
  cases x with
  | none => exact z_pure (kt rfl) (fun P kk => lv_ifnullN P.x P.b hd ht (kk _ P.L P.sk.t))
  | some a => exact z_pure (kf a rfl) (fun P kk => lv_ifnull P.x P.b hd (kk _ P.L P.sk.t))
theorem z_ifnonnull {x : Option zAd} {t : Nat} (hd : zB Y pc .ifnonnull n t) (kt : ∀ a, x = some a → zV Y fr cm sm t ls st M Q) (kf : x = none → zV Y fr cm sm n ls st M Q) : zV Y fr cm sm pc ls (.inr (.inr x) :: st) M Q := by
  obtain ⟨off, hd, rfl, ht⟩ := hd
  cases x with
  | none => exact z_pure (kf rfl) (fun P kk => lv_ifnonnullN P.x P.b hd (kk _ P.L P.sk.t))
  | some a => exact z_pure (kt a rfl) (fun P kk => lv_ifnonnull P.x P.b hd ht (kk _ P.L P.sk.t))
def zAll (P : Nat → Nat → Prop) : Nat → List Nat → Prop
  | _, [] => True
  | i, t :: ts => P i t ∧ zAll P (i + 1) ts
theorem zAll.at {P : Nat → Nat → Prop} : ∀ {ts : List Nat} {i : Nat}, zAll P i ts → ∀ j t, ts[j]? = some t → P (i + j) t
  | [], _, _, j, t, h => by simp at h
  | t0 :: ts, i, hh, 0, t, h => by
    simp at h
    subst h
    exact hh.1
  | t0 :: ts, i, hh, j + 1, t, h => by
    rw [List.getElem?_cons_succ] at h
    have := zAll.at hh.2 j t h
    rwa [show i + (j + 1) = i + 1 + j by omega]
def zSw (Y : zY) (pc : Nat) (lo : Int) (ts : List Nat) (td : Nat) : Prop := ∃ (hi : Int) (offs : Array Int) (dflt : Int) (len : Nat), decode Y.2.1 pc = .ok (.tableswitch dflt lo hi offs, len) ∧ hi = lo + ts.length - 1 ∧ (pc : Int) + dflt = (td : Int) ∧ offs.toList = ts.map (fun (t : Nat) => (t : Int) - pc)
theorem z_sw {x : Int32} {lo : Int} {ts : List Nat} {td : Nat} (hd : zSw Y pc lo ts td) (kin : zAll (fun i t => x.toInt = lo + i → zV Y fr cm sm t ls st M Q) 0 ts) (kout : x.toInt < lo ∨ lo + ts.length ≤ x.toInt → zV Y fr cm sm td ls st M Q) : zV Y fr cm sm pc ls (zi x :: st) M Q := by
  obtain ⟨hi, offs, dflt, len, hd, rfl, ht, ho⟩ := hd
  by_cases h : x.toInt < lo ∨ lo + ts.length ≤ x.toInt
  · exact z_pure (kout h) (fun P kk => lv_tableOut P.x P.b hd (by omega) ht (kk _ P.L P.sk.t))
  · have h1 : (x.toInt - lo).toNat < ts.length := by omega
    have h2 := zAll.at kin (x.toInt - lo).toNat ts[(x.toInt - lo).toNat] (List.getElem?_eq_getElem h1)
    have h3 : offs[(x.toInt - lo).toNat]? = some ((ts[(x.toInt - lo).toNat] : Int) - pc) := by
      rw [← Array.getElem?_toList, ho, List.getElem?_map, List.getElem?_eq_getElem h1]
      rfl
    exact z_pure (h2 (by omega)) (fun P kk => lv_tableIn P.x P.b hd (by omega) (by omega) h3 (by omega) (kk _ P.L P.sk.t))
end ZR
/-! the ends -/
section ZE
variable {Y : zY} {fr cm sm pc n : Nat} {ls : zLs} {st : List zVal} {M : zM} {Q : Option zVal → zM → Prop}
theorem zPre.q {st : List zVal} {r : Option zVal} {G : zG} {p : Program} {s : State} {m : MethodId} {args : Array Value} {meth : Method} {c : Code} {H : Heap} {locs : List Loc} {cells slots : Nat} {θ0 : zAd → Nat} {M0 : zM} {θ : zAd → Nat} {lsA : Array Slot} {R : Room} (P : zPre Y fr cm sm ls st M G p s m args meth c H locs cells slots θ0 M0 θ lsA R) (hr : ∀ v, r = some v → okV M v) (t : State) (ht : t.heap = H) : zQc G θ0 M0 r M args s (.returned (r.map (zc θ))) t :=
  ⟨θ, P.2.2.2.1, rfl, by rw [ht]; exact P.2.2.2.2.1, hr, P.2.2.1.F ht⟩
theorem z_iret {x : Int32} (hd : zD Y pc 1 .ireturn n) (hr : Y.2.2.2 = some .int) (hq : Q (some (zi x)) M) : zV Y fr cm sm pc ls [zi x] M Q :=
  ⟨some (zi x), M, hq, fun P => W.widen (Nat.le_add_right _ _) (Nat.le_add_right _ _) (W.iret P.x P.b (P.1.2.2.2.1.trans hr) (fun t ht _ => P.q (fun v hv => by cases hv; trivial) t ht) P.2.2.1.2.2 hd.1 P.1.2.2.2.2.2.2.2.1)⟩
theorem z_zret {x : Int32} {ty : FieldType} (hd : zD Y pc 1 .ireturn n) (hr : Y.2.2.2 = some ty) (hn : narrow ty (.int x) = .int x) (hq : Q (some (zi x)) M) : zV Y fr cm sm pc ls [zi x] M Q :=
  ⟨some (zi x), M, hq, fun P => W.widen (Nat.le_add_right _ _) (Nat.le_add_right _ _) (W.zret P.x P.b (P.1.2.2.2.1.trans hr) hn (fun t ht _ => P.q (fun v hv => by cases hv; trivial) t ht) P.2.2.1.2.2 hd.1 P.1.2.2.2.2.2.2.2.1)⟩
theorem z_lret {x : Int64} (hd : zD Y pc 1 .lreturn n) (hr : Y.2.2.2 = some .long) (hq : Q (some (zl x)) M) : zV Y fr cm sm pc ls [zl x] M Q :=
  ⟨some (zl x), M, hq, fun P => W.widen (Nat.le_add_right _ _) (Nat.le_add_right _ _) (W.lret P.x P.b (P.1.2.2.2.1.trans hr) (fun t ht _ => P.q (fun v hv => by cases hv; trivial) t ht) P.2.2.1.2.2 hd.1 P.1.2.2.2.2.2.2.2.1)⟩
theorem z_vret (hd : zD Y pc 1 .return_ n) (hr : Y.2.2.2 = none) (hq : Q none M) : zV Y fr cm sm pc ls [] M Q :=
  ⟨none, M, hq, fun P => W.widen (Nat.le_add_right _ _) (Nat.le_add_right _ _) (W.vret P.x P.b (P.1.2.2.2.1.trans hr) (fun t ht _ => P.q (r := none) (fun v hv => by cases hv) t ht) P.2.2.1.2.2 hd.1 P.1.2.2.2.2.2.2.2.1)⟩
theorem z_aret {x : Option zAd} {C : String} (hd : zD Y pc 1 .areturn n) (hr : Y.2.2.2 = some (.object C)) (hq : Q (some (.inr (.inr x))) M) : zV Y fr cm sm pc ls [.inr (.inr x)] M Q :=
  ⟨some (.inr (.inr x)), M, hq, fun P => W.widen (Nat.le_add_right _ _) (Nat.le_add_right _ _) (W.aret (v := zc _ (.inr (.inr x))) P.x P.b (P.1.2.2.2.1.trans hr) (Or.inl ⟨C, rfl⟩) (by cases x; exact Or.inl rfl; exact Or.inr ⟨_, rfl⟩) (fun t ht _ => P.q (r := some (.inr (.inr x))) (fun v hv => by cases hv; exact P.sk.h) t ht) P.2.2.1.2.2 hd.1 P.1.2.2.2.2.2.2.2.1)⟩
/-- the locals with which a method begins -/
def zen : List zVal → List (Option zVal)
  | [] => []
  | .inr (.inl x) :: vs => some (.inr (.inl x)) :: none :: zen vs
  | .inl x :: vs => some (.inl x) :: zen vs
  | .inr (.inr x) :: vs => some (.inr (.inr x)) :: zen vs
def zL (L : List (Option zVal)) : zLs := fun i => (L[i]?).getD none
theorem zen_args (θ : zAd → Nat) (i0 : Nat) : ∀ (vs : List zVal) (i : Nat) (v : zVal), (zen vs)[i]? = some (some v) → (i0 + i, zc θ v) ∈ lv_args i0 (vs.map (zc θ)) ∧ v ∈ vs
  | [], i, v, h => by simp [zen] at h
  | .inl x :: vs, 0, v, h => by
    simp [zen] at h
    subst h
    exact ⟨List.mem_cons_self, List.mem_cons_self⟩
  | .inl x :: vs, i + 1, v, h => by
    simp only [zen, List.getElem?_cons_succ] at h
    have := zen_args θ (i0 + 1) vs i v h
    refine ⟨?_, List.mem_cons_of_mem _ this.2⟩
    show _ ∈ (i0, Value.int x) :: lv_args (if (Value.int x).category = 2 then i0 + 2 else i0 + 1) (vs.map (zc θ))
    rw [if_neg (show ¬ (Value.int x).category = 2 from fun q => absurd q (by decide : ¬ (1 : Nat) = 2)), show i0 + (i + 1) = i0 + 1 + i by omega]
    exact List.mem_cons_of_mem _ this.1
  | .inr (.inl x) :: vs, 0, v, h => by
    simp [zen] at h
    subst h
    exact ⟨List.mem_cons_self, List.mem_cons_self⟩
  | .inr (.inl x) :: vs, 1, v, h => by
    simp [zen] at h
  | .inr (.inl x) :: vs, i + 2, v, h => by
    simp only [zen, List.getElem?_cons_succ] at h
    have := zen_args θ (i0 + 2) vs i v h
    refine ⟨?_, List.mem_cons_of_mem _ this.2⟩
    show _ ∈ (i0, Value.long x) :: lv_args (if (Value.long x).category = 2 then i0 + 2 else i0 + 1) (vs.map (zc θ))
    rw [if_pos (show (Value.long x).category = 2 from rfl), show i0 + (i + 2) = i0 + 2 + i by omega]
    exact List.mem_cons_of_mem _ this.1
  | .inr (.inr x) :: vs, 0, v, h => by
    simp [zen] at h
    subst h
    exact ⟨List.mem_cons_self, List.mem_cons_self⟩
  | .inr (.inr x) :: vs, i + 1, v, h => by
    simp only [zen, List.getElem?_cons_succ] at h
    have := zen_args θ (i0 + 1) vs i v h
    refine ⟨?_, List.mem_cons_of_mem _ this.2⟩
    show _ ∈ (i0, zc θ (.inr (.inr x))) :: lv_args (if (zc θ (.inr (.inr x))).category = 2 then i0 + 2 else i0 + 1) (vs.map (zc θ))
    rw [if_neg (by cases x <;> exact (by decide : ¬ (1 = 2))), show i0 + (i + 1) = i0 + 1 + i by omega]
    exact List.mem_cons_of_mem _ this.1
theorem zen_len (θ : zAd → Nat) : ∀ (vs : List zVal), (lg_sl (vs.map (zc θ))).length = (zen vs).length
  | [] => rfl
  | .inl x :: vs => by
    have := zen_len θ vs
    simp only [lg_sl, List.map_cons, List.flatMap_cons, List.length_append, zen, List.length_cons] at this ⊢
    rw [this]
    simp [zc, Value.category]
    omega
  | .inr (.inl x) :: vs => by
    have := zen_len θ vs
    simp only [lg_sl, List.map_cons, List.flatMap_cons, List.length_append, zen, List.length_cons] at this ⊢
    rw [this]
    simp [zc, Value.category]
    omega
  | .inr (.inr x) :: vs => by
    have := zen_len θ vs
    simp only [lg_sl, List.map_cons, List.flatMap_cons, List.length_append, zen, List.length_cons] at this ⊢
    rw [this]
    cases x <;> simp [zc, Value.category] <;> omega
/-- a contract out of a walk from the method's entry -/
theorem z_enter {As : List zVal} {L : List (Option zVal)} (hL : zen As = L) (hpn : plainName Y.1.cls = true) (hn : L.length ≤ Y.2.2.1) (k : zV Y fr cm sm 0 (zL L) [] M Q) : zC Y fr cm sm As M Q := by
  subst hL
  obtain ⟨r, M', hq, hk⟩ := k
  refine ⟨r, M', hq, fun G l θ hAs => ?_⟩
  refine Met.ofW (cc := Y.2.1) (maxL := Y.2.2.1) (ret := Y.2.2.2) hpn rfl ?_
  intro p e s m args below meth c s₁ B hml hv
  obtain ⟨rfl, hK, hS, hR, hb0⟩ := hv
  have hts := atoms_spec (ws := zws Y) B.pre
  rw [lg_entry_eq]
  have hle : (lg_sl (As.map (zc θ))).length ≤ Y.2.2.1 := by rw [zen_len]; exact hn
  have hl := lv_entry (As.map (zc θ)) (n := Y.2.2.1) hle
  have h9 := hk (G := G) (p := p) (l := l) (e := e) (s := s) (m := m) (args := (As.map (zc θ)).toArray) (below := below) (meth := meth) (c := c) (H := s.heap) (locs := []) (cells := 0) (slots := 0) (θ0 := θ) (M0 := M) (θ := θ) (lsA := (lg_sl (As.map (zc θ)) ++ List.replicate (Y.2.2.1 - (lg_sl (As.map (zc θ))).length) Slot.unset).toArray) (R := (headSpec (zws Y) (zRm fr cm sm)).room)
    ⟨⟨B.exec, B.bytes, hml, B.returns, findClass_of_methodNamed B.named, fun h => (name_of_methodNamed B.named B.method).1.trans h, fun w hw => hts w (List.mem_cons_of_mem _ hw), B.notSynchronized, hK, hS, hb0⟩,
      ⟨Nat.le_refl _, Nat.le_refl _, by rw [Nat.zero_add]; exact Nat.le_refl _, by rw [Nat.zero_add]; exact Nat.le_refl _⟩, va_S.rf, zExt.rf, hR, ⟨hl.1, hl.2.1, fun i v hv => ?_⟩, okS.nil⟩
  · rw [Nat.zero_add, Nat.zero_add] at h9
    exact h9
  · have hv2 : (zen As)[i]? = some (some v) := by
      unfold zL at hv
      cases hx : (zen As)[i]? with
      | none => rw [hx] at hv; cases hv
      | some o => rw [hx] at hv; exact congrArg some hv
    obtain ⟨h1, h2⟩ := zen_args θ 0 As i v hv2
    rw [Nat.zero_add] at h1
    exact ⟨hl.2.2 _ h1, hAs v h2⟩
end ZE
end
section
/-! rows of zV that read and write the memory -/
/-- a class of the table: its number, its name, its fields -/
def zCf (ci : Nat) (C : String) (T : u_T) (N : Nat) : Prop := vwCl[ci]? = some (C, T, N) ∧ (∀ w ∈ u_ws C T N, w ∈ zTW) ∧ (∀ a, a < N → ∀ b, b < N → a ≠ b → (T a).2.1 ≠ (T b).2.1) ∧ ∃ ty : Nat → FieldType, ∀ k, k < N → parseFieldDescriptor (T k).2.2.1 = some (ty k)
def zGf (Y : zY) (pc ci k n : Nat) : Prop := ∃ (idx : Nat) (C : String) (T : u_T) (N : Nat), zCf ci C T N ∧ k < N ∧ decode Y.2.1 pc = .ok (.getfield idx, 3) ∧ pc + 3 = n ∧ Cond.fieldLink Y.1.cls idx (T k).1 (T k).2.1 (T k).2.2.1 ∈ zTW
def zPf (Y : zY) (pc ci k : Nat) (ty : FieldType) (n : Nat) : Prop := ∃ (idx : Nat) (C : String) (T : u_T) (N : Nat), zCf ci C T N ∧ k < N ∧ decode Y.2.1 pc = .ok (.putfield idx, 3) ∧ pc + 3 = n ∧ Cond.fieldLink Y.1.cls idx (T k).1 (T k).2.1 (T k).2.2.1 ∈ zTW ∧ parseFieldDescriptor (T k).2.2.1 = some ty ∧ ((T k).2.2.2 = false ∨ ((T k).2.2.2 = true ∧ Y.1.name = "<init>" ∧ (T k).1 = Y.1.cls))
/-- a value fits a field of a type -/
def zFit : FieldType → zVal → Prop
  | .int, .inl _ => True
  | .boolean, .inl x => x = 0 ∨ x = 1
  | .long, .inr (.inl _) => True
  | .object _, .inr (.inr _) => True
  | .array _, .inr (.inr _) => True
  | _, _ => False
theorem zFit.n {ty : FieldType} {v : zVal} (h : zFit ty v) (θ : zAd → Nat) : narrow ty (zc θ v) = zc θ v ∧ fits ty (zc θ v) = true := by
  match ty, v, h with
  | .int, .inl x, _ => exact ⟨rfl, rfl⟩
  | .boolean, .inl x, h => rcases h with rfl | rfl <;> exact ⟨rfl, rfl⟩
  | .long, .inr (.inl _), _ => exact ⟨rfl, rfl⟩
  | .object _, .inr (.inr none), _ => exact ⟨rfl, rfl⟩
  | .object _, .inr (.inr (some _)), _ => exact ⟨rfl, rfl⟩
  | .array _, .inr (.inr none), _ => exact ⟨rfl, rfl⟩
  | .array _, .inr (.inr (some _)), _ => exact ⟨rfl, rfl⟩
/-- f, but v at k -/
def zup {α : Type} (f : Nat → α) (k : Nat) (v : α) : Nat → α := fun j => if j = k then v else f j
theorem zup_s {α : Type} {f : Nat → α} {k : Nat} {v : α} : zup f k v k = v := if_pos rfl
theorem zup_n {α : Type} {f : Nat → α} {k j : Nat} {v : α} (h : j ≠ k) : zup f k v j = f j := if_neg h
theorem zupd_s {M : zM} {a : zAd} {e : zE} : zupd M a e a = some e := if_pos rfl
theorem zupd_n {M : zM} {a b : zAd} {e : zE} (h : b ≠ a) : zupd M a e b = M b := if_neg h
theorem z_clamp {i : Int32} {j : Nat} (h : i.toInt = (j : Int)) : i.toNatClampNeg = j := by
  show i.toInt.toNat = j
  omega
theorem z_within {i : Int32} {j N : Nat} (h : i.toInt = (j : Int)) (hj : j < N) : vp_in i N := vp_in_iff.mpr ⟨by omega, by omega⟩
section ZH
variable {Y : zY} {fr cm sm pc n : Nat} {ls : zLs} {st : List zVal} {M : zM} {Q : Option zVal → zM → Prop}
theorem zP1 {D : va_G} {q : Nat × va_E} {H : Heap} (h : va_at D vwCl q H) : va_P D vwCl [q] H := fun k x hk => by
  match k, hk with
  | 0, hk => cases hk; exact h
  | k + 1, hk => simp at hk
theorem z_gf {ci k : Nat} {a : zAd} {fs : List zVal} {v : zVal} (hd : zGf Y pc ci k n) (hM : M a = some (.inr (ci, fs))) (hv : fs[k]? = some v) (kk : zV Y fr cm sm n ls (v :: st) M Q) : zV Y fr cm sm pc ls (zr a :: st) M Q := by
  obtain ⟨idx, C, T, N, ⟨hc, hu, -⟩, hk, hd, rfl, hl⟩ := hd
  refine z_pure kk (fun P k2 => ?_)
  obtain ⟨-, g2, -⟩ := P.2.2.2.2.1.1 a _ hM
  have g1 := P.2.2.2.2.1.g hM (Or.inr fun n f q => by cases q)
  exact va_get (ws := [(_, _)]) P.x P.b P.w hu P.o P.1.2.2.2.2.2.2.2.2.1.1 (zP1 g1) 0 rfl hc k hk (P.w _ hl) (fun _ h => h) (by rw [List.getElem?_map, hv]; rfl) hd (k2 _ P.L (okS.c (g2 v (List.mem_of_getElem? hv)) P.sk.t))
/-- the judgement at a place, out of the judgement at the next, one cell written -/
theorem z_store {a : zAd} {e0 e1 : zE} {n' : Nat} {st' : List zVal} (hM : M a = some e0) (ha : 2 ≤ a.1) (k : zV Y fr cm sm n' ls st' (zupd M a e1) Q)
    (h : ∀ {G : zG} {p : Program} {l : Launch} {e : Env} {s : State} {m : MethodId} {args : Array Value} {below : List Frame} {meth : Method} {c : Code} {H : Heap} {locs : List Loc} {cells slots : Nat} {θ0 : zAd → Nat} {M0 : zM} {θ : zAd → Nat} {lsA : Array Slot} {R : Room} {Z : State → Prop},
      zPre Y fr cm sm ls st M G p s m args meth c H locs cells slots θ0 M0 θ lsA R → va_at G.1 vwCl (θ a, zcE θ G.2.1 e0) H → okE M e0 → (∀ (H1 : Heap) (i : Nat), va_at G.1 vwCl (θ a, zcE θ G.2.1 e1) H1 → H1.size = H.size → (∀ q : Nat, q ≠ θ a → H1[q]? = H[q]?) → okE M e1 → okS M st' → W p l e R s m args below meth c H1 (locs ++ [⟨θ a, i⟩]) cells slots Z (F0 m n' lsA (st'.map (zc θ)))) → W p l e R s m args below meth c H locs cells slots Z (F0 m pc lsA (st.map (zc θ)))) : zV Y fr cm sm pc ls st M Q := by
  obtain ⟨r, M', hq, hk⟩ := k
  refine ⟨r, M', hq, fun P => ?_⟩
  obtain ⟨-, g2, g3⟩ := P.2.2.2.2.1.1 a _ hM
  have g1 := P.2.2.2.2.1.g hM (Or.inl (by omega))
  refine h P g1 g2 (fun H1 i h1 h2 h3 h4 h5 => ?_)
  exact hk ⟨P.1, P.2.1, P.2.2.1.put h2 h3 (g3 ha), P.2.2.2.1.tr ⟨zDom.upd, fun _ _ => rfl⟩, P.2.2.2.2.1.set hM ha h1 h3 h4, ⟨P.L.1, P.L.2.1, fun i v hv => ⟨(P.L.2.2 i v hv).1, (P.L.2.2 i v hv).2.up zDom.upd⟩⟩, h5.up zDom.upd⟩
theorem z_pf {ci k : Nat} {a : zAd} {fs : List zVal} {v : zVal} {ty : FieldType} (hd : zPf Y pc ci k ty n) (hM : M a = some (.inr (ci, fs))) (ha : 2 ≤ a.1) (hl : k < fs.length) (hf : zFit ty v) (kk : zV Y fr cm sm n ls st (zupd M a (.inr (ci, fs.set k v))) Q) : zV Y fr cm sm pc ls (v :: zr a :: st) M Q := by
  obtain ⟨idx, C, T, N, ⟨hc, hu, hnm, ty0, hty⟩, hkN, hd, rfl, hlk, hd2, hfin⟩ := hd
  refine z_store hM ha kk (fun {G p l e s m args below meth c H locs cells slots θ0 M0 θ lsA R Z} P g1 g2 k2 => ?_)
  have hts := P.w
  have hK := P.1.2.2.2.2.2.2.2.2.1.1
  have hap := va_apart (own := Y.1.cls) hts hu ty0 hty hnm hK hc
  obtain ⟨r, h1, cell, q1, q2, q3, q4⟩ := g1
  have hr : r = (C, T, N) := Option.some.inj (h1.symm.trans hc)
  subst hr
  obtain ⟨hS, hfc, kC, hkC, hkind⟩ := hK.1 ci _ hc
  obtain ⟨cf, kf, fi, f, hi, hsl⟩ := hS k hkN
  obtain ⟨hn1, hn2⟩ := hf.n θ
  have hst := (u_facts hfc hkC (u_lays hts hu hkN) hi).1
  have okn : okE M (.inr (ci, fs.set k v)) := fun w hw => by
    rcases List.mem_or_eq_of_mem_set hw with h | h
    · exact g2 w h
    · rw [h]; exact P.sk.h
  have fin : ∀ (H' : Heap), H'[θ a]? = some (cell.setSlot f.slot (zc θ v)) → va_at G.1 vwCl (θ a, zcE θ G.2.1 (.inr (ci, fs.set k v))) H' := fun H' e1 => by
    show va_at G.1 vwCl (θ a, .inr (ci, (fs.set k v).map (zc θ))) H'
    rw [List.map_set]
    rw [hsl] at e1
    exact ⟨_, hc, t_OB.to (V := updV (vp_V (fs.map (zc θ))) k (zc θ v)) ⟨_, e1, q2, q3, t_set q4 hap hkN (zc θ v)⟩ (fun j _ => vp_updV_set (by rw [List.length_map]; exact hl) (zc θ v) j)⟩
  rcases hfin with hfin | ⟨hfin, hin2, hdecl⟩
  · have hlay := hts _ (hu _ (u_in_lay hkN))
    unfold u_lay at hlay
    rw [if_neg (by rw [hfin]; decide)] at hlay
    have h6 := u_store hfc hkC hkind hlay hi hd2 hn1 hn2
    exact W.putK P.x P.b (f := f) ⟨P.o, hts _ hlk, ⟨_, _, _, hi⟩, hst⟩ (by rw [q2]; exact h6) q1 q3 (by rw [hsl]; exact k2_hasslot (q4 k hkN)) rfl rfl hd fun H' e1 e2 e3 => k2 H' _ (fin H' e1) e2 e3 okn P.sk.t.t
  · have hlay := hts _ (hu _ (u_in_lay hkN))
    unfold u_lay at hlay
    rw [if_pos hfin] at hlay
    have hcf : m.cls = cf := by
      obtain ⟨_, _, c', _, _, _, -, -, hf', -, -, -, hown2, -⟩ := Cond.laysFinal_spec hlay
      have e1 : c' = cf := by have := hi.symm.trans hf'; simp at this; exact this.1.symm
      rw [hdecl] at hown2
      rw [← e1]; exact Option.some.inj (P.o.symm.trans hown2)
    have h6 := u_fits hfc hkC hkind (Or.inr hlay) hi hd2 hn1 hn2
    exact W.putFinK P.x P.b P.o (hts _ hlk) hi hst hcf (P.1.2.2.2.2.2.1 hin2) (by rw [q2]; exact h6) q1 q3 (by rw [hsl]; exact k2_hasslot (q4 k hkN)) rfl rfl hd fun H' e1 e2 e3 => k2 H' _ (fin H' e1) e2 e3 okn P.sk.t.t
theorem z_iald {a : zAd} {N j : Nat} {f : Nat → Int32} {i : Int32} (hd : zD Y pc 1 .iaload n) (hM : M a = some (.inl (0, N, .inl f))) (hi : i.toInt = (j : Int)) (hj : j < N) (kk : zV Y fr cm sm n ls (zi (f j) :: st) M Q) : zV Y fr cm sm pc ls (zi i :: zr a :: st) M Q := by
  obtain ⟨hd, rfl⟩ := hd
  refine z_pure kk (fun {G p l e s m args below meth c H locs cells slots θ0 M0 θ lsA R Z} P k2 => ?_)
  have h2 := k2 _ P.L (okS.c trivial P.sk.t.t)
  rw [← z_clamp hi] at h2
  by_cases h1 : a.1 = 1
  · obtain ⟨e1, e2, e3⟩ := (P.2.2.2.2.1.1 a _ hM).1.s h1
    cases e1
    have hS := P.1.2.2.2.2.2.2.2.2.2.1
    show W p l e R s m args below meth c H locs cells slots Z (F0 m pc lsA (.int i :: .ref (θ a) :: st.map (zc θ)))
    rw [e2]
    exact va_sld P.x P.b hS.2.2.2.1 hS.2.2.2.2.1 hS.2.2.2.2.2 P.2.2.1 (z_within hi hj) hd h2
  · exact va_iald (ws := [(_, _)]) P.x P.b P.1.2.2.2.2.2.2.2.2.1.1 (zP1 (P.2.2.2.2.1.g hM (Or.inl h1))) 0 0 rfl rfl (z_within hi hj) hd h2
theorem z_bald {a : zAd} {N j : Nat} {f : Nat → Int32} {i : Int32} (hd : zD Y pc 1 .baload n) (hM : M a = some (.inl (2, N, .inl f))) (hi : i.toInt = (j : Int)) (hj : j < N) (kk : zV Y fr cm sm n ls (zi (f j) :: st) M Q) : zV Y fr cm sm pc ls (zi i :: zr a :: st) M Q := by
  obtain ⟨hd, rfl⟩ := hd
  refine z_pure kk (fun P k2 => ?_)
  have h2 := k2 _ P.L (okS.c trivial P.sk.t.t)
  rw [← z_clamp hi] at h2
  exact va_bald (ws := [(_, _)]) P.x P.b P.1.2.2.2.2.2.2.2.2.1.1 (zP1 (P.2.2.2.2.1.g hM (Or.inr fun n f q => by cases q))) 0 2 rfl rfl (z_within hi hj) hd h2
theorem z_zald {a : zAd} {N j : Nat} {f : Nat → Int32} {i : Int32} (hd : zD Y pc 1 .baload n) (hM : M a = some (.inl (3, N, .inl f))) (hi : i.toInt = (j : Int)) (hj : j < N) (kk : zV Y fr cm sm n ls (zi (f j) :: st) M Q) : zV Y fr cm sm pc ls (zi i :: zr a :: st) M Q := by
  obtain ⟨hd, rfl⟩ := hd
  refine z_pure kk (fun P k2 => ?_)
  have h2 := k2 _ P.L (okS.c trivial P.sk.t.t)
  rw [← z_clamp hi] at h2
  exact va_zald (ws := [(_, _)]) P.x P.b P.1.2.2.2.2.2.2.2.2.1.1 (zP1 (P.2.2.2.2.1.g hM (Or.inr fun n f q => by cases q))) 0 3 rfl rfl (z_within hi hj) hd h2
theorem z_lald {a : zAd} {N j : Nat} {f : Nat → Int64} {i : Int32} (hd : zD Y pc 1 .laload n) (hM : M a = some (.inl (1, N, .inr (.inl f)))) (hi : i.toInt = (j : Int)) (hj : j < N) (kk : zV Y fr cm sm n ls (zl (f j) :: st) M Q) : zV Y fr cm sm pc ls (zi i :: zr a :: st) M Q := by
  obtain ⟨hd, rfl⟩ := hd
  refine z_pure kk (fun P k2 => ?_)
  have h2 := k2 _ P.L (okS.c trivial P.sk.t.t)
  rw [← z_clamp hi] at h2
  exact va_lald (ws := [(_, _)]) P.x P.b P.1.2.2.2.2.2.2.2.2.1.1 (zP1 (P.2.2.2.2.1.g hM (Or.inr fun n f q => by cases q))) 0 1 rfl rfl (z_within hi hj) hd h2
theorem zTyL_ref {dA : Nat → ClassId} {t : Nat} (h4 : 4 ≤ t) (h9 : t ≤ 9) : ∃ ty, (zTyL dA)[t]? = some (dA t, ty) ∧ ty.isReference = true := by
  rcases (show t = 4 ∨ t = 5 ∨ t = 6 ∨ t = 7 ∨ t = 8 ∨ t = 9 by omega) with rfl | rfl | rfl | rfl | rfl | rfl <;> exact ⟨_, rfl, rfl⟩
theorem z_aald {a : zAd} {t N j : Nat} {f : Nat → Option zAd} {i : Int32} (hd : zD Y pc 1 .aaload n) (hM : M a = some (.inl (t, N, .inr (.inr f)))) (ht : 4 ≤ t ∧ t ≤ 9) (hi : i.toInt = (j : Int)) (hj : j < N) (kk : zV Y fr cm sm n ls (.inr (.inr (f j)) :: st) M Q) : zV Y fr cm sm pc ls (zi i :: zr a :: st) M Q := by
  obtain ⟨hd, rfl⟩ := hd
  refine z_pure kk (fun {G p l e s m args below meth c H locs cells slots θ0 M0 θ lsA R Z} P k2 => ?_)
  obtain ⟨-, g2, -⟩ := P.2.2.2.2.1.1 a _ hM
  have g1 := P.2.2.2.2.1.g hM (Or.inr fun n f q => by cases q)
  have hok : okV M (.inr (.inr (f j))) := by
    cases hx : f j with
    | none => trivial
    | some b => exact Or.inr (g2 j b hj hx)
  have h2 := k2 _ P.L (okS.c hok P.sk.t.t)
  obtain ⟨ty, h5, h6⟩ := zTyL_ref (dA := G.2.1) ht.1 ht.2
  have hin := z_within hi hj
  refine W.aald (cell := arrV (G.2.1 t) N (fun j => va_rf ((f j).map θ))) (v := zc θ (.inr (.inr (f j)))) (ty := ty) P.x P.b g1 ((P.1.2.2.2.2.2.2.2.2.1.1.2 t _ h5).1 N _) h6 (fun q => by cases q) (by rw [arrV_size]; exact hin) ?_ rfl rfl hd h2
  rw [z_clamp hi, arrV_read _ _ hj]
  cases f j <;> rfl
theorem z_alen {a : zAd} {t : Nat} {x : zArr} (hd : zD Y pc 1 .arraylength n) (hM : M a = some (.inl (t, x))) (ht : t ≤ 9) (kk : zV Y fr cm sm n ls (zi (Int32.ofNat x.1) :: st) M Q) : zV Y fr cm sm pc ls (zr a :: st) M Q := by
  obtain ⟨hd, rfl⟩ := hd
  refine z_pure kk (fun {G p l e s m args below meth c H locs cells slots θ0 M0 θ lsA R Z} P k2 => ?_)
  have h5 : ∃ ty, (zTyL G.2.1)[t]? = some (G.2.1 t, ty) := by
    rcases (show t = 0 ∨ t = 1 ∨ t = 2 ∨ t = 3 ∨ t = 4 ∨ t = 5 ∨ t = 6 ∨ t = 7 ∨ t = 8 ∨ t = 9 by omega) with rfl | rfl | rfl | rfl | rfl | rfl | rfl | rfl | rfl | rfl <;> exact ⟨_, rfl⟩
  obtain ⟨ty, h5⟩ := h5
  by_cases h1 : a.1 = 1
  · obtain ⟨e1, e2, e3⟩ := (P.2.2.2.2.1.1 a _ hM).1.s h1
    cases e1
    have hS := P.1.2.2.2.2.2.2.2.2.2.1
    show W p l e R s m args below meth c H locs cells slots Z (F0 m pc lsA (.ref (θ a) :: st.map (zc θ)))
    rw [e2]
    exact va_slen P.x P.b hS.2.2.2.1 hS.2.2.2.2.1 hS.2.2.2.2.2 P.2.2.1 hd (k2 _ P.L (okS.c trivial P.sk.t))
  · refine va_alen (ws := [(_, _)]) (x := zcA θ x) P.x P.b P.1.2.2.2.2.2.2.2.2.1.1 (zP1 (P.2.2.2.2.1.g hM (Or.inl h1))) 0 t rfl h5 ?_ hd (k2 _ P.L (okS.c trivial P.sk.t))
    obtain ⟨n0, f | f | f⟩ := x <;> rfl
theorem z_iast {a : zAd} {N j : Nat} {f : Nat → Int32} {i x : Int32} (hd : zD Y pc 1 .iastore n) (hM : M a = some (.inl (0, N, .inl f))) (ha : 2 ≤ a.1) (hi : i.toInt = (j : Int)) (hj : j < N) (kk : zV Y fr cm sm n ls st (zupd M a (.inl (0, N, .inl (zup f j x)))) Q) : zV Y fr cm sm pc ls (zi x :: zi i :: zr a :: st) M Q := by
  obtain ⟨hd, rfl⟩ := hd
  refine z_store hM ha kk (fun {G p l e s m args below meth c H locs cells slots θ0 M0 θ lsA R Z} P g1 g2 k2 => ?_)
  refine W.iast (cell := arrV (G.2.1 0) N (fun j => .int (f j))) P.x P.b g1 ((P.1.2.2.2.2.2.2.2.2.1.1.2 0 _ rfl).1 N _) (fun q => by cases q) (by rw [arrV_size]; exact z_within hi hj) rfl rfl hd fun H1 e z oq => k2 H1 _ ?_ z oq trivial P.sk.t.t.t
  show H1[θ a]? = some (arrV (G.2.1 0) N (fun q => .int (zup f j x q)))
  rw [e, arrV_store, z_clamp hi]
  congr 2
  funext q
  by_cases hq : q = j <;> simp [updV, zup, hq]
theorem z_last {a : zAd} {N j : Nat} {f : Nat → Int64} {i : Int32} {x : Int64} (hd : zD Y pc 1 .lastore n) (hM : M a = some (.inl (1, N, .inr (.inl f)))) (ha : 2 ≤ a.1) (hi : i.toInt = (j : Int)) (hj : j < N) (kk : zV Y fr cm sm n ls st (zupd M a (.inl (1, N, .inr (.inl (zup f j x))))) Q) : zV Y fr cm sm pc ls (zl x :: zi i :: zr a :: st) M Q := by
  obtain ⟨hd, rfl⟩ := hd
  refine z_store hM ha kk (fun {G p l e s m args below meth c H locs cells slots θ0 M0 θ lsA R Z} P g1 g2 k2 => ?_)
  refine W.last (cell := arrV (G.2.1 1) N (fun j => .long (f j))) P.x P.b g1 ((P.1.2.2.2.2.2.2.2.2.1.1.2 1 _ rfl).1 N _) (fun q => by cases q) (by rw [arrV_size]; exact z_within hi hj) rfl rfl hd fun H1 e z oq => k2 H1 _ ?_ z oq trivial P.sk.t.t.t
  show H1[θ a]? = some (arrV (G.2.1 1) N (fun q => .long (zup f j x q)))
  rw [e, arrV_store, z_clamp hi]
  congr 2
  funext q
  by_cases hq : q = j <;> simp [updV, zup, hq]
theorem z_bast {a : zAd} {N j : Nat} {f : Nat → Int32} {i x : Int32} (hd : zD Y pc 1 .bastore n) (hM : M a = some (.inl (2, N, .inl f))) (ha : 2 ≤ a.1) (hi : i.toInt = (j : Int)) (hj : j < N) (kk : zV Y fr cm sm n ls st (zupd M a (.inl (2, N, .inl (zup f j x.toInt8.toInt32)))) Q) : zV Y fr cm sm pc ls (zi x :: zi i :: zr a :: st) M Q := by
  obtain ⟨hd, rfl⟩ := hd
  refine z_store hM ha kk (fun {G p l e s m args below meth c H locs cells slots θ0 M0 θ lsA R Z} P g1 g2 k2 => ?_)
  refine W.bast (cell := arrV (G.2.1 2) N (fun j => .int (f j))) P.x P.b g1 ((P.1.2.2.2.2.2.2.2.2.1.1.2 2 _ rfl).1 N _) (fun q => by cases q) (by rw [arrV_size]; exact z_within hi hj) rfl rfl hd fun H1 e z oq => k2 H1 _ ?_ z oq trivial P.sk.t.t.t
  show H1[θ a]? = some (arrV (G.2.1 2) N (fun q => .int (zup f j x.toInt8.toInt32 q)))
  rw [e, arrV_store, z_clamp hi]
  congr 2
  funext q
  by_cases hq : q = j
  · subst hq; simp [updV, zup]; try rfl
  · simp [updV, zup, hq]
theorem z_zast {a : zAd} {N j : Nat} {f : Nat → Int32} {i x : Int32} (hd : zD Y pc 1 .bastore n) (hM : M a = some (.inl (3, N, .inl f))) (ha : 2 ≤ a.1) (hx : x = 0 ∨ x = 1) (hi : i.toInt = (j : Int)) (hj : j < N) (kk : zV Y fr cm sm n ls st (zupd M a (.inl (3, N, .inl (zup f j x)))) Q) : zV Y fr cm sm pc ls (zi x :: zi i :: zr a :: st) M Q := by
  obtain ⟨hd, rfl⟩ := hd
  refine z_store hM ha kk (fun {G p l e s m args below meth c H locs cells slots θ0 M0 θ lsA R Z} P g1 g2 k2 => ?_)
  refine W.zast (cell := arrV (G.2.1 3) N (fun j => .int (f j))) P.x P.b g1 ((P.1.2.2.2.2.2.2.2.2.1.1.2 3 _ rfl).1 N _) (fun q => by cases q) (by rw [arrV_size]; exact z_within hi hj) rfl rfl hd fun H1 e z oq => k2 H1 _ ?_ z oq trivial P.sk.t.t.t
  show H1[θ a]? = some (arrV (G.2.1 3) N (fun q => .int (zup f j x q)))
  rw [e, arrV_store, z_clamp hi]
  congr 2
  funext q
  by_cases hq : q = j
  · subst hq; rcases hx with rfl | rfl <;> simp [updV, zup] <;> rfl
  · simp [updV, zup, hq]
theorem z_aast {a b : zAd} {t N j ci : Nat} {C : String} {T : u_T} {NC : Nat} {fs : List zVal} {f : Nat → Option zAd} {i : Int32} (hd : zD Y pc 1 .aastore n) (hM : M a = some (.inl (t, N, .inr (.inr f)))) (ha : 2 ≤ a.1) (hB : M b = some (.inr (ci, fs))) (hc : vwCl[ci]? = some (C, T, NC)) (ht : ∀ dA, (zTyL dA)[t]? = some (dA t, .object C)) (hi : i.toInt = (j : Int)) (hj : j < N) (kk : zV Y fr cm sm n ls st (zupd M a (.inl (t, N, .inr (.inr (zup f j (some b)))))) Q) : zV Y fr cm sm pc ls (zr b :: zi i :: zr a :: st) M Q := by
  obtain ⟨hd, rfl⟩ := hd
  refine z_store hM ha kk (fun {G p l e s m args below meth c H locs cells slots θ0 M0 θ lsA R Z} P g1 g2 k2 => ?_)
  have hK := P.1.2.2.2.2.2.2.2.2.1.1
  obtain ⟨r', hr', cellV, v1, v2, v3, -⟩ := P.2.2.2.2.1.g hB (Or.inr fun n f q => by cases q)
  have hcls := (hK.1 ci _ hc).2
  obtain ⟨kA, comp, k1, k2', k3, -⟩ := (hK.2 t _ (ht G.2.1)).2
  have hcomp : comp = G.1.1 ci := Option.some.inj (k3.symm.trans hcls.1)
  subst hcomp
  obtain ⟨kC, hkC, -⟩ := hcls.2
  have hin := z_within hi hj
  have hlt : i.toNatClampNeg < N := Nat.not_le.mp fun q => hin (Or.inr q)
  have h0 : ¬ i < 0 := fun q => hin (Or.inl q)
  refine W.aast (cell := arrV (G.2.1 t) N (fun j => va_rf ((f j).map θ))) P.x P.b g1 (fun q h => by cases h) (fun h => by cases h) k1 k2' rfl hkC ⟨h0, by rw [arrV_size]; exact hlt⟩ v1 (fun q h => by rw [v3] at h; cases h) (by rw [v2]; exact hkC) (by rw [v2]; exact va_assign hcls) rfl rfl hd fun H1 e z oq => k2 H1 _ ?_ z oq ?_ P.sk.t.t.t
  · show H1[θ a]? = some (arrV (G.2.1 t) N (fun q => va_rf ((zup f j (some b) q).map θ)))
    rw [e, arrV_store, z_clamp hi]
    congr 2
    funext q
    by_cases hq : q = j
    · subst hq; simp [updV, zup, va_rf]
    · simp [updV, zup, hq]
  · intro q c0 hq hc0
    unfold zup at hc0
    split at hc0
    · cases hc0; rw [hB]; exact fun z => by cases z
    · exact g2 q c0 hq hc0
/-- the judgement at a place, out of the judgement at the next, one cell made -/
theorem z_make {a : zAd} {e1 : zE} {n' k0 : Nat} {st' : List zVal} (hM : M a = none) (ha : 2 ≤ a.1) (k : zV Y fr cm sm n' ls (zr a :: st') (zupd M a e1) Q) (hst : okS M st → okS M st') (hk1 : okE (zupd M a e1) e1)
    (h : ∀ {G : zG} {p : Program} {l : Launch} {e : Env} {s : State} {m : MethodId} {args : Array Value} {below : List Frame} {meth : Method} {c : Code} {H : Heap} {locs : List Loc} {cells slots : Nat} {θ0 : zAd → Nat} {M0 : zM} {θ : zAd → Nat} {lsA : Array Slot} {R : Room} {Z : State → Prop},
      zPre Y fr (cm + 1) (sm + k0) ls st M G p s m args meth c H locs cells slots θ0 M0 θ lsA R → (∀ (H1 : Heap), va_at G.1 vwCl (H.size, zcE (fun x => if x = a then H.size else θ x) G.2.1 e1) H1 → H1.size = H.size + 1 → (∀ q : Nat, q < H.size → H1[q]? = H[q]?) → W p l e R s m args below meth c H1 locs (cells + 1) (slots + k0) Z (F0 m n' lsA (.ref H.size :: st'.map (zc θ)))) → W p l e R s m args below meth c H locs cells slots Z (F0 m pc lsA (st.map (zc θ)))) : zV Y fr (cm + 1) (sm + k0) pc ls st M Q := by
  obtain ⟨r, M', hq, hk⟩ := k
  refine ⟨r, M', hq, fun {G p l e s m args below meth c H locs cells slots θ0 M0 θ lsA R} P => ?_⟩
  refine h P (fun H1 h1 h2 h3 => ?_)
  obtain ⟨n1, n2⟩ := P.2.2.2.2.1.new hM ha (Nat.le_trans P.1.2.2.2.2.2.2.2.2.2.2 P.2.2.1.1) h1 h3 hk1
  have hst2 := hst P.sk
  have hE : zExt θ M (fun x => if x = a then H.size else θ x) (zupd M a e1) := n2
  have h9 := hk (G := G) (p := p) (l := l) (e := e) (s := s) (m := m) (args := args) (below := below) (meth := meth) (c := c) (H := H1) (locs := locs) (cells := cells + 1) (slots := slots + k0) (θ0 := θ0) (M0 := M0) (θ := fun x => if x = a then H.size else θ x) (lsA := lsA) (R := R)
    ⟨P.1, ⟨P.2.1.1, P.2.1.2.1, by have := P.2.1.2.2.1; omega, by have := P.2.1.2.2.2; omega⟩, ⟨by have := P.2.2.1.1; omega, fun q g1 g2 => (h3 q (Nat.lt_of_lt_of_le g1 P.2.2.1.1)).trans (P.2.2.1.2.1 q g1 g2), P.2.2.1.2.2⟩, P.2.2.2.1.tr n2, n1, P.L.ext n2,
      okS.c (Or.inr (by rw [zupd_s]; exact fun z => by cases z)) (hst2.up zDom.upd)⟩
  rw [show cells + 1 + cm = cells + (cm + 1) by omega, show slots + k0 + sm = slots + (sm + k0) by omega] at h9
  have e2 : (zr a :: st').map (zc (fun x => if x = a then H.size else θ x)) = .ref H.size :: st'.map (zc θ) := by
    rw [List.map_cons, zc.exts hE hst2]
    show Value.ref (if a = a then H.size else θ a) :: _ = _
    rw [if_pos rfl]
  rw [e2] at h9
  exact h9
def zNw (Y : zY) (pc ci : Nat) (n : Nat) : Prop := ∃ (idx : Nat) (C : String) (T : u_T) (N : Nat), zCf ci C T N ∧ decode Y.2.1 pc = .ok (.new idx, 3) ∧ pc + 3 = n ∧ Cond.classLink Y.1.cls idx C ∈ zTW ∧ Cond.instantiable C N ∈ zTW ∧ Cond.initialized C ∈ zTW
/-- a field's value at first -/
def zdv : FieldType → zVal
  | .long => zl 0
  | .object _ => zn
  | .array _ => zn
  | _ => zi 0
def zFs (ci : Nat) (fs : List zVal) : Prop := ∃ C T N, vwCl[ci]? = some (C, T, N) ∧ ∃ ty : Nat → FieldType, (∀ k, k < N → parseFieldDescriptor (T k).2.2.1 = some (ty k) ∧ ty k ≠ .float ∧ ty k ≠ .double) ∧ fs = (List.range N).map (fun k => zdv (ty k))
theorem zdv_c {θ : zAd → Nat} {t : FieldType} (h1 : t ≠ .float) (h2 : t ≠ .double) : zc θ (zdv t) = defaultValue t := by
  cases t <;> first | rfl | exact absurd rfl h1 | exact absurd rfl h2
theorem zdv_ok {M : zM} (t : FieldType) : okV M (zdv t) := by cases t <;> trivial
theorem z_new {ci : Nat} {a : zAd} {fs : List zVal} {N : Nat} (hd : zNw Y pc ci n) (hfs : zFs ci fs) (hN : fs.length = N) (hM : M a = none) (ha : 2 ≤ a.1) (kk : zV Y fr cm sm n ls (zr a :: st) (zupd M a (.inr (ci, fs))) Q) : zV Y fr (cm + 1) (sm + N) pc ls st M Q := by
  obtain ⟨idx, C, T, N0, ⟨hc, hu, hnm, -⟩, hd, rfl, w1, w2, w3⟩ := hd
  obtain ⟨C', T', N', hc', ty, hty, rfl⟩ := hfs
  cases hc.symm.trans hc'
  have hN' : N0 = N := by rw [← hN]; simp
  subst hN'
  refine z_make hM ha kk (fun h => h) (fun v hv => ?_) (fun {G p l e s m args below meth c H locs cells slots θ0 M0 θ lsA R Z} P k2 => ?_)
  · obtain ⟨k, -, rfl⟩ := List.mem_map.mp hv
    exact zdv_ok _
  · have hts := P.w
    have hKn := P.1.2.2.2.2.2.2.2.2.1.1.1 ci _ hc
    refine W.newcK P.x P.b P.o (hts _ w1) (hts _ w2) (hts _ w3) rfl hd (by have := P.2.1.2.2.1; omega) (by have := P.2.1.2.2.2; omega) hKn.2.1 rfl fun H1 kC hkC e1 z1 o1 => k2 H1 ?_ z1 o1
    refine ⟨_, hc, (u_born ty hts hu hKn hkC e1 (fun k hk => (hty k hk).1)).to (fun k hk => ?_)⟩
    obtain ⟨-, g1, g2⟩ := hty k hk
    show defaultValue (ty k) = vp_V (((List.range N0).map (fun k => zdv (ty k))).map (zc _)) k
    simp [vp_V, hk, zdv_c g1 g2]
theorem z_newaG {a : zAd} {atype : ArrayType} {ty : FieldType} {t N : Nat} {x : Int32} {e1 : zArr} (hd : zD Y pc 2 (.newarray atype) n) (hty : newarray.typeOf atype = ty) (hw : Cond.arrayClass ty ∈ zTW) (hx : x.toInt = (N : Int)) (hN : N * 8 ≤ 536870912) (hM : M a = none) (ha : 2 ≤ a.1) (ht : ∀ dA, (zTyL dA)[t]? = some (dA t, ty)) (hra : ∀ (U : State) (cA : ClassId), va_RA U cA ty → U.vm.findClass ("[" ++ ty.toString) = some cA) (hcb : componentBytes ty ≤ 8)
    (he : ∀ θ (cA : ClassId), vp_cell cA (zcA θ e1) = arrV cA N (fun _ => defaultValue ty)) (hok : okE (zupd M a (.inl (t, e1))) (.inl (t, e1))) (kk : zV Y fr cm sm n ls (zr a :: st) (zupd M a (.inl (t, e1))) Q) : zV Y fr (cm + 1) (sm + N) pc ls (zi x :: st) M Q := by
  obtain ⟨hd, rfl⟩ := hd
  subst hty
  refine z_make hM ha kk (fun h => h.t) hok (fun {G p l e s m args below meth c H locs cells slots θ0 M0 θ lsA R Z} P k2 => ?_)
  have hK := P.1.2.2.2.2.2.2.2.2.1.1
  have hb : N * componentBytes (newarray.typeOf atype) ≤ 536870912 := Nat.le_trans (Nat.mul_le_mul_left N hcb) hN
  refine va_newaK P.x P.b (P.w _ hw) rfl hd rfl (fun q => by have := Int32.lt_iff_toInt_lt.mp q; simp at this; omega) (z_clamp hx) hb (by have := P.2.1.2.2.1; omega) (by have := P.2.1.2.2.2; omega) rfl fun H1 cA c1 z1 o1 hAr hNm => ?_
  have hcA : cA = G.2.1 t := Option.some.inj (hNm.symm.trans (hra s _ (hK.2 t _ (ht G.2.1)).2))
  subst hcA
  refine k2 H1 ?_ z1 o1
  show H1[H.size]? = some (vp_cell (G.2.1 t) (zcA _ e1))
  rw [he]
  exact c1
theorem z_newI {a : zAd} {N : Nat} {x : Int32} (hd : zD Y pc 2 (.newarray .int) n) (hw : Cond.arrayClass .int ∈ zTW) (hx : x.toInt = (N : Int)) (hN : N * 8 ≤ 536870912) (hM : M a = none) (ha : 2 ≤ a.1) (kk : zV Y fr cm sm n ls (zr a :: st) (zupd M a (.inl (0, N, .inl fun _ => 0))) Q) : zV Y fr (cm + 1) (sm + N) pc ls (zi x :: st) M Q :=
  z_newaG (t := 0) (e1 := (N, .inl fun _ => 0)) hd rfl hw hx hN hM ha (fun _ => rfl) (fun _ _ h => h) (by decide) (fun _ _ => rfl) trivial kk
theorem z_newJ {a : zAd} {N : Nat} {x : Int32} (hd : zD Y pc 2 (.newarray .long) n) (hw : Cond.arrayClass .long ∈ zTW) (hx : x.toInt = (N : Int)) (hN : N * 8 ≤ 536870912) (hM : M a = none) (ha : 2 ≤ a.1) (kk : zV Y fr cm sm n ls (zr a :: st) (zupd M a (.inl (1, N, .inr (.inl fun _ => 0)))) Q) : zV Y fr (cm + 1) (sm + N) pc ls (zi x :: st) M Q :=
  z_newaG (t := 1) (e1 := (N, .inr (.inl fun _ => 0))) hd rfl hw hx hN hM ha (fun _ => rfl) (fun _ _ h => h) (by decide) (fun _ _ => rfl) trivial kk
theorem z_newB {a : zAd} {N : Nat} {x : Int32} (hd : zD Y pc 2 (.newarray .byte) n) (hw : Cond.arrayClass .byte ∈ zTW) (hx : x.toInt = (N : Int)) (hN : N * 8 ≤ 536870912) (hM : M a = none) (ha : 2 ≤ a.1) (kk : zV Y fr cm sm n ls (zr a :: st) (zupd M a (.inl (2, N, .inl fun _ => 0))) Q) : zV Y fr (cm + 1) (sm + N) pc ls (zi x :: st) M Q :=
  z_newaG (t := 2) (e1 := (N, .inl fun _ => 0)) hd rfl hw hx hN hM ha (fun _ => rfl) (fun _ _ h => h) (by decide) (fun _ _ => rfl) trivial kk
theorem z_newZ {a : zAd} {N : Nat} {x : Int32} (hd : zD Y pc 2 (.newarray .boolean) n) (hw : Cond.arrayClass .boolean ∈ zTW) (hx : x.toInt = (N : Int)) (hN : N * 8 ≤ 536870912) (hM : M a = none) (ha : 2 ≤ a.1) (kk : zV Y fr cm sm n ls (zr a :: st) (zupd M a (.inl (3, N, .inl fun _ => 0))) Q) : zV Y fr (cm + 1) (sm + N) pc ls (zi x :: st) M Q :=
  z_newaG (t := 3) (e1 := (N, .inl fun _ => 0)) hd rfl hw hx hN hM ha (fun _ => rfl) (fun _ _ h => h) (by decide) (fun _ _ => rfl) trivial kk
def zNA (Y : zY) (pc t : Nat) (n : Nat) : Prop := ∃ (idx : Nat) (C : String), C ∈ zAO ∧ (∀ dA, (zTyL dA)[t]? = some (dA t, .object C)) ∧ decode Y.2.1 pc = .ok (.anewarray idx, 3) ∧ pc + 3 = n ∧ Cond.classLink Y.1.cls idx C ∈ zTW
theorem z_newA {a : zAd} {t N : Nat} {x : Int32} (hd : zNA Y pc t n) (hx : x.toInt = (N : Int)) (hN : N * 4 ≤ 536870912) (hM : M a = none) (ha : 2 ≤ a.1) (kk : zV Y fr cm sm n ls (zr a :: st) (zupd M a (.inl (t, N, .inr (.inr fun _ => none)))) Q) : zV Y fr (cm + 1) (sm + N) pc ls (zi x :: st) M Q := by
  obtain ⟨idx, C, hC, ht, hd, rfl, w1⟩ := hd
  refine z_make hM ha kk (fun h => h.t) (fun i b _ h => by cases h) (fun {G p l e s m args below meth c H locs cells slots θ0 M0 θ lsA R Z} P k2 => ?_)
  have hKK := P.1.2.2.2.2.2.2.2.2.1
  have hcl := z_clamp hx
  refine W.anew P.x P.b P.o (P.w _ w1) (va_AO.use (hKK.2.2.1 C hC)) rfl hd rfl (fun q => by have := Int32.lt_iff_toInt_lt.mp q; simp at this; omega) (by rw [hcl]; exact hN) (by have := P.2.1.2.2.1; omega) (by rw [hcl]; have := P.2.1.2.2.2; omega) fun cA kA comp h1 h2 h3 h4 => ?_
  have hcA : cA = G.2.1 t := by
    obtain ⟨_, _, -, -, -, k4⟩ := (hKK.1.2 t _ (ht G.2.1)).2
    exact Option.some.inj (h1.symm.trans k4)
  subst hcA
  rw [hcl]
  refine k2 _ ?_ (by simp) (fun q hq => by rw [Array.getElem?_push, if_neg (Nat.ne_of_lt hq)])
  show _ = some (arrV (G.2.1 t) N (fun _ => .null))
  rw [← arrV_new]
  simp
end ZH
end
section
/-! calls -/
/-- what the tables say of a method that is called on an object of the class ci -/
def zMv (Y : zY) (ci na : Nat) : Prop := Cond.instanceMethod Y.1 ∈ zTW ∧ Cond.selects Y.1.cls Y.1 Y.1 ∈ zTW ∧ Cond.initialized Y.1.cls ∈ zTW ∧ Cond.code Y.1 Y.2.1 Y.2.2.1 Y.2.2.2 ∈ zTW ∧ (Y.1.cls ≠ "java/lang/invoke/MethodHandle" ∧ Y.1.cls ≠ "java/lang/invoke/VarHandle" ∧ (parseMethodDescriptor Y.1.desc).map (fun d => d.parameters.length) = some na) ∧ Y.2.2.1 ≤ 22 ∧ ∃ T N, vwCl[ci]? = some (Y.1.cls, T, N)
def zMs (Y : zY) (na : Nat) : Prop := Cond.static Y.1 ∈ zTW ∧ Cond.initialized Y.1.cls ∈ zTW ∧ Cond.code Y.1 Y.2.1 Y.2.2.1 Y.2.2.2 ∈ zTW ∧ (Y.1.cls ≠ "java/lang/invoke/MethodHandle" ∧ Y.1.cls ≠ "java/lang/invoke/VarHandle" ∧ (parseMethodDescriptor Y.1.desc).map (fun d => d.parameters.length) = some na) ∧ Y.2.2.1 ≤ 22
def zMi (Y : zY) (na : Nat) : Prop := Cond.instanceMethod Y.1 ∈ zTW ∧ Cond.initialized Y.1.cls ∈ zTW ∧ Cond.code Y.1 Y.2.1 Y.2.2.1 none ∈ zTW ∧ (Y.1.cls ≠ "java/lang/invoke/MethodHandle" ∧ Y.1.cls ≠ "java/lang/invoke/VarHandle" ∧ (parseMethodDescriptor Y.1.desc).map (fun d => d.parameters.length) = some na) ∧ Y.2.2.1 ≤ 22 ∧ Y.1.name = "<init>" ∧ Y.2.2.2 = none
/-- a place of a call: its link, or its link to a nest mate -/
def zCl (Y : zY) (pc : Nat) (i : Nat → Instr) (Y' : zY) (n : Nat) : Prop := ∃ idx, decode Y.2.1 pc = .ok (i idx, 3) ∧ pc + 3 = n ∧ (Cond.methodLink Y.1.cls idx Y'.1 ∈ zTW ∨ ∃ host, (Y.1.cls, idx, Y'.1, host) ∈ zNest)
theorem zAOA.same {u U : State} (hv : U.vm = u.vm) (h : zAOA u) : zAOA U := by
  unfold zAOA Cond.before Cond.holds at h ⊢
  simp only [Cond.value] at h ⊢
  rw [hv]
  exact h
theorem zK.same {G : zG} {u U : State} (hv : U.vm = u.vm) (h : zK G u) : zK G U := by
  obtain ⟨h1, h2, h3, h4, h5⟩ := h
  exact ⟨va_K.moved (by rw [hv]; exact Vm.Alike.refl _) h1, fun q hq => va_Nw.same rfl hv.symm (h2 q hq), fun C hC => va_AO.moved (by rw [hv]; exact Vm.Alike.refl _) (h3 C hC), zAOA.same hv h4, fun q hq => vk_R.same hv (h5 q hq)⟩
theorem zK.warm {G : zG} {s U : State} (hW : s.WarmedH U.vm) (h : zK G s) : zK G U := by
  obtain ⟨h1, h2, h3, h4, h5⟩ := h
  exact ⟨va_K.moved hW.alike h1, fun q hq => va_Nw.warmM hW (h2 q hq), fun C hC => va_AO.moved hW.alike (h3 C hC), zAOA.same (u := s.setVm U.vm) rfl (by unfold zAOA; rw [Cond.arrayOver_setVmC hW.alike]; exact h4), fun q hq => vk_R.warm hW (h5 q hq)⟩
section ZC
variable {Y Y' : zY} {fr fr' cm sm cm' sm' pc n na : Nat} {ls : zLs} {st : List zVal} {M : zM} {Q Q1 : Option zVal → zM → Prop} {As : List zVal}
theorem z_blind {G : zG} {av : List Value} {θ : zAd → Nat} : FrameBlind (va_Pc av (fun U => zK G U ∧ zS G U U.heap ∧ zR G θ M U.heap ∧ G.2.2.1 ≤ U.heap.size)) :=
  fun a U g mk q => ⟨q.1, zK.same (u := U) (U := U.calling g mk a) rfl q.2.1, zS.moved (u := U) (Vm.Alike.refl _) q.2.2.1, q.2.2.2.1, q.2.2.2.2⟩
/-- what is handed to a method that is called -/
theorem zPre.hand {cm sm : Nat} {G : zG} {p : Program} {s : State} {m : MethodId} {args : Array Value} {meth : Method} {c : Code} {H : Heap} {locs : List Loc} {cells slots : Nat} {θ0 : zAd → Nat} {M0 : zM} {θ : zAd → Nat} {lsA : Array Slot} {R : Room} (P : zPre Y fr cm sm ls st M G p s m args meth c H locs cells slots θ0 M0 θ lsA R) (av : List Value) :
    ∀ U : State, U.heap = H → s.WarmedH U.vm → va_Pc av (fun U => zK G U ∧ zS G U U.heap ∧ zR G θ M U.heap ∧ G.2.2.1 ≤ U.heap.size) av.toArray U := fun U hU hW =>
  ⟨rfl, zK.warm hW P.1.2.2.2.2.2.2.2.2.1, by rw [hU]; exact zS.moved hW.alike (zS.kept P.1.2.2.2.2.2.2.2.2.2.1 P.2.2.1.1 P.2.2.1.2.1), by rw [hU]; exact P.2.2.2.2.1, by rw [hU]; exact Nat.le_trans P.1.2.2.2.2.2.2.2.2.2.2 P.2.2.1.1⟩
theorem z_callG {r : Option zVal} {M1 : zM} {st0 : List zVal} (k : zV Y fr cm' sm' n ls (r.toList ++ st) M1 Q) (hn : n = pc + 3) (hdom : okS M st0 → okS M st)
    (h : ∀ {G : zG} {p : Program} {l : Launch} {e : Env} {s : State} {m : MethodId} {args : Array Value} {below : List Frame} {meth : Method} {c : Code} {H : Heap} {locs : List Loc} {cells slots : Nat} {θ0 : zAd → Nat} {M0 : zM} {θ : zAd → Nat} {lsA : Array Slot} {R : Room},
      zPre Y fr (cm + cm') (sm + sm') ls st0 M G p s m args meth c H locs cells slots θ0 M0 θ lsA R → ∃ a, va_Run p l e R s m args below meth c H locs cells slots cm sm (F0 m pc lsA (st0.map (zc θ))) (st.map (zc θ)) (zQc G θ M r M1 a) (zA G)) : zV Y fr (cm + cm') (sm + sm') pc ls st0 M Q := by
  obtain ⟨r2, M', hq, hk⟩ := k
  refine ⟨r2, M', hq, fun {G p l e s m args below meth c H locs cells slots θ0 M0 θ lsA R} P => ?_⟩
  obtain ⟨a, hr⟩ := h (below := below) (l := l) (e := e) P
  intro T hT X
  obtain ⟨v, st₀, t, T', L, h0, X', hL, e1, e2, ⟨θ', hE, ho, hR, hok, hz, hkp⟩, hst⟩ := hr T hT X
  have hv : v = r.map (zc θ') := Outcome.returned.inj ho
  rw [h0] at hz hkp
  have hs0 := hdom P.2.2.2.2.2.2
  have hS1 : va_S (zA G) s.heap T'.heap (locs ++ L) := ⟨Nat.le_trans P.2.2.1.1 (by rw [e1]; exact hz), fun q g1 g2 => by rw [e1, hkp q (Nat.lt_of_lt_of_le g1 P.2.2.1.1) g2]; exact P.2.2.1.2.1 q g1 g2, fun q hq => by
    rcases List.mem_append.mp hq with h | h
    · exact P.2.2.1.2.2 q h
    · exact hL q h⟩
  have h9 := hk (G := G) (p := p) (l := l) (e := e) (s := s) (m := m) (args := args) (below := below) (meth := meth) (c := c) (H := T'.heap) (locs := locs ++ L) (cells := cells + cm) (slots := slots + sm) (θ0 := θ0) (M0 := M0) (θ := θ') (lsA := lsA) (R := R)
    ⟨P.1, ⟨P.2.1.1, P.2.1.2.1, by have := P.2.1.2.2.1; omega, by have := P.2.1.2.2.2; omega⟩, hS1, P.2.2.2.1.tr hE, by rw [e1]; exact hR, P.L.ext hE, fun w hw => by
      rcases List.mem_append.mp hw with h | h
      · cases r with
        | none => cases h
        | some r0 => rw [show w = r0 by simpa using h]; exact hok r0 rfl
      · exact (hs0 w h).up hE.1⟩
  rw [show cells + cm + cm' = cells + (cm + cm') by omega, show slots + sm + sm' = slots + (sm + sm') by omega] at h9
  obtain ⟨t2, a1, b1⟩ := h9 T' rfl X'
  refine ⟨t2, hst t2 ?_, b1⟩
  have e9 : (r.toList ++ st).map (zc θ') = v.toList ++ st.map (zc θ) := by
    rw [List.map_append, zc.exts hE hs0, hv]
    cases r <;> rfl
  rw [e9, hn] at a1
  exact a1
theorem okS.rev {X : List zVal} {a : zVal} {st : List zVal} (h : okS M (X.reverse ++ a :: st)) : okS M X ∧ okV M a ∧ okS M st :=
  ⟨fun v hv => h v (List.mem_append_left _ (List.mem_reverse.mpr hv)), h a (List.mem_append_right _ List.mem_cons_self), fun v hv => h v (List.mem_append_right _ (List.mem_cons_of_mem _ hv))⟩
theorem okS.rev0 {X : List zVal} {st : List zVal} (h : okS M (X.reverse ++ st)) : okS M X ∧ okS M st :=
  ⟨fun v hv => h v (List.mem_append_left _ (List.mem_reverse.mpr hv)), fun v hv => h v (List.mem_append_right _ hv)⟩
theorem zc_cats (θ : zAd → Nat) (v : zVal) : (zc θ v).category = (match v with | .inr (.inl _) => 2 | _ => 1) := by
  match v with
  | .inl _ => rfl
  | .inr (.inl _) => rfl
  | .inr (.inr none) => rfl
  | .inr (.inr (some _)) => rfl
def zWd : List zVal → Nat
  | [] => 0
  | .inr (.inl _) :: l => 2 + zWd l
  | .inl _ :: l => 1 + zWd l
  | .inr (.inr _) :: l => 1 + zWd l
theorem zWd_sum (θ : zAd → Nat) : ∀ l : List zVal, ((l.map (zc θ)).map fun v => v.category).sum = zWd l
  | [] => rfl
  | .inr (.inl _) :: l => by have := zWd_sum θ l; simp only [List.map_cons, List.sum_cons, zc_cats, zWd]; omega
  | .inl _ :: l => by have := zWd_sum θ l; simp only [List.map_cons, List.sum_cons, zc_cats, zWd]; omega
  | .inr (.inr _) :: l => by have := zWd_sum θ l; simp only [List.map_cons, List.sum_cons, zc_cats, zWd]; omega
theorem zCW {R : Room} {s : State} {args : Array Value} {own : String} {index : Nat} (ht : ∀ w ∈ zTW, w.before args s = true) (hini : Cond.initialized Y'.1.cls ∈ zTW) (hcode : Cond.code Y'.1 Y'.2.1 Y'.2.2.1 Y'.2.2.2 ∈ zTW) (hl : Cond.methodLink own index Y'.1 ∈ zTW)
    (hd : Y'.1.cls ≠ "java/lang/invoke/MethodHandle" ∧ Y'.1.cls ≠ "java/lang/invoke/VarHandle" ∧ (parseMethodDescriptor Y'.1.desc).map (fun d => d.parameters.length) = some na) (hm : Y'.2.2.1 ≤ 22) (hR : fr' + 1 ≤ fr ∧ fr ≤ R.frames ∧ 41 * fr ≤ R.locals) :
    CallB R s args own index Y'.1 Y'.2.1 Y'.2.2.1 Y'.2.2.2 (zws Y') (zRm fr' cm sm) cm sm na :=
  callB_of na ht (fun w hw => by
    rcases List.mem_cons.mp hw with rfl | h
    · exact zTW_good _ hcode
    · exact zTW_good _ h) rfl rfl rfl (ht _ hini) (ht _ hl) hd ⟨by show fr' + 1 ≤ R.frames; omega, by show 8 + (Y'.2.2.1 + 11) + 41 * fr' ≤ R.locals; omega⟩
theorem zCN {R : Room} {s : State} {args : Array Value} {own host : String} {index : Nat} {G : zG} (hK : zK G s) (ht : ∀ w ∈ zTW, w.before args s = true) (hini : Cond.initialized Y'.1.cls ∈ zTW) (hcode : Cond.code Y'.1 Y'.2.1 Y'.2.2.1 Y'.2.2.2 ∈ zTW) (hl : (own, index, Y'.1, host) ∈ zNest)
    (hd : Y'.1.cls ≠ "java/lang/invoke/MethodHandle" ∧ Y'.1.cls ≠ "java/lang/invoke/VarHandle" ∧ (parseMethodDescriptor Y'.1.desc).map (fun d => d.parameters.length) = some na) (hm : Y'.2.2.1 ≤ 22) (hR : fr' + 1 ≤ fr ∧ fr ≤ R.frames ∧ 41 * fr ≤ R.locals) :
    va_CN R s args own index Y'.1 host Y'.2.1 Y'.2.2.1 Y'.2.2.2 (zws Y') (zRm fr' cm sm) cm sm na :=
  va_cnB na ht (fun w hw => by
    rcases List.mem_cons.mp hw with rfl | h
    · exact zTW_good _ hcode
    · exact zTW_good _ h) rfl rfl rfl (hK.2.1 _ hl) (ht _ hini) hd ⟨by show fr' + 1 ≤ R.frames; omega, by show 8 + (Y'.2.2.1 + 11) + 41 * fr' ≤ R.locals; omega⟩
/-- a call of a method of an object -/
theorem z_cv {ci : Nat} {a : zAd} {fs : List zVal} (hd : zCl Y pc .invokevirtual Y' n) (hm : zMv Y' ci na) (hM : M a = some (.inr (ci, fs))) (hn : As.length = na) (hw : zWd st ≤ 8) (hfr : fr' + 1 ≤ fr) (hc : zC Y' fr' cm sm (zr a :: As) M Q1) (k : ∀ r M1, Q1 r M1 → zV Y fr cm' sm' n ls (r.toList ++ st) M1 Q) : zV Y fr (cm + cm') (sm + sm') pc ls (As.reverse ++ zr a :: st) M Q := by
  obtain ⟨r, M1, hq, hc⟩ := hc
  obtain ⟨idx, hd, rfl, hl⟩ := hd
  obtain ⟨m1, m2, m3, m4, m5, m6, T0, N0, m7⟩ := hm
  refine z_callG (k r M1 hq) rfl (fun h => h.rev.2.2) (fun {G p l e s m args below meth c H locs cells slots θ0 M0 θ lsA R} P => ?_)
  obtain ⟨a1, a2, a3⟩ := P.sk.rev
  have hM' := hc G l θ (okS.c a2 a1)
  have hts := P.w
  have hK := P.1.2.2.2.2.2.2.2.2.1
  have hrecv : ∃ cell : Cell, H[θ a]? = some cell ∧ cell.vm.isStatics = false ∧ s.vm.findClass Y'.1.cls = some cell.cls := va_recv (ws := [(_, _)]) hK.1 (zP1 (P.2.2.2.2.1.g hM (Or.inr fun n f q => by cases q))) (q0 := 0) m7 rfl
  have hroom : 2 * (F0 m pc lsA ((As.reverse ++ zr a :: st).map (zc θ))).monitorRoom + ((st.map (zc θ)).map fun v => v.category).sum ≤ 8 := lv_room (by rw [zWd_sum]; exact hw)
  rcases hl with hl | ⟨host, hl⟩
  · exact ⟨_, va_runV (b := θ a) (As := As.map (zc θ)) (rest := st.map (zc θ)) ⟨P.x, P.b, P.1.2.2.1, P.o, hts⟩ hM' ⟨zCW hts m3 m4 hl m5 m6 ⟨hfr, P.2.1.1, P.2.1.2.1⟩, hts _ m1, hts _ m2⟩ ⟨z_blind, hrecv, P.hand _⟩ rfl (by rw [List.length_map]; exact hn) P.L.1 (by simp [zc, List.map_reverse]) hroom hd ⟨by have := P.2.1.2.2.1; omega, by have := P.2.1.2.2.2; omega⟩⟩
  · exact ⟨_, va_runVN (b := θ a) (As := As.map (zc θ)) (rest := st.map (zc θ)) ⟨P.x, P.b, P.1.2.2.1, P.o, hts⟩ hM' ⟨zCN hK hts m3 m4 hl m5 m6 ⟨hfr, P.2.1.1, P.2.1.2.1⟩, hts _ m1, hts _ m2⟩ ⟨z_blind, hrecv, P.hand _⟩ rfl (by rw [List.length_map]; exact hn) P.L.1 (by simp [zc, List.map_reverse]) hroom hd ⟨by have := P.2.1.2.2.1; omega, by have := P.2.1.2.2.2; omega⟩⟩
/-- a call of a static method -/
theorem z_cs (hd : zCl Y pc .invokestatic Y' n) (hm : zMs Y' na) (hn : As.length = na) (hw : zWd st ≤ 8) (hfr : fr' + 1 ≤ fr) (hc : zC Y' fr' cm sm As M Q1) (k : ∀ r M1, Q1 r M1 → zV Y fr cm' sm' n ls (r.toList ++ st) M1 Q) : zV Y fr (cm + cm') (sm + sm') pc ls (As.reverse ++ st) M Q := by
  obtain ⟨r, M1, hq, hc⟩ := hc
  obtain ⟨idx, hd, rfl, hl⟩ := hd
  obtain ⟨m2, m3, m4, m5, m6⟩ := hm
  refine z_callG (k r M1 hq) rfl (fun h => h.rev0.2) (fun {G p l e s m args below meth c H locs cells slots θ0 M0 θ lsA R} P => ?_)
  obtain ⟨a1, a3⟩ := P.sk.rev0
  have hM' := hc G l θ a1
  have hts := P.w
  have hK := P.1.2.2.2.2.2.2.2.2.1
  have hroom : 2 * (F0 m pc lsA ((As.reverse ++ st).map (zc θ))).monitorRoom + ((st.map (zc θ)).map fun v => v.category).sum ≤ 8 := lv_room (by rw [zWd_sum]; exact hw)
  rcases hl with hl | ⟨host, hl⟩
  · exact ⟨_, va_runS (As := As.map (zc θ)) (rest := st.map (zc θ)) ⟨P.x, P.b, P.1.2.2.1, P.o, hts⟩ hM' ⟨zCW hts m3 m4 hl m5 m6 ⟨hfr, P.2.1.1, P.2.1.2.1⟩, hts _ m2⟩ ⟨z_blind, P.hand _⟩ rfl (by rw [List.length_map]; exact hn) P.L.1 (by simp [List.map_reverse]) hroom hd ⟨by have := P.2.1.2.2.1; omega, by have := P.2.1.2.2.2; omega⟩⟩
  · exact ⟨_, va_runSN (As := As.map (zc θ)) (rest := st.map (zc θ)) ⟨P.x, P.b, P.1.2.2.1, P.o, hts⟩ hM' ⟨zCN hK hts m3 m4 hl m5 m6 ⟨hfr, P.2.1.1, P.2.1.2.1⟩, hts _ m2, trivial⟩ ⟨z_blind, P.hand _⟩ rfl (by rw [List.length_map]; exact hn) P.L.1 (by simp [List.map_reverse]) hroom hd ⟨by have := P.2.1.2.2.1; omega, by have := P.2.1.2.2.2; omega⟩⟩
/-- a call of a constructor -/
theorem z_ci {a : zAd} (hd : zCl Y pc .invokespecial Y' n) (hm : zMi Y' na) (hn : As.length = na) (hw : zWd st ≤ 8) (hfr : fr' + 1 ≤ fr) (hc : zC Y' fr' cm sm (zr a :: As) M Q1) (k : ∀ r M1, Q1 r M1 → zV Y fr cm' sm' n ls (r.toList ++ st) M1 Q) : zV Y fr (cm + cm') (sm + sm') pc ls (As.reverse ++ zr a :: st) M Q := by
  obtain ⟨r, M1, hq, hc⟩ := hc
  obtain ⟨idx, hd, rfl, hl⟩ := hd
  obtain ⟨m1, m3, m4, m5, m6, m7, m8⟩ := hm
  refine z_callG (k r M1 hq) rfl (fun h => h.rev.2.2) (fun {G p l e s m args below meth c H locs cells slots θ0 M0 θ lsA R} P => ?_)
  obtain ⟨a1, a2, a3⟩ := P.sk.rev
  have hM' := hc G l θ (okS.c a2 a1)
  have hts := P.w
  have hK := P.1.2.2.2.2.2.2.2.2.1
  have hroom : 2 * (F0 m pc lsA ((As.reverse ++ zr a :: st).map (zc θ))).monitorRoom + ((st.map (zc θ)).map fun v => v.category).sum ≤ 8 := lv_room (by rw [zWd_sum]; exact hw)
  obtain ⟨y1, y2, y3, y4⟩ := Y'
  dsimp only at m8
  subst m8
  rcases hl with hl | ⟨host, hl⟩
  · exact ⟨_, va_runI (b := θ a) (As := As.map (zc θ)) (rest := st.map (zc θ)) ⟨P.x, P.b, P.1.2.2.1, P.o, hts⟩ hM' ⟨zCW (Y' := (y1, y2, y3, none)) hts m3 m4 hl m5 m6 ⟨hfr, P.2.1.1, P.2.1.2.1⟩, m7, hts _ m1⟩ ⟨z_blind, P.hand _⟩ rfl (by rw [List.length_map]; exact hn) P.L.1 (by simp [zc, List.map_reverse]) hroom hd ⟨by have := P.2.1.2.2.1; omega, by have := P.2.1.2.2.2; omega⟩⟩
  · exact ⟨_, va_runIN (b := θ a) (As := As.map (zc θ)) (rest := st.map (zc θ)) ⟨P.x, P.b, P.1.2.2.1, P.o, hts⟩ hM' ⟨zCN (Y' := (y1, y2, y3, none)) hK hts m3 m4 hl m5 m6 ⟨hfr, P.2.1.1, P.2.1.2.1⟩, m7, hts _ m1⟩ ⟨z_blind, P.hand _⟩ rfl (by rw [List.length_map]; exact hn) P.L.1 (by simp [zc, List.map_reverse]) hroom hd ⟨by have := P.2.1.2.2.1; omega, by have := P.2.1.2.2.2; omega⟩⟩
def zOi (Y : zY) (pc n : Nat) : Prop := ∃ idx, decode Y.2.1 pc = .ok (.invokespecial idx, 3) ∧ pc + 3 = n ∧ Cond.methodLink Y.1.cls idx Lib.objectInit ∈ zTW ∧ Cond.instanceMethod Lib.objectInit ∈ zTW ∧ Cond.code Lib.objectInit ⟨#[0xb1]⟩ 1 none ∈ zTW
/-- Object.<init> -/
theorem z_oi {a : zAd} (hd : zOi Y pc n) (hfr : 1 ≤ fr) (hw : zWd st ≤ 8) (k : zV Y fr cm sm n ls st M Q) : zV Y fr cm sm pc ls (zr a :: st) M Q := by
  obtain ⟨idx, hd, rfl, w1, w2, w3⟩ := hd
  refine z_pure k (fun {G p l e s m args below meth c H locs cells slots θ0 M0 θ lsA R Z} P kk => ?_)
  have hroom : 2 * (F0 m pc lsA ((zr a :: st).map (zc θ))).monitorRoom + ((st.map (zc θ)).map fun v => v.category).sum ≤ 8 := lv_room (by rw [zWd_sum]; exact hw)
  exact W.objInit P.x P.b P.o (P.w _ w1) (P.w _ w2) (P.w _ w3) rfl (P.L.1.trans P.1.2.2.1.symm) rfl hd (Nat.le_trans hfr P.2.1.1) (by have := P.2.1.2.1; omega) (kk _ P.L P.sk.t)
end ZC
end
