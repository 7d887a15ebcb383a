section
-- ===== PART A: goes FIRST, ahead of the names: the tables' words, and 'selects' of the private methods out of them =====
/-- a private method of a class that the tables say can be made, by its rows of tables_1 -/
def lw_okq (q : MethodName × Nat) : Prop := (q.1.cls ≠ "java/lang/invoke/MethodHandle" ∧ q.1.cls ≠ "java/lang/invoke/VarHandle") ∧ Cond.instantiable q.1.cls q.2 ∈ tables_1 ∧ Cond.privateMethod q.1 ∈ tables_1 ∧ Cond.instanceMethod q.1 ∈ tables_1
theorem lw_p0 : lw_okq (⟨"java/util/ArrayList", "add", "(Ljava/lang/Object;[Ljava/lang/Object;I)V"⟩, 3) := ⟨⟨by decide +kernel, by decide +kernel⟩, List.mem_of_getElem? (i := 39) (by decide +kernel), List.mem_of_getElem? (i := 112) (by decide +kernel), List.mem_of_getElem? (i := 113) (by decide +kernel)⟩
theorem lw_p1 : lw_okq (⟨"java/util/ArrayList", "grow", "()[Ljava/lang/Object;"⟩, 3) := ⟨⟨by decide +kernel, by decide +kernel⟩, List.mem_of_getElem? (i := 39) (by decide +kernel), List.mem_of_getElem? (i := 116) (by decide +kernel), List.mem_of_getElem? (i := 117) (by decide +kernel)⟩
theorem lw_p2 : lw_okq (⟨"java/util/ArrayList", "grow", "(I)[Ljava/lang/Object;"⟩, 3) := ⟨⟨by decide +kernel, by decide +kernel⟩, List.mem_of_getElem? (i := 39) (by decide +kernel), List.mem_of_getElem? (i := 120) (by decide +kernel), List.mem_of_getElem? (i := 121) (by decide +kernel)⟩
theorem lw_p3 : lw_okq (⟨"WitnessesMustLie", "shelfAt", "(I)LWitnessesMustLie$Shelf;"⟩, 8) := ⟨⟨by decide +kernel, by decide +kernel⟩, List.mem_of_getElem? (i := 31) (by decide +kernel), List.mem_of_getElem? (i := 285) (by decide +kernel), List.mem_of_getElem? (i := 286) (by decide +kernel)⟩
theorem lw_p4 : lw_okq (⟨"WitnessesMustLie$Shelf", "refusalUnless", "(I)I"⟩, 6) := ⟨⟨by decide +kernel, by decide +kernel⟩, List.mem_of_getElem? (i := 226) (by decide +kernel), List.mem_of_getElem? (i := 293) (by decide +kernel), List.mem_of_getElem? (i := 294) (by decide +kernel)⟩
theorem lw_p5 : lw_okq (⟨"WitnessesMustLie", "enact", "(LWitnessesMustLie$Shelf;)I"⟩, 8) := ⟨⟨by decide +kernel, by decide +kernel⟩, List.mem_of_getElem? (i := 31) (by decide +kernel), List.mem_of_getElem? (i := 318) (by decide +kernel), List.mem_of_getElem? (i := 319) (by decide +kernel)⟩
theorem lw_p6 : lw_okq (⟨"WitnessesMustLie", "isEnacted", "(LWitnessesMustLie$Shelf;I)Z"⟩, 8) := ⟨⟨by decide +kernel, by decide +kernel⟩, List.mem_of_getElem? (i := 31) (by decide +kernel), List.mem_of_getElem? (i := 357) (by decide +kernel), List.mem_of_getElem? (i := 358) (by decide +kernel)⟩
theorem lw_p7 : lw_okq (⟨"WitnessesMustLie", "sayingAt", "(LWitnessesMustLie$Shelf;II)LWitnessesMustLie$Saying;"⟩, 8) := ⟨⟨by decide +kernel, by decide +kernel⟩, List.mem_of_getElem? (i := 31) (by decide +kernel), List.mem_of_getElem? (i := 361) (by decide +kernel), List.mem_of_getElem? (i := 362) (by decide +kernel)⟩
theorem lw_p8 : lw_okq (⟨"WitnessesMustLie", "kindNumbered", "(I)LWitnessesMustLie$Says;"⟩, 8) := ⟨⟨by decide +kernel, by decide +kernel⟩, List.mem_of_getElem? (i := 31) (by decide +kernel), List.mem_of_getElem? (i := 368) (by decide +kernel), List.mem_of_getElem? (i := 369) (by decide +kernel)⟩
theorem lw_p9 : lw_okq (⟨"java/util/ArrayList", "fastRemove", "([Ljava/lang/Object;I)V"⟩, 3) := ⟨⟨by decide +kernel, by decide +kernel⟩, List.mem_of_getElem? (i := 39) (by decide +kernel), List.mem_of_getElem? (i := 607) (by decide +kernel), List.mem_of_getElem? (i := 608) (by decide +kernel)⟩
theorem lw_p10 : lw_okq (⟨"WitnessesMustLie", "leastOrder", "(I)I"⟩, 8) := ⟨⟨by decide +kernel, by decide +kernel⟩, List.mem_of_getElem? (i := 31) (by decide +kernel), List.mem_of_getElem? (i := 736) (by decide +kernel), List.mem_of_getElem? (i := 737) (by decide +kernel)⟩
theorem lw_p11 : lw_okq (⟨"WitnessesMustLie", "digitsWithAhead", "(I)I"⟩, 8) := ⟨⟨by decide +kernel, by decide +kernel⟩, List.mem_of_getElem? (i := 31) (by decide +kernel), List.mem_of_getElem? (i := 740) (by decide +kernel), List.mem_of_getElem? (i := 741) (by decide +kernel)⟩
theorem lw_p12 : lw_okq (⟨"WitnessesMustLie", "digitsOf", "(II)I"⟩, 8) := ⟨⟨by decide +kernel, by decide +kernel⟩, List.mem_of_getElem? (i := 31) (by decide +kernel), List.mem_of_getElem? (i := 744) (by decide +kernel), List.mem_of_getElem? (i := 745) (by decide +kernel)⟩
theorem lw_p13 : lw_okq (⟨"WitnessesMustLie", "isLie", "(II)Z"⟩, 8) := ⟨⟨by decide +kernel, by decide +kernel⟩, List.mem_of_getElem? (i := 31) (by decide +kernel), List.mem_of_getElem? (i := 757) (by decide +kernel), List.mem_of_getElem? (i := 758) (by decide +kernel)⟩
theorem lw_p14 : lw_okq (⟨"WitnessesMustLie", "worldsOfCode", "(I)J"⟩, 8) := ⟨⟨by decide +kernel, by decide +kernel⟩, List.mem_of_getElem? (i := 31) (by decide +kernel), List.mem_of_getElem? (i := 771) (by decide +kernel), List.mem_of_getElem? (i := 772) (by decide +kernel)⟩
theorem lw_p15 : lw_okq (⟨"WitnessesMustLie", "fillLies", "(I[J)I"⟩, 8) := ⟨⟨by decide +kernel, by decide +kernel⟩, List.mem_of_getElem? (i := 31) (by decide +kernel), List.mem_of_getElem? (i := 779) (by decide +kernel), List.mem_of_getElem? (i := 780) (by decide +kernel)⟩
def lw_privs_1 : List (MethodName × Nat) := [(⟨"java/util/ArrayList", "add", "(Ljava/lang/Object;[Ljava/lang/Object;I)V"⟩, 3), (⟨"java/util/ArrayList", "grow", "()[Ljava/lang/Object;"⟩, 3), (⟨"java/util/ArrayList", "grow", "(I)[Ljava/lang/Object;"⟩, 3), (⟨"WitnessesMustLie", "shelfAt", "(I)LWitnessesMustLie$Shelf;"⟩, 8), (⟨"WitnessesMustLie$Shelf", "refusalUnless", "(I)I"⟩, 6), (⟨"WitnessesMustLie", "enact", "(LWitnessesMustLie$Shelf;)I"⟩, 8), (⟨"WitnessesMustLie", "isEnacted", "(LWitnessesMustLie$Shelf;I)Z"⟩, 8), (⟨"WitnessesMustLie", "sayingAt", "(LWitnessesMustLie$Shelf;II)LWitnessesMustLie$Saying;"⟩, 8), (⟨"WitnessesMustLie", "kindNumbered", "(I)LWitnessesMustLie$Says;"⟩, 8), (⟨"java/util/ArrayList", "fastRemove", "([Ljava/lang/Object;I)V"⟩, 3), (⟨"WitnessesMustLie", "leastOrder", "(I)I"⟩, 8), (⟨"WitnessesMustLie", "digitsWithAhead", "(I)I"⟩, 8), (⟨"WitnessesMustLie", "digitsOf", "(II)I"⟩, 8), (⟨"WitnessesMustLie", "isLie", "(II)Z"⟩, 8), (⟨"WitnessesMustLie", "worldsOfCode", "(I)J"⟩, 8), (⟨"WitnessesMustLie", "fillLies", "(I[J)I"⟩, 8)]
theorem lw_r1 : ∀ q ∈ lw_privs_1, lw_okq q := List.forall_mem_cons.mpr ⟨lw_p0, List.forall_mem_cons.mpr ⟨lw_p1, List.forall_mem_cons.mpr ⟨lw_p2, List.forall_mem_cons.mpr ⟨lw_p3, List.forall_mem_cons.mpr ⟨lw_p4, List.forall_mem_cons.mpr ⟨lw_p5, List.forall_mem_cons.mpr ⟨lw_p6, List.forall_mem_cons.mpr ⟨lw_p7, List.forall_mem_cons.mpr ⟨lw_p8, List.forall_mem_cons.mpr ⟨lw_p9, List.forall_mem_cons.mpr ⟨lw_p10, List.forall_mem_cons.mpr ⟨lw_p11, List.forall_mem_cons.mpr ⟨lw_p12, List.forall_mem_cons.mpr ⟨lw_p13, List.forall_mem_cons.mpr ⟨lw_p14, List.forall_mem_cons.mpr ⟨lw_p15, fun _ h => absurd h List.not_mem_nil⟩⟩⟩⟩⟩⟩⟩⟩⟩⟩⟩⟩⟩⟩⟩⟩
theorem lw_p16 : lw_okq (⟨"WitnessesMustLie", "mostLeft", "(JI)I"⟩, 8) := ⟨⟨by decide +kernel, by decide +kernel⟩, List.mem_of_getElem? (i := 31) (by decide +kernel), List.mem_of_getElem? (i := 783) (by decide +kernel), List.mem_of_getElem? (i := 784) (by decide +kernel)⟩
theorem lw_p17 : lw_okq (⟨"WitnessesMustLie", "worldsOfDraws", "(I)J"⟩, 8) := ⟨⟨by decide +kernel, by decide +kernel⟩, List.mem_of_getElem? (i := 31) (by decide +kernel), List.mem_of_getElem? (i := 856) (by decide +kernel), List.mem_of_getElem? (i := 857) (by decide +kernel)⟩
theorem lw_p18 : lw_okq (⟨"WitnessesMustLie$Shelf", "lowestBits", "(I)I"⟩, 6) := ⟨⟨by decide +kernel, by decide +kernel⟩, List.mem_of_getElem? (i := 226) (by decide +kernel), List.mem_of_getElem? (i := 917) (by decide +kernel), List.mem_of_getElem? (i := 918) (by decide +kernel)⟩
theorem lw_p19 : lw_okq (⟨"java/lang/Throwable", "fillInStackTrace", "(I)Ljava/lang/Throwable;"⟩, 6) := ⟨⟨by decide +kernel, by decide +kernel⟩, List.mem_of_getElem? (i := 1021) (by decide +kernel), List.mem_of_getElem? (i := 1019) (by decide +kernel), List.mem_of_getElem? (i := 1020) (by decide +kernel)⟩
theorem lw_p20 : lw_okq (⟨"WitnessesMustLieModel", "statement", "(Z)I"⟩, 22) := ⟨⟨by decide +kernel, by decide +kernel⟩, List.mem_of_getElem? (i := 1097) (by decide +kernel), List.mem_of_getElem? (i := 1179) (by decide +kernel), List.mem_of_getElem? (i := 1180) (by decide +kernel)⟩
theorem lw_p21 : lw_okq (⟨"WitnessesMustLieModel", "is", "(I)Z"⟩, 22) := ⟨⟨by decide +kernel, by decide +kernel⟩, List.mem_of_getElem? (i := 1097) (by decide +kernel), List.mem_of_getElem? (i := 1183) (by decide +kernel), List.mem_of_getElem? (i := 1184) (by decide +kernel)⟩
theorem lw_p22 : lw_okq (⟨"WitnessesMustLieModel", "digits", "(I)Z"⟩, 22) := ⟨⟨by decide +kernel, by decide +kernel⟩, List.mem_of_getElem? (i := 1097) (by decide +kernel), List.mem_of_getElem? (i := 1187) (by decide +kernel), List.mem_of_getElem? (i := 1188) (by decide +kernel)⟩
theorem lw_p23 : lw_okq (⟨"WitnessesMustLieModel", "isSaying", "(I)Z"⟩, 22) := ⟨⟨by decide +kernel, by decide +kernel⟩, List.mem_of_getElem? (i := 1097) (by decide +kernel), List.mem_of_getElem? (i := 1191) (by decide +kernel), List.mem_of_getElem? (i := 1192) (by decide +kernel)⟩
theorem lw_p24 : lw_okq (⟨"WitnessesMustLieModel", "readSaying", "(I)I"⟩, 22) := ⟨⟨by decide +kernel, by decide +kernel⟩, List.mem_of_getElem? (i := 1097) (by decide +kernel), List.mem_of_getElem? (i := 1198) (by decide +kernel), List.mem_of_getElem? (i := 1199) (by decide +kernel)⟩
theorem lw_p25 : lw_okq (⟨"WitnessesMustLieModel", "two", "()I"⟩, 22) := ⟨⟨by decide +kernel, by decide +kernel⟩, List.mem_of_getElem? (i := 1097) (by decide +kernel), List.mem_of_getElem? (i := 1205) (by decide +kernel), List.mem_of_getElem? (i := 1206) (by decide +kernel)⟩
theorem lw_p26 : lw_okq (⟨"WitnessesMustLieModel", "isWitness", "(I)Z"⟩, 22) := ⟨⟨by decide +kernel, by decide +kernel⟩, List.mem_of_getElem? (i := 1097) (by decide +kernel), List.mem_of_getElem? (i := 1209) (by decide +kernel), List.mem_of_getElem? (i := 1210) (by decide +kernel)⟩
theorem lw_p27 : lw_okq (⟨"WitnessesMustLieModel", "keep", "([I)V"⟩, 22) := ⟨⟨by decide +kernel, by decide +kernel⟩, List.mem_of_getElem? (i := 1097) (by decide +kernel), List.mem_of_getElem? (i := 1213) (by decide +kernel), List.mem_of_getElem? (i := 1214) (by decide +kernel)⟩
theorem lw_p28 : lw_okq (⟨"WitnessesMustLieModel", "again", "([I)V"⟩, 22) := ⟨⟨by decide +kernel, by decide +kernel⟩, List.mem_of_getElem? (i := 1097) (by decide +kernel), List.mem_of_getElem? (i := 1217) (by decide +kernel), List.mem_of_getElem? (i := 1218) (by decide +kernel)⟩
theorem lw_p29 : lw_okq (⟨"WitnessesMustLieModel", "isSaid", "(I)Z"⟩, 22) := ⟨⟨by decide +kernel, by decide +kernel⟩, List.mem_of_getElem? (i := 1097) (by decide +kernel), List.mem_of_getElem? (i := 1238) (by decide +kernel), List.mem_of_getElem? (i := 1239) (by decide +kernel)⟩
theorem lw_p30 : lw_okq (⟨"WitnessesMustLieModel", "isSlip", "(I)Z"⟩, 22) := ⟨⟨by decide +kernel, by decide +kernel⟩, List.mem_of_getElem? (i := 1097) (by decide +kernel), List.mem_of_getElem? (i := 1242) (by decide +kernel), List.mem_of_getElem? (i := 1243) (by decide +kernel)⟩
theorem lw_p31 : lw_okq (⟨"WitnessesMustLieModel", "noSaying", "(I)I"⟩, 22) := ⟨⟨by decide +kernel, by decide +kernel⟩, List.mem_of_getElem? (i := 1097) (by decide +kernel), List.mem_of_getElem? (i := 1260) (by decide +kernel), List.mem_of_getElem? (i := 1261) (by decide +kernel)⟩
def lw_privs_2 : List (MethodName × Nat) := [(⟨"WitnessesMustLie", "mostLeft", "(JI)I"⟩, 8), (⟨"WitnessesMustLie", "worldsOfDraws", "(I)J"⟩, 8), (⟨"WitnessesMustLie$Shelf", "lowestBits", "(I)I"⟩, 6), (⟨"java/lang/Throwable", "fillInStackTrace", "(I)Ljava/lang/Throwable;"⟩, 6), (⟨"WitnessesMustLieModel", "statement", "(Z)I"⟩, 22), (⟨"WitnessesMustLieModel", "is", "(I)Z"⟩, 22), (⟨"WitnessesMustLieModel", "digits", "(I)Z"⟩, 22), (⟨"WitnessesMustLieModel", "isSaying", "(I)Z"⟩, 22), (⟨"WitnessesMustLieModel", "readSaying", "(I)I"⟩, 22), (⟨"WitnessesMustLieModel", "two", "()I"⟩, 22), (⟨"WitnessesMustLieModel", "isWitness", "(I)Z"⟩, 22), (⟨"WitnessesMustLieModel", "keep", "([I)V"⟩, 22), (⟨"WitnessesMustLieModel", "again", "([I)V"⟩, 22), (⟨"WitnessesMustLieModel", "isSaid", "(I)Z"⟩, 22), (⟨"WitnessesMustLieModel", "isSlip", "(I)Z"⟩, 22), (⟨"WitnessesMustLieModel", "noSaying", "(I)I"⟩, 22)]
theorem lw_r2 : ∀ q ∈ lw_privs_2, lw_okq q := List.forall_mem_cons.mpr ⟨lw_p16, List.forall_mem_cons.mpr ⟨lw_p17, List.forall_mem_cons.mpr ⟨lw_p18, List.forall_mem_cons.mpr ⟨lw_p19, List.forall_mem_cons.mpr ⟨lw_p20, List.forall_mem_cons.mpr ⟨lw_p21, List.forall_mem_cons.mpr ⟨lw_p22, List.forall_mem_cons.mpr ⟨lw_p23, List.forall_mem_cons.mpr ⟨lw_p24, List.forall_mem_cons.mpr ⟨lw_p25, List.forall_mem_cons.mpr ⟨lw_p26, List.forall_mem_cons.mpr ⟨lw_p27, List.forall_mem_cons.mpr ⟨lw_p28, List.forall_mem_cons.mpr ⟨lw_p29, List.forall_mem_cons.mpr ⟨lw_p30, List.forall_mem_cons.mpr ⟨lw_p31, fun _ h => absurd h List.not_mem_nil⟩⟩⟩⟩⟩⟩⟩⟩⟩⟩⟩⟩⟩⟩⟩⟩
theorem lw_p32 : lw_okq (⟨"WitnessesMustLieModel", "onShelf", "(III)I"⟩, 22) := ⟨⟨by decide +kernel, by decide +kernel⟩, List.mem_of_getElem? (i := 1097) (by decide +kernel), List.mem_of_getElem? (i := 1264) (by decide +kernel), List.mem_of_getElem? (i := 1265) (by decide +kernel)⟩
theorem lw_p33 : lw_okq (⟨"WitnessesMustLieModel", "mayBe", "()J"⟩, 22) := ⟨⟨by decide +kernel, by decide +kernel⟩, List.mem_of_getElem? (i := 1097) (by decide +kernel), List.mem_of_getElem? (i := 1293) (by decide +kernel), List.mem_of_getElem? (i := 1294) (by decide +kernel)⟩
theorem lw_p34 : lw_okq (⟨"WitnessesMustLieModel", "left", "()J"⟩, 22) := ⟨⟨by decide +kernel, by decide +kernel⟩, List.mem_of_getElem? (i := 1097) (by decide +kernel), List.mem_of_getElem? (i := 1301) (by decide +kernel), List.mem_of_getElem? (i := 1302) (by decide +kernel)⟩
theorem lw_p35 : lw_okq (⟨"WitnessesMustLieModel", "leftBy", "(I)J"⟩, 22) := ⟨⟨by decide +kernel, by decide +kernel⟩, List.mem_of_getElem? (i := 1097) (by decide +kernel), List.mem_of_getElem? (i := 1305) (by decide +kernel), List.mem_of_getElem? (i := 1306) (by decide +kernel)⟩
theorem lw_p36 : lw_okq (⟨"WitnessesMustLieModel", "isPlain", "(I)Z"⟩, 22) := ⟨⟨by decide +kernel, by decide +kernel⟩, List.mem_of_getElem? (i := 1097) (by decide +kernel), List.mem_of_getElem? (i := 1355) (by decide +kernel), List.mem_of_getElem? (i := 1356) (by decide +kernel)⟩
theorem lw_p37 : lw_okq (⟨"WitnessesMustLieModel", "saidBy", "(I)I"⟩, 22) := ⟨⟨by decide +kernel, by decide +kernel⟩, List.mem_of_getElem? (i := 1097) (by decide +kernel), List.mem_of_getElem? (i := 1359) (by decide +kernel), List.mem_of_getElem? (i := 1360) (by decide +kernel)⟩
theorem lw_p38 : lw_okq (⟨"WitnessesMustLieModel", "isLie", "(II)Z"⟩, 22) := ⟨⟨by decide +kernel, by decide +kernel⟩, List.mem_of_getElem? (i := 1097) (by decide +kernel), List.mem_of_getElem? (i := 1379) (by decide +kernel), List.mem_of_getElem? (i := 1380) (by decide +kernel)⟩
theorem lw_p39 : lw_okq (⟨"WitnessesMustLieModel", "like", "(JII)J"⟩, 22) := ⟨⟨by decide +kernel, by decide +kernel⟩, List.mem_of_getElem? (i := 1097) (by decide +kernel), List.mem_of_getElem? (i := 1400) (by decide +kernel), List.mem_of_getElem? (i := 1401) (by decide +kernel)⟩
theorem lw_p40 : lw_okq (⟨"WitnessesMustLieModel", "part", "(I)J"⟩, 22) := ⟨⟨by decide +kernel, by decide +kernel⟩, List.mem_of_getElem? (i := 1097) (by decide +kernel), List.mem_of_getElem? (i := 1420) (by decide +kernel), List.mem_of_getElem? (i := 1421) (by decide +kernel)⟩
theorem lw_p41 : lw_okq (⟨"WitnessesMustLieModel", "noRow", "(I)I"⟩, 22) := ⟨⟨by decide +kernel, by decide +kernel⟩, List.mem_of_getElem? (i := 1097) (by decide +kernel), List.mem_of_getElem? (i := 1428) (by decide +kernel), List.mem_of_getElem? (i := 1429) (by decide +kernel)⟩
theorem lw_p42 : lw_okq (⟨"WitnessesMustLieModel", "leastOf", "(I)I"⟩, 22) := ⟨⟨by decide +kernel, by decide +kernel⟩, List.mem_of_getElem? (i := 1097) (by decide +kernel), List.mem_of_getElem? (i := 1434) (by decide +kernel), List.mem_of_getElem? (i := 1435) (by decide +kernel)⟩
theorem lw_p43 : lw_okq (⟨"WitnessesMustLieModel", "costOf", "(I)I"⟩, 22) := ⟨⟨by decide +kernel, by decide +kernel⟩, List.mem_of_getElem? (i := 1097) (by decide +kernel), List.mem_of_getElem? (i := 1490) (by decide +kernel), List.mem_of_getElem? (i := 1491) (by decide +kernel)⟩
def lw_privs_3 : List (MethodName × Nat) := [(⟨"WitnessesMustLieModel", "onShelf", "(III)I"⟩, 22), (⟨"WitnessesMustLieModel", "mayBe", "()J"⟩, 22), (⟨"WitnessesMustLieModel", "left", "()J"⟩, 22), (⟨"WitnessesMustLieModel", "leftBy", "(I)J"⟩, 22), (⟨"WitnessesMustLieModel", "isPlain", "(I)Z"⟩, 22), (⟨"WitnessesMustLieModel", "saidBy", "(I)I"⟩, 22), (⟨"WitnessesMustLieModel", "isLie", "(II)Z"⟩, 22), (⟨"WitnessesMustLieModel", "like", "(JII)J"⟩, 22), (⟨"WitnessesMustLieModel", "part", "(I)J"⟩, 22), (⟨"WitnessesMustLieModel", "noRow", "(I)I"⟩, 22), (⟨"WitnessesMustLieModel", "leastOf", "(I)I"⟩, 22), (⟨"WitnessesMustLieModel", "costOf", "(I)I"⟩, 22)]
theorem lw_r3 : ∀ q ∈ lw_privs_3, lw_okq q := List.forall_mem_cons.mpr ⟨lw_p32, List.forall_mem_cons.mpr ⟨lw_p33, List.forall_mem_cons.mpr ⟨lw_p34, List.forall_mem_cons.mpr ⟨lw_p35, List.forall_mem_cons.mpr ⟨lw_p36, List.forall_mem_cons.mpr ⟨lw_p37, List.forall_mem_cons.mpr ⟨lw_p38, List.forall_mem_cons.mpr ⟨lw_p39, List.forall_mem_cons.mpr ⟨lw_p40, List.forall_mem_cons.mpr ⟨lw_p41, List.forall_mem_cons.mpr ⟨lw_p42, List.forall_mem_cons.mpr ⟨lw_p43, fun _ h => absurd h List.not_mem_nil⟩⟩⟩⟩⟩⟩⟩⟩⟩⟩⟩⟩
def lw_privs : List (MethodName × Nat) := lw_privs_1 ++ (lw_privs_2 ++ (lw_privs_3))
def lw_tbl : List Cond := k2_sels lw_privs ++ tables_1
theorem lw_privs_ok : ∀ q ∈ lw_privs, lw_okq q := by
  show ∀ q ∈ lw_privs_1 ++ (lw_privs_2 ++ (lw_privs_3)), lw_okq q
  exact List.forall_mem_append.mpr ⟨lw_r1, List.forall_mem_append.mpr ⟨lw_r2, lw_r3⟩⟩
end
section
def RX0 : String := "WitnessesMustLie$Alike"
def TX0 : u_T := fun k => match k with
  | _ => ("WitnessesMustLie$Says", "number", "I", true)
def tyX0 : Nat → FieldType := fun k => match k with
  | _ => .int
abbrev wsX00 : List Cond := u_ws RX0 TX0 1
theorem nmX0 : ∀ a, a < 1 → ∀ b, b < 1 → a ≠ b → (TX0 a).2.1 ≠ (TX0 b).2.1 := by decide +kernel
theorem tyX0_ok : ∀ k, k < 1 → parseFieldDescriptor (TX0 k).2.2.1 = some (tyX0 k) := by decide +kernel
abbrev cX0_init : ByteArray := prog_2_method_1_code
def yX0_init : MethodName := ⟨RX0, "<init>", "(I)V"⟩
abbrev cX0_trueWorlds : ByteArray := prog_2_method_2_code
def yX0_trueWorlds : MethodName := ⟨RX0, "trueWorlds", "(JJJ)J"⟩
abbrev cX0_words : ByteArray := prog_2_method_3_code
def yX0_words : MethodName := ⟨RX0, "words", "(I)I"⟩
abbrev cX0_price : ByteArray := prog_2_method_4_code
def yX0_price : MethodName := ⟨RX0, "price", "(I)I"⟩
def RX1 : String := "WitnessesMustLie$Both"
def TX1 : u_T := fun k => match k with
  | _ => ("WitnessesMustLie$Says", "number", "I", true)
def tyX1 : Nat → FieldType := fun k => match k with
  | _ => .int
abbrev wsX10 : List Cond := u_ws RX1 TX1 1
theorem nmX1 : ∀ a, a < 1 → ∀ b, b < 1 → a ≠ b → (TX1 a).2.1 ≠ (TX1 b).2.1 := by decide +kernel
theorem tyX1_ok : ∀ k, k < 1 → parseFieldDescriptor (TX1 k).2.2.1 = some (tyX1 k) := by decide +kernel
abbrev cX1_init : ByteArray := prog_3_method_1_code
def yX1_init : MethodName := ⟨RX1, "<init>", "(I)V"⟩
abbrev cX1_trueWorlds : ByteArray := prog_3_method_2_code
def yX1_trueWorlds : MethodName := ⟨RX1, "trueWorlds", "(JJJ)J"⟩
abbrev cX1_words : ByteArray := prog_3_method_3_code
def yX1_words : MethodName := ⟨RX1, "words", "(I)I"⟩
abbrev cX1_facts : ByteArray := prog_3_method_4_code
def yX1_facts : MethodName := ⟨RX1, "facts", "(III)I"⟩
abbrev cX1_price : ByteArray := prog_3_method_5_code
def yX1_price : MethodName := ⟨RX1, "price", "(I)I"⟩
abbrev cX1_failure : ByteArray := prog_3_method_6_code
def yX1_failure : MethodName := ⟨RX1, "failure", "(I)I"⟩
def RX2 : String := "WitnessesMustLie$Denies"
def TX2 : u_T := fun k => match k with
  | _ => ("WitnessesMustLie$Says", "number", "I", true)
def tyX2 : Nat → FieldType := fun k => match k with
  | _ => .int
abbrev wsX20 : List Cond := u_ws RX2 TX2 1
theorem nmX2 : ∀ a, a < 1 → ∀ b, b < 1 → a ≠ b → (TX2 a).2.1 ≠ (TX2 b).2.1 := by decide +kernel
theorem tyX2_ok : ∀ k, k < 1 → parseFieldDescriptor (TX2 k).2.2.1 = some (tyX2 k) := by decide +kernel
abbrev cX2_init : ByteArray := prog_4_method_1_code
def yX2_init : MethodName := ⟨RX2, "<init>", "(I)V"⟩
abbrev cX2_trueWorlds : ByteArray := prog_4_method_2_code
def yX2_trueWorlds : MethodName := ⟨RX2, "trueWorlds", "(JJJ)J"⟩
abbrev cX2_words : ByteArray := prog_4_method_3_code
def yX2_words : MethodName := ⟨RX2, "words", "(I)I"⟩
abbrev cX2_price : ByteArray := prog_4_method_4_code
def yX2_price : MethodName := ⟨RX2, "price", "(I)I"⟩
def RX3 : String := "WitnessesMustLie$Either"
def TX3 : u_T := fun k => match k with
  | _ => ("WitnessesMustLie$Says", "number", "I", true)
def tyX3 : Nat → FieldType := fun k => match k with
  | _ => .int
abbrev wsX30 : List Cond := u_ws RX3 TX3 1
theorem nmX3 : ∀ a, a < 1 → ∀ b, b < 1 → a ≠ b → (TX3 a).2.1 ≠ (TX3 b).2.1 := by decide +kernel
theorem tyX3_ok : ∀ k, k < 1 → parseFieldDescriptor (TX3 k).2.2.1 = some (tyX3 k) := by decide +kernel
abbrev cX3_init : ByteArray := prog_5_method_1_code
def yX3_init : MethodName := ⟨RX3, "<init>", "(I)V"⟩
abbrev cX3_trueWorlds : ByteArray := prog_5_method_2_code
def yX3_trueWorlds : MethodName := ⟨RX3, "trueWorlds", "(JJJ)J"⟩
abbrev cX3_words : ByteArray := prog_5_method_3_code
def yX3_words : MethodName := ⟨RX3, "words", "(I)I"⟩
abbrev cX3_price : ByteArray := prog_5_method_4_code
def yX3_price : MethodName := ⟨RX3, "price", "(I)I"⟩
def RX4 : String := "WitnessesMustLie$Expert"
def TX4 : u_T := fun k => match k with
  | _ => ("WitnessesMustLie$Says", "number", "I", true)
def tyX4 : Nat → FieldType := fun k => match k with
  | _ => .int
abbrev wsX40 : List Cond := u_ws RX4 TX4 1
theorem nmX4 : ∀ a, a < 1 → ∀ b, b < 1 → a ≠ b → (TX4 a).2.1 ≠ (TX4 b).2.1 := by decide +kernel
theorem tyX4_ok : ∀ k, k < 1 → parseFieldDescriptor (TX4 k).2.2.1 = some (tyX4 k) := by decide +kernel
abbrev cX4_init : ByteArray := prog_6_method_1_code
def yX4_init : MethodName := ⟨RX4, "<init>", "(I)V"⟩
abbrev cX4_trueWorlds : ByteArray := prog_6_method_2_code
def yX4_trueWorlds : MethodName := ⟨RX4, "trueWorlds", "(JJJ)J"⟩
abbrev cX4_words : ByteArray := prog_6_method_3_code
def yX4_words : MethodName := ⟨RX4, "words", "(I)I"⟩
abbrev cX4_price : ByteArray := prog_6_method_4_code
def yX4_price : MethodName := ⟨RX4, "price", "(I)I"⟩
abbrev cX4_fail : ByteArray := prog_6_method_5_code
def yX4_fail : MethodName := ⟨RX4, "fail", "(I)V"⟩
def RX5 : String := "WitnessesMustLie$If"
def TX5 : u_T := fun k => match k with
  | _ => ("WitnessesMustLie$Says", "number", "I", true)
def tyX5 : Nat → FieldType := fun k => match k with
  | _ => .int
abbrev wsX50 : List Cond := u_ws RX5 TX5 1
theorem nmX5 : ∀ a, a < 1 → ∀ b, b < 1 → a ≠ b → (TX5 a).2.1 ≠ (TX5 b).2.1 := by decide +kernel
theorem tyX5_ok : ∀ k, k < 1 → parseFieldDescriptor (TX5 k).2.2.1 = some (tyX5 k) := by decide +kernel
abbrev cX5_init : ByteArray := prog_7_method_1_code
def yX5_init : MethodName := ⟨RX5, "<init>", "(I)V"⟩
abbrev cX5_trueWorlds : ByteArray := prog_7_method_2_code
def yX5_trueWorlds : MethodName := ⟨RX5, "trueWorlds", "(JJJ)J"⟩
abbrev cX5_words : ByteArray := prog_7_method_3_code
def yX5_words : MethodName := ⟨RX5, "words", "(I)I"⟩
abbrev cX5_price : ByteArray := prog_7_method_4_code
def yX5_price : MethodName := ⟨RX5, "price", "(I)I"⟩
def RX6 : String := "WitnessesMustLie$Poet"
def TX6 : u_T := fun k => match k with
  | _ => ("WitnessesMustLie$Says", "number", "I", true)
def tyX6 : Nat → FieldType := fun k => match k with
  | _ => .int
abbrev wsX60 : List Cond := u_ws RX6 TX6 1
theorem nmX6 : ∀ a, a < 1 → ∀ b, b < 1 → a ≠ b → (TX6 a).2.1 ≠ (TX6 b).2.1 := by decide +kernel
theorem tyX6_ok : ∀ k, k < 1 → parseFieldDescriptor (TX6 k).2.2.1 = some (tyX6 k) := by decide +kernel
abbrev cX6_init : ByteArray := prog_8_method_1_code
def yX6_init : MethodName := ⟨RX6, "<init>", "(I)V"⟩
abbrev cX6_trueWorlds : ByteArray := prog_8_method_2_code
def yX6_trueWorlds : MethodName := ⟨RX6, "trueWorlds", "(JJJ)J"⟩
abbrev cX6_words : ByteArray := prog_8_method_3_code
def yX6_words : MethodName := ⟨RX6, "words", "(I)I"⟩
abbrev cX6_facts : ByteArray := prog_8_method_4_code
def yX6_facts : MethodName := ⟨RX6, "facts", "(III)I"⟩
abbrev cX6_price : ByteArray := prog_8_method_5_code
def yX6_price : MethodName := ⟨RX6, "price", "(I)I"⟩
abbrev cX6_failure : ByteArray := prog_8_method_6_code
def yX6_failure : MethodName := ⟨RX6, "failure", "(I)I"⟩
def RX7 : String := "WitnessesMustLie$Saying"
def TX7 : u_T := fun k => match k with
  | 0 => ("WitnessesMustLie$Saying", "teller", "I", true)
  | 1 => ("WitnessesMustLie$Saying", "kind", "LWitnessesMustLie$Says;", true)
  | 2 => ("WitnessesMustLie$Saying", "figure", "I", true)
  | 3 => ("WitnessesMustLie$Saying", "a", "I", true)
  | 4 => ("WitnessesMustLie$Saying", "b", "I", true)
  | _ => ("WitnessesMustLie$Saying", "trueWorlds", "J", true)
def tyX7 : Nat → FieldType := fun k => match k with
  | 0 => .int
  | 1 => .object "WitnessesMustLie$Says"
  | 2 => .int
  | 3 => .int
  | 4 => .int
  | _ => .long
abbrev wsX70 : List Cond := u_ws RX7 TX7 6
theorem nmX7 : ∀ a, a < 6 → ∀ b, b < 6 → a ≠ b → (TX7 a).2.1 ≠ (TX7 b).2.1 := by decide +kernel
theorem tyX7_ok : ∀ k, k < 6 → parseFieldDescriptor (TX7 k).2.2.1 = some (tyX7 k) := by decide +kernel
abbrev cX7_init : ByteArray := prog_9_method_1_code
def yX7_init : MethodName := ⟨RX7, "<init>", "(ILWitnessesMustLie$Says;IIIJ)V"⟩
abbrev cX7_told : ByteArray := prog_9_method_2_code
def yX7_told : MethodName := ⟨RX7, "told", "(I)I"⟩
abbrev cX7_words : ByteArray := prog_9_method_3_code
def yX7_words : MethodName := ⟨RX7, "words", "()I"⟩
abbrev cX7_facts : ByteArray := prog_9_method_4_code
def yX7_facts : MethodName := ⟨RX7, "facts", "()I"⟩
def RX8 : String := "WitnessesMustLie$Says"
def TX8 : u_T := fun k => match k with
  | _ => ("WitnessesMustLie$Says", "number", "I", true)
def tyX8 : Nat → FieldType := fun k => match k with
  | _ => .int
abbrev wsX80 : List Cond := u_ws RX8 TX8 1
theorem nmX8 : ∀ a, a < 1 → ∀ b, b < 1 → a ≠ b → (TX8 a).2.1 ≠ (TX8 b).2.1 := by decide +kernel
theorem tyX8_ok : ∀ k, k < 1 → parseFieldDescriptor (TX8 k).2.2.1 = some (tyX8 k) := by decide +kernel
abbrev cX8_init : ByteArray := prog_10_method_1_code
def yX8_init : MethodName := ⟨RX8, "<init>", "(I)V"⟩
abbrev cX8_worldsOf : ByteArray := prog_10_method_2_code
def yX8_worldsOf : MethodName := ⟨RX8, "worldsOf", "(III)J"⟩
abbrev cX8_trueWorlds : ByteArray := prog_10_method_3_code
def yX8_trueWorlds : MethodName := ⟨RX8, "trueWorlds", "(JJJ)J"⟩
abbrev cX8_words : ByteArray := prog_10_method_4_code
def yX8_words : MethodName := ⟨RX8, "words", "(I)I"⟩
abbrev cX8_facts : ByteArray := prog_10_method_5_code
def yX8_facts : MethodName := ⟨RX8, "facts", "(III)I"⟩
abbrev cX8_price : ByteArray := prog_10_method_6_code
def yX8_price : MethodName := ⟨RX8, "price", "(I)I"⟩
abbrev cX8_fail : ByteArray := prog_10_method_7_code
def yX8_fail : MethodName := ⟨RX8, "fail", "(I)V"⟩
abbrev cX8_failure : ByteArray := prog_10_method_8_code
def yX8_failure : MethodName := ⟨RX8, "failure", "(I)I"⟩
def RX9 : String := "WitnessesMustLie$Shelf"
def TX9 : u_T := fun k => match k with
  | 0 => ("WitnessesMustLie$Shelf", "numbers", "[I", true)
  | 1 => ("WitnessesMustLie$Shelf", "holds", "I", false)
  | 2 => ("WitnessesMustLie$Shelf", "kind", "LWitnessesMustLie$Says;", false)
  | 3 => ("WitnessesMustLie$Shelf", "figure", "I", false)
  | 4 => ("WitnessesMustLie$Shelf", "sort", "I", false)
  | _ => ("WitnessesMustLie$Shelf", "length", "I", false)
def tyX9 : Nat → FieldType := fun k => match k with
  | 0 => .array .int
  | 1 => .int
  | 2 => .object "WitnessesMustLie$Says"
  | 3 => .int
  | 4 => .int
  | _ => .int
abbrev wsX90 : List Cond := u_ws RX9 TX9 6
theorem nmX9 : ∀ a, a < 6 → ∀ b, b < 6 → a ≠ b → (TX9 a).2.1 ≠ (TX9 b).2.1 := by decide +kernel
theorem tyX9_ok : ∀ k, k < 6 → parseFieldDescriptor (TX9 k).2.2.1 = some (tyX9 k) := by decide +kernel
abbrev cX9_init : ByteArray := prog_11_method_1_code
def yX9_init : MethodName := ⟨RX9, "<init>", "(LWitnessesMustLie$Says;)V"⟩
abbrev cX9_holdNothing : ByteArray := prog_11_method_2_code
def yX9_holdNothing : MethodName := ⟨RX9, "holdNothing", "()V"⟩
abbrev cX9_holdSaying : ByteArray := prog_11_method_3_code
def yX9_holdSaying : MethodName := ⟨RX9, "holdSaying", "(LWitnessesMustLie$Says;I)V"⟩
abbrev cX9_holdRow : ByteArray := prog_11_method_4_code
def yX9_holdRow : MethodName := ⟨RX9, "holdRow", "(II)V"⟩
abbrev cX9_isEmpty : ByteArray := prog_11_method_5_code
def yX9_isEmpty : MethodName := ⟨RX9, "isEmpty", "()Z"⟩
abbrev cX9_refusalAsSaying : ByteArray := prog_11_method_6_code
def yX9_refusalAsSaying : MethodName := ⟨RX9, "refusalAsSaying", "()I"⟩
abbrev cX9_refusalAsRow : ByteArray := prog_11_method_7_code
def yX9_refusalAsRow : MethodName := ⟨RX9, "refusalAsRow", "()I"⟩
abbrev cX9_refusalUnless : ByteArray := prog_11_method_8_code
def yX9_refusalUnless : MethodName := ⟨RX9, "refusalUnless", "(I)I"⟩
abbrev cX9_worldsOf : ByteArray := prog_11_method_9_code
def yX9_worldsOf : MethodName := ⟨RX9, "worldsOf", "(II)J"⟩
abbrev cX9_hasPlaces : ByteArray := prog_11_method_10_code
def yX9_hasPlaces : MethodName := ⟨RX9, "hasPlaces", "(II)Z"⟩
abbrev cX9_numberAt : ByteArray := prog_11_method_11_code
def yX9_numberAt : MethodName := ⟨RX9, "numberAt", "(I)I"⟩
abbrev cX9_setNumber : ByteArray := prog_11_method_12_code
def yX9_setNumber : MethodName := ⟨RX9, "setNumber", "(II)Z"⟩
abbrev cX9_lowestBits : ByteArray := prog_11_method_13_code
def yX9_lowestBits : MethodName := ⟨RX9, "lowestBits", "(I)I"⟩
abbrev cX9_isSkipped : ByteArray := prog_11_method_14_code
def yX9_isSkipped : MethodName := ⟨RX9, "isSkipped", "(I)Z"⟩
abbrev cX9_tellsTrueOrFalse : ByteArray := prog_11_method_15_code
def yX9_tellsTrueOrFalse : MethodName := ⟨RX9, "tellsTrueOrFalse", "()Z"⟩
def RX10 : String := "WitnessesMustLie$Trial"
def TX10 : u_T := fun k => match k with
  | 0 => ("WitnessesMustLie$Trial", "laws", "Ljava/util/ArrayList;", true)
  | 1 => ("WitnessesMustLie$Trial", "said", "Ljava/util/ArrayList;", true)
  | 2 => ("WitnessesMustLie$Trial", "known", "[I", true)
  | 3 => ("WitnessesMustLie$Trial", "witnesses", "I", false)
  | _ => ("WitnessesMustLie$Trial", "truthWorld", "I", false)
def tyX10 : Nat → FieldType := fun k => match k with
  | 0 => .object "java/util/ArrayList"
  | 1 => .object "java/util/ArrayList"
  | 2 => .array .int
  | 3 => .int
  | _ => .int
abbrev wsX100 : List Cond := u_ws RX10 TX10 5
theorem nmX10 : ∀ a, a < 5 → ∀ b, b < 5 → a ≠ b → (TX10 a).2.1 ≠ (TX10 b).2.1 := by decide +kernel
theorem tyX10_ok : ∀ k, k < 5 → parseFieldDescriptor (TX10 k).2.2.1 = some (tyX10 k) := by decide +kernel
abbrev cX10_init : ByteArray := prog_12_method_1_code
def yX10_init : MethodName := ⟨RX10, "<init>", "()V"⟩
abbrev cX10_becomes : ByteArray := prog_12_method_2_code
def yX10_becomes : MethodName := ⟨RX10, "becomes", "(LWitnessesMustLie$Trial;)V"⟩
abbrev cX10_refill : ByteArray := prog_12_method_3_code
def yX10_refill : MethodName := ⟨RX10, "refill", "(Ljava/util/ArrayList;Ljava/util/ArrayList;)V"⟩
abbrev cX10_hasWitness : ByteArray := prog_12_method_4_code
def yX10_hasWitness : MethodName := ⟨RX10, "hasWitness", "(I)Z"⟩
abbrev cX10_knownBy : ByteArray := prog_12_method_5_code
def yX10_knownBy : MethodName := ⟨RX10, "knownBy", "(I)I"⟩
abbrev cX10_addLaw : ByteArray := prog_12_method_6_code
def yX10_addLaw : MethodName := ⟨RX10, "addLaw", "(LWitnessesMustLie$Saying;)Z"⟩
abbrev cX10_addSaid : ByteArray := prog_12_method_7_code
def yX10_addSaid : MethodName := ⟨RX10, "addSaid", "(LWitnessesMustLie$Saying;)Z"⟩
abbrev cX10_addWitness : ByteArray := prog_12_method_8_code
def yX10_addWitness : MethodName := ⟨RX10, "addWitness", "(I)Z"⟩
abbrev cX10_setTruth : ByteArray := prog_12_method_9_code
def yX10_setTruth : MethodName := ⟨RX10, "setTruth", "(I)Z"⟩
abbrev cX10_mayBe : ByteArray := prog_12_method_10_code
def yX10_mayBe : MethodName := ⟨RX10, "mayBe", "()J"⟩
abbrev cX10_left : ByteArray := prog_12_method_11_code
def yX10_left : MethodName := ⟨RX10, "left", "()J"⟩
abbrev cX10_mayBeOrLeft : ByteArray := prog_12_method_12_code
def yX10_mayBeOrLeft : MethodName := ⟨RX10, "mayBeOrLeft", "(I)J"⟩
abbrev cX10_leftBySaid : ByteArray := prog_12_method_13_code
def yX10_leftBySaid : MethodName := ⟨RX10, "leftBySaid", "(JI)J"⟩
abbrev cX10_leftByTellers : ByteArray := prog_12_method_14_code
def yX10_leftByTellers : MethodName := ⟨RX10, "leftByTellers", "(I)J"⟩
abbrev cX10_isPlainBy : ByteArray := prog_12_method_15_code
def yX10_isPlainBy : MethodName := ⟨RX10, "isPlainBy", "(I)Z"⟩
abbrev cX10_trueOnes : ByteArray := prog_12_method_16_code
def yX10_trueOnes : MethodName := ⟨RX10, "trueOnes", "(I)I"⟩
abbrev cX10_wordsSaid : ByteArray := prog_12_method_17_code
def yX10_wordsSaid : MethodName := ⟨RX10, "wordsSaid", "()I"⟩
abbrev cX10_reachedFrom : ByteArray := prog_12_method_18_code
def yX10_reachedFrom : MethodName := ⟨RX10, "reachedFrom", "(JJ)J"⟩
def RX11 : String := "WitnessesMustLie"
def TX11 : u_T := fun k => match k with
  | 0 => ("WitnessesMustLie", "kinds", "Ljava/util/ArrayList;", true)
  | 1 => ("WitnessesMustLie", "shelves", "[LWitnessesMustLie$Shelf;", true)
  | 2 => ("WitnessesMustLie", "court", "LWitnessesMustLie$Trial;", true)
  | 3 => ("WitnessesMustLie", "kept", "LWitnessesMustLie$Trial;", true)
  | 4 => ("WitnessesMustLie", "tried", "LWitnessesMustLie$Trial;", true)
  | 5 => ("WitnessesMustLie", "isKept", "Z", false)
  | 6 => ("WitnessesMustLie", "oneLies", "[J", true)
  | _ => ("WitnessesMustLie", "otherLies", "[J", true)
def tyX11 : Nat → FieldType := fun k => match k with
  | 0 => .object "java/util/ArrayList"
  | 1 => .array (.object "WitnessesMustLie$Shelf")
  | 2 => .object "WitnessesMustLie$Trial"
  | 3 => .object "WitnessesMustLie$Trial"
  | 4 => .object "WitnessesMustLie$Trial"
  | 5 => .boolean
  | 6 => .array .long
  | _ => .array .long
abbrev wsX110 : List Cond := u_ws RX11 TX11 8
theorem nmX11 : ∀ a, a < 8 → ∀ b, b < 8 → a ≠ b → (TX11 a).2.1 ≠ (TX11 b).2.1 := by decide +kernel
theorem tyX11_ok : ∀ k, k < 8 → parseFieldDescriptor (TX11 k).2.2.1 = some (tyX11 k) := by decide +kernel
abbrev cX11_init : ByteArray := prog_1_method_1_code
def yX11_init : MethodName := ⟨RX11, "<init>", "()V"⟩
abbrev cX11_trial : ByteArray := prog_1_method_2_code
def yX11_trial : MethodName := ⟨RX11, "trial", "(I)I"⟩
abbrev cX11_law : ByteArray := prog_1_method_3_code
def yX11_law : MethodName := ⟨RX11, "law", "(II)I"⟩
abbrev cX11_said : ByteArray := prog_1_method_4_code
def yX11_said : MethodName := ⟨RX11, "said", "(II)I"⟩
abbrev cX11_knows : ByteArray := prog_1_method_5_code
def yX11_knows : MethodName := ⟨RX11, "knows", "(I)I"⟩
abbrev cX11_isTrue : ByteArray := prog_1_method_6_code
def yX11_isTrue : MethodName := ⟨RX11, "isTrue", "(IIII)I"⟩
abbrev cX11_rules : ByteArray := prog_1_method_7_code
def yX11_rules : MethodName := ⟨RX11, "rules", "(III)I"⟩
abbrev cX11_says : ByteArray := prog_1_method_8_code
def yX11_says : MethodName := ⟨RX11, "says", "(IIII)I"⟩
abbrev cX11_unsays : ByteArray := prog_1_method_9_code
def yX11_unsays : MethodName := ⟨RX11, "unsays", "()I"⟩
abbrev cX11_witness : ByteArray := prog_1_method_10_code
def yX11_witness : MethodName := ⟨RX11, "witness", "(I)I"⟩
abbrev cX11_truth : ByteArray := prog_1_method_11_code
def yX11_truth : MethodName := ⟨RX11, "truth", "(I)I"⟩
abbrev cX11_worlds : ByteArray := prog_1_method_12_code
def yX11_worlds : MethodName := ⟨RX11, "worlds", "(I)J"⟩
abbrev cX11_many : ByteArray := prog_1_method_13_code
def yX11_many : MethodName := ⟨RX11, "many", "(I)I"⟩
abbrev cX11_proved : ByteArray := prog_1_method_14_code
def yX11_proved : MethodName := ⟨RX11, "proved", "(I)I"⟩
abbrev cX11_slips : ByteArray := prog_1_method_15_code
def yX11_slips : MethodName := ⟨RX11, "slips", "(I)I"⟩
abbrev cX11_alone : ByteArray := prog_1_method_16_code
def yX11_alone : MethodName := ⟨RX11, "alone", "(I)I"⟩
abbrev cX11_clash : ByteArray := prog_1_method_17_code
def yX11_clash : MethodName := ⟨RX11, "clash", "()I"⟩
abbrev cX11_proof : ByteArray := prog_1_method_18_code
def yX11_proof : MethodName := ⟨RX11, "proof", "(I)I"⟩
abbrev cX11_slipped : ByteArray := prog_1_method_19_code
def yX11_slipped : MethodName := ⟨RX11, "slipped", "()I"⟩
abbrev cX11_ask : ByteArray := prog_1_method_20_code
def yX11_ask : MethodName := ⟨RX11, "ask", "()I"⟩
abbrev cX11_plain : ByteArray := prog_1_method_21_code
def yX11_plain : MethodName := ⟨RX11, "plain", "()I"⟩
abbrev cX11_order : ByteArray := prog_1_method_22_code
def yX11_order : MethodName := ⟨RX11, "order", "(I)I"⟩
abbrev cX11_without : ByteArray := prog_1_method_23_code
def yX11_without : MethodName := ⟨RX11, "without", "(I)I"⟩
abbrev cX11_lie : ByteArray := prog_1_method_24_code
def yX11_lie : MethodName := ⟨RX11, "lie", "(II)I"⟩
abbrev cX11_twoLies : ByteArray := prog_1_method_25_code
def yX11_twoLies : MethodName := ⟨RX11, "twoLies", "(II)I"⟩
abbrev cX11_tells : ByteArray := prog_1_method_26_code
def yX11_tells : MethodName := ⟨RX11, "tells", "(III)I"⟩
abbrev cX11_verdict : ByteArray := prog_1_method_27_code
def yX11_verdict : MethodName := ⟨RX11, "verdict", "()I"⟩
abbrev cX11_certain : ByteArray := prog_1_method_28_code
def yX11_certain : MethodName := ⟨RX11, "certain", "(I)I"⟩
abbrev cX11_knowsOf : ByteArray := prog_1_method_29_code
def yX11_knowsOf : MethodName := ⟨RX11, "knowsOf", "(II)I"⟩
abbrev cX11_allKnow : ByteArray := prog_1_method_30_code
def yX11_allKnow : MethodName := ⟨RX11, "allKnow", "(I)I"⟩
abbrev cX11_pencils : ByteArray := prog_1_method_31_code
def yX11_pencils : MethodName := ⟨RX11, "pencils", "(III)J"⟩
abbrev cX11_fits : ByteArray := prog_1_method_32_code
def yX11_fits : MethodName := ⟨RX11, "fits", "(I)J"⟩
abbrev cX11_judge : ByteArray := prog_1_method_33_code
def yX11_judge : MethodName := ⟨RX11, "judge", "(I)I"⟩
abbrev cX11_seeds : ByteArray := prog_1_method_34_code
def yX11_seeds : MethodName := ⟨RX11, "seeds", "(III)I"⟩
abbrev cX11_image : ByteArray := prog_1_method_35_code
def yX11_image : MethodName := ⟨RX11, "image", "()I"⟩
abbrev cX11_restore : ByteArray := prog_1_method_36_code
def yX11_restore : MethodName := ⟨RX11, "restore", "()I"⟩
abbrev cX11_count : ByteArray := prog_1_method_37_code
def yX11_count : MethodName := ⟨RX11, "count", "(I)I"⟩
abbrev cX11_keep : ByteArray := prog_1_method_38_code
def yX11_keep : MethodName := ⟨RX11, "keep", "(IIII)I"⟩
abbrev cX11_row : ByteArray := prog_1_method_39_code
def yX11_row : MethodName := ⟨RX11, "row", "(III)I"⟩
abbrev cX11_put : ByteArray := prog_1_method_40_code
def yX11_put : MethodName := ⟨RX11, "put", "(III)I"⟩
abbrev cX11_element : ByteArray := prog_1_method_41_code
def yX11_element : MethodName := ⟨RX11, "element", "(II)J"⟩
abbrev cX11_copy : ByteArray := prog_1_method_42_code
def yX11_copy : MethodName := ⟨RX11, "copy", "(IIIII)I"⟩
abbrev cX11_cost : ByteArray := prog_1_method_43_code
def yX11_cost : MethodName := ⟨RX11, "cost", "(I)I"⟩
abbrev cX11_toss : ByteArray := prog_1_method_44_code
def yX11_toss : MethodName := ⟨RX11, "toss", "(I)I"⟩
abbrev cX11_isFact : ByteArray := prog_1_method_45_code
def yX11_isFact : MethodName := ⟨RX11, "isFact", "(I)Z"⟩
abbrev cX11_areFacts : ByteArray := prog_1_method_46_code
def yX11_areFacts : MethodName := ⟨RX11, "areFacts", "(I)Z"⟩
abbrev cX11_isWorld : ByteArray := prog_1_method_47_code
def yX11_isWorld : MethodName := ⟨RX11, "isWorld", "(I)Z"⟩
abbrev cX11_isEitherOr : ByteArray := prog_1_method_48_code
def yX11_isEitherOr : MethodName := ⟨RX11, "isEitherOr", "(I)Z"⟩
abbrev cX11_oneIf : ByteArray := prog_1_method_49_code
def yX11_oneIf : MethodName := ⟨RX11, "oneIf", "(Z)I"⟩
abbrev cX11_refusedLong : ByteArray := prog_1_method_50_code
def yX11_refusedLong : MethodName := ⟨RX11, "refusedLong", "(I)J"⟩
abbrev cX11_shelfAt : ByteArray := prog_1_method_51_code
def yX11_shelfAt : MethodName := ⟨RX11, "shelfAt", "(I)LWitnessesMustLie$Shelf;"⟩
abbrev cX11_kindNumbered : ByteArray := prog_1_method_52_code
def yX11_kindNumbered : MethodName := ⟨RX11, "kindNumbered", "(I)LWitnessesMustLie$Says;"⟩
abbrev cX11_sayingIn : ByteArray := prog_1_method_53_code
def yX11_sayingIn : MethodName := ⟨RX11, "sayingIn", "(Ljava/util/ArrayList;I)LWitnessesMustLie$Saying;"⟩
abbrev cX11_newSaying : ByteArray := prog_1_method_54_code
def yX11_newSaying : MethodName := ⟨RX11, "newSaying", "(ILWitnessesMustLie$Says;III)LWitnessesMustLie$Saying;"⟩
abbrev cX11_worldsWith : ByteArray := prog_1_method_55_code
def yX11_worldsWith : MethodName := ⟨RX11, "worldsWith", "(I)J"⟩
abbrev cX11_factBit : ByteArray := prog_1_method_56_code
def yX11_factBit : MethodName := ⟨RX11, "factBit", "(I)I"⟩
abbrev cX11_hasWorld : ByteArray := prog_1_method_57_code
def yX11_hasWorld : MethodName := ⟨RX11, "hasWorld", "(JI)Z"⟩
abbrev cX11_factsOfAll : ByteArray := prog_1_method_58_code
def yX11_factsOfAll : MethodName := ⟨RX11, "factsOfAll", "(J)I"⟩
abbrev cX11_factsOfNone : ByteArray := prog_1_method_59_code
def yX11_factsOfNone : MethodName := ⟨RX11, "factsOfNone", "(J)I"⟩
abbrev cX11_factsAlike : ByteArray := prog_1_method_60_code
def yX11_factsAlike : MethodName := ⟨RX11, "factsAlike", "(J)I"⟩
abbrev cX11_isProvedBy : ByteArray := prog_1_method_61_code
def yX11_isProvedBy : MethodName := ⟨RX11, "isProvedBy", "(JI)Z"⟩
abbrev cX11_likeInKnown : ByteArray := prog_1_method_62_code
def yX11_likeInKnown : MethodName := ⟨RX11, "likeInKnown", "(JII)J"⟩
abbrev cX11_brokenPlace : ByteArray := prog_1_method_63_code
def yX11_brokenPlace : MethodName := ⟨RX11, "brokenPlace", "(LWitnessesMustLie$Shelf;)I"⟩
abbrev cX11_digitsBehind : ByteArray := prog_1_method_64_code
def yX11_digitsBehind : MethodName := ⟨RX11, "digitsBehind", "(I)I"⟩
abbrev cX11_isDigit : ByteArray := prog_1_method_65_code
def yX11_isDigit : MethodName := ⟨RX11, "isDigit", "(I)Z"⟩
abbrev cX11_digitAt : ByteArray := prog_1_method_66_code
def yX11_digitAt : MethodName := ⟨RX11, "digitAt", "(LWitnessesMustLie$Shelf;I)I"⟩
abbrev cX11_twoDigitsAt : ByteArray := prog_1_method_67_code
def yX11_twoDigitsAt : MethodName := ⟨RX11, "twoDigitsAt", "(LWitnessesMustLie$Shelf;I)I"⟩
abbrev cX11_enact : ByteArray := prog_1_method_68_code
def yX11_enact : MethodName := ⟨RX11, "enact", "(LWitnessesMustLie$Shelf;)I"⟩
abbrev cX11_isEnacted : ByteArray := prog_1_method_69_code
def yX11_isEnacted : MethodName := ⟨RX11, "isEnacted", "(LWitnessesMustLie$Shelf;I)Z"⟩
abbrev cX11_sayingAt : ByteArray := prog_1_method_70_code
def yX11_sayingAt : MethodName := ⟨RX11, "sayingAt", "(LWitnessesMustLie$Shelf;II)LWitnessesMustLie$Saying;"⟩
abbrev cX11_leastOrder : ByteArray := prog_1_method_71_code
def yX11_leastOrder : MethodName := ⟨RX11, "leastOrder", "(I)I"⟩
abbrev cX11_digitsWithAhead : ByteArray := prog_1_method_72_code
def yX11_digitsWithAhead : MethodName := ⟨RX11, "digitsWithAhead", "(I)I"⟩
abbrev cX11_digitsOf : ByteArray := prog_1_method_73_code
def yX11_digitsOf : MethodName := ⟨RX11, "digitsOf", "(II)I"⟩
abbrev cX11_kindOfCode : ByteArray := prog_1_method_74_code
def yX11_kindOfCode : MethodName := ⟨RX11, "kindOfCode", "(I)I"⟩
abbrev cX11_firstOfCode : ByteArray := prog_1_method_75_code
def yX11_firstOfCode : MethodName := ⟨RX11, "firstOfCode", "(I)I"⟩
abbrev cX11_secondOfCode : ByteArray := prog_1_method_76_code
def yX11_secondOfCode : MethodName := ⟨RX11, "secondOfCode", "(I)I"⟩
abbrev cX11_worldsOfCode : ByteArray := prog_1_method_77_code
def yX11_worldsOfCode : MethodName := ⟨RX11, "worldsOfCode", "(I)J"⟩
abbrev cX11_isLie : ByteArray := prog_1_method_78_code
def yX11_isLie : MethodName := ⟨RX11, "isLie", "(II)Z"⟩
abbrev cX11_fillLies : ByteArray := prog_1_method_79_code
def yX11_fillLies : MethodName := ⟨RX11, "fillLies", "(I[J)I"⟩
abbrev cX11_mostLeft : ByteArray := prog_1_method_80_code
def yX11_mostLeft : MethodName := ⟨RX11, "mostLeft", "(JI)I"⟩
abbrev cX11_power : ByteArray := prog_1_method_81_code
def yX11_power : MethodName := ⟨RX11, "power", "(II)J"⟩
abbrev cX11_waysToChoose : ByteArray := prog_1_method_82_code
def yX11_waysToChoose : MethodName := ⟨RX11, "waysToChoose", "(I)J"⟩
abbrev cX11_greatestDivisor : ByteArray := prog_1_method_83_code
def yX11_greatestDivisor : MethodName := ⟨RX11, "greatestDivisor", "(JJ)J"⟩
abbrev cX11_nextSeed : ByteArray := prog_1_method_84_code
def yX11_nextSeed : MethodName := ⟨RX11, "nextSeed", "(I)I"⟩
abbrev cX11_drawnBelow : ByteArray := prog_1_method_85_code
def yX11_drawnBelow : MethodName := ⟨RX11, "drawnBelow", "(II)I"⟩
abbrev cX11_seedAfterDraws : ByteArray := prog_1_method_86_code
def yX11_seedAfterDraws : MethodName := ⟨RX11, "seedAfterDraws", "(I)I"⟩
abbrev cX11_worldsOfDraws : ByteArray := prog_1_method_87_code
def yX11_worldsOfDraws : MethodName := ⟨RX11, "worldsOfDraws", "(I)J"⟩
def RX12 : String := "WitnessesMustLieModel"
def TX12 : u_T := fun k => match k with
  | 0 => ("WitnessesMustLieModel", "truth", "I", false)
  | 1 => ("WitnessesMustLieModel", "laws", "I", false)
  | 2 => ("WitnessesMustLieModel", "law", "[I", true)
  | 3 => ("WitnessesMustLieModel", "witnesses", "I", false)
  | 4 => ("WitnessesMustLieModel", "knows", "[I", true)
  | 5 => ("WitnessesMustLieModel", "said", "I", false)
  | 6 => ("WitnessesMustLieModel", "saying", "[I", true)
  | 7 => ("WitnessesMustLieModel", "by", "[I", true)
  | 8 => ("WitnessesMustLieModel", "holds", "[I", true)
  | 9 => ("WitnessesMustLieModel", "first", "[I", true)
  | 10 => ("WitnessesMustLieModel", "second", "[I", true)
  | 11 => ("WitnessesMustLieModel", "cells", "[I", true)
  | 12 => ("WitnessesMustLieModel", "text", "I", false)
  | 13 => ("WitnessesMustLieModel", "at", "I", false)
  | 14 => ("WitnessesMustLieModel", "value", "[I", true)
  | 15 => ("WitnessesMustLieModel", "imaged", "Z", false)
  | 16 => ("WitnessesMustLieModel", "old", "[I", true)
  | 17 => ("WitnessesMustLieModel", "ahead", "[I", true)
  | 18 => ("WitnessesMustLieModel", "above", "J", false)
  | 19 => ("WitnessesMustLieModel", "below", "J", false)
  | 20 => ("WitnessesMustLieModel", "bestLie", "I", false)
  | _ => ("WitnessesMustLieModel", "thrown", "I", false)
def tyX12 : Nat → FieldType := fun k => match k with
  | 0 => .int
  | 1 => .int
  | 2 => .array .int
  | 3 => .int
  | 4 => .array .int
  | 5 => .int
  | 6 => .array .int
  | 7 => .array .int
  | 8 => .array .int
  | 9 => .array .int
  | 10 => .array .int
  | 11 => .array .int
  | 12 => .int
  | 13 => .int
  | 14 => .array .int
  | 15 => .boolean
  | 16 => .array .int
  | 17 => .array .int
  | 18 => .long
  | 19 => .long
  | 20 => .int
  | _ => .int
abbrev wsX120 : List Cond := u_ws RX12 TX12 22
theorem nmX12 : ∀ a, a < 22 → ∀ b, b < 22 → a ≠ b → (TX12 a).2.1 ≠ (TX12 b).2.1 := by decide +kernel
theorem tyX12_ok : ∀ k, k < 22 → parseFieldDescriptor (TX12 k).2.2.1 = some (tyX12 k) := by decide +kernel
abbrev cX12_init : ByteArray := prog_14_method_1_code
def yX12_init : MethodName := ⟨RX12, "<init>", "()V"⟩
abbrev cX12_within : ByteArray := prog_14_method_2_code
def yX12_within : MethodName := ⟨RX12, "within", "(III)Z"⟩
abbrev cX12_isFact : ByteArray := prog_14_method_3_code
def yX12_isFact : MethodName := ⟨RX12, "isFact", "(I)Z"⟩
abbrev cX12_isShelf : ByteArray := prog_14_method_4_code
def yX12_isShelf : MethodName := ⟨RX12, "isShelf", "(I)Z"⟩
abbrev cX12_isWitness : ByteArray := prog_14_method_5_code
def yX12_isWitness : MethodName := ⟨RX12, "isWitness", "(I)Z"⟩
abbrev cX12_isSaid : ByteArray := prog_14_method_6_code
def yX12_isSaid : MethodName := ⟨RX12, "isSaid", "(I)Z"⟩
abbrev cX12_made : ByteArray := prog_14_method_7_code
def yX12_made : MethodName := ⟨RX12, "made", "(IIII)I"⟩
abbrev cX12_has : ByteArray := prog_14_method_8_code
def yX12_has : MethodName := ⟨RX12, "has", "(II)Z"⟩
abbrev cX12_isTrueIn : ByteArray := prog_14_method_9_code
def yX12_isTrueIn : MethodName := ⟨RX12, "isTrueIn", "(II)Z"⟩
abbrev cX12_sizeOf : ByteArray := prog_14_method_10_code
def yX12_sizeOf : MethodName := ⟨RX12, "sizeOf", "(I)I"⟩
abbrev cX12_aboutOf : ByteArray := prog_14_method_11_code
def yX12_aboutOf : MethodName := ⟨RX12, "aboutOf", "(I)I"⟩
abbrev cX12_worldsOf : ByteArray := prog_14_method_12_code
def yX12_worldsOf : MethodName := ⟨RX12, "worldsOf", "(I)J"⟩
abbrev cX12_isSlip : ByteArray := prog_14_method_13_code
def yX12_isSlip : MethodName := ⟨RX12, "isSlip", "(I)Z"⟩
abbrev cX12_of : ByteArray := prog_14_method_14_code
def yX12_of : MethodName := ⟨RX12, "of", "(II)I"⟩
abbrev cX12_is : ByteArray := prog_14_method_15_code
def yX12_is : MethodName := ⟨RX12, "is", "(I)Z"⟩
abbrev cX12_digits : ByteArray := prog_14_method_16_code
def yX12_digits : MethodName := ⟨RX12, "digits", "(I)Z"⟩
abbrev cX12_two : ByteArray := prog_14_method_17_code
def yX12_two : MethodName := ⟨RX12, "two", "()I"⟩
abbrev cX12_isSaying : ByteArray := prog_14_method_18_code
def yX12_isSaying : MethodName := ⟨RX12, "isSaying", "(I)Z"⟩
abbrev cX12_readSaying : ByteArray := prog_14_method_19_code
def yX12_readSaying : MethodName := ⟨RX12, "readSaying", "(I)I"⟩
abbrev cX12_statement : ByteArray := prog_14_method_20_code
def yX12_statement : MethodName := ⟨RX12, "statement", "(Z)I"⟩
abbrev cX12_trial : ByteArray := prog_14_method_21_code
def yX12_trial : MethodName := ⟨RX12, "trial", "(I)I"⟩
abbrev cX12_law : ByteArray := prog_14_method_22_code
def yX12_law : MethodName := ⟨RX12, "law", "(II)I"⟩
abbrev cX12_said : ByteArray := prog_14_method_23_code
def yX12_said : MethodName := ⟨RX12, "said", "(II)I"⟩
abbrev cX12_knows : ByteArray := prog_14_method_24_code
def yX12_knows : MethodName := ⟨RX12, "knows", "(I)I"⟩
abbrev cX12_noSaying : ByteArray := prog_14_method_25_code
def yX12_noSaying : MethodName := ⟨RX12, "noSaying", "(I)I"⟩
abbrev cX12_onShelf : ByteArray := prog_14_method_26_code
def yX12_onShelf : MethodName := ⟨RX12, "onShelf", "(III)I"⟩
abbrev cX12_isTrue : ByteArray := prog_14_method_27_code
def yX12_isTrue : MethodName := ⟨RX12, "isTrue", "(IIII)I"⟩
abbrev cX12_rules : ByteArray := prog_14_method_28_code
def yX12_rules : MethodName := ⟨RX12, "rules", "(III)I"⟩
abbrev cX12_says : ByteArray := prog_14_method_29_code
def yX12_says : MethodName := ⟨RX12, "says", "(IIII)I"⟩
abbrev cX12_unsays : ByteArray := prog_14_method_30_code
def yX12_unsays : MethodName := ⟨RX12, "unsays", "()I"⟩
abbrev cX12_witness : ByteArray := prog_14_method_31_code
def yX12_witness : MethodName := ⟨RX12, "witness", "(I)I"⟩
abbrev cX12_truth : ByteArray := prog_14_method_32_code
def yX12_truth : MethodName := ⟨RX12, "truth", "(I)I"⟩
abbrev cX12_mayBe : ByteArray := prog_14_method_33_code
def yX12_mayBe : MethodName := ⟨RX12, "mayBe", "()J"⟩
abbrev cX12_leftBy : ByteArray := prog_14_method_34_code
def yX12_leftBy : MethodName := ⟨RX12, "leftBy", "(I)J"⟩
abbrev cX12_left : ByteArray := prog_14_method_35_code
def yX12_left : MethodName := ⟨RX12, "left", "()J"⟩
abbrev cX12_worlds : ByteArray := prog_14_method_36_code
def yX12_worlds : MethodName := ⟨RX12, "worlds", "(I)J"⟩
abbrev cX12_many : ByteArray := prog_14_method_37_code
def yX12_many : MethodName := ⟨RX12, "many", "(I)I"⟩
abbrev cX12_facts : ByteArray := prog_14_method_38_code
def yX12_facts : MethodName := ⟨RX12, "facts", "(JI)I"⟩
abbrev cX12_proved : ByteArray := prog_14_method_39_code
def yX12_proved : MethodName := ⟨RX12, "proved", "(I)I"⟩
abbrev cX12_slips : ByteArray := prog_14_method_40_code
def yX12_slips : MethodName := ⟨RX12, "slips", "(I)I"⟩
abbrev cX12_alone : ByteArray := prog_14_method_41_code
def yX12_alone : MethodName := ⟨RX12, "alone", "(I)I"⟩
abbrev cX12_clash : ByteArray := prog_14_method_42_code
def yX12_clash : MethodName := ⟨RX12, "clash", "()I"⟩
abbrev cX12_isBetter : ByteArray := prog_14_method_43_code
def yX12_isBetter : MethodName := ⟨RX12, "isBetter", "(II)Z"⟩
abbrev cX12_proof : ByteArray := prog_14_method_44_code
def yX12_proof : MethodName := ⟨RX12, "proof", "(I)I"⟩
abbrev cX12_slipped : ByteArray := prog_14_method_45_code
def yX12_slipped : MethodName := ⟨RX12, "slipped", "()I"⟩
abbrev cX12_ask : ByteArray := prog_14_method_46_code
def yX12_ask : MethodName := ⟨RX12, "ask", "()I"⟩
abbrev cX12_saidBy : ByteArray := prog_14_method_47_code
def yX12_saidBy : MethodName := ⟨RX12, "saidBy", "(I)I"⟩
abbrev cX12_isPlain : ByteArray := prog_14_method_48_code
def yX12_isPlain : MethodName := ⟨RX12, "isPlain", "(I)Z"⟩
abbrev cX12_plain : ByteArray := prog_14_method_49_code
def yX12_plain : MethodName := ⟨RX12, "plain", "()I"⟩
abbrev cX12_order : ByteArray := prog_14_method_50_code
def yX12_order : MethodName := ⟨RX12, "order", "(I)I"⟩
abbrev cX12_without : ByteArray := prog_14_method_51_code
def yX12_without : MethodName := ⟨RX12, "without", "(I)I"⟩
abbrev cX12_isLie : ByteArray := prog_14_method_52_code
def yX12_isLie : MethodName := ⟨RX12, "isLie", "(II)Z"⟩
abbrev cX12_plainSaying : ByteArray := prog_14_method_53_code
def yX12_plainSaying : MethodName := ⟨RX12, "plainSaying", "(I)I"⟩
abbrev cX12_lie : ByteArray := prog_14_method_54_code
def yX12_lie : MethodName := ⟨RX12, "lie", "(II)I"⟩
abbrev cX12_twoLies : ByteArray := prog_14_method_55_code
def yX12_twoLies : MethodName := ⟨RX12, "twoLies", "(II)I"⟩
abbrev cX12_tells : ByteArray := prog_14_method_56_code
def yX12_tells : MethodName := ⟨RX12, "tells", "(III)I"⟩
abbrev cX12_verdict : ByteArray := prog_14_method_57_code
def yX12_verdict : MethodName := ⟨RX12, "verdict", "()I"⟩
abbrev cX12_like : ByteArray := prog_14_method_58_code
def yX12_like : MethodName := ⟨RX12, "like", "(JII)J"⟩
abbrev cX12_alike : ByteArray := prog_14_method_59_code
def yX12_alike : MethodName := ⟨RX12, "alike", "(J)I"⟩
abbrev cX12_certain : ByteArray := prog_14_method_60_code
def yX12_certain : MethodName := ⟨RX12, "certain", "(I)I"⟩
abbrev cX12_knowsOf : ByteArray := prog_14_method_61_code
def yX12_knowsOf : MethodName := ⟨RX12, "knowsOf", "(II)I"⟩
abbrev cX12_allKnow : ByteArray := prog_14_method_62_code
def yX12_allKnow : MethodName := ⟨RX12, "allKnow", "(I)I"⟩
abbrev cX12_part : ByteArray := prog_14_method_63_code
def yX12_part : MethodName := ⟨RX12, "part", "(I)J"⟩
abbrev cX12_pencils : ByteArray := prog_14_method_64_code
def yX12_pencils : MethodName := ⟨RX12, "pencils", "(III)J"⟩
abbrev cX12_leastOf : ByteArray := prog_14_method_65_code
def yX12_leastOf : MethodName := ⟨RX12, "leastOf", "(I)I"⟩
abbrev cX12_noRow : ByteArray := prog_14_method_66_code
def yX12_noRow : MethodName := ⟨RX12, "noRow", "(I)I"⟩
abbrev cX12_fits : ByteArray := prog_14_method_67_code
def yX12_fits : MethodName := ⟨RX12, "fits", "(I)J"⟩
abbrev cX12_judge : ByteArray := prog_14_method_68_code
def yX12_judge : MethodName := ⟨RX12, "judge", "(I)I"⟩
abbrev cX12_seeds : ByteArray := prog_14_method_69_code
def yX12_seeds : MethodName := ⟨RX12, "seeds", "(III)I"⟩
abbrev cX12_keep : ByteArray := prog_14_method_70_code
def yX12_keep : MethodName := ⟨RX12, "keep", "([I)V"⟩
abbrev cX12_again : ByteArray := prog_14_method_71_code
def yX12_again : MethodName := ⟨RX12, "again", "([I)V"⟩
abbrev cX12_image : ByteArray := prog_14_method_72_code
def yX12_image : MethodName := ⟨RX12, "image", "()I"⟩
abbrev cX12_restore : ByteArray := prog_14_method_73_code
def yX12_restore : MethodName := ⟨RX12, "restore", "()I"⟩
abbrev cX12_count : ByteArray := prog_14_method_74_code
def yX12_count : MethodName := ⟨RX12, "count", "(I)I"⟩
abbrev cX12_keep_ : ByteArray := prog_14_method_75_code
def yX12_keep_ : MethodName := ⟨RX12, "keep", "(IIII)I"⟩
abbrev cX12_row : ByteArray := prog_14_method_76_code
def yX12_row : MethodName := ⟨RX12, "row", "(III)I"⟩
abbrev cX12_put : ByteArray := prog_14_method_77_code
def yX12_put : MethodName := ⟨RX12, "put", "(III)I"⟩
abbrev cX12_thrown : ByteArray := prog_14_method_78_code
def yX12_thrown : MethodName := ⟨RX12, "thrown", "()I"⟩
abbrev cX12_element : ByteArray := prog_14_method_79_code
def yX12_element : MethodName := ⟨RX12, "element", "(II)J"⟩
abbrev cX12_copy : ByteArray := prog_14_method_80_code
def yX12_copy : MethodName := ⟨RX12, "copy", "(IIIII)I"⟩
abbrev cX12_costOf : ByteArray := prog_14_method_81_code
def yX12_costOf : MethodName := ⟨RX12, "costOf", "(I)I"⟩
abbrev cX12_cost : ByteArray := prog_14_method_82_code
def yX12_cost : MethodName := ⟨RX12, "cost", "(I)I"⟩
abbrev cX12_toss : ByteArray := prog_14_method_83_code
def yX12_toss : MethodName := ⟨RX12, "toss", "(I)I"⟩
def RJx145de : String := "java/io/Serializable"
def TJx145de : u_T := fun k => match k with
  | _ => ("", "", "", false)
def tyJx145de : Nat → FieldType := fun k => match k with
  | _ => .int
abbrev wsJx145de0 : List Cond := u_ws RJx145de TJx145de 0
theorem nmJx145de : ∀ a, a < 0 → ∀ b, b < 0 → a ≠ b → (TJx145de a).2.1 ≠ (TJx145de b).2.1 := by decide +kernel
theorem tyJx145de_ok : ∀ k, k < 0 → parseFieldDescriptor (TJx145de k).2.2.1 = some (tyJx145de k) := by decide +kernel
def RJx8e188 : String := "java/lang/Cloneable"
def TJx8e188 : u_T := fun k => match k with
  | _ => ("", "", "", false)
def tyJx8e188 : Nat → FieldType := fun k => match k with
  | _ => .int
abbrev wsJx8e1880 : List Cond := u_ws RJx8e188 TJx8e188 0
theorem nmJx8e188 : ∀ a, a < 0 → ∀ b, b < 0 → a ≠ b → (TJx8e188 a).2.1 ≠ (TJx8e188 b).2.1 := by decide +kernel
theorem tyJx8e188_ok : ∀ k, k < 0 → parseFieldDescriptor (TJx8e188 k).2.2.1 = some (tyJx8e188 k) := by decide +kernel
def RJ6 : String := "java/lang/Integer"
def TJ6 : u_T := fun k => match k with
  | _ => ("", "", "", false)
def tyJ6 : Nat → FieldType := fun k => match k with
  | _ => .int
abbrev wsJ60 : List Cond := u_ws RJ6 TJ6 0
theorem nmJ6 : ∀ a, a < 0 → ∀ b, b < 0 → a ≠ b → (TJ6 a).2.1 ≠ (TJ6 b).2.1 := by decide +kernel
theorem tyJ6_ok : ∀ k, k < 0 → parseFieldDescriptor (TJ6 k).2.2.1 = some (tyJ6 k) := by decide +kernel
abbrev cJ6_numberOfTrailingZeros_0f7a4 : ByteArray := prog_20_method_48_code
def yJ6_numberOfTrailingZeros_0f7a4 : MethodName := ⟨RJ6, "numberOfTrailingZeros", "(I)I"⟩
abbrev cJ6_bitCount_0f7a4 : ByteArray := prog_20_method_49_code
def yJ6_bitCount_0f7a4 : MethodName := ⟨RJ6, "bitCount", "(I)I"⟩
def RJxab1ab : String := "java/lang/Iterable"
def TJxab1ab : u_T := fun k => match k with
  | _ => ("", "", "", false)
def tyJxab1ab : Nat → FieldType := fun k => match k with
  | _ => .int
abbrev wsJxab1ab0 : List Cond := u_ws RJxab1ab TJxab1ab 0
theorem nmJxab1ab : ∀ a, a < 0 → ∀ b, b < 0 → a ≠ b → (TJxab1ab a).2.1 ≠ (TJxab1ab b).2.1 := by decide +kernel
theorem tyJxab1ab_ok : ∀ k, k < 0 → parseFieldDescriptor (TJxab1ab k).2.2.1 = some (tyJxab1ab k) := by decide +kernel
def RJ13 : String := "java/lang/Long"
def TJ13 : u_T := fun k => match k with
  | _ => ("", "", "", false)
def tyJ13 : Nat → FieldType := fun k => match k with
  | _ => .int
abbrev wsJ130 : List Cond := u_ws RJ13 TJ13 0
theorem nmJ13 : ∀ a, a < 0 → ∀ b, b < 0 → a ≠ b → (TJ13 a).2.1 ≠ (TJ13 b).2.1 := by decide +kernel
theorem tyJ13_ok : ∀ k, k < 0 → parseFieldDescriptor (TJ13 k).2.2.1 = some (tyJ13 k) := by decide +kernel
abbrev cJ13_bitCount_95d88 : ByteArray := prog_22_method_50_code
def yJ13_bitCount_95d88 : MethodName := ⟨RJ13, "bitCount", "(J)I"⟩
def RJ9 : String := "java/lang/Math"
def TJ9 : u_T := fun k => match k with
  | _ => ("", "", "", false)
def tyJ9 : Nat → FieldType := fun k => match k with
  | _ => .int
abbrev wsJ90 : List Cond := u_ws RJ9 TJ9 0
theorem nmJ9 : ∀ a, a < 0 → ∀ b, b < 0 → a ≠ b → (TJ9 a).2.1 ≠ (TJ9 b).2.1 := by decide +kernel
theorem tyJ9_ok : ∀ k, k < 0 → parseFieldDescriptor (TJ9 k).2.2.1 = some (tyJ9 k) := by decide +kernel
abbrev cJ9_max_7cf53 : ByteArray := prog_23_method_65_code
def yJ9_max_7cf53 : MethodName := ⟨RJ9, "max", "(II)I"⟩
abbrev cJ9_min_7cf53 : ByteArray := prog_23_method_69_code
def yJ9_min_7cf53 : MethodName := ⟨RJ9, "min", "(II)I"⟩
def RJ0 : String := "java/lang/String"
def TJ0 : u_T := fun k => match k with
  | _ => ("", "", "", false)
def tyJ0 : Nat → FieldType := fun k => match k with
  | _ => .int
abbrev wsJ00 : List Cond := u_ws RJ0 TJ0 0
theorem nmJ0 : ∀ a, a < 0 → ∀ b, b < 0 → a ≠ b → (TJ0 a).2.1 ≠ (TJ0 b).2.1 := by decide +kernel
theorem tyJ0_ok : ∀ k, k < 0 → parseFieldDescriptor (TJ0 k).2.2.1 = some (tyJ0 k) := by decide +kernel
def RJ10 : String := "java/lang/System"
def TJ10 : u_T := fun k => match k with
  | _ => ("", "", "", false)
def tyJ10 : Nat → FieldType := fun k => match k with
  | _ => .int
abbrev wsJ100 : List Cond := u_ws RJ10 TJ10 0
theorem nmJ10 : ∀ a, a < 0 → ∀ b, b < 0 → a ≠ b → (TJ10 a).2.1 ≠ (TJ10 b).2.1 := by decide +kernel
theorem tyJ10_ok : ∀ k, k < 0 → parseFieldDescriptor (TJ10 k).2.2.1 = some (tyJ10 k) := by decide +kernel
def RJxa1e45 : String := "java/util/AbstractCollection"
def TJxa1e45 : u_T := fun k => match k with
  | _ => ("", "", "", false)
def tyJxa1e45 : Nat → FieldType := fun k => match k with
  | _ => .int
abbrev wsJxa1e450 : List Cond := u_ws RJxa1e45 TJxa1e45 0
theorem nmJxa1e45 : ∀ a, a < 0 → ∀ b, b < 0 → a ≠ b → (TJxa1e45 a).2.1 ≠ (TJxa1e45 b).2.1 := by decide +kernel
theorem tyJxa1e45_ok : ∀ k, k < 0 → parseFieldDescriptor (TJxa1e45 k).2.2.1 = some (tyJxa1e45 k) := by decide +kernel
abbrev cJxa1e45_init_da8c8 : ByteArray := prog_28_method_1_code
def yJxa1e45_init_da8c8 : MethodName := ⟨RJxa1e45, "<init>", "()V"⟩
def RJxc12de : String := "java/util/AbstractList"
def TJxc12de : u_T := fun k => match k with
  | _ => ("", "", "", false)
def tyJxc12de : Nat → FieldType := fun k => match k with
  | _ => .int
abbrev wsJxc12de0 : List Cond := u_ws RJxc12de TJxc12de 0
theorem nmJxc12de : ∀ a, a < 0 → ∀ b, b < 0 → a ≠ b → (TJxc12de a).2.1 ≠ (TJxc12de b).2.1 := by decide +kernel
theorem tyJxc12de_ok : ∀ k, k < 0 → parseFieldDescriptor (TJxc12de k).2.2.1 = some (tyJxc12de k) := by decide +kernel
abbrev cJxc12de_init_da8c8 : ByteArray := prog_29_method_1_code
def yJxc12de_init_da8c8 : MethodName := ⟨RJxc12de, "<init>", "()V"⟩
def RJx4a65c : String := "java/util/ArrayList"
def TJx4a65c : u_T := fun k => match k with
  | 0 => ("java/util/AbstractList", "modCount", "I", false)
  | 1 => ("java/util/ArrayList", "elementData", "[Ljava/lang/Object;", false)
  | _ => ("java/util/ArrayList", "size", "I", false)
def tyJx4a65c : Nat → FieldType := fun k => match k with
  | 0 => .int
  | 1 => .array (.object "java/lang/Object")
  | _ => .int
abbrev wsJx4a65c0 : List Cond := u_ws RJx4a65c TJx4a65c 3
theorem nmJx4a65c : ∀ a, a < 3 → ∀ b, b < 3 → a ≠ b → (TJx4a65c a).2.1 ≠ (TJx4a65c b).2.1 := by decide +kernel
theorem tyJx4a65c_ok : ∀ k, k < 3 → parseFieldDescriptor (TJx4a65c k).2.2.1 = some (tyJx4a65c k) := by decide +kernel
abbrev cJx4a65c_init_da8c8 : ByteArray := prog_30_method_2_code
def yJx4a65c_init_da8c8 : MethodName := ⟨RJx4a65c, "<init>", "()V"⟩
abbrev cJx4a65c_grow_92f84 : ByteArray := prog_30_method_6_code
def yJx4a65c_grow_92f84 : MethodName := ⟨RJx4a65c, "grow", "(I)[Ljava/lang/Object;"⟩
abbrev cJx4a65c_grow_d5877 : ByteArray := prog_30_method_7_code
def yJx4a65c_grow_d5877 : MethodName := ⟨RJx4a65c, "grow", "()[Ljava/lang/Object;"⟩
abbrev cJx4a65c_size_8abf5 : ByteArray := prog_30_method_8_code
def yJx4a65c_size_8abf5 : MethodName := ⟨RJx4a65c, "size", "()I"⟩
abbrev cJx4a65c_elementData_915e3 : ByteArray := prog_30_method_18_code
def yJx4a65c_elementData_915e3 : MethodName := ⟨RJx4a65c, "elementData", "(I)Ljava/lang/Object;"⟩
abbrev cJx4a65c_get_915e3 : ByteArray := prog_30_method_20_code
def yJx4a65c_get_915e3 : MethodName := ⟨RJx4a65c, "get", "(I)Ljava/lang/Object;"⟩
abbrev cJx4a65c_add_72be8 : ByteArray := prog_30_method_24_code
def yJx4a65c_add_72be8 : MethodName := ⟨RJx4a65c, "add", "(Ljava/lang/Object;[Ljava/lang/Object;I)V"⟩
abbrev cJx4a65c_add_9ea2d : ByteArray := prog_30_method_25_code
def yJx4a65c_add_9ea2d : MethodName := ⟨RJx4a65c, "add", "(Ljava/lang/Object;)Z"⟩
abbrev cJx4a65c_remove_915e3 : ByteArray := prog_30_method_29_code
def yJx4a65c_remove_915e3 : MethodName := ⟨RJx4a65c, "remove", "(I)Ljava/lang/Object;"⟩
abbrev cJx4a65c_fastRemove_b59b0 : ByteArray := prog_30_method_39_code
def yJx4a65c_fastRemove_b59b0 : MethodName := ⟨RJx4a65c, "fastRemove", "([Ljava/lang/Object;I)V"⟩
abbrev cJx4a65c_clear_da8c8 : ByteArray := prog_30_method_40_code
def yJx4a65c_clear_da8c8 : MethodName := ⟨RJx4a65c, "clear", "()V"⟩
def RJ7 : String := "java/util/Arrays"
def TJ7 : u_T := fun k => match k with
  | _ => ("", "", "", false)
def tyJ7 : Nat → FieldType := fun k => match k with
  | _ => .int
abbrev wsJ70 : List Cond := u_ws RJ7 TJ7 0
theorem nmJ7 : ∀ a, a < 0 → ∀ b, b < 0 → a ≠ b → (TJ7 a).2.1 ≠ (TJ7 b).2.1 := by decide +kernel
theorem tyJ7_ok : ∀ k, k < 0 → parseFieldDescriptor (TJ7 k).2.2.1 = some (tyJ7 k) := by decide +kernel
abbrev cJ7_copyOf_1904c : ByteArray := prog_31_method_119_code
def yJ7_copyOf_1904c : MethodName := ⟨RJ7, "copyOf", "([Ljava/lang/Object;I)[Ljava/lang/Object;"⟩
abbrev cJ7_copyOf_6403c : ByteArray := prog_31_method_120_code
def yJ7_copyOf_6403c : MethodName := ⟨RJ7, "copyOf", "([Ljava/lang/Object;ILjava/lang/Class;)[Ljava/lang/Object;"⟩
def RJx5ef63 : String := "java/util/Collection"
def TJx5ef63 : u_T := fun k => match k with
  | _ => ("", "", "", false)
def tyJx5ef63 : Nat → FieldType := fun k => match k with
  | _ => .int
abbrev wsJx5ef630 : List Cond := u_ws RJx5ef63 TJx5ef63 0
theorem nmJx5ef63 : ∀ a, a < 0 → ∀ b, b < 0 → a ≠ b → (TJx5ef63 a).2.1 ≠ (TJx5ef63 b).2.1 := by decide +kernel
theorem tyJx5ef63_ok : ∀ k, k < 0 → parseFieldDescriptor (TJx5ef63 k).2.2.1 = some (tyJx5ef63 k) := by decide +kernel
def RJxbd725 : String := "java/util/List"
def TJxbd725 : u_T := fun k => match k with
  | _ => ("", "", "", false)
def tyJxbd725 : Nat → FieldType := fun k => match k with
  | _ => .int
abbrev wsJxbd7250 : List Cond := u_ws RJxbd725 TJxbd725 0
theorem nmJxbd725 : ∀ a, a < 0 → ∀ b, b < 0 → a ≠ b → (TJxbd725 a).2.1 ≠ (TJxbd725 b).2.1 := by decide +kernel
theorem tyJxbd725_ok : ∀ k, k < 0 → parseFieldDescriptor (TJxbd725 k).2.2.1 = some (tyJxbd725 k) := by decide +kernel
def RJ15 : String := "java/util/Objects"
def TJ15 : u_T := fun k => match k with
  | _ => ("", "", "", false)
def tyJ15 : Nat → FieldType := fun k => match k with
  | _ => .int
abbrev wsJ150 : List Cond := u_ws RJ15 TJ15 0
theorem nmJ15 : ∀ a, a < 0 → ∀ b, b < 0 → a ≠ b → (TJ15 a).2.1 ≠ (TJ15 b).2.1 := by decide +kernel
theorem tyJ15_ok : ∀ k, k < 0 → parseFieldDescriptor (TJ15 k).2.2.1 = some (tyJ15 k) := by decide +kernel
abbrev cJ15_checkIndex_7cf53 : ByteArray := prog_34_method_17_code
def yJ15_checkIndex_7cf53 : MethodName := ⟨RJ15, "checkIndex", "(II)I"⟩
def RJxf0a74 : String := "java/util/RandomAccess"
def TJxf0a74 : u_T := fun k => match k with
  | _ => ("", "", "", false)
def tyJxf0a74 : Nat → FieldType := fun k => match k with
  | _ => .int
abbrev wsJxf0a740 : List Cond := u_ws RJxf0a74 TJxf0a74 0
theorem nmJxf0a74 : ∀ a, a < 0 → ∀ b, b < 0 → a ≠ b → (TJxf0a74 a).2.1 ≠ (TJxf0a74 b).2.1 := by decide +kernel
theorem tyJxf0a74_ok : ∀ k, k < 0 → parseFieldDescriptor (TJxf0a74 k).2.2.1 = some (tyJxf0a74 k) := by decide +kernel
def RJxa66e6 : String := "java/util/SequencedCollection"
def TJxa66e6 : u_T := fun k => match k with
  | _ => ("", "", "", false)
def tyJxa66e6 : Nat → FieldType := fun k => match k with
  | _ => .int
abbrev wsJxa66e60 : List Cond := u_ws RJxa66e6 TJxa66e6 0
theorem nmJxa66e6 : ∀ a, a < 0 → ∀ b, b < 0 → a ≠ b → (TJxa66e6 a).2.1 ≠ (TJxa66e6 b).2.1 := by decide +kernel
theorem tyJxa66e6_ok : ∀ k, k < 0 → parseFieldDescriptor (TJxa66e6 k).2.2.1 = some (tyJxa66e6 k) := by decide +kernel
def RJ8 : String := "jdk/internal/util/ArraysSupport"
def TJ8 : u_T := fun k => match k with
  | _ => ("", "", "", false)
def tyJ8 : Nat → FieldType := fun k => match k with
  | _ => .int
abbrev wsJ80 : List Cond := u_ws RJ8 TJ8 0
theorem nmJ8 : ∀ a, a < 0 → ∀ b, b < 0 → a ≠ b → (TJ8 a).2.1 ≠ (TJ8 b).2.1 := by decide +kernel
theorem tyJ8_ok : ∀ k, k < 0 → parseFieldDescriptor (TJ8 k).2.2.1 = some (tyJ8 k) := by decide +kernel
abbrev cJ8_newLength_cabcc : ByteArray := prog_37_method_27_code
def yJ8_newLength_cabcc : MethodName := ⟨RJ8, "newLength", "(III)I"⟩
abbrev cJ8_hugeLength_7cf53 : ByteArray := prog_37_method_28_code
def yJ8_hugeLength_7cf53 : MethodName := ⟨RJ8, "hugeLength", "(II)I"⟩
def RJ3 : String := "jdk/internal/util/Preconditions"
def TJ3 : u_T := fun k => match k with
  | _ => ("", "", "", false)
def tyJ3 : Nat → FieldType := fun k => match k with
  | _ => .int
abbrev wsJ30 : List Cond := u_ws RJ3 TJ3 0
theorem nmJ3 : ∀ a, a < 0 → ∀ b, b < 0 → a ≠ b → (TJ3 a).2.1 ≠ (TJ3 b).2.1 := by decide +kernel
theorem tyJ3_ok : ∀ k, k < 0 → parseFieldDescriptor (TJ3 k).2.2.1 = some (tyJ3 k) := by decide +kernel
abbrev cJ3_checkIndex_8e157 : ByteArray := prog_38_method_11_code
def yJ3_checkIndex_8e157 : MethodName := ⟨RJ3, "checkIndex", "(IILjava/util/function/BiFunction;)I"⟩
def RL : String := "WitnessesMustLieLaw"
abbrev cL_element : ByteArray := method_3_code
def yL_element : MethodName := ⟨RL, "element", "(LWitnessesMustLie;II[J)I"⟩
abbrev cL_law : ByteArray := code
def yL_law : MethodName := ⟨RL, "law", "([I)Z"⟩
end
section
/-! An abstract machine over a heap that is a list: place k of the list stands for the cell at base + k. A static array of before is named by a float (a stand-in: the system has none). -/
abbrev ab_E : Type := (Nat × vp_A) ⊕ (Nat × List Value)
/-- the ground: classes and slots, the base, the addresses of static arrays, array classes, the state at the law's entry, the launch -/
abbrev ab_G : Type := va_G × Nat × (Nat → Nat) × (Nat → ClassId) × State × Launch
/-- a method: name, bytes, locals, what it returns; the frames and words of locals that its calls need -/
abbrev ab_M : Type := MethodName × ByteArray × Nat × Option FieldType × Nat × Nat
abbrev ab_X : Type := Program × Env × Room × State × MethodId × Array Value × List Frame × Method × Code × (State → Prop) × List ab_E
def ab_cls : List vw_C := [(RJx4a65c, TJx4a65c, 3), (RX0, TX0, 1), (RX1, TX1, 1), (RX2, TX2, 1), (RX3, TX3, 1), (RX4, TX4, 1), (RX5, TX5, 1), (RX6, TX6, 1), (RX7, TX7, 6), (RX8, TX8, 1), (RX9, TX9, 6), (RX10, TX10, 5), (RX11, TX11, 8), (RX12, TX12, 22), ("java/lang/IllegalStateException", TX0, 0), ("java/lang/IllegalArgumentException", TX0, 0)]
def ab_tyof : List FieldType := [.int, .long, .object "java/lang/Object", .object "WitnessesMustLie$Shelf"]
def ab_Tg : List Cond := lw_tbl.filter goodWord
/-- words that aren't kept as the others are: they stay as the tables warm -/
def ab_isN : Cond → Bool
  | .fieldLinkNest .. => true
  | .methodLinkNest .. => true
  | .castable .. => true
  | .arrayOver (.object _) => true
  | _ => false
def ab_Tn : List Cond := lw_tbl.filter ab_isN
theorem ab_nest_warm {w : Cond} (hw : ab_isN w = true) {s U : State} (hW : s.WarmedH U.vm) (h : va_Nw w s) : va_Nw w U := by
  cases w with
  | fieldLinkNest => exact va_Nw.warmF hW h
  | methodLinkNest => exact va_Nw.warmM hW h
  | castable => exact va_Nw.warmC hW h
  | arrayOver ty =>
    cases ty with
    | object C => exact va_AO.moved hW.alike h
    | _ => cases hw
  | _ => cases hw
def ab_ren (G : ab_G) : Value → Value
  | .ref k => .ref (G.2.1 + k)
  | .float j => .ref (G.2.2.1 j.toNat)
  | v => v
def ab_renA (G : ab_G) (a : vp_A) : vp_A := match a with
  | (n, .inr (.inr (.inr (.inr f)))) => (n, .inr (.inr (.inr (.inr (fun j => (f j).map (G.2.1 + ·))))))
  | x => x
def ab_renE (G : ab_G) : ab_E → va_E
  | .inl (t, a) => .inl (G.2.2.2.1 t, ab_renA G a)
  | .inr (c, fs) => .inr (c, fs.map (ab_ren G))
def ab_wld (G : ab_G) (h : List ab_E) : va_W := h.mapIdx (fun k c => (G.2.1 + k, ab_renE G c))
/-- how many slots a cell has -/
def ab_szE : ab_E → Nat
  | .inl (_, n, _) => n
  | .inr (c, _) => match ab_cls[c]? with
    | some r => r.2.2
    | none => 0
def ab_sz (h : List ab_E) : Nat := (h.map ab_szE).sum
def ab_A (G : ab_G) : Nat → Prop := fun q => G.2.1 ≤ q
/-- the heap stands for the list; what was before stays -/
def ab_RH (G : ab_G) (h : List ab_E) (H : Heap) : Prop := va_P G.1 ab_cls (ab_wld G h) H ∧ H.size = G.2.1 + h.length ∧ ∀ q : Nat, q < G.2.1 → H[q]? = G.2.2.2.2.1.heap[q]?
def ab_RU (G : ab_G) (h : List ab_E) (U : State) : Prop := ab_RH G h U.heap ∧ G.2.2.2.2.1.WarmedH U.vm
def ab_tys (G : ab_G) : List (ClassId × FieldType) := [(G.2.2.2.1 0, .int), (G.2.2.2.1 1, .long), (G.2.2.2.1 2, .object "java/lang/Object"), (G.2.2.2.1 3, .object "WitnessesMustLie$Shelf")]
/-- what the Statement gives of a static that holds an array -/
def ab_St (G : ab_G) (C n d : String) (j : Nat) : Prop := va_Z C n d (.ref (G.2.2.1 j)) (ab_A G) G.2.2.2.2.1 G.2.2.2.2.1.heap ∧ G.2.2.1 j < G.2.1
def ab_wv (j : Nat) : Int64 := match j with
  | 0 => -6148914691236517206
  | 1 => -3689348814741910324
  | 2 => -1085102592571150096
  | 3 => -71777214294589696
  | 4 => -281470681808896
  | _ => -4294967296
def ab_GG (G : ab_G) : Prop := va_K G.1 ab_cls (ab_tys G) G.2.2.2.2.1 ∧ G.2.2.2.2.1.heap.size = G.2.1 ∧
  ab_St G "java/util/ArrayList" "DEFAULTCAPACITY_EMPTY_ELEMENTDATA" "[Ljava/lang/Object;" 0 ∧
  (∃ cell : Cell, G.2.2.2.2.1.heap[G.2.2.1 0]? = some cell ∧ G.2.2.2.2.1.isArrayOf cell (.object "java/lang/Object") ∧ cell.slots.size.toInt32 = 0) ∧
  ab_St G "WitnessesMustLie" "WORLDS_WITH" "[J" 2 ∧
  va_T .long (G.2.2.1 2) 6 (fun j => .long (ab_wv j)) (ab_A G) G.2.2.2.2.1 G.2.2.2.2.1.heap ∧ ∀ w ∈ ab_Tn, va_Nw w G.2.2.2.2.1
def ab_Good (G : ab_G) (M : ab_M) (X : ab_X) : Prop := match X with
  | (p, e, R, s, m, args, below, meth, c, Q, h0) => p.tables.exec = Jvm.exec ∧ c.code = M.2.1 ∧ c.maxLocals = M.2.2.1 ∧ meth.sig.returnType = M.2.2.2.1 ∧ meth.locks = false ∧ s.vm.findClass M.1.cls = some m.cls ∧
    (∀ w ∈ ab_Tg, w.before args s = true) ∧ G.2.2.2.2.1.WarmedH s.vm ∧ s.heap.size = G.2.1 + h0.length ∧ (∀ q : Nat, q < G.2.1 → s.heap[q]? = G.2.2.2.2.1.heap[q]?) ∧ meth.name = M.1.name ∧ R.frames = M.2.2.2.2.1 ∧ R.locals = M.2.2.2.2.2 ∧ ab_GG G
def ab_ll (G : ab_G) (l : List (Nat × Value)) : List (Nat × Value) := l.map (fun q => (q.1, ab_ren G q.2))
/-- from here on it comes to the end that X names -/
def ab_WA (G : ab_G) (M : ab_M) (X : ab_X) (pc : Nat) (l : List (Nat × Value)) (st : List Value) (h : List ab_E) : Prop := match X with
  | (p, e, R, s, m, args, below, meth, c, Q, h0) => h.length ≤ h0.length + R.cells ∧ ab_sz h ≤ ab_sz h0 + R.slots ∧
    ∀ (ls : Array Slot) (H : Heap) (locs : List Loc), h0.length ≤ h.length → ab_sz h0 ≤ ab_sz h → lv_has ls M.2.2.1 (ab_ll G l) → ab_RH G h H → va_S (ab_A G) s.heap H locs →
      W p G.2.2.2.2.2 e R s m args below meth c H locs (h.length - h0.length) (ab_sz h - ab_sz h0) Q (F0 m pc ls (st.map (ab_ren G)))
def ab_Qc (G : ab_G) (r : Option Value) (h1 : List ab_E) : Array Value → State → Outcome → State → Prop := fun _ st oc t => oc = .returned (r.map (ab_ren G)) ∧ ab_RU G h1 t ∧ va_F (ab_A G) st t
def ab_ws (M : ab_M) : List Cond := .code M.1 M.2.1 M.2.2.1 M.2.2.2.1 :: ab_Tg
def ab_room (M : ab_M) (h h1 : List ab_E) : Room := { frames := M.2.2.2.2.1, cells := h1.length - h.length, slots := ab_sz h1 - ab_sz h, locals := M.2.2.2.2.2 }
/-- the contract: from arguments and a heap to an answer and a heap -/
def ab_CM (G : ab_G) (M : ab_M) (av : List Value) (h : List ab_E) (r : Option Value) (h1 : List ab_E) : Prop :=
  h.length ≤ h1.length ∧ ab_sz h ≤ ab_sz h1 ∧ Met G.2.2.2.2.2 M.1 (ab_ws M) (ab_room M h h1) (va_Pc (av.map (ab_ren G)) (ab_RU G h)) (ab_Qc G r h1) (h1.length - h.length) (ab_sz h1 - ab_sz h) (ab_A G)
/-- the end that a contract wants -/
def ab_Fin (G : ab_G) (M : ab_M) (X : ab_X) (r : Option Value) (h h1 : List ab_E) : Prop := match X with
  | (p, e, R, s, m, args, below, meth, c, Q, h0) => h0 = h ∧ h.length ≤ h1.length ∧ ab_sz h ≤ ab_sz h1 ∧ R = ab_room M h h1 ∧ Q = MQ below (ab_Qc G r h1) args s (h1.length - h.length) (ab_sz h1 - ab_sz h) (ab_A G)
theorem ab_nw {G : ab_G} (hG : ab_GG G) {s : State} (hal : G.2.2.2.2.1.WarmedH s.vm) {w : Cond} (hw : w ∈ ab_Tn) : va_Nw w s := ab_nest_warm (List.mem_filter.mp hw).2 hal (hG.2.2.2.2.2.2 w hw)
-- lemmas on worlds
theorem ab_wld_get {G : ab_G} {h : List ab_E} {k : Nat} {c : ab_E} (hk : h[k]? = some c) : (ab_wld G h)[k]? = some (G.2.1 + k, ab_renE G c) := by
  unfold ab_wld
  rw [List.getElem?_mapIdx, hk]
  rfl
theorem ab_wld_inv {G : ab_G} {h : List ab_E} {k : Nat} {q : Nat × va_E} (hk : (ab_wld G h)[k]? = some q) : ∃ c, h[k]? = some c ∧ q = (G.2.1 + k, ab_renE G c) := by
  unfold ab_wld at hk
  rw [List.getElem?_mapIdx] at hk
  cases hc : h[k]? with
  | none => rw [hc] at hk; cases hk
  | some c => rw [hc] at hk; exact ⟨c, rfl, (Option.some.inj hk).symm⟩
theorem ab_wld_D (G : ab_G) (h : List ab_E) : va_D (ab_A G) (ab_wld G h) := by
  refine ⟨fun i j p q hi hj hpq => ?_, fun k q hk => ?_⟩
  · obtain ⟨c, -, rfl⟩ := ab_wld_inv hi
    obtain ⟨d, -, rfl⟩ := ab_wld_inv hj
    have e : G.2.1 + i = G.2.1 + j := hpq
    omega
  · obtain ⟨c, -, rfl⟩ := ab_wld_inv hk
    exact Nat.le_add_right _ _
theorem ab_wld_set {G : ab_G} {h : List ab_E} {k : Nat} {c : ab_E} : ab_wld G (h.set k c) = (ab_wld G h).set k (G.2.1 + k, ab_renE G c) := by
  apply List.ext_getElem?
  intro i
  unfold ab_wld
  rw [List.getElem?_mapIdx, List.getElem?_set, List.getElem?_set]
  by_cases hik : k = i
  · subst hik
    rw [if_pos rfl, if_pos rfl]
    by_cases hl : k < h.length
    · simp [hl]
    · simp [hl]
  · rw [if_neg hik, if_neg hik, List.getElem?_mapIdx]
theorem ab_wld_app {G : ab_G} {h : List ab_E} {c : ab_E} : ab_wld G (h ++ [c]) = ab_wld G h ++ [(G.2.1 + h.length, ab_renE G c)] := by
  unfold ab_wld
  rw [List.mapIdx_append]
  congr 1
  simp [List.mapIdx_cons]
theorem ab_sz_app (h : List ab_E) (c : ab_E) : ab_sz (h ++ [c]) = ab_sz h + ab_szE c := by
  simp [ab_sz]
theorem ab_sz_set {h : List ab_E} {k : Nat} {c d : ab_E} (hk : h[k]? = some c) (e : ab_szE d = ab_szE c) : ab_sz (h.set k d) = ab_sz h := by
  unfold ab_sz
  induction h generalizing k with
  | nil => rfl
  | cons a t ih =>
    cases k with
    | zero =>
      rw [List.getElem?_cons_zero] at hk
      cases hk
      simp [e]
    | succ k =>
      rw [List.getElem?_cons_succ] at hk
      rw [List.set_cons_succ, List.map_cons, List.map_cons, List.sum_cons, List.sum_cons, ih hk]
theorem ab_ren_cat (G : ab_G) (v : Value) : (ab_ren G v).category = v.category := by cases v <;> rfl
theorem ab_args (G : ab_G) : ∀ (i : Nat) (vs : List Value), lv_args i (vs.map (ab_ren G)) = ab_ll G (lv_args i vs)
  | _, [] => rfl
  | i, v :: vs => by
    show (i, ab_ren G v) :: lv_args (if (ab_ren G v).category = 2 then i + 2 else i + 1) (vs.map (ab_ren G)) = (i, ab_ren G v) :: ab_ll G (lv_args (if v.category = 2 then i + 2 else i + 1) vs)
    rw [ab_ren_cat, ab_args G _ vs]
theorem ab_slen (G : ab_G) (vs : List Value) : (lg_sl (vs.map (ab_ren G))).length = (lg_sl vs).length := by
  unfold lg_sl
  induction vs with
  | nil => rfl
  | cons v t ih =>
    rw [List.map_cons, List.flatMap_cons, List.flatMap_cons, List.length_append, List.length_append, ih, ab_ren_cat]
    by_cases h : v.category = 2
    · rw [if_pos h, if_pos h]; rfl
    · rw [if_neg h, if_neg h]; rfl
/-- storing one word's value -/
def ab_st1 (l : List (Nat × Value)) (i : Nat) (v : Value) : List (Nat × Value) := (i, v) :: l.filter (fun q => !(q.1 == i) && !(q.1 + 1 == i && q.2.category == 2))
def ab_st2 (l : List (Nat × Value)) (i : Nat) (v : Value) : List (Nat × Value) := (i, v) :: l.filter (fun q => !(q.1 == i) && (!(q.1 == i + 1) && !(q.1 + 1 == i && q.2.category == 2)))
theorem ab_ll_filter (G : ab_G) (f : Nat → Nat → Bool) (l : List (Nat × Value)) : (ab_ll G l).filter (fun q => f q.1 q.2.category) = ab_ll G (l.filter (fun q => f q.1 q.2.category)) := by
  unfold ab_ll
  rw [List.filter_map]
  congr 1
  apply List.filter_congr
  intro q _
  show f q.1 (ab_ren G q.2).category = _
  rw [ab_ren_cat]
theorem ab_ll_st1 (G : ab_G) (l : List (Nat × Value)) (i : Nat) (v : Value) : (i, ab_ren G v) :: (ab_ll G l).filter (fun q => !(q.1 == i) && !(q.1 + 1 == i && q.2.category == 2)) = ab_ll G (ab_st1 l i v) :=
  congrArg (List.cons (i, ab_ren G v)) (ab_ll_filter G (fun a b => !(a == i) && !(a + 1 == i && b == 2)) l)
theorem ab_ll_st2 (G : ab_G) (l : List (Nat × Value)) (i : Nat) (v : Value) : (i, ab_ren G v) :: (ab_ll G l).filter (fun q => !(q.1 == i) && (!(q.1 == i + 1) && !(q.1 + 1 == i && q.2.category == 2))) = ab_ll G (ab_st2 l i v) :=
  congrArg (List.cons (i, ab_ren G v)) (ab_ll_filter G (fun a b => !(a == i) && (!(a == i + 1) && !(a + 1 == i && b == 2))) l)
theorem ab_lat {G : ab_G} {ls : Array Slot} {n : Nat} {l : List (Nat × Value)} (h : lv_has ls n (ab_ll G l)) {i : Nat} {v : Value} (hm : (i, v) ∈ l) : ls[i]? = some (.val (ab_ren G v)) :=
  h.2.2 (i, ab_ren G v) (List.mem_map.mpr ⟨(i, v), hm, rfl⟩)
/-- a contract by its walk -/
theorem ab_meth {G : ab_G} {M : ab_M} {av : List Value} {h h1 : List ab_E} {r : Option Value} {l0 : List (Nat × Value)} (hG : ab_GG G) (hy : plainName M.1.cls = true) (hl0 : lv_args 0 av = l0) (hn : (lg_sl av).length ≤ M.2.2.1) (hle : h.length ≤ h1.length) (hsz : ab_sz h ≤ ab_sz h1)
    (k : ∀ X, ab_Good G M X → ab_Fin G M X r h h1 → ab_WA G M X 0 l0 [] h) : ab_CM G M av h r h1 := by
  refine ⟨hle, hsz, Met.ofW (cc := M.2.1) (maxL := M.2.2.1) (ret := M.2.2.2.1) hy rfl ?_⟩
  intro p e s m args below meth c s₁ B hml hv
  obtain ⟨rfl, hRH, hAl⟩ := hv
  have hts : ∀ w ∈ ab_ws M, w.before _ s = true := atoms_spec (ws := ab_ws M) B.pre
  have hown : s.vm.findClass M.1.cls = some m.cls := findClass_of_methodNamed B.named
  have kk := k (p, e, ab_room M h h1, s, m, (av.map (ab_ren G)).toArray, below, meth, c, MQ below (ab_Qc G r h1) (av.map (ab_ren G)).toArray s (h1.length - h.length) (ab_sz h1 - ab_sz h) (ab_A G), h)
    ⟨B.exec, B.bytes, hml, B.returns, B.notSynchronized, hown, fun w hw => hts w (List.mem_cons_of_mem _ hw), hAl, hRH.2.1, hRH.2.2, (name_of_methodNamed B.named B.method).1, rfl, rfl, hG⟩ ⟨rfl, hle, hsz, rfl, rfl⟩
  have hl := lv_entry (av.map (ab_ren G)) (n := M.2.2.1) (by rw [ab_slen]; exact hn)
  rw [ab_args, hl0] at hl
  rw [lg_entry_eq]
  have w := kk.2.2 _ s.heap [] (Nat.le_refl _) (Nat.le_refl _) hl hRH va_S.rf
  rw [Nat.sub_self, Nat.sub_self] at w
  exact w
end
section
theorem ab_isref (G : ab_G) {v : Value} (hv : v = .null ∨ (∃ a, v = .ref a) ∨ ∃ x, v = .float x) : ab_ren G v = .null ∨ ∃ a, ab_ren G v = .ref a := by
  rcases hv with rfl | ⟨a, rfl⟩ | ⟨x, rfl⟩
  · exact Or.inl rfl
  · exact Or.inr ⟨_, rfl⟩
  · exact Or.inr ⟨_, rfl⟩
theorem ab_iconst {G : ab_G} {M : ab_M} {X : ab_X} {pc : Nat} {l : List (Nat × Value)} {st : List Value} {h : List ab_E} (hX : ab_Good G M X) {n : Int} {v : Int32} (hm : decode M.2.1 pc = .ok (.iconst n, 1)) (hv : Int32.ofInt n = v) (k : ab_WA G M X (pc + 1) l (.int v :: st) h) : ab_WA G M X pc l st h := by
  obtain ⟨p, e, R, s, m, args, below, meth, c, Q, h0⟩ := X
  obtain ⟨hx, hb, hml, hr, hlk, hown, hts, hal, hsz, hkp, hnm, hrf, hrl, hG⟩ := hX
  refine ⟨k.1, k.2.1, fun ls H locs g1 g2 hl hR hS => ?_⟩
  exact lv_iconst hx hb hm hv (k.2.2 ls H locs g1 g2 hl hR hS)
theorem ab_bipush {G : ab_G} {M : ab_M} {X : ab_X} {pc : Nat} {l : List (Nat × Value)} {st : List Value} {h : List ab_E} (hX : ab_Good G M X) {n : Int} {v : Int32} (hm : decode M.2.1 pc = .ok (.bipush n, 2)) (hv : (Int8.ofInt n).toInt32 = v) (k : ab_WA G M X (pc + 2) l (.int v :: st) h) : ab_WA G M X pc l st h := by
  obtain ⟨p, e, R, s, m, args, below, meth, c, Q, h0⟩ := X
  obtain ⟨hx, hb, hml, hr, hlk, hown, hts, hal, hsz, hkp, hnm, hrf, hrl, hG⟩ := hX
  refine ⟨k.1, k.2.1, fun ls H locs g1 g2 hl hR hS => ?_⟩
  exact lv_bipush hx hb hm hv (k.2.2 ls H locs g1 g2 hl hR hS)
theorem ab_sipush {G : ab_G} {M : ab_M} {X : ab_X} {pc : Nat} {l : List (Nat × Value)} {st : List Value} {h : List ab_E} (hX : ab_Good G M X) {n : Int} {v : Int32} (hm : decode M.2.1 pc = .ok (.sipush n, 3)) (hv : (Int16.ofInt n).toInt32 = v) (k : ab_WA G M X (pc + 3) l (.int v :: st) h) : ab_WA G M X pc l st h := by
  obtain ⟨p, e, R, s, m, args, below, meth, c, Q, h0⟩ := X
  obtain ⟨hx, hb, hml, hr, hlk, hown, hts, hal, hsz, hkp, hnm, hrf, hrl, hG⟩ := hX
  refine ⟨k.1, k.2.1, fun ls H locs g1 g2 hl hR hS => ?_⟩
  exact lv_sipush hx hb hm hv (k.2.2 ls H locs g1 g2 hl hR hS)
theorem ab_lconst {G : ab_G} {M : ab_M} {X : ab_X} {pc : Nat} {l : List (Nat × Value)} {st : List Value} {h : List ab_E} (hX : ab_Good G M X) {n : Fin 2} {v : Int64} (hm : decode M.2.1 pc = .ok (.lconst n, 1)) (hv : Int64.ofNat (n : Nat) = v) (k : ab_WA G M X (pc + 1) l (.long v :: st) h) : ab_WA G M X pc l st h := by
  obtain ⟨p, e, R, s, m, args, below, meth, c, Q, h0⟩ := X
  obtain ⟨hx, hb, hml, hr, hlk, hown, hts, hal, hsz, hkp, hnm, hrf, hrl, hG⟩ := hX
  refine ⟨k.1, k.2.1, fun ls H locs g1 g2 hl hR hS => ?_⟩
  exact lv_lconst hx hb hm hv (k.2.2 ls H locs g1 g2 hl hR hS)
theorem ab_ldc {G : ab_G} {M : ab_M} {X : ab_X} {pc : Nat} {l : List (Nat × Value)} {st : List Value} {h : List ab_E} (hX : ab_Good G M X) {i : Nat} {v : Int32} (hm : decode M.2.1 pc = .ok (.ldc i, 2)) (hw : Cond.constant M.1.cls i v ∈ ab_Tg) (k : ab_WA G M X (pc + 2) l (.int v :: st) h) : ab_WA G M X pc l st h := by
  obtain ⟨p, e, R, s, m, args, below, meth, c, Q, h0⟩ := X
  obtain ⟨hx, hb, hml, hr, hlk, hown, hts, hal, hsz, hkp, hnm, hrf, hrl, hG⟩ := hX
  refine ⟨k.1, k.2.1, fun ls H locs g1 g2 hl hR hS => ?_⟩
  exact lv_ldc hx hb hown (hts _ hw) hm (k.2.2 ls H locs g1 g2 hl hR hS)
theorem ab_ldcw {G : ab_G} {M : ab_M} {X : ab_X} {pc : Nat} {l : List (Nat × Value)} {st : List Value} {h : List ab_E} (hX : ab_Good G M X) {i : Nat} {v : Int32} (hm : decode M.2.1 pc = .ok (.ldc_w i, 3)) (hw : Cond.constant M.1.cls i v ∈ ab_Tg) (k : ab_WA G M X (pc + 3) l (.int v :: st) h) : ab_WA G M X pc l st h := by
  obtain ⟨p, e, R, s, m, args, below, meth, c, Q, h0⟩ := X
  obtain ⟨hx, hb, hml, hr, hlk, hown, hts, hal, hsz, hkp, hnm, hrf, hrl, hG⟩ := hX
  refine ⟨k.1, k.2.1, fun ls H locs g1 g2 hl hR hS => ?_⟩
  exact lv_ldcw hx hb hown (hts _ hw) hm (k.2.2 ls H locs g1 g2 hl hR hS)
theorem ab_ldc2 {G : ab_G} {M : ab_M} {X : ab_X} {pc : Nat} {l : List (Nat × Value)} {st : List Value} {h : List ab_E} (hX : ab_Good G M X) {i : Nat} {v : Int64} (hm : decode M.2.1 pc = .ok (.ldc2_w i, 3)) (hw : Cond.constantLong M.1.cls i v ∈ ab_Tg) (k : ab_WA G M X (pc + 3) l (.long v :: st) h) : ab_WA G M X pc l st h := by
  obtain ⟨p, e, R, s, m, args, below, meth, c, Q, h0⟩ := X
  obtain ⟨hx, hb, hml, hr, hlk, hown, hts, hal, hsz, hkp, hnm, hrf, hrl, hG⟩ := hX
  refine ⟨k.1, k.2.1, fun ls H locs g1 g2 hl hR hS => ?_⟩
  exact lv_ldc2 hx hb hown (hts _ hw) hm (k.2.2 ls H locs g1 g2 hl hR hS)
theorem ab_null {G : ab_G} {M : ab_M} {X : ab_X} {pc : Nat} {l : List (Nat × Value)} {st : List Value} {h : List ab_E} (hX : ab_Good G M X) (hm : decode M.2.1 pc = .ok (.aconst_null, 1)) (k : ab_WA G M X (pc + 1) l (.null :: st) h) : ab_WA G M X pc l st h := by
  obtain ⟨p, e, R, s, m, args, below, meth, c, Q, h0⟩ := X
  obtain ⟨hx, hb, hml, hr, hlk, hown, hts, hal, hsz, hkp, hnm, hrf, hrl, hG⟩ := hX
  refine ⟨k.1, k.2.1, fun ls H locs g1 g2 hl hR hS => ?_⟩
  exact lv_null hx hb hm (k.2.2 ls H locs g1 g2 hl hR hS)
theorem ab_iload_n {G : ab_G} {M : ab_M} {X : ab_X} {pc : Nat} {l : List (Nat × Value)} {st : List Value} {h : List ab_E} (hX : ab_Good G M X) {j : Fin 4} {x : Int32} (hm : decode M.2.1 pc = .ok (.iload_n j, 1)) (hl0 : ((j : Nat), Value.int x) ∈ l) (k : ab_WA G M X (pc + 1) l (.int x :: st) h) : ab_WA G M X pc l st h := by
  obtain ⟨p, e, R, s, m, args, below, meth, c, Q, h0⟩ := X
  obtain ⟨hx, hb, hml, hr, hlk, hown, hts, hal, hsz, hkp, hnm, hrf, hrl, hG⟩ := hX
  refine ⟨k.1, k.2.1, fun ls H locs g1 g2 hl hR hS => ?_⟩
  exact lv_iload_n hx hb hm rfl (ab_lat hl hl0) (k.2.2 ls H locs g1 g2 hl hR hS)
theorem ab_iload {G : ab_G} {M : ab_M} {X : ab_X} {pc : Nat} {l : List (Nat × Value)} {st : List Value} {h : List ab_E} (hX : ab_Good G M X) {j : Nat} {x : Int32} (hm : decode M.2.1 pc = .ok (.iload j, 2)) (hl0 : (j, Value.int x) ∈ l) (k : ab_WA G M X (pc + 2) l (.int x :: st) h) : ab_WA G M X pc l st h := by
  obtain ⟨p, e, R, s, m, args, below, meth, c, Q, h0⟩ := X
  obtain ⟨hx, hb, hml, hr, hlk, hown, hts, hal, hsz, hkp, hnm, hrf, hrl, hG⟩ := hX
  refine ⟨k.1, k.2.1, fun ls H locs g1 g2 hl hR hS => ?_⟩
  exact lv_iload hx hb hm (ab_lat hl hl0) (k.2.2 ls H locs g1 g2 hl hR hS)
theorem ab_lload_n {G : ab_G} {M : ab_M} {X : ab_X} {pc : Nat} {l : List (Nat × Value)} {st : List Value} {h : List ab_E} (hX : ab_Good G M X) {j : Fin 4} {x : Int64} (hm : decode M.2.1 pc = .ok (.lload_n j, 1)) (hl0 : ((j : Nat), Value.long x) ∈ l) (k : ab_WA G M X (pc + 1) l (.long x :: st) h) : ab_WA G M X pc l st h := by
  obtain ⟨p, e, R, s, m, args, below, meth, c, Q, h0⟩ := X
  obtain ⟨hx, hb, hml, hr, hlk, hown, hts, hal, hsz, hkp, hnm, hrf, hrl, hG⟩ := hX
  refine ⟨k.1, k.2.1, fun ls H locs g1 g2 hl hR hS => ?_⟩
  exact lv_lload_n hx hb hm rfl (ab_lat hl hl0) (k.2.2 ls H locs g1 g2 hl hR hS)
theorem ab_lload {G : ab_G} {M : ab_M} {X : ab_X} {pc : Nat} {l : List (Nat × Value)} {st : List Value} {h : List ab_E} (hX : ab_Good G M X) {j : Nat} {x : Int64} (hm : decode M.2.1 pc = .ok (.lload j, 2)) (hl0 : (j, Value.long x) ∈ l) (k : ab_WA G M X (pc + 2) l (.long x :: st) h) : ab_WA G M X pc l st h := by
  obtain ⟨p, e, R, s, m, args, below, meth, c, Q, h0⟩ := X
  obtain ⟨hx, hb, hml, hr, hlk, hown, hts, hal, hsz, hkp, hnm, hrf, hrl, hG⟩ := hX
  refine ⟨k.1, k.2.1, fun ls H locs g1 g2 hl hR hS => ?_⟩
  exact lv_lload hx hb hm (ab_lat hl hl0) (k.2.2 ls H locs g1 g2 hl hR hS)
theorem ab_aload_n {G : ab_G} {M : ab_M} {X : ab_X} {pc : Nat} {l : List (Nat × Value)} {st : List Value} {h : List ab_E} (hX : ab_Good G M X) {j : Fin 4} {x : Nat} (hm : decode M.2.1 pc = .ok (.aload_n j, 1)) (hl0 : ((j : Nat), Value.ref x) ∈ l) (k : ab_WA G M X (pc + 1) l (.ref x :: st) h) : ab_WA G M X pc l st h := by
  obtain ⟨p, e, R, s, m, args, below, meth, c, Q, h0⟩ := X
  obtain ⟨hx, hb, hml, hr, hlk, hown, hts, hal, hsz, hkp, hnm, hrf, hrl, hG⟩ := hX
  refine ⟨k.1, k.2.1, fun ls H locs g1 g2 hl hR hS => ?_⟩
  exact lv_aload_n hx hb hm rfl (ab_lat hl hl0) (k.2.2 ls H locs g1 g2 hl hR hS)
theorem ab_aload_nS {G : ab_G} {M : ab_M} {X : ab_X} {pc : Nat} {l : List (Nat × Value)} {st : List Value} {h : List ab_E} (hX : ab_Good G M X) {j : Fin 4} {x : UInt32} (hm : decode M.2.1 pc = .ok (.aload_n j, 1)) (hl0 : ((j : Nat), Value.float x) ∈ l) (k : ab_WA G M X (pc + 1) l (.float x :: st) h) : ab_WA G M X pc l st h := by
  obtain ⟨p, e, R, s, m, args, below, meth, c, Q, h0⟩ := X
  obtain ⟨hx, hb, hml, hr, hlk, hown, hts, hal, hsz, hkp, hnm, hrf, hrl, hG⟩ := hX
  refine ⟨k.1, k.2.1, fun ls H locs g1 g2 hl hR hS => ?_⟩
  exact lv_aload_n hx hb hm rfl (ab_lat hl hl0) (k.2.2 ls H locs g1 g2 hl hR hS)
theorem ab_aload {G : ab_G} {M : ab_M} {X : ab_X} {pc : Nat} {l : List (Nat × Value)} {st : List Value} {h : List ab_E} (hX : ab_Good G M X) {j : Nat} {x : Nat} (hm : decode M.2.1 pc = .ok (.aload j, 2)) (hl0 : (j, Value.ref x) ∈ l) (k : ab_WA G M X (pc + 2) l (.ref x :: st) h) : ab_WA G M X pc l st h := by
  obtain ⟨p, e, R, s, m, args, below, meth, c, Q, h0⟩ := X
  obtain ⟨hx, hb, hml, hr, hlk, hown, hts, hal, hsz, hkp, hnm, hrf, hrl, hG⟩ := hX
  refine ⟨k.1, k.2.1, fun ls H locs g1 g2 hl hR hS => ?_⟩
  exact lv_aload hx hb hm (ab_lat hl hl0) (k.2.2 ls H locs g1 g2 hl hR hS)
theorem ab_aloadS {G : ab_G} {M : ab_M} {X : ab_X} {pc : Nat} {l : List (Nat × Value)} {st : List Value} {h : List ab_E} (hX : ab_Good G M X) {j : Nat} {x : UInt32} (hm : decode M.2.1 pc = .ok (.aload j, 2)) (hl0 : (j, Value.float x) ∈ l) (k : ab_WA G M X (pc + 2) l (.float x :: st) h) : ab_WA G M X pc l st h := by
  obtain ⟨p, e, R, s, m, args, below, meth, c, Q, h0⟩ := X
  obtain ⟨hx, hb, hml, hr, hlk, hown, hts, hal, hsz, hkp, hnm, hrf, hrl, hG⟩ := hX
  refine ⟨k.1, k.2.1, fun ls H locs g1 g2 hl hR hS => ?_⟩
  exact lv_aload hx hb hm (ab_lat hl hl0) (k.2.2 ls H locs g1 g2 hl hR hS)
theorem ab_istore_n {G : ab_G} {M : ab_M} {X : ab_X} {pc : Nat} {l : List (Nat × Value)} {st : List Value} {h : List ab_E} (hX : ab_Good G M X) {j : Fin 4} {i : Nat} {x : Int32} {l2 : List (Nat × Value)} (hm : decode M.2.1 pc = .ok (.istore_n j, 1)) (hi : (j : Nat) = i) (hn : i < M.2.2.1) (hl2 : ab_st1 l i (.int x) = l2) (k : ab_WA G M X (pc + 1) l2 st h) : ab_WA G M X pc l (.int x :: st) h := by
  obtain ⟨p, e, R, s, m, args, below, meth, c, Q, h0⟩ := X
  obtain ⟨hx, hb, hml, hr, hlk, hown, hts, hal, hsz, hkp, hnm, hrf, hrl, hG⟩ := hX
  refine ⟨k.1, k.2.1, fun ls H locs g1 g2 hl hR hS => ?_⟩
  exact lv_istore_n hx hb hm hi hl hn rfl fun ls2 hl9 => k.2.2 ls2 H locs g1 g2 (by rw [← hl2, ← ab_ll_st1]; exact hl9) hR hS
theorem ab_istore {G : ab_G} {M : ab_M} {X : ab_X} {pc : Nat} {l : List (Nat × Value)} {st : List Value} {h : List ab_E} (hX : ab_Good G M X) {i : Nat} {x : Int32} {l2 : List (Nat × Value)} (hm : decode M.2.1 pc = .ok (.istore i, 2)) (hn : i < M.2.2.1) (hl2 : ab_st1 l i (.int x) = l2) (k : ab_WA G M X (pc + 2) l2 st h) : ab_WA G M X pc l (.int x :: st) h := by
  obtain ⟨p, e, R, s, m, args, below, meth, c, Q, h0⟩ := X
  obtain ⟨hx, hb, hml, hr, hlk, hown, hts, hal, hsz, hkp, hnm, hrf, hrl, hG⟩ := hX
  refine ⟨k.1, k.2.1, fun ls H locs g1 g2 hl hR hS => ?_⟩
  exact lv_istore hx hb hm hl hn rfl fun ls2 hl9 => k.2.2 ls2 H locs g1 g2 (by rw [← hl2, ← ab_ll_st1]; exact hl9) hR hS
theorem ab_astore_n {G : ab_G} {M : ab_M} {X : ab_X} {pc : Nat} {l : List (Nat × Value)} {st : List Value} {h : List ab_E} (hX : ab_Good G M X) {j : Fin 4} {i : Nat} {x : Nat} {l2 : List (Nat × Value)} (hm : decode M.2.1 pc = .ok (.astore_n j, 1)) (hi : (j : Nat) = i) (hn : i < M.2.2.1) (hl2 : ab_st1 l i (.ref x) = l2) (k : ab_WA G M X (pc + 1) l2 st h) : ab_WA G M X pc l (.ref x :: st) h := by
  obtain ⟨p, e, R, s, m, args, below, meth, c, Q, h0⟩ := X
  obtain ⟨hx, hb, hml, hr, hlk, hown, hts, hal, hsz, hkp, hnm, hrf, hrl, hG⟩ := hX
  refine ⟨k.1, k.2.1, fun ls H locs g1 g2 hl hR hS => ?_⟩
  exact lv_astore_n hx hb hm hi hl hn rfl fun ls2 hl9 => k.2.2 ls2 H locs g1 g2 (by rw [← hl2, ← ab_ll_st1]; exact hl9) hR hS
theorem ab_astore {G : ab_G} {M : ab_M} {X : ab_X} {pc : Nat} {l : List (Nat × Value)} {st : List Value} {h : List ab_E} (hX : ab_Good G M X) {i : Nat} {x : Nat} {l2 : List (Nat × Value)} (hm : decode M.2.1 pc = .ok (.astore i, 2)) (hn : i < M.2.2.1) (hl2 : ab_st1 l i (.ref x) = l2) (k : ab_WA G M X (pc + 2) l2 st h) : ab_WA G M X pc l (.ref x :: st) h := by
  obtain ⟨p, e, R, s, m, args, below, meth, c, Q, h0⟩ := X
  obtain ⟨hx, hb, hml, hr, hlk, hown, hts, hal, hsz, hkp, hnm, hrf, hrl, hG⟩ := hX
  refine ⟨k.1, k.2.1, fun ls H locs g1 g2 hl hR hS => ?_⟩
  exact lv_astore hx hb hm hl hn rfl fun ls2 hl9 => k.2.2 ls2 H locs g1 g2 (by rw [← hl2, ← ab_ll_st1]; exact hl9) hR hS
theorem ab_lstore_n {G : ab_G} {M : ab_M} {X : ab_X} {pc : Nat} {l : List (Nat × Value)} {st : List Value} {h : List ab_E} (hX : ab_Good G M X) {j : Fin 4} {i : Nat} {x : Int64} {l2 : List (Nat × Value)} (hm : decode M.2.1 pc = .ok (.lstore_n j, 1)) (hi : (j : Nat) = i) (hn : i + 1 < M.2.2.1) (hl2 : ab_st2 l i (.long x) = l2) (k : ab_WA G M X (pc + 1) l2 st h) : ab_WA G M X pc l (.long x :: st) h := by
  obtain ⟨p, e, R, s, m, args, below, meth, c, Q, h0⟩ := X
  obtain ⟨hx, hb, hml, hr, hlk, hown, hts, hal, hsz, hkp, hnm, hrf, hrl, hG⟩ := hX
  refine ⟨k.1, k.2.1, fun ls H locs g1 g2 hl hR hS => ?_⟩
  exact lv_lstore_n hx hb hm hi hl hn rfl fun ls2 hl9 => k.2.2 ls2 H locs g1 g2 (by rw [← hl2, ← ab_ll_st2]; exact hl9) hR hS
theorem ab_lstore {G : ab_G} {M : ab_M} {X : ab_X} {pc : Nat} {l : List (Nat × Value)} {st : List Value} {h : List ab_E} (hX : ab_Good G M X) {i : Nat} {x : Int64} {l2 : List (Nat × Value)} (hm : decode M.2.1 pc = .ok (.lstore i, 2)) (hn : i + 1 < M.2.2.1) (hl2 : ab_st2 l i (.long x) = l2) (k : ab_WA G M X (pc + 2) l2 st h) : ab_WA G M X pc l (.long x :: st) h := by
  obtain ⟨p, e, R, s, m, args, below, meth, c, Q, h0⟩ := X
  obtain ⟨hx, hb, hml, hr, hlk, hown, hts, hal, hsz, hkp, hnm, hrf, hrl, hG⟩ := hX
  refine ⟨k.1, k.2.1, fun ls H locs g1 g2 hl hR hS => ?_⟩
  exact lv_lstore hx hb hm hl hn rfl fun ls2 hl9 => k.2.2 ls2 H locs g1 g2 (by rw [← hl2, ← ab_ll_st2]; exact hl9) hR hS
theorem ab_aload_nN {G : ab_G} {M : ab_M} {X : ab_X} {pc : Nat} {l : List (Nat × Value)} {st : List Value} {h : List ab_E} (hX : ab_Good G M X) {j : Fin 4} (hm : decode M.2.1 pc = .ok (.aload_n j, 1)) (hl0 : ((j : Nat), Value.null) ∈ l) (k : ab_WA G M X (pc + 1) l (.null :: st) h) : ab_WA G M X pc l st h := by
  obtain ⟨p, e, R, s, m, args, below, meth, c, Q, h0⟩ := X
  obtain ⟨hx, hb, hml, hr, hlk, hown, hts, hal, hsz, hkp, hnm, hrf, hrl, hG⟩ := hX
  refine ⟨k.1, k.2.1, fun ls H locs g1 g2 hl hR hS => ?_⟩
  exact lv_aload_nN hx hb hm rfl (ab_lat hl hl0) (k.2.2 ls H locs g1 g2 hl hR hS)
theorem ab_aloadN {G : ab_G} {M : ab_M} {X : ab_X} {pc : Nat} {l : List (Nat × Value)} {st : List Value} {h : List ab_E} (hX : ab_Good G M X) {j : Nat} (hm : decode M.2.1 pc = .ok (.aload j, 2)) (hl0 : (j, Value.null) ∈ l) (k : ab_WA G M X (pc + 2) l (.null :: st) h) : ab_WA G M X pc l st h := by
  obtain ⟨p, e, R, s, m, args, below, meth, c, Q, h0⟩ := X
  obtain ⟨hx, hb, hml, hr, hlk, hown, hts, hal, hsz, hkp, hnm, hrf, hrl, hG⟩ := hX
  refine ⟨k.1, k.2.1, fun ls H locs g1 g2 hl hR hS => ?_⟩
  exact lv_aloadN hx hb hm (ab_lat hl hl0) (k.2.2 ls H locs g1 g2 hl hR hS)
theorem ab_astore_nN {G : ab_G} {M : ab_M} {X : ab_X} {pc : Nat} {l : List (Nat × Value)} {st : List Value} {h : List ab_E} (hX : ab_Good G M X) {j : Fin 4} {i : Nat} {l2 : List (Nat × Value)} (hm : decode M.2.1 pc = .ok (.astore_n j, 1)) (hi : (j : Nat) = i) (hn : i < M.2.2.1) (hl2 : ab_st1 l i .null = l2) (k : ab_WA G M X (pc + 1) l2 st h) : ab_WA G M X pc l (.null :: st) h := by
  obtain ⟨p, e, R, s, m, args, below, meth, c, Q, h0⟩ := X
  obtain ⟨hx, hb, hml, hr, hlk, hown, hts, hal, hsz, hkp, hnm, hrf, hrl, hG⟩ := hX
  refine ⟨k.1, k.2.1, fun ls H locs g1 g2 hl hR hS => ?_⟩
  exact lv_astore_nN hx hb hm hi hl hn rfl fun ls2 hl9 => k.2.2 ls2 H locs g1 g2 (by rw [← hl2, ← ab_ll_st1]; exact hl9) hR hS
theorem ab_astoreN {G : ab_G} {M : ab_M} {X : ab_X} {pc : Nat} {l : List (Nat × Value)} {st : List Value} {h : List ab_E} (hX : ab_Good G M X) {i : Nat} {l2 : List (Nat × Value)} (hm : decode M.2.1 pc = .ok (.astore i, 2)) (hn : i < M.2.2.1) (hl2 : ab_st1 l i .null = l2) (k : ab_WA G M X (pc + 2) l2 st h) : ab_WA G M X pc l (.null :: st) h := by
  obtain ⟨p, e, R, s, m, args, below, meth, c, Q, h0⟩ := X
  obtain ⟨hx, hb, hml, hr, hlk, hown, hts, hal, hsz, hkp, hnm, hrf, hrl, hG⟩ := hX
  refine ⟨k.1, k.2.1, fun ls H locs g1 g2 hl hR hS => ?_⟩
  exact lv_astoreN hx hb hm hl hn rfl fun ls2 hl9 => k.2.2 ls2 H locs g1 g2 (by rw [← hl2, ← ab_ll_st1]; exact hl9) hR hS
theorem ab_astore_nS {G : ab_G} {M : ab_M} {X : ab_X} {pc : Nat} {l : List (Nat × Value)} {st : List Value} {h : List ab_E} (hX : ab_Good G M X) {j : Fin 4} {i : Nat} {x : UInt32} {l2 : List (Nat × Value)} (hm : decode M.2.1 pc = .ok (.astore_n j, 1)) (hi : (j : Nat) = i) (hn : i < M.2.2.1) (hl2 : ab_st1 l i (.float x) = l2) (k : ab_WA G M X (pc + 1) l2 st h) : ab_WA G M X pc l (.float x :: st) h := by
  obtain ⟨p, e, R, s, m, args, below, meth, c, Q, h0⟩ := X
  obtain ⟨hx, hb, hml, hr, hlk, hown, hts, hal, hsz, hkp, hnm, hrf, hrl, hG⟩ := hX
  refine ⟨k.1, k.2.1, fun ls H locs g1 g2 hl hR hS => ?_⟩
  exact lv_astore_n hx hb hm hi hl hn rfl fun ls2 hl9 => k.2.2 ls2 H locs g1 g2 (by rw [← hl2, ← ab_ll_st1]; exact hl9) hR hS
theorem ab_astoreS {G : ab_G} {M : ab_M} {X : ab_X} {pc : Nat} {l : List (Nat × Value)} {st : List Value} {h : List ab_E} (hX : ab_Good G M X) {i : Nat} {x : UInt32} {l2 : List (Nat × Value)} (hm : decode M.2.1 pc = .ok (.astore i, 2)) (hn : i < M.2.2.1) (hl2 : ab_st1 l i (.float x) = l2) (k : ab_WA G M X (pc + 2) l2 st h) : ab_WA G M X pc l (.float x :: st) h := by
  obtain ⟨p, e, R, s, m, args, below, meth, c, Q, h0⟩ := X
  obtain ⟨hx, hb, hml, hr, hlk, hown, hts, hal, hsz, hkp, hnm, hrf, hrl, hG⟩ := hX
  refine ⟨k.1, k.2.1, fun ls H locs g1 g2 hl hR hS => ?_⟩
  exact lv_astore hx hb hm hl hn rfl fun ls2 hl9 => k.2.2 ls2 H locs g1 g2 (by rw [← hl2, ← ab_ll_st1]; exact hl9) hR hS
theorem ab_iinc {G : ab_G} {M : ab_M} {X : ab_X} {pc : Nat} {l : List (Nat × Value)} {st : List Value} {h : List ab_E} (hX : ab_Good G M X) {i : Nat} {n : Int} {x v : Int32} {l2 : List (Nat × Value)} (hm : decode M.2.1 pc = .ok (.iinc i n, 3)) (hl0 : (i, Value.int x) ∈ l) (hv : x + Int32.ofInt n = v) (hn : i < M.2.2.1) (hl2 : ab_st1 l i (.int v) = l2) (k : ab_WA G M X (pc + 3) l2 st h) : ab_WA G M X pc l st h := by
  obtain ⟨p, e, R, s, m, args, below, meth, c, Q, h0⟩ := X
  obtain ⟨hx, hb, hml, hr, hlk, hown, hts, hal, hsz, hkp, hnm, hrf, hrl, hG⟩ := hX
  refine ⟨k.1, k.2.1, fun ls H locs g1 g2 hl hR hS => ?_⟩
  obtain ⟨kp, hkp2⟩ := List.getElem?_of_mem hl0
  have hk0 : (ab_ll G l)[kp]? = some (i, .int x) := by
    unfold ab_ll
    rw [List.getElem?_map, hkp2]
    rfl
  exact lv_iinc hx hb hm hl hk0 hv hn rfl fun ls2 hl3 => k.2.2 ls2 H locs g1 g2 (by rw [← hl2, ← ab_ll_st1]; exact hl3) hR hS
theorem ab_iadd {G : ab_G} {M : ab_M} {X : ab_X} {pc : Nat} {l : List (Nat × Value)} {st : List Value} {h : List ab_E} (hX : ab_Good G M X) {x y : Int32} (hm : decode M.2.1 pc = .ok (.iadd, 1)) (k : ab_WA G M X (pc + 1) l (.int (x + y) :: st) h) : ab_WA G M X pc l (.int y :: .int x :: st) h := by
  obtain ⟨p, e, R, s, m, args, below, meth, c, Q, h0⟩ := X
  obtain ⟨hx, hb, hml, hr, hlk, hown, hts, hal, hsz, hkp, hnm, hrf, hrl, hG⟩ := hX
  refine ⟨k.1, k.2.1, fun ls H locs g1 g2 hl hR hS => ?_⟩
  exact lv_iadd hx hb hm (k.2.2 ls H locs g1 g2 hl hR hS)
theorem ab_isub {G : ab_G} {M : ab_M} {X : ab_X} {pc : Nat} {l : List (Nat × Value)} {st : List Value} {h : List ab_E} (hX : ab_Good G M X) {x y : Int32} (hm : decode M.2.1 pc = .ok (.isub, 1)) (k : ab_WA G M X (pc + 1) l (.int (x - y) :: st) h) : ab_WA G M X pc l (.int y :: .int x :: st) h := by
  obtain ⟨p, e, R, s, m, args, below, meth, c, Q, h0⟩ := X
  obtain ⟨hx, hb, hml, hr, hlk, hown, hts, hal, hsz, hkp, hnm, hrf, hrl, hG⟩ := hX
  refine ⟨k.1, k.2.1, fun ls H locs g1 g2 hl hR hS => ?_⟩
  exact lv_isub hx hb hm (k.2.2 ls H locs g1 g2 hl hR hS)
theorem ab_imul {G : ab_G} {M : ab_M} {X : ab_X} {pc : Nat} {l : List (Nat × Value)} {st : List Value} {h : List ab_E} (hX : ab_Good G M X) {x y : Int32} (hm : decode M.2.1 pc = .ok (.imul, 1)) (k : ab_WA G M X (pc + 1) l (.int (x * y) :: st) h) : ab_WA G M X pc l (.int y :: .int x :: st) h := by
  obtain ⟨p, e, R, s, m, args, below, meth, c, Q, h0⟩ := X
  obtain ⟨hx, hb, hml, hr, hlk, hown, hts, hal, hsz, hkp, hnm, hrf, hrl, hG⟩ := hX
  refine ⟨k.1, k.2.1, fun ls H locs g1 g2 hl hR hS => ?_⟩
  exact lv_imul hx hb hm (k.2.2 ls H locs g1 g2 hl hR hS)
theorem ab_iand {G : ab_G} {M : ab_M} {X : ab_X} {pc : Nat} {l : List (Nat × Value)} {st : List Value} {h : List ab_E} (hX : ab_Good G M X) {x y : Int32} (hm : decode M.2.1 pc = .ok (.iand, 1)) (k : ab_WA G M X (pc + 1) l (.int (x &&& y) :: st) h) : ab_WA G M X pc l (.int y :: .int x :: st) h := by
  obtain ⟨p, e, R, s, m, args, below, meth, c, Q, h0⟩ := X
  obtain ⟨hx, hb, hml, hr, hlk, hown, hts, hal, hsz, hkp, hnm, hrf, hrl, hG⟩ := hX
  refine ⟨k.1, k.2.1, fun ls H locs g1 g2 hl hR hS => ?_⟩
  exact lv_iand hx hb hm (k.2.2 ls H locs g1 g2 hl hR hS)
theorem ab_ior {G : ab_G} {M : ab_M} {X : ab_X} {pc : Nat} {l : List (Nat × Value)} {st : List Value} {h : List ab_E} (hX : ab_Good G M X) {x y : Int32} (hm : decode M.2.1 pc = .ok (.ior, 1)) (k : ab_WA G M X (pc + 1) l (.int (x ||| y) :: st) h) : ab_WA G M X pc l (.int y :: .int x :: st) h := by
  obtain ⟨p, e, R, s, m, args, below, meth, c, Q, h0⟩ := X
  obtain ⟨hx, hb, hml, hr, hlk, hown, hts, hal, hsz, hkp, hnm, hrf, hrl, hG⟩ := hX
  refine ⟨k.1, k.2.1, fun ls H locs g1 g2 hl hR hS => ?_⟩
  exact lv_ior hx hb hm (k.2.2 ls H locs g1 g2 hl hR hS)
theorem ab_ixor {G : ab_G} {M : ab_M} {X : ab_X} {pc : Nat} {l : List (Nat × Value)} {st : List Value} {h : List ab_E} (hX : ab_Good G M X) {x y : Int32} (hm : decode M.2.1 pc = .ok (.ixor, 1)) (k : ab_WA G M X (pc + 1) l (.int (x ^^^ y) :: st) h) : ab_WA G M X pc l (.int y :: .int x :: st) h := by
  obtain ⟨p, e, R, s, m, args, below, meth, c, Q, h0⟩ := X
  obtain ⟨hx, hb, hml, hr, hlk, hown, hts, hal, hsz, hkp, hnm, hrf, hrl, hG⟩ := hX
  refine ⟨k.1, k.2.1, fun ls H locs g1 g2 hl hR hS => ?_⟩
  exact lv_ixor hx hb hm (k.2.2 ls H locs g1 g2 hl hR hS)
theorem ab_ishl {G : ab_G} {M : ab_M} {X : ab_X} {pc : Nat} {l : List (Nat × Value)} {st : List Value} {h : List ab_E} (hX : ab_Good G M X) {x y : Int32} (hm : decode M.2.1 pc = .ok (.ishl, 1)) (k : ab_WA G M X (pc + 1) l (.int (x <<< (y &&& 31)) :: st) h) : ab_WA G M X pc l (.int y :: .int x :: st) h := by
  obtain ⟨p, e, R, s, m, args, below, meth, c, Q, h0⟩ := X
  obtain ⟨hx, hb, hml, hr, hlk, hown, hts, hal, hsz, hkp, hnm, hrf, hrl, hG⟩ := hX
  refine ⟨k.1, k.2.1, fun ls H locs g1 g2 hl hR hS => ?_⟩
  exact lv_ishl hx hb hm (k.2.2 ls H locs g1 g2 hl hR hS)
theorem ab_ishr {G : ab_G} {M : ab_M} {X : ab_X} {pc : Nat} {l : List (Nat × Value)} {st : List Value} {h : List ab_E} (hX : ab_Good G M X) {x y : Int32} (hm : decode M.2.1 pc = .ok (.ishr, 1)) (k : ab_WA G M X (pc + 1) l (.int (x >>> (y &&& 31)) :: st) h) : ab_WA G M X pc l (.int y :: .int x :: st) h := by
  obtain ⟨p, e, R, s, m, args, below, meth, c, Q, h0⟩ := X
  obtain ⟨hx, hb, hml, hr, hlk, hown, hts, hal, hsz, hkp, hnm, hrf, hrl, hG⟩ := hX
  refine ⟨k.1, k.2.1, fun ls H locs g1 g2 hl hR hS => ?_⟩
  exact lv_ishr hx hb hm (k.2.2 ls H locs g1 g2 hl hR hS)
theorem ab_iushr {G : ab_G} {M : ab_M} {X : ab_X} {pc : Nat} {l : List (Nat × Value)} {st : List Value} {h : List ab_E} (hX : ab_Good G M X) {x y : Int32} (hm : decode M.2.1 pc = .ok (.iushr, 1)) (k : ab_WA G M X (pc + 1) l (.int (x.toUInt32 >>> (y.toUInt32 &&& Int32.toUInt32 31)).toInt32 :: st) h) : ab_WA G M X pc l (.int y :: .int x :: st) h := by
  obtain ⟨p, e, R, s, m, args, below, meth, c, Q, h0⟩ := X
  obtain ⟨hx, hb, hml, hr, hlk, hown, hts, hal, hsz, hkp, hnm, hrf, hrl, hG⟩ := hX
  refine ⟨k.1, k.2.1, fun ls H locs g1 g2 hl hR hS => ?_⟩
  exact lv_iushr hx hb hm rfl (k.2.2 ls H locs g1 g2 hl hR hS)
theorem ab_idiv {G : ab_G} {M : ab_M} {X : ab_X} {pc : Nat} {l : List (Nat × Value)} {st : List Value} {h : List ab_E} (hX : ab_Good G M X) {x y : Int32} (hm : decode M.2.1 pc = .ok (.idiv, 1)) (hne : ¬ y = 0) (k : ab_WA G M X (pc + 1) l (.int (x / y) :: st) h) : ab_WA G M X pc l (.int y :: .int x :: st) h := by
  obtain ⟨p, e, R, s, m, args, below, meth, c, Q, h0⟩ := X
  obtain ⟨hx, hb, hml, hr, hlk, hown, hts, hal, hsz, hkp, hnm, hrf, hrl, hG⟩ := hX
  refine ⟨k.1, k.2.1, fun ls H locs g1 g2 hl hR hS => ?_⟩
  exact lv_idiv hx hb hm hne (k.2.2 ls H locs g1 g2 hl hR hS)
theorem ab_irem {G : ab_G} {M : ab_M} {X : ab_X} {pc : Nat} {l : List (Nat × Value)} {st : List Value} {h : List ab_E} (hX : ab_Good G M X) {x y : Int32} (hm : decode M.2.1 pc = .ok (.irem, 1)) (hne : ¬ y = 0) (k : ab_WA G M X (pc + 1) l (.int (x - x / y * y) :: st) h) : ab_WA G M X pc l (.int y :: .int x :: st) h := by
  obtain ⟨p, e, R, s, m, args, below, meth, c, Q, h0⟩ := X
  obtain ⟨hx, hb, hml, hr, hlk, hown, hts, hal, hsz, hkp, hnm, hrf, hrl, hG⟩ := hX
  refine ⟨k.1, k.2.1, fun ls H locs g1 g2 hl hR hS => ?_⟩
  exact lv_irem hx hb hm hne (k.2.2 ls H locs g1 g2 hl hR hS)
theorem ab_ladd {G : ab_G} {M : ab_M} {X : ab_X} {pc : Nat} {l : List (Nat × Value)} {st : List Value} {h : List ab_E} (hX : ab_Good G M X) {x y : Int64} (hm : decode M.2.1 pc = .ok (.ladd, 1)) (k : ab_WA G M X (pc + 1) l (.long (x + y) :: st) h) : ab_WA G M X pc l (.long y :: .long x :: st) h := by
  obtain ⟨p, e, R, s, m, args, below, meth, c, Q, h0⟩ := X
  obtain ⟨hx, hb, hml, hr, hlk, hown, hts, hal, hsz, hkp, hnm, hrf, hrl, hG⟩ := hX
  refine ⟨k.1, k.2.1, fun ls H locs g1 g2 hl hR hS => ?_⟩
  exact lv_ladd hx hb hm (k.2.2 ls H locs g1 g2 hl hR hS)
theorem ab_lsub {G : ab_G} {M : ab_M} {X : ab_X} {pc : Nat} {l : List (Nat × Value)} {st : List Value} {h : List ab_E} (hX : ab_Good G M X) {x y : Int64} (hm : decode M.2.1 pc = .ok (.lsub, 1)) (k : ab_WA G M X (pc + 1) l (.long (x - y) :: st) h) : ab_WA G M X pc l (.long y :: .long x :: st) h := by
  obtain ⟨p, e, R, s, m, args, below, meth, c, Q, h0⟩ := X
  obtain ⟨hx, hb, hml, hr, hlk, hown, hts, hal, hsz, hkp, hnm, hrf, hrl, hG⟩ := hX
  refine ⟨k.1, k.2.1, fun ls H locs g1 g2 hl hR hS => ?_⟩
  exact lv_lsub hx hb hm (k.2.2 ls H locs g1 g2 hl hR hS)
theorem ab_lmul {G : ab_G} {M : ab_M} {X : ab_X} {pc : Nat} {l : List (Nat × Value)} {st : List Value} {h : List ab_E} (hX : ab_Good G M X) {x y : Int64} (hm : decode M.2.1 pc = .ok (.lmul, 1)) (k : ab_WA G M X (pc + 1) l (.long (x * y) :: st) h) : ab_WA G M X pc l (.long y :: .long x :: st) h := by
  obtain ⟨p, e, R, s, m, args, below, meth, c, Q, h0⟩ := X
  obtain ⟨hx, hb, hml, hr, hlk, hown, hts, hal, hsz, hkp, hnm, hrf, hrl, hG⟩ := hX
  refine ⟨k.1, k.2.1, fun ls H locs g1 g2 hl hR hS => ?_⟩
  exact lv_lmul hx hb hm (k.2.2 ls H locs g1 g2 hl hR hS)
theorem ab_land {G : ab_G} {M : ab_M} {X : ab_X} {pc : Nat} {l : List (Nat × Value)} {st : List Value} {h : List ab_E} (hX : ab_Good G M X) {x y : Int64} (hm : decode M.2.1 pc = .ok (.land, 1)) (k : ab_WA G M X (pc + 1) l (.long (x &&& y) :: st) h) : ab_WA G M X pc l (.long y :: .long x :: st) h := by
  obtain ⟨p, e, R, s, m, args, below, meth, c, Q, h0⟩ := X
  obtain ⟨hx, hb, hml, hr, hlk, hown, hts, hal, hsz, hkp, hnm, hrf, hrl, hG⟩ := hX
  refine ⟨k.1, k.2.1, fun ls H locs g1 g2 hl hR hS => ?_⟩
  exact lv_land hx hb hm (k.2.2 ls H locs g1 g2 hl hR hS)
theorem ab_lor {G : ab_G} {M : ab_M} {X : ab_X} {pc : Nat} {l : List (Nat × Value)} {st : List Value} {h : List ab_E} (hX : ab_Good G M X) {x y : Int64} (hm : decode M.2.1 pc = .ok (.lor, 1)) (k : ab_WA G M X (pc + 1) l (.long (x ||| y) :: st) h) : ab_WA G M X pc l (.long y :: .long x :: st) h := by
  obtain ⟨p, e, R, s, m, args, below, meth, c, Q, h0⟩ := X
  obtain ⟨hx, hb, hml, hr, hlk, hown, hts, hal, hsz, hkp, hnm, hrf, hrl, hG⟩ := hX
  refine ⟨k.1, k.2.1, fun ls H locs g1 g2 hl hR hS => ?_⟩
  exact lv_lor hx hb hm (k.2.2 ls H locs g1 g2 hl hR hS)
theorem ab_lxor {G : ab_G} {M : ab_M} {X : ab_X} {pc : Nat} {l : List (Nat × Value)} {st : List Value} {h : List ab_E} (hX : ab_Good G M X) {x y : Int64} (hm : decode M.2.1 pc = .ok (.lxor, 1)) (k : ab_WA G M X (pc + 1) l (.long (x ^^^ y) :: st) h) : ab_WA G M X pc l (.long y :: .long x :: st) h := by
  obtain ⟨p, e, R, s, m, args, below, meth, c, Q, h0⟩ := X
  obtain ⟨hx, hb, hml, hr, hlk, hown, hts, hal, hsz, hkp, hnm, hrf, hrl, hG⟩ := hX
  refine ⟨k.1, k.2.1, fun ls H locs g1 g2 hl hR hS => ?_⟩
  exact lv_lxor hx hb hm (k.2.2 ls H locs g1 g2 hl hR hS)
theorem ab_ldiv {G : ab_G} {M : ab_M} {X : ab_X} {pc : Nat} {l : List (Nat × Value)} {st : List Value} {h : List ab_E} (hX : ab_Good G M X) {x y : Int64} (hm : decode M.2.1 pc = .ok (.ldiv, 1)) (hne : ¬ y = 0) (k : ab_WA G M X (pc + 1) l (.long (x / y) :: st) h) : ab_WA G M X pc l (.long y :: .long x :: st) h := by
  obtain ⟨p, e, R, s, m, args, below, meth, c, Q, h0⟩ := X
  obtain ⟨hx, hb, hml, hr, hlk, hown, hts, hal, hsz, hkp, hnm, hrf, hrl, hG⟩ := hX
  refine ⟨k.1, k.2.1, fun ls H locs g1 g2 hl hR hS => ?_⟩
  exact lv_ldiv hx hb hm hne (k.2.2 ls H locs g1 g2 hl hR hS)
theorem ab_lrem {G : ab_G} {M : ab_M} {X : ab_X} {pc : Nat} {l : List (Nat × Value)} {st : List Value} {h : List ab_E} (hX : ab_Good G M X) {x y : Int64} (hm : decode M.2.1 pc = .ok (.lrem, 1)) (hne : ¬ y = 0) (k : ab_WA G M X (pc + 1) l (.long (x - x / y * y) :: st) h) : ab_WA G M X pc l (.long y :: .long x :: st) h := by
  obtain ⟨p, e, R, s, m, args, below, meth, c, Q, h0⟩ := X
  obtain ⟨hx, hb, hml, hr, hlk, hown, hts, hal, hsz, hkp, hnm, hrf, hrl, hG⟩ := hX
  refine ⟨k.1, k.2.1, fun ls H locs g1 g2 hl hR hS => ?_⟩
  exact lv_lrem hx hb hm hne (k.2.2 ls H locs g1 g2 hl hR hS)
theorem ab_lshl {G : ab_G} {M : ab_M} {X : ab_X} {pc : Nat} {l : List (Nat × Value)} {st : List Value} {h : List ab_E} (hX : ab_Good G M X) {x : Int64} {y : Int32} (hm : decode M.2.1 pc = .ok (.lshl, 1)) (k : ab_WA G M X (pc + 1) l (.long (x <<< (y.toInt64 &&& 63)) :: st) h) : ab_WA G M X pc l (.int y :: .long x :: st) h := by
  obtain ⟨p, e, R, s, m, args, below, meth, c, Q, h0⟩ := X
  obtain ⟨hx, hb, hml, hr, hlk, hown, hts, hal, hsz, hkp, hnm, hrf, hrl, hG⟩ := hX
  refine ⟨k.1, k.2.1, fun ls H locs g1 g2 hl hR hS => ?_⟩
  exact lv_lshl hx hb hm rfl (k.2.2 ls H locs g1 g2 hl hR hS)
theorem ab_lshr {G : ab_G} {M : ab_M} {X : ab_X} {pc : Nat} {l : List (Nat × Value)} {st : List Value} {h : List ab_E} (hX : ab_Good G M X) {x : Int64} {y : Int32} (hm : decode M.2.1 pc = .ok (.lshr, 1)) (k : ab_WA G M X (pc + 1) l (.long (x >>> (y.toInt64 &&& 63)) :: st) h) : ab_WA G M X pc l (.int y :: .long x :: st) h := by
  obtain ⟨p, e, R, s, m, args, below, meth, c, Q, h0⟩ := X
  obtain ⟨hx, hb, hml, hr, hlk, hown, hts, hal, hsz, hkp, hnm, hrf, hrl, hG⟩ := hX
  refine ⟨k.1, k.2.1, fun ls H locs g1 g2 hl hR hS => ?_⟩
  exact lv_lshr hx hb hm rfl (k.2.2 ls H locs g1 g2 hl hR hS)
theorem ab_lushr {G : ab_G} {M : ab_M} {X : ab_X} {pc : Nat} {l : List (Nat × Value)} {st : List Value} {h : List ab_E} (hX : ab_Good G M X) {x : Int64} {y : Int32} (hm : decode M.2.1 pc = .ok (.lushr, 1)) (k : ab_WA G M X (pc + 1) l (.long (x.toUInt64 >>> (y.toInt64.toUInt64 &&& Int64.toUInt64 63)).toInt64 :: st) h) : ab_WA G M X pc l (.int y :: .long x :: st) h := by
  obtain ⟨p, e, R, s, m, args, below, meth, c, Q, h0⟩ := X
  obtain ⟨hx, hb, hml, hr, hlk, hown, hts, hal, hsz, hkp, hnm, hrf, hrl, hG⟩ := hX
  refine ⟨k.1, k.2.1, fun ls H locs g1 g2 hl hR hS => ?_⟩
  exact lv_lushr hx hb hm rfl (k.2.2 ls H locs g1 g2 hl hR hS)
theorem ab_lcmp {G : ab_G} {M : ab_M} {X : ab_X} {pc : Nat} {l : List (Nat × Value)} {st : List Value} {h : List ab_E} (hX : ab_Good G M X) {x y : Int64} (hm : decode M.2.1 pc = .ok (.lcmp, 1)) (k : ab_WA G M X (pc + 1) l (.int (lg_cmp x y) :: st) h) : ab_WA G M X pc l (.long y :: .long x :: st) h := by
  obtain ⟨p, e, R, s, m, args, below, meth, c, Q, h0⟩ := X
  obtain ⟨hx, hb, hml, hr, hlk, hown, hts, hal, hsz, hkp, hnm, hrf, hrl, hG⟩ := hX
  refine ⟨k.1, k.2.1, fun ls H locs g1 g2 hl hR hS => ?_⟩
  exact W.lcmp hx hb hm (k.2.2 ls H locs g1 g2 hl hR hS)
theorem ab_i2l {G : ab_G} {M : ab_M} {X : ab_X} {pc : Nat} {l : List (Nat × Value)} {st : List Value} {h : List ab_E} (hX : ab_Good G M X) {x : Int32} (hm : decode M.2.1 pc = .ok (.i2l, 1)) (k : ab_WA G M X (pc + 1) l (.long x.toInt64 :: st) h) : ab_WA G M X pc l (.int x :: st) h := by
  obtain ⟨p, e, R, s, m, args, below, meth, c, Q, h0⟩ := X
  obtain ⟨hx, hb, hml, hr, hlk, hown, hts, hal, hsz, hkp, hnm, hrf, hrl, hG⟩ := hX
  refine ⟨k.1, k.2.1, fun ls H locs g1 g2 hl hR hS => ?_⟩
  exact lv_i2l hx hb hm rfl (k.2.2 ls H locs g1 g2 hl hR hS)
theorem ab_l2i {G : ab_G} {M : ab_M} {X : ab_X} {pc : Nat} {l : List (Nat × Value)} {st : List Value} {h : List ab_E} (hX : ab_Good G M X) {x : Int64} (hm : decode M.2.1 pc = .ok (.l2i, 1)) (k : ab_WA G M X (pc + 1) l (.int x.toInt32 :: st) h) : ab_WA G M X pc l (.long x :: st) h := by
  obtain ⟨p, e, R, s, m, args, below, meth, c, Q, h0⟩ := X
  obtain ⟨hx, hb, hml, hr, hlk, hown, hts, hal, hsz, hkp, hnm, hrf, hrl, hG⟩ := hX
  refine ⟨k.1, k.2.1, fun ls H locs g1 g2 hl hR hS => ?_⟩
  exact lv_l2i hx hb hm rfl (k.2.2 ls H locs g1 g2 hl hR hS)
theorem ab_i2b {G : ab_G} {M : ab_M} {X : ab_X} {pc : Nat} {l : List (Nat × Value)} {st : List Value} {h : List ab_E} (hX : ab_Good G M X) {x : Int32} (hm : decode M.2.1 pc = .ok (.i2b, 1)) (k : ab_WA G M X (pc + 1) l (.int x.toInt8.toInt32 :: st) h) : ab_WA G M X pc l (.int x :: st) h := by
  obtain ⟨p, e, R, s, m, args, below, meth, c, Q, h0⟩ := X
  obtain ⟨hx, hb, hml, hr, hlk, hown, hts, hal, hsz, hkp, hnm, hrf, hrl, hG⟩ := hX
  refine ⟨k.1, k.2.1, fun ls H locs g1 g2 hl hR hS => ?_⟩
  exact lv_i2b hx hb hm rfl (k.2.2 ls H locs g1 g2 hl hR hS)
theorem ab_i2s {G : ab_G} {M : ab_M} {X : ab_X} {pc : Nat} {l : List (Nat × Value)} {st : List Value} {h : List ab_E} (hX : ab_Good G M X) {x : Int32} (hm : decode M.2.1 pc = .ok (.i2s, 1)) (k : ab_WA G M X (pc + 1) l (.int x.toInt16.toInt32 :: st) h) : ab_WA G M X pc l (.int x :: st) h := by
  obtain ⟨p, e, R, s, m, args, below, meth, c, Q, h0⟩ := X
  obtain ⟨hx, hb, hml, hr, hlk, hown, hts, hal, hsz, hkp, hnm, hrf, hrl, hG⟩ := hX
  refine ⟨k.1, k.2.1, fun ls H locs g1 g2 hl hR hS => ?_⟩
  exact lv_i2s hx hb hm rfl (k.2.2 ls H locs g1 g2 hl hR hS)
theorem ab_dup {G : ab_G} {M : ab_M} {X : ab_X} {pc : Nat} {l : List (Nat × Value)} {st : List Value} {h : List ab_E} (hX : ab_Good G M X) {v : Value} (hm : decode M.2.1 pc = .ok (.dup, 1)) (hv : v.category = 1) (k : ab_WA G M X (pc + 1) l (v :: v :: st) h) : ab_WA G M X pc l (v :: st) h := by
  obtain ⟨p, e, R, s, m, args, below, meth, c, Q, h0⟩ := X
  obtain ⟨hx, hb, hml, hr, hlk, hown, hts, hal, hsz, hkp, hnm, hrf, hrl, hG⟩ := hX
  refine ⟨k.1, k.2.1, fun ls H locs g1 g2 hl hR hS => ?_⟩
  exact lv_dup hx hb hm ((ab_ren_cat G v).trans hv) (k.2.2 ls H locs g1 g2 hl hR hS)
theorem ab_dup_x1 {G : ab_G} {M : ab_M} {X : ab_X} {pc : Nat} {l : List (Nat × Value)} {st : List Value} {h : List ab_E} (hX : ab_Good G M X) {v w : Value} (hm : decode M.2.1 pc = .ok (.dup_x1, 1)) (hv : v.category = 1) (hw : w.category = 1) (k : ab_WA G M X (pc + 1) l (v :: w :: v :: st) h) : ab_WA G M X pc l (v :: w :: st) h := by
  obtain ⟨p, e, R, s, m, args, below, meth, c, Q, h0⟩ := X
  obtain ⟨hx, hb, hml, hr, hlk, hown, hts, hal, hsz, hkp, hnm, hrf, hrl, hG⟩ := hX
  refine ⟨k.1, k.2.1, fun ls H locs g1 g2 hl hR hS => ?_⟩
  exact lv_dup_x1 hx hb hm ((ab_ren_cat G v).trans hv) ((ab_ren_cat G w).trans hw) (k.2.2 ls H locs g1 g2 hl hR hS)
theorem ab_pop {G : ab_G} {M : ab_M} {X : ab_X} {pc : Nat} {l : List (Nat × Value)} {st : List Value} {h : List ab_E} (hX : ab_Good G M X) {v : Value} (hm : decode M.2.1 pc = .ok (.pop, 1)) (hv : v.category = 1) (k : ab_WA G M X (pc + 1) l st h) : ab_WA G M X pc l (v :: st) h := by
  obtain ⟨p, e, R, s, m, args, below, meth, c, Q, h0⟩ := X
  obtain ⟨hx, hb, hml, hr, hlk, hown, hts, hal, hsz, hkp, hnm, hrf, hrl, hG⟩ := hX
  refine ⟨k.1, k.2.1, fun ls H locs g1 g2 hl hR hS => ?_⟩
  exact lv_pop hx hb hm ((ab_ren_cat G v).trans hv) (k.2.2 ls H locs g1 g2 hl hR hS)
theorem ab_goto {G : ab_G} {M : ab_M} {X : ab_X} {pc : Nat} {l : List (Nat × Value)} {st : List Value} {h : List ab_E} (hX : ab_Good G M X) {off : Int} {tgt : Nat} (hm : decode M.2.1 pc = .ok (.goto off, 3)) (ht : (pc : Int) + off = (tgt : Int)) (k : ab_WA G M X tgt l st h) : ab_WA G M X pc l st h := by
  obtain ⟨p, e, R, s, m, args, below, meth, c, Q, h0⟩ := X
  obtain ⟨hx, hb, hml, hr, hlk, hown, hts, hal, hsz, hkp, hnm, hrf, hrl, hG⟩ := hX
  refine ⟨k.1, k.2.1, fun ls H locs g1 g2 hl hR hS => ?_⟩
  exact lv_goto hx hb hm ht (k.2.2 ls H locs g1 g2 hl hR hS)
theorem ab_ifnonnull {G : ab_G} {M : ab_M} {X : ab_X} {pc : Nat} {l : List (Nat × Value)} {st : List Value} {h : List ab_E} (hX : ab_Good G M X) {x : Nat} {off : Int} {tgt : Nat} (hm : decode M.2.1 pc = .ok (.ifnonnull off, 3)) (ht : (pc : Int) + off = (tgt : Int)) (k : ab_WA G M X tgt l st h) : ab_WA G M X pc l (.ref x :: st) h := by
  obtain ⟨p, e, R, s, m, args, below, meth, c, Q, h0⟩ := X
  obtain ⟨hx, hb, hml, hr, hlk, hown, hts, hal, hsz, hkp, hnm, hrf, hrl, hG⟩ := hX
  refine ⟨k.1, k.2.1, fun ls H locs g1 g2 hl hR hS => ?_⟩
  exact lv_ifnonnull hx hb hm ht (k.2.2 ls H locs g1 g2 hl hR hS)
theorem ab_ifnull {G : ab_G} {M : ab_M} {X : ab_X} {pc : Nat} {l : List (Nat × Value)} {st : List Value} {h : List ab_E} (hX : ab_Good G M X) {x : Nat} {off : Int} (hm : decode M.2.1 pc = .ok (.ifnull off, 3)) (k : ab_WA G M X (pc + 3) l st h) : ab_WA G M X pc l (.ref x :: st) h := by
  obtain ⟨p, e, R, s, m, args, below, meth, c, Q, h0⟩ := X
  obtain ⟨hx, hb, hml, hr, hlk, hown, hts, hal, hsz, hkp, hnm, hrf, hrl, hG⟩ := hX
  refine ⟨k.1, k.2.1, fun ls H locs g1 g2 hl hR hS => ?_⟩
  exact lv_ifnull hx hb hm (k.2.2 ls H locs g1 g2 hl hR hS)
theorem ab_ifnullN {G : ab_G} {M : ab_M} {X : ab_X} {pc : Nat} {l : List (Nat × Value)} {st : List Value} {h : List ab_E} (hX : ab_Good G M X) {off : Int} {tgt : Nat} (hm : decode M.2.1 pc = .ok (.ifnull off, 3)) (ht : (pc : Int) + off = (tgt : Int)) (k : ab_WA G M X tgt l st h) : ab_WA G M X pc l (.null :: st) h := by
  obtain ⟨p, e, R, s, m, args, below, meth, c, Q, h0⟩ := X
  obtain ⟨hx, hb, hml, hr, hlk, hown, hts, hal, hsz, hkp, hnm, hrf, hrl, hG⟩ := hX
  refine ⟨k.1, k.2.1, fun ls H locs g1 g2 hl hR hS => ?_⟩
  exact lv_ifnullN hx hb hm ht (k.2.2 ls H locs g1 g2 hl hR hS)
theorem ab_ifnonnullN {G : ab_G} {M : ab_M} {X : ab_X} {pc : Nat} {l : List (Nat × Value)} {st : List Value} {h : List ab_E} (hX : ab_Good G M X) {off : Int} (hm : decode M.2.1 pc = .ok (.ifnonnull off, 3)) (k : ab_WA G M X (pc + 3) l st h) : ab_WA G M X pc l (.null :: st) h := by
  obtain ⟨p, e, R, s, m, args, below, meth, c, Q, h0⟩ := X
  obtain ⟨hx, hb, hml, hr, hlk, hown, hts, hal, hsz, hkp, hnm, hrf, hrl, hG⟩ := hX
  refine ⟨k.1, k.2.1, fun ls H locs g1 g2 hl hR hS => ?_⟩
  exact lv_ifnonnullN hx hb hm (k.2.2 ls H locs g1 g2 hl hR hS)
theorem ab_castN {G : ab_G} {M : ab_M} {X : ab_X} {pc : Nat} {l : List (Nat × Value)} {st : List Value} {h : List ab_E} (hX : ab_Good G M X) {i : Nat} (hm : decode M.2.1 pc = .ok (.checkcast i, 3)) (k : ab_WA G M X (pc + 3) l (.null :: st) h) : ab_WA G M X pc l (.null :: st) h := by
  obtain ⟨p, e, R, s, m, args, below, meth, c, Q, h0⟩ := X
  obtain ⟨hx, hb, hml, hr, hlk, hown, hts, hal, hsz, hkp, hnm, hrf, hrl, hG⟩ := hX
  refine ⟨k.1, k.2.1, fun ls H locs g1 g2 hl hR hS => ?_⟩
  exact lv_castN hx hb hm (k.2.2 ls H locs g1 g2 hl hR hS)
theorem ab_ifne {G : ab_G} {M : ab_M} {X : ab_X} {pc : Nat} {l : List (Nat × Value)} {st : List Value} {h : List ab_E} (hX : ab_Good G M X) {x : Int32} {off : Int} {tgt : Nat} (hm : decode M.2.1 pc = .ok (.ifCond .ne off, 3)) (ht : (pc : Int) + off = (tgt : Int)) (kt : ¬ (x = 0) → ab_WA G M X tgt l st h) (kf : (x = 0) → ab_WA G M X (pc + 3) l st h) : ab_WA G M X pc l (.int x :: st) h := by
  obtain ⟨p, e, R, s, m, args, below, meth, c, Q, h0⟩ := X
  obtain ⟨hx, hb, hml, hr, hlk, hown, hts, hal, hsz, hkp, hnm, hrf, hrl, hG⟩ := hX
  by_cases hc : (x = 0)
  · have k := kf hc
    exact ⟨k.1, k.2.1, fun ls H locs g1 g2 hl hR hS => lv_if_ne hx hb hm ht (fun n => absurd hc n) (fun _ => k.2.2 ls H locs g1 g2 hl hR hS)⟩
  · have k := kt hc
    exact ⟨k.1, k.2.1, fun ls H locs g1 g2 hl hR hS => lv_if_ne hx hb hm ht (fun _ => k.2.2 ls H locs g1 g2 hl hR hS) (fun n => absurd n hc)⟩
theorem ab_icmpne {G : ab_G} {M : ab_M} {X : ab_X} {pc : Nat} {l : List (Nat × Value)} {st : List Value} {h : List ab_E} (hX : ab_Good G M X) {x y : Int32} {off : Int} {tgt : Nat} (hm : decode M.2.1 pc = .ok (.if_icmp .ne off, 3)) (ht : (pc : Int) + off = (tgt : Int)) (kt : ¬ (x = y) → ab_WA G M X tgt l st h) (kf : (x = y) → ab_WA G M X (pc + 3) l st h) : ab_WA G M X pc l (.int y :: .int x :: st) h := by
  obtain ⟨p, e, R, s, m, args, below, meth, c, Q, h0⟩ := X
  obtain ⟨hx, hb, hml, hr, hlk, hown, hts, hal, hsz, hkp, hnm, hrf, hrl, hG⟩ := hX
  by_cases hc : (x = y)
  · have k := kf hc
    exact ⟨k.1, k.2.1, fun ls H locs g1 g2 hl hR hS => lv_icmp_ne hx hb hm ht (fun n => absurd hc n) (fun _ => k.2.2 ls H locs g1 g2 hl hR hS)⟩
  · have k := kt hc
    exact ⟨k.1, k.2.1, fun ls H locs g1 g2 hl hR hS => lv_icmp_ne hx hb hm ht (fun _ => k.2.2 ls H locs g1 g2 hl hR hS) (fun n => absurd n hc)⟩
theorem ab_ifeq {G : ab_G} {M : ab_M} {X : ab_X} {pc : Nat} {l : List (Nat × Value)} {st : List Value} {h : List ab_E} (hX : ab_Good G M X) {x : Int32} {off : Int} {tgt : Nat} (hm : decode M.2.1 pc = .ok (.ifCond .eq off, 3)) (ht : (pc : Int) + off = (tgt : Int)) (kt : (x = 0) → ab_WA G M X tgt l st h) (kf : ¬ (x = 0) → ab_WA G M X (pc + 3) l st h) : ab_WA G M X pc l (.int x :: st) h := by
  obtain ⟨p, e, R, s, m, args, below, meth, c, Q, h0⟩ := X
  obtain ⟨hx, hb, hml, hr, hlk, hown, hts, hal, hsz, hkp, hnm, hrf, hrl, hG⟩ := hX
  by_cases hc : (x = 0)
  · have k := kt hc
    exact ⟨k.1, k.2.1, fun ls H locs g1 g2 hl hR hS => lv_if_eq hx hb hm ht (fun _ => k.2.2 ls H locs g1 g2 hl hR hS) (fun n => absurd hc n)⟩
  · have k := kf hc
    exact ⟨k.1, k.2.1, fun ls H locs g1 g2 hl hR hS => lv_if_eq hx hb hm ht (fun n => absurd n hc) (fun _ => k.2.2 ls H locs g1 g2 hl hR hS)⟩
theorem ab_icmpeq {G : ab_G} {M : ab_M} {X : ab_X} {pc : Nat} {l : List (Nat × Value)} {st : List Value} {h : List ab_E} (hX : ab_Good G M X) {x y : Int32} {off : Int} {tgt : Nat} (hm : decode M.2.1 pc = .ok (.if_icmp .eq off, 3)) (ht : (pc : Int) + off = (tgt : Int)) (kt : (x = y) → ab_WA G M X tgt l st h) (kf : ¬ (x = y) → ab_WA G M X (pc + 3) l st h) : ab_WA G M X pc l (.int y :: .int x :: st) h := by
  obtain ⟨p, e, R, s, m, args, below, meth, c, Q, h0⟩ := X
  obtain ⟨hx, hb, hml, hr, hlk, hown, hts, hal, hsz, hkp, hnm, hrf, hrl, hG⟩ := hX
  by_cases hc : (x = y)
  · have k := kt hc
    exact ⟨k.1, k.2.1, fun ls H locs g1 g2 hl hR hS => lv_icmp_eq hx hb hm ht (fun _ => k.2.2 ls H locs g1 g2 hl hR hS) (fun n => absurd hc n)⟩
  · have k := kf hc
    exact ⟨k.1, k.2.1, fun ls H locs g1 g2 hl hR hS => lv_icmp_eq hx hb hm ht (fun n => absurd n hc) (fun _ => k.2.2 ls H locs g1 g2 hl hR hS)⟩
theorem ab_iflt {G : ab_G} {M : ab_M} {X : ab_X} {pc : Nat} {l : List (Nat × Value)} {st : List Value} {h : List ab_E} (hX : ab_Good G M X) {x : Int32} {off : Int} {tgt : Nat} (hm : decode M.2.1 pc = .ok (.ifCond .lt off, 3)) (ht : (pc : Int) + off = (tgt : Int)) (kt : (x < 0) → ab_WA G M X tgt l st h) (kf : ¬ (x < 0) → ab_WA G M X (pc + 3) l st h) : ab_WA G M X pc l (.int x :: st) h := by
  obtain ⟨p, e, R, s, m, args, below, meth, c, Q, h0⟩ := X
  obtain ⟨hx, hb, hml, hr, hlk, hown, hts, hal, hsz, hkp, hnm, hrf, hrl, hG⟩ := hX
  by_cases hc : (x < 0)
  · have k := kt hc
    exact ⟨k.1, k.2.1, fun ls H locs g1 g2 hl hR hS => lv_if_lt hx hb hm ht (fun _ => k.2.2 ls H locs g1 g2 hl hR hS) (fun n => absurd hc n)⟩
  · have k := kf hc
    exact ⟨k.1, k.2.1, fun ls H locs g1 g2 hl hR hS => lv_if_lt hx hb hm ht (fun n => absurd n hc) (fun _ => k.2.2 ls H locs g1 g2 hl hR hS)⟩
theorem ab_icmplt {G : ab_G} {M : ab_M} {X : ab_X} {pc : Nat} {l : List (Nat × Value)} {st : List Value} {h : List ab_E} (hX : ab_Good G M X) {x y : Int32} {off : Int} {tgt : Nat} (hm : decode M.2.1 pc = .ok (.if_icmp .lt off, 3)) (ht : (pc : Int) + off = (tgt : Int)) (kt : (x < y) → ab_WA G M X tgt l st h) (kf : ¬ (x < y) → ab_WA G M X (pc + 3) l st h) : ab_WA G M X pc l (.int y :: .int x :: st) h := by
  obtain ⟨p, e, R, s, m, args, below, meth, c, Q, h0⟩ := X
  obtain ⟨hx, hb, hml, hr, hlk, hown, hts, hal, hsz, hkp, hnm, hrf, hrl, hG⟩ := hX
  by_cases hc : (x < y)
  · have k := kt hc
    exact ⟨k.1, k.2.1, fun ls H locs g1 g2 hl hR hS => lv_icmp_lt hx hb hm ht (fun _ => k.2.2 ls H locs g1 g2 hl hR hS) (fun n => absurd hc n)⟩
  · have k := kf hc
    exact ⟨k.1, k.2.1, fun ls H locs g1 g2 hl hR hS => lv_icmp_lt hx hb hm ht (fun n => absurd n hc) (fun _ => k.2.2 ls H locs g1 g2 hl hR hS)⟩
theorem ab_ifge {G : ab_G} {M : ab_M} {X : ab_X} {pc : Nat} {l : List (Nat × Value)} {st : List Value} {h : List ab_E} (hX : ab_Good G M X) {x : Int32} {off : Int} {tgt : Nat} (hm : decode M.2.1 pc = .ok (.ifCond .ge off, 3)) (ht : (pc : Int) + off = (tgt : Int)) (kt : (0 ≤ x) → ab_WA G M X tgt l st h) (kf : ¬ (0 ≤ x) → ab_WA G M X (pc + 3) l st h) : ab_WA G M X pc l (.int x :: st) h := by
  obtain ⟨p, e, R, s, m, args, below, meth, c, Q, h0⟩ := X
  obtain ⟨hx, hb, hml, hr, hlk, hown, hts, hal, hsz, hkp, hnm, hrf, hrl, hG⟩ := hX
  by_cases hc : (0 ≤ x)
  · have k := kt hc
    exact ⟨k.1, k.2.1, fun ls H locs g1 g2 hl hR hS => lv_if_ge hx hb hm ht (fun _ => k.2.2 ls H locs g1 g2 hl hR hS) (fun n => absurd hc n)⟩
  · have k := kf hc
    exact ⟨k.1, k.2.1, fun ls H locs g1 g2 hl hR hS => lv_if_ge hx hb hm ht (fun n => absurd n hc) (fun _ => k.2.2 ls H locs g1 g2 hl hR hS)⟩
theorem ab_icmpge {G : ab_G} {M : ab_M} {X : ab_X} {pc : Nat} {l : List (Nat × Value)} {st : List Value} {h : List ab_E} (hX : ab_Good G M X) {x y : Int32} {off : Int} {tgt : Nat} (hm : decode M.2.1 pc = .ok (.if_icmp .ge off, 3)) (ht : (pc : Int) + off = (tgt : Int)) (kt : (y ≤ x) → ab_WA G M X tgt l st h) (kf : ¬ (y ≤ x) → ab_WA G M X (pc + 3) l st h) : ab_WA G M X pc l (.int y :: .int x :: st) h := by
  obtain ⟨p, e, R, s, m, args, below, meth, c, Q, h0⟩ := X
  obtain ⟨hx, hb, hml, hr, hlk, hown, hts, hal, hsz, hkp, hnm, hrf, hrl, hG⟩ := hX
  by_cases hc : (y ≤ x)
  · have k := kt hc
    exact ⟨k.1, k.2.1, fun ls H locs g1 g2 hl hR hS => lv_icmp_ge hx hb hm ht (fun _ => k.2.2 ls H locs g1 g2 hl hR hS) (fun n => absurd hc n)⟩
  · have k := kf hc
    exact ⟨k.1, k.2.1, fun ls H locs g1 g2 hl hR hS => lv_icmp_ge hx hb hm ht (fun n => absurd n hc) (fun _ => k.2.2 ls H locs g1 g2 hl hR hS)⟩
theorem ab_ifgt {G : ab_G} {M : ab_M} {X : ab_X} {pc : Nat} {l : List (Nat × Value)} {st : List Value} {h : List ab_E} (hX : ab_Good G M X) {x : Int32} {off : Int} {tgt : Nat} (hm : decode M.2.1 pc = .ok (.ifCond .gt off, 3)) (ht : (pc : Int) + off = (tgt : Int)) (kt : (0 < x) → ab_WA G M X tgt l st h) (kf : ¬ (0 < x) → ab_WA G M X (pc + 3) l st h) : ab_WA G M X pc l (.int x :: st) h := by
  obtain ⟨p, e, R, s, m, args, below, meth, c, Q, h0⟩ := X
  obtain ⟨hx, hb, hml, hr, hlk, hown, hts, hal, hsz, hkp, hnm, hrf, hrl, hG⟩ := hX
  by_cases hc : (0 < x)
  · have k := kt hc
    exact ⟨k.1, k.2.1, fun ls H locs g1 g2 hl hR hS => lv_if_gt hx hb hm ht (fun _ => k.2.2 ls H locs g1 g2 hl hR hS) (fun n => absurd hc n)⟩
  · have k := kf hc
    exact ⟨k.1, k.2.1, fun ls H locs g1 g2 hl hR hS => lv_if_gt hx hb hm ht (fun n => absurd n hc) (fun _ => k.2.2 ls H locs g1 g2 hl hR hS)⟩
theorem ab_icmpgt {G : ab_G} {M : ab_M} {X : ab_X} {pc : Nat} {l : List (Nat × Value)} {st : List Value} {h : List ab_E} (hX : ab_Good G M X) {x y : Int32} {off : Int} {tgt : Nat} (hm : decode M.2.1 pc = .ok (.if_icmp .gt off, 3)) (ht : (pc : Int) + off = (tgt : Int)) (kt : (y < x) → ab_WA G M X tgt l st h) (kf : ¬ (y < x) → ab_WA G M X (pc + 3) l st h) : ab_WA G M X pc l (.int y :: .int x :: st) h := by
  obtain ⟨p, e, R, s, m, args, below, meth, c, Q, h0⟩ := X
  obtain ⟨hx, hb, hml, hr, hlk, hown, hts, hal, hsz, hkp, hnm, hrf, hrl, hG⟩ := hX
  by_cases hc : (y < x)
  · have k := kt hc
    exact ⟨k.1, k.2.1, fun ls H locs g1 g2 hl hR hS => lv_icmp_gt hx hb hm ht (fun _ => k.2.2 ls H locs g1 g2 hl hR hS) (fun n => absurd hc n)⟩
  · have k := kf hc
    exact ⟨k.1, k.2.1, fun ls H locs g1 g2 hl hR hS => lv_icmp_gt hx hb hm ht (fun n => absurd n hc) (fun _ => k.2.2 ls H locs g1 g2 hl hR hS)⟩
theorem ab_ifle {G : ab_G} {M : ab_M} {X : ab_X} {pc : Nat} {l : List (Nat × Value)} {st : List Value} {h : List ab_E} (hX : ab_Good G M X) {x : Int32} {off : Int} {tgt : Nat} (hm : decode M.2.1 pc = .ok (.ifCond .le off, 3)) (ht : (pc : Int) + off = (tgt : Int)) (kt : (x ≤ 0) → ab_WA G M X tgt l st h) (kf : ¬ (x ≤ 0) → ab_WA G M X (pc + 3) l st h) : ab_WA G M X pc l (.int x :: st) h := by
  obtain ⟨p, e, R, s, m, args, below, meth, c, Q, h0⟩ := X
  obtain ⟨hx, hb, hml, hr, hlk, hown, hts, hal, hsz, hkp, hnm, hrf, hrl, hG⟩ := hX
  by_cases hc : (x ≤ 0)
  · have k := kt hc
    exact ⟨k.1, k.2.1, fun ls H locs g1 g2 hl hR hS => lv_if_le hx hb hm ht (fun _ => k.2.2 ls H locs g1 g2 hl hR hS) (fun n => absurd hc n)⟩
  · have k := kf hc
    exact ⟨k.1, k.2.1, fun ls H locs g1 g2 hl hR hS => lv_if_le hx hb hm ht (fun n => absurd n hc) (fun _ => k.2.2 ls H locs g1 g2 hl hR hS)⟩
theorem ab_icmple {G : ab_G} {M : ab_M} {X : ab_X} {pc : Nat} {l : List (Nat × Value)} {st : List Value} {h : List ab_E} (hX : ab_Good G M X) {x y : Int32} {off : Int} {tgt : Nat} (hm : decode M.2.1 pc = .ok (.if_icmp .le off, 3)) (ht : (pc : Int) + off = (tgt : Int)) (kt : (x ≤ y) → ab_WA G M X tgt l st h) (kf : ¬ (x ≤ y) → ab_WA G M X (pc + 3) l st h) : ab_WA G M X pc l (.int y :: .int x :: st) h := by
  obtain ⟨p, e, R, s, m, args, below, meth, c, Q, h0⟩ := X
  obtain ⟨hx, hb, hml, hr, hlk, hown, hts, hal, hsz, hkp, hnm, hrf, hrl, hG⟩ := hX
  by_cases hc : (x ≤ y)
  · have k := kt hc
    exact ⟨k.1, k.2.1, fun ls H locs g1 g2 hl hR hS => lv_icmp_le hx hb hm ht (fun _ => k.2.2 ls H locs g1 g2 hl hR hS) (fun n => absurd hc n)⟩
  · have k := kf hc
    exact ⟨k.1, k.2.1, fun ls H locs g1 g2 hl hR hS => lv_icmp_le hx hb hm ht (fun n => absurd n hc) (fun _ => k.2.2 ls H locs g1 g2 hl hR hS)⟩
theorem ab_tsIn {G : ab_G} {M : ab_M} {X : ab_X} {pc : Nat} {l : List (Nat × Value)} {st : List Value} {h : List ab_E} (hX : ab_Good G M X) {dflt lo hi off : Int} {offs : Array Int} {len : Nat} {x : Int32} {tgt : Nat} (hm : decode M.2.1 pc = .ok (.tableswitch dflt lo hi offs, len)) (h1 : ¬ x.toInt < lo) (h2 : ¬ hi < x.toInt) (ho : offs[(x.toInt - lo).toNat]? = some off) (ht : (pc : Int) + off = (tgt : Int)) (k : ab_WA G M X tgt l st h) : ab_WA G M X pc l (.int x :: st) h := by
  obtain ⟨p, e, R, s, m, args, below, meth, c, Q, h0⟩ := X
  obtain ⟨hx, hb, hml, hr, hlk, hown, hts, hal, hsz, hkp, hnm, hrf, hrl, hG⟩ := hX
  refine ⟨k.1, k.2.1, fun ls H locs g1 g2 hl hR hS => ?_⟩
  exact lv_tableIn hx hb hm h1 h2 ho ht (k.2.2 ls H locs g1 g2 hl hR hS)
theorem ab_tsOut {G : ab_G} {M : ab_M} {X : ab_X} {pc : Nat} {l : List (Nat × Value)} {st : List Value} {h : List ab_E} (hX : ab_Good G M X) {dflt lo hi : Int} {offs : Array Int} {len : Nat} {x : Int32} {tgt : Nat} (hm : decode M.2.1 pc = .ok (.tableswitch dflt lo hi offs, len)) (h1 : x.toInt < lo ∨ hi < x.toInt) (ht : (pc : Int) + dflt = (tgt : Int)) (k : ab_WA G M X tgt l st h) : ab_WA G M X pc l (.int x :: st) h := by
  obtain ⟨p, e, R, s, m, args, below, meth, c, Q, h0⟩ := X
  obtain ⟨hx, hb, hml, hr, hlk, hown, hts, hal, hsz, hkp, hnm, hrf, hrl, hG⟩ := hX
  refine ⟨k.1, k.2.1, fun ls H locs g1 g2 hl hR hS => ?_⟩
  exact lv_tableOut hx hb hm h1 ht (k.2.2 ls H locs g1 g2 hl hR hS)
theorem ab_ls {G : ab_G} {M : ab_M} {X : ab_X} {pc : Nat} {l : List (Nat × Value)} {st : List Value} {h : List ab_E} (hX : ab_Good G M X) {dflt off : Int} {ps : Array (Int × Int)} {len : Nat} {x : Int32} {tgt : Nat} (hm : decode M.2.1 pc = .ok (.lookupswitch dflt ps, len)) (hp : (ps.toList.zip (ps.toList.drop 1)).all (fun (a, next) => a.1 < next.1) = true) (ho : Op.lookupswitch.offset ps.toList dflt x.toInt = off) (ht : (pc : Int) + off = (tgt : Int)) (k : ab_WA G M X tgt l st h) : ab_WA G M X pc l (.int x :: st) h := by
  obtain ⟨p, e, R, s, m, args, below, meth, c, Q, h0⟩ := X
  obtain ⟨hx, hb, hml, hr, hlk, hown, hts, hal, hsz, hkp, hnm, hrf, hrl, hG⟩ := hX
  refine ⟨k.1, k.2.1, fun ls H locs g1 g2 hl hR hS => ?_⟩
  exact lv_lookup hx hb hm hp ho ht (k.2.2 ls H locs g1 g2 hl hR hS)
theorem ab_acmpne {G : ab_G} {M : ab_M} {X : ab_X} {pc : Nat} {l : List (Nat × Value)} {st : List Value} {h : List ab_E} (hX : ab_Good G M X) {v w : Value} {a b : Nat} {off : Int} {tgt : Nat} (hm : decode M.2.1 pc = .ok (.if_acmp .ne off, 3)) (ht : (pc : Int) + off = (tgt : Int)) (hv : ab_ren G v = .ref a) (hw : ab_ren G w = .ref b) (kt : ¬ a = b → ab_WA G M X tgt l st h) (kf : a = b → ab_WA G M X (pc + 3) l st h) : ab_WA G M X pc l (w :: v :: st) h := by
  obtain ⟨p, e, R, s, m, args, below, meth, c, Q, h0⟩ := X
  obtain ⟨hx, hb, hml, hr, hlk, hown, hts, hal, hsz, hkp, hnm, hrf, hrl, hG⟩ := hX
  have e : (w :: v :: st).map (ab_ren G) = va_rf (some b) :: va_rf (some a) :: st.map (ab_ren G) := by rw [List.map_cons, List.map_cons, hv, hw]; rfl
  by_cases hc : a = b
  · have k := kf hc
    exact ⟨k.1, k.2.1, fun ls H locs g1 g2 hl hR hS => by
      rw [e]
      exact lv_acmp_ne hx hb hm ht (fun n => absurd (congrArg some hc) n) (fun _ => k.2.2 ls H locs g1 g2 hl hR hS)⟩
  · have k := kt hc
    exact ⟨k.1, k.2.1, fun ls H locs g1 g2 hl hR hS => by
      rw [e]
      exact lv_acmp_ne hx hb hm ht (fun _ => k.2.2 ls H locs g1 g2 hl hR hS) (fun n => absurd (Option.some.inj n) hc)⟩
theorem ab_ireturn {G : ab_G} {M : ab_M} {X : ab_X} {pc : Nat} {l : List (Nat × Value)} {st : List Value} {h : List ab_E} (hX : ab_Good G M X) {v : Int32} {ty : FieldType} {r : Option Value} {h1 h2 : List ab_E} (hF : ab_Fin G M X r h1 h2) (hm : decode M.2.1 pc = .ok (.ireturn, 1)) (hret : M.2.2.2.1 = some ty) (hn : narrow ty (.int v) = .int v) (hrv : r = some (.int v)) (hh : h = h2) : ab_WA G M X pc l [.int v] h := by
  obtain ⟨p, e, R, s, m, args, below, meth, c, Q, h0⟩ := X
  obtain ⟨hx, hb, hml, hr, hlk, hown, hts, hal, hsz, hkp, hnm, hrf, hrl, hG⟩ := hX
  obtain ⟨rfl, hle, hlz, rfl, rfl⟩ := hF
  subst hh
  subst hrv
  refine ⟨by show h.length ≤ h0.length + (h.length - h0.length); omega, by show ab_sz h ≤ ab_sz h0 + (ab_sz h - ab_sz h0); omega, fun ls H locs g1 g2 hl hR hS => ?_⟩
  exact W.zret hx hb (hr.trans hret) hn (fun t ht hW => ⟨rfl, ⟨by rw [ht]; exact hR, State.WarmedH.trans hal hW⟩, hS.F ht⟩) hS.2.2 hm hlk
theorem ab_lreturn {G : ab_G} {M : ab_M} {X : ab_X} {pc : Nat} {l : List (Nat × Value)} {st : List Value} {h : List ab_E} (hX : ab_Good G M X) {v : Int64} {r : Option Value} {h1 h2 : List ab_E} (hF : ab_Fin G M X r h1 h2) (hm : decode M.2.1 pc = .ok (.lreturn, 1)) (hret : M.2.2.2.1 = some .long) (hrv : r = some (.long v)) (hh : h = h2) : ab_WA G M X pc l [.long v] h := by
  obtain ⟨p, e, R, s, m, args, below, meth, c, Q, h0⟩ := X
  obtain ⟨hx, hb, hml, hr, hlk, hown, hts, hal, hsz, hkp, hnm, hrf, hrl, hG⟩ := hX
  obtain ⟨rfl, hle, hlz, rfl, rfl⟩ := hF
  subst hh
  subst hrv
  refine ⟨by show h.length ≤ h0.length + (h.length - h0.length); omega, by show ab_sz h ≤ ab_sz h0 + (ab_sz h - ab_sz h0); omega, fun ls H locs g1 g2 hl hR hS => ?_⟩
  exact W.lret hx hb (hr.trans hret) (fun t ht hW => ⟨rfl, ⟨by rw [ht]; exact hR, State.WarmedH.trans hal hW⟩, hS.F ht⟩) hS.2.2 hm hlk
theorem ab_vreturn {G : ab_G} {M : ab_M} {X : ab_X} {pc : Nat} {l : List (Nat × Value)} {st : List Value} {h : List ab_E} (hX : ab_Good G M X)  {r : Option Value} {h1 h2 : List ab_E} (hF : ab_Fin G M X r h1 h2) (hm : decode M.2.1 pc = .ok (.return_, 1)) (hret : M.2.2.2.1 = none) (hrv : r = none) (hh : h = h2) : ab_WA G M X pc l [] h := by
  obtain ⟨p, e, R, s, m, args, below, meth, c, Q, h0⟩ := X
  obtain ⟨hx, hb, hml, hr, hlk, hown, hts, hal, hsz, hkp, hnm, hrf, hrl, hG⟩ := hX
  obtain ⟨rfl, hle, hlz, rfl, rfl⟩ := hF
  subst hh
  subst hrv
  refine ⟨by show h.length ≤ h0.length + (h.length - h0.length); omega, by show ab_sz h ≤ ab_sz h0 + (ab_sz h - ab_sz h0); omega, fun ls H locs g1 g2 hl hR hS => ?_⟩
  exact W.vret hx hb (hr.trans hret) (fun t ht hW => ⟨rfl, ⟨by rw [ht]; exact hR, State.WarmedH.trans hal hW⟩, hS.F ht⟩) hS.2.2 hm hlk
theorem ab_areturn {G : ab_G} {M : ab_M} {X : ab_X} {pc : Nat} {l : List (Nat × Value)} {st : List Value} {h : List ab_E} (hX : ab_Good G M X) {v : Value} {rt : FieldType} {r : Option Value} {h1 h2 : List ab_E} (hF : ab_Fin G M X r h1 h2) (hm : decode M.2.1 pc = .ok (.areturn, 1)) (hret : M.2.2.2.1 = some rt) (hrt : (∃ n, rt = .object n) ∨ ∃ t, rt = .array t) (hv : v = .null ∨ (∃ a, v = .ref a) ∨ ∃ x, v = .float x) (hrv : r = some v) (hh : h = h2) : ab_WA G M X pc l [v] h := by
  obtain ⟨p, e, R, s, m, args, below, meth, c, Q, h0⟩ := X
  obtain ⟨hx, hb, hml, hr, hlk, hown, hts, hal, hsz, hkp, hnm, hrf, hrl, hG⟩ := hX
  obtain ⟨rfl, hle, hlz, rfl, rfl⟩ := hF
  subst hh
  subst hrv
  refine ⟨by show h.length ≤ h0.length + (h.length - h0.length); omega, by show ab_sz h ≤ ab_sz h0 + (ab_sz h - ab_sz h0); omega, fun ls H locs g1 g2 hl hR hS => ?_⟩
  exact W.aret hx hb (hr.trans hret) hrt (ab_isref G hv) (fun t ht hW => ⟨rfl, ⟨by rw [ht]; exact hR, State.WarmedH.trans hal hW⟩, hS.F ht⟩) hS.2.2 hm hlk
end
section
/-! Rules for the heap: fields, arrays, what is new, statics, casts. -/
/-- a field of class ci at a pool entry: it is the k-th -/
def ab_fs (M : ab_M) (i ci k : Nat) : Prop := ∃ (C : String) (T : u_T) (N : Nat) (ref : String), ab_cls[ci]? = some (C, T, N) ∧ k < N ∧ (∀ w ∈ u_ws C T N, w ∈ ab_Tg) ∧
  (Cond.fieldLink M.1.cls i ref (T k).2.1 (T k).2.2.1 ∈ ab_Tg ∨ ∃ host, Cond.fieldLinkNest M.1.cls i ref (T k).2.1 (T k).2.2.1 host ∈ ab_Tn) ∧ (ref = (T k).1 ∨ Cond.sameField ref (T k).1 (T k).2.1 (T k).2.2.1 ∈ ab_Tg)
/-- and written -/
def ab_ps (M : ab_M) (i ci k : Nat) (ty : FieldType) : Prop := ∃ (C : String) (T : u_T) (N : Nat) (ref : String) (ty0 : Nat → FieldType), ab_cls[ci]? = some (C, T, N) ∧ k < N ∧ (∀ w ∈ u_ws C T N, w ∈ ab_Tg) ∧
  (∀ k, k < N → parseFieldDescriptor (T k).2.2.1 = some (ty0 k)) ∧ (∀ a, a < N → ∀ b, b < N → a ≠ b → (T a).2.1 ≠ (T b).2.1) ∧ ty0 k = ty ∧
  (ref = (T k).1 ∨ Cond.sameField ref (T k).1 (T k).2.1 (T k).2.2.1 ∈ ab_Tg) ∧
  ((Cond.fieldLink M.1.cls i ref (T k).2.1 (T k).2.2.1 ∈ ab_Tg ∧ ((T k).2.2.2 = false ∨ ((T k).2.2.2 = true ∧ M.1.name = "<init>" ∧ (T k).1 = M.1.cls))) ∨ ((∃ host, Cond.fieldLinkNest M.1.cls i ref (T k).2.1 (T k).2.2.1 host ∈ ab_Tn) ∧ (T k).2.2.2 = false))
theorem ab_same {s : State} {args : Array Value} (hts : ∀ w ∈ ab_Tg, w.before args s = true) {ref : String} {q : String × String × String × Bool} (h : ref = q.1 ∨ Cond.sameField ref q.1 q.2.1 q.2.2.1 ∈ ab_Tg) : ∀ x, s.fieldFound? q.1 q.2.1 q.2.2.1 = some x → s.fieldFound? ref q.2.1 q.2.2.1 = some x := by
  rcases h with rfl | h
  · exact fun _ h => h
  · exact u_same (hts _ h)
theorem ab_getfield {G : ab_G} {M : ab_M} {X : ab_X} {pc : Nat} {l : List (Nat × Value)} {st : List Value} {h : List ab_E} (hX : ab_Good G M X) {i ci k a : Nat} {fs : List Value} {v : Value} (hm : decode M.2.1 pc = .ok (.getfield i, 3)) (hs : ab_fs M i ci k) (hc : h[a]? = some (.inr (ci, fs))) (hv : fs[k]? = some v)
    (kk : ab_WA G M X (pc + 3) l (v :: st) h) : ab_WA G M X pc l (.ref a :: st) h := by
  obtain ⟨p, e, R, s, m, args, below, meth, c, Q, h0⟩ := X
  obtain ⟨hx, hb, hml, hr, hlk, hown, hts, hal, hsz, hkp, hnm, hrf, hrl, hG⟩ := hX
  obtain ⟨C, T, N, ref, q1, q2, q3, q4, q5⟩ := hs
  refine ⟨kk.1, kk.2.1, fun ls H locs g1 g2 hl hR hS => ?_⟩
  have w := kk.2.2 ls H locs g1 g2 hl hR hS
  have hK := va_K.moved hal.alike hG.1
  have he : (ab_wld G h)[a]? = some (G.2.1 + a, .inr (ci, fs.map (ab_ren G))) := ab_wld_get hc
  have hv2 : (fs.map (ab_ren G))[k]? = some (ab_ren G v) := by rw [List.getElem?_map, hv]; rfl
  rcases q4 with q4 | ⟨host, q4⟩
  · exact va_get (D := G.1) hx hb hts q3 hown hK hR.1 a he q1 k q2 (hts _ q4) (ab_same hts q5) hv2 hm w
  · exact va_getN (D := G.1) hx hb hts q3 hown hK hR.1 a he q1 k q2 (va_Nw.use rfl (ab_nw hG hal q4)) (ab_same hts q5) hv2 hm w
/-- the heap's size, read off the room -/
theorem ab_size {p : Program} {l : Launch} {e : Env} {R : Room} {s : State} {m : MethodId} {args : Array Value} {below : List Frame} {meth : Method} {c : Code} {H : Heap} {locs : List Loc} {cells slots n0 : Nat} {Q : State → Prop} {g : JFrame} {G : ab_G} {h : List ab_E}
    (hP : va_P G.1 ab_cls (ab_wld G h) H) (hs : s.heap.size = G.2.1 + n0) (hn : h.length = n0 + cells) (hz : s.heap.size ≤ H.size) (k : H.size = G.2.1 + h.length → W p l e R s m args below meth c H locs cells slots Q g) : W p l e R s m args below meth c H locs cells slots Q g := by
  intro T hT X
  have h1 := X.heapSize
  rw [hT] at h1
  have h2 : G.2.1 + h.length ≤ H.size := by
    by_cases h0 : h.length = 0
    · omega
    · have hl : h.length - 1 < h.length := by omega
      have := (hP (h.length - 1) _ (ab_wld_get (List.getElem?_eq_getElem hl))).lt
      have e : ((G.2.1 + (h.length - 1), ab_renE G h[h.length - 1]) : Nat × va_E).1 = G.2.1 + (h.length - 1) := rfl
      rw [e] at this
      omega
  exact k (by omega) T hT X
/-- the place of a new cell, read off the room -/
theorem ab_place {p : Program} {l : Launch} {e : Env} {R : Room} {s : State} {m : MethodId} {args : Array Value} {below : List Frame} {meth : Method} {c : Code} {H : Heap} {locs : List Loc} {cells slots n0 : Nat} {Q : State → Prop} {g : JFrame} {G : ab_G} {h : List ab_E} {q : Nat} {v : va_E}
    (hP : va_P G.1 ab_cls (ab_wld G h ++ [(q, v)]) H) (hD : va_D (ab_A G) (ab_wld G h ++ [(q, v)])) (hs : s.heap.size = G.2.1 + n0) (hn : h.length + 1 = n0 + cells) (k : q = G.2.1 + h.length → H.size = G.2.1 + (h.length + 1) → W p l e R s m args below meth c H locs cells slots Q g) : W p l e R s m args below meth c H locs cells slots Q g := by
  intro T hT X
  have h1 := X.heapSize
  rw [hT] at h1
  have hw : (ab_wld G h).length = h.length := by simp [ab_wld]
  have hlast : (ab_wld G h ++ [(q, v)])[h.length]? = some (q, v) := by rw [List.getElem?_append_right (by omega), hw, Nat.sub_self]; rfl
  have hq1 : q < H.size := (hP _ _ hlast).lt
  have hq2 : G.2.1 ≤ q := hD.2 _ _ hlast
  have hq3 : ¬ q < G.2.1 + h.length := by
    intro hlt
    have hk : q - G.2.1 < h.length := by omega
    have hg : (ab_wld G h ++ [(q, v)])[q - G.2.1]? = some (G.2.1 + (q - G.2.1), ab_renE G h[q - G.2.1]) := by
      rw [List.getElem?_append_left (by omega)]
      exact ab_wld_get (List.getElem?_eq_getElem hk)
    have := hD.1 _ _ _ _ hg hlast (by show G.2.1 + (q - G.2.1) = q; omega)
    omega
  exact k (by omega) (by omega) T hT X
theorem ab_putfield {G : ab_G} {M : ab_M} {X : ab_X} {pc : Nat} {l : List (Nat × Value)} {st : List Value} {h h1 : List ab_E} (hX : ab_Good G M X) {i ci k a : Nat} {fs : List Value} {v : Value} {ty : FieldType} (hm : decode M.2.1 pc = .ok (.putfield i, 3)) (hs : ab_ps M i ci k ty) (hc : h[a]? = some (.inr (ci, fs))) (hl0 : k < fs.length) (hn : narrow ty (ab_ren G v) = ab_ren G v) (hfit : fits ty (ab_ren G v) = true)
    (hh : h.set a (.inr (ci, fs.set k v)) = h1) (kk : ab_WA G M X (pc + 3) l st h1) : ab_WA G M X pc l (v :: .ref a :: st) h := by
  subst hh
  obtain ⟨p, e, R, s, m, args, below, meth, c, Q, h0⟩ := X
  obtain ⟨hx, hb, hml, hr, hlk, hown, hts, hal, hsz, hkp, hnm, hrf, hrl, hG⟩ := hX
  obtain ⟨C, T, N, ref, ty0, q1, q2, q3, hty, hap, rfl, q5, q4⟩ := hs
  have e1 : (h.set a (.inr (ci, fs.set k v) : ab_E)).length = h.length := List.length_set
  have e2 : ab_sz (h.set a (.inr (ci, fs.set k v))) = ab_sz h := ab_sz_set hc rfl
  refine ⟨by rw [← e1]; exact kk.1, by rw [← e2]; exact kk.2.1, fun ls H locs g1 g2 hl hR hS => ?_⟩
  have hK := va_K.moved hal.alike hG.1
  have he : (ab_wld G h)[a]? = some (G.2.1 + a, .inr (ci, fs.map (ab_ren G))) := ab_wld_get hc
  have hl1 : k < (fs.map (ab_ren G)).length := by rw [List.length_map]; exact hl0
  have go : ∀ (H1 : Heap) (locs1 : List Loc), va_P G.1 ab_cls ((ab_wld G h).set a (G.2.1 + a, .inr (ci, (fs.map (ab_ren G)).set k (ab_ren G v)))) H1 → va_D (ab_A G) ((ab_wld G h).set a (G.2.1 + a, .inr (ci, (fs.map (ab_ren G)).set k (ab_ren G v)))) → va_S (ab_A G) s.heap H1 locs1 → W p G.2.2.2.2.2 e R s m args below meth c H1 locs1 (h.length - h0.length) (ab_sz h - ab_sz h0) Q (F0 m (pc + 3) ls (st.map (ab_ren G))) := by
    intro H1 locs1 hP1 hD1 hS1
    have hP2 : va_P G.1 ab_cls (ab_wld G (h.set a (.inr (ci, fs.set k v)))) H1 := by
      rw [ab_wld_set]
      show va_P G.1 ab_cls ((ab_wld G h).set a (G.2.1 + a, .inr (ci, (fs.set k v).map (ab_ren G)))) H1
      rw [List.map_set]
      exact hP1
    refine ab_size (n0 := h0.length) hP2 hsz (by rw [e1]; omega) hS1.1 fun hz => ?_
    have w := kk.2.2 ls H1 locs1 (by rw [e1]; exact g1) (by rw [e2]; exact g2) hl ⟨hP2, hz, fun q hq => (hS1.2.1 q (by omega) (Nat.not_le.mpr hq)).trans (hkp q hq)⟩ hS1
    rw [e1, e2] at w
    exact w
  rcases q4 with ⟨q4, q6⟩ | ⟨⟨host, q4⟩, q6⟩
  · rcases q6 with q6 | ⟨q6, q7, q8⟩
    · exact va_put (D := G.1) hx hb hts q3 ty0 hty hap hown hK hR.1 (ab_wld_D G h) hS a he q1 k q2 (hts _ q4) (ab_same hts q5) q6 (hty k q2) hn hfit hl1 hm go
    · exact va_putF (D := G.1) hx hb hts q3 ty0 hty hap hown hK hR.1 (ab_wld_D G h) hS a he q1 k q2 (hts _ q4) (ab_same hts q5) q6 (hnm.trans q7) q8 (hty k q2) hn hfit hl1 hm go
  · exact va_putN (D := G.1) hx hb hts q3 ty0 hty hap hown hK hR.1 (ab_wld_D G h) hS a he q1 k q2 (va_Nw.use rfl (ab_nw hG hal q4)) (ab_same hts q5) q6 (hty k q2) hn hfit hl1 hm go
end
section
/-! Rules for arrays, what is new, statics, casts. -/
theorem ab_iaload {G : ab_G} {M : ab_M} {X : ab_X} {pc : Nat} {l : List (Nat × Value)} {st : List Value} {h : List ab_E} (hX : ab_Good G M X) {a n : Nat} {f : Nat → Int32} {i : Int32} (hm : decode M.2.1 pc = .ok (.iaload, 1)) (hc : h[a]? = some (.inl (0, n, .inl f))) (hin : vp_in i n)
    (kk : ab_WA G M X (pc + 1) l (.int (f i.toNatClampNeg) :: st) h) : ab_WA G M X pc l (.int i :: .ref a :: st) h := by
  obtain ⟨p, e, R, s, m, args, below, meth, c, Q, h0⟩ := X
  obtain ⟨hx, hb, hml, hr, hlk, hown, hts, hal, hsz, hkp, hnm, hrf, hrl, hG⟩ := hX
  refine ⟨kk.1, kk.2.1, fun ls H locs g1 g2 hl hR hS => ?_⟩
  have w := kk.2.2 ls H locs g1 g2 hl hR hS
  have hK := va_K.moved hal.alike hG.1
  have he : (ab_wld G h)[a]? = some (G.2.1 + a, .inl (G.2.2.2.1 0, n, .inl f)) := ab_wld_get hc
  exact va_iald (D := G.1) hx hb hK hR.1 a 0 he rfl hin hm w
theorem ab_laload {G : ab_G} {M : ab_M} {X : ab_X} {pc : Nat} {l : List (Nat × Value)} {st : List Value} {h : List ab_E} (hX : ab_Good G M X) {a n : Nat} {f : Nat → Int64} {i : Int32} (hm : decode M.2.1 pc = .ok (.laload, 1)) (hc : h[a]? = some (.inl (1, n, .inr (.inl f)))) (hin : vp_in i n)
    (kk : ab_WA G M X (pc + 1) l (.long (f i.toNatClampNeg) :: st) h) : ab_WA G M X pc l (.int i :: .ref a :: st) h := by
  obtain ⟨p, e, R, s, m, args, below, meth, c, Q, h0⟩ := X
  obtain ⟨hx, hb, hml, hr, hlk, hown, hts, hal, hsz, hkp, hnm, hrf, hrl, hG⟩ := hX
  refine ⟨kk.1, kk.2.1, fun ls H locs g1 g2 hl hR hS => ?_⟩
  have w := kk.2.2 ls H locs g1 g2 hl hR hS
  have hK := va_K.moved hal.alike hG.1
  have he : (ab_wld G h)[a]? = some (G.2.1 + a, .inl (G.2.2.2.1 1, n, .inr (.inl f))) := ab_wld_get hc
  exact va_lald (D := G.1) hx hb hK hR.1 a 1 he rfl hin hm w
/-- array of references: t its class's place (2: Object, 3: Shelf) -/
theorem ab_aaload {G : ab_G} {M : ab_M} {X : ab_X} {pc : Nat} {l : List (Nat × Value)} {st : List Value} {h : List ab_E} (hX : ab_Good G M X) {a n t : Nat} {f : Nat → Option Nat} {i : Int32} {v : Value} (ht : t = 2 ∨ t = 3) (hm : decode M.2.1 pc = .ok (.aaload, 1)) (hc : h[a]? = some (.inl (t, n, .inr (.inr (.inr (.inr f)))))) (hin : vp_in i n) (hv : va_rf (f i.toNatClampNeg) = v)
    (kk : ab_WA G M X (pc + 1) l (v :: st) h) : ab_WA G M X pc l (.int i :: .ref a :: st) h := by
  subst hv
  obtain ⟨p, e, R, s, m, args, below, meth, c, Q, h0⟩ := X
  obtain ⟨hx, hb, hml, hr, hlk, hown, hts, hal, hsz, hkp, hnm, hrf, hrl, hG⟩ := hX
  refine ⟨kk.1, kk.2.1, fun ls H locs g1 g2 hl hR hS => ?_⟩
  have w := kk.2.2 ls H locs g1 g2 hl hR hS
  have hK := va_K.moved hal.alike hG.1
  have he : (ab_wld G h)[a]? = some (G.2.1 + a, .inl (G.2.2.2.1 t, n, .inr (.inr (.inr (.inr (fun j => (f j).map (G.2.1 + ·))))))) := ab_wld_get hc
  have e2 : va_rf ((f i.toNatClampNeg).map (G.2.1 + ·)) = ab_ren G (va_rf (f i.toNatClampNeg)) := by cases f i.toNatClampNeg <;> rfl
  rcases ht with rfl | rfl
  · exact va_aldq (D := G.1) hx hb hK hR.1 a 2 he rfl hin hm (by rw [e2]; exact w)
  · exact va_aldq (D := G.1) hx hb hK hR.1 a 3 he rfl hin hm (by rw [e2]; exact w)
theorem ab_alen {G : ab_G} {M : ab_M} {X : ab_X} {pc : Nat} {l : List (Nat × Value)} {st : List Value} {h : List ab_E} (hX : ab_Good G M X) {a t : Nat} {x : vp_A} {v : Int32} (hm : decode M.2.1 pc = .ok (.arraylength, 1)) (hc : h[a]? = some (.inl (t, x))) (ht : t < 4) (hv : Int32.ofNat x.1 = v)
    (kk : ab_WA G M X (pc + 1) l (.int v :: st) h) : ab_WA G M X pc l (.ref a :: st) h := by
  obtain ⟨p, e, R, s, m, args, below, meth, c, Q, h0⟩ := X
  obtain ⟨hx, hb, hml, hr, hlk, hown, hts, hal, hsz, hkp, hnm, hrf, hrl, hG⟩ := hX
  refine ⟨kk.1, kk.2.1, fun ls H locs g1 g2 hl hR hS => ?_⟩
  have w := kk.2.2 ls H locs g1 g2 hl hR hS
  have hK := va_K.moved hal.alike hG.1
  have he : (ab_wld G h)[a]? = some (G.2.1 + a, .inl (G.2.2.2.1 t, ab_renA G x)) := ab_wld_get hc
  have hv2 : Int32.ofNat (ab_renA G x).1 = v := by
    rw [← hv]
    obtain ⟨n, f⟩ := x
    rcases f with f | f | f | f | f <;> rfl
  have hty : ∃ ty, (ab_tys G)[t]? = some (G.2.2.2.1 t, ty) := by
    match t, ht with
    | 0, _ => exact ⟨_, rfl⟩
    | 1, _ => exact ⟨_, rfl⟩
    | 2, _ => exact ⟨_, rfl⟩
    | 3, _ => exact ⟨_, rfl⟩
  obtain ⟨ty, hty⟩ := hty
  exact va_alen (D := G.1) hx hb hK hR.1 a t he hty hv2 hm w
section STORES
variable {G : ab_G} {M : ab_M} {pc : Nat} {l : List (Nat × Value)} {st : List Value} {h : List ab_E}
variable {p : Program} {e : Env} {R : Room} {s : State} {m : MethodId} {args : Array Value} {below : List Frame} {meth : Method} {c : Code} {Q : State → Prop} {h0 : List ab_E}
/-- behind the writing of one cell of the same size -/
theorem ab_after {ls : Array Slot} {a : Nat} {c0 c1 : ab_E} {pc2 : Nat} (hc : h[a]? = some c0) (hsame : ab_szE c1 = ab_szE c0) (hsz : s.heap.size = G.2.1 + h0.length) (hkp : ∀ q : Nat, q < G.2.1 → s.heap[q]? = G.2.2.2.2.1.heap[q]?) (g1 : h0.length ≤ h.length) (g2 : ab_sz h0 ≤ ab_sz h) (hl : lv_has ls M.2.2.1 (ab_ll G l))
    (kk : ab_WA G M (p, e, R, s, m, args, below, meth, c, Q, h0) pc2 l st (h.set a c1)) :
    ∀ (H1 : Heap) (locs1 : List Loc), va_P G.1 ab_cls ((ab_wld G h).set a (G.2.1 + a, ab_renE G c1)) H1 → va_D (ab_A G) ((ab_wld G h).set a (G.2.1 + a, ab_renE G c1)) → va_S (ab_A G) s.heap H1 locs1 → W p G.2.2.2.2.2 e R s m args below meth c H1 locs1 (h.length - h0.length) (ab_sz h - ab_sz h0) Q (F0 m pc2 ls (st.map (ab_ren G))) := by
  intro H1 locs1 hP1 hD1 hS1
  have e1 : (h.set a c1).length = h.length := List.length_set
  have e2 : ab_sz (h.set a c1) = ab_sz h := ab_sz_set hc hsame
  have hP2 : va_P G.1 ab_cls (ab_wld G (h.set a c1)) H1 := by rw [ab_wld_set]; exact hP1
  refine ab_size (n0 := h0.length) hP2 hsz (by rw [e1]; omega) hS1.1 fun hz => ?_
  have w := kk.2.2 ls H1 locs1 (by rw [e1]; exact g1) (by rw [e2]; exact g2) hl ⟨hP2, hz, fun q hq => (hS1.2.1 q (by omega) (Nat.not_le.mpr hq)).trans (hkp q hq)⟩ hS1
  rw [e1, e2] at w
  exact w
end STORES
theorem ab_iastore {G : ab_G} {M : ab_M} {X : ab_X} {pc : Nat} {l : List (Nat × Value)} {st : List Value} {h h1 : List ab_E} (hX : ab_Good G M X) {a n : Nat} {f : Nat → Int32} {i x : Int32} (hm : decode M.2.1 pc = .ok (.iastore, 1)) (hc : h[a]? = some (.inl (0, n, .inl f))) (hin : vp_in i n)
    (hh : h.set a (.inl (0, n, .inl (upd f i.toNatClampNeg x))) = h1) (kk : ab_WA G M X (pc + 1) l st h1) : ab_WA G M X pc l (.int x :: .int i :: .ref a :: st) h := by
  subst hh
  obtain ⟨p, e, R, s, m, args, below, meth, c, Q, h0⟩ := X
  obtain ⟨hx, hb, hml, hr, hlk, hown, hts, hal, hsz, hkp, hnm, hrf, hrl, hG⟩ := hX
  have e1 : (h.set a (.inl (0, n, .inl (upd f i.toNatClampNeg x)) : ab_E)).length = h.length := List.length_set
  have e2 : ab_sz (h.set a (.inl (0, n, .inl (upd f i.toNatClampNeg x)))) = ab_sz h := ab_sz_set hc rfl
  refine ⟨by rw [← e1]; exact kk.1, by rw [← e2]; exact kk.2.1, fun ls H locs g1 g2 hl hR hS => ?_⟩
  have hK := va_K.moved hal.alike hG.1
  have he : (ab_wld G h)[a]? = some (G.2.1 + a, .inl (G.2.2.2.1 0, n, .inl f)) := ab_wld_get hc
  exact va_iast (D := G.1) hx hb hK hR.1 (ab_wld_D G h) hS a 0 he rfl hin hm (ab_after (c1 := .inl (0, n, .inl (upd f i.toNatClampNeg x))) hc rfl hsz hkp g1 g2 hl kk)
theorem ab_lastore {G : ab_G} {M : ab_M} {X : ab_X} {pc : Nat} {l : List (Nat × Value)} {st : List Value} {h h1 : List ab_E} (hX : ab_Good G M X) {a n : Nat} {f : Nat → Int64} {i : Int32} {x : Int64} (hm : decode M.2.1 pc = .ok (.lastore, 1)) (hc : h[a]? = some (.inl (1, n, .inr (.inl f)))) (hin : vp_in i n)
    (hh : h.set a (.inl (1, n, .inr (.inl (vp_updL f i.toNatClampNeg x)))) = h1) (kk : ab_WA G M X (pc + 1) l st h1) : ab_WA G M X pc l (.long x :: .int i :: .ref a :: st) h := by
  subst hh
  obtain ⟨p, e, R, s, m, args, below, meth, c, Q, h0⟩ := X
  obtain ⟨hx, hb, hml, hr, hlk, hown, hts, hal, hsz, hkp, hnm, hrf, hrl, hG⟩ := hX
  have e1 : (h.set a (.inl (1, n, .inr (.inl (vp_updL f i.toNatClampNeg x))) : ab_E)).length = h.length := List.length_set
  have e2 : ab_sz (h.set a (.inl (1, n, .inr (.inl (vp_updL f i.toNatClampNeg x))))) = ab_sz h := ab_sz_set hc rfl
  refine ⟨by rw [← e1]; exact kk.1, by rw [← e2]; exact kk.2.1, fun ls H locs g1 g2 hl hR hS => ?_⟩
  have hK := va_K.moved hal.alike hG.1
  have he : (ab_wld G h)[a]? = some (G.2.1 + a, .inl (G.2.2.2.1 1, n, .inr (.inl f))) := ab_wld_get hc
  exact va_last (D := G.1) hx hb hK hR.1 (ab_wld_D G h) hS a 1 he rfl hin hm (ab_after (c1 := .inl (1, n, .inr (.inl (vp_updL f i.toNatClampNeg x)))) hc rfl hsz hkp g1 g2 hl kk)
/-- an object stored into an array of its own class -/
theorem ab_renA_up (G : ab_G) (f : Nat → Option Nat) (k v : Nat) : (fun j => ((va_up f k (some v)) j).map (G.2.1 + ·)) = va_up (fun j => (f j).map (G.2.1 + ·)) k (some (G.2.1 + v)) := by
  funext j
  unfold va_up
  by_cases h : j = k
  · rw [if_pos h, if_pos h]; rfl
  · rw [if_neg h, if_neg h]
theorem ab_renA_upN (G : ab_G) (f : Nat → Option Nat) (k : Nat) : (fun j => ((va_up f k none) j).map (G.2.1 + ·)) = va_up (fun j => (f j).map (G.2.1 + ·)) k none := by
  funext j
  unfold va_up
  by_cases h : j = k
  · rw [if_pos h, if_pos h]; rfl
  · rw [if_neg h, if_neg h]
/-- an object of class ci into an array of Shelf (t 3: ci 10) or of Object (t 2: any that is castable) -/
theorem ab_aastore {G : ab_G} {M : ab_M} {X : ab_X} {pc : Nat} {l : List (Nat × Value)} {st : List Value} {h h1 : List ab_E} (hX : ab_Good G M X) {a n t ci v : Nat} {vs : List Value} {r : vw_C} {f : Nat → Option Nat} {i : Int32} (hm : decode M.2.1 pc = .ok (.aastore, 1)) (ht : (t = 2 ∧ Cond.castable r.1 "java/lang/Object" ∈ ab_Tn) ∨ (t = 3 ∧ r.1 = "WitnessesMustLie$Shelf")) (hc : h[a]? = some (.inl (t, n, .inr (.inr (.inr (.inr f)))))) (hin : vp_in i n) (hv : h[v]? = some (.inr (ci, vs))) (hr0 : ab_cls[ci]? = some r)
    (hh : h.set a (.inl (t, n, .inr (.inr (.inr (.inr (va_up f i.toNatClampNeg (some v))))))) = h1) (kk : ab_WA G M X (pc + 1) l st h1) : ab_WA G M X pc l (.ref v :: .int i :: .ref a :: st) h := by
  subst hh
  obtain ⟨p, e, R, s, m, args, below, meth, c, Q, h0⟩ := X
  obtain ⟨hx, hb, hml, hr, hlk, hown, hts, hal, hsz, hkp, hnm, hrf, hrl, hG⟩ := hX
  have e1 : (h.set a (.inl (t, n, .inr (.inr (.inr (.inr (va_up f i.toNatClampNeg (some v)))))) : ab_E)).length = h.length := List.length_set
  have e2 : ab_sz (h.set a (.inl (t, n, .inr (.inr (.inr (.inr (va_up f i.toNatClampNeg (some v)))))))) = ab_sz h := ab_sz_set hc rfl
  refine ⟨by rw [← e1]; exact kk.1, by rw [← e2]; exact kk.2.1, fun ls H locs g1 g2 hl hR hS => ?_⟩
  have hK := va_K.moved hal.alike hG.1
  have he : (ab_wld G h)[a]? = some (G.2.1 + a, .inl (G.2.2.2.1 t, n, .inr (.inr (.inr (.inr (fun j => (f j).map (G.2.1 + ·))))))) := ab_wld_get hc
  have hv2 : (ab_wld G h)[v]? = some (G.2.1 + v, .inr (ci, vs.map (ab_ren G))) := ab_wld_get hv
  have go := ab_after (l := l) (st := st) (c1 := .inl (t, n, .inr (.inr (.inr (.inr (va_up f i.toNatClampNeg (some v))))))) hc rfl hsz hkp g1 g2 hl kk
  have er : ab_renE G (.inl (t, n, .inr (.inr (.inr (.inr (va_up f i.toNatClampNeg (some v))))))) = .inl (G.2.2.2.1 t, n, .inr (.inr (.inr (.inr (va_up (fun j => (f j).map (G.2.1 + ·)) i.toNatClampNeg (some (G.2.1 + v))))))) := by
    show (Sum.inl (G.2.2.2.1 t, n, .inr (.inr (.inr (.inr (fun j => ((va_up f i.toNatClampNeg (some v)) j).map (G.2.1 + ·)))))) : va_E) = _
    rw [ab_renA_up]
  rw [er] at go
  rcases ht with ⟨rfl, hcast⟩ | ⟨rfl, hrn⟩
  · exact va_astqO (D := G.1) (E := "java/lang/Object") hx hb hK hR.1 (ab_wld_D G h) hS a 2 v ci he rfl (ab_nw hG hal hcast) hv2 hr0 hin hm go
  · exact va_astq (D := G.1) hx hb hK hR.1 (ab_wld_D G h) hS a 3 v ci he (by rw [hrn]; rfl) hv2 hr0 hin hm go
theorem ab_aastoreN {G : ab_G} {M : ab_M} {X : ab_X} {pc : Nat} {l : List (Nat × Value)} {st : List Value} {h h1 : List ab_E} (hX : ab_Good G M X) {a n : Nat} {f : Nat → Option Nat} {i : Int32} (hm : decode M.2.1 pc = .ok (.aastore, 1)) (hc : h[a]? = some (.inl (2, n, .inr (.inr (.inr (.inr f)))))) (hin : vp_in i n)
    (hh : h.set a (.inl (2, n, .inr (.inr (.inr (.inr (va_up f i.toNatClampNeg none)))))) = h1) (kk : ab_WA G M X (pc + 1) l st h1) : ab_WA G M X pc l (.null :: .int i :: .ref a :: st) h := by
  subst hh
  obtain ⟨p, e, R, s, m, args, below, meth, c, Q, h0⟩ := X
  obtain ⟨hx, hb, hml, hr, hlk, hown, hts, hal, hsz, hkp, hnm, hrf, hrl, hG⟩ := hX
  have e1 : (h.set a (.inl (2, n, .inr (.inr (.inr (.inr (va_up f i.toNatClampNeg none))))) : ab_E)).length = h.length := List.length_set
  have e2 : ab_sz (h.set a (.inl (2, n, .inr (.inr (.inr (.inr (va_up f i.toNatClampNeg none))))))) = ab_sz h := ab_sz_set hc rfl
  refine ⟨by rw [← e1]; exact kk.1, by rw [← e2]; exact kk.2.1, fun ls H locs g1 g2 hl hR hS => ?_⟩
  have hK := va_K.moved hal.alike hG.1
  have he : (ab_wld G h)[a]? = some (G.2.1 + a, .inl (G.2.2.2.1 2, n, .inr (.inr (.inr (.inr (fun j => (f j).map (G.2.1 + ·))))))) := ab_wld_get hc
  have go := ab_after (l := l) (st := st) (c1 := .inl (2, n, .inr (.inr (.inr (.inr (va_up f i.toNatClampNeg none)))))) hc rfl hsz hkp g1 g2 hl kk
  have er : ab_renE G (.inl (2, n, .inr (.inr (.inr (.inr (va_up f i.toNatClampNeg none)))))) = .inl (G.2.2.2.1 2, n, .inr (.inr (.inr (.inr (va_up (fun j => (f j).map (G.2.1 + ·)) i.toNatClampNeg none))))) := by
    show (Sum.inl (G.2.2.2.1 2, n, .inr (.inr (.inr (.inr (fun j => ((va_up f i.toNatClampNeg none) j).map (G.2.1 + ·)))))) : va_E) = _
    rw [ab_renA_upN]
  rw [er] at go
  exact va_astqN (D := G.1) hx hb hK hR.1 (ab_wld_D G h) hS a 2 he rfl hin hm go
/-- a new object of class ci at pool entry i -/
def ab_ns (M : ab_M) (i ci : Nat) (fs : List Value) : Prop := ∃ (C : String) (T : u_T) (N : Nat) (ty0 : Nat → FieldType), ab_cls[ci]? = some (C, T, N) ∧ (∀ w ∈ u_ws C T N, w ∈ ab_Tg) ∧ (∀ k, k < N → parseFieldDescriptor (T k).2.2.1 = some (ty0 k)) ∧
  Cond.classLink M.1.cls i C ∈ ab_Tg ∧ Cond.instantiable C N ∈ ab_Tg ∧ Cond.initialized C ∈ ab_Tg ∧ (∀ (G : ab_G) (j : Nat), j < N → defaultValue (ty0 j) = vp_V (fs.map (ab_ren G)) j)
theorem ab_new {G : ab_G} {M : ab_M} {X : ab_X} {pc : Nat} {l : List (Nat × Value)} {st : List Value} {h : List ab_E} (hX : ab_Good G M X) {i ci : Nat} {fs : List Value} (hm : decode M.2.1 pc = .ok (.new i, 3)) (hs : ab_ns M i ci fs)
    (kk : ab_WA G M X (pc + 3) l (.ref h.length :: st) (h ++ [.inr (ci, fs)])) : ab_WA G M X pc l st h := by
  obtain ⟨p, e, R, s, m, args, below, meth, c, Q, h0⟩ := X
  obtain ⟨hx, hb, hml, hr, hlk, hown, hts, hal, hsz, hkp, hnm, hrf, hrl, hG⟩ := hX
  obtain ⟨C, T, N, ty0, q1, q2, q3, q4, q5, q6, q7⟩ := hs
  have e1 : (h ++ [(.inr (ci, fs) : ab_E)]).length = h.length + 1 := by simp
  have e2 : ab_sz (h ++ [.inr (ci, fs)]) = ab_sz h + N := by rw [ab_sz_app]; simp [ab_szE, q1]
  have b1 := kk.1
  have b2 := kk.2.1
  rw [e1] at b1
  rw [e2] at b2
  refine ⟨by omega, by omega, fun ls H locs g1 g2 hl hR hS => ?_⟩
  have hK := va_K.moved hal.alike hG.1
  refine va_new (D := G.1) hx hb hts q2 ty0 q3 hown (hts _ q4) (hts _ q5) (hts _ q6) hK hR.1 (ab_wld_D G h) hS (fun q hq => by show G.2.1 ≤ q; omega) q1 (q7 G) (by omega) (by omega) hm fun q H1 hP1 hD1 hS1 => ?_
  refine ab_place (n0 := h0.length) hP1 hD1 hsz (by omega) fun hq hz => ?_
  subst hq
  have hP2 : va_P G.1 ab_cls (ab_wld G (h ++ [.inr (ci, fs)])) H1 := by rw [ab_wld_app]; exact hP1
  have w := kk.2.2 ls H1 locs (by omega) (by omega) hl ⟨hP2, by rw [hz, e1], fun q hq => (hS1.2.1 q (by omega) (Nat.not_le.mpr hq)).trans (hkp q hq)⟩ hS1
  rw [e1, e2, show h.length + 1 - h0.length = h.length - h0.length + 1 by omega, show ab_sz h + N - ab_sz h0 = ab_sz h - ab_sz h0 + N by omega] at w
  exact w
/-- what findClass says of an array's class -/
theorem ab_newint {G : ab_G} {M : ab_M} {X : ab_X} {pc : Nat} {l : List (Nat × Value)} {st : List Value} {h : List ab_E} (hX : ab_Good G M X) {n : Int32} {N : Nat} (hm : decode M.2.1 pc = .ok (.newarray .int, 2)) (hw : Cond.arrayClass .int ∈ ab_Tg) (hn : ¬ n < 0) (hN : n.toNatClampNeg = N) (hb0 : N * 4 ≤ 536870912)
    (kk : ab_WA G M X (pc + 2) l (.ref h.length :: st) (h ++ [.inl (0, N, .inl (fun _ => 0))])) : ab_WA G M X pc l (.int n :: st) h := by
  obtain ⟨p, e, R, s, m, args, below, meth, c, Q, h0⟩ := X
  obtain ⟨hx, hb, hml, hr, hlk, hown, hts, hal, hsz, hkp, hnm, hrf, hrl, hG⟩ := hX
  have e1 : (h ++ [(.inl (0, N, .inl (fun _ => 0)) : ab_E)]).length = h.length + 1 := by simp
  have e2 : ab_sz (h ++ [.inl (0, N, .inl (fun _ => 0))]) = ab_sz h + N := ab_sz_app _ _
  have b1 := kk.1
  have b2 := kk.2.1
  rw [e1] at b1
  rw [e2] at b2
  refine ⟨by omega, by omega, fun ls H locs g1 g2 hl hR hS => ?_⟩
  have hK := va_K.moved hal.alike hG.1
  refine va_newa (D := G.1) (atype := .int) (ty := .int) (a0 := (N, .inl (fun _ => 0))) hx hb (hts _ hw) rfl hK hR.1 (ab_wld_D G h) hS (fun q hq => by show G.2.1 ≤ q; omega) (fun cA => rfl) hn hN hb0 (by omega) (by omega) hm fun q cA H1 hK1 hP1 hD1 hS1 => ?_
  have hcA : cA = G.2.2.2.1 0 := by
    have h1 : s.vm.findClass ("[" ++ FieldType.int.toString) = some cA := (hK1.2 4 (cA, .int) rfl).2
    have h2 : s.vm.findClass ("[" ++ FieldType.int.toString) = some (G.2.2.2.1 0) := (hK1.2 0 (G.2.2.2.1 0, .int) rfl).2
    exact Option.some.inj (h1.symm.trans h2)
  subst hcA
  refine ab_place (n0 := h0.length) hP1 hD1 hsz (by omega) fun hq hz => ?_
  subst hq
  have hP2 : va_P G.1 ab_cls (ab_wld G (h ++ [.inl (0, N, .inl (fun _ => 0))])) H1 := by rw [ab_wld_app]; exact hP1
  have w := kk.2.2 ls H1 locs (by omega) (by omega) hl ⟨hP2, by rw [hz, e1], fun q hq => (hS1.2.1 q (by omega) (Nat.not_le.mpr hq)).trans (hkp q hq)⟩ hS1
  rw [e1, e2, show h.length + 1 - h0.length = h.length - h0.length + 1 by omega, show ab_sz h + N - ab_sz h0 = ab_sz h - ab_sz h0 + N by omega] at w
  exact w
theorem ab_newlong {G : ab_G} {M : ab_M} {X : ab_X} {pc : Nat} {l : List (Nat × Value)} {st : List Value} {h : List ab_E} (hX : ab_Good G M X) {n : Int32} {N : Nat} (hm : decode M.2.1 pc = .ok (.newarray .long, 2)) (hw : Cond.arrayClass .long ∈ ab_Tg) (hn : ¬ n < 0) (hN : n.toNatClampNeg = N) (hb0 : N * 8 ≤ 536870912)
    (kk : ab_WA G M X (pc + 2) l (.ref h.length :: st) (h ++ [.inl (1, N, .inr (.inl (fun _ => 0)))])) : ab_WA G M X pc l (.int n :: st) h := by
  obtain ⟨p, e, R, s, m, args, below, meth, c, Q, h0⟩ := X
  obtain ⟨hx, hb, hml, hr, hlk, hown, hts, hal, hsz, hkp, hnm, hrf, hrl, hG⟩ := hX
  have e1 : (h ++ [(.inl (1, N, .inr (.inl (fun _ => 0))) : ab_E)]).length = h.length + 1 := by simp
  have e2 : ab_sz (h ++ [.inl (1, N, .inr (.inl (fun _ => 0)))]) = ab_sz h + N := ab_sz_app _ _
  have b1 := kk.1
  have b2 := kk.2.1
  rw [e1] at b1
  rw [e2] at b2
  refine ⟨by omega, by omega, fun ls H locs g1 g2 hl hR hS => ?_⟩
  have hK := va_K.moved hal.alike hG.1
  refine va_newa (D := G.1) (atype := .long) (ty := .long) (a0 := (N, .inr (.inl (fun _ => 0)))) hx hb (hts _ hw) rfl hK hR.1 (ab_wld_D G h) hS (fun q hq => by show G.2.1 ≤ q; omega) (fun cA => rfl) hn hN hb0 (by omega) (by omega) hm fun q cA H1 hK1 hP1 hD1 hS1 => ?_
  have hcA : cA = G.2.2.2.1 1 := by
    have h1 : s.vm.findClass ("[" ++ FieldType.long.toString) = some cA := (hK1.2 4 (cA, .long) rfl).2
    have h2 : s.vm.findClass ("[" ++ FieldType.long.toString) = some (G.2.2.2.1 1) := (hK1.2 1 (G.2.2.2.1 1, .long) rfl).2
    exact Option.some.inj (h1.symm.trans h2)
  subst hcA
  refine ab_place (n0 := h0.length) hP1 hD1 hsz (by omega) fun hq hz => ?_
  subst hq
  have hP2 : va_P G.1 ab_cls (ab_wld G (h ++ [.inl (1, N, .inr (.inl (fun _ => 0)))])) H1 := by rw [ab_wld_app]; exact hP1
  have w := kk.2.2 ls H1 locs (by omega) (by omega) hl ⟨hP2, by rw [hz, e1], fun q hq => (hS1.2.1 q (by omega) (Nat.not_le.mpr hq)).trans (hkp q hq)⟩ hS1
  rw [e1, e2, show h.length + 1 - h0.length = h.length - h0.length + 1 by omega, show ab_sz h + N - ab_sz h0 = ab_sz h - ab_sz h0 + N by omega] at w
  exact w
theorem ab_anew {G : ab_G} {M : ab_M} {X : ab_X} {pc : Nat} {l : List (Nat × Value)} {st : List Value} {h : List ab_E} (hX : ab_Good G M X) {i t : Nat} {C : String} {n : Int32} {N : Nat} (hm : decode M.2.1 pc = .ok (.anewarray i, 3)) (ht : (t = 2 ∧ C = "java/lang/Object") ∨ (t = 3 ∧ C = "WitnessesMustLie$Shelf")) (hw1 : Cond.classLink M.1.cls i C ∈ ab_Tg) (hw2 : Cond.arrayOver (.object C) ∈ ab_Tn) (hn : ¬ n < 0) (hN : n.toNatClampNeg = N) (hb0 : N * 4 ≤ 536870912)
    (kk : ab_WA G M X (pc + 3) l (.ref h.length :: st) (h ++ [.inl (t, N, .inr (.inr (.inr (.inr (fun _ => none)))))])) : ab_WA G M X pc l (.int n :: st) h := by
  obtain ⟨p, e, R, s, m, args, below, meth, c, Q, h0⟩ := X
  obtain ⟨hx, hb, hml, hr, hlk, hown, hts, hal, hsz, hkp, hnm, hrf, hrl, hG⟩ := hX
  have e1 : (h ++ [(.inl (t, N, .inr (.inr (.inr (.inr (fun _ => none))))) : ab_E)]).length = h.length + 1 := by simp
  have e2 : ab_sz (h ++ [.inl (t, N, .inr (.inr (.inr (.inr (fun _ => none)))))]) = ab_sz h + N := ab_sz_app _ _
  have b1 := kk.1
  have b2 := kk.2.1
  rw [e1] at b1
  rw [e2] at b2
  refine ⟨by omega, by omega, fun ls H locs g1 g2 hl hR hS => ?_⟩
  have hK := va_K.moved hal.alike hG.1
  refine va_newq (D := G.1) hx hb hown (hts _ hw1) (ab_nw hG hal hw2) hK hR.1 (ab_wld_D G h) hS (fun q hq => by show G.2.1 ≤ q; omega) hn hN hb0 (by omega) (by omega) hm fun q cA H1 hK1 hP1 hD1 hS1 => ?_
  have hcA : cA = G.2.2.2.1 t := by
    obtain ⟨kA, comp, -, -, -, h1⟩ := (hK1.2 4 (cA, .object C) rfl).2
    rcases ht with ⟨rfl, rfl⟩ | ⟨rfl, rfl⟩
    · obtain ⟨kB, comp2, -, -, -, h2⟩ := (hK1.2 2 (G.2.2.2.1 2, .object "java/lang/Object") rfl).2
      exact Option.some.inj (h1.symm.trans h2)
    · obtain ⟨kB, comp2, -, -, -, h2⟩ := (hK1.2 3 (G.2.2.2.1 3, .object "WitnessesMustLie$Shelf") rfl).2
      exact Option.some.inj (h1.symm.trans h2)
  subst hcA
  refine ab_place (n0 := h0.length) hP1 hD1 hsz (by omega) fun hq hz => ?_
  subst hq
  have hP2 : va_P G.1 ab_cls (ab_wld G (h ++ [.inl (t, N, .inr (.inr (.inr (.inr (fun _ => none)))))])) H1 := by rw [ab_wld_app]; exact hP1
  have w := kk.2.2 ls H1 locs (by omega) (by omega) hl ⟨hP2, by rw [hz, e1], fun q hq => (hS1.2.1 q (by omega) (Nat.not_le.mpr hq)).trans (hkp q hq)⟩ hS1
  rw [e1, e2, show h.length + 1 - h0.length = h.length - h0.length + 1 by omega, show ab_sz h + N - ab_sz h0 = ab_sz h - ab_sz h0 + N by omega] at w
  exact w
end
section
/-! Rules for calls, casts, statics. -/
theorem ab_tg_good {ws : List Cond} (h : ∀ w ∈ ws, w ∈ ab_Tg) : GoodIn ab_Tg ws := fun w hw => ⟨h w hw, good_of_word (List.mem_filter.mp (h w hw)).2⟩
theorem ab_ws_in {Z : ab_M} (hc : Cond.code Z.1 Z.2.1 Z.2.2.1 Z.2.2.2.1 ∈ ab_Tg) : ∀ w ∈ ab_ws Z, w ∈ ab_Tg := fun w hw => (List.mem_cons.mp hw).elim (fun e => by rw [e]; exact hc) id
/-- what every call asks: the callee's code, its room, its arguments -/
def ab_c0 (M Z : ab_M) (n : Nat) : Prop := Cond.code Z.1 Z.2.1 Z.2.2.1 Z.2.2.2.1 ∈ ab_Tg ∧ Cond.initialized Z.1.cls ∈ ab_Tg ∧ (Z.1.cls ≠ "java/lang/invoke/MethodHandle" ∧ Z.1.cls ≠ "java/lang/invoke/VarHandle" ∧ (parseMethodDescriptor Z.1.desc).map (fun d => d.parameters.length) = some n) ∧ Z.2.2.2.2.1 + 1 ≤ M.2.2.2.2.1 ∧ 8 + (Z.2.2.1 + 11) + Z.2.2.2.2.2 ≤ M.2.2.2.2.2
section GO
variable {p : Program} {l : Launch} {e : Env} {R : Room} {s : State} {m : MethodId} {args : Array Value} {below : List Frame} {meth : Method} {c : Code} {H : Heap} {locs : List Loc} {cells slots mc ms pc : Nat} {Q : State → Prop} {ls : Array Slot} {rest st0 : List Value}
theorem ab_cont {G : ab_G} {h1 : List ab_E} {r : Option Value} {a : Array Value}
    (hr : va_Run p l e R s m args below meth c H locs cells slots mc ms (F0 m pc ls st0) rest (ab_Qc G r h1 a) (ab_A G)) (hS : va_S (ab_A G) s.heap H locs)
    (kk : ∀ (H1 : Heap) (locs1 : List Loc), ab_RH G h1 H1 → va_S (ab_A G) s.heap H1 locs1 → W p l e R s m args below meth c H1 locs1 (cells + mc) (slots + ms) Q (F0 m (pc + 3) ls ((r.map (ab_ren G)).toList ++ rest))) : W p l e R s m args below meth c H locs cells slots Q (F0 m pc ls st0) := by
  intro T hT X
  obtain ⟨v, st₀, t, T', L, e0, X', hL, e1, e2, ⟨hv, hru, hz, hk⟩, st⟩ := hr T hT X
  cases hv
  rw [e0] at hz hk
  obtain ⟨t2, a1, b1⟩ := kk T'.heap (locs ++ L) (by rw [e1]; exact hru.1)
    ⟨Nat.le_trans hS.1 (by rw [e1]; exact hz), fun q h1 h2 => by rw [e1, hk q (Nat.lt_of_lt_of_le h1 hS.1) h2]; exact hS.2.1 q h1 h2, fun q hq => by
      rcases List.mem_append.mp hq with h | h
      · exact hS.2.2 q h
      · exact hL q h⟩ T' rfl X'
  exact ⟨t2, st t2 a1, b1⟩
end GO
theorem ab_blind (G : ab_G) (av : List Value) (h : List ab_E) : FrameBlind (va_Pc av (ab_RU G h)) := fun a U g mk q => ⟨q.1, q.2.1, q.2.2⟩
theorem ab_pre {G : ab_G} {s : State} {H : Heap} {h : List ab_E} (av : List Value) (hR : ab_RH G h H) (hal : G.2.2.2.2.1.WarmedH s.vm) : ∀ U : State, U.heap = H → s.WarmedH U.vm → va_Pc av (ab_RU G h) av.toArray U :=
  fun U hU hW => ⟨rfl, by rw [hU]; exact hR, State.WarmedH.trans hal hW⟩
theorem ab_rtl (G : ab_G) (r : Option Value) (rest : List Value) : (r.map (ab_ren G)).toList ++ rest.map (ab_ren G) = (r.toList ++ rest).map (ab_ren G) := by cases r <;> rfl
theorem ab_catsum (G : ab_G) (rest : List Value) : ((rest.map (ab_ren G)).map fun v => v.category).sum = (rest.map Value.category).sum := by
  rw [List.map_map]
  congr 1
  exact List.map_congr_left (fun v _ => ab_ren_cat G v)
/-- a static method: in the own class, or any of another class that isn't private, or a nest mate's -/
def ab_sS (M : ab_M) (i : Nat) (Z : ab_M) (n : Nat) : Prop := ab_c0 M Z n ∧ Cond.static Z.1 ∈ ab_Tg ∧ (Cond.methodLink M.1.cls i Z.1 ∈ ab_Tg ∨ ∃ host, Cond.methodLinkNest M.1.cls i Z.1 host ∈ ab_Tn)
theorem ab_callS {G : ab_G} {M : ab_M} {X : ab_X} {pc : Nat} {l : List (Nat × Value)} {st rest av : List Value} {h h1 : List ab_E} {Z : ab_M} {i n : Nat} {r : Option Value} (hX : ab_Good G M X) (hm : decode M.2.1 pc = .ok (.invokestatic i, 3)) (hs : ab_sS M i Z n) (hC : ab_CM G Z av h r h1) (hav : av.length = n) (hst : st = av.reverse ++ rest) (hW : (rest.map Value.category).sum ≤ 8)
    (kk : ab_WA G M X (pc + 3) l (r.toList ++ rest) h1) : ab_WA G M X pc l st h := by
  obtain ⟨p, e, R, s, m, args, below, meth, c, Q, h0⟩ := X
  obtain ⟨hx, hb, hml, hr, hlk, hown, hts, hal, hsz, hkp, hnm, hrf, hrl, hG⟩ := hX
  obtain ⟨⟨s1, s2, s3, s4, s5⟩, s6, s7⟩ := hs
  obtain ⟨c1, c2, hM⟩ := hC
  have b1 := kk.1
  have b2 := kk.2.1
  refine ⟨by omega, by omega, fun ls H locs g1 g2 hl hR hS => ?_⟩
  have hG1 := ab_tg_good (ab_ws_in s1)
  have hrm : (ab_room Z h h1).frames + 1 ≤ R.frames ∧ 8 + (Z.2.2.1 + 11) + (ab_room Z h h1).locals ≤ R.locals := ⟨by rw [hrf]; exact s4, by rw [hrl]; exact s5⟩
  have hstk : (F0 m pc ls (st.map (ab_ren G))).stack = (av.map (ab_ren G)).reverse ++ rest.map (ab_ren G) := by show st.map (ab_ren G) = _; rw [hst, List.map_append, List.map_reverse]
  have hW2 : 2 * (F0 m pc ls (st.map (ab_ren G))).monitorRoom + ((rest.map (ab_ren G)).map fun v => v.category).sum ≤ 8 := lv_room (by rw [ab_catsum]; exact hW)
  have hnn : (av.map (ab_ren G)).length = n := by rw [List.length_map]; exact hav
  have hf : (h.length - h0.length) + (h1.length - h.length) ≤ R.cells ∧ (ab_sz h - ab_sz h0) + (ab_sz h1 - ab_sz h) ≤ R.slots := ⟨by omega, by omega⟩
  have hrun : va_Run p G.2.2.2.2.2 e R s m args below meth c H locs (h.length - h0.length) (ab_sz h - ab_sz h0) (h1.length - h.length) (ab_sz h1 - ab_sz h) (F0 m pc ls (st.map (ab_ren G))) (rest.map (ab_ren G)) (ab_Qc G r h1 (av.map (ab_ren G)).toArray) (ab_A G) := by
    rcases s7 with s7 | ⟨host, s7⟩
    · exact va_runS (bytes := Z.2.1) (maxL := Z.2.2.1) (ret := Z.2.2.2.1) ⟨hx, hb, hml, hown, hts⟩ hM ⟨callB_of n hts hG1 rfl rfl rfl (hts _ s2) (hts _ s7) s3 hrm, hts _ s6⟩ ⟨ab_blind G _ h, ab_pre _ hR hal⟩ rfl hnn (hl.1) hstk hW2 hm hf
    · exact va_runSN (bytes := Z.2.1) (maxL := Z.2.2.1) (ret := Z.2.2.2.1) (host := host) ⟨hx, hb, hml, hown, hts⟩ hM ⟨va_cnB n hts hG1 rfl rfl rfl (ab_nw hG hal s7) (hts _ s2) s3 hrm, hts _ s6, trivial⟩ ⟨ab_blind G _ h, ab_pre _ hR hal⟩ rfl hnn (hl.1) hstk hW2 hm hf
  refine ab_cont hrun hS fun H1 locs1 hR1 hS1 => ?_
  have w := kk.2.2 ls H1 locs1 (by omega) (by omega) hl hR1 hS1
  rw [ab_rtl, show h.length - h0.length + (h1.length - h.length) = h1.length - h0.length by omega, show ab_sz h - ab_sz h0 + (ab_sz h1 - ab_sz h) = ab_sz h1 - ab_sz h0 by omega]
  exact w
/-- a method of an object of class ci: exact, a nest mate's private one, inherited or overridden -/
def ab_sV (M : ab_M) (i ci : Nat) (Z : ab_M) (n : Nat) : Prop := ab_c0 M Z n ∧ Cond.instanceMethod Z.1 ∈ ab_Tg ∧ ∃ (C : String) (T : u_T) (N : Nat), ab_cls[ci]? = some (C, T, N) ∧
  ((Cond.methodLink M.1.cls i Z.1 ∈ ab_Tg ∧ Cond.selects C Z.1 Z.1 ∈ ab_Tg) ∨ (∃ host, Cond.methodLinkNest M.1.cls i Z.1 host ∈ ab_Tn ∧ Cond.selects C Z.1 Z.1 ∈ ab_Tg) ∨
   (∃ (x : MethodName) (owner : String) (b0 : ByteArray) (m0 : Nat) (r0 : Option FieldType), Cond.methodLink M.1.cls i x ∈ ab_Tg ∧ Cond.sameMethod x.cls owner x.name x.desc ∈ ab_Tg ∧ Cond.instanceMethod ⟨owner, x.name, x.desc⟩ ∈ ab_Tg ∧ Cond.code ⟨owner, x.name, x.desc⟩ b0 m0 r0 ∈ ab_Tg ∧ Cond.selects C x Z.1 ∈ ab_Tg ∧
     owner ≠ "java/lang/invoke/MethodHandle" ∧ owner ≠ "java/lang/invoke/VarHandle" ∧ x.desc = Z.1.desc))
theorem ab_callV {G : ab_G} {M : ab_M} {X : ab_X} {pc : Nat} {l : List (Nat × Value)} {st rest av : List Value} {h h1 : List ab_E} {Z : ab_M} {i n ci b : Nat} {fs : List Value} {r : Option Value} (hX : ab_Good G M X) (hm : decode M.2.1 pc = .ok (.invokevirtual i, 3)) (hc : h[b]? = some (.inr (ci, fs))) (hs : ab_sV M i ci Z n) (hC : ab_CM G Z (.ref b :: av) h r h1) (hav : av.length = n) (hst : st = av.reverse ++ .ref b :: rest) (hW : (rest.map Value.category).sum ≤ 8)
    (kk : ab_WA G M X (pc + 3) l (r.toList ++ rest) h1) : ab_WA G M X pc l st h := by
  obtain ⟨p, e, R, s, m, args, below, meth, c, Q, h0⟩ := X
  obtain ⟨hx, hb, hml, hr, hlk, hown, hts, hal, hsz, hkp, hnm, hrf, hrl, hG⟩ := hX
  obtain ⟨⟨s1, s2, s3, s4, s5⟩, s6, C, T, N, s7, s8⟩ := hs
  obtain ⟨c1, c2, hM⟩ := hC
  have b1 := kk.1
  have b2 := kk.2.1
  refine ⟨by omega, by omega, fun ls H locs g1 g2 hl hR hS => ?_⟩
  have hK := va_K.moved hal.alike hG.1
  have hG1 := ab_tg_good (ab_ws_in s1)
  have hrm : (ab_room Z h h1).frames + 1 ≤ R.frames ∧ 8 + (Z.2.2.1 + 11) + (ab_room Z h h1).locals ≤ R.locals := ⟨by rw [hrf]; exact s4, by rw [hrl]; exact s5⟩
  have hstk : (F0 m pc ls (st.map (ab_ren G))).stack = (av.map (ab_ren G)).reverse ++ .ref (G.2.1 + b) :: rest.map (ab_ren G) := by show st.map (ab_ren G) = _; rw [hst, List.map_append, List.map_reverse]; rfl
  have hW2 : 2 * (F0 m pc ls (st.map (ab_ren G))).monitorRoom + ((rest.map (ab_ren G)).map fun v => v.category).sum ≤ 8 := lv_room (by rw [ab_catsum]; exact hW)
  have hnn : (av.map (ab_ren G)).length = n := by rw [List.length_map]; exact hav
  have hf : (h.length - h0.length) + (h1.length - h.length) ≤ R.cells ∧ (ab_sz h - ab_sz h0) + (ab_sz h1 - ab_sz h) ≤ R.slots := ⟨by omega, by omega⟩
  have he : (ab_wld G h)[b]? = some (G.2.1 + b, .inr (ci, fs.map (ab_ren G))) := ab_wld_get hc
  have hp : PreV s H C (G.2.1 + b) (va_Pc ((Value.ref b :: av).map (ab_ren G)) (ab_RU G h)) (av.map (ab_ren G)) := ⟨ab_blind G _ h, va_recv hK hR.1 s7 he, ab_pre ((Value.ref b :: av).map (ab_ren G)) hR hal⟩
  have hrun : va_Run p G.2.2.2.2.2 e R s m args below meth c H locs (h.length - h0.length) (ab_sz h - ab_sz h0) (h1.length - h.length) (ab_sz h1 - ab_sz h) (F0 m pc ls (st.map (ab_ren G))) (rest.map (ab_ren G)) (ab_Qc G r h1 ((Value.ref b :: av).map (ab_ren G)).toArray) (ab_A G) := by
    rcases s8 with ⟨s8, s9⟩ | ⟨host, s8, s9⟩ | ⟨x, owner, b0', m0, r0, t1, t2, t3, t4, t5, t6, t7, t8⟩
    · exact va_runV (bytes := Z.2.1) (maxL := Z.2.2.1) (ret := Z.2.2.2.1) (C := C) ⟨hx, hb, hml, hown, hts⟩ hM ⟨callB_of n hts hG1 rfl rfl rfl (hts _ s2) (hts _ s8) s3 hrm, hts _ s6, hts _ s9⟩ hp rfl hnn (hl.1) hstk hW2 hm hf
    · exact va_runVN (bytes := Z.2.1) (maxL := Z.2.2.1) (ret := Z.2.2.2.1) (C := C) (host := host) ⟨hx, hb, hml, hown, hts⟩ hM ⟨va_cnB n hts hG1 rfl rfl rfl (ab_nw hG hal s8) (hts _ s2) s3 hrm, hts _ s6, hts _ s9⟩ hp rfl hnn (hl.1) hstk hW2 hm hf
    · refine va_runU (bytes := Z.2.1) (maxL := Z.2.2.1) (ret := Z.2.2.2.1) (C := C) (owner := owner) (x := x) ⟨hx, hb, hml, hown, hts⟩ hM ?_ hp rfl hnn (hl.1) hstk hW2 hm hf
      refine ⟨⟨rfl, rfl, hrm.1, hrm.2, pay_in hts hG1, List.mem_cons_self⟩, hts _ s1, hts _ s2, ⟨t6, t7⟩, fun sig hsig => ?_, hts _ t1, hts _ t2, va_Decl.of (hts _ t3) (hts _ t4), hts _ t5, hts _ s6⟩
      have h2 := s3.2.2
      rw [← t8, hsig] at h2
      exact (Option.some.inj h2).symm
  refine ab_cont hrun hS fun H1 locs1 hR1 hS1 => ?_
  have w := kk.2.2 ls H1 locs1 (by omega) (by omega) hl hR1 hS1
  rw [ab_rtl, show h.length - h0.length + (h1.length - h.length) = h1.length - h0.length by omega, show ab_sz h - ab_sz h0 + (ab_sz h1 - ab_sz h) = ab_sz h1 - ab_sz h0 by omega]
  exact w
/-- a constructor -/
def ab_sI (M : ab_M) (i : Nat) (Z : ab_M) (n : Nat) : Prop := ab_c0 M Z n ∧ Cond.instanceMethod Z.1 ∈ ab_Tg ∧ Z.1.name = "<init>" ∧ Z.2.2.2.1 = none ∧ (Cond.methodLink M.1.cls i Z.1 ∈ ab_Tg ∨ ∃ host, Cond.methodLinkNest M.1.cls i Z.1 host ∈ ab_Tn)
theorem ab_callI {G : ab_G} {M : ab_M} {X : ab_X} {pc : Nat} {l : List (Nat × Value)} {st rest av : List Value} {h h1 : List ab_E} {Z : ab_M} {i n b : Nat} (hX : ab_Good G M X) (hm : decode M.2.1 pc = .ok (.invokespecial i, 3)) (hs : ab_sI M i Z n) (hC : ab_CM G Z (.ref b :: av) h none h1) (hav : av.length = n) (hst : st = av.reverse ++ .ref b :: rest) (hW : (rest.map Value.category).sum ≤ 8)
    (kk : ab_WA G M X (pc + 3) l rest h1) : ab_WA G M X pc l st h := by
  obtain ⟨p, e, R, s, m, args, below, meth, c, Q, h0⟩ := X
  obtain ⟨hx, hb, hml, hr, hlk, hown, hts, hal, hsz, hkp, hnm, hrf, hrl, hG⟩ := hX
  obtain ⟨⟨s1, s2, s3, s4, s5⟩, s6, s7, s0, s8⟩ := hs
  rw [s0] at s1
  obtain ⟨c1, c2, hM⟩ := hC
  have b1 := kk.1
  have b2 := kk.2.1
  refine ⟨by omega, by omega, fun ls H locs g1 g2 hl hR hS => ?_⟩
  have hws : ab_ws Z = .code Z.1 Z.2.1 Z.2.2.1 none :: ab_Tg := by unfold ab_ws; rw [s0]
  have hG1 : GoodIn ab_Tg (ab_ws Z) := ab_tg_good (fun w hw => by
    rw [hws] at hw
    exact (List.mem_cons.mp hw).elim (fun e => by rw [e]; exact s1) id)
  have hrm : (ab_room Z h h1).frames + 1 ≤ R.frames ∧ 8 + (Z.2.2.1 + 11) + (ab_room Z h h1).locals ≤ R.locals := ⟨by rw [hrf]; exact s4, by rw [hrl]; exact s5⟩
  have hstk : (F0 m pc ls (st.map (ab_ren G))).stack = (av.map (ab_ren G)).reverse ++ .ref (G.2.1 + b) :: rest.map (ab_ren G) := by show st.map (ab_ren G) = _; rw [hst, List.map_append, List.map_reverse]; rfl
  have hW2 : 2 * (F0 m pc ls (st.map (ab_ren G))).monitorRoom + ((rest.map (ab_ren G)).map fun v => v.category).sum ≤ 8 := lv_room (by rw [ab_catsum]; exact hW)
  have hnn : (av.map (ab_ren G)).length = n := by rw [List.length_map]; exact hav
  have hf : (h.length - h0.length) + (h1.length - h.length) ≤ R.cells ∧ (ab_sz h - ab_sz h0) + (ab_sz h1 - ab_sz h) ≤ R.slots := ⟨by omega, by omega⟩
  have hp : PreS s H (va_Pc ((Value.ref b :: av).map (ab_ren G)) (ab_RU G h)) (.ref (G.2.1 + b) :: av.map (ab_ren G)) := ⟨ab_blind G _ h, ab_pre ((Value.ref b :: av).map (ab_ren G)) hR hal⟩
  have hrun : va_Run p G.2.2.2.2.2 e R s m args below meth c H locs (h.length - h0.length) (ab_sz h - ab_sz h0) (h1.length - h.length) (ab_sz h1 - ab_sz h) (F0 m pc ls (st.map (ab_ren G))) (rest.map (ab_ren G)) (ab_Qc G none h1 ((Value.ref b :: av).map (ab_ren G)).toArray) (ab_A G) := by
    rcases s8 with s8 | ⟨host, s8⟩
    · exact va_runI (bytes := Z.2.1) (maxL := Z.2.2.1) ⟨hx, hb, hml, hown, hts⟩ hM ⟨callB_of n hts hG1 hws rfl rfl (hts _ s2) (hts _ s8) s3 hrm, s7, hts _ s6⟩ hp rfl hnn (hl.1) hstk hW2 hm hf
    · exact va_runIN (bytes := Z.2.1) (maxL := Z.2.2.1) (host := host) ⟨hx, hb, hml, hown, hts⟩ hM ⟨va_cnB n hts hG1 hws rfl rfl (ab_nw hG hal s8) (hts _ s2) s3 hrm, s7, hts _ s6⟩ hp rfl hnn (hl.1) hstk hW2 hm hf
  refine ab_cont hrun hS fun H1 locs1 hR1 hS1 => ?_
  have w := kk.2.2 ls H1 locs1 (by omega) (by omega) hl hR1 hS1
  rw [ab_rtl, show h.length - h0.length + (h1.length - h.length) = h1.length - h0.length by omega, show ab_sz h - ab_sz h0 + (ab_sz h1 - ab_sz h) = ab_sz h1 - ab_sz h0 by omega]
  exact w
/-- Object's constructor -/
theorem ab_objInit {G : ab_G} {M : ab_M} {X : ab_X} {pc : Nat} {l : List (Nat × Value)} {rest : List Value} {h : List ab_E} {i b : Nat} (hX : ab_Good G M X) (hm : decode M.2.1 pc = .ok (.invokespecial i, 3)) (hw : Cond.methodLink M.1.cls i objectInit ∈ ab_Tg ∧ Cond.instanceMethod objectInit ∈ ab_Tg ∧ Cond.code objectInit ⟨#[0xb1]⟩ 1 none ∈ ab_Tg) (hrm : 1 ≤ M.2.2.2.2.1 ∧ 20 ≤ M.2.2.2.2.2) (hW : (rest.map Value.category).sum ≤ 8)
    (kk : ab_WA G M X (pc + 3) l rest h) : ab_WA G M X pc l (.ref b :: rest) h := by
  obtain ⟨p, e, R, s, m, args, below, meth, c, Q, h0⟩ := X
  obtain ⟨hx, hb, hml, hr, hlk, hown, hts, hal, hsz, hkp, hnm, hrf, hrl, hG⟩ := hX
  refine ⟨kk.1, kk.2.1, fun ls H locs g1 g2 hl hR hS => ?_⟩
  have w := kk.2.2 ls H locs g1 g2 hl hR hS
  have e0 : ((rest.map (ab_ren G)).map fun v => v.category).sum ≤ 8 := by rw [ab_catsum]; exact hW
  refine W.objInit hx hb hown (hts _ hw.1) (hts _ hw.2.1) (hts _ hw.2.2) rfl (hl.1.trans hml.symm) rfl hm (by rw [hrf]; exact hrm.1) ?_ w
  have e1 : 2 * (F0 m pc ls ((Value.ref b :: rest).map (ab_ren G))).monitorRoom = 0 := rfl
  rw [e1, hrl]
  omega
/-- a superclass's method -/
def ab_sP (M : ab_M) (i : Nat) (Z : ab_M) (n : Nat) : Prop := ab_c0 M Z n ∧ Cond.instanceMethod Z.1 ∈ ab_Tg ∧ Z.1.name ≠ "<init>" ∧ Cond.methodLink M.1.cls i Z.1 ∈ ab_Tg ∧ Cond.sameMethod Z.1.cls Z.1.cls Z.1.name Z.1.desc ∈ ab_Tg ∧ Cond.superclass M.1.cls Z.1.cls ∈ ab_Tg
theorem ab_callP {G : ab_G} {M : ab_M} {X : ab_X} {pc : Nat} {l : List (Nat × Value)} {st rest av : List Value} {h h1 : List ab_E} {Z : ab_M} {i n ci b : Nat} {fs : List Value} {q : vw_C} {r : Option Value} (hX : ab_Good G M X) (hm : decode M.2.1 pc = .ok (.invokespecial i, 3)) (hc : h[b]? = some (.inr (ci, fs))) (hq : ab_cls[ci]? = some q) (hs : ab_sP M i Z n) (hC : ab_CM G Z (.ref b :: av) h r h1) (hav : av.length = n) (hst : st = av.reverse ++ .ref b :: rest) (hW : (rest.map Value.category).sum ≤ 8)
    (kk : ab_WA G M X (pc + 3) l (r.toList ++ rest) h1) : ab_WA G M X pc l st h := by
  obtain ⟨p, e, R, s, m, args, below, meth, c, Q, h0⟩ := X
  obtain ⟨hx, hb, hml, hr, hlk, hown, hts, hal, hsz, hkp, hnm, hrf, hrl, hG⟩ := hX
  obtain ⟨⟨s1, s2, s3, s4, s5⟩, s6, s7, s8, s9, s10⟩ := hs
  obtain ⟨c1, c2, hM⟩ := hC
  have b1 := kk.1
  have b2 := kk.2.1
  refine ⟨by omega, by omega, fun ls H locs g1 g2 hl hR hS => ?_⟩
  have hK := va_K.moved hal.alike hG.1
  have hG1 := ab_tg_good (ab_ws_in s1)
  have hrm : (ab_room Z h h1).frames + 1 ≤ R.frames ∧ 8 + (Z.2.2.1 + 11) + (ab_room Z h h1).locals ≤ R.locals := ⟨by rw [hrf]; exact s4, by rw [hrl]; exact s5⟩
  have hstk : (F0 m pc ls (st.map (ab_ren G))).stack = (av.map (ab_ren G)).reverse ++ .ref (G.2.1 + b) :: rest.map (ab_ren G) := by show st.map (ab_ren G) = _; rw [hst, List.map_append, List.map_reverse]; rfl
  have hW2 : 2 * (F0 m pc ls (st.map (ab_ren G))).monitorRoom + ((rest.map (ab_ren G)).map fun v => v.category).sum ≤ 8 := lv_room (by rw [ab_catsum]; exact hW)
  have hnn : (av.map (ab_ren G)).length = n := by rw [List.length_map]; exact hav
  have hf : (h.length - h0.length) + (h1.length - h.length) ≤ R.cells ∧ (ab_sz h - ab_sz h0) + (ab_sz h1 - ab_sz h) ≤ R.slots := ⟨by omega, by omega⟩
  have he : (ab_wld G h)[b]? = some (G.2.1 + b, .inr (ci, fs.map (ab_ren G))) := ab_wld_get hc
  have hp : PreV s H q.1 (G.2.1 + b) (va_Pc ((Value.ref b :: av).map (ab_ren G)) (ab_RU G h)) (av.map (ab_ren G)) := ⟨ab_blind G _ h, va_recv hK hR.1 hq he, ab_pre ((Value.ref b :: av).map (ab_ren G)) hR hal⟩
  have hrun : va_Run p G.2.2.2.2.2 e R s m args below meth c H locs (h.length - h0.length) (ab_sz h - ab_sz h0) (h1.length - h.length) (ab_sz h1 - ab_sz h) (F0 m pc ls (st.map (ab_ren G))) (rest.map (ab_ren G)) (ab_Qc G r h1 ((Value.ref b :: av).map (ab_ren G)).toArray) (ab_A G) :=
    va_runSU (bytes := Z.2.1) (maxL := Z.2.2.1) (ret := Z.2.2.2.1) (C := q.1) (hK.1 ci q hq).2 ⟨hx, hb, hml, hown, hts⟩ hM ⟨⟨rfl, rfl, hrm.1, hrm.2, pay_in hts hG1, List.mem_cons_self⟩, hts _ s8, hts _ s9, hts _ s10, hts _ s6, hts _ s2, hts _ s1, s7, fun sig hsig => by
      have h2 := s3.2.2
      rw [hsig] at h2
      exact (Option.some.inj h2).symm⟩ hp rfl hnn (hl.1) hstk hW2 hm hf
  refine ab_cont hrun hS fun H1 locs1 hR1 hS1 => ?_
  have w := kk.2.2 ls H1 locs1 (by omega) (by omega) hl hR1 hS1
  rw [ab_rtl, show h.length - h0.length + (h1.length - h.length) = h1.length - h0.length by omega, show ab_sz h - ab_sz h0 + (ab_sz h1 - ab_sz h) = ab_sz h1 - ab_sz h0 by omega]
  exact w
/-- checkcast of an object of class ci -/
theorem ab_cast {G : ab_G} {M : ab_M} {X : ab_X} {pc : Nat} {l : List (Nat × Value)} {st : List Value} {h : List ab_E} {i ci a : Nat} {fs : List Value} {q : vw_C} {nm : String} (hX : ab_Good G M X) (hm : decode M.2.1 pc = .ok (.checkcast i, 3)) (hc : h[a]? = some (.inr (ci, fs))) (hq : ab_cls[ci]? = some q) (hw : Cond.classLink M.1.cls i nm ∈ ab_Tg ∧ Cond.castable q.1 nm ∈ ab_Tn)
    (kk : ab_WA G M X (pc + 3) l (.ref a :: st) h) : ab_WA G M X pc l (.ref a :: st) h := by
  obtain ⟨p, e, R, s, m, args, below, meth, c, Q, h0⟩ := X
  obtain ⟨hx, hb, hml, hr, hlk, hown, hts, hal, hsz, hkp, hnm, hrf, hrl, hG⟩ := hX
  refine ⟨kk.1, kk.2.1, fun ls H locs g1 g2 hl hR hS => ?_⟩
  have w := kk.2.2 ls H locs g1 g2 hl hR hS
  have hK := va_K.moved hal.alike hG.1
  have he : (ab_wld G h)[a]? = some (G.2.1 + a, .inr (ci, fs.map (ab_ren G))) := ab_wld_get hc
  exact va_castY hx hb hown (hts _ hw.1) (ab_nw hG hal hw.2) (va_recv hK hR.1 hq he) hm w
/-- a static that holds an array of before -/
theorem ab_getstatic {G : ab_G} {M : ab_M} {X : ab_X} {pc : Nat} {l : List (Nat × Value)} {st : List Value} {h : List ab_E} {i : Nat} {C n d : String} (j : Nat) (hj : j < 4) (hX : ab_Good G M X) (hm : decode M.2.1 pc = .ok (.getstatic i, 3)) (hw : Cond.fieldLink M.1.cls i C n d ∈ ab_Tg) (hZ : ab_GG G → ab_St G C n d j)
    (kk : ab_WA G M X (pc + 3) l (.float (UInt32.ofNat j) :: st) h) : ab_WA G M X pc l st h := by
  obtain ⟨p, e, R, s, m, args, below, meth, c, Q, h0⟩ := X
  obtain ⟨hx, hb, hml, hr, hlk, hown, hts, hal, hsz, hkp, hnm, hrf, hrl, hG⟩ := hX
  refine ⟨kk.1, kk.2.1, fun ls H locs g1 g2 hl hR hS => ?_⟩
  have w := kk.2.2 ls H locs g1 g2 hl hR hS
  have e1 : ab_ren G (.float (UInt32.ofNat j)) = .ref (G.2.2.1 j) := by
    match j, hj with
    | 0, _ => rfl
    | 1, _ => rfl
    | 2, _ => rfl
    | 3, _ => rfl
  have hz0 := (hZ hG).1
  have hz1 : va_Z C n d (.ref (G.2.2.1 j)) (ab_A G) s s.heap := by
    refine va_Z.kept (va_Z.moved hal.alike hz0) (fun q _ hq => hkp q (Nat.not_le.mp hq))
  refine va_gets hx hb hz1 hS hown (hts _ hw) (fun _ hh => hh) hm ?_
  rw [List.map_cons, e1] at w
  exact w
theorem ab_wlen {G : ab_G} {M : ab_M} {X : ab_X} {pc : Nat} {l : List (Nat × Value)} {st : List Value} {h : List ab_E} (hX : ab_Good G M X) (hm : decode M.2.1 pc = .ok (.arraylength, 1))
    (kk : ab_WA G M X (pc + 1) l (.int 6 :: st) h) : ab_WA G M X pc l (.float 2 :: st) h := by
  obtain ⟨p, e, R, s, m, args, below, meth, c, Q, h0⟩ := X
  obtain ⟨hx, hb, hml, hr, hlk, hown, hts, hal, hsz, hkp, hnm, hrf, hrl, hG⟩ := hX
  refine ⟨kk.1, kk.2.1, fun ls H locs g1 g2 hl hR hS => ?_⟩
  have w := kk.2.2 ls H locs g1 g2 hl hR hS
  obtain ⟨cell, t1, t2, t3, t4, t5, t6, t7⟩ := hG.2.2.2.2.2.1
  have hlt : G.2.2.1 2 < G.2.1 := Nat.not_le.mp t7
  exact W.alen hx hb (cell := cell) (ty := .long) ((hR.2.2 _ hlt).trans t1) (State.isArrayOf_alike hal.alike t2) t5 rfl rfl hm w
theorem ab_wload {G : ab_G} {M : ab_M} {X : ab_X} {pc : Nat} {l : List (Nat × Value)} {st : List Value} {h : List ab_E} {i : Int32} (hX : ab_Good G M X) (hm : decode M.2.1 pc = .ok (.laload, 1)) (hin : vp_in i 6)
    (kk : ab_WA G M X (pc + 1) l (.long (ab_wv i.toNatClampNeg) :: st) h) : ab_WA G M X pc l (.int i :: .float 2 :: st) h := by
  obtain ⟨p, e, R, s, m, args, below, meth, c, Q, h0⟩ := X
  obtain ⟨hx, hb, hml, hr, hlk, hown, hts, hal, hsz, hkp, hnm, hrf, hrl, hG⟩ := hX
  refine ⟨kk.1, kk.2.1, fun ls H locs g1 g2 hl hR hS => ?_⟩
  have w := kk.2.2 ls H locs g1 g2 hl hR hS
  have hT : va_T .long (G.2.2.1 2) 6 (fun j => .long (ab_wv j)) (ab_A G) s s.heap := va_T.kept (va_T.moved hal.alike hG.2.2.2.2.2.1) (fun q _ hq => hkp q (Nat.not_le.mp hq))
  exact va_tl hx hb hT hS hin rfl hm w
/-- the static empty array has no places -/
theorem ab_elen {G : ab_G} {M : ab_M} {X : ab_X} {pc : Nat} {l : List (Nat × Value)} {st : List Value} {h : List ab_E} (hX : ab_Good G M X) (hm : decode M.2.1 pc = .ok (.arraylength, 1))
    (kk : ab_WA G M X (pc + 1) l (.int 0 :: st) h) : ab_WA G M X pc l (.float 0 :: st) h := by
  obtain ⟨p, e, R, s, m, args, below, meth, c, Q, h0⟩ := X
  obtain ⟨hx, hb, hml, hr, hlk, hown, hts, hal, hsz, hkp, hnm, hrf, hrl, hG⟩ := hX
  refine ⟨kk.1, kk.2.1, fun ls H locs g1 g2 hl hR hS => ?_⟩
  have w := kk.2.2 ls H locs g1 g2 hl hR hS
  obtain ⟨cell, t1, t2, t3⟩ := hG.2.2.2.1
  exact W.alen hx hb (cell := cell) (ty := .object "java/lang/Object") ((hR.2.2 _ hG.2.2.1.2).trans t1) (State.isArrayOf_alike hal.alike t2) t3 rfl rfl hm w
/-- the script -/
theorem ab_slen2 {G : ab_G} {M : ab_M} {X : ab_X} {pc : Nat} {l : List (Nat × Value)} {st : List Value} {h : List ab_E} {L : Nat} {xs : Nat → Int32} (hX : ab_Good G M X) (hsc : va_X (G.2.2.1 1) L xs G.2.2.2.2.1 G.2.2.2.2.1.heap ∧ G.2.2.1 1 < G.2.1) (hm : decode M.2.1 pc = .ok (.arraylength, 1))
    (kk : ab_WA G M X (pc + 1) l (.int (nI L) :: st) h) : ab_WA G M X pc l (.float 1 :: st) h := by
  obtain ⟨p, e, R, s, m, args, below, meth, c, Q, h0⟩ := X
  obtain ⟨hx, hb, hml, hr, hlk, hown, hts, hal, hsz, hkp, hnm, hrf, hrl, hG⟩ := hX
  refine ⟨kk.1, kk.2.1, fun ls H locs g1 g2 hl hR hS => ?_⟩
  have w := kk.2.2 ls H locs g1 g2 hl hR hS
  obtain ⟨cell, t1, t2, t3, t4, t5⟩ := hsc.1
  exact W.alen hx hb (cell := cell) (ty := .int) ((hR.2.2 _ hsc.2).trans t1) (State.isArrayOf_alike hal.alike t2) (by rw [t4]; rfl) rfl rfl hm w
theorem ab_sload {G : ab_G} {M : ab_M} {X : ab_X} {pc : Nat} {l : List (Nat × Value)} {st : List Value} {h : List ab_E} {L : Nat} {xs : Nat → Int32} {i : Int32} (hX : ab_Good G M X) (hsc : va_X (G.2.2.1 1) L xs G.2.2.2.2.1 G.2.2.2.2.1.heap ∧ G.2.2.1 1 < G.2.1) (hm : decode M.2.1 pc = .ok (.iaload, 1)) (hin : vp_in i L)
    (kk : ab_WA G M X (pc + 1) l (.int (xs i.toNatClampNeg) :: st) h) : ab_WA G M X pc l (.int i :: .float 1 :: st) h := by
  obtain ⟨p, e, R, s, m, args, below, meth, c, Q, h0⟩ := X
  obtain ⟨hx, hb, hml, hr, hlk, hown, hts, hal, hsz, hkp, hnm, hrf, hrl, hG⟩ := hX
  refine ⟨kk.1, kk.2.1, fun ls H locs g1 g2 hl hR hS => ?_⟩
  have w := kk.2.2 ls H locs g1 g2 hl hR hS
  have hXs : va_X (G.2.2.1 1) L xs s s.heap := va_X.kept (va_X.moved hal.alike hsc.1) (hkp _ hsc.2)
  exact va_sld hx hb hXs (by omega) (fun z => absurd hsc.2 (Nat.not_lt.mpr z)) hS hin hm w
end
section
/-! the words of the tables, one by one -/
theorem ab_t1 {w : Cond} (i : Nat) (h : tables_1_1[i]? = some w) (hg : goodWord w = true) : w ∈ ab_Tg := List.mem_filter.mpr ⟨List.mem_append_right _ (List.mem_append_left _ (List.mem_of_getElem? h)), hg⟩
theorem ab_t2 {w : Cond} (i : Nat) (h : tables_1_2[i]? = some w) (hg : goodWord w = true) : w ∈ ab_Tg := List.mem_filter.mpr ⟨List.mem_append_right _ (List.mem_append_right _ (List.mem_append_left _ (List.mem_of_getElem? h))), hg⟩
theorem ab_t3 {w : Cond} (i : Nat) (h : tables_1_3[i]? = some w) (hg : goodWord w = true) : w ∈ ab_Tg := List.mem_filter.mpr ⟨List.mem_append_right _ (List.mem_append_right _ (List.mem_append_right _ (List.mem_append_left _ (List.mem_of_getElem? h)))), hg⟩
theorem ab_t4 {w : Cond} (i : Nat) (h : tables_1_4[i]? = some w) (hg : goodWord w = true) : w ∈ ab_Tg := List.mem_filter.mpr ⟨List.mem_append_right _ (List.mem_append_right _ (List.mem_append_right _ (List.mem_append_right _ (List.mem_append_left _ (List.mem_of_getElem? h))))), hg⟩
theorem ab_t5 {w : Cond} (i : Nat) (h : tables_1_5[i]? = some w) (hg : goodWord w = true) : w ∈ ab_Tg := List.mem_filter.mpr ⟨List.mem_append_right _ (List.mem_append_right _ (List.mem_append_right _ (List.mem_append_right _ (List.mem_append_right _ (List.mem_append_left _ (List.mem_of_getElem? h)))))), hg⟩
theorem ab_t6 {w : Cond} (i : Nat) (h : tables_1_6[i]? = some w) (hg : goodWord w = true) : w ∈ ab_Tg := List.mem_filter.mpr ⟨List.mem_append_right _ (List.mem_append_right _ (List.mem_append_right _ (List.mem_append_right _ (List.mem_append_right _ (List.mem_append_right _ (List.mem_append_left _ (List.mem_of_getElem? h))))))), hg⟩
theorem ab_t7 {w : Cond} (i : Nat) (h : tables_1_7[i]? = some w) (hg : goodWord w = true) : w ∈ ab_Tg := List.mem_filter.mpr ⟨List.mem_append_right _ (List.mem_append_right _ (List.mem_append_right _ (List.mem_append_right _ (List.mem_append_right _ (List.mem_append_right _ (List.mem_append_right _ (List.mem_of_getElem? h))))))), hg⟩
theorem ab_t0 {w : Cond} (i : Nat) (h : (k2_sels lw_privs)[i]? = some w) (hg : goodWord w = true) : w ∈ ab_Tg := List.mem_filter.mpr ⟨List.mem_append_left _ (List.mem_of_getElem? h), hg⟩
theorem ab_n1 {w : Cond} (i : Nat) (h : tables_1_1[i]? = some w) (hg : ab_isN w = true) : w ∈ ab_Tn := List.mem_filter.mpr ⟨List.mem_append_right _ (List.mem_append_left _ (List.mem_of_getElem? h)), hg⟩
theorem ab_n2 {w : Cond} (i : Nat) (h : tables_1_2[i]? = some w) (hg : ab_isN w = true) : w ∈ ab_Tn := List.mem_filter.mpr ⟨List.mem_append_right _ (List.mem_append_right _ (List.mem_append_left _ (List.mem_of_getElem? h))), hg⟩
theorem ab_n3 {w : Cond} (i : Nat) (h : tables_1_3[i]? = some w) (hg : ab_isN w = true) : w ∈ ab_Tn := List.mem_filter.mpr ⟨List.mem_append_right _ (List.mem_append_right _ (List.mem_append_right _ (List.mem_append_left _ (List.mem_of_getElem? h)))), hg⟩
theorem ab_n4 {w : Cond} (i : Nat) (h : tables_1_4[i]? = some w) (hg : ab_isN w = true) : w ∈ ab_Tn := List.mem_filter.mpr ⟨List.mem_append_right _ (List.mem_append_right _ (List.mem_append_right _ (List.mem_append_right _ (List.mem_append_left _ (List.mem_of_getElem? h))))), hg⟩
theorem ab_n5 {w : Cond} (i : Nat) (h : tables_1_5[i]? = some w) (hg : ab_isN w = true) : w ∈ ab_Tn := List.mem_filter.mpr ⟨List.mem_append_right _ (List.mem_append_right _ (List.mem_append_right _ (List.mem_append_right _ (List.mem_append_right _ (List.mem_append_left _ (List.mem_of_getElem? h)))))), hg⟩
theorem ab_n6 {w : Cond} (i : Nat) (h : tables_1_6[i]? = some w) (hg : ab_isN w = true) : w ∈ ab_Tn := List.mem_filter.mpr ⟨List.mem_append_right _ (List.mem_append_right _ (List.mem_append_right _ (List.mem_append_right _ (List.mem_append_right _ (List.mem_append_right _ (List.mem_append_left _ (List.mem_of_getElem? h))))))), hg⟩
theorem ab_n7 {w : Cond} (i : Nat) (h : tables_1_7[i]? = some w) (hg : ab_isN w = true) : w ∈ ab_Tn := List.mem_filter.mpr ⟨List.mem_append_right _ (List.mem_append_right _ (List.mem_append_right _ (List.mem_append_right _ (List.mem_append_right _ (List.mem_append_right _ (List.mem_append_right _ (List.mem_of_getElem? h))))))), hg⟩
theorem tw_0 : (Jvm.Cond.selects "java/util/ArrayList" ({ cls := "java/util/ArrayList", name := "add", desc := "(Ljava/lang/Object;[Ljava/lang/Object;I)V" } : Jvm.MethodName) ({ cls := "java/util/ArrayList", name := "add", desc := "(Ljava/lang/Object;[Ljava/lang/Object;I)V" } : Jvm.MethodName)) ∈ ab_Tg := ab_t0 0 rfl rfl
theorem tw_1 : (Jvm.Cond.selects "java/util/ArrayList" ({ cls := "java/util/ArrayList", name := "grow", desc := "()[Ljava/lang/Object;" } : Jvm.MethodName) ({ cls := "java/util/ArrayList", name := "grow", desc := "()[Ljava/lang/Object;" } : Jvm.MethodName)) ∈ ab_Tg := ab_t0 1 rfl rfl
theorem tw_2 : (Jvm.Cond.selects "java/util/ArrayList" ({ cls := "java/util/ArrayList", name := "grow", desc := "(I)[Ljava/lang/Object;" } : Jvm.MethodName) ({ cls := "java/util/ArrayList", name := "grow", desc := "(I)[Ljava/lang/Object;" } : Jvm.MethodName)) ∈ ab_Tg := ab_t0 2 rfl rfl
theorem tw_3 : (Jvm.Cond.selects "WitnessesMustLie" ({ cls := "WitnessesMustLie", name := "shelfAt", desc := "(I)LWitnessesMustLie$Shelf;" } : Jvm.MethodName) ({ cls := "WitnessesMustLie", name := "shelfAt", desc := "(I)LWitnessesMustLie$Shelf;" } : Jvm.MethodName)) ∈ ab_Tg := ab_t0 3 rfl rfl
theorem tw_4 : (Jvm.Cond.selects "WitnessesMustLie$Shelf" ({ cls := "WitnessesMustLie$Shelf", name := "refusalUnless", desc := "(I)I" } : Jvm.MethodName) ({ cls := "WitnessesMustLie$Shelf", name := "refusalUnless", desc := "(I)I" } : Jvm.MethodName)) ∈ ab_Tg := ab_t0 4 rfl rfl
theorem tw_5 : (Jvm.Cond.selects "WitnessesMustLie" ({ cls := "WitnessesMustLie", name := "enact", desc := "(LWitnessesMustLie$Shelf;)I" } : Jvm.MethodName) ({ cls := "WitnessesMustLie", name := "enact", desc := "(LWitnessesMustLie$Shelf;)I" } : Jvm.MethodName)) ∈ ab_Tg := ab_t0 5 rfl rfl
theorem tw_6 : (Jvm.Cond.selects "WitnessesMustLie" ({ cls := "WitnessesMustLie", name := "isEnacted", desc := "(LWitnessesMustLie$Shelf;I)Z" } : Jvm.MethodName) ({ cls := "WitnessesMustLie", name := "isEnacted", desc := "(LWitnessesMustLie$Shelf;I)Z" } : Jvm.MethodName)) ∈ ab_Tg := ab_t0 6 rfl rfl
theorem tw_7 : (Jvm.Cond.selects "WitnessesMustLie" ({ cls := "WitnessesMustLie", name := "sayingAt", desc := "(LWitnessesMustLie$Shelf;II)LWitnessesMustLie$Saying;" } : Jvm.MethodName) ({ cls := "WitnessesMustLie", name := "sayingAt", desc := "(LWitnessesMustLie$Shelf;II)LWitnessesMustLie$Saying;" } : Jvm.MethodName)) ∈ ab_Tg := ab_t0 7 rfl rfl
theorem tw_8 : (Jvm.Cond.selects "WitnessesMustLie" ({ cls := "WitnessesMustLie", name := "kindNumbered", desc := "(I)LWitnessesMustLie$Says;" } : Jvm.MethodName) ({ cls := "WitnessesMustLie", name := "kindNumbered", desc := "(I)LWitnessesMustLie$Says;" } : Jvm.MethodName)) ∈ ab_Tg := ab_t0 8 rfl rfl
theorem tw_9 : (Jvm.Cond.selects "java/util/ArrayList" ({ cls := "java/util/ArrayList", name := "fastRemove", desc := "([Ljava/lang/Object;I)V" } : Jvm.MethodName) ({ cls := "java/util/ArrayList", name := "fastRemove", desc := "([Ljava/lang/Object;I)V" } : Jvm.MethodName)) ∈ ab_Tg := ab_t0 9 rfl rfl
theorem tw_10 : (Jvm.Cond.selects "WitnessesMustLie" ({ cls := "WitnessesMustLie", name := "leastOrder", desc := "(I)I" } : Jvm.MethodName) ({ cls := "WitnessesMustLie", name := "leastOrder", desc := "(I)I" } : Jvm.MethodName)) ∈ ab_Tg := ab_t0 10 rfl rfl
theorem tw_11 : (Jvm.Cond.selects "WitnessesMustLie" ({ cls := "WitnessesMustLie", name := "digitsWithAhead", desc := "(I)I" } : Jvm.MethodName) ({ cls := "WitnessesMustLie", name := "digitsWithAhead", desc := "(I)I" } : Jvm.MethodName)) ∈ ab_Tg := ab_t0 11 rfl rfl
theorem tw_12 : (Jvm.Cond.selects "WitnessesMustLie" ({ cls := "WitnessesMustLie", name := "digitsOf", desc := "(II)I" } : Jvm.MethodName) ({ cls := "WitnessesMustLie", name := "digitsOf", desc := "(II)I" } : Jvm.MethodName)) ∈ ab_Tg := ab_t0 12 rfl rfl
theorem tw_13 : (Jvm.Cond.selects "WitnessesMustLie" ({ cls := "WitnessesMustLie", name := "isLie", desc := "(II)Z" } : Jvm.MethodName) ({ cls := "WitnessesMustLie", name := "isLie", desc := "(II)Z" } : Jvm.MethodName)) ∈ ab_Tg := ab_t0 13 rfl rfl
theorem tw_14 : (Jvm.Cond.selects "WitnessesMustLie" ({ cls := "WitnessesMustLie", name := "worldsOfCode", desc := "(I)J" } : Jvm.MethodName) ({ cls := "WitnessesMustLie", name := "worldsOfCode", desc := "(I)J" } : Jvm.MethodName)) ∈ ab_Tg := ab_t0 14 rfl rfl
theorem tw_15 : (Jvm.Cond.selects "WitnessesMustLie" ({ cls := "WitnessesMustLie", name := "fillLies", desc := "(I[J)I" } : Jvm.MethodName) ({ cls := "WitnessesMustLie", name := "fillLies", desc := "(I[J)I" } : Jvm.MethodName)) ∈ ab_Tg := ab_t0 15 rfl rfl
theorem tw_16 : (Jvm.Cond.selects "WitnessesMustLie" ({ cls := "WitnessesMustLie", name := "mostLeft", desc := "(JI)I" } : Jvm.MethodName) ({ cls := "WitnessesMustLie", name := "mostLeft", desc := "(JI)I" } : Jvm.MethodName)) ∈ ab_Tg := ab_t0 16 rfl rfl
theorem tw_17 : (Jvm.Cond.selects "WitnessesMustLie" ({ cls := "WitnessesMustLie", name := "worldsOfDraws", desc := "(I)J" } : Jvm.MethodName) ({ cls := "WitnessesMustLie", name := "worldsOfDraws", desc := "(I)J" } : Jvm.MethodName)) ∈ ab_Tg := ab_t0 17 rfl rfl
theorem tw_18 : (Jvm.Cond.selects "WitnessesMustLie$Shelf" ({ cls := "WitnessesMustLie$Shelf", name := "lowestBits", desc := "(I)I" } : Jvm.MethodName) ({ cls := "WitnessesMustLie$Shelf", name := "lowestBits", desc := "(I)I" } : Jvm.MethodName)) ∈ ab_Tg := ab_t0 18 rfl rfl
theorem tw_19 : (Jvm.Cond.selects "java/lang/Throwable" ({ cls := "java/lang/Throwable", name := "fillInStackTrace", desc := "(I)Ljava/lang/Throwable;" } : Jvm.MethodName) ({ cls := "java/lang/Throwable", name := "fillInStackTrace", desc := "(I)Ljava/lang/Throwable;" } : Jvm.MethodName)) ∈ ab_Tg := ab_t0 19 rfl rfl
theorem tw_20 : (Jvm.Cond.selects "WitnessesMustLieModel" ({ cls := "WitnessesMustLieModel", name := "statement", desc := "(Z)I" } : Jvm.MethodName) ({ cls := "WitnessesMustLieModel", name := "statement", desc := "(Z)I" } : Jvm.MethodName)) ∈ ab_Tg := ab_t0 20 rfl rfl
theorem tw_21 : (Jvm.Cond.selects "WitnessesMustLieModel" ({ cls := "WitnessesMustLieModel", name := "is", desc := "(I)Z" } : Jvm.MethodName) ({ cls := "WitnessesMustLieModel", name := "is", desc := "(I)Z" } : Jvm.MethodName)) ∈ ab_Tg := ab_t0 21 rfl rfl
theorem tw_22 : (Jvm.Cond.selects "WitnessesMustLieModel" ({ cls := "WitnessesMustLieModel", name := "digits", desc := "(I)Z" } : Jvm.MethodName) ({ cls := "WitnessesMustLieModel", name := "digits", desc := "(I)Z" } : Jvm.MethodName)) ∈ ab_Tg := ab_t0 22 rfl rfl
theorem tw_23 : (Jvm.Cond.selects "WitnessesMustLieModel" ({ cls := "WitnessesMustLieModel", name := "isSaying", desc := "(I)Z" } : Jvm.MethodName) ({ cls := "WitnessesMustLieModel", name := "isSaying", desc := "(I)Z" } : Jvm.MethodName)) ∈ ab_Tg := ab_t0 23 rfl rfl
theorem tw_24 : (Jvm.Cond.selects "WitnessesMustLieModel" ({ cls := "WitnessesMustLieModel", name := "readSaying", desc := "(I)I" } : Jvm.MethodName) ({ cls := "WitnessesMustLieModel", name := "readSaying", desc := "(I)I" } : Jvm.MethodName)) ∈ ab_Tg := ab_t0 24 rfl rfl
theorem tw_25 : (Jvm.Cond.selects "WitnessesMustLieModel" ({ cls := "WitnessesMustLieModel", name := "two", desc := "()I" } : Jvm.MethodName) ({ cls := "WitnessesMustLieModel", name := "two", desc := "()I" } : Jvm.MethodName)) ∈ ab_Tg := ab_t0 25 rfl rfl
theorem tw_26 : (Jvm.Cond.selects "WitnessesMustLieModel" ({ cls := "WitnessesMustLieModel", name := "isWitness", desc := "(I)Z" } : Jvm.MethodName) ({ cls := "WitnessesMustLieModel", name := "isWitness", desc := "(I)Z" } : Jvm.MethodName)) ∈ ab_Tg := ab_t0 26 rfl rfl
theorem tw_27 : (Jvm.Cond.selects "WitnessesMustLieModel" ({ cls := "WitnessesMustLieModel", name := "keep", desc := "([I)V" } : Jvm.MethodName) ({ cls := "WitnessesMustLieModel", name := "keep", desc := "([I)V" } : Jvm.MethodName)) ∈ ab_Tg := ab_t0 27 rfl rfl
theorem tw_28 : (Jvm.Cond.selects "WitnessesMustLieModel" ({ cls := "WitnessesMustLieModel", name := "again", desc := "([I)V" } : Jvm.MethodName) ({ cls := "WitnessesMustLieModel", name := "again", desc := "([I)V" } : Jvm.MethodName)) ∈ ab_Tg := ab_t0 28 rfl rfl
theorem tw_29 : (Jvm.Cond.selects "WitnessesMustLieModel" ({ cls := "WitnessesMustLieModel", name := "isSaid", desc := "(I)Z" } : Jvm.MethodName) ({ cls := "WitnessesMustLieModel", name := "isSaid", desc := "(I)Z" } : Jvm.MethodName)) ∈ ab_Tg := ab_t0 29 rfl rfl
theorem tw_30 : (Jvm.Cond.selects "WitnessesMustLieModel" ({ cls := "WitnessesMustLieModel", name := "isSlip", desc := "(I)Z" } : Jvm.MethodName) ({ cls := "WitnessesMustLieModel", name := "isSlip", desc := "(I)Z" } : Jvm.MethodName)) ∈ ab_Tg := ab_t0 30 rfl rfl
theorem tw_31 : (Jvm.Cond.selects "WitnessesMustLieModel" ({ cls := "WitnessesMustLieModel", name := "noSaying", desc := "(I)I" } : Jvm.MethodName) ({ cls := "WitnessesMustLieModel", name := "noSaying", desc := "(I)I" } : Jvm.MethodName)) ∈ ab_Tg := ab_t0 31 rfl rfl
theorem tw_32 : (Jvm.Cond.selects "WitnessesMustLieModel" ({ cls := "WitnessesMustLieModel", name := "onShelf", desc := "(III)I" } : Jvm.MethodName) ({ cls := "WitnessesMustLieModel", name := "onShelf", desc := "(III)I" } : Jvm.MethodName)) ∈ ab_Tg := ab_t0 32 rfl rfl
theorem tw_33 : (Jvm.Cond.selects "WitnessesMustLieModel" ({ cls := "WitnessesMustLieModel", name := "mayBe", desc := "()J" } : Jvm.MethodName) ({ cls := "WitnessesMustLieModel", name := "mayBe", desc := "()J" } : Jvm.MethodName)) ∈ ab_Tg := ab_t0 33 rfl rfl
theorem tw_34 : (Jvm.Cond.selects "WitnessesMustLieModel" ({ cls := "WitnessesMustLieModel", name := "left", desc := "()J" } : Jvm.MethodName) ({ cls := "WitnessesMustLieModel", name := "left", desc := "()J" } : Jvm.MethodName)) ∈ ab_Tg := ab_t0 34 rfl rfl
theorem tw_35 : (Jvm.Cond.selects "WitnessesMustLieModel" ({ cls := "WitnessesMustLieModel", name := "leftBy", desc := "(I)J" } : Jvm.MethodName) ({ cls := "WitnessesMustLieModel", name := "leftBy", desc := "(I)J" } : Jvm.MethodName)) ∈ ab_Tg := ab_t0 35 rfl rfl
theorem tw_36 : (Jvm.Cond.selects "WitnessesMustLieModel" ({ cls := "WitnessesMustLieModel", name := "isPlain", desc := "(I)Z" } : Jvm.MethodName) ({ cls := "WitnessesMustLieModel", name := "isPlain", desc := "(I)Z" } : Jvm.MethodName)) ∈ ab_Tg := ab_t0 36 rfl rfl
theorem tw_37 : (Jvm.Cond.selects "WitnessesMustLieModel" ({ cls := "WitnessesMustLieModel", name := "saidBy", desc := "(I)I" } : Jvm.MethodName) ({ cls := "WitnessesMustLieModel", name := "saidBy", desc := "(I)I" } : Jvm.MethodName)) ∈ ab_Tg := ab_t0 37 rfl rfl
theorem tw_38 : (Jvm.Cond.selects "WitnessesMustLieModel" ({ cls := "WitnessesMustLieModel", name := "isLie", desc := "(II)Z" } : Jvm.MethodName) ({ cls := "WitnessesMustLieModel", name := "isLie", desc := "(II)Z" } : Jvm.MethodName)) ∈ ab_Tg := ab_t0 38 rfl rfl
theorem tw_39 : (Jvm.Cond.selects "WitnessesMustLieModel" ({ cls := "WitnessesMustLieModel", name := "like", desc := "(JII)J" } : Jvm.MethodName) ({ cls := "WitnessesMustLieModel", name := "like", desc := "(JII)J" } : Jvm.MethodName)) ∈ ab_Tg := ab_t0 39 rfl rfl
theorem tw_40 : (Jvm.Cond.selects "WitnessesMustLieModel" ({ cls := "WitnessesMustLieModel", name := "part", desc := "(I)J" } : Jvm.MethodName) ({ cls := "WitnessesMustLieModel", name := "part", desc := "(I)J" } : Jvm.MethodName)) ∈ ab_Tg := ab_t0 40 rfl rfl
theorem tw_41 : (Jvm.Cond.selects "WitnessesMustLieModel" ({ cls := "WitnessesMustLieModel", name := "noRow", desc := "(I)I" } : Jvm.MethodName) ({ cls := "WitnessesMustLieModel", name := "noRow", desc := "(I)I" } : Jvm.MethodName)) ∈ ab_Tg := ab_t0 41 rfl rfl
theorem tw_42 : (Jvm.Cond.selects "WitnessesMustLieModel" ({ cls := "WitnessesMustLieModel", name := "leastOf", desc := "(I)I" } : Jvm.MethodName) ({ cls := "WitnessesMustLieModel", name := "leastOf", desc := "(I)I" } : Jvm.MethodName)) ∈ ab_Tg := ab_t0 42 rfl rfl
theorem tw_43 : (Jvm.Cond.selects "WitnessesMustLieModel" ({ cls := "WitnessesMustLieModel", name := "costOf", desc := "(I)I" } : Jvm.MethodName) ({ cls := "WitnessesMustLieModel", name := "costOf", desc := "(I)I" } : Jvm.MethodName)) ∈ ab_Tg := ab_t0 43 rfl rfl
theorem tw_44 : (Jvm.Cond.initialized "WitnessesMustLieLaw") ∈ ab_Tg := ab_t1 0 rfl rfl
theorem tw_45 : (Jvm.Cond.initialized "WitnessesMustLie") ∈ ab_Tg := ab_t1 1 rfl rfl
theorem tw_46 : (Jvm.Cond.initialized "java/util/AbstractCollection") ∈ ab_Tg := ab_t1 2 rfl rfl
theorem tw_47 : (Jvm.Cond.initialized "java/util/AbstractList") ∈ ab_Tg := ab_t1 3 rfl rfl
theorem tw_48 : (Jvm.Cond.initialized "java/util/ArrayList") ∈ ab_Tg := ab_t1 4 rfl rfl
theorem tw_49 : (Jvm.Cond.initialized "WitnessesMustLie$Trial") ∈ ab_Tg := ab_t1 5 rfl rfl
theorem tw_50 : (Jvm.Cond.initialized "WitnessesMustLie$Says") ∈ ab_Tg := ab_t1 6 rfl rfl
theorem tw_51 : (Jvm.Cond.initialized "jdk/internal/util/ArraysSupport") ∈ ab_Tg := ab_t1 7 rfl rfl
theorem tw_52 : (Jvm.Cond.initialized "java/lang/Math") ∈ ab_Tg := ab_t1 8 rfl rfl
theorem tw_53 : (Jvm.Cond.initialized "java/util/Arrays") ∈ ab_Tg := ab_t1 9 rfl rfl
theorem tw_54 : (Jvm.Cond.initialized "java/lang/System") ∈ ab_Tg := ab_t1 10 rfl rfl
theorem tw_55 : (Jvm.Cond.initialized "WitnessesMustLie$Denies") ∈ ab_Tg := ab_t1 11 rfl rfl
theorem tw_56 : (Jvm.Cond.initialized "WitnessesMustLie$Both") ∈ ab_Tg := ab_t1 12 rfl rfl
theorem tw_57 : (Jvm.Cond.initialized "WitnessesMustLie$Either") ∈ ab_Tg := ab_t1 13 rfl rfl
theorem tw_58 : (Jvm.Cond.initialized "WitnessesMustLie$If") ∈ ab_Tg := ab_t1 14 rfl rfl
theorem tw_59 : (Jvm.Cond.initialized "WitnessesMustLie$Alike") ∈ ab_Tg := ab_t1 15 rfl rfl
theorem tw_60 : (Jvm.Cond.initialized "WitnessesMustLie$Expert") ∈ ab_Tg := ab_t1 16 rfl rfl
theorem tw_61 : (Jvm.Cond.initialized "WitnessesMustLie$Poet") ∈ ab_Tg := ab_t1 17 rfl rfl
theorem tw_62 : (Jvm.Cond.initialized "WitnessesMustLie$Shelf") ∈ ab_Tg := ab_t1 18 rfl rfl
theorem tw_63 : (Jvm.Cond.initialized "WitnessesMustLieModel") ∈ ab_Tg := ab_t1 19 rfl rfl
theorem tw_64 : (Jvm.Cond.initialized "java/util/Objects") ∈ ab_Tg := ab_t1 20 rfl rfl
theorem tw_65 : (Jvm.Cond.initialized "jdk/internal/util/Preconditions") ∈ ab_Tg := ab_t1 21 rfl rfl
theorem tw_66 : (Jvm.Cond.initialized "WitnessesMustLie$Saying") ∈ ab_Tg := ab_t1 22 rfl rfl
theorem tw_67 : (Jvm.Cond.initialized "java/lang/Long") ∈ ab_Tg := ab_t1 23 rfl rfl
theorem tw_68 : (Jvm.Cond.initialized "java/lang/Integer") ∈ ab_Tg := ab_t1 24 rfl rfl
theorem tw_69 : (Jvm.Cond.initialized "java/lang/Throwable") ∈ ab_Tg := ab_t1 25 rfl rfl
theorem tw_70 : (Jvm.Cond.initialized "java/lang/Exception") ∈ ab_Tg := ab_t1 26 rfl rfl
theorem tw_71 : (Jvm.Cond.initialized "java/lang/RuntimeException") ∈ ab_Tg := ab_t1 27 rfl rfl
theorem tw_72 : (Jvm.Cond.initialized "java/lang/IllegalArgumentException") ∈ ab_Tg := ab_t1 28 rfl rfl
theorem tw_73 : (Jvm.Cond.initialized "java/lang/IllegalStateException") ∈ ab_Tg := ab_t1 29 rfl rfl
theorem tw_74 : (Jvm.Cond.classLink "WitnessesMustLieLaw" (8 : Nat) "WitnessesMustLie") ∈ ab_Tg := ab_t1 30 rfl rfl
theorem tw_75 : (Jvm.Cond.instantiable "WitnessesMustLie" (8 : Nat)) ∈ ab_Tg := ab_t1 31 rfl rfl
theorem tw_76 : (Jvm.Cond.methodLink "WitnessesMustLieLaw" (17 : Nat) ({ cls := "WitnessesMustLie", name := "<init>", desc := "()V" } : Jvm.MethodName)) ∈ ab_Tg := ab_t1 32 rfl rfl
theorem tw_77 : (Jvm.Cond.instanceMethod ({ cls := "WitnessesMustLie", name := "<init>", desc := "()V" } : Jvm.MethodName)) ∈ ab_Tg := ab_t1 33 rfl rfl
theorem tw_78 : (Jvm.Cond.code ({ cls := "WitnessesMustLie", name := "<init>", desc := "()V" } : Jvm.MethodName) prog_1_method_1_code (3 : Nat) (Option.none : Option Jvm.ClassFile.FieldType)) ∈ ab_Tg := ab_t1 34 rfl rfl
theorem tw_79 : (Jvm.Cond.methodLink "WitnessesMustLie" (3 : Nat) ({ cls := "java/lang/Object", name := "<init>", desc := "()V" } : Jvm.MethodName)) ∈ ab_Tg := ab_t1 35 rfl rfl
theorem tw_80 : (Jvm.Cond.instanceMethod ({ cls := "java/lang/Object", name := "<init>", desc := "()V" } : Jvm.MethodName)) ∈ ab_Tg := ab_t1 36 rfl rfl
theorem tw_81 : (Jvm.Cond.code ({ cls := "java/lang/Object", name := "<init>", desc := "()V" } : Jvm.MethodName) object_method_1_code (1 : Nat) (Option.none : Option Jvm.ClassFile.FieldType)) ∈ ab_Tg := ab_t1 37 rfl rfl
theorem tw_82 : (Jvm.Cond.classLink "WitnessesMustLie" (9 : Nat) "java/util/ArrayList") ∈ ab_Tg := ab_t1 38 rfl rfl
theorem tw_83 : (Jvm.Cond.instantiable "java/util/ArrayList" (3 : Nat)) ∈ ab_Tg := ab_t1 39 rfl rfl
theorem tw_84 : (Jvm.Cond.methodLink "WitnessesMustLie" (11 : Nat) ({ cls := "java/util/ArrayList", name := "<init>", desc := "()V" } : Jvm.MethodName)) ∈ ab_Tg := ab_t1 40 rfl rfl
theorem tw_85 : (Jvm.Cond.instanceMethod ({ cls := "java/util/ArrayList", name := "<init>", desc := "()V" } : Jvm.MethodName)) ∈ ab_Tg := ab_t1 41 rfl rfl
theorem tw_86 : (Jvm.Cond.code ({ cls := "java/util/ArrayList", name := "<init>", desc := "()V" } : Jvm.MethodName) prog_30_method_2_code (1 : Nat) (Option.none : Option Jvm.ClassFile.FieldType)) ∈ ab_Tg := ab_t1 42 rfl rfl
theorem tw_87 : (Jvm.Cond.methodLink "java/util/ArrayList" (1 : Nat) ({ cls := "java/util/AbstractList", name := "<init>", desc := "()V" } : Jvm.MethodName)) ∈ ab_Tg := ab_t1 43 rfl rfl
theorem tw_88 : (Jvm.Cond.instanceMethod ({ cls := "java/util/AbstractList", name := "<init>", desc := "()V" } : Jvm.MethodName)) ∈ ab_Tg := ab_t1 44 rfl rfl
theorem tw_89 : (Jvm.Cond.code ({ cls := "java/util/AbstractList", name := "<init>", desc := "()V" } : Jvm.MethodName) prog_29_method_1_code (1 : Nat) (Option.none : Option Jvm.ClassFile.FieldType)) ∈ ab_Tg := ab_t1 45 rfl rfl
theorem tw_90 : (Jvm.Cond.methodLink "java/util/AbstractList" (1 : Nat) ({ cls := "java/util/AbstractCollection", name := "<init>", desc := "()V" } : Jvm.MethodName)) ∈ ab_Tg := ab_t1 46 rfl rfl
theorem tw_91 : (Jvm.Cond.instanceMethod ({ cls := "java/util/AbstractCollection", name := "<init>", desc := "()V" } : Jvm.MethodName)) ∈ ab_Tg := ab_t1 47 rfl rfl
theorem tw_92 : (Jvm.Cond.code ({ cls := "java/util/AbstractCollection", name := "<init>", desc := "()V" } : Jvm.MethodName) prog_28_method_1_code (1 : Nat) (Option.none : Option Jvm.ClassFile.FieldType)) ∈ ab_Tg := ab_t1 48 rfl rfl
theorem tw_93 : (Jvm.Cond.methodLink "java/util/AbstractCollection" (1 : Nat) ({ cls := "java/lang/Object", name := "<init>", desc := "()V" } : Jvm.MethodName)) ∈ ab_Tg := ab_t1 49 rfl rfl
theorem tw_94 : (Jvm.Cond.fieldLink "java/util/ArrayList" (39 : Nat) "java/util/ArrayList" "DEFAULTCAPACITY_EMPTY_ELEMENTDATA" "[Ljava/lang/Object;") ∈ ab_Tg := ab_t1 50 rfl rfl
theorem tw_95 : (Jvm.Cond.fieldLink "java/util/ArrayList" (9 : Nat) "java/util/ArrayList" "elementData" "[Ljava/lang/Object;") ∈ ab_Tg := ab_t1 52 rfl rfl
theorem tw_96 : (Jvm.Cond.fieldLink "java/util/ArrayList" (48 : Nat) "java/util/ArrayList" "size" "I") ∈ ab_Tg := ab_t1 53 rfl rfl
theorem tw_97 : (Jvm.Cond.fieldLink "java/util/AbstractList" (7 : Nat) "java/util/AbstractList" "modCount" "I") ∈ ab_Tg := ab_t1 54 rfl rfl
theorem tw_98 : (Jvm.Cond.fieldLink "java/util/ArrayList" (63 : Nat) "java/util/ArrayList" "modCount" "I") ∈ ab_Tg := ab_t1 55 rfl rfl
theorem tw_99 : (Jvm.Cond.sameField "java/util/ArrayList" "java/util/AbstractList" "modCount" "I") ∈ ab_Tg := ab_t1 56 rfl rfl
theorem tw_100 : (Jvm.Cond.lays "java/util/ArrayList" "java/util/ArrayList" "elementData" "[Ljava/lang/Object;") ∈ ab_Tg := ab_t1 57 rfl rfl
theorem tw_101 : (Jvm.Cond.lays "java/util/ArrayList" "java/util/ArrayList" "size" "I") ∈ ab_Tg := ab_t1 59 rfl rfl
theorem tw_102 : (Jvm.Cond.lays "java/util/ArrayList" "java/util/AbstractList" "modCount" "I") ∈ ab_Tg := ab_t1 61 rfl rfl
theorem tw_103 : (Jvm.Cond.superclass "java/util/ArrayList" "java/util/AbstractList") ∈ ab_Tg := ab_t1 63 rfl rfl
theorem tw_104 : (Jvm.Cond.classLink "WitnessesMustLie" (16 : Nat) "WitnessesMustLie$Shelf") ∈ ab_Tg := ab_t1 64 rfl rfl
theorem tw_105 : (Jvm.Cond.arrayOver (Jvm.ClassFile.FieldType.object "WitnessesMustLie$Shelf")) ∈ ab_Tn := ab_n1 65 rfl rfl
theorem tw_106 : (Jvm.Cond.classLink "WitnessesMustLie" (22 : Nat) "WitnessesMustLie$Trial") ∈ ab_Tg := ab_t1 66 rfl rfl
theorem tw_107 : (Jvm.Cond.instantiable "WitnessesMustLie$Trial" (5 : Nat)) ∈ ab_Tg := ab_t1 67 rfl rfl
theorem tw_108 : (Jvm.Cond.methodLinkNest "WitnessesMustLie" (24 : Nat) ({ cls := "WitnessesMustLie$Trial", name := "<init>", desc := "()V" } : Jvm.MethodName) "WitnessesMustLie") ∈ ab_Tn := ab_n1 68 rfl rfl
theorem tw_109 : (Jvm.Cond.instanceMethod ({ cls := "WitnessesMustLie$Trial", name := "<init>", desc := "()V" } : Jvm.MethodName)) ∈ ab_Tg := ab_t1 69 rfl rfl
theorem tw_110 : (Jvm.Cond.code ({ cls := "WitnessesMustLie$Trial", name := "<init>", desc := "()V" } : Jvm.MethodName) prog_12_method_1_code (1 : Nat) (Option.none : Option Jvm.ClassFile.FieldType)) ∈ ab_Tg := ab_t1 70 rfl rfl
theorem tw_111 : (Jvm.Cond.methodLink "WitnessesMustLie$Trial" (3 : Nat) ({ cls := "java/lang/Object", name := "<init>", desc := "()V" } : Jvm.MethodName)) ∈ ab_Tg := ab_t1 71 rfl rfl
theorem tw_112 : (Jvm.Cond.classLink "WitnessesMustLie$Trial" (9 : Nat) "java/util/ArrayList") ∈ ab_Tg := ab_t1 72 rfl rfl
theorem tw_113 : (Jvm.Cond.methodLink "WitnessesMustLie$Trial" (11 : Nat) ({ cls := "java/util/ArrayList", name := "<init>", desc := "()V" } : Jvm.MethodName)) ∈ ab_Tg := ab_t1 73 rfl rfl
theorem tw_114 : (Jvm.Cond.fieldLink "WitnessesMustLie$Trial" (12 : Nat) "WitnessesMustLie$Trial" "laws" "Ljava/util/ArrayList;") ∈ ab_Tg := ab_t1 74 rfl rfl
theorem tw_115 : (Jvm.Cond.fieldLinkNest "WitnessesMustLie" (94 : Nat) "WitnessesMustLie$Trial" "laws" "Ljava/util/ArrayList;" "WitnessesMustLie") ∈ ab_Tn := ab_n1 75 rfl rfl
theorem tw_116 : (Jvm.Cond.fieldLink "WitnessesMustLie$Trial" (18 : Nat) "WitnessesMustLie$Trial" "said" "Ljava/util/ArrayList;") ∈ ab_Tg := ab_t1 76 rfl rfl
theorem tw_117 : (Jvm.Cond.fieldLinkNest "WitnessesMustLie" (107 : Nat) "WitnessesMustLie$Trial" "said" "Ljava/util/ArrayList;" "WitnessesMustLie") ∈ ab_Tn := ab_n1 77 rfl rfl
theorem tw_118 : (Jvm.Cond.fieldLink "WitnessesMustLie$Trial" (21 : Nat) "WitnessesMustLie$Trial" "known" "[I") ∈ ab_Tg := ab_t1 78 rfl rfl
theorem tw_119 : (Jvm.Cond.fieldLink "WitnessesMustLie$Trial" (33 : Nat) "WitnessesMustLie$Trial" "witnesses" "I") ∈ ab_Tg := ab_t1 79 rfl rfl
theorem tw_120 : (Jvm.Cond.fieldLinkNest "WitnessesMustLie" (179 : Nat) "WitnessesMustLie$Trial" "witnesses" "I" "WitnessesMustLie") ∈ ab_Tn := ab_n1 80 rfl rfl
theorem tw_121 : (Jvm.Cond.fieldLink "WitnessesMustLie$Trial" (37 : Nat) "WitnessesMustLie$Trial" "truthWorld" "I") ∈ ab_Tg := ab_t1 81 rfl rfl
theorem tw_122 : (Jvm.Cond.fieldLinkNest "WitnessesMustLie" (114 : Nat) "WitnessesMustLie$Trial" "truthWorld" "I" "WitnessesMustLie") ∈ ab_Tn := ab_n1 82 rfl rfl
theorem tw_123 : (Jvm.Cond.laysFinal "WitnessesMustLie$Trial" "WitnessesMustLie$Trial" "laws" "Ljava/util/ArrayList;") ∈ ab_Tg := ab_t1 83 rfl rfl
theorem tw_124 : (Jvm.Cond.laysFinal "WitnessesMustLie$Trial" "WitnessesMustLie$Trial" "said" "Ljava/util/ArrayList;") ∈ ab_Tg := ab_t1 85 rfl rfl
theorem tw_125 : (Jvm.Cond.laysFinal "WitnessesMustLie$Trial" "WitnessesMustLie$Trial" "known" "[I") ∈ ab_Tg := ab_t1 87 rfl rfl
theorem tw_126 : (Jvm.Cond.lays "WitnessesMustLie$Trial" "WitnessesMustLie$Trial" "witnesses" "I") ∈ ab_Tg := ab_t1 89 rfl rfl
theorem tw_127 : (Jvm.Cond.lays "WitnessesMustLie$Trial" "WitnessesMustLie$Trial" "truthWorld" "I") ∈ ab_Tg := ab_t1 91 rfl rfl
theorem tw_128 : (Jvm.Cond.superclass "WitnessesMustLie$Trial" "java/lang/Object") ∈ ab_Tg := ab_t1 93 rfl rfl
theorem tw_129 : (Jvm.Cond.arrayClass Jvm.ClassFile.FieldType.int) ∈ ab_Tg := ab_t1 94 rfl rfl
theorem tw_130 : (Jvm.Cond.classLink "WitnessesMustLie" (42 : Nat) "WitnessesMustLie$Says") ∈ ab_Tg := ab_t1 95 rfl rfl
theorem tw_131 : (Jvm.Cond.instantiable "WitnessesMustLie$Says" (1 : Nat)) ∈ ab_Tg := ab_t1 96 rfl rfl
theorem tw_132 : (Jvm.Cond.methodLink "WitnessesMustLie" (44 : Nat) ({ cls := "WitnessesMustLie$Says", name := "<init>", desc := "(I)V" } : Jvm.MethodName)) ∈ ab_Tg := ab_t1 97 rfl rfl
theorem tw_133 : (Jvm.Cond.instanceMethod ({ cls := "WitnessesMustLie$Says", name := "<init>", desc := "(I)V" } : Jvm.MethodName)) ∈ ab_Tg := ab_t1 98 rfl rfl
theorem tw_134 : (Jvm.Cond.code ({ cls := "WitnessesMustLie$Says", name := "<init>", desc := "(I)V" } : Jvm.MethodName) prog_10_method_1_code (2 : Nat) (Option.none : Option Jvm.ClassFile.FieldType)) ∈ ab_Tg := ab_t1 99 rfl rfl
theorem tw_135 : (Jvm.Cond.methodLink "WitnessesMustLie$Says" (3 : Nat) ({ cls := "java/lang/Object", name := "<init>", desc := "()V" } : Jvm.MethodName)) ∈ ab_Tg := ab_t1 100 rfl rfl
theorem tw_136 : (Jvm.Cond.fieldLink "WitnessesMustLie$Says" (9 : Nat) "WitnessesMustLie$Says" "number" "I") ∈ ab_Tg := ab_t1 101 rfl rfl
theorem tw_137 : (Jvm.Cond.fieldLinkNest "WitnessesMustLie$Saying" (30 : Nat) "WitnessesMustLie$Says" "number" "I" "WitnessesMustLie") ∈ ab_Tn := ab_n1 102 rfl rfl
theorem tw_138 : (Jvm.Cond.laysFinal "WitnessesMustLie$Says" "WitnessesMustLie$Says" "number" "I") ∈ ab_Tg := ab_t1 103 rfl rfl
theorem tw_139 : (Jvm.Cond.superclass "WitnessesMustLie$Says" "java/lang/Object") ∈ ab_Tg := ab_t1 105 rfl rfl
theorem tw_140 : (Jvm.Cond.arrayClass Jvm.ClassFile.FieldType.long) ∈ ab_Tg := ab_t1 106 rfl rfl
theorem tw_141 : (Jvm.Cond.methodLink "WitnessesMustLie" (47 : Nat) ({ cls := "java/util/ArrayList", name := "add", desc := "(Ljava/lang/Object;)Z" } : Jvm.MethodName)) ∈ ab_Tg := ab_t1 107 rfl rfl
theorem tw_142 : (Jvm.Cond.instanceMethod ({ cls := "java/util/ArrayList", name := "add", desc := "(Ljava/lang/Object;)Z" } : Jvm.MethodName)) ∈ ab_Tg := ab_t1 108 rfl rfl
theorem tw_143 : (Jvm.Cond.selects "java/util/ArrayList" ({ cls := "java/util/ArrayList", name := "add", desc := "(Ljava/lang/Object;)Z" } : Jvm.MethodName) ({ cls := "java/util/ArrayList", name := "add", desc := "(Ljava/lang/Object;)Z" } : Jvm.MethodName)) ∈ ab_Tg := ab_t1 109 rfl rfl
theorem tw_144 : (Jvm.Cond.code ({ cls := "java/util/ArrayList", name := "add", desc := "(Ljava/lang/Object;)Z" } : Jvm.MethodName) prog_30_method_25_code (2 : Nat) (Option.some Jvm.ClassFile.FieldType.boolean)) ∈ ab_Tg := ab_t1 110 rfl rfl
theorem tw_145 : (Jvm.Cond.methodLink "java/util/ArrayList" (131 : Nat) ({ cls := "java/util/ArrayList", name := "add", desc := "(Ljava/lang/Object;[Ljava/lang/Object;I)V" } : Jvm.MethodName)) ∈ ab_Tg := ab_t1 111 rfl rfl
theorem tw_146 : (Jvm.Cond.instanceMethod ({ cls := "java/util/ArrayList", name := "add", desc := "(Ljava/lang/Object;[Ljava/lang/Object;I)V" } : Jvm.MethodName)) ∈ ab_Tg := ab_t1 113 rfl rfl
theorem tw_147 : (Jvm.Cond.code ({ cls := "java/util/ArrayList", name := "add", desc := "(Ljava/lang/Object;[Ljava/lang/Object;I)V" } : Jvm.MethodName) prog_30_method_24_code (4 : Nat) (Option.none : Option Jvm.ClassFile.FieldType)) ∈ ab_Tg := ab_t1 114 rfl rfl
theorem tw_148 : (Jvm.Cond.methodLink "java/util/ArrayList" (129 : Nat) ({ cls := "java/util/ArrayList", name := "grow", desc := "()[Ljava/lang/Object;" } : Jvm.MethodName)) ∈ ab_Tg := ab_t1 115 rfl rfl
theorem tw_149 : (Jvm.Cond.instanceMethod ({ cls := "java/util/ArrayList", name := "grow", desc := "()[Ljava/lang/Object;" } : Jvm.MethodName)) ∈ ab_Tg := ab_t1 117 rfl rfl
theorem tw_150 : (Jvm.Cond.code ({ cls := "java/util/ArrayList", name := "grow", desc := "()[Ljava/lang/Object;" } : Jvm.MethodName) prog_30_method_7_code (1 : Nat) (Option.some (Jvm.ClassFile.FieldType.array (Jvm.ClassFile.FieldType.object "java/lang/Object")))) ∈ ab_Tg := ab_t1 118 rfl rfl
theorem tw_151 : (Jvm.Cond.methodLink "java/util/ArrayList" (69 : Nat) ({ cls := "java/util/ArrayList", name := "grow", desc := "(I)[Ljava/lang/Object;" } : Jvm.MethodName)) ∈ ab_Tg := ab_t1 119 rfl rfl
theorem tw_152 : (Jvm.Cond.instanceMethod ({ cls := "java/util/ArrayList", name := "grow", desc := "(I)[Ljava/lang/Object;" } : Jvm.MethodName)) ∈ ab_Tg := ab_t1 121 rfl rfl
theorem tw_153 : (Jvm.Cond.code ({ cls := "java/util/ArrayList", name := "grow", desc := "(I)[Ljava/lang/Object;" } : Jvm.MethodName) prog_30_method_6_code (4 : Nat) (Option.some (Jvm.ClassFile.FieldType.array (Jvm.ClassFile.FieldType.object "java/lang/Object")))) ∈ ab_Tg := ab_t1 122 rfl rfl
theorem tw_154 : (Jvm.Cond.methodLink "java/util/ArrayList" (73 : Nat) ({ cls := "jdk/internal/util/ArraysSupport", name := "newLength", desc := "(III)I" } : Jvm.MethodName)) ∈ ab_Tg := ab_t1 123 rfl rfl
theorem tw_155 : (Jvm.Cond.static ({ cls := "jdk/internal/util/ArraysSupport", name := "newLength", desc := "(III)I" } : Jvm.MethodName)) ∈ ab_Tg := ab_t1 124 rfl rfl
theorem tw_156 : (Jvm.Cond.code ({ cls := "jdk/internal/util/ArraysSupport", name := "newLength", desc := "(III)I" } : Jvm.MethodName) prog_37_method_27_code (4 : Nat) (Option.some Jvm.ClassFile.FieldType.int)) ∈ ab_Tg := ab_t1 125 rfl rfl
theorem tw_157 : (Jvm.Cond.methodLink "jdk/internal/util/ArraysSupport" (194 : Nat) ({ cls := "java/lang/Math", name := "max", desc := "(II)I" } : Jvm.MethodName)) ∈ ab_Tg := ab_t1 126 rfl rfl
theorem tw_158 : (Jvm.Cond.static ({ cls := "java/lang/Math", name := "max", desc := "(II)I" } : Jvm.MethodName)) ∈ ab_Tg := ab_t1 127 rfl rfl
theorem tw_159 : (Jvm.Cond.code ({ cls := "java/lang/Math", name := "max", desc := "(II)I" } : Jvm.MethodName) prog_23_method_65_code (2 : Nat) (Option.some Jvm.ClassFile.FieldType.int)) ∈ ab_Tg := ab_t1 128 rfl rfl
theorem tw_160 : (Jvm.Cond.constant "jdk/internal/util/ArraysSupport" (200 : Nat) (2147483639 : Int32)) ∈ ab_Tg := ab_t1 129 rfl rfl
theorem tw_161 : (Jvm.Cond.methodLink "jdk/internal/util/ArraysSupport" (201 : Nat) ({ cls := "jdk/internal/util/ArraysSupport", name := "hugeLength", desc := "(II)I" } : Jvm.MethodName)) ∈ ab_Tg := ab_t1 130 rfl rfl
theorem tw_162 : (Jvm.Cond.static ({ cls := "jdk/internal/util/ArraysSupport", name := "hugeLength", desc := "(II)I" } : Jvm.MethodName)) ∈ ab_Tg := ab_t1 131 rfl rfl
theorem tw_163 : (Jvm.Cond.code ({ cls := "jdk/internal/util/ArraysSupport", name := "hugeLength", desc := "(II)I" } : Jvm.MethodName) prog_37_method_28_code (3 : Nat) (Option.some Jvm.ClassFile.FieldType.int)) ∈ ab_Tg := ab_t1 132 rfl rfl
theorem tw_164 : (Jvm.Cond.methodLink "java/util/ArrayList" (66 : Nat) ({ cls := "java/util/Arrays", name := "copyOf", desc := "([Ljava/lang/Object;I)[Ljava/lang/Object;" } : Jvm.MethodName)) ∈ ab_Tg := ab_t1 133 rfl rfl
theorem tw_165 : (Jvm.Cond.static ({ cls := "java/util/Arrays", name := "copyOf", desc := "([Ljava/lang/Object;I)[Ljava/lang/Object;" } : Jvm.MethodName)) ∈ ab_Tg := ab_t1 134 rfl rfl
theorem tw_166 : (Jvm.Cond.code ({ cls := "java/util/Arrays", name := "copyOf", desc := "([Ljava/lang/Object;I)[Ljava/lang/Object;" } : Jvm.MethodName) prog_31_method_119_code (2 : Nat) (Option.some (Jvm.ClassFile.FieldType.array (Jvm.ClassFile.FieldType.object "java/lang/Object")))) ∈ ab_Tg := ab_t1 135 rfl rfl
theorem tw_167 : (Jvm.Cond.methodLink "java/util/Arrays" (86 : Nat) ({ cls := "java/lang/Object", name := "getClass", desc := "()Ljava/lang/Class;" } : Jvm.MethodName)) ∈ ab_Tg := ab_t1 136 rfl rfl
theorem tw_168 : (Jvm.Cond.instanceMethod ({ cls := "java/lang/Object", name := "getClass", desc := "()Ljava/lang/Class;" } : Jvm.MethodName)) ∈ ab_Tg := ab_t1 137 rfl rfl
theorem tw_169 : (Jvm.Cond.sameMethod "java/lang/Object" "java/lang/Object" "getClass" "()Ljava/lang/Class;") ∈ ab_Tg := ab_t1 138 rfl rfl
theorem tw_170 : (Jvm.Cond.selects "WitnessesMustLie" ({ cls := "java/lang/Object", name := "getClass", desc := "()Ljava/lang/Class;" } : Jvm.MethodName) ({ cls := "java/lang/Object", name := "getClass", desc := "()Ljava/lang/Class;" } : Jvm.MethodName)) ∈ ab_Tg := ab_t1 139 rfl rfl
theorem tw_171 : (Jvm.Cond.selects "WitnessesMustLie$Alike" ({ cls := "java/lang/Object", name := "getClass", desc := "()Ljava/lang/Class;" } : Jvm.MethodName) ({ cls := "java/lang/Object", name := "getClass", desc := "()Ljava/lang/Class;" } : Jvm.MethodName)) ∈ ab_Tg := ab_t1 140 rfl rfl
theorem tw_172 : (Jvm.Cond.selects "WitnessesMustLie$Both" ({ cls := "java/lang/Object", name := "getClass", desc := "()Ljava/lang/Class;" } : Jvm.MethodName) ({ cls := "java/lang/Object", name := "getClass", desc := "()Ljava/lang/Class;" } : Jvm.MethodName)) ∈ ab_Tg := ab_t1 141 rfl rfl
theorem tw_173 : (Jvm.Cond.selects "WitnessesMustLie$Denies" ({ cls := "java/lang/Object", name := "getClass", desc := "()Ljava/lang/Class;" } : Jvm.MethodName) ({ cls := "java/lang/Object", name := "getClass", desc := "()Ljava/lang/Class;" } : Jvm.MethodName)) ∈ ab_Tg := ab_t1 142 rfl rfl
theorem tw_174 : (Jvm.Cond.selects "WitnessesMustLie$Either" ({ cls := "java/lang/Object", name := "getClass", desc := "()Ljava/lang/Class;" } : Jvm.MethodName) ({ cls := "java/lang/Object", name := "getClass", desc := "()Ljava/lang/Class;" } : Jvm.MethodName)) ∈ ab_Tg := ab_t1 143 rfl rfl
theorem tw_175 : (Jvm.Cond.selects "WitnessesMustLie$Expert" ({ cls := "java/lang/Object", name := "getClass", desc := "()Ljava/lang/Class;" } : Jvm.MethodName) ({ cls := "java/lang/Object", name := "getClass", desc := "()Ljava/lang/Class;" } : Jvm.MethodName)) ∈ ab_Tg := ab_t1 144 rfl rfl
theorem tw_176 : (Jvm.Cond.selects "WitnessesMustLie$If" ({ cls := "java/lang/Object", name := "getClass", desc := "()Ljava/lang/Class;" } : Jvm.MethodName) ({ cls := "java/lang/Object", name := "getClass", desc := "()Ljava/lang/Class;" } : Jvm.MethodName)) ∈ ab_Tg := ab_t1 145 rfl rfl
theorem tw_177 : (Jvm.Cond.selects "WitnessesMustLie$Poet" ({ cls := "java/lang/Object", name := "getClass", desc := "()Ljava/lang/Class;" } : Jvm.MethodName) ({ cls := "java/lang/Object", name := "getClass", desc := "()Ljava/lang/Class;" } : Jvm.MethodName)) ∈ ab_Tg := ab_t1 146 rfl rfl
theorem tw_178 : (Jvm.Cond.selects "WitnessesMustLie$Saying" ({ cls := "java/lang/Object", name := "getClass", desc := "()Ljava/lang/Class;" } : Jvm.MethodName) ({ cls := "java/lang/Object", name := "getClass", desc := "()Ljava/lang/Class;" } : Jvm.MethodName)) ∈ ab_Tg := ab_t1 147 rfl rfl
theorem tw_179 : (Jvm.Cond.selects "WitnessesMustLie$Says" ({ cls := "java/lang/Object", name := "getClass", desc := "()Ljava/lang/Class;" } : Jvm.MethodName) ({ cls := "java/lang/Object", name := "getClass", desc := "()Ljava/lang/Class;" } : Jvm.MethodName)) ∈ ab_Tg := ab_t1 148 rfl rfl
theorem tw_180 : (Jvm.Cond.selects "WitnessesMustLie$Shelf" ({ cls := "java/lang/Object", name := "getClass", desc := "()Ljava/lang/Class;" } : Jvm.MethodName) ({ cls := "java/lang/Object", name := "getClass", desc := "()Ljava/lang/Class;" } : Jvm.MethodName)) ∈ ab_Tg := ab_t1 149 rfl rfl
theorem tw_181 : (Jvm.Cond.selects "WitnessesMustLie$Trial" ({ cls := "java/lang/Object", name := "getClass", desc := "()Ljava/lang/Class;" } : Jvm.MethodName) ({ cls := "java/lang/Object", name := "getClass", desc := "()Ljava/lang/Class;" } : Jvm.MethodName)) ∈ ab_Tg := ab_t1 150 rfl rfl
theorem tw_182 : (Jvm.Cond.selects "WitnessesMustLieModel" ({ cls := "java/lang/Object", name := "getClass", desc := "()Ljava/lang/Class;" } : Jvm.MethodName) ({ cls := "java/lang/Object", name := "getClass", desc := "()Ljava/lang/Class;" } : Jvm.MethodName)) ∈ ab_Tg := ab_t1 151 rfl rfl
theorem tw_183 : (Jvm.Cond.selects "java/lang/IllegalArgumentException" ({ cls := "java/lang/Object", name := "getClass", desc := "()Ljava/lang/Class;" } : Jvm.MethodName) ({ cls := "java/lang/Object", name := "getClass", desc := "()Ljava/lang/Class;" } : Jvm.MethodName)) ∈ ab_Tg := ab_t1 152 rfl rfl
theorem tw_184 : (Jvm.Cond.selects "java/lang/IllegalStateException" ({ cls := "java/lang/Object", name := "getClass", desc := "()Ljava/lang/Class;" } : Jvm.MethodName) ({ cls := "java/lang/Object", name := "getClass", desc := "()Ljava/lang/Class;" } : Jvm.MethodName)) ∈ ab_Tg := ab_t1 153 rfl rfl
theorem tw_185 : (Jvm.Cond.selects "java/util/ArrayList" ({ cls := "java/lang/Object", name := "getClass", desc := "()Ljava/lang/Class;" } : Jvm.MethodName) ({ cls := "java/lang/Object", name := "getClass", desc := "()Ljava/lang/Class;" } : Jvm.MethodName)) ∈ ab_Tg := ab_t1 154 rfl rfl
theorem tw_186 : (Jvm.Cond.methodLink "java/util/Arrays" (300 : Nat) ({ cls := "java/util/Arrays", name := "copyOf", desc := "([Ljava/lang/Object;ILjava/lang/Class;)[Ljava/lang/Object;" } : Jvm.MethodName)) ∈ ab_Tg := ab_t1 156 rfl rfl
theorem tw_187 : (Jvm.Cond.static ({ cls := "java/util/Arrays", name := "copyOf", desc := "([Ljava/lang/Object;ILjava/lang/Class;)[Ljava/lang/Object;" } : Jvm.MethodName)) ∈ ab_Tg := ab_t1 157 rfl rfl
theorem tw_188 : (Jvm.Cond.code ({ cls := "java/util/Arrays", name := "copyOf", desc := "([Ljava/lang/Object;ILjava/lang/Class;)[Ljava/lang/Object;" } : Jvm.MethodName) prog_31_method_120_code (4 : Nat) (Option.some (Jvm.ClassFile.FieldType.array (Jvm.ClassFile.FieldType.object "java/lang/Object")))) ∈ ab_Tg := ab_t1 158 rfl rfl
theorem tw_189 : (Jvm.Cond.classLink "java/util/Arrays" (110 : Nat) "[Ljava/lang/Object;") ∈ ab_Tg := ab_t1 159 rfl rfl
theorem tw_190 : (Jvm.Cond.arrayOver (Jvm.ClassFile.FieldType.object "java/lang/Object")) ∈ ab_Tn := ab_n1 160 rfl rfl
theorem tw_191 : (Jvm.Cond.classLink "java/util/Arrays" (2 : Nat) "java/lang/Object") ∈ ab_Tg := ab_t1 161 rfl rfl
theorem tw_192 : (Jvm.Cond.methodLink "java/util/Arrays" (304 : Nat) ({ cls := "java/lang/Math", name := "min", desc := "(II)I" } : Jvm.MethodName)) ∈ ab_Tg := ab_t1 162 rfl rfl
theorem tw_193 : (Jvm.Cond.static ({ cls := "java/lang/Math", name := "min", desc := "(II)I" } : Jvm.MethodName)) ∈ ab_Tg := ab_t1 163 rfl rfl
theorem tw_194 : (Jvm.Cond.code ({ cls := "java/lang/Math", name := "min", desc := "(II)I" } : Jvm.MethodName) prog_23_method_69_code (2 : Nat) (Option.some Jvm.ClassFile.FieldType.int)) ∈ ab_Tg := ab_t1 164 rfl rfl
theorem tw_195 : (Jvm.Cond.methodLink "java/util/Arrays" (150 : Nat) ({ cls := "java/lang/System", name := "arraycopy", desc := "(Ljava/lang/Object;ILjava/lang/Object;II)V" } : Jvm.MethodName)) ∈ ab_Tg := ab_t1 165 rfl rfl
theorem tw_196 : (Jvm.Cond.static ({ cls := "java/lang/System", name := "arraycopy", desc := "(Ljava/lang/Object;ILjava/lang/Object;II)V" } : Jvm.MethodName)) ∈ ab_Tg := ab_t1 166 rfl rfl
theorem tw_197 : (Jvm.Cond.methodLink "java/util/ArrayList" (79 : Nat) ({ cls := "java/lang/Math", name := "max", desc := "(II)I" } : Jvm.MethodName)) ∈ ab_Tg := ab_t1 168 rfl rfl
theorem tw_198 : (Jvm.Cond.classLink "java/util/ArrayList" (7 : Nat) "java/lang/Object") ∈ ab_Tg := ab_t1 169 rfl rfl
theorem tw_199 : (Jvm.Cond.classLink "WitnessesMustLie" (51 : Nat) "WitnessesMustLie$Denies") ∈ ab_Tg := ab_t1 170 rfl rfl
theorem tw_200 : (Jvm.Cond.instantiable "WitnessesMustLie$Denies" (1 : Nat)) ∈ ab_Tg := ab_t1 171 rfl rfl
theorem tw_201 : (Jvm.Cond.methodLink "WitnessesMustLie" (53 : Nat) ({ cls := "WitnessesMustLie$Denies", name := "<init>", desc := "(I)V" } : Jvm.MethodName)) ∈ ab_Tg := ab_t1 172 rfl rfl
theorem tw_202 : (Jvm.Cond.instanceMethod ({ cls := "WitnessesMustLie$Denies", name := "<init>", desc := "(I)V" } : Jvm.MethodName)) ∈ ab_Tg := ab_t1 173 rfl rfl
theorem tw_203 : (Jvm.Cond.code ({ cls := "WitnessesMustLie$Denies", name := "<init>", desc := "(I)V" } : Jvm.MethodName) prog_4_method_1_code (2 : Nat) (Option.none : Option Jvm.ClassFile.FieldType)) ∈ ab_Tg := ab_t1 174 rfl rfl
theorem tw_204 : (Jvm.Cond.methodLink "WitnessesMustLie$Denies" (1 : Nat) ({ cls := "WitnessesMustLie$Says", name := "<init>", desc := "(I)V" } : Jvm.MethodName)) ∈ ab_Tg := ab_t1 175 rfl rfl
theorem tw_205 : (Jvm.Cond.laysFinal "WitnessesMustLie$Denies" "WitnessesMustLie$Says" "number" "I") ∈ ab_Tg := ab_t1 176 rfl rfl
theorem tw_206 : (Jvm.Cond.superclass "WitnessesMustLie$Denies" "WitnessesMustLie$Says") ∈ ab_Tg := ab_t1 177 rfl rfl
theorem tw_207 : (Jvm.Cond.classLink "WitnessesMustLie" (54 : Nat) "WitnessesMustLie$Both") ∈ ab_Tg := ab_t1 178 rfl rfl
theorem tw_208 : (Jvm.Cond.instantiable "WitnessesMustLie$Both" (1 : Nat)) ∈ ab_Tg := ab_t1 179 rfl rfl
theorem tw_209 : (Jvm.Cond.methodLink "WitnessesMustLie" (56 : Nat) ({ cls := "WitnessesMustLie$Both", name := "<init>", desc := "(I)V" } : Jvm.MethodName)) ∈ ab_Tg := ab_t1 180 rfl rfl
theorem tw_210 : (Jvm.Cond.instanceMethod ({ cls := "WitnessesMustLie$Both", name := "<init>", desc := "(I)V" } : Jvm.MethodName)) ∈ ab_Tg := ab_t1 181 rfl rfl
theorem tw_211 : (Jvm.Cond.code ({ cls := "WitnessesMustLie$Both", name := "<init>", desc := "(I)V" } : Jvm.MethodName) prog_3_method_1_code (2 : Nat) (Option.none : Option Jvm.ClassFile.FieldType)) ∈ ab_Tg := ab_t1 182 rfl rfl
theorem tw_212 : (Jvm.Cond.methodLink "WitnessesMustLie$Both" (1 : Nat) ({ cls := "WitnessesMustLie$Says", name := "<init>", desc := "(I)V" } : Jvm.MethodName)) ∈ ab_Tg := ab_t1 183 rfl rfl
theorem tw_213 : (Jvm.Cond.laysFinal "WitnessesMustLie$Both" "WitnessesMustLie$Says" "number" "I") ∈ ab_Tg := ab_t1 184 rfl rfl
theorem tw_214 : (Jvm.Cond.superclass "WitnessesMustLie$Both" "WitnessesMustLie$Says") ∈ ab_Tg := ab_t1 185 rfl rfl
theorem tw_215 : (Jvm.Cond.classLink "WitnessesMustLie" (57 : Nat) "WitnessesMustLie$Either") ∈ ab_Tg := ab_t1 186 rfl rfl
theorem tw_216 : (Jvm.Cond.instantiable "WitnessesMustLie$Either" (1 : Nat)) ∈ ab_Tg := ab_t1 187 rfl rfl
theorem tw_217 : (Jvm.Cond.methodLink "WitnessesMustLie" (59 : Nat) ({ cls := "WitnessesMustLie$Either", name := "<init>", desc := "(I)V" } : Jvm.MethodName)) ∈ ab_Tg := ab_t1 188 rfl rfl
theorem tw_218 : (Jvm.Cond.instanceMethod ({ cls := "WitnessesMustLie$Either", name := "<init>", desc := "(I)V" } : Jvm.MethodName)) ∈ ab_Tg := ab_t1 189 rfl rfl
theorem tw_219 : (Jvm.Cond.code ({ cls := "WitnessesMustLie$Either", name := "<init>", desc := "(I)V" } : Jvm.MethodName) prog_5_method_1_code (2 : Nat) (Option.none : Option Jvm.ClassFile.FieldType)) ∈ ab_Tg := ab_t1 190 rfl rfl
theorem tw_220 : (Jvm.Cond.methodLink "WitnessesMustLie$Either" (1 : Nat) ({ cls := "WitnessesMustLie$Both", name := "<init>", desc := "(I)V" } : Jvm.MethodName)) ∈ ab_Tg := ab_t1 191 rfl rfl
theorem tw_221 : (Jvm.Cond.laysFinal "WitnessesMustLie$Either" "WitnessesMustLie$Says" "number" "I") ∈ ab_Tg := ab_t1 192 rfl rfl
theorem tw_222 : (Jvm.Cond.superclass "WitnessesMustLie$Either" "WitnessesMustLie$Both") ∈ ab_Tg := ab_t1 193 rfl rfl
theorem tw_223 : (Jvm.Cond.classLink "WitnessesMustLie" (60 : Nat) "WitnessesMustLie$If") ∈ ab_Tg := ab_t1 194 rfl rfl
theorem tw_224 : (Jvm.Cond.instantiable "WitnessesMustLie$If" (1 : Nat)) ∈ ab_Tg := ab_t1 195 rfl rfl
theorem tw_225 : (Jvm.Cond.methodLink "WitnessesMustLie" (62 : Nat) ({ cls := "WitnessesMustLie$If", name := "<init>", desc := "(I)V" } : Jvm.MethodName)) ∈ ab_Tg := ab_t1 196 rfl rfl
theorem tw_226 : (Jvm.Cond.instanceMethod ({ cls := "WitnessesMustLie$If", name := "<init>", desc := "(I)V" } : Jvm.MethodName)) ∈ ab_Tg := ab_t1 197 rfl rfl
theorem tw_227 : (Jvm.Cond.code ({ cls := "WitnessesMustLie$If", name := "<init>", desc := "(I)V" } : Jvm.MethodName) prog_7_method_1_code (2 : Nat) (Option.none : Option Jvm.ClassFile.FieldType)) ∈ ab_Tg := ab_t1 198 rfl rfl
theorem tw_228 : (Jvm.Cond.methodLink "WitnessesMustLie$If" (1 : Nat) ({ cls := "WitnessesMustLie$Either", name := "<init>", desc := "(I)V" } : Jvm.MethodName)) ∈ ab_Tg := ab_t1 199 rfl rfl
theorem tw_229 : (Jvm.Cond.laysFinal "WitnessesMustLie$If" "WitnessesMustLie$Says" "number" "I") ∈ ab_Tg := ab_t1 200 rfl rfl
theorem tw_230 : (Jvm.Cond.superclass "WitnessesMustLie$If" "WitnessesMustLie$Either") ∈ ab_Tg := ab_t1 201 rfl rfl
theorem tw_231 : (Jvm.Cond.classLink "WitnessesMustLie" (63 : Nat) "WitnessesMustLie$Alike") ∈ ab_Tg := ab_t1 202 rfl rfl
theorem tw_232 : (Jvm.Cond.instantiable "WitnessesMustLie$Alike" (1 : Nat)) ∈ ab_Tg := ab_t1 203 rfl rfl
theorem tw_233 : (Jvm.Cond.methodLink "WitnessesMustLie" (65 : Nat) ({ cls := "WitnessesMustLie$Alike", name := "<init>", desc := "(I)V" } : Jvm.MethodName)) ∈ ab_Tg := ab_t1 204 rfl rfl
theorem tw_234 : (Jvm.Cond.instanceMethod ({ cls := "WitnessesMustLie$Alike", name := "<init>", desc := "(I)V" } : Jvm.MethodName)) ∈ ab_Tg := ab_t1 205 rfl rfl
theorem tw_235 : (Jvm.Cond.code ({ cls := "WitnessesMustLie$Alike", name := "<init>", desc := "(I)V" } : Jvm.MethodName) prog_2_method_1_code (2 : Nat) (Option.none : Option Jvm.ClassFile.FieldType)) ∈ ab_Tg := ab_t1 206 rfl rfl
theorem tw_236 : (Jvm.Cond.methodLink "WitnessesMustLie$Alike" (1 : Nat) ({ cls := "WitnessesMustLie$Both", name := "<init>", desc := "(I)V" } : Jvm.MethodName)) ∈ ab_Tg := ab_t1 207 rfl rfl
theorem tw_237 : (Jvm.Cond.laysFinal "WitnessesMustLie$Alike" "WitnessesMustLie$Says" "number" "I") ∈ ab_Tg := ab_t1 208 rfl rfl
theorem tw_238 : (Jvm.Cond.superclass "WitnessesMustLie$Alike" "WitnessesMustLie$Both") ∈ ab_Tg := ab_t1 209 rfl rfl
theorem tw_239 : (Jvm.Cond.classLink "WitnessesMustLie" (66 : Nat) "WitnessesMustLie$Expert") ∈ ab_Tg := ab_t1 210 rfl rfl
theorem tw_240 : (Jvm.Cond.instantiable "WitnessesMustLie$Expert" (1 : Nat)) ∈ ab_Tg := ab_t1 211 rfl rfl
theorem tw_241 : (Jvm.Cond.methodLink "WitnessesMustLie" (68 : Nat) ({ cls := "WitnessesMustLie$Expert", name := "<init>", desc := "(I)V" } : Jvm.MethodName)) ∈ ab_Tg := ab_t1 212 rfl rfl
theorem tw_242 : (Jvm.Cond.instanceMethod ({ cls := "WitnessesMustLie$Expert", name := "<init>", desc := "(I)V" } : Jvm.MethodName)) ∈ ab_Tg := ab_t1 213 rfl rfl
theorem tw_243 : (Jvm.Cond.code ({ cls := "WitnessesMustLie$Expert", name := "<init>", desc := "(I)V" } : Jvm.MethodName) prog_6_method_1_code (2 : Nat) (Option.none : Option Jvm.ClassFile.FieldType)) ∈ ab_Tg := ab_t1 214 rfl rfl
theorem tw_244 : (Jvm.Cond.methodLink "WitnessesMustLie$Expert" (1 : Nat) ({ cls := "WitnessesMustLie$Denies", name := "<init>", desc := "(I)V" } : Jvm.MethodName)) ∈ ab_Tg := ab_t1 215 rfl rfl
theorem tw_245 : (Jvm.Cond.laysFinal "WitnessesMustLie$Expert" "WitnessesMustLie$Says" "number" "I") ∈ ab_Tg := ab_t1 216 rfl rfl
theorem tw_246 : (Jvm.Cond.superclass "WitnessesMustLie$Expert" "WitnessesMustLie$Denies") ∈ ab_Tg := ab_t1 217 rfl rfl
theorem tw_247 : (Jvm.Cond.classLink "WitnessesMustLie" (69 : Nat) "WitnessesMustLie$Poet") ∈ ab_Tg := ab_t1 218 rfl rfl
theorem tw_248 : (Jvm.Cond.instantiable "WitnessesMustLie$Poet" (1 : Nat)) ∈ ab_Tg := ab_t1 219 rfl rfl
theorem tw_249 : (Jvm.Cond.methodLink "WitnessesMustLie" (71 : Nat) ({ cls := "WitnessesMustLie$Poet", name := "<init>", desc := "(I)V" } : Jvm.MethodName)) ∈ ab_Tg := ab_t1 220 rfl rfl
theorem tw_250 : (Jvm.Cond.instanceMethod ({ cls := "WitnessesMustLie$Poet", name := "<init>", desc := "(I)V" } : Jvm.MethodName)) ∈ ab_Tg := ab_t1 221 rfl rfl
theorem tw_251 : (Jvm.Cond.code ({ cls := "WitnessesMustLie$Poet", name := "<init>", desc := "(I)V" } : Jvm.MethodName) prog_8_method_1_code (2 : Nat) (Option.none : Option Jvm.ClassFile.FieldType)) ∈ ab_Tg := ab_t1 222 rfl rfl
theorem tw_252 : (Jvm.Cond.methodLink "WitnessesMustLie$Poet" (3 : Nat) ({ cls := "WitnessesMustLie$Either", name := "<init>", desc := "(I)V" } : Jvm.MethodName)) ∈ ab_Tg := ab_t1 223 rfl rfl
theorem tw_253 : (Jvm.Cond.laysFinal "WitnessesMustLie$Poet" "WitnessesMustLie$Says" "number" "I") ∈ ab_Tg := ab_t1 224 rfl rfl
theorem tw_254 : (Jvm.Cond.superclass "WitnessesMustLie$Poet" "WitnessesMustLie$Either") ∈ ab_Tg := ab_t1 225 rfl rfl
theorem tw_255 : (Jvm.Cond.instantiable "WitnessesMustLie$Shelf" (6 : Nat)) ∈ ab_Tg := ab_t1 226 rfl rfl
theorem tw_256 : (Jvm.Cond.methodLink "WitnessesMustLie" (72 : Nat) ({ cls := "WitnessesMustLie$Shelf", name := "<init>", desc := "(LWitnessesMustLie$Says;)V" } : Jvm.MethodName)) ∈ ab_Tg := ab_t1 227 rfl rfl
theorem tw_257 : (Jvm.Cond.instanceMethod ({ cls := "WitnessesMustLie$Shelf", name := "<init>", desc := "(LWitnessesMustLie$Says;)V" } : Jvm.MethodName)) ∈ ab_Tg := ab_t1 228 rfl rfl
theorem tw_258 : (Jvm.Cond.code ({ cls := "WitnessesMustLie$Shelf", name := "<init>", desc := "(LWitnessesMustLie$Says;)V" } : Jvm.MethodName) prog_11_method_1_code (2 : Nat) (Option.none : Option Jvm.ClassFile.FieldType)) ∈ ab_Tg := ab_t1 229 rfl rfl
theorem tw_259 : (Jvm.Cond.methodLink "WitnessesMustLie$Shelf" (3 : Nat) ({ cls := "java/lang/Object", name := "<init>", desc := "()V" } : Jvm.MethodName)) ∈ ab_Tg := ab_t1 230 rfl rfl
theorem tw_260 : (Jvm.Cond.fieldLink "WitnessesMustLie$Shelf" (9 : Nat) "WitnessesMustLie$Shelf" "numbers" "[I") ∈ ab_Tg := ab_t1 231 rfl rfl
theorem tw_261 : (Jvm.Cond.fieldLinkNest "WitnessesMustLie" (372 : Nat) "WitnessesMustLie$Shelf" "numbers" "[I" "WitnessesMustLie") ∈ ab_Tn := ab_n1 232 rfl rfl
theorem tw_262 : (Jvm.Cond.fieldLink "WitnessesMustLie$Shelf" (19 : Nat) "WitnessesMustLie$Shelf" "holds" "I") ∈ ab_Tg := ab_t1 233 rfl rfl
theorem tw_263 : (Jvm.Cond.fieldLink "WitnessesMustLie$Shelf" (15 : Nat) "WitnessesMustLie$Shelf" "kind" "LWitnessesMustLie$Says;") ∈ ab_Tg := ab_t1 234 rfl rfl
theorem tw_264 : (Jvm.Cond.fieldLinkNest "WitnessesMustLie" (148 : Nat) "WitnessesMustLie$Shelf" "kind" "LWitnessesMustLie$Says;" "WitnessesMustLie") ∈ ab_Tn := ab_n1 235 rfl rfl
theorem tw_265 : (Jvm.Cond.fieldLink "WitnessesMustLie$Shelf" (23 : Nat) "WitnessesMustLie$Shelf" "figure" "I") ∈ ab_Tg := ab_t1 236 rfl rfl
theorem tw_266 : (Jvm.Cond.fieldLinkNest "WitnessesMustLie" (152 : Nat) "WitnessesMustLie$Shelf" "figure" "I" "WitnessesMustLie") ∈ ab_Tn := ab_n1 237 rfl rfl
theorem tw_267 : (Jvm.Cond.fieldLinkNest "WitnessesMustLie" (83 : Nat) "WitnessesMustLie$Shelf" "sort" "I" "WitnessesMustLie") ∈ ab_Tn := ab_n1 238 rfl rfl
theorem tw_268 : (Jvm.Cond.fieldLink "WitnessesMustLie$Shelf" (26 : Nat) "WitnessesMustLie$Shelf" "sort" "I") ∈ ab_Tg := ab_t1 239 rfl rfl
theorem tw_269 : (Jvm.Cond.fieldLink "WitnessesMustLie$Shelf" (29 : Nat) "WitnessesMustLie$Shelf" "length" "I") ∈ ab_Tg := ab_t2 0 rfl rfl
theorem tw_270 : (Jvm.Cond.fieldLinkNest "WitnessesMustLie" (304 : Nat) "WitnessesMustLie$Shelf" "length" "I" "WitnessesMustLie") ∈ ab_Tn := ab_n2 1 rfl rfl
theorem tw_271 : (Jvm.Cond.laysFinal "WitnessesMustLie$Shelf" "WitnessesMustLie$Shelf" "numbers" "[I") ∈ ab_Tg := ab_t2 2 rfl rfl
theorem tw_272 : (Jvm.Cond.lays "WitnessesMustLie$Shelf" "WitnessesMustLie$Shelf" "holds" "I") ∈ ab_Tg := ab_t2 4 rfl rfl
theorem tw_273 : (Jvm.Cond.lays "WitnessesMustLie$Shelf" "WitnessesMustLie$Shelf" "kind" "LWitnessesMustLie$Says;") ∈ ab_Tg := ab_t2 6 rfl rfl
theorem tw_274 : (Jvm.Cond.lays "WitnessesMustLie$Shelf" "WitnessesMustLie$Shelf" "figure" "I") ∈ ab_Tg := ab_t2 8 rfl rfl
theorem tw_275 : (Jvm.Cond.lays "WitnessesMustLie$Shelf" "WitnessesMustLie$Shelf" "sort" "I") ∈ ab_Tg := ab_t2 10 rfl rfl
theorem tw_276 : (Jvm.Cond.lays "WitnessesMustLie$Shelf" "WitnessesMustLie$Shelf" "length" "I") ∈ ab_Tg := ab_t2 12 rfl rfl
theorem tw_277 : (Jvm.Cond.superclass "WitnessesMustLie$Shelf" "java/lang/Object") ∈ ab_Tg := ab_t2 14 rfl rfl
theorem tw_278 : (Jvm.Cond.fieldLink "WitnessesMustLie" (12 : Nat) "WitnessesMustLie" "kinds" "Ljava/util/ArrayList;") ∈ ab_Tg := ab_t2 15 rfl rfl
theorem tw_279 : (Jvm.Cond.fieldLink "WitnessesMustLie" (18 : Nat) "WitnessesMustLie" "shelves" "[LWitnessesMustLie$Shelf;") ∈ ab_Tg := ab_t2 16 rfl rfl
theorem tw_280 : (Jvm.Cond.fieldLink "WitnessesMustLie" (25 : Nat) "WitnessesMustLie" "court" "LWitnessesMustLie$Trial;") ∈ ab_Tg := ab_t2 17 rfl rfl
theorem tw_281 : (Jvm.Cond.fieldLink "WitnessesMustLie" (29 : Nat) "WitnessesMustLie" "kept" "LWitnessesMustLie$Trial;") ∈ ab_Tg := ab_t2 18 rfl rfl
theorem tw_282 : (Jvm.Cond.fieldLink "WitnessesMustLie" (32 : Nat) "WitnessesMustLie" "tried" "LWitnessesMustLie$Trial;") ∈ ab_Tg := ab_t2 19 rfl rfl
theorem tw_283 : (Jvm.Cond.fieldLink "WitnessesMustLie" (327 : Nat) "WitnessesMustLie" "isKept" "Z") ∈ ab_Tg := ab_t2 20 rfl rfl
theorem tw_284 : (Jvm.Cond.fieldLink "WitnessesMustLie" (35 : Nat) "WitnessesMustLie" "oneLies" "[J") ∈ ab_Tg := ab_t2 21 rfl rfl
theorem tw_285 : (Jvm.Cond.fieldLink "WitnessesMustLie" (39 : Nat) "WitnessesMustLie" "otherLies" "[J") ∈ ab_Tg := ab_t2 22 rfl rfl
theorem tw_286 : (Jvm.Cond.laysFinal "WitnessesMustLie" "WitnessesMustLie" "kinds" "Ljava/util/ArrayList;") ∈ ab_Tg := ab_t2 23 rfl rfl
theorem tw_287 : (Jvm.Cond.laysFinal "WitnessesMustLie" "WitnessesMustLie" "shelves" "[LWitnessesMustLie$Shelf;") ∈ ab_Tg := ab_t2 25 rfl rfl
theorem tw_288 : (Jvm.Cond.laysFinal "WitnessesMustLie" "WitnessesMustLie" "court" "LWitnessesMustLie$Trial;") ∈ ab_Tg := ab_t2 27 rfl rfl
theorem tw_289 : (Jvm.Cond.laysFinal "WitnessesMustLie" "WitnessesMustLie" "kept" "LWitnessesMustLie$Trial;") ∈ ab_Tg := ab_t2 29 rfl rfl
theorem tw_290 : (Jvm.Cond.laysFinal "WitnessesMustLie" "WitnessesMustLie" "tried" "LWitnessesMustLie$Trial;") ∈ ab_Tg := ab_t2 31 rfl rfl
theorem tw_291 : (Jvm.Cond.lays "WitnessesMustLie" "WitnessesMustLie" "isKept" "Z") ∈ ab_Tg := ab_t2 33 rfl rfl
theorem tw_292 : (Jvm.Cond.laysFinal "WitnessesMustLie" "WitnessesMustLie" "oneLies" "[J") ∈ ab_Tg := ab_t2 35 rfl rfl
theorem tw_293 : (Jvm.Cond.laysFinal "WitnessesMustLie" "WitnessesMustLie" "otherLies" "[J") ∈ ab_Tg := ab_t2 37 rfl rfl
theorem tw_294 : (Jvm.Cond.superclass "WitnessesMustLie" "java/lang/Object") ∈ ab_Tg := ab_t2 39 rfl rfl
theorem tw_295 : (Jvm.Cond.methodLink "WitnessesMustLieLaw" (21 : Nat) ({ cls := "WitnessesMustLie", name := "trial", desc := "(I)I" } : Jvm.MethodName)) ∈ ab_Tg := ab_t2 40 rfl rfl
theorem tw_296 : (Jvm.Cond.instanceMethod ({ cls := "WitnessesMustLie", name := "trial", desc := "(I)I" } : Jvm.MethodName)) ∈ ab_Tg := ab_t2 41 rfl rfl
theorem tw_297 : (Jvm.Cond.selects "WitnessesMustLie" ({ cls := "WitnessesMustLie", name := "trial", desc := "(I)I" } : Jvm.MethodName) ({ cls := "WitnessesMustLie", name := "trial", desc := "(I)I" } : Jvm.MethodName)) ∈ ab_Tg := ab_t2 42 rfl rfl
theorem tw_298 : (Jvm.Cond.code ({ cls := "WitnessesMustLie", name := "trial", desc := "(I)I" } : Jvm.MethodName) prog_1_method_2_code (5 : Nat) (Option.some Jvm.ClassFile.FieldType.int)) ∈ ab_Tg := ab_t2 43 rfl rfl
theorem tw_299 : (Jvm.Cond.methodLink "WitnessesMustLie" (75 : Nat) ({ cls := "WitnessesMustLie", name := "shelfAt", desc := "(I)LWitnessesMustLie$Shelf;" } : Jvm.MethodName)) ∈ ab_Tg := ab_t2 44 rfl rfl
theorem tw_300 : (Jvm.Cond.instanceMethod ({ cls := "WitnessesMustLie", name := "shelfAt", desc := "(I)LWitnessesMustLie$Shelf;" } : Jvm.MethodName)) ∈ ab_Tg := ab_t2 46 rfl rfl
theorem tw_301 : (Jvm.Cond.code ({ cls := "WitnessesMustLie", name := "shelfAt", desc := "(I)LWitnessesMustLie$Shelf;" } : Jvm.MethodName) prog_1_method_51_code (2 : Nat) (Option.some (Jvm.ClassFile.FieldType.object "WitnessesMustLie$Shelf"))) ∈ ab_Tg := ab_t2 47 rfl rfl
theorem tw_302 : (Jvm.Cond.methodLink "WitnessesMustLie" (79 : Nat) ({ cls := "WitnessesMustLie$Shelf", name := "refusalAsRow", desc := "()I" } : Jvm.MethodName)) ∈ ab_Tg := ab_t2 48 rfl rfl
theorem tw_303 : (Jvm.Cond.instanceMethod ({ cls := "WitnessesMustLie$Shelf", name := "refusalAsRow", desc := "()I" } : Jvm.MethodName)) ∈ ab_Tg := ab_t2 49 rfl rfl
theorem tw_304 : (Jvm.Cond.selects "WitnessesMustLie$Shelf" ({ cls := "WitnessesMustLie$Shelf", name := "refusalAsRow", desc := "()I" } : Jvm.MethodName) ({ cls := "WitnessesMustLie$Shelf", name := "refusalAsRow", desc := "()I" } : Jvm.MethodName)) ∈ ab_Tg := ab_t2 50 rfl rfl
theorem tw_305 : (Jvm.Cond.code ({ cls := "WitnessesMustLie$Shelf", name := "refusalAsRow", desc := "()I" } : Jvm.MethodName) prog_11_method_7_code (1 : Nat) (Option.some Jvm.ClassFile.FieldType.int)) ∈ ab_Tg := ab_t2 51 rfl rfl
theorem tw_306 : (Jvm.Cond.methodLink "WitnessesMustLie$Shelf" (32 : Nat) ({ cls := "WitnessesMustLie$Shelf", name := "refusalUnless", desc := "(I)I" } : Jvm.MethodName)) ∈ ab_Tg := ab_t2 52 rfl rfl
theorem tw_307 : (Jvm.Cond.instanceMethod ({ cls := "WitnessesMustLie$Shelf", name := "refusalUnless", desc := "(I)I" } : Jvm.MethodName)) ∈ ab_Tg := ab_t2 54 rfl rfl
theorem tw_308 : (Jvm.Cond.code ({ cls := "WitnessesMustLie$Shelf", name := "refusalUnless", desc := "(I)I" } : Jvm.MethodName) prog_11_method_8_code (2 : Nat) (Option.some Jvm.ClassFile.FieldType.int)) ∈ ab_Tg := ab_t2 55 rfl rfl
theorem tw_309 : (Jvm.Cond.methodLink "WitnessesMustLie$Shelf" (36 : Nat) ({ cls := "WitnessesMustLie$Shelf", name := "isEmpty", desc := "()Z" } : Jvm.MethodName)) ∈ ab_Tg := ab_t2 56 rfl rfl
theorem tw_310 : (Jvm.Cond.instanceMethod ({ cls := "WitnessesMustLie$Shelf", name := "isEmpty", desc := "()Z" } : Jvm.MethodName)) ∈ ab_Tg := ab_t2 57 rfl rfl
theorem tw_311 : (Jvm.Cond.selects "WitnessesMustLie$Shelf" ({ cls := "WitnessesMustLie$Shelf", name := "isEmpty", desc := "()Z" } : Jvm.MethodName) ({ cls := "WitnessesMustLie$Shelf", name := "isEmpty", desc := "()Z" } : Jvm.MethodName)) ∈ ab_Tg := ab_t2 58 rfl rfl
theorem tw_312 : (Jvm.Cond.code ({ cls := "WitnessesMustLie$Shelf", name := "isEmpty", desc := "()Z" } : Jvm.MethodName) prog_11_method_5_code (1 : Nat) (Option.some Jvm.ClassFile.FieldType.boolean)) ∈ ab_Tg := ab_t2 59 rfl rfl
theorem tw_313 : (Jvm.Cond.methodLink "WitnessesMustLie" (87 : Nat) ({ cls := "WitnessesMustLie", name := "brokenPlace", desc := "(LWitnessesMustLie$Shelf;)I" } : Jvm.MethodName)) ∈ ab_Tg := ab_t2 60 rfl rfl
theorem tw_314 : (Jvm.Cond.static ({ cls := "WitnessesMustLie", name := "brokenPlace", desc := "(LWitnessesMustLie$Shelf;)I" } : Jvm.MethodName)) ∈ ab_Tg := ab_t2 61 rfl rfl
theorem tw_315 : (Jvm.Cond.code ({ cls := "WitnessesMustLie", name := "brokenPlace", desc := "(LWitnessesMustLie$Shelf;)I" } : Jvm.MethodName) prog_1_method_63_code (4 : Nat) (Option.some Jvm.ClassFile.FieldType.int)) ∈ ab_Tg := ab_t2 62 rfl rfl
theorem tw_316 : (Jvm.Cond.methodLink "WitnessesMustLie" (314 : Nat) ({ cls := "WitnessesMustLie$Shelf", name := "numberAt", desc := "(I)I" } : Jvm.MethodName)) ∈ ab_Tg := ab_t2 63 rfl rfl
theorem tw_317 : (Jvm.Cond.instanceMethod ({ cls := "WitnessesMustLie$Shelf", name := "numberAt", desc := "(I)I" } : Jvm.MethodName)) ∈ ab_Tg := ab_t2 64 rfl rfl
theorem tw_318 : (Jvm.Cond.selects "WitnessesMustLie$Shelf" ({ cls := "WitnessesMustLie$Shelf", name := "numberAt", desc := "(I)I" } : Jvm.MethodName) ({ cls := "WitnessesMustLie$Shelf", name := "numberAt", desc := "(I)I" } : Jvm.MethodName)) ∈ ab_Tg := ab_t2 65 rfl rfl
theorem tw_319 : (Jvm.Cond.code ({ cls := "WitnessesMustLie$Shelf", name := "numberAt", desc := "(I)I" } : Jvm.MethodName) prog_11_method_11_code (2 : Nat) (Option.some Jvm.ClassFile.FieldType.int)) ∈ ab_Tg := ab_t2 66 rfl rfl
theorem tw_320 : (Jvm.Cond.methodLink "WitnessesMustLie$Shelf" (46 : Nat) ({ cls := "WitnessesMustLie$Shelf", name := "hasPlaces", desc := "(II)Z" } : Jvm.MethodName)) ∈ ab_Tg := ab_t2 67 rfl rfl
theorem tw_321 : (Jvm.Cond.instanceMethod ({ cls := "WitnessesMustLie$Shelf", name := "hasPlaces", desc := "(II)Z" } : Jvm.MethodName)) ∈ ab_Tg := ab_t2 68 rfl rfl
theorem tw_322 : (Jvm.Cond.selects "WitnessesMustLie$Shelf" ({ cls := "WitnessesMustLie$Shelf", name := "hasPlaces", desc := "(II)Z" } : Jvm.MethodName) ({ cls := "WitnessesMustLie$Shelf", name := "hasPlaces", desc := "(II)Z" } : Jvm.MethodName)) ∈ ab_Tg := ab_t2 69 rfl rfl
theorem tw_323 : (Jvm.Cond.code ({ cls := "WitnessesMustLie$Shelf", name := "hasPlaces", desc := "(II)Z" } : Jvm.MethodName) prog_11_method_10_code (3 : Nat) (Option.some Jvm.ClassFile.FieldType.boolean)) ∈ ab_Tg := ab_t2 70 rfl rfl
theorem tw_324 : (Jvm.Cond.methodLink "WitnessesMustLie" (405 : Nat) ({ cls := "WitnessesMustLie", name := "digitsBehind", desc := "(I)I" } : Jvm.MethodName)) ∈ ab_Tg := ab_t2 71 rfl rfl
theorem tw_325 : (Jvm.Cond.static ({ cls := "WitnessesMustLie", name := "digitsBehind", desc := "(I)I" } : Jvm.MethodName)) ∈ ab_Tg := ab_t2 72 rfl rfl
theorem tw_326 : (Jvm.Cond.code ({ cls := "WitnessesMustLie", name := "digitsBehind", desc := "(I)I" } : Jvm.MethodName) prog_1_method_64_code (1 : Nat) (Option.some Jvm.ClassFile.FieldType.int)) ∈ ab_Tg := ab_t2 73 rfl rfl
theorem tw_327 : (Jvm.Cond.methodLink "WitnessesMustLie" (408 : Nat) ({ cls := "WitnessesMustLie", name := "isDigit", desc := "(I)Z" } : Jvm.MethodName)) ∈ ab_Tg := ab_t2 74 rfl rfl
theorem tw_328 : (Jvm.Cond.static ({ cls := "WitnessesMustLie", name := "isDigit", desc := "(I)Z" } : Jvm.MethodName)) ∈ ab_Tg := ab_t2 75 rfl rfl
theorem tw_329 : (Jvm.Cond.code ({ cls := "WitnessesMustLie", name := "isDigit", desc := "(I)Z" } : Jvm.MethodName) prog_1_method_65_code (1 : Nat) (Option.some Jvm.ClassFile.FieldType.boolean)) ∈ ab_Tg := ab_t2 76 rfl rfl
theorem tw_330 : (Jvm.Cond.methodLink "WitnessesMustLie" (91 : Nat) ({ cls := "WitnessesMustLie", name := "enact", desc := "(LWitnessesMustLie$Shelf;)I" } : Jvm.MethodName)) ∈ ab_Tg := ab_t2 77 rfl rfl
theorem tw_331 : (Jvm.Cond.instanceMethod ({ cls := "WitnessesMustLie", name := "enact", desc := "(LWitnessesMustLie$Shelf;)I" } : Jvm.MethodName)) ∈ ab_Tg := ab_t2 79 rfl rfl
theorem tw_332 : (Jvm.Cond.code ({ cls := "WitnessesMustLie", name := "enact", desc := "(LWitnessesMustLie$Shelf;)I" } : Jvm.MethodName) prog_1_method_68_code (4 : Nat) (Option.some Jvm.ClassFile.FieldType.int)) ∈ ab_Tg := ab_t2 80 rfl rfl
theorem tw_333 : (Jvm.Cond.methodLink "WitnessesMustLie" (323 : Nat) ({ cls := "WitnessesMustLie$Trial", name := "becomes", desc := "(LWitnessesMustLie$Trial;)V" } : Jvm.MethodName)) ∈ ab_Tg := ab_t2 81 rfl rfl
theorem tw_334 : (Jvm.Cond.instanceMethod ({ cls := "WitnessesMustLie$Trial", name := "becomes", desc := "(LWitnessesMustLie$Trial;)V" } : Jvm.MethodName)) ∈ ab_Tg := ab_t2 82 rfl rfl
theorem tw_335 : (Jvm.Cond.selects "WitnessesMustLie$Trial" ({ cls := "WitnessesMustLie$Trial", name := "becomes", desc := "(LWitnessesMustLie$Trial;)V" } : Jvm.MethodName) ({ cls := "WitnessesMustLie$Trial", name := "becomes", desc := "(LWitnessesMustLie$Trial;)V" } : Jvm.MethodName)) ∈ ab_Tg := ab_t2 83 rfl rfl
theorem tw_336 : (Jvm.Cond.code ({ cls := "WitnessesMustLie$Trial", name := "becomes", desc := "(LWitnessesMustLie$Trial;)V" } : Jvm.MethodName) prog_12_method_2_code (3 : Nat) (Option.none : Option Jvm.ClassFile.FieldType)) ∈ ab_Tg := ab_t2 84 rfl rfl
theorem tw_337 : (Jvm.Cond.methodLink "WitnessesMustLie$Trial" (25 : Nat) ({ cls := "WitnessesMustLie$Trial", name := "refill", desc := "(Ljava/util/ArrayList;Ljava/util/ArrayList;)V" } : Jvm.MethodName)) ∈ ab_Tg := ab_t2 85 rfl rfl
theorem tw_338 : (Jvm.Cond.static ({ cls := "WitnessesMustLie$Trial", name := "refill", desc := "(Ljava/util/ArrayList;Ljava/util/ArrayList;)V" } : Jvm.MethodName)) ∈ ab_Tg := ab_t2 86 rfl rfl
theorem tw_339 : (Jvm.Cond.code ({ cls := "WitnessesMustLie$Trial", name := "refill", desc := "(Ljava/util/ArrayList;Ljava/util/ArrayList;)V" } : Jvm.MethodName) prog_12_method_3_code (3 : Nat) (Option.none : Option Jvm.ClassFile.FieldType)) ∈ ab_Tg := ab_t2 87 rfl rfl
theorem tw_340 : (Jvm.Cond.methodLink "WitnessesMustLie$Trial" (40 : Nat) ({ cls := "java/util/ArrayList", name := "clear", desc := "()V" } : Jvm.MethodName)) ∈ ab_Tg := ab_t2 88 rfl rfl
theorem tw_341 : (Jvm.Cond.instanceMethod ({ cls := "java/util/ArrayList", name := "clear", desc := "()V" } : Jvm.MethodName)) ∈ ab_Tg := ab_t2 89 rfl rfl
theorem tw_342 : (Jvm.Cond.selects "java/util/ArrayList" ({ cls := "java/util/ArrayList", name := "clear", desc := "()V" } : Jvm.MethodName) ({ cls := "java/util/ArrayList", name := "clear", desc := "()V" } : Jvm.MethodName)) ∈ ab_Tg := ab_t2 90 rfl rfl
theorem tw_343 : (Jvm.Cond.code ({ cls := "java/util/ArrayList", name := "clear", desc := "()V" } : Jvm.MethodName) prog_30_method_40_code (4 : Nat) (Option.none : Option Jvm.ClassFile.FieldType)) ∈ ab_Tg := ab_t2 91 rfl rfl
theorem tw_344 : (Jvm.Cond.methodLink "WitnessesMustLie$Trial" (43 : Nat) ({ cls := "java/util/ArrayList", name := "size", desc := "()I" } : Jvm.MethodName)) ∈ ab_Tg := ab_t2 92 rfl rfl
theorem tw_345 : (Jvm.Cond.instanceMethod ({ cls := "java/util/ArrayList", name := "size", desc := "()I" } : Jvm.MethodName)) ∈ ab_Tg := ab_t2 93 rfl rfl
theorem tw_346 : (Jvm.Cond.selects "java/util/ArrayList" ({ cls := "java/util/ArrayList", name := "size", desc := "()I" } : Jvm.MethodName) ({ cls := "java/util/ArrayList", name := "size", desc := "()I" } : Jvm.MethodName)) ∈ ab_Tg := ab_t2 94 rfl rfl
theorem tw_347 : (Jvm.Cond.code ({ cls := "java/util/ArrayList", name := "size", desc := "()I" } : Jvm.MethodName) prog_30_method_8_code (1 : Nat) (Option.some Jvm.ClassFile.FieldType.int)) ∈ ab_Tg := ab_t2 95 rfl rfl
theorem tw_348 : (Jvm.Cond.methodLink "WitnessesMustLie$Trial" (47 : Nat) ({ cls := "java/util/ArrayList", name := "get", desc := "(I)Ljava/lang/Object;" } : Jvm.MethodName)) ∈ ab_Tg := ab_t2 96 rfl rfl
theorem tw_349 : (Jvm.Cond.instanceMethod ({ cls := "java/util/ArrayList", name := "get", desc := "(I)Ljava/lang/Object;" } : Jvm.MethodName)) ∈ ab_Tg := ab_t2 97 rfl rfl
theorem tw_350 : (Jvm.Cond.selects "java/util/ArrayList" ({ cls := "java/util/ArrayList", name := "get", desc := "(I)Ljava/lang/Object;" } : Jvm.MethodName) ({ cls := "java/util/ArrayList", name := "get", desc := "(I)Ljava/lang/Object;" } : Jvm.MethodName)) ∈ ab_Tg := ab_t2 98 rfl rfl
theorem tw_351 : (Jvm.Cond.code ({ cls := "java/util/ArrayList", name := "get", desc := "(I)Ljava/lang/Object;" } : Jvm.MethodName) prog_30_method_20_code (2 : Nat) (Option.some (Jvm.ClassFile.FieldType.object "java/lang/Object"))) ∈ ab_Tg := ab_t2 99 rfl rfl
theorem tw_352 : (Jvm.Cond.methodLink "java/util/ArrayList" (118 : Nat) ({ cls := "java/util/Objects", name := "checkIndex", desc := "(II)I" } : Jvm.MethodName)) ∈ ab_Tg := ab_t2 100 rfl rfl
theorem tw_353 : (Jvm.Cond.static ({ cls := "java/util/Objects", name := "checkIndex", desc := "(II)I" } : Jvm.MethodName)) ∈ ab_Tg := ab_t2 101 rfl rfl
theorem tw_354 : (Jvm.Cond.code ({ cls := "java/util/Objects", name := "checkIndex", desc := "(II)I" } : Jvm.MethodName) prog_34_method_17_code (2 : Nat) (Option.some Jvm.ClassFile.FieldType.int)) ∈ ab_Tg := ab_t2 102 rfl rfl
theorem tw_355 : (Jvm.Cond.methodLink "java/util/Objects" (105 : Nat) ({ cls := "jdk/internal/util/Preconditions", name := "checkIndex", desc := "(IILjava/util/function/BiFunction;)I" } : Jvm.MethodName)) ∈ ab_Tg := ab_t2 103 rfl rfl
theorem tw_356 : (Jvm.Cond.static ({ cls := "jdk/internal/util/Preconditions", name := "checkIndex", desc := "(IILjava/util/function/BiFunction;)I" } : Jvm.MethodName)) ∈ ab_Tg := ab_t2 104 rfl rfl
theorem tw_357 : (Jvm.Cond.code ({ cls := "jdk/internal/util/Preconditions", name := "checkIndex", desc := "(IILjava/util/function/BiFunction;)I" } : Jvm.MethodName) prog_38_method_11_code (3 : Nat) (Option.some Jvm.ClassFile.FieldType.int)) ∈ ab_Tg := ab_t2 105 rfl rfl
theorem tw_358 : (Jvm.Cond.methodLink "java/util/ArrayList" (123 : Nat) ({ cls := "java/util/ArrayList", name := "elementData", desc := "(I)Ljava/lang/Object;" } : Jvm.MethodName)) ∈ ab_Tg := ab_t2 106 rfl rfl
theorem tw_359 : (Jvm.Cond.instanceMethod ({ cls := "java/util/ArrayList", name := "elementData", desc := "(I)Ljava/lang/Object;" } : Jvm.MethodName)) ∈ ab_Tg := ab_t2 107 rfl rfl
theorem tw_360 : (Jvm.Cond.selects "java/util/ArrayList" ({ cls := "java/util/ArrayList", name := "elementData", desc := "(I)Ljava/lang/Object;" } : Jvm.MethodName) ({ cls := "java/util/ArrayList", name := "elementData", desc := "(I)Ljava/lang/Object;" } : Jvm.MethodName)) ∈ ab_Tg := ab_t2 108 rfl rfl
theorem tw_361 : (Jvm.Cond.code ({ cls := "java/util/ArrayList", name := "elementData", desc := "(I)Ljava/lang/Object;" } : Jvm.MethodName) prog_30_method_18_code (2 : Nat) (Option.some (Jvm.ClassFile.FieldType.object "java/lang/Object"))) ∈ ab_Tg := ab_t2 109 rfl rfl
theorem tw_362 : (Jvm.Cond.classLink "WitnessesMustLie$Trial" (51 : Nat) "WitnessesMustLie$Saying") ∈ ab_Tg := ab_t2 110 rfl rfl
theorem tw_363 : (Jvm.Cond.methodLink "WitnessesMustLie$Trial" (53 : Nat) ({ cls := "java/util/ArrayList", name := "add", desc := "(Ljava/lang/Object;)Z" } : Jvm.MethodName)) ∈ ab_Tg := ab_t2 111 rfl rfl
theorem tw_364 : (Jvm.Cond.methodLink "WitnessesMustLie$Trial" (29 : Nat) ({ cls := "WitnessesMustLie$Trial", name := "knownBy", desc := "(I)I" } : Jvm.MethodName)) ∈ ab_Tg := ab_t2 112 rfl rfl
theorem tw_365 : (Jvm.Cond.instanceMethod ({ cls := "WitnessesMustLie$Trial", name := "knownBy", desc := "(I)I" } : Jvm.MethodName)) ∈ ab_Tg := ab_t2 113 rfl rfl
theorem tw_366 : (Jvm.Cond.selects "WitnessesMustLie$Trial" ({ cls := "WitnessesMustLie$Trial", name := "knownBy", desc := "(I)I" } : Jvm.MethodName) ({ cls := "WitnessesMustLie$Trial", name := "knownBy", desc := "(I)I" } : Jvm.MethodName)) ∈ ab_Tg := ab_t2 114 rfl rfl
theorem tw_367 : (Jvm.Cond.code ({ cls := "WitnessesMustLie$Trial", name := "knownBy", desc := "(I)I" } : Jvm.MethodName) prog_12_method_5_code (2 : Nat) (Option.some Jvm.ClassFile.FieldType.int)) ∈ ab_Tg := ab_t2 115 rfl rfl
theorem tw_368 : (Jvm.Cond.methodLink "WitnessesMustLie" (415 : Nat) ({ cls := "WitnessesMustLie", name := "isEnacted", desc := "(LWitnessesMustLie$Shelf;I)Z" } : Jvm.MethodName)) ∈ ab_Tg := ab_t2 116 rfl rfl
theorem tw_369 : (Jvm.Cond.instanceMethod ({ cls := "WitnessesMustLie", name := "isEnacted", desc := "(LWitnessesMustLie$Shelf;I)Z" } : Jvm.MethodName)) ∈ ab_Tg := ab_t2 118 rfl rfl
theorem tw_370 : (Jvm.Cond.code ({ cls := "WitnessesMustLie", name := "isEnacted", desc := "(LWitnessesMustLie$Shelf;I)Z" } : Jvm.MethodName) prog_1_method_69_code (3 : Nat) (Option.some Jvm.ClassFile.FieldType.boolean)) ∈ ab_Tg := ab_t2 119 rfl rfl
theorem tw_371 : (Jvm.Cond.methodLink "WitnessesMustLie" (419 : Nat) ({ cls := "WitnessesMustLie", name := "sayingAt", desc := "(LWitnessesMustLie$Shelf;II)LWitnessesMustLie$Saying;" } : Jvm.MethodName)) ∈ ab_Tg := ab_t2 120 rfl rfl
theorem tw_372 : (Jvm.Cond.instanceMethod ({ cls := "WitnessesMustLie", name := "sayingAt", desc := "(LWitnessesMustLie$Shelf;II)LWitnessesMustLie$Saying;" } : Jvm.MethodName)) ∈ ab_Tg := ab_t2 122 rfl rfl
theorem tw_373 : (Jvm.Cond.code ({ cls := "WitnessesMustLie", name := "sayingAt", desc := "(LWitnessesMustLie$Shelf;II)LWitnessesMustLie$Saying;" } : Jvm.MethodName) prog_1_method_70_code (7 : Nat) (Option.some (Jvm.ClassFile.FieldType.object "WitnessesMustLie$Saying"))) ∈ ab_Tg := ab_t2 123 rfl rfl
theorem tw_374 : (Jvm.Cond.methodLink "WitnessesMustLie" (411 : Nat) ({ cls := "WitnessesMustLie", name := "digitAt", desc := "(LWitnessesMustLie$Shelf;I)I" } : Jvm.MethodName)) ∈ ab_Tg := ab_t2 124 rfl rfl
theorem tw_375 : (Jvm.Cond.static ({ cls := "WitnessesMustLie", name := "digitAt", desc := "(LWitnessesMustLie$Shelf;I)I" } : Jvm.MethodName)) ∈ ab_Tg := ab_t2 125 rfl rfl
theorem tw_376 : (Jvm.Cond.code ({ cls := "WitnessesMustLie", name := "digitAt", desc := "(LWitnessesMustLie$Shelf;I)I" } : Jvm.MethodName) prog_1_method_66_code (2 : Nat) (Option.some Jvm.ClassFile.FieldType.int)) ∈ ab_Tg := ab_t2 126 rfl rfl
theorem tw_377 : (Jvm.Cond.methodLink "WitnessesMustLie" (337 : Nat) ({ cls := "WitnessesMustLie", name := "kindNumbered", desc := "(I)LWitnessesMustLie$Says;" } : Jvm.MethodName)) ∈ ab_Tg := ab_t2 127 rfl rfl
theorem tw_378 : (Jvm.Cond.instanceMethod ({ cls := "WitnessesMustLie", name := "kindNumbered", desc := "(I)LWitnessesMustLie$Says;" } : Jvm.MethodName)) ∈ ab_Tg := ab_t2 129 rfl rfl
theorem tw_379 : (Jvm.Cond.code ({ cls := "WitnessesMustLie", name := "kindNumbered", desc := "(I)LWitnessesMustLie$Says;" } : Jvm.MethodName) prog_1_method_52_code (2 : Nat) (Option.some (Jvm.ClassFile.FieldType.object "WitnessesMustLie$Says"))) ∈ ab_Tg := ab_t2 130 rfl rfl
theorem tw_380 : (Jvm.Cond.methodLink "WitnessesMustLie" (163 : Nat) ({ cls := "java/util/ArrayList", name := "size", desc := "()I" } : Jvm.MethodName)) ∈ ab_Tg := ab_t2 131 rfl rfl
theorem tw_381 : (Jvm.Cond.methodLink "WitnessesMustLie" (221 : Nat) ({ cls := "java/util/ArrayList", name := "get", desc := "(I)Ljava/lang/Object;" } : Jvm.MethodName)) ∈ ab_Tg := ab_t2 132 rfl rfl
theorem tw_382 : (Jvm.Cond.methodLink "WitnessesMustLie" (135 : Nat) ({ cls := "WitnessesMustLie", name := "isFact", desc := "(I)Z" } : Jvm.MethodName)) ∈ ab_Tg := ab_t2 133 rfl rfl
theorem tw_383 : (Jvm.Cond.static ({ cls := "WitnessesMustLie", name := "isFact", desc := "(I)Z" } : Jvm.MethodName)) ∈ ab_Tg := ab_t2 134 rfl rfl
theorem tw_384 : (Jvm.Cond.code ({ cls := "WitnessesMustLie", name := "isFact", desc := "(I)Z" } : Jvm.MethodName) prog_1_method_45_code (1 : Nat) (Option.some Jvm.ClassFile.FieldType.boolean)) ∈ ab_Tg := ab_t2 135 rfl rfl
theorem tw_385 : (Jvm.Cond.methodLink "WitnessesMustLie" (155 : Nat) ({ cls := "WitnessesMustLie", name := "newSaying", desc := "(ILWitnessesMustLie$Says;III)LWitnessesMustLie$Saying;" } : Jvm.MethodName)) ∈ ab_Tg := ab_t2 136 rfl rfl
theorem tw_386 : (Jvm.Cond.static ({ cls := "WitnessesMustLie", name := "newSaying", desc := "(ILWitnessesMustLie$Says;III)LWitnessesMustLie$Saying;" } : Jvm.MethodName)) ∈ ab_Tg := ab_t2 137 rfl rfl
theorem tw_387 : (Jvm.Cond.code ({ cls := "WitnessesMustLie", name := "newSaying", desc := "(ILWitnessesMustLie$Says;III)LWitnessesMustLie$Saying;" } : Jvm.MethodName) prog_1_method_54_code (5 : Nat) (Option.some (Jvm.ClassFile.FieldType.object "WitnessesMustLie$Saying"))) ∈ ab_Tg := ab_t2 138 rfl rfl
theorem tw_388 : (Jvm.Cond.classLink "WitnessesMustLie" (102 : Nat) "WitnessesMustLie$Saying") ∈ ab_Tg := ab_t2 139 rfl rfl
theorem tw_389 : (Jvm.Cond.instantiable "WitnessesMustLie$Saying" (6 : Nat)) ∈ ab_Tg := ab_t2 140 rfl rfl
theorem tw_390 : (Jvm.Cond.methodLink "WitnessesMustLie" (393 : Nat) ({ cls := "WitnessesMustLie$Says", name := "worldsOf", desc := "(III)J" } : Jvm.MethodName)) ∈ ab_Tg := ab_t2 141 rfl rfl
theorem tw_391 : (Jvm.Cond.instanceMethod ({ cls := "WitnessesMustLie$Says", name := "worldsOf", desc := "(III)J" } : Jvm.MethodName)) ∈ ab_Tg := ab_t2 142 rfl rfl
theorem tw_392 : (Jvm.Cond.selects "WitnessesMustLie$Says" ({ cls := "WitnessesMustLie$Says", name := "worldsOf", desc := "(III)J" } : Jvm.MethodName) ({ cls := "WitnessesMustLie$Says", name := "worldsOf", desc := "(III)J" } : Jvm.MethodName)) ∈ ab_Tg := ab_t2 143 rfl rfl
theorem tw_393 : (Jvm.Cond.sameMethod "WitnessesMustLie$Says" "WitnessesMustLie$Says" "worldsOf" "(III)J") ∈ ab_Tg := ab_t2 144 rfl rfl
theorem tw_394 : (Jvm.Cond.selects "WitnessesMustLie$Alike" ({ cls := "WitnessesMustLie$Says", name := "worldsOf", desc := "(III)J" } : Jvm.MethodName) ({ cls := "WitnessesMustLie$Says", name := "worldsOf", desc := "(III)J" } : Jvm.MethodName)) ∈ ab_Tg := ab_t2 145 rfl rfl
theorem tw_395 : (Jvm.Cond.selects "WitnessesMustLie$Both" ({ cls := "WitnessesMustLie$Says", name := "worldsOf", desc := "(III)J" } : Jvm.MethodName) ({ cls := "WitnessesMustLie$Says", name := "worldsOf", desc := "(III)J" } : Jvm.MethodName)) ∈ ab_Tg := ab_t2 146 rfl rfl
theorem tw_396 : (Jvm.Cond.selects "WitnessesMustLie$Denies" ({ cls := "WitnessesMustLie$Says", name := "worldsOf", desc := "(III)J" } : Jvm.MethodName) ({ cls := "WitnessesMustLie$Says", name := "worldsOf", desc := "(III)J" } : Jvm.MethodName)) ∈ ab_Tg := ab_t2 147 rfl rfl
theorem tw_397 : (Jvm.Cond.selects "WitnessesMustLie$Either" ({ cls := "WitnessesMustLie$Says", name := "worldsOf", desc := "(III)J" } : Jvm.MethodName) ({ cls := "WitnessesMustLie$Says", name := "worldsOf", desc := "(III)J" } : Jvm.MethodName)) ∈ ab_Tg := ab_t2 148 rfl rfl
theorem tw_398 : (Jvm.Cond.selects "WitnessesMustLie$Expert" ({ cls := "WitnessesMustLie$Says", name := "worldsOf", desc := "(III)J" } : Jvm.MethodName) ({ cls := "WitnessesMustLie$Says", name := "worldsOf", desc := "(III)J" } : Jvm.MethodName)) ∈ ab_Tg := ab_t2 149 rfl rfl
theorem tw_399 : (Jvm.Cond.selects "WitnessesMustLie$If" ({ cls := "WitnessesMustLie$Says", name := "worldsOf", desc := "(III)J" } : Jvm.MethodName) ({ cls := "WitnessesMustLie$Says", name := "worldsOf", desc := "(III)J" } : Jvm.MethodName)) ∈ ab_Tg := ab_t2 150 rfl rfl
theorem tw_400 : (Jvm.Cond.selects "WitnessesMustLie$Poet" ({ cls := "WitnessesMustLie$Says", name := "worldsOf", desc := "(III)J" } : Jvm.MethodName) ({ cls := "WitnessesMustLie$Says", name := "worldsOf", desc := "(III)J" } : Jvm.MethodName)) ∈ ab_Tg := ab_t2 151 rfl rfl
theorem tw_401 : (Jvm.Cond.code ({ cls := "WitnessesMustLie$Says", name := "worldsOf", desc := "(III)J" } : Jvm.MethodName) prog_10_method_2_code (4 : Nat) (Option.some Jvm.ClassFile.FieldType.long)) ∈ ab_Tg := ab_t2 152 rfl rfl
theorem tw_402 : (Jvm.Cond.methodLinkNest "WitnessesMustLie$Says" (15 : Nat) ({ cls := "WitnessesMustLie", name := "worldsWith", desc := "(I)J" } : Jvm.MethodName) "WitnessesMustLie") ∈ ab_Tn := ab_n2 153 rfl rfl
theorem tw_403 : (Jvm.Cond.static ({ cls := "WitnessesMustLie", name := "worldsWith", desc := "(I)J" } : Jvm.MethodName)) ∈ ab_Tg := ab_t2 154 rfl rfl
theorem tw_404 : (Jvm.Cond.code ({ cls := "WitnessesMustLie", name := "worldsWith", desc := "(I)J" } : Jvm.MethodName) prog_1_method_55_code (1 : Nat) (Option.some Jvm.ClassFile.FieldType.long)) ∈ ab_Tg := ab_t2 155 rfl rfl
theorem tw_405 : (Jvm.Cond.fieldLink "WitnessesMustLie" (399 : Nat) "WitnessesMustLie" "WORLDS_WITH" "[J") ∈ ab_Tg := ab_t2 156 rfl rfl
theorem tw_406 : (Jvm.Cond.methodLink "WitnessesMustLie$Says" (19 : Nat) ({ cls := "WitnessesMustLie$Says", name := "trueWorlds", desc := "(JJJ)J" } : Jvm.MethodName)) ∈ ab_Tg := ab_t2 158 rfl rfl
theorem tw_407 : (Jvm.Cond.instanceMethod ({ cls := "WitnessesMustLie$Says", name := "trueWorlds", desc := "(JJJ)J" } : Jvm.MethodName)) ∈ ab_Tg := ab_t2 159 rfl rfl
theorem tw_408 : (Jvm.Cond.selects "WitnessesMustLie$Says" ({ cls := "WitnessesMustLie$Says", name := "trueWorlds", desc := "(JJJ)J" } : Jvm.MethodName) ({ cls := "WitnessesMustLie$Says", name := "trueWorlds", desc := "(JJJ)J" } : Jvm.MethodName)) ∈ ab_Tg := ab_t2 160 rfl rfl
theorem tw_409 : (Jvm.Cond.sameMethod "WitnessesMustLie$Says" "WitnessesMustLie$Says" "trueWorlds" "(JJJ)J") ∈ ab_Tg := ab_t2 161 rfl rfl
theorem tw_410 : (Jvm.Cond.selects "WitnessesMustLie$Alike" ({ cls := "WitnessesMustLie$Says", name := "trueWorlds", desc := "(JJJ)J" } : Jvm.MethodName) ({ cls := "WitnessesMustLie$Alike", name := "trueWorlds", desc := "(JJJ)J" } : Jvm.MethodName)) ∈ ab_Tg := ab_t2 162 rfl rfl
theorem tw_411 : (Jvm.Cond.instanceMethod ({ cls := "WitnessesMustLie$Alike", name := "trueWorlds", desc := "(JJJ)J" } : Jvm.MethodName)) ∈ ab_Tg := ab_t2 163 rfl rfl
theorem tw_412 : (Jvm.Cond.code ({ cls := "WitnessesMustLie$Alike", name := "trueWorlds", desc := "(JJJ)J" } : Jvm.MethodName) prog_2_method_2_code (7 : Nat) (Option.some Jvm.ClassFile.FieldType.long)) ∈ ab_Tg := ab_t2 164 rfl rfl
theorem tw_413 : (Jvm.Cond.constantLong "WitnessesMustLie$Alike" (7 : Nat) (-1 : Int64)) ∈ ab_Tg := ab_t2 165 rfl rfl
theorem tw_414 : (Jvm.Cond.selects "WitnessesMustLie$Both" ({ cls := "WitnessesMustLie$Says", name := "trueWorlds", desc := "(JJJ)J" } : Jvm.MethodName) ({ cls := "WitnessesMustLie$Both", name := "trueWorlds", desc := "(JJJ)J" } : Jvm.MethodName)) ∈ ab_Tg := ab_t2 166 rfl rfl
theorem tw_415 : (Jvm.Cond.instanceMethod ({ cls := "WitnessesMustLie$Both", name := "trueWorlds", desc := "(JJJ)J" } : Jvm.MethodName)) ∈ ab_Tg := ab_t2 167 rfl rfl
theorem tw_416 : (Jvm.Cond.code ({ cls := "WitnessesMustLie$Both", name := "trueWorlds", desc := "(JJJ)J" } : Jvm.MethodName) prog_3_method_2_code (7 : Nat) (Option.some Jvm.ClassFile.FieldType.long)) ∈ ab_Tg := ab_t2 168 rfl rfl
theorem tw_417 : (Jvm.Cond.selects "WitnessesMustLie$Denies" ({ cls := "WitnessesMustLie$Says", name := "trueWorlds", desc := "(JJJ)J" } : Jvm.MethodName) ({ cls := "WitnessesMustLie$Denies", name := "trueWorlds", desc := "(JJJ)J" } : Jvm.MethodName)) ∈ ab_Tg := ab_t2 169 rfl rfl
theorem tw_418 : (Jvm.Cond.instanceMethod ({ cls := "WitnessesMustLie$Denies", name := "trueWorlds", desc := "(JJJ)J" } : Jvm.MethodName)) ∈ ab_Tg := ab_t2 170 rfl rfl
theorem tw_419 : (Jvm.Cond.code ({ cls := "WitnessesMustLie$Denies", name := "trueWorlds", desc := "(JJJ)J" } : Jvm.MethodName) prog_4_method_2_code (7 : Nat) (Option.some Jvm.ClassFile.FieldType.long)) ∈ ab_Tg := ab_t2 171 rfl rfl
theorem tw_420 : (Jvm.Cond.constantLong "WitnessesMustLie$Denies" (7 : Nat) (-1 : Int64)) ∈ ab_Tg := ab_t2 172 rfl rfl
theorem tw_421 : (Jvm.Cond.selects "WitnessesMustLie$Either" ({ cls := "WitnessesMustLie$Says", name := "trueWorlds", desc := "(JJJ)J" } : Jvm.MethodName) ({ cls := "WitnessesMustLie$Either", name := "trueWorlds", desc := "(JJJ)J" } : Jvm.MethodName)) ∈ ab_Tg := ab_t2 173 rfl rfl
theorem tw_422 : (Jvm.Cond.instanceMethod ({ cls := "WitnessesMustLie$Either", name := "trueWorlds", desc := "(JJJ)J" } : Jvm.MethodName)) ∈ ab_Tg := ab_t2 174 rfl rfl
theorem tw_423 : (Jvm.Cond.code ({ cls := "WitnessesMustLie$Either", name := "trueWorlds", desc := "(JJJ)J" } : Jvm.MethodName) prog_5_method_2_code (7 : Nat) (Option.some Jvm.ClassFile.FieldType.long)) ∈ ab_Tg := ab_t2 175 rfl rfl
theorem tw_424 : (Jvm.Cond.selects "WitnessesMustLie$Expert" ({ cls := "WitnessesMustLie$Says", name := "trueWorlds", desc := "(JJJ)J" } : Jvm.MethodName) ({ cls := "WitnessesMustLie$Expert", name := "trueWorlds", desc := "(JJJ)J" } : Jvm.MethodName)) ∈ ab_Tg := ab_t2 176 rfl rfl
theorem tw_425 : (Jvm.Cond.instanceMethod ({ cls := "WitnessesMustLie$Expert", name := "trueWorlds", desc := "(JJJ)J" } : Jvm.MethodName)) ∈ ab_Tg := ab_t2 177 rfl rfl
theorem tw_426 : (Jvm.Cond.code ({ cls := "WitnessesMustLie$Expert", name := "trueWorlds", desc := "(JJJ)J" } : Jvm.MethodName) prog_6_method_2_code (7 : Nat) (Option.some Jvm.ClassFile.FieldType.long)) ∈ ab_Tg := ab_t2 178 rfl rfl
theorem tw_427 : (Jvm.Cond.selects "WitnessesMustLie$If" ({ cls := "WitnessesMustLie$Says", name := "trueWorlds", desc := "(JJJ)J" } : Jvm.MethodName) ({ cls := "WitnessesMustLie$If", name := "trueWorlds", desc := "(JJJ)J" } : Jvm.MethodName)) ∈ ab_Tg := ab_t2 179 rfl rfl
theorem tw_428 : (Jvm.Cond.instanceMethod ({ cls := "WitnessesMustLie$If", name := "trueWorlds", desc := "(JJJ)J" } : Jvm.MethodName)) ∈ ab_Tg := ab_t2 180 rfl rfl
theorem tw_429 : (Jvm.Cond.code ({ cls := "WitnessesMustLie$If", name := "trueWorlds", desc := "(JJJ)J" } : Jvm.MethodName) prog_7_method_2_code (7 : Nat) (Option.some Jvm.ClassFile.FieldType.long)) ∈ ab_Tg := ab_t2 181 rfl rfl
theorem tw_430 : (Jvm.Cond.constantLong "WitnessesMustLie$If" (7 : Nat) (-1 : Int64)) ∈ ab_Tg := ab_t2 182 rfl rfl
theorem tw_431 : (Jvm.Cond.selects "WitnessesMustLie$Poet" ({ cls := "WitnessesMustLie$Says", name := "trueWorlds", desc := "(JJJ)J" } : Jvm.MethodName) ({ cls := "WitnessesMustLie$Poet", name := "trueWorlds", desc := "(JJJ)J" } : Jvm.MethodName)) ∈ ab_Tg := ab_t2 183 rfl rfl
theorem tw_432 : (Jvm.Cond.instanceMethod ({ cls := "WitnessesMustLie$Poet", name := "trueWorlds", desc := "(JJJ)J" } : Jvm.MethodName)) ∈ ab_Tg := ab_t2 184 rfl rfl
theorem tw_433 : (Jvm.Cond.code ({ cls := "WitnessesMustLie$Poet", name := "trueWorlds", desc := "(JJJ)J" } : Jvm.MethodName) prog_8_method_2_code (7 : Nat) (Option.some Jvm.ClassFile.FieldType.long)) ∈ ab_Tg := ab_t2 185 rfl rfl
theorem tw_434 : (Jvm.Cond.code ({ cls := "WitnessesMustLie$Says", name := "trueWorlds", desc := "(JJJ)J" } : Jvm.MethodName) prog_10_method_3_code (7 : Nat) (Option.some Jvm.ClassFile.FieldType.long)) ∈ ab_Tg := ab_t2 186 rfl rfl
theorem tw_435 : (Jvm.Cond.methodLink "WitnessesMustLie" (396 : Nat) ({ cls := "WitnessesMustLie$Saying", name := "<init>", desc := "(ILWitnessesMustLie$Says;IIIJ)V" } : Jvm.MethodName)) ∈ ab_Tg := ab_t2 187 rfl rfl
theorem tw_436 : (Jvm.Cond.instanceMethod ({ cls := "WitnessesMustLie$Saying", name := "<init>", desc := "(ILWitnessesMustLie$Says;IIIJ)V" } : Jvm.MethodName)) ∈ ab_Tg := ab_t2 188 rfl rfl
theorem tw_437 : (Jvm.Cond.code ({ cls := "WitnessesMustLie$Saying", name := "<init>", desc := "(ILWitnessesMustLie$Says;IIIJ)V" } : Jvm.MethodName) prog_9_method_1_code (8 : Nat) (Option.none : Option Jvm.ClassFile.FieldType)) ∈ ab_Tg := ab_t2 189 rfl rfl
theorem tw_438 : (Jvm.Cond.methodLink "WitnessesMustLie$Saying" (1 : Nat) ({ cls := "java/lang/Object", name := "<init>", desc := "()V" } : Jvm.MethodName)) ∈ ab_Tg := ab_t2 190 rfl rfl
theorem tw_439 : (Jvm.Cond.fieldLink "WitnessesMustLie$Saying" (7 : Nat) "WitnessesMustLie$Saying" "teller" "I") ∈ ab_Tg := ab_t2 191 rfl rfl
theorem tw_440 : (Jvm.Cond.fieldLinkNest "WitnessesMustLie" (125 : Nat) "WitnessesMustLie$Saying" "teller" "I" "WitnessesMustLie") ∈ ab_Tn := ab_n2 192 rfl rfl
theorem tw_441 : (Jvm.Cond.fieldLinkNest "WitnessesMustLie$Trial" (57 : Nat) "WitnessesMustLie$Saying" "teller" "I" "WitnessesMustLie") ∈ ab_Tn := ab_n2 193 rfl rfl
theorem tw_442 : (Jvm.Cond.fieldLink "WitnessesMustLie$Saying" (13 : Nat) "WitnessesMustLie$Saying" "kind" "LWitnessesMustLie$Says;") ∈ ab_Tg := ab_t2 194 rfl rfl
theorem tw_443 : (Jvm.Cond.fieldLink "WitnessesMustLie$Saying" (17 : Nat) "WitnessesMustLie$Saying" "figure" "I") ∈ ab_Tg := ab_t2 195 rfl rfl
theorem tw_444 : (Jvm.Cond.fieldLink "WitnessesMustLie$Saying" (20 : Nat) "WitnessesMustLie$Saying" "a" "I") ∈ ab_Tg := ab_t2 196 rfl rfl
theorem tw_445 : (Jvm.Cond.fieldLink "WitnessesMustLie$Saying" (23 : Nat) "WitnessesMustLie$Saying" "b" "I") ∈ ab_Tg := ab_t2 197 rfl rfl
theorem tw_446 : (Jvm.Cond.fieldLink "WitnessesMustLie$Saying" (26 : Nat) "WitnessesMustLie$Saying" "trueWorlds" "J") ∈ ab_Tg := ab_t2 198 rfl rfl
theorem tw_447 : (Jvm.Cond.fieldLinkNest "WitnessesMustLie" (110 : Nat) "WitnessesMustLie$Saying" "trueWorlds" "J" "WitnessesMustLie") ∈ ab_Tn := ab_n2 199 rfl rfl
theorem tw_448 : (Jvm.Cond.fieldLinkNest "WitnessesMustLie$Trial" (72 : Nat) "WitnessesMustLie$Saying" "trueWorlds" "J" "WitnessesMustLie") ∈ ab_Tn := ab_n2 200 rfl rfl
theorem tw_449 : (Jvm.Cond.laysFinal "WitnessesMustLie$Saying" "WitnessesMustLie$Saying" "teller" "I") ∈ ab_Tg := ab_t2 201 rfl rfl
theorem tw_450 : (Jvm.Cond.laysFinal "WitnessesMustLie$Saying" "WitnessesMustLie$Saying" "kind" "LWitnessesMustLie$Says;") ∈ ab_Tg := ab_t2 203 rfl rfl
theorem tw_451 : (Jvm.Cond.laysFinal "WitnessesMustLie$Saying" "WitnessesMustLie$Saying" "figure" "I") ∈ ab_Tg := ab_t2 205 rfl rfl
theorem tw_452 : (Jvm.Cond.laysFinal "WitnessesMustLie$Saying" "WitnessesMustLie$Saying" "a" "I") ∈ ab_Tg := ab_t2 207 rfl rfl
theorem tw_453 : (Jvm.Cond.laysFinal "WitnessesMustLie$Saying" "WitnessesMustLie$Saying" "b" "I") ∈ ab_Tg := ab_t2 209 rfl rfl
theorem tw_454 : (Jvm.Cond.laysFinal "WitnessesMustLie$Saying" "WitnessesMustLie$Saying" "trueWorlds" "J") ∈ ab_Tg := ab_t2 211 rfl rfl
theorem tw_455 : (Jvm.Cond.superclass "WitnessesMustLie$Saying" "java/lang/Object") ∈ ab_Tg := ab_t2 213 rfl rfl
theorem tw_456 : (Jvm.Cond.methodLink "WitnessesMustLie" (159 : Nat) ({ cls := "WitnessesMustLie$Trial", name := "addLaw", desc := "(LWitnessesMustLie$Saying;)Z" } : Jvm.MethodName)) ∈ ab_Tg := ab_t2 214 rfl rfl
theorem tw_457 : (Jvm.Cond.instanceMethod ({ cls := "WitnessesMustLie$Trial", name := "addLaw", desc := "(LWitnessesMustLie$Saying;)Z" } : Jvm.MethodName)) ∈ ab_Tg := ab_t2 215 rfl rfl
theorem tw_458 : (Jvm.Cond.selects "WitnessesMustLie$Trial" ({ cls := "WitnessesMustLie$Trial", name := "addLaw", desc := "(LWitnessesMustLie$Saying;)Z" } : Jvm.MethodName) ({ cls := "WitnessesMustLie$Trial", name := "addLaw", desc := "(LWitnessesMustLie$Saying;)Z" } : Jvm.MethodName)) ∈ ab_Tg := ab_t2 216 rfl rfl
theorem tw_459 : (Jvm.Cond.code ({ cls := "WitnessesMustLie$Trial", name := "addLaw", desc := "(LWitnessesMustLie$Saying;)Z" } : Jvm.MethodName) prog_12_method_6_code (2 : Nat) (Option.some Jvm.ClassFile.FieldType.boolean)) ∈ ab_Tg := ab_t2 217 rfl rfl
theorem tw_460 : (Jvm.Cond.methodLink "WitnessesMustLie" (423 : Nat) ({ cls := "WitnessesMustLie", name := "twoDigitsAt", desc := "(LWitnessesMustLie$Shelf;I)I" } : Jvm.MethodName)) ∈ ab_Tg := ab_t2 218 rfl rfl
theorem tw_461 : (Jvm.Cond.static ({ cls := "WitnessesMustLie", name := "twoDigitsAt", desc := "(LWitnessesMustLie$Shelf;I)I" } : Jvm.MethodName)) ∈ ab_Tg := ab_t2 219 rfl rfl
theorem tw_462 : (Jvm.Cond.code ({ cls := "WitnessesMustLie", name := "twoDigitsAt", desc := "(LWitnessesMustLie$Shelf;I)I" } : Jvm.MethodName) prog_1_method_67_code (2 : Nat) (Option.some Jvm.ClassFile.FieldType.int)) ∈ ab_Tg := ab_t2 220 rfl rfl
theorem tw_463 : (Jvm.Cond.methodLink "WitnessesMustLie" (176 : Nat) ({ cls := "WitnessesMustLie$Trial", name := "addWitness", desc := "(I)Z" } : Jvm.MethodName)) ∈ ab_Tg := ab_t2 221 rfl rfl
theorem tw_464 : (Jvm.Cond.instanceMethod ({ cls := "WitnessesMustLie$Trial", name := "addWitness", desc := "(I)Z" } : Jvm.MethodName)) ∈ ab_Tg := ab_t2 222 rfl rfl
theorem tw_465 : (Jvm.Cond.selects "WitnessesMustLie$Trial" ({ cls := "WitnessesMustLie$Trial", name := "addWitness", desc := "(I)Z" } : Jvm.MethodName) ({ cls := "WitnessesMustLie$Trial", name := "addWitness", desc := "(I)Z" } : Jvm.MethodName)) ∈ ab_Tg := ab_t2 223 rfl rfl
theorem tw_466 : (Jvm.Cond.code ({ cls := "WitnessesMustLie$Trial", name := "addWitness", desc := "(I)Z" } : Jvm.MethodName) prog_12_method_8_code (2 : Nat) (Option.some Jvm.ClassFile.FieldType.boolean)) ∈ ab_Tg := ab_t2 224 rfl rfl
theorem tw_467 : (Jvm.Cond.methodLinkNest "WitnessesMustLie$Trial" (64 : Nat) ({ cls := "WitnessesMustLie", name := "areFacts", desc := "(I)Z" } : Jvm.MethodName) "WitnessesMustLie") ∈ ab_Tn := ab_n2 225 rfl rfl
theorem tw_468 : (Jvm.Cond.static ({ cls := "WitnessesMustLie", name := "areFacts", desc := "(I)Z" } : Jvm.MethodName)) ∈ ab_Tg := ab_t2 226 rfl rfl
theorem tw_469 : (Jvm.Cond.code ({ cls := "WitnessesMustLie", name := "areFacts", desc := "(I)Z" } : Jvm.MethodName) prog_1_method_46_code (1 : Nat) (Option.some Jvm.ClassFile.FieldType.boolean)) ∈ ab_Tg := ab_t2 227 rfl rfl
theorem tw_470 : (Jvm.Cond.methodLink "WitnessesMustLie" (426 : Nat) ({ cls := "WitnessesMustLie$Trial", name := "setTruth", desc := "(I)Z" } : Jvm.MethodName)) ∈ ab_Tg := ab_t2 228 rfl rfl
theorem tw_471 : (Jvm.Cond.instanceMethod ({ cls := "WitnessesMustLie$Trial", name := "setTruth", desc := "(I)Z" } : Jvm.MethodName)) ∈ ab_Tg := ab_t2 229 rfl rfl
theorem tw_472 : (Jvm.Cond.selects "WitnessesMustLie$Trial" ({ cls := "WitnessesMustLie$Trial", name := "setTruth", desc := "(I)Z" } : Jvm.MethodName) ({ cls := "WitnessesMustLie$Trial", name := "setTruth", desc := "(I)Z" } : Jvm.MethodName)) ∈ ab_Tg := ab_t2 230 rfl rfl
theorem tw_473 : (Jvm.Cond.code ({ cls := "WitnessesMustLie$Trial", name := "setTruth", desc := "(I)Z" } : Jvm.MethodName) prog_12_method_9_code (2 : Nat) (Option.some Jvm.ClassFile.FieldType.boolean)) ∈ ab_Tg := ab_t2 231 rfl rfl
theorem tw_474 : (Jvm.Cond.methodLinkNest "WitnessesMustLie$Trial" (67 : Nat) ({ cls := "WitnessesMustLie", name := "isWorld", desc := "(I)Z" } : Jvm.MethodName) "WitnessesMustLie") ∈ ab_Tn := ab_n2 232 rfl rfl
theorem tw_475 : (Jvm.Cond.static ({ cls := "WitnessesMustLie", name := "isWorld", desc := "(I)Z" } : Jvm.MethodName)) ∈ ab_Tg := ab_t2 233 rfl rfl
theorem tw_476 : (Jvm.Cond.code ({ cls := "WitnessesMustLie", name := "isWorld", desc := "(I)Z" } : Jvm.MethodName) prog_1_method_47_code (1 : Nat) (Option.some Jvm.ClassFile.FieldType.boolean)) ∈ ab_Tg := ab_t2 234 rfl rfl
theorem tw_477 : (Jvm.Cond.methodLink "WitnessesMustLie" (166 : Nat) ({ cls := "WitnessesMustLie$Trial", name := "addSaid", desc := "(LWitnessesMustLie$Saying;)Z" } : Jvm.MethodName)) ∈ ab_Tg := ab_t2 235 rfl rfl
theorem tw_478 : (Jvm.Cond.instanceMethod ({ cls := "WitnessesMustLie$Trial", name := "addSaid", desc := "(LWitnessesMustLie$Saying;)Z" } : Jvm.MethodName)) ∈ ab_Tg := ab_t2 236 rfl rfl
theorem tw_479 : (Jvm.Cond.selects "WitnessesMustLie$Trial" ({ cls := "WitnessesMustLie$Trial", name := "addSaid", desc := "(LWitnessesMustLie$Saying;)Z" } : Jvm.MethodName) ({ cls := "WitnessesMustLie$Trial", name := "addSaid", desc := "(LWitnessesMustLie$Saying;)Z" } : Jvm.MethodName)) ∈ ab_Tg := ab_t2 237 rfl rfl
theorem tw_480 : (Jvm.Cond.code ({ cls := "WitnessesMustLie$Trial", name := "addSaid", desc := "(LWitnessesMustLie$Saying;)Z" } : Jvm.MethodName) prog_12_method_7_code (2 : Nat) (Option.some Jvm.ClassFile.FieldType.boolean)) ∈ ab_Tg := ab_t2 238 rfl rfl
theorem tw_481 : (Jvm.Cond.methodLink "WitnessesMustLie$Trial" (60 : Nat) ({ cls := "WitnessesMustLie$Trial", name := "hasWitness", desc := "(I)Z" } : Jvm.MethodName)) ∈ ab_Tg := ab_t2 239 rfl rfl
theorem tw_482 : (Jvm.Cond.instanceMethod ({ cls := "WitnessesMustLie$Trial", name := "hasWitness", desc := "(I)Z" } : Jvm.MethodName)) ∈ ab_Tg := ab_t3 0 rfl rfl
theorem tw_483 : (Jvm.Cond.selects "WitnessesMustLie$Trial" ({ cls := "WitnessesMustLie$Trial", name := "hasWitness", desc := "(I)Z" } : Jvm.MethodName) ({ cls := "WitnessesMustLie$Trial", name := "hasWitness", desc := "(I)Z" } : Jvm.MethodName)) ∈ ab_Tg := ab_t3 1 rfl rfl
theorem tw_484 : (Jvm.Cond.code ({ cls := "WitnessesMustLie$Trial", name := "hasWitness", desc := "(I)Z" } : Jvm.MethodName) prog_12_method_4_code (2 : Nat) (Option.some Jvm.ClassFile.FieldType.boolean)) ∈ ab_Tg := ab_t3 2 rfl rfl
theorem tw_485 : (Jvm.Cond.methodLink "WitnessesMustLieLaw" (26 : Nat) ({ cls := "WitnessesMustLie", name := "law", desc := "(II)I" } : Jvm.MethodName)) ∈ ab_Tg := ab_t3 3 rfl rfl
theorem tw_486 : (Jvm.Cond.instanceMethod ({ cls := "WitnessesMustLie", name := "law", desc := "(II)I" } : Jvm.MethodName)) ∈ ab_Tg := ab_t3 4 rfl rfl
theorem tw_487 : (Jvm.Cond.selects "WitnessesMustLie" ({ cls := "WitnessesMustLie", name := "law", desc := "(II)I" } : Jvm.MethodName) ({ cls := "WitnessesMustLie", name := "law", desc := "(II)I" } : Jvm.MethodName)) ∈ ab_Tg := ab_t3 5 rfl rfl
theorem tw_488 : (Jvm.Cond.code ({ cls := "WitnessesMustLie", name := "law", desc := "(II)I" } : Jvm.MethodName) prog_1_method_3_code (4 : Nat) (Option.some Jvm.ClassFile.FieldType.int)) ∈ ab_Tg := ab_t3 6 rfl rfl
theorem tw_489 : (Jvm.Cond.methodLink "WitnessesMustLie" (97 : Nat) ({ cls := "WitnessesMustLie", name := "sayingIn", desc := "(Ljava/util/ArrayList;I)LWitnessesMustLie$Saying;" } : Jvm.MethodName)) ∈ ab_Tg := ab_t3 7 rfl rfl
theorem tw_490 : (Jvm.Cond.static ({ cls := "WitnessesMustLie", name := "sayingIn", desc := "(Ljava/util/ArrayList;I)LWitnessesMustLie$Saying;" } : Jvm.MethodName)) ∈ ab_Tg := ab_t3 8 rfl rfl
theorem tw_491 : (Jvm.Cond.code ({ cls := "WitnessesMustLie", name := "sayingIn", desc := "(Ljava/util/ArrayList;I)LWitnessesMustLie$Saying;" } : Jvm.MethodName) prog_1_method_53_code (2 : Nat) (Option.some (Jvm.ClassFile.FieldType.object "WitnessesMustLie$Saying"))) ∈ ab_Tg := ab_t3 9 rfl rfl
theorem tw_492 : (Jvm.Cond.methodLink "WitnessesMustLie" (101 : Nat) ({ cls := "WitnessesMustLie$Saying", name := "told", desc := "(I)I" } : Jvm.MethodName)) ∈ ab_Tg := ab_t3 10 rfl rfl
theorem tw_493 : (Jvm.Cond.instanceMethod ({ cls := "WitnessesMustLie$Saying", name := "told", desc := "(I)I" } : Jvm.MethodName)) ∈ ab_Tg := ab_t3 11 rfl rfl
theorem tw_494 : (Jvm.Cond.selects "WitnessesMustLie$Saying" ({ cls := "WitnessesMustLie$Saying", name := "told", desc := "(I)I" } : Jvm.MethodName) ({ cls := "WitnessesMustLie$Saying", name := "told", desc := "(I)I" } : Jvm.MethodName)) ∈ ab_Tg := ab_t3 12 rfl rfl
theorem tw_495 : (Jvm.Cond.code ({ cls := "WitnessesMustLie$Saying", name := "told", desc := "(I)I" } : Jvm.MethodName) prog_9_method_2_code (2 : Nat) (Option.some Jvm.ClassFile.FieldType.int)) ∈ ab_Tg := ab_t3 13 rfl rfl
theorem tw_496 : (Jvm.Cond.methodLink "WitnessesMustLie$Saying" (35 : Nat) ({ cls := "WitnessesMustLie$Saying", name := "words", desc := "()I" } : Jvm.MethodName)) ∈ ab_Tg := ab_t3 14 rfl rfl
theorem tw_497 : (Jvm.Cond.instanceMethod ({ cls := "WitnessesMustLie$Saying", name := "words", desc := "()I" } : Jvm.MethodName)) ∈ ab_Tg := ab_t3 15 rfl rfl
theorem tw_498 : (Jvm.Cond.selects "WitnessesMustLie$Saying" ({ cls := "WitnessesMustLie$Saying", name := "words", desc := "()I" } : Jvm.MethodName) ({ cls := "WitnessesMustLie$Saying", name := "words", desc := "()I" } : Jvm.MethodName)) ∈ ab_Tg := ab_t3 16 rfl rfl
theorem tw_499 : (Jvm.Cond.code ({ cls := "WitnessesMustLie$Saying", name := "words", desc := "()I" } : Jvm.MethodName) prog_9_method_3_code (1 : Nat) (Option.some Jvm.ClassFile.FieldType.int)) ∈ ab_Tg := ab_t3 17 rfl rfl
theorem tw_500 : (Jvm.Cond.methodLink "WitnessesMustLie$Saying" (42 : Nat) ({ cls := "WitnessesMustLie$Says", name := "words", desc := "(I)I" } : Jvm.MethodName)) ∈ ab_Tg := ab_t3 18 rfl rfl
theorem tw_501 : (Jvm.Cond.instanceMethod ({ cls := "WitnessesMustLie$Says", name := "words", desc := "(I)I" } : Jvm.MethodName)) ∈ ab_Tg := ab_t3 19 rfl rfl
theorem tw_502 : (Jvm.Cond.selects "WitnessesMustLie$Says" ({ cls := "WitnessesMustLie$Says", name := "words", desc := "(I)I" } : Jvm.MethodName) ({ cls := "WitnessesMustLie$Says", name := "words", desc := "(I)I" } : Jvm.MethodName)) ∈ ab_Tg := ab_t3 20 rfl rfl
theorem tw_503 : (Jvm.Cond.sameMethod "WitnessesMustLie$Says" "WitnessesMustLie$Says" "words" "(I)I") ∈ ab_Tg := ab_t3 21 rfl rfl
theorem tw_504 : (Jvm.Cond.selects "WitnessesMustLie$Alike" ({ cls := "WitnessesMustLie$Says", name := "words", desc := "(I)I" } : Jvm.MethodName) ({ cls := "WitnessesMustLie$Alike", name := "words", desc := "(I)I" } : Jvm.MethodName)) ∈ ab_Tg := ab_t3 22 rfl rfl
theorem tw_505 : (Jvm.Cond.instanceMethod ({ cls := "WitnessesMustLie$Alike", name := "words", desc := "(I)I" } : Jvm.MethodName)) ∈ ab_Tg := ab_t3 23 rfl rfl
theorem tw_506 : (Jvm.Cond.code ({ cls := "WitnessesMustLie$Alike", name := "words", desc := "(I)I" } : Jvm.MethodName) prog_2_method_3_code (2 : Nat) (Option.some Jvm.ClassFile.FieldType.int)) ∈ ab_Tg := ab_t3 24 rfl rfl
theorem tw_507 : (Jvm.Cond.methodLink "WitnessesMustLie$Alike" (9 : Nat) ({ cls := "WitnessesMustLie$Both", name := "words", desc := "(I)I" } : Jvm.MethodName)) ∈ ab_Tg := ab_t3 25 rfl rfl
theorem tw_508 : (Jvm.Cond.instanceMethod ({ cls := "WitnessesMustLie$Both", name := "words", desc := "(I)I" } : Jvm.MethodName)) ∈ ab_Tg := ab_t3 26 rfl rfl
theorem tw_509 : (Jvm.Cond.code ({ cls := "WitnessesMustLie$Both", name := "words", desc := "(I)I" } : Jvm.MethodName) prog_3_method_3_code (2 : Nat) (Option.some Jvm.ClassFile.FieldType.int)) ∈ ab_Tg := ab_t3 27 rfl rfl
theorem tw_510 : (Jvm.Cond.methodLink "WitnessesMustLie$Both" (7 : Nat) ({ cls := "WitnessesMustLie$Says", name := "words", desc := "(I)I" } : Jvm.MethodName)) ∈ ab_Tg := ab_t3 28 rfl rfl
theorem tw_511 : (Jvm.Cond.selects "WitnessesMustLie$Both" ({ cls := "WitnessesMustLie$Says", name := "words", desc := "(I)I" } : Jvm.MethodName) ({ cls := "WitnessesMustLie$Both", name := "words", desc := "(I)I" } : Jvm.MethodName)) ∈ ab_Tg := ab_t3 29 rfl rfl
theorem tw_512 : (Jvm.Cond.selects "WitnessesMustLie$Denies" ({ cls := "WitnessesMustLie$Says", name := "words", desc := "(I)I" } : Jvm.MethodName) ({ cls := "WitnessesMustLie$Denies", name := "words", desc := "(I)I" } : Jvm.MethodName)) ∈ ab_Tg := ab_t3 30 rfl rfl
theorem tw_513 : (Jvm.Cond.instanceMethod ({ cls := "WitnessesMustLie$Denies", name := "words", desc := "(I)I" } : Jvm.MethodName)) ∈ ab_Tg := ab_t3 31 rfl rfl
theorem tw_514 : (Jvm.Cond.code ({ cls := "WitnessesMustLie$Denies", name := "words", desc := "(I)I" } : Jvm.MethodName) prog_4_method_3_code (2 : Nat) (Option.some Jvm.ClassFile.FieldType.int)) ∈ ab_Tg := ab_t3 32 rfl rfl
theorem tw_515 : (Jvm.Cond.methodLink "WitnessesMustLie$Denies" (9 : Nat) ({ cls := "WitnessesMustLie$Says", name := "words", desc := "(I)I" } : Jvm.MethodName)) ∈ ab_Tg := ab_t3 33 rfl rfl
theorem tw_516 : (Jvm.Cond.selects "WitnessesMustLie$Either" ({ cls := "WitnessesMustLie$Says", name := "words", desc := "(I)I" } : Jvm.MethodName) ({ cls := "WitnessesMustLie$Either", name := "words", desc := "(I)I" } : Jvm.MethodName)) ∈ ab_Tg := ab_t3 34 rfl rfl
theorem tw_517 : (Jvm.Cond.instanceMethod ({ cls := "WitnessesMustLie$Either", name := "words", desc := "(I)I" } : Jvm.MethodName)) ∈ ab_Tg := ab_t3 35 rfl rfl
theorem tw_518 : (Jvm.Cond.code ({ cls := "WitnessesMustLie$Either", name := "words", desc := "(I)I" } : Jvm.MethodName) prog_5_method_3_code (2 : Nat) (Option.some Jvm.ClassFile.FieldType.int)) ∈ ab_Tg := ab_t3 36 rfl rfl
theorem tw_519 : (Jvm.Cond.methodLink "WitnessesMustLie$Either" (7 : Nat) ({ cls := "WitnessesMustLie$Both", name := "words", desc := "(I)I" } : Jvm.MethodName)) ∈ ab_Tg := ab_t3 37 rfl rfl
theorem tw_520 : (Jvm.Cond.selects "WitnessesMustLie$Expert" ({ cls := "WitnessesMustLie$Says", name := "words", desc := "(I)I" } : Jvm.MethodName) ({ cls := "WitnessesMustLie$Expert", name := "words", desc := "(I)I" } : Jvm.MethodName)) ∈ ab_Tg := ab_t3 38 rfl rfl
theorem tw_521 : (Jvm.Cond.instanceMethod ({ cls := "WitnessesMustLie$Expert", name := "words", desc := "(I)I" } : Jvm.MethodName)) ∈ ab_Tg := ab_t3 39 rfl rfl
theorem tw_522 : (Jvm.Cond.code ({ cls := "WitnessesMustLie$Expert", name := "words", desc := "(I)I" } : Jvm.MethodName) prog_6_method_3_code (2 : Nat) (Option.some Jvm.ClassFile.FieldType.int)) ∈ ab_Tg := ab_t3 40 rfl rfl
theorem tw_523 : (Jvm.Cond.methodLink "WitnessesMustLie$Expert" (7 : Nat) ({ cls := "WitnessesMustLie$Denies", name := "words", desc := "(I)I" } : Jvm.MethodName)) ∈ ab_Tg := ab_t3 41 rfl rfl
theorem tw_524 : (Jvm.Cond.selects "WitnessesMustLie$If" ({ cls := "WitnessesMustLie$Says", name := "words", desc := "(I)I" } : Jvm.MethodName) ({ cls := "WitnessesMustLie$If", name := "words", desc := "(I)I" } : Jvm.MethodName)) ∈ ab_Tg := ab_t3 42 rfl rfl
theorem tw_525 : (Jvm.Cond.instanceMethod ({ cls := "WitnessesMustLie$If", name := "words", desc := "(I)I" } : Jvm.MethodName)) ∈ ab_Tg := ab_t3 43 rfl rfl
theorem tw_526 : (Jvm.Cond.code ({ cls := "WitnessesMustLie$If", name := "words", desc := "(I)I" } : Jvm.MethodName) prog_7_method_3_code (2 : Nat) (Option.some Jvm.ClassFile.FieldType.int)) ∈ ab_Tg := ab_t3 44 rfl rfl
theorem tw_527 : (Jvm.Cond.methodLink "WitnessesMustLie$If" (9 : Nat) ({ cls := "WitnessesMustLie$Either", name := "words", desc := "(I)I" } : Jvm.MethodName)) ∈ ab_Tg := ab_t3 45 rfl rfl
theorem tw_528 : (Jvm.Cond.selects "WitnessesMustLie$Poet" ({ cls := "WitnessesMustLie$Says", name := "words", desc := "(I)I" } : Jvm.MethodName) ({ cls := "WitnessesMustLie$Poet", name := "words", desc := "(I)I" } : Jvm.MethodName)) ∈ ab_Tg := ab_t3 46 rfl rfl
theorem tw_529 : (Jvm.Cond.instanceMethod ({ cls := "WitnessesMustLie$Poet", name := "words", desc := "(I)I" } : Jvm.MethodName)) ∈ ab_Tg := ab_t3 47 rfl rfl
theorem tw_530 : (Jvm.Cond.code ({ cls := "WitnessesMustLie$Poet", name := "words", desc := "(I)I" } : Jvm.MethodName) prog_8_method_3_code (2 : Nat) (Option.some Jvm.ClassFile.FieldType.int)) ∈ ab_Tg := ab_t3 48 rfl rfl
theorem tw_531 : (Jvm.Cond.methodLink "WitnessesMustLie$Poet" (9 : Nat) ({ cls := "WitnessesMustLie$Either", name := "words", desc := "(I)I" } : Jvm.MethodName)) ∈ ab_Tg := ab_t3 49 rfl rfl
theorem tw_532 : (Jvm.Cond.code ({ cls := "WitnessesMustLie$Says", name := "words", desc := "(I)I" } : Jvm.MethodName) prog_10_method_4_code (2 : Nat) (Option.some Jvm.ClassFile.FieldType.int)) ∈ ab_Tg := ab_t3 50 rfl rfl
theorem tw_533 : (Jvm.Cond.methodLink "WitnessesMustLie$Saying" (39 : Nat) ({ cls := "WitnessesMustLie$Saying", name := "facts", desc := "()I" } : Jvm.MethodName)) ∈ ab_Tg := ab_t3 51 rfl rfl
theorem tw_534 : (Jvm.Cond.instanceMethod ({ cls := "WitnessesMustLie$Saying", name := "facts", desc := "()I" } : Jvm.MethodName)) ∈ ab_Tg := ab_t3 52 rfl rfl
theorem tw_535 : (Jvm.Cond.selects "WitnessesMustLie$Saying" ({ cls := "WitnessesMustLie$Saying", name := "facts", desc := "()I" } : Jvm.MethodName) ({ cls := "WitnessesMustLie$Saying", name := "facts", desc := "()I" } : Jvm.MethodName)) ∈ ab_Tg := ab_t3 53 rfl rfl
theorem tw_536 : (Jvm.Cond.code ({ cls := "WitnessesMustLie$Saying", name := "facts", desc := "()I" } : Jvm.MethodName) prog_9_method_4_code (1 : Nat) (Option.some Jvm.ClassFile.FieldType.int)) ∈ ab_Tg := ab_t3 54 rfl rfl
theorem tw_537 : (Jvm.Cond.methodLink "WitnessesMustLie$Saying" (45 : Nat) ({ cls := "WitnessesMustLie$Says", name := "facts", desc := "(III)I" } : Jvm.MethodName)) ∈ ab_Tg := ab_t3 55 rfl rfl
theorem tw_538 : (Jvm.Cond.instanceMethod ({ cls := "WitnessesMustLie$Says", name := "facts", desc := "(III)I" } : Jvm.MethodName)) ∈ ab_Tg := ab_t3 56 rfl rfl
theorem tw_539 : (Jvm.Cond.selects "WitnessesMustLie$Says" ({ cls := "WitnessesMustLie$Says", name := "facts", desc := "(III)I" } : Jvm.MethodName) ({ cls := "WitnessesMustLie$Says", name := "facts", desc := "(III)I" } : Jvm.MethodName)) ∈ ab_Tg := ab_t3 57 rfl rfl
theorem tw_540 : (Jvm.Cond.sameMethod "WitnessesMustLie$Says" "WitnessesMustLie$Says" "facts" "(III)I") ∈ ab_Tg := ab_t3 58 rfl rfl
theorem tw_541 : (Jvm.Cond.selects "WitnessesMustLie$Alike" ({ cls := "WitnessesMustLie$Says", name := "facts", desc := "(III)I" } : Jvm.MethodName) ({ cls := "WitnessesMustLie$Both", name := "facts", desc := "(III)I" } : Jvm.MethodName)) ∈ ab_Tg := ab_t3 59 rfl rfl
theorem tw_542 : (Jvm.Cond.instanceMethod ({ cls := "WitnessesMustLie$Both", name := "facts", desc := "(III)I" } : Jvm.MethodName)) ∈ ab_Tg := ab_t3 60 rfl rfl
theorem tw_543 : (Jvm.Cond.code ({ cls := "WitnessesMustLie$Both", name := "facts", desc := "(III)I" } : Jvm.MethodName) prog_3_method_4_code (4 : Nat) (Option.some Jvm.ClassFile.FieldType.int)) ∈ ab_Tg := ab_t3 61 rfl rfl
theorem tw_544 : (Jvm.Cond.methodLink "WitnessesMustLie$Both" (11 : Nat) ({ cls := "WitnessesMustLie$Says", name := "facts", desc := "(III)I" } : Jvm.MethodName)) ∈ ab_Tg := ab_t3 62 rfl rfl
theorem tw_545 : (Jvm.Cond.methodLinkNest "WitnessesMustLie$Both" (15 : Nat) ({ cls := "WitnessesMustLie", name := "factBit", desc := "(I)I" } : Jvm.MethodName) "WitnessesMustLie") ∈ ab_Tn := ab_n3 63 rfl rfl
theorem tw_546 : (Jvm.Cond.static ({ cls := "WitnessesMustLie", name := "factBit", desc := "(I)I" } : Jvm.MethodName)) ∈ ab_Tg := ab_t3 64 rfl rfl
theorem tw_547 : (Jvm.Cond.code ({ cls := "WitnessesMustLie", name := "factBit", desc := "(I)I" } : Jvm.MethodName) prog_1_method_56_code (1 : Nat) (Option.some Jvm.ClassFile.FieldType.int)) ∈ ab_Tg := ab_t3 65 rfl rfl
theorem tw_548 : (Jvm.Cond.selects "WitnessesMustLie$Both" ({ cls := "WitnessesMustLie$Says", name := "facts", desc := "(III)I" } : Jvm.MethodName) ({ cls := "WitnessesMustLie$Both", name := "facts", desc := "(III)I" } : Jvm.MethodName)) ∈ ab_Tg := ab_t3 66 rfl rfl
theorem tw_549 : (Jvm.Cond.selects "WitnessesMustLie$Denies" ({ cls := "WitnessesMustLie$Says", name := "facts", desc := "(III)I" } : Jvm.MethodName) ({ cls := "WitnessesMustLie$Says", name := "facts", desc := "(III)I" } : Jvm.MethodName)) ∈ ab_Tg := ab_t3 67 rfl rfl
theorem tw_550 : (Jvm.Cond.selects "WitnessesMustLie$Either" ({ cls := "WitnessesMustLie$Says", name := "facts", desc := "(III)I" } : Jvm.MethodName) ({ cls := "WitnessesMustLie$Both", name := "facts", desc := "(III)I" } : Jvm.MethodName)) ∈ ab_Tg := ab_t3 68 rfl rfl
theorem tw_551 : (Jvm.Cond.selects "WitnessesMustLie$Expert" ({ cls := "WitnessesMustLie$Says", name := "facts", desc := "(III)I" } : Jvm.MethodName) ({ cls := "WitnessesMustLie$Says", name := "facts", desc := "(III)I" } : Jvm.MethodName)) ∈ ab_Tg := ab_t3 69 rfl rfl
theorem tw_552 : (Jvm.Cond.selects "WitnessesMustLie$If" ({ cls := "WitnessesMustLie$Says", name := "facts", desc := "(III)I" } : Jvm.MethodName) ({ cls := "WitnessesMustLie$Both", name := "facts", desc := "(III)I" } : Jvm.MethodName)) ∈ ab_Tg := ab_t3 70 rfl rfl
theorem tw_553 : (Jvm.Cond.selects "WitnessesMustLie$Poet" ({ cls := "WitnessesMustLie$Says", name := "facts", desc := "(III)I" } : Jvm.MethodName) ({ cls := "WitnessesMustLie$Poet", name := "facts", desc := "(III)I" } : Jvm.MethodName)) ∈ ab_Tg := ab_t3 71 rfl rfl
theorem tw_554 : (Jvm.Cond.instanceMethod ({ cls := "WitnessesMustLie$Poet", name := "facts", desc := "(III)I" } : Jvm.MethodName)) ∈ ab_Tg := ab_t3 72 rfl rfl
theorem tw_555 : (Jvm.Cond.code ({ cls := "WitnessesMustLie$Poet", name := "facts", desc := "(III)I" } : Jvm.MethodName) prog_8_method_4_code (4 : Nat) (Option.some Jvm.ClassFile.FieldType.int)) ∈ ab_Tg := ab_t3 73 rfl rfl
theorem tw_556 : (Jvm.Cond.methodLink "WitnessesMustLie$Poet" (13 : Nat) ({ cls := "WitnessesMustLie$Either", name := "facts", desc := "(III)I" } : Jvm.MethodName)) ∈ ab_Tg := ab_t3 74 rfl rfl
theorem tw_557 : (Jvm.Cond.sameMethod "WitnessesMustLie$Either" "WitnessesMustLie$Both" "facts" "(III)I") ∈ ab_Tg := ab_t3 75 rfl rfl
theorem tw_558 : (Jvm.Cond.methodLinkNest "WitnessesMustLie$Poet" (17 : Nat) ({ cls := "WitnessesMustLie", name := "factBit", desc := "(I)I" } : Jvm.MethodName) "WitnessesMustLie") ∈ ab_Tn := ab_n3 77 rfl rfl
theorem tw_559 : (Jvm.Cond.code ({ cls := "WitnessesMustLie$Says", name := "facts", desc := "(III)I" } : Jvm.MethodName) prog_10_method_5_code (4 : Nat) (Option.some Jvm.ClassFile.FieldType.int)) ∈ ab_Tg := ab_t3 78 rfl rfl
theorem tw_560 : (Jvm.Cond.methodLinkNest "WitnessesMustLie$Says" (23 : Nat) ({ cls := "WitnessesMustLie", name := "factBit", desc := "(I)I" } : Jvm.MethodName) "WitnessesMustLie") ∈ ab_Tn := ab_n3 79 rfl rfl
theorem tw_561 : (Jvm.Cond.methodLink "WitnessesMustLieLaw" (31 : Nat) ({ cls := "WitnessesMustLie", name := "said", desc := "(II)I" } : Jvm.MethodName)) ∈ ab_Tg := ab_t3 80 rfl rfl
theorem tw_562 : (Jvm.Cond.instanceMethod ({ cls := "WitnessesMustLie", name := "said", desc := "(II)I" } : Jvm.MethodName)) ∈ ab_Tg := ab_t3 81 rfl rfl
theorem tw_563 : (Jvm.Cond.selects "WitnessesMustLie" ({ cls := "WitnessesMustLie", name := "said", desc := "(II)I" } : Jvm.MethodName) ({ cls := "WitnessesMustLie", name := "said", desc := "(II)I" } : Jvm.MethodName)) ∈ ab_Tg := ab_t3 82 rfl rfl
theorem tw_564 : (Jvm.Cond.code ({ cls := "WitnessesMustLie", name := "said", desc := "(II)I" } : Jvm.MethodName) prog_1_method_4_code (4 : Nat) (Option.some Jvm.ClassFile.FieldType.int)) ∈ ab_Tg := ab_t3 83 rfl rfl
theorem tw_565 : (Jvm.Cond.methodLink "WitnessesMustLie" (117 : Nat) ({ cls := "WitnessesMustLie", name := "hasWorld", desc := "(JI)Z" } : Jvm.MethodName)) ∈ ab_Tg := ab_t3 84 rfl rfl
theorem tw_566 : (Jvm.Cond.static ({ cls := "WitnessesMustLie", name := "hasWorld", desc := "(JI)Z" } : Jvm.MethodName)) ∈ ab_Tg := ab_t3 85 rfl rfl
theorem tw_567 : (Jvm.Cond.code ({ cls := "WitnessesMustLie", name := "hasWorld", desc := "(JI)Z" } : Jvm.MethodName) prog_1_method_57_code (3 : Nat) (Option.some Jvm.ClassFile.FieldType.boolean)) ∈ ab_Tg := ab_t3 86 rfl rfl
theorem tw_568 : (Jvm.Cond.methodLink "WitnessesMustLie" (121 : Nat) ({ cls := "WitnessesMustLie", name := "oneIf", desc := "(Z)I" } : Jvm.MethodName)) ∈ ab_Tg := ab_t3 87 rfl rfl
theorem tw_569 : (Jvm.Cond.static ({ cls := "WitnessesMustLie", name := "oneIf", desc := "(Z)I" } : Jvm.MethodName)) ∈ ab_Tg := ab_t3 88 rfl rfl
theorem tw_570 : (Jvm.Cond.code ({ cls := "WitnessesMustLie", name := "oneIf", desc := "(Z)I" } : Jvm.MethodName) prog_1_method_49_code (1 : Nat) (Option.some Jvm.ClassFile.FieldType.int)) ∈ ab_Tg := ab_t3 89 rfl rfl
theorem tw_571 : (Jvm.Cond.methodLink "WitnessesMustLieLaw" (35 : Nat) ({ cls := "WitnessesMustLie", name := "knows", desc := "(I)I" } : Jvm.MethodName)) ∈ ab_Tg := ab_t3 90 rfl rfl
theorem tw_572 : (Jvm.Cond.instanceMethod ({ cls := "WitnessesMustLie", name := "knows", desc := "(I)I" } : Jvm.MethodName)) ∈ ab_Tg := ab_t3 91 rfl rfl
theorem tw_573 : (Jvm.Cond.selects "WitnessesMustLie" ({ cls := "WitnessesMustLie", name := "knows", desc := "(I)I" } : Jvm.MethodName) ({ cls := "WitnessesMustLie", name := "knows", desc := "(I)I" } : Jvm.MethodName)) ∈ ab_Tg := ab_t3 92 rfl rfl
theorem tw_574 : (Jvm.Cond.code ({ cls := "WitnessesMustLie", name := "knows", desc := "(I)I" } : Jvm.MethodName) prog_1_method_5_code (2 : Nat) (Option.some Jvm.ClassFile.FieldType.int)) ∈ ab_Tg := ab_t3 93 rfl rfl
theorem tw_575 : (Jvm.Cond.methodLink "WitnessesMustLie" (128 : Nat) ({ cls := "WitnessesMustLie$Trial", name := "hasWitness", desc := "(I)Z" } : Jvm.MethodName)) ∈ ab_Tg := ab_t3 94 rfl rfl
theorem tw_576 : (Jvm.Cond.methodLink "WitnessesMustLie" (132 : Nat) ({ cls := "WitnessesMustLie$Trial", name := "knownBy", desc := "(I)I" } : Jvm.MethodName)) ∈ ab_Tg := ab_t3 95 rfl rfl
theorem tw_577 : (Jvm.Cond.methodLink "WitnessesMustLieLaw" (39 : Nat) ({ cls := "WitnessesMustLie", name := "isTrue", desc := "(IIII)I" } : Jvm.MethodName)) ∈ ab_Tg := ab_t3 96 rfl rfl
theorem tw_578 : (Jvm.Cond.instanceMethod ({ cls := "WitnessesMustLie", name := "isTrue", desc := "(IIII)I" } : Jvm.MethodName)) ∈ ab_Tg := ab_t3 97 rfl rfl
theorem tw_579 : (Jvm.Cond.selects "WitnessesMustLie" ({ cls := "WitnessesMustLie", name := "isTrue", desc := "(IIII)I" } : Jvm.MethodName) ({ cls := "WitnessesMustLie", name := "isTrue", desc := "(IIII)I" } : Jvm.MethodName)) ∈ ab_Tg := ab_t3 98 rfl rfl
theorem tw_580 : (Jvm.Cond.code ({ cls := "WitnessesMustLie", name := "isTrue", desc := "(IIII)I" } : Jvm.MethodName) prog_1_method_6_code (7 : Nat) (Option.some Jvm.ClassFile.FieldType.int)) ∈ ab_Tg := ab_t3 99 rfl rfl
theorem tw_581 : (Jvm.Cond.methodLink "WitnessesMustLie" (138 : Nat) ({ cls := "WitnessesMustLie", name := "isWorld", desc := "(I)Z" } : Jvm.MethodName)) ∈ ab_Tg := ab_t3 100 rfl rfl
theorem tw_582 : (Jvm.Cond.methodLink "WitnessesMustLie" (141 : Nat) ({ cls := "WitnessesMustLie$Shelf", name := "refusalAsSaying", desc := "()I" } : Jvm.MethodName)) ∈ ab_Tg := ab_t3 101 rfl rfl
theorem tw_583 : (Jvm.Cond.instanceMethod ({ cls := "WitnessesMustLie$Shelf", name := "refusalAsSaying", desc := "()I" } : Jvm.MethodName)) ∈ ab_Tg := ab_t3 102 rfl rfl
theorem tw_584 : (Jvm.Cond.selects "WitnessesMustLie$Shelf" ({ cls := "WitnessesMustLie$Shelf", name := "refusalAsSaying", desc := "()I" } : Jvm.MethodName) ({ cls := "WitnessesMustLie$Shelf", name := "refusalAsSaying", desc := "()I" } : Jvm.MethodName)) ∈ ab_Tg := ab_t3 103 rfl rfl
theorem tw_585 : (Jvm.Cond.code ({ cls := "WitnessesMustLie$Shelf", name := "refusalAsSaying", desc := "()I" } : Jvm.MethodName) prog_11_method_6_code (1 : Nat) (Option.some Jvm.ClassFile.FieldType.int)) ∈ ab_Tg := ab_t3 104 rfl rfl
theorem tw_586 : (Jvm.Cond.methodLink "WitnessesMustLie" (144 : Nat) ({ cls := "WitnessesMustLie$Shelf", name := "worldsOf", desc := "(II)J" } : Jvm.MethodName)) ∈ ab_Tg := ab_t3 105 rfl rfl
theorem tw_587 : (Jvm.Cond.instanceMethod ({ cls := "WitnessesMustLie$Shelf", name := "worldsOf", desc := "(II)J" } : Jvm.MethodName)) ∈ ab_Tg := ab_t3 106 rfl rfl
theorem tw_588 : (Jvm.Cond.selects "WitnessesMustLie$Shelf" ({ cls := "WitnessesMustLie$Shelf", name := "worldsOf", desc := "(II)J" } : Jvm.MethodName) ({ cls := "WitnessesMustLie$Shelf", name := "worldsOf", desc := "(II)J" } : Jvm.MethodName)) ∈ ab_Tg := ab_t3 107 rfl rfl
theorem tw_589 : (Jvm.Cond.code ({ cls := "WitnessesMustLie$Shelf", name := "worldsOf", desc := "(II)J" } : Jvm.MethodName) prog_11_method_9_code (3 : Nat) (Option.some Jvm.ClassFile.FieldType.long)) ∈ ab_Tg := ab_t3 108 rfl rfl
theorem tw_590 : (Jvm.Cond.methodLink "WitnessesMustLie$Shelf" (40 : Nat) ({ cls := "WitnessesMustLie$Says", name := "worldsOf", desc := "(III)J" } : Jvm.MethodName)) ∈ ab_Tg := ab_t3 109 rfl rfl
theorem tw_591 : (Jvm.Cond.methodLink "WitnessesMustLieLaw" (44 : Nat) ({ cls := "WitnessesMustLie", name := "rules", desc := "(III)I" } : Jvm.MethodName)) ∈ ab_Tg := ab_t3 110 rfl rfl
theorem tw_592 : (Jvm.Cond.instanceMethod ({ cls := "WitnessesMustLie", name := "rules", desc := "(III)I" } : Jvm.MethodName)) ∈ ab_Tg := ab_t3 111 rfl rfl
theorem tw_593 : (Jvm.Cond.selects "WitnessesMustLie" ({ cls := "WitnessesMustLie", name := "rules", desc := "(III)I" } : Jvm.MethodName) ({ cls := "WitnessesMustLie", name := "rules", desc := "(III)I" } : Jvm.MethodName)) ∈ ab_Tg := ab_t3 112 rfl rfl
theorem tw_594 : (Jvm.Cond.code ({ cls := "WitnessesMustLie", name := "rules", desc := "(III)I" } : Jvm.MethodName) prog_1_method_7_code (7 : Nat) (Option.some Jvm.ClassFile.FieldType.int)) ∈ ab_Tg := ab_t3 113 rfl rfl
theorem tw_595 : (Jvm.Cond.methodLink "WitnessesMustLieLaw" (49 : Nat) ({ cls := "WitnessesMustLie", name := "says", desc := "(IIII)I" } : Jvm.MethodName)) ∈ ab_Tg := ab_t3 114 rfl rfl
theorem tw_596 : (Jvm.Cond.instanceMethod ({ cls := "WitnessesMustLie", name := "says", desc := "(IIII)I" } : Jvm.MethodName)) ∈ ab_Tg := ab_t3 115 rfl rfl
theorem tw_597 : (Jvm.Cond.selects "WitnessesMustLie" ({ cls := "WitnessesMustLie", name := "says", desc := "(IIII)I" } : Jvm.MethodName) ({ cls := "WitnessesMustLie", name := "says", desc := "(IIII)I" } : Jvm.MethodName)) ∈ ab_Tg := ab_t3 116 rfl rfl
theorem tw_598 : (Jvm.Cond.code ({ cls := "WitnessesMustLie", name := "says", desc := "(IIII)I" } : Jvm.MethodName) prog_1_method_8_code (8 : Nat) (Option.some Jvm.ClassFile.FieldType.int)) ∈ ab_Tg := ab_t3 117 rfl rfl
theorem tw_599 : (Jvm.Cond.methodLink "WitnessesMustLieLaw" (53 : Nat) ({ cls := "WitnessesMustLie", name := "unsays", desc := "()I" } : Jvm.MethodName)) ∈ ab_Tg := ab_t3 118 rfl rfl
theorem tw_600 : (Jvm.Cond.instanceMethod ({ cls := "WitnessesMustLie", name := "unsays", desc := "()I" } : Jvm.MethodName)) ∈ ab_Tg := ab_t3 119 rfl rfl
theorem tw_601 : (Jvm.Cond.selects "WitnessesMustLie" ({ cls := "WitnessesMustLie", name := "unsays", desc := "()I" } : Jvm.MethodName) ({ cls := "WitnessesMustLie", name := "unsays", desc := "()I" } : Jvm.MethodName)) ∈ ab_Tg := ab_t3 120 rfl rfl
theorem tw_602 : (Jvm.Cond.code ({ cls := "WitnessesMustLie", name := "unsays", desc := "()I" } : Jvm.MethodName) prog_1_method_9_code (2 : Nat) (Option.some Jvm.ClassFile.FieldType.int)) ∈ ab_Tg := ab_t3 121 rfl rfl
theorem tw_603 : (Jvm.Cond.methodLink "WitnessesMustLie" (169 : Nat) ({ cls := "java/util/ArrayList", name := "remove", desc := "(I)Ljava/lang/Object;" } : Jvm.MethodName)) ∈ ab_Tg := ab_t3 122 rfl rfl
theorem tw_604 : (Jvm.Cond.instanceMethod ({ cls := "java/util/ArrayList", name := "remove", desc := "(I)Ljava/lang/Object;" } : Jvm.MethodName)) ∈ ab_Tg := ab_t3 123 rfl rfl
theorem tw_605 : (Jvm.Cond.selects "java/util/ArrayList" ({ cls := "java/util/ArrayList", name := "remove", desc := "(I)Ljava/lang/Object;" } : Jvm.MethodName) ({ cls := "java/util/ArrayList", name := "remove", desc := "(I)Ljava/lang/Object;" } : Jvm.MethodName)) ∈ ab_Tg := ab_t3 124 rfl rfl
theorem tw_606 : (Jvm.Cond.code ({ cls := "java/util/ArrayList", name := "remove", desc := "(I)Ljava/lang/Object;" } : Jvm.MethodName) prog_30_method_29_code (4 : Nat) (Option.some (Jvm.ClassFile.FieldType.object "java/lang/Object"))) ∈ ab_Tg := ab_t3 125 rfl rfl
theorem tw_607 : (Jvm.Cond.methodLink "java/util/ArrayList" (144 : Nat) ({ cls := "java/util/ArrayList", name := "fastRemove", desc := "([Ljava/lang/Object;I)V" } : Jvm.MethodName)) ∈ ab_Tg := ab_t3 126 rfl rfl
theorem tw_608 : (Jvm.Cond.instanceMethod ({ cls := "java/util/ArrayList", name := "fastRemove", desc := "([Ljava/lang/Object;I)V" } : Jvm.MethodName)) ∈ ab_Tg := ab_t3 128 rfl rfl
theorem tw_609 : (Jvm.Cond.code ({ cls := "java/util/ArrayList", name := "fastRemove", desc := "([Ljava/lang/Object;I)V" } : Jvm.MethodName) prog_30_method_39_code (4 : Nat) (Option.none : Option Jvm.ClassFile.FieldType)) ∈ ab_Tg := ab_t3 129 rfl rfl
theorem tw_610 : (Jvm.Cond.methodLink "java/util/ArrayList" (112 : Nat) ({ cls := "java/lang/System", name := "arraycopy", desc := "(Ljava/lang/Object;ILjava/lang/Object;II)V" } : Jvm.MethodName)) ∈ ab_Tg := ab_t3 130 rfl rfl
theorem tw_611 : (Jvm.Cond.methodLink "WitnessesMustLieLaw" (58 : Nat) ({ cls := "WitnessesMustLie", name := "witness", desc := "(I)I" } : Jvm.MethodName)) ∈ ab_Tg := ab_t3 131 rfl rfl
theorem tw_612 : (Jvm.Cond.instanceMethod ({ cls := "WitnessesMustLie", name := "witness", desc := "(I)I" } : Jvm.MethodName)) ∈ ab_Tg := ab_t3 132 rfl rfl
theorem tw_613 : (Jvm.Cond.selects "WitnessesMustLie" ({ cls := "WitnessesMustLie", name := "witness", desc := "(I)I" } : Jvm.MethodName) ({ cls := "WitnessesMustLie", name := "witness", desc := "(I)I" } : Jvm.MethodName)) ∈ ab_Tg := ab_t3 133 rfl rfl
theorem tw_614 : (Jvm.Cond.code ({ cls := "WitnessesMustLie", name := "witness", desc := "(I)I" } : Jvm.MethodName) prog_1_method_10_code (2 : Nat) (Option.some Jvm.ClassFile.FieldType.int)) ∈ ab_Tg := ab_t3 134 rfl rfl
theorem tw_615 : (Jvm.Cond.methodLink "WitnessesMustLie" (173 : Nat) ({ cls := "WitnessesMustLie", name := "areFacts", desc := "(I)Z" } : Jvm.MethodName)) ∈ ab_Tg := ab_t3 135 rfl rfl
theorem tw_616 : (Jvm.Cond.methodLink "WitnessesMustLieLaw" (62 : Nat) ({ cls := "WitnessesMustLie", name := "truth", desc := "(I)I" } : Jvm.MethodName)) ∈ ab_Tg := ab_t3 136 rfl rfl
theorem tw_617 : (Jvm.Cond.instanceMethod ({ cls := "WitnessesMustLie", name := "truth", desc := "(I)I" } : Jvm.MethodName)) ∈ ab_Tg := ab_t3 137 rfl rfl
theorem tw_618 : (Jvm.Cond.selects "WitnessesMustLie" ({ cls := "WitnessesMustLie", name := "truth", desc := "(I)I" } : Jvm.MethodName) ({ cls := "WitnessesMustLie", name := "truth", desc := "(I)I" } : Jvm.MethodName)) ∈ ab_Tg := ab_t3 138 rfl rfl
theorem tw_619 : (Jvm.Cond.code ({ cls := "WitnessesMustLie", name := "truth", desc := "(I)I" } : Jvm.MethodName) prog_1_method_11_code (3 : Nat) (Option.some Jvm.ClassFile.FieldType.int)) ∈ ab_Tg := ab_t3 139 rfl rfl
theorem tw_620 : (Jvm.Cond.methodLink "WitnessesMustLieLaw" (66 : Nat) ({ cls := "WitnessesMustLie", name := "worlds", desc := "(I)J" } : Jvm.MethodName)) ∈ ab_Tg := ab_t3 140 rfl rfl
theorem tw_621 : (Jvm.Cond.instanceMethod ({ cls := "WitnessesMustLie", name := "worlds", desc := "(I)J" } : Jvm.MethodName)) ∈ ab_Tg := ab_t3 141 rfl rfl
theorem tw_622 : (Jvm.Cond.selects "WitnessesMustLie" ({ cls := "WitnessesMustLie", name := "worlds", desc := "(I)J" } : Jvm.MethodName) ({ cls := "WitnessesMustLie", name := "worlds", desc := "(I)J" } : Jvm.MethodName)) ∈ ab_Tg := ab_t3 142 rfl rfl
theorem tw_623 : (Jvm.Cond.code ({ cls := "WitnessesMustLie", name := "worlds", desc := "(I)J" } : Jvm.MethodName) prog_1_method_12_code (2 : Nat) (Option.some Jvm.ClassFile.FieldType.long)) ∈ ab_Tg := ab_t3 143 rfl rfl
theorem tw_624 : (Jvm.Cond.methodLink "WitnessesMustLie" (182 : Nat) ({ cls := "WitnessesMustLie", name := "isEitherOr", desc := "(I)Z" } : Jvm.MethodName)) ∈ ab_Tg := ab_t3 144 rfl rfl
theorem tw_625 : (Jvm.Cond.static ({ cls := "WitnessesMustLie", name := "isEitherOr", desc := "(I)Z" } : Jvm.MethodName)) ∈ ab_Tg := ab_t3 145 rfl rfl
theorem tw_626 : (Jvm.Cond.code ({ cls := "WitnessesMustLie", name := "isEitherOr", desc := "(I)Z" } : Jvm.MethodName) prog_1_method_48_code (1 : Nat) (Option.some Jvm.ClassFile.FieldType.boolean)) ∈ ab_Tg := ab_t3 146 rfl rfl
theorem tw_627 : (Jvm.Cond.methodLink "WitnessesMustLie" (185 : Nat) ({ cls := "WitnessesMustLie$Trial", name := "mayBeOrLeft", desc := "(I)J" } : Jvm.MethodName)) ∈ ab_Tg := ab_t3 147 rfl rfl
theorem tw_628 : (Jvm.Cond.instanceMethod ({ cls := "WitnessesMustLie$Trial", name := "mayBeOrLeft", desc := "(I)J" } : Jvm.MethodName)) ∈ ab_Tg := ab_t3 148 rfl rfl
theorem tw_629 : (Jvm.Cond.selects "WitnessesMustLie$Trial" ({ cls := "WitnessesMustLie$Trial", name := "mayBeOrLeft", desc := "(I)J" } : Jvm.MethodName) ({ cls := "WitnessesMustLie$Trial", name := "mayBeOrLeft", desc := "(I)J" } : Jvm.MethodName)) ∈ ab_Tg := ab_t3 149 rfl rfl
theorem tw_630 : (Jvm.Cond.code ({ cls := "WitnessesMustLie$Trial", name := "mayBeOrLeft", desc := "(I)J" } : Jvm.MethodName) prog_12_method_12_code (2 : Nat) (Option.some Jvm.ClassFile.FieldType.long)) ∈ ab_Tg := ab_t3 150 rfl rfl
theorem tw_631 : (Jvm.Cond.methodLink "WitnessesMustLie$Trial" (76 : Nat) ({ cls := "WitnessesMustLie$Trial", name := "mayBe", desc := "()J" } : Jvm.MethodName)) ∈ ab_Tg := ab_t3 151 rfl rfl
theorem tw_632 : (Jvm.Cond.instanceMethod ({ cls := "WitnessesMustLie$Trial", name := "mayBe", desc := "()J" } : Jvm.MethodName)) ∈ ab_Tg := ab_t3 152 rfl rfl
theorem tw_633 : (Jvm.Cond.selects "WitnessesMustLie$Trial" ({ cls := "WitnessesMustLie$Trial", name := "mayBe", desc := "()J" } : Jvm.MethodName) ({ cls := "WitnessesMustLie$Trial", name := "mayBe", desc := "()J" } : Jvm.MethodName)) ∈ ab_Tg := ab_t3 153 rfl rfl
theorem tw_634 : (Jvm.Cond.code ({ cls := "WitnessesMustLie$Trial", name := "mayBe", desc := "()J" } : Jvm.MethodName) prog_12_method_10_code (4 : Nat) (Option.some Jvm.ClassFile.FieldType.long)) ∈ ab_Tg := ab_t3 154 rfl rfl
theorem tw_635 : (Jvm.Cond.constantLong "WitnessesMustLie$Trial" (70 : Nat) (-1 : Int64)) ∈ ab_Tg := ab_t3 155 rfl rfl
theorem tw_636 : (Jvm.Cond.methodLink "WitnessesMustLie$Trial" (84 : Nat) ({ cls := "WitnessesMustLie$Trial", name := "left", desc := "()J" } : Jvm.MethodName)) ∈ ab_Tg := ab_t3 156 rfl rfl
theorem tw_637 : (Jvm.Cond.instanceMethod ({ cls := "WitnessesMustLie$Trial", name := "left", desc := "()J" } : Jvm.MethodName)) ∈ ab_Tg := ab_t3 157 rfl rfl
theorem tw_638 : (Jvm.Cond.selects "WitnessesMustLie$Trial" ({ cls := "WitnessesMustLie$Trial", name := "left", desc := "()J" } : Jvm.MethodName) ({ cls := "WitnessesMustLie$Trial", name := "left", desc := "()J" } : Jvm.MethodName)) ∈ ab_Tg := ab_t3 158 rfl rfl
theorem tw_639 : (Jvm.Cond.code ({ cls := "WitnessesMustLie$Trial", name := "left", desc := "()J" } : Jvm.MethodName) prog_12_method_11_code (1 : Nat) (Option.some Jvm.ClassFile.FieldType.long)) ∈ ab_Tg := ab_t3 159 rfl rfl
theorem tw_640 : (Jvm.Cond.methodLink "WitnessesMustLie$Trial" (80 : Nat) ({ cls := "WitnessesMustLie$Trial", name := "leftBySaid", desc := "(JI)J" } : Jvm.MethodName)) ∈ ab_Tg := ab_t3 160 rfl rfl
theorem tw_641 : (Jvm.Cond.instanceMethod ({ cls := "WitnessesMustLie$Trial", name := "leftBySaid", desc := "(JI)J" } : Jvm.MethodName)) ∈ ab_Tg := ab_t3 161 rfl rfl
theorem tw_642 : (Jvm.Cond.selects "WitnessesMustLie$Trial" ({ cls := "WitnessesMustLie$Trial", name := "leftBySaid", desc := "(JI)J" } : Jvm.MethodName) ({ cls := "WitnessesMustLie$Trial", name := "leftBySaid", desc := "(JI)J" } : Jvm.MethodName)) ∈ ab_Tg := ab_t3 162 rfl rfl
theorem tw_643 : (Jvm.Cond.code ({ cls := "WitnessesMustLie$Trial", name := "leftBySaid", desc := "(JI)J" } : Jvm.MethodName) prog_12_method_13_code (7 : Nat) (Option.some Jvm.ClassFile.FieldType.long)) ∈ ab_Tg := ab_t3 163 rfl rfl
theorem tw_644 : (Jvm.Cond.methodLink "WitnessesMustLie" (189 : Nat) ({ cls := "WitnessesMustLie", name := "refusedLong", desc := "(I)J" } : Jvm.MethodName)) ∈ ab_Tg := ab_t3 164 rfl rfl
theorem tw_645 : (Jvm.Cond.static ({ cls := "WitnessesMustLie", name := "refusedLong", desc := "(I)J" } : Jvm.MethodName)) ∈ ab_Tg := ab_t3 165 rfl rfl
theorem tw_646 : (Jvm.Cond.code ({ cls := "WitnessesMustLie", name := "refusedLong", desc := "(I)J" } : Jvm.MethodName) prog_1_method_50_code (1 : Nat) (Option.some Jvm.ClassFile.FieldType.long)) ∈ ab_Tg := ab_t3 166 rfl rfl
theorem tw_647 : (Jvm.Cond.constantLong "WitnessesMustLie" (391 : Nat) (4000000000000000000 : Int64)) ∈ ab_Tg := ab_t3 167 rfl rfl
theorem tw_648 : (Jvm.Cond.methodLink "WitnessesMustLieLaw" (71 : Nat) ({ cls := "WitnessesMustLie", name := "many", desc := "(I)I" } : Jvm.MethodName)) ∈ ab_Tg := ab_t3 168 rfl rfl
theorem tw_649 : (Jvm.Cond.instanceMethod ({ cls := "WitnessesMustLie", name := "many", desc := "(I)I" } : Jvm.MethodName)) ∈ ab_Tg := ab_t3 169 rfl rfl
theorem tw_650 : (Jvm.Cond.selects "WitnessesMustLie" ({ cls := "WitnessesMustLie", name := "many", desc := "(I)I" } : Jvm.MethodName) ({ cls := "WitnessesMustLie", name := "many", desc := "(I)I" } : Jvm.MethodName)) ∈ ab_Tg := ab_t3 170 rfl rfl
theorem tw_651 : (Jvm.Cond.code ({ cls := "WitnessesMustLie", name := "many", desc := "(I)I" } : Jvm.MethodName) prog_1_method_13_code (2 : Nat) (Option.some Jvm.ClassFile.FieldType.int)) ∈ ab_Tg := ab_t3 171 rfl rfl
theorem tw_652 : (Jvm.Cond.methodLink "WitnessesMustLie" (192 : Nat) ({ cls := "java/lang/Long", name := "bitCount", desc := "(J)I" } : Jvm.MethodName)) ∈ ab_Tg := ab_t3 172 rfl rfl
theorem tw_653 : (Jvm.Cond.static ({ cls := "java/lang/Long", name := "bitCount", desc := "(J)I" } : Jvm.MethodName)) ∈ ab_Tg := ab_t3 173 rfl rfl
theorem tw_654 : (Jvm.Cond.code ({ cls := "java/lang/Long", name := "bitCount", desc := "(J)I" } : Jvm.MethodName) prog_22_method_50_code (2 : Nat) (Option.some Jvm.ClassFile.FieldType.int)) ∈ ab_Tg := ab_t3 174 rfl rfl
theorem tw_655 : (Jvm.Cond.constantLong "java/lang/Long" (314 : Nat) (6148914691236517205 : Int64)) ∈ ab_Tg := ab_t3 175 rfl rfl
theorem tw_656 : (Jvm.Cond.constantLong "java/lang/Long" (316 : Nat) (3689348814741910323 : Int64)) ∈ ab_Tg := ab_t3 176 rfl rfl
theorem tw_657 : (Jvm.Cond.constantLong "java/lang/Long" (318 : Nat) (1085102592571150095 : Int64)) ∈ ab_Tg := ab_t3 177 rfl rfl
theorem tw_658 : (Jvm.Cond.methodLink "WitnessesMustLieLaw" (75 : Nat) ({ cls := "WitnessesMustLie", name := "proved", desc := "(I)I" } : Jvm.MethodName)) ∈ ab_Tg := ab_t3 178 rfl rfl
theorem tw_659 : (Jvm.Cond.instanceMethod ({ cls := "WitnessesMustLie", name := "proved", desc := "(I)I" } : Jvm.MethodName)) ∈ ab_Tg := ab_t3 179 rfl rfl
theorem tw_660 : (Jvm.Cond.selects "WitnessesMustLie" ({ cls := "WitnessesMustLie", name := "proved", desc := "(I)I" } : Jvm.MethodName) ({ cls := "WitnessesMustLie", name := "proved", desc := "(I)I" } : Jvm.MethodName)) ∈ ab_Tg := ab_t3 180 rfl rfl
theorem tw_661 : (Jvm.Cond.code ({ cls := "WitnessesMustLie", name := "proved", desc := "(I)I" } : Jvm.MethodName) prog_1_method_14_code (2 : Nat) (Option.some Jvm.ClassFile.FieldType.int)) ∈ ab_Tg := ab_t3 181 rfl rfl
theorem tw_662 : (Jvm.Cond.methodLink "WitnessesMustLie" (198 : Nat) ({ cls := "WitnessesMustLie$Trial", name := "left", desc := "()J" } : Jvm.MethodName)) ∈ ab_Tg := ab_t3 182 rfl rfl
theorem tw_663 : (Jvm.Cond.methodLink "WitnessesMustLie" (202 : Nat) ({ cls := "WitnessesMustLie", name := "factsOfAll", desc := "(J)I" } : Jvm.MethodName)) ∈ ab_Tg := ab_t3 183 rfl rfl
theorem tw_664 : (Jvm.Cond.static ({ cls := "WitnessesMustLie", name := "factsOfAll", desc := "(J)I" } : Jvm.MethodName)) ∈ ab_Tg := ab_t3 184 rfl rfl
theorem tw_665 : (Jvm.Cond.code ({ cls := "WitnessesMustLie", name := "factsOfAll", desc := "(J)I" } : Jvm.MethodName) prog_1_method_58_code (4 : Nat) (Option.some Jvm.ClassFile.FieldType.int)) ∈ ab_Tg := ab_t3 185 rfl rfl
theorem tw_666 : (Jvm.Cond.methodLink "WitnessesMustLie" (233 : Nat) ({ cls := "WitnessesMustLie", name := "worldsWith", desc := "(I)J" } : Jvm.MethodName)) ∈ ab_Tg := ab_t3 186 rfl rfl
theorem tw_667 : (Jvm.Cond.constantLong "WitnessesMustLie" (219 : Nat) (-1 : Int64)) ∈ ab_Tg := ab_t3 187 rfl rfl
theorem tw_668 : (Jvm.Cond.methodLink "WitnessesMustLie" (402 : Nat) ({ cls := "WitnessesMustLie", name := "factBit", desc := "(I)I" } : Jvm.MethodName)) ∈ ab_Tg := ab_t3 188 rfl rfl
theorem tw_669 : (Jvm.Cond.methodLink "WitnessesMustLie" (205 : Nat) ({ cls := "WitnessesMustLie", name := "factsOfNone", desc := "(J)I" } : Jvm.MethodName)) ∈ ab_Tg := ab_t3 189 rfl rfl
theorem tw_670 : (Jvm.Cond.static ({ cls := "WitnessesMustLie", name := "factsOfNone", desc := "(J)I" } : Jvm.MethodName)) ∈ ab_Tg := ab_t3 190 rfl rfl
theorem tw_671 : (Jvm.Cond.code ({ cls := "WitnessesMustLie", name := "factsOfNone", desc := "(J)I" } : Jvm.MethodName) prog_1_method_59_code (4 : Nat) (Option.some Jvm.ClassFile.FieldType.int)) ∈ ab_Tg := ab_t3 191 rfl rfl
theorem tw_672 : (Jvm.Cond.methodLink "WitnessesMustLieLaw" (79 : Nat) ({ cls := "WitnessesMustLie", name := "slips", desc := "(I)I" } : Jvm.MethodName)) ∈ ab_Tg := ab_t3 192 rfl rfl
theorem tw_673 : (Jvm.Cond.instanceMethod ({ cls := "WitnessesMustLie", name := "slips", desc := "(I)I" } : Jvm.MethodName)) ∈ ab_Tg := ab_t3 193 rfl rfl
theorem tw_674 : (Jvm.Cond.selects "WitnessesMustLie" ({ cls := "WitnessesMustLie", name := "slips", desc := "(I)I" } : Jvm.MethodName) ({ cls := "WitnessesMustLie", name := "slips", desc := "(I)I" } : Jvm.MethodName)) ∈ ab_Tg := ab_t3 194 rfl rfl
theorem tw_675 : (Jvm.Cond.code ({ cls := "WitnessesMustLie", name := "slips", desc := "(I)I" } : Jvm.MethodName) prog_1_method_15_code (3 : Nat) (Option.some Jvm.ClassFile.FieldType.int)) ∈ ab_Tg := ab_t3 195 rfl rfl
theorem tw_676 : (Jvm.Cond.methodLink "WitnessesMustLie" (208 : Nat) ({ cls := "WitnessesMustLie$Trial", name := "trueOnes", desc := "(I)I" } : Jvm.MethodName)) ∈ ab_Tg := ab_t3 196 rfl rfl
theorem tw_677 : (Jvm.Cond.instanceMethod ({ cls := "WitnessesMustLie$Trial", name := "trueOnes", desc := "(I)I" } : Jvm.MethodName)) ∈ ab_Tg := ab_t3 197 rfl rfl
theorem tw_678 : (Jvm.Cond.selects "WitnessesMustLie$Trial" ({ cls := "WitnessesMustLie$Trial", name := "trueOnes", desc := "(I)I" } : Jvm.MethodName) ({ cls := "WitnessesMustLie$Trial", name := "trueOnes", desc := "(I)I" } : Jvm.MethodName)) ∈ ab_Tg := ab_t3 198 rfl rfl
theorem tw_679 : (Jvm.Cond.code ({ cls := "WitnessesMustLie$Trial", name := "trueOnes", desc := "(I)I" } : Jvm.MethodName) prog_12_method_16_code (4 : Nat) (Option.some Jvm.ClassFile.FieldType.int)) ∈ ab_Tg := ab_t3 199 rfl rfl
theorem tw_680 : (Jvm.Cond.methodLinkNest "WitnessesMustLie$Trial" (97 : Nat) ({ cls := "WitnessesMustLie", name := "hasWorld", desc := "(JI)Z" } : Jvm.MethodName) "WitnessesMustLie") ∈ ab_Tn := ab_n3 200 rfl rfl
theorem tw_681 : (Jvm.Cond.methodLink "WitnessesMustLie" (211 : Nat) ({ cls := "java/lang/Integer", name := "numberOfTrailingZeros", desc := "(I)I" } : Jvm.MethodName)) ∈ ab_Tg := ab_t3 201 rfl rfl
theorem tw_682 : (Jvm.Cond.static ({ cls := "java/lang/Integer", name := "numberOfTrailingZeros", desc := "(I)I" } : Jvm.MethodName)) ∈ ab_Tg := ab_t3 202 rfl rfl
theorem tw_683 : (Jvm.Cond.code ({ cls := "java/lang/Integer", name := "numberOfTrailingZeros", desc := "(I)I" } : Jvm.MethodName) prog_20_method_48_code (2 : Nat) (Option.some Jvm.ClassFile.FieldType.int)) ∈ ab_Tg := ab_t3 203 rfl rfl
theorem tw_684 : (Jvm.Cond.constant "java/lang/Integer" (264 : Nat) (65536 : Int32)) ∈ ab_Tg := ab_t3 204 rfl rfl
theorem tw_685 : (Jvm.Cond.methodLink "WitnessesMustLieLaw" (83 : Nat) ({ cls := "WitnessesMustLie", name := "alone", desc := "(I)I" } : Jvm.MethodName)) ∈ ab_Tg := ab_t3 205 rfl rfl
theorem tw_686 : (Jvm.Cond.instanceMethod ({ cls := "WitnessesMustLie", name := "alone", desc := "(I)I" } : Jvm.MethodName)) ∈ ab_Tg := ab_t3 206 rfl rfl
theorem tw_687 : (Jvm.Cond.selects "WitnessesMustLie" ({ cls := "WitnessesMustLie", name := "alone", desc := "(I)I" } : Jvm.MethodName) ({ cls := "WitnessesMustLie", name := "alone", desc := "(I)I" } : Jvm.MethodName)) ∈ ab_Tg := ab_t3 207 rfl rfl
theorem tw_688 : (Jvm.Cond.code ({ cls := "WitnessesMustLie", name := "alone", desc := "(I)I" } : Jvm.MethodName) prog_1_method_16_code (3 : Nat) (Option.some Jvm.ClassFile.FieldType.int)) ∈ ab_Tg := ab_t3 208 rfl rfl
theorem tw_689 : (Jvm.Cond.methodLink "WitnessesMustLie" (216 : Nat) ({ cls := "WitnessesMustLie$Trial", name := "mayBe", desc := "()J" } : Jvm.MethodName)) ∈ ab_Tg := ab_t3 209 rfl rfl
theorem tw_690 : (Jvm.Cond.methodLink "WitnessesMustLieLaw" (87 : Nat) ({ cls := "WitnessesMustLie", name := "clash", desc := "()I" } : Jvm.MethodName)) ∈ ab_Tg := ab_t3 210 rfl rfl
theorem tw_691 : (Jvm.Cond.instanceMethod ({ cls := "WitnessesMustLie", name := "clash", desc := "()I" } : Jvm.MethodName)) ∈ ab_Tg := ab_t3 211 rfl rfl
theorem tw_692 : (Jvm.Cond.selects "WitnessesMustLie" ({ cls := "WitnessesMustLie", name := "clash", desc := "()I" } : Jvm.MethodName) ({ cls := "WitnessesMustLie", name := "clash", desc := "()I" } : Jvm.MethodName)) ∈ ab_Tg := ab_t3 212 rfl rfl
theorem tw_693 : (Jvm.Cond.code ({ cls := "WitnessesMustLie", name := "clash", desc := "()I" } : Jvm.MethodName) prog_1_method_17_code (9 : Nat) (Option.some Jvm.ClassFile.FieldType.int)) ∈ ab_Tg := ab_t3 213 rfl rfl
theorem tw_694 : (Jvm.Cond.methodLink "WitnessesMustLieLaw" (91 : Nat) ({ cls := "WitnessesMustLie", name := "proof", desc := "(I)I" } : Jvm.MethodName)) ∈ ab_Tg := ab_t3 214 rfl rfl
theorem tw_695 : (Jvm.Cond.instanceMethod ({ cls := "WitnessesMustLie", name := "proof", desc := "(I)I" } : Jvm.MethodName)) ∈ ab_Tg := ab_t3 215 rfl rfl
theorem tw_696 : (Jvm.Cond.selects "WitnessesMustLie" ({ cls := "WitnessesMustLie", name := "proof", desc := "(I)I" } : Jvm.MethodName) ({ cls := "WitnessesMustLie", name := "proof", desc := "(I)I" } : Jvm.MethodName)) ∈ ab_Tg := ab_t3 216 rfl rfl
theorem tw_697 : (Jvm.Cond.code ({ cls := "WitnessesMustLie", name := "proof", desc := "(I)I" } : Jvm.MethodName) prog_1_method_18_code (8 : Nat) (Option.some Jvm.ClassFile.FieldType.int)) ∈ ab_Tg := ab_t3 217 rfl rfl
theorem tw_698 : (Jvm.Cond.methodLink "WitnessesMustLie" (224 : Nat) ({ cls := "java/lang/Integer", name := "bitCount", desc := "(I)I" } : Jvm.MethodName)) ∈ ab_Tg := ab_t3 218 rfl rfl
theorem tw_699 : (Jvm.Cond.static ({ cls := "java/lang/Integer", name := "bitCount", desc := "(I)I" } : Jvm.MethodName)) ∈ ab_Tg := ab_t3 219 rfl rfl
theorem tw_700 : (Jvm.Cond.code ({ cls := "java/lang/Integer", name := "bitCount", desc := "(I)I" } : Jvm.MethodName) prog_20_method_49_code (1 : Nat) (Option.some Jvm.ClassFile.FieldType.int)) ∈ ab_Tg := ab_t3 220 rfl rfl
theorem tw_701 : (Jvm.Cond.constant "java/lang/Integer" (265 : Nat) (1431655765 : Int32)) ∈ ab_Tg := ab_t3 221 rfl rfl
theorem tw_702 : (Jvm.Cond.constant "java/lang/Integer" (266 : Nat) (858993459 : Int32)) ∈ ab_Tg := ab_t3 222 rfl rfl
theorem tw_703 : (Jvm.Cond.constant "java/lang/Integer" (267 : Nat) (252645135 : Int32)) ∈ ab_Tg := ab_t3 223 rfl rfl
theorem tw_704 : (Jvm.Cond.methodLink "WitnessesMustLie" (226 : Nat) ({ cls := "WitnessesMustLie$Trial", name := "leftBySaid", desc := "(JI)J" } : Jvm.MethodName)) ∈ ab_Tg := ab_t3 224 rfl rfl
theorem tw_705 : (Jvm.Cond.methodLink "WitnessesMustLie" (230 : Nat) ({ cls := "WitnessesMustLie", name := "isProvedBy", desc := "(JI)Z" } : Jvm.MethodName)) ∈ ab_Tg := ab_t3 225 rfl rfl
theorem tw_706 : (Jvm.Cond.static ({ cls := "WitnessesMustLie", name := "isProvedBy", desc := "(JI)Z" } : Jvm.MethodName)) ∈ ab_Tg := ab_t3 226 rfl rfl
theorem tw_707 : (Jvm.Cond.code ({ cls := "WitnessesMustLie", name := "isProvedBy", desc := "(JI)Z" } : Jvm.MethodName) prog_1_method_61_code (3 : Nat) (Option.some Jvm.ClassFile.FieldType.boolean)) ∈ ab_Tg := ab_t3 227 rfl rfl
theorem tw_708 : (Jvm.Cond.methodLink "WitnessesMustLieLaw" (95 : Nat) ({ cls := "WitnessesMustLie", name := "slipped", desc := "()I" } : Jvm.MethodName)) ∈ ab_Tg := ab_t3 228 rfl rfl
theorem tw_709 : (Jvm.Cond.instanceMethod ({ cls := "WitnessesMustLie", name := "slipped", desc := "()I" } : Jvm.MethodName)) ∈ ab_Tg := ab_t3 229 rfl rfl
theorem tw_710 : (Jvm.Cond.selects "WitnessesMustLie" ({ cls := "WitnessesMustLie", name := "slipped", desc := "()I" } : Jvm.MethodName) ({ cls := "WitnessesMustLie", name := "slipped", desc := "()I" } : Jvm.MethodName)) ∈ ab_Tg := ab_t3 230 rfl rfl
theorem tw_711 : (Jvm.Cond.code ({ cls := "WitnessesMustLie", name := "slipped", desc := "()I" } : Jvm.MethodName) prog_1_method_19_code (8 : Nat) (Option.some Jvm.ClassFile.FieldType.int)) ∈ ab_Tg := ab_t3 231 rfl rfl
theorem tw_712 : (Jvm.Cond.methodLink "WitnessesMustLieLaw" (99 : Nat) ({ cls := "WitnessesMustLie", name := "ask", desc := "()I" } : Jvm.MethodName)) ∈ ab_Tg := ab_t3 232 rfl rfl
theorem tw_713 : (Jvm.Cond.instanceMethod ({ cls := "WitnessesMustLie", name := "ask", desc := "()I" } : Jvm.MethodName)) ∈ ab_Tg := ab_t3 233 rfl rfl
theorem tw_714 : (Jvm.Cond.selects "WitnessesMustLie" ({ cls := "WitnessesMustLie", name := "ask", desc := "()I" } : Jvm.MethodName) ({ cls := "WitnessesMustLie", name := "ask", desc := "()I" } : Jvm.MethodName)) ∈ ab_Tg := ab_t3 234 rfl rfl
theorem tw_715 : (Jvm.Cond.code ({ cls := "WitnessesMustLie", name := "ask", desc := "()I" } : Jvm.MethodName) prog_1_method_20_code (8 : Nat) (Option.some Jvm.ClassFile.FieldType.int)) ∈ ab_Tg := ab_t3 235 rfl rfl
theorem tw_716 : (Jvm.Cond.methodLink "WitnessesMustLie" (236 : Nat) ({ cls := "java/lang/Math", name := "min", desc := "(II)I" } : Jvm.MethodName)) ∈ ab_Tg := ab_t3 236 rfl rfl
theorem tw_717 : (Jvm.Cond.methodLink "WitnessesMustLieLaw" (103 : Nat) ({ cls := "WitnessesMustLie", name := "plain", desc := "()I" } : Jvm.MethodName)) ∈ ab_Tg := ab_t3 237 rfl rfl
theorem tw_718 : (Jvm.Cond.instanceMethod ({ cls := "WitnessesMustLie", name := "plain", desc := "()I" } : Jvm.MethodName)) ∈ ab_Tg := ab_t3 238 rfl rfl
theorem tw_719 : (Jvm.Cond.selects "WitnessesMustLie" ({ cls := "WitnessesMustLie", name := "plain", desc := "()I" } : Jvm.MethodName) ({ cls := "WitnessesMustLie", name := "plain", desc := "()I" } : Jvm.MethodName)) ∈ ab_Tg := ab_t3 239 rfl rfl
theorem tw_720 : (Jvm.Cond.code ({ cls := "WitnessesMustLie", name := "plain", desc := "()I" } : Jvm.MethodName) prog_1_method_21_code (5 : Nat) (Option.some Jvm.ClassFile.FieldType.int)) ∈ ab_Tg := ab_t4 0 rfl rfl
theorem tw_721 : (Jvm.Cond.methodLink "WitnessesMustLie" (242 : Nat) ({ cls := "WitnessesMustLie$Trial", name := "isPlainBy", desc := "(I)Z" } : Jvm.MethodName)) ∈ ab_Tg := ab_t4 1 rfl rfl
theorem tw_722 : (Jvm.Cond.instanceMethod ({ cls := "WitnessesMustLie$Trial", name := "isPlainBy", desc := "(I)Z" } : Jvm.MethodName)) ∈ ab_Tg := ab_t4 2 rfl rfl
theorem tw_723 : (Jvm.Cond.selects "WitnessesMustLie$Trial" ({ cls := "WitnessesMustLie$Trial", name := "isPlainBy", desc := "(I)Z" } : Jvm.MethodName) ({ cls := "WitnessesMustLie$Trial", name := "isPlainBy", desc := "(I)Z" } : Jvm.MethodName)) ∈ ab_Tg := ab_t4 3 rfl rfl
theorem tw_724 : (Jvm.Cond.code ({ cls := "WitnessesMustLie$Trial", name := "isPlainBy", desc := "(I)Z" } : Jvm.MethodName) prog_12_method_15_code (2 : Nat) (Option.some Jvm.ClassFile.FieldType.boolean)) ∈ ab_Tg := ab_t4 4 rfl rfl
theorem tw_725 : (Jvm.Cond.methodLink "WitnessesMustLie$Trial" (87 : Nat) ({ cls := "WitnessesMustLie$Trial", name := "leftByTellers", desc := "(I)J" } : Jvm.MethodName)) ∈ ab_Tg := ab_t4 5 rfl rfl
theorem tw_726 : (Jvm.Cond.instanceMethod ({ cls := "WitnessesMustLie$Trial", name := "leftByTellers", desc := "(I)J" } : Jvm.MethodName)) ∈ ab_Tg := ab_t4 6 rfl rfl
theorem tw_727 : (Jvm.Cond.selects "WitnessesMustLie$Trial" ({ cls := "WitnessesMustLie$Trial", name := "leftByTellers", desc := "(I)J" } : Jvm.MethodName) ({ cls := "WitnessesMustLie$Trial", name := "leftByTellers", desc := "(I)J" } : Jvm.MethodName)) ∈ ab_Tg := ab_t4 7 rfl rfl
theorem tw_728 : (Jvm.Cond.code ({ cls := "WitnessesMustLie$Trial", name := "leftByTellers", desc := "(I)J" } : Jvm.MethodName) prog_12_method_14_code (4 : Nat) (Option.some Jvm.ClassFile.FieldType.long)) ∈ ab_Tg := ab_t4 8 rfl rfl
theorem tw_729 : (Jvm.Cond.methodLink "WitnessesMustLie$Trial" (91 : Nat) ({ cls := "java/lang/Long", name := "bitCount", desc := "(J)I" } : Jvm.MethodName)) ∈ ab_Tg := ab_t4 9 rfl rfl
theorem tw_730 : (Jvm.Cond.methodLink "WitnessesMustLieLaw" (107 : Nat) ({ cls := "WitnessesMustLie", name := "order", desc := "(I)I" } : Jvm.MethodName)) ∈ ab_Tg := ab_t4 10 rfl rfl
theorem tw_731 : (Jvm.Cond.instanceMethod ({ cls := "WitnessesMustLie", name := "order", desc := "(I)I" } : Jvm.MethodName)) ∈ ab_Tg := ab_t4 11 rfl rfl
theorem tw_732 : (Jvm.Cond.selects "WitnessesMustLie" ({ cls := "WitnessesMustLie", name := "order", desc := "(I)I" } : Jvm.MethodName) ({ cls := "WitnessesMustLie", name := "order", desc := "(I)I" } : Jvm.MethodName)) ∈ ab_Tg := ab_t4 12 rfl rfl
theorem tw_733 : (Jvm.Cond.code ({ cls := "WitnessesMustLie", name := "order", desc := "(I)I" } : Jvm.MethodName) prog_1_method_22_code (3 : Nat) (Option.some Jvm.ClassFile.FieldType.int)) ∈ ab_Tg := ab_t4 13 rfl rfl
theorem tw_734 : (Jvm.Cond.methodLink "WitnessesMustLie" (245 : Nat) ({ cls := "WitnessesMustLie", name := "plain", desc := "()I" } : Jvm.MethodName)) ∈ ab_Tg := ab_t4 14 rfl rfl
theorem tw_735 : (Jvm.Cond.methodLink "WitnessesMustLie" (248 : Nat) ({ cls := "WitnessesMustLie", name := "leastOrder", desc := "(I)I" } : Jvm.MethodName)) ∈ ab_Tg := ab_t4 15 rfl rfl
theorem tw_736 : (Jvm.Cond.instanceMethod ({ cls := "WitnessesMustLie", name := "leastOrder", desc := "(I)I" } : Jvm.MethodName)) ∈ ab_Tg := ab_t4 17 rfl rfl
theorem tw_737 : (Jvm.Cond.code ({ cls := "WitnessesMustLie", name := "leastOrder", desc := "(I)I" } : Jvm.MethodName) prog_1_method_71_code (5 : Nat) (Option.some Jvm.ClassFile.FieldType.int)) ∈ ab_Tg := ab_t4 18 rfl rfl
theorem tw_738 : (Jvm.Cond.methodLink "WitnessesMustLie" (429 : Nat) ({ cls := "WitnessesMustLie", name := "digitsWithAhead", desc := "(I)I" } : Jvm.MethodName)) ∈ ab_Tg := ab_t4 19 rfl rfl
theorem tw_739 : (Jvm.Cond.instanceMethod ({ cls := "WitnessesMustLie", name := "digitsWithAhead", desc := "(I)I" } : Jvm.MethodName)) ∈ ab_Tg := ab_t4 21 rfl rfl
theorem tw_740 : (Jvm.Cond.code ({ cls := "WitnessesMustLie", name := "digitsWithAhead", desc := "(I)I" } : Jvm.MethodName) prog_1_method_72_code (2 : Nat) (Option.some Jvm.ClassFile.FieldType.int)) ∈ ab_Tg := ab_t4 22 rfl rfl
theorem tw_741 : (Jvm.Cond.methodLink "WitnessesMustLie" (432 : Nat) ({ cls := "WitnessesMustLie", name := "digitsOf", desc := "(II)I" } : Jvm.MethodName)) ∈ ab_Tg := ab_t4 23 rfl rfl
theorem tw_742 : (Jvm.Cond.instanceMethod ({ cls := "WitnessesMustLie", name := "digitsOf", desc := "(II)I" } : Jvm.MethodName)) ∈ ab_Tg := ab_t4 25 rfl rfl
theorem tw_743 : (Jvm.Cond.code ({ cls := "WitnessesMustLie", name := "digitsOf", desc := "(II)I" } : Jvm.MethodName) prog_1_method_73_code (5 : Nat) (Option.some Jvm.ClassFile.FieldType.int)) ∈ ab_Tg := ab_t4 26 rfl rfl
theorem tw_744 : (Jvm.Cond.methodLink "WitnessesMustLieLaw" (111 : Nat) ({ cls := "WitnessesMustLie", name := "without", desc := "(I)I" } : Jvm.MethodName)) ∈ ab_Tg := ab_t4 27 rfl rfl
theorem tw_745 : (Jvm.Cond.instanceMethod ({ cls := "WitnessesMustLie", name := "without", desc := "(I)I" } : Jvm.MethodName)) ∈ ab_Tg := ab_t4 28 rfl rfl
theorem tw_746 : (Jvm.Cond.selects "WitnessesMustLie" ({ cls := "WitnessesMustLie", name := "without", desc := "(I)I" } : Jvm.MethodName) ({ cls := "WitnessesMustLie", name := "without", desc := "(I)I" } : Jvm.MethodName)) ∈ ab_Tg := ab_t4 29 rfl rfl
theorem tw_747 : (Jvm.Cond.code ({ cls := "WitnessesMustLie", name := "without", desc := "(I)I" } : Jvm.MethodName) prog_1_method_23_code (4 : Nat) (Option.some Jvm.ClassFile.FieldType.int)) ∈ ab_Tg := ab_t4 30 rfl rfl
theorem tw_748 : (Jvm.Cond.methodLink "WitnessesMustLie" (251 : Nat) ({ cls := "WitnessesMustLie$Trial", name := "leftByTellers", desc := "(I)J" } : Jvm.MethodName)) ∈ ab_Tg := ab_t4 31 rfl rfl
theorem tw_749 : (Jvm.Cond.methodLink "WitnessesMustLieLaw" (115 : Nat) ({ cls := "WitnessesMustLie", name := "lie", desc := "(II)I" } : Jvm.MethodName)) ∈ ab_Tg := ab_t4 32 rfl rfl
theorem tw_750 : (Jvm.Cond.instanceMethod ({ cls := "WitnessesMustLie", name := "lie", desc := "(II)I" } : Jvm.MethodName)) ∈ ab_Tg := ab_t4 33 rfl rfl
theorem tw_751 : (Jvm.Cond.selects "WitnessesMustLie" ({ cls := "WitnessesMustLie", name := "lie", desc := "(II)I" } : Jvm.MethodName) ({ cls := "WitnessesMustLie", name := "lie", desc := "(II)I" } : Jvm.MethodName)) ∈ ab_Tg := ab_t4 34 rfl rfl
theorem tw_752 : (Jvm.Cond.code ({ cls := "WitnessesMustLie", name := "lie", desc := "(II)I" } : Jvm.MethodName) prog_1_method_24_code (10 : Nat) (Option.some Jvm.ClassFile.FieldType.int)) ∈ ab_Tg := ab_t4 35 rfl rfl
theorem tw_753 : (Jvm.Cond.methodLink "WitnessesMustLie" (254 : Nat) ({ cls := "WitnessesMustLie", name := "isLie", desc := "(II)Z" } : Jvm.MethodName)) ∈ ab_Tg := ab_t4 36 rfl rfl
theorem tw_754 : (Jvm.Cond.instanceMethod ({ cls := "WitnessesMustLie", name := "isLie", desc := "(II)Z" } : Jvm.MethodName)) ∈ ab_Tg := ab_t4 38 rfl rfl
theorem tw_755 : (Jvm.Cond.code ({ cls := "WitnessesMustLie", name := "isLie", desc := "(II)Z" } : Jvm.MethodName) prog_1_method_78_code (5 : Nat) (Option.some Jvm.ClassFile.FieldType.boolean)) ∈ ab_Tg := ab_t4 39 rfl rfl
theorem tw_756 : (Jvm.Cond.methodLink "WitnessesMustLie" (261 : Nat) ({ cls := "WitnessesMustLie", name := "kindOfCode", desc := "(I)I" } : Jvm.MethodName)) ∈ ab_Tg := ab_t4 40 rfl rfl
theorem tw_757 : (Jvm.Cond.static ({ cls := "WitnessesMustLie", name := "kindOfCode", desc := "(I)I" } : Jvm.MethodName)) ∈ ab_Tg := ab_t4 41 rfl rfl
theorem tw_758 : (Jvm.Cond.code ({ cls := "WitnessesMustLie", name := "kindOfCode", desc := "(I)I" } : Jvm.MethodName) prog_1_method_74_code (1 : Nat) (Option.some Jvm.ClassFile.FieldType.int)) ∈ ab_Tg := ab_t4 42 rfl rfl
theorem tw_759 : (Jvm.Cond.methodLink "WitnessesMustLie" (264 : Nat) ({ cls := "WitnessesMustLie", name := "firstOfCode", desc := "(I)I" } : Jvm.MethodName)) ∈ ab_Tg := ab_t4 43 rfl rfl
theorem tw_760 : (Jvm.Cond.static ({ cls := "WitnessesMustLie", name := "firstOfCode", desc := "(I)I" } : Jvm.MethodName)) ∈ ab_Tg := ab_t4 44 rfl rfl
theorem tw_761 : (Jvm.Cond.code ({ cls := "WitnessesMustLie", name := "firstOfCode", desc := "(I)I" } : Jvm.MethodName) prog_1_method_75_code (1 : Nat) (Option.some Jvm.ClassFile.FieldType.int)) ∈ ab_Tg := ab_t4 45 rfl rfl
theorem tw_762 : (Jvm.Cond.methodLink "WitnessesMustLie" (267 : Nat) ({ cls := "WitnessesMustLie", name := "secondOfCode", desc := "(I)I" } : Jvm.MethodName)) ∈ ab_Tg := ab_t4 46 rfl rfl
theorem tw_763 : (Jvm.Cond.static ({ cls := "WitnessesMustLie", name := "secondOfCode", desc := "(I)I" } : Jvm.MethodName)) ∈ ab_Tg := ab_t4 47 rfl rfl
theorem tw_764 : (Jvm.Cond.code ({ cls := "WitnessesMustLie", name := "secondOfCode", desc := "(I)I" } : Jvm.MethodName) prog_1_method_76_code (1 : Nat) (Option.some Jvm.ClassFile.FieldType.int)) ∈ ab_Tg := ab_t4 48 rfl rfl
theorem tw_765 : (Jvm.Cond.methodLink "WitnessesMustLie" (435 : Nat) ({ cls := "WitnessesMustLie$Says", name := "facts", desc := "(III)I" } : Jvm.MethodName)) ∈ ab_Tg := ab_t4 49 rfl rfl
theorem tw_766 : (Jvm.Cond.methodLink "WitnessesMustLie" (258 : Nat) ({ cls := "WitnessesMustLie", name := "worldsOfCode", desc := "(I)J" } : Jvm.MethodName)) ∈ ab_Tg := ab_t4 50 rfl rfl
theorem tw_767 : (Jvm.Cond.instanceMethod ({ cls := "WitnessesMustLie", name := "worldsOfCode", desc := "(I)J" } : Jvm.MethodName)) ∈ ab_Tg := ab_t4 52 rfl rfl
theorem tw_768 : (Jvm.Cond.code ({ cls := "WitnessesMustLie", name := "worldsOfCode", desc := "(I)J" } : Jvm.MethodName) prog_1_method_77_code (3 : Nat) (Option.some Jvm.ClassFile.FieldType.long)) ∈ ab_Tg := ab_t4 53 rfl rfl
theorem tw_769 : (Jvm.Cond.methodLink "WitnessesMustLieLaw" (119 : Nat) ({ cls := "WitnessesMustLie", name := "twoLies", desc := "(II)I" } : Jvm.MethodName)) ∈ ab_Tg := ab_t4 54 rfl rfl
theorem tw_770 : (Jvm.Cond.instanceMethod ({ cls := "WitnessesMustLie", name := "twoLies", desc := "(II)I" } : Jvm.MethodName)) ∈ ab_Tg := ab_t4 55 rfl rfl
theorem tw_771 : (Jvm.Cond.selects "WitnessesMustLie" ({ cls := "WitnessesMustLie", name := "twoLies", desc := "(II)I" } : Jvm.MethodName) ({ cls := "WitnessesMustLie", name := "twoLies", desc := "(II)I" } : Jvm.MethodName)) ∈ ab_Tg := ab_t4 56 rfl rfl
theorem tw_772 : (Jvm.Cond.code ({ cls := "WitnessesMustLie", name := "twoLies", desc := "(II)I" } : Jvm.MethodName) prog_1_method_25_code (11 : Nat) (Option.some Jvm.ClassFile.FieldType.int)) ∈ ab_Tg := ab_t4 57 rfl rfl
theorem tw_773 : (Jvm.Cond.methodLink "WitnessesMustLie" (270 : Nat) ({ cls := "WitnessesMustLie", name := "fillLies", desc := "(I[J)I" } : Jvm.MethodName)) ∈ ab_Tg := ab_t4 58 rfl rfl
theorem tw_774 : (Jvm.Cond.instanceMethod ({ cls := "WitnessesMustLie", name := "fillLies", desc := "(I[J)I" } : Jvm.MethodName)) ∈ ab_Tg := ab_t4 60 rfl rfl
theorem tw_775 : (Jvm.Cond.code ({ cls := "WitnessesMustLie", name := "fillLies", desc := "(I[J)I" } : Jvm.MethodName) prog_1_method_79_code (5 : Nat) (Option.some Jvm.ClassFile.FieldType.int)) ∈ ab_Tg := ab_t4 61 rfl rfl
theorem tw_776 : (Jvm.Cond.methodLink "WitnessesMustLie" (274 : Nat) ({ cls := "WitnessesMustLie", name := "mostLeft", desc := "(JI)I" } : Jvm.MethodName)) ∈ ab_Tg := ab_t4 62 rfl rfl
theorem tw_777 : (Jvm.Cond.instanceMethod ({ cls := "WitnessesMustLie", name := "mostLeft", desc := "(JI)I" } : Jvm.MethodName)) ∈ ab_Tg := ab_t4 64 rfl rfl
theorem tw_778 : (Jvm.Cond.code ({ cls := "WitnessesMustLie", name := "mostLeft", desc := "(JI)I" } : Jvm.MethodName) prog_1_method_80_code (6 : Nat) (Option.some Jvm.ClassFile.FieldType.int)) ∈ ab_Tg := ab_t4 65 rfl rfl
theorem tw_779 : (Jvm.Cond.methodLink "WitnessesMustLie" (278 : Nat) ({ cls := "java/lang/Math", name := "max", desc := "(II)I" } : Jvm.MethodName)) ∈ ab_Tg := ab_t4 66 rfl rfl
theorem tw_780 : (Jvm.Cond.methodLink "WitnessesMustLieLaw" (123 : Nat) ({ cls := "WitnessesMustLie", name := "tells", desc := "(III)I" } : Jvm.MethodName)) ∈ ab_Tg := ab_t4 67 rfl rfl
theorem tw_781 : (Jvm.Cond.instanceMethod ({ cls := "WitnessesMustLie", name := "tells", desc := "(III)I" } : Jvm.MethodName)) ∈ ab_Tg := ab_t4 68 rfl rfl
theorem tw_782 : (Jvm.Cond.selects "WitnessesMustLie" ({ cls := "WitnessesMustLie", name := "tells", desc := "(III)I" } : Jvm.MethodName) ({ cls := "WitnessesMustLie", name := "tells", desc := "(III)I" } : Jvm.MethodName)) ∈ ab_Tg := ab_t4 69 rfl rfl
theorem tw_783 : (Jvm.Cond.code ({ cls := "WitnessesMustLie", name := "tells", desc := "(III)I" } : Jvm.MethodName) prog_1_method_26_code (6 : Nat) (Option.some Jvm.ClassFile.FieldType.int)) ∈ ab_Tg := ab_t4 70 rfl rfl
theorem tw_784 : (Jvm.Cond.methodLink "WitnessesMustLieLaw" (127 : Nat) ({ cls := "WitnessesMustLie", name := "verdict", desc := "()I" } : Jvm.MethodName)) ∈ ab_Tg := ab_t4 71 rfl rfl
theorem tw_785 : (Jvm.Cond.instanceMethod ({ cls := "WitnessesMustLie", name := "verdict", desc := "()I" } : Jvm.MethodName)) ∈ ab_Tg := ab_t4 72 rfl rfl
theorem tw_786 : (Jvm.Cond.selects "WitnessesMustLie" ({ cls := "WitnessesMustLie", name := "verdict", desc := "()I" } : Jvm.MethodName) ({ cls := "WitnessesMustLie", name := "verdict", desc := "()I" } : Jvm.MethodName)) ∈ ab_Tg := ab_t4 73 rfl rfl
theorem tw_787 : (Jvm.Cond.code ({ cls := "WitnessesMustLie", name := "verdict", desc := "()I" } : Jvm.MethodName) prog_1_method_27_code (3 : Nat) (Option.some Jvm.ClassFile.FieldType.int)) ∈ ab_Tg := ab_t4 74 rfl rfl
theorem tw_788 : (Jvm.Cond.methodLink "WitnessesMustLie" (281 : Nat) ({ cls := "WitnessesMustLie$Saying", name := "facts", desc := "()I" } : Jvm.MethodName)) ∈ ab_Tg := ab_t4 75 rfl rfl
theorem tw_789 : (Jvm.Cond.methodLink "WitnessesMustLieLaw" (131 : Nat) ({ cls := "WitnessesMustLie", name := "certain", desc := "(I)I" } : Jvm.MethodName)) ∈ ab_Tg := ab_t4 76 rfl rfl
theorem tw_790 : (Jvm.Cond.instanceMethod ({ cls := "WitnessesMustLie", name := "certain", desc := "(I)I" } : Jvm.MethodName)) ∈ ab_Tg := ab_t4 77 rfl rfl
theorem tw_791 : (Jvm.Cond.selects "WitnessesMustLie" ({ cls := "WitnessesMustLie", name := "certain", desc := "(I)I" } : Jvm.MethodName) ({ cls := "WitnessesMustLie", name := "certain", desc := "(I)I" } : Jvm.MethodName)) ∈ ab_Tg := ab_t4 78 rfl rfl
theorem tw_792 : (Jvm.Cond.code ({ cls := "WitnessesMustLie", name := "certain", desc := "(I)I" } : Jvm.MethodName) prog_1_method_28_code (2 : Nat) (Option.some Jvm.ClassFile.FieldType.int)) ∈ ab_Tg := ab_t4 79 rfl rfl
theorem tw_793 : (Jvm.Cond.methodLink "WitnessesMustLie" (284 : Nat) ({ cls := "WitnessesMustLie", name := "likeInKnown", desc := "(JII)J" } : Jvm.MethodName)) ∈ ab_Tg := ab_t4 80 rfl rfl
theorem tw_794 : (Jvm.Cond.static ({ cls := "WitnessesMustLie", name := "likeInKnown", desc := "(JII)J" } : Jvm.MethodName)) ∈ ab_Tg := ab_t4 81 rfl rfl
theorem tw_795 : (Jvm.Cond.code ({ cls := "WitnessesMustLie", name := "likeInKnown", desc := "(JII)J" } : Jvm.MethodName) prog_1_method_62_code (7 : Nat) (Option.some Jvm.ClassFile.FieldType.long)) ∈ ab_Tg := ab_t4 82 rfl rfl
theorem tw_796 : (Jvm.Cond.methodLink "WitnessesMustLie" (288 : Nat) ({ cls := "WitnessesMustLie", name := "factsAlike", desc := "(J)I" } : Jvm.MethodName)) ∈ ab_Tg := ab_t4 83 rfl rfl
theorem tw_797 : (Jvm.Cond.static ({ cls := "WitnessesMustLie", name := "factsAlike", desc := "(J)I" } : Jvm.MethodName)) ∈ ab_Tg := ab_t4 84 rfl rfl
theorem tw_798 : (Jvm.Cond.code ({ cls := "WitnessesMustLie", name := "factsAlike", desc := "(J)I" } : Jvm.MethodName) prog_1_method_60_code (2 : Nat) (Option.some Jvm.ClassFile.FieldType.int)) ∈ ab_Tg := ab_t4 85 rfl rfl
theorem tw_799 : (Jvm.Cond.methodLink "WitnessesMustLieLaw" (135 : Nat) ({ cls := "WitnessesMustLie", name := "knowsOf", desc := "(II)I" } : Jvm.MethodName)) ∈ ab_Tg := ab_t4 86 rfl rfl
theorem tw_800 : (Jvm.Cond.instanceMethod ({ cls := "WitnessesMustLie", name := "knowsOf", desc := "(II)I" } : Jvm.MethodName)) ∈ ab_Tg := ab_t4 87 rfl rfl
theorem tw_801 : (Jvm.Cond.selects "WitnessesMustLie" ({ cls := "WitnessesMustLie", name := "knowsOf", desc := "(II)I" } : Jvm.MethodName) ({ cls := "WitnessesMustLie", name := "knowsOf", desc := "(II)I" } : Jvm.MethodName)) ∈ ab_Tg := ab_t4 88 rfl rfl
theorem tw_802 : (Jvm.Cond.code ({ cls := "WitnessesMustLie", name := "knowsOf", desc := "(II)I" } : Jvm.MethodName) prog_1_method_29_code (9 : Nat) (Option.some Jvm.ClassFile.FieldType.int)) ∈ ab_Tg := ab_t4 89 rfl rfl
theorem tw_803 : (Jvm.Cond.methodLink "WitnessesMustLieLaw" (139 : Nat) ({ cls := "WitnessesMustLie", name := "allKnow", desc := "(I)I" } : Jvm.MethodName)) ∈ ab_Tg := ab_t4 90 rfl rfl
theorem tw_804 : (Jvm.Cond.instanceMethod ({ cls := "WitnessesMustLie", name := "allKnow", desc := "(I)I" } : Jvm.MethodName)) ∈ ab_Tg := ab_t4 91 rfl rfl
theorem tw_805 : (Jvm.Cond.selects "WitnessesMustLie" ({ cls := "WitnessesMustLie", name := "allKnow", desc := "(I)I" } : Jvm.MethodName) ({ cls := "WitnessesMustLie", name := "allKnow", desc := "(I)I" } : Jvm.MethodName)) ∈ ab_Tg := ab_t4 92 rfl rfl
theorem tw_806 : (Jvm.Cond.code ({ cls := "WitnessesMustLie", name := "allKnow", desc := "(I)I" } : Jvm.MethodName) prog_1_method_30_code (7 : Nat) (Option.some Jvm.ClassFile.FieldType.int)) ∈ ab_Tg := ab_t4 93 rfl rfl
theorem tw_807 : (Jvm.Cond.methodLink "WitnessesMustLie" (291 : Nat) ({ cls := "WitnessesMustLie$Trial", name := "reachedFrom", desc := "(JJ)J" } : Jvm.MethodName)) ∈ ab_Tg := ab_t4 94 rfl rfl
theorem tw_808 : (Jvm.Cond.instanceMethod ({ cls := "WitnessesMustLie$Trial", name := "reachedFrom", desc := "(JJ)J" } : Jvm.MethodName)) ∈ ab_Tg := ab_t4 95 rfl rfl
theorem tw_809 : (Jvm.Cond.selects "WitnessesMustLie$Trial" ({ cls := "WitnessesMustLie$Trial", name := "reachedFrom", desc := "(JJ)J" } : Jvm.MethodName) ({ cls := "WitnessesMustLie$Trial", name := "reachedFrom", desc := "(JJ)J" } : Jvm.MethodName)) ∈ ab_Tg := ab_t4 96 rfl rfl
theorem tw_810 : (Jvm.Cond.code ({ cls := "WitnessesMustLie$Trial", name := "reachedFrom", desc := "(JJ)J" } : Jvm.MethodName) prog_12_method_18_code (9 : Nat) (Option.some Jvm.ClassFile.FieldType.long)) ∈ ab_Tg := ab_t4 97 rfl rfl
theorem tw_811 : (Jvm.Cond.methodLinkNest "WitnessesMustLie$Trial" (104 : Nat) ({ cls := "WitnessesMustLie", name := "likeInKnown", desc := "(JII)J" } : Jvm.MethodName) "WitnessesMustLie") ∈ ab_Tn := ab_n4 98 rfl rfl
theorem tw_812 : (Jvm.Cond.methodLink "WitnessesMustLieLaw" (143 : Nat) ({ cls := "WitnessesMustLie", name := "pencils", desc := "(III)J" } : Jvm.MethodName)) ∈ ab_Tg := ab_t4 99 rfl rfl
theorem tw_813 : (Jvm.Cond.instanceMethod ({ cls := "WitnessesMustLie", name := "pencils", desc := "(III)J" } : Jvm.MethodName)) ∈ ab_Tg := ab_t4 100 rfl rfl
theorem tw_814 : (Jvm.Cond.selects "WitnessesMustLie" ({ cls := "WitnessesMustLie", name := "pencils", desc := "(III)J" } : Jvm.MethodName) ({ cls := "WitnessesMustLie", name := "pencils", desc := "(III)J" } : Jvm.MethodName)) ∈ ab_Tg := ab_t4 101 rfl rfl
theorem tw_815 : (Jvm.Cond.code ({ cls := "WitnessesMustLie", name := "pencils", desc := "(III)J" } : Jvm.MethodName) prog_1_method_31_code (10 : Nat) (Option.some Jvm.ClassFile.FieldType.long)) ∈ ab_Tg := ab_t4 102 rfl rfl
theorem tw_816 : (Jvm.Cond.methodLink "WitnessesMustLie" (295 : Nat) ({ cls := "WitnessesMustLie", name := "waysToChoose", desc := "(I)J" } : Jvm.MethodName)) ∈ ab_Tg := ab_t4 103 rfl rfl
theorem tw_817 : (Jvm.Cond.static ({ cls := "WitnessesMustLie", name := "waysToChoose", desc := "(I)J" } : Jvm.MethodName)) ∈ ab_Tg := ab_t4 104 rfl rfl
theorem tw_818 : (Jvm.Cond.code ({ cls := "WitnessesMustLie", name := "waysToChoose", desc := "(I)J" } : Jvm.MethodName) prog_1_method_82_code (4 : Nat) (Option.some Jvm.ClassFile.FieldType.long)) ∈ ab_Tg := ab_t4 105 rfl rfl
theorem tw_819 : (Jvm.Cond.methodLink "WitnessesMustLie" (298 : Nat) ({ cls := "WitnessesMustLie", name := "power", desc := "(II)J" } : Jvm.MethodName)) ∈ ab_Tg := ab_t4 106 rfl rfl
theorem tw_820 : (Jvm.Cond.static ({ cls := "WitnessesMustLie", name := "power", desc := "(II)J" } : Jvm.MethodName)) ∈ ab_Tg := ab_t4 107 rfl rfl
theorem tw_821 : (Jvm.Cond.code ({ cls := "WitnessesMustLie", name := "power", desc := "(II)J" } : Jvm.MethodName) prog_1_method_81_code (5 : Nat) (Option.some Jvm.ClassFile.FieldType.long)) ∈ ab_Tg := ab_t4 108 rfl rfl
theorem tw_822 : (Jvm.Cond.methodLink "WitnessesMustLie" (301 : Nat) ({ cls := "WitnessesMustLie", name := "greatestDivisor", desc := "(JJ)J" } : Jvm.MethodName)) ∈ ab_Tg := ab_t4 109 rfl rfl
theorem tw_823 : (Jvm.Cond.static ({ cls := "WitnessesMustLie", name := "greatestDivisor", desc := "(JJ)J" } : Jvm.MethodName)) ∈ ab_Tg := ab_t4 110 rfl rfl
theorem tw_824 : (Jvm.Cond.code ({ cls := "WitnessesMustLie", name := "greatestDivisor", desc := "(JJ)J" } : Jvm.MethodName) prog_1_method_83_code (11 : Nat) (Option.some Jvm.ClassFile.FieldType.long)) ∈ ab_Tg := ab_t4 111 rfl rfl
theorem tw_825 : (Jvm.Cond.methodLink "WitnessesMustLieLaw" (148 : Nat) ({ cls := "WitnessesMustLie", name := "fits", desc := "(I)J" } : Jvm.MethodName)) ∈ ab_Tg := ab_t4 112 rfl rfl
theorem tw_826 : (Jvm.Cond.instanceMethod ({ cls := "WitnessesMustLie", name := "fits", desc := "(I)J" } : Jvm.MethodName)) ∈ ab_Tg := ab_t4 113 rfl rfl
theorem tw_827 : (Jvm.Cond.selects "WitnessesMustLie" ({ cls := "WitnessesMustLie", name := "fits", desc := "(I)J" } : Jvm.MethodName) ({ cls := "WitnessesMustLie", name := "fits", desc := "(I)J" } : Jvm.MethodName)) ∈ ab_Tg := ab_t4 114 rfl rfl
theorem tw_828 : (Jvm.Cond.code ({ cls := "WitnessesMustLie", name := "fits", desc := "(I)J" } : Jvm.MethodName) prog_1_method_32_code (9 : Nat) (Option.some Jvm.ClassFile.FieldType.long)) ∈ ab_Tg := ab_t4 115 rfl rfl
theorem tw_829 : (Jvm.Cond.methodLink "WitnessesMustLie" (307 : Nat) ({ cls := "WitnessesMustLie$Shelf", name := "tellsTrueOrFalse", desc := "()Z" } : Jvm.MethodName)) ∈ ab_Tg := ab_t4 116 rfl rfl
theorem tw_830 : (Jvm.Cond.instanceMethod ({ cls := "WitnessesMustLie$Shelf", name := "tellsTrueOrFalse", desc := "()Z" } : Jvm.MethodName)) ∈ ab_Tg := ab_t4 117 rfl rfl
theorem tw_831 : (Jvm.Cond.selects "WitnessesMustLie$Shelf" ({ cls := "WitnessesMustLie$Shelf", name := "tellsTrueOrFalse", desc := "()Z" } : Jvm.MethodName) ({ cls := "WitnessesMustLie$Shelf", name := "tellsTrueOrFalse", desc := "()Z" } : Jvm.MethodName)) ∈ ab_Tg := ab_t4 118 rfl rfl
theorem tw_832 : (Jvm.Cond.code ({ cls := "WitnessesMustLie$Shelf", name := "tellsTrueOrFalse", desc := "()Z" } : Jvm.MethodName) prog_11_method_15_code (3 : Nat) (Option.some Jvm.ClassFile.FieldType.boolean)) ∈ ab_Tg := ab_t4 119 rfl rfl
theorem tw_833 : (Jvm.Cond.methodLink "WitnessesMustLie$Shelf" (53 : Nat) ({ cls := "WitnessesMustLie$Shelf", name := "numberAt", desc := "(I)I" } : Jvm.MethodName)) ∈ ab_Tg := ab_t4 120 rfl rfl
theorem tw_834 : (Jvm.Cond.methodLink "WitnessesMustLie$Shelf" (57 : Nat) ({ cls := "WitnessesMustLie$Shelf", name := "isSkipped", desc := "(I)Z" } : Jvm.MethodName)) ∈ ab_Tg := ab_t4 121 rfl rfl
theorem tw_835 : (Jvm.Cond.instanceMethod ({ cls := "WitnessesMustLie$Shelf", name := "isSkipped", desc := "(I)Z" } : Jvm.MethodName)) ∈ ab_Tg := ab_t4 122 rfl rfl
theorem tw_836 : (Jvm.Cond.selects "WitnessesMustLie$Shelf" ({ cls := "WitnessesMustLie$Shelf", name := "isSkipped", desc := "(I)Z" } : Jvm.MethodName) ({ cls := "WitnessesMustLie$Shelf", name := "isSkipped", desc := "(I)Z" } : Jvm.MethodName)) ∈ ab_Tg := ab_t4 123 rfl rfl
theorem tw_837 : (Jvm.Cond.code ({ cls := "WitnessesMustLie$Shelf", name := "isSkipped", desc := "(I)Z" } : Jvm.MethodName) prog_11_method_14_code (2 : Nat) (Option.some Jvm.ClassFile.FieldType.boolean)) ∈ ab_Tg := ab_t4 124 rfl rfl
theorem tw_838 : (Jvm.Cond.constant "WitnessesMustLie$Shelf" (56 : Nat) (-2147483648 : Int32)) ∈ ab_Tg := ab_t4 125 rfl rfl
theorem tw_839 : (Jvm.Cond.methodLink "WitnessesMustLie" (311 : Nat) ({ cls := "WitnessesMustLie$Shelf", name := "isSkipped", desc := "(I)Z" } : Jvm.MethodName)) ∈ ab_Tg := ab_t4 126 rfl rfl
theorem tw_840 : (Jvm.Cond.methodLink "WitnessesMustLieLaw" (152 : Nat) ({ cls := "WitnessesMustLie", name := "judge", desc := "(I)I" } : Jvm.MethodName)) ∈ ab_Tg := ab_t4 127 rfl rfl
theorem tw_841 : (Jvm.Cond.instanceMethod ({ cls := "WitnessesMustLie", name := "judge", desc := "(I)I" } : Jvm.MethodName)) ∈ ab_Tg := ab_t4 128 rfl rfl
theorem tw_842 : (Jvm.Cond.selects "WitnessesMustLie" ({ cls := "WitnessesMustLie", name := "judge", desc := "(I)I" } : Jvm.MethodName) ({ cls := "WitnessesMustLie", name := "judge", desc := "(I)I" } : Jvm.MethodName)) ∈ ab_Tg := ab_t4 129 rfl rfl
theorem tw_843 : (Jvm.Cond.code ({ cls := "WitnessesMustLie", name := "judge", desc := "(I)I" } : Jvm.MethodName) prog_1_method_33_code (9 : Nat) (Option.some Jvm.ClassFile.FieldType.int)) ∈ ab_Tg := ab_t4 130 rfl rfl
theorem tw_844 : (Jvm.Cond.methodLink "WitnessesMustLieLaw" (156 : Nat) ({ cls := "WitnessesMustLie", name := "seeds", desc := "(III)I" } : Jvm.MethodName)) ∈ ab_Tg := ab_t4 131 rfl rfl
theorem tw_845 : (Jvm.Cond.instanceMethod ({ cls := "WitnessesMustLie", name := "seeds", desc := "(III)I" } : Jvm.MethodName)) ∈ ab_Tg := ab_t4 132 rfl rfl
theorem tw_846 : (Jvm.Cond.selects "WitnessesMustLie" ({ cls := "WitnessesMustLie", name := "seeds", desc := "(III)I" } : Jvm.MethodName) ({ cls := "WitnessesMustLie", name := "seeds", desc := "(III)I" } : Jvm.MethodName)) ∈ ab_Tg := ab_t4 133 rfl rfl
theorem tw_847 : (Jvm.Cond.code ({ cls := "WitnessesMustLie", name := "seeds", desc := "(III)I" } : Jvm.MethodName) prog_1_method_34_code (15 : Nat) (Option.some Jvm.ClassFile.FieldType.int)) ∈ ab_Tg := ab_t4 134 rfl rfl
theorem tw_848 : (Jvm.Cond.methodLink "WitnessesMustLie" (317 : Nat) ({ cls := "WitnessesMustLie", name := "worldsOfDraws", desc := "(I)J" } : Jvm.MethodName)) ∈ ab_Tg := ab_t4 135 rfl rfl
theorem tw_849 : (Jvm.Cond.instanceMethod ({ cls := "WitnessesMustLie", name := "worldsOfDraws", desc := "(I)J" } : Jvm.MethodName)) ∈ ab_Tg := ab_t4 137 rfl rfl
theorem tw_850 : (Jvm.Cond.code ({ cls := "WitnessesMustLie", name := "worldsOfDraws", desc := "(I)J" } : Jvm.MethodName) prog_1_method_87_code (7 : Nat) (Option.some Jvm.ClassFile.FieldType.long)) ∈ ab_Tg := ab_t4 138 rfl rfl
theorem tw_851 : (Jvm.Cond.methodLink "WitnessesMustLie" (441 : Nat) ({ cls := "WitnessesMustLie", name := "nextSeed", desc := "(I)I" } : Jvm.MethodName)) ∈ ab_Tg := ab_t4 139 rfl rfl
theorem tw_852 : (Jvm.Cond.static ({ cls := "WitnessesMustLie", name := "nextSeed", desc := "(I)I" } : Jvm.MethodName)) ∈ ab_Tg := ab_t4 140 rfl rfl
theorem tw_853 : (Jvm.Cond.code ({ cls := "WitnessesMustLie", name := "nextSeed", desc := "(I)I" } : Jvm.MethodName) prog_1_method_84_code (1 : Nat) (Option.some Jvm.ClassFile.FieldType.int)) ∈ ab_Tg := ab_t4 141 rfl rfl
theorem tw_854 : (Jvm.Cond.constant "WitnessesMustLie" (438 : Nat) (1103515245 : Int32)) ∈ ab_Tg := ab_t4 142 rfl rfl
theorem tw_855 : (Jvm.Cond.methodLink "WitnessesMustLie" (444 : Nat) ({ cls := "WitnessesMustLie", name := "drawnBelow", desc := "(II)I" } : Jvm.MethodName)) ∈ ab_Tg := ab_t4 143 rfl rfl
theorem tw_856 : (Jvm.Cond.static ({ cls := "WitnessesMustLie", name := "drawnBelow", desc := "(II)I" } : Jvm.MethodName)) ∈ ab_Tg := ab_t4 144 rfl rfl
theorem tw_857 : (Jvm.Cond.code ({ cls := "WitnessesMustLie", name := "drawnBelow", desc := "(II)I" } : Jvm.MethodName) prog_1_method_85_code (2 : Nat) (Option.some Jvm.ClassFile.FieldType.int)) ∈ ab_Tg := ab_t4 145 rfl rfl
theorem tw_858 : (Jvm.Cond.constant "WitnessesMustLie" (439 : Nat) (2147483647 : Int32)) ∈ ab_Tg := ab_t4 146 rfl rfl
theorem tw_859 : (Jvm.Cond.constant "WitnessesMustLie" (440 : Nat) (65536 : Int32)) ∈ ab_Tg := ab_t4 147 rfl rfl
theorem tw_860 : (Jvm.Cond.methodLink "WitnessesMustLie" (320 : Nat) ({ cls := "WitnessesMustLie", name := "seedAfterDraws", desc := "(I)I" } : Jvm.MethodName)) ∈ ab_Tg := ab_t4 148 rfl rfl
theorem tw_861 : (Jvm.Cond.static ({ cls := "WitnessesMustLie", name := "seedAfterDraws", desc := "(I)I" } : Jvm.MethodName)) ∈ ab_Tg := ab_t4 149 rfl rfl
theorem tw_862 : (Jvm.Cond.code ({ cls := "WitnessesMustLie", name := "seedAfterDraws", desc := "(I)I" } : Jvm.MethodName) prog_1_method_86_code (1 : Nat) (Option.some Jvm.ClassFile.FieldType.int)) ∈ ab_Tg := ab_t4 150 rfl rfl
theorem tw_863 : (Jvm.Cond.methodLink "WitnessesMustLieLaw" (160 : Nat) ({ cls := "WitnessesMustLie", name := "image", desc := "()I" } : Jvm.MethodName)) ∈ ab_Tg := ab_t4 151 rfl rfl
theorem tw_864 : (Jvm.Cond.instanceMethod ({ cls := "WitnessesMustLie", name := "image", desc := "()I" } : Jvm.MethodName)) ∈ ab_Tg := ab_t4 152 rfl rfl
theorem tw_865 : (Jvm.Cond.selects "WitnessesMustLie" ({ cls := "WitnessesMustLie", name := "image", desc := "()I" } : Jvm.MethodName) ({ cls := "WitnessesMustLie", name := "image", desc := "()I" } : Jvm.MethodName)) ∈ ab_Tg := ab_t4 153 rfl rfl
theorem tw_866 : (Jvm.Cond.code ({ cls := "WitnessesMustLie", name := "image", desc := "()I" } : Jvm.MethodName) prog_1_method_35_code (1 : Nat) (Option.some Jvm.ClassFile.FieldType.int)) ∈ ab_Tg := ab_t4 154 rfl rfl
theorem tw_867 : (Jvm.Cond.methodLink "WitnessesMustLieLaw" (164 : Nat) ({ cls := "WitnessesMustLie", name := "restore", desc := "()I" } : Jvm.MethodName)) ∈ ab_Tg := ab_t4 155 rfl rfl
theorem tw_868 : (Jvm.Cond.instanceMethod ({ cls := "WitnessesMustLie", name := "restore", desc := "()I" } : Jvm.MethodName)) ∈ ab_Tg := ab_t4 156 rfl rfl
theorem tw_869 : (Jvm.Cond.selects "WitnessesMustLie" ({ cls := "WitnessesMustLie", name := "restore", desc := "()I" } : Jvm.MethodName) ({ cls := "WitnessesMustLie", name := "restore", desc := "()I" } : Jvm.MethodName)) ∈ ab_Tg := ab_t4 157 rfl rfl
theorem tw_870 : (Jvm.Cond.code ({ cls := "WitnessesMustLie", name := "restore", desc := "()I" } : Jvm.MethodName) prog_1_method_36_code (1 : Nat) (Option.some Jvm.ClassFile.FieldType.int)) ∈ ab_Tg := ab_t4 158 rfl rfl
theorem tw_871 : (Jvm.Cond.methodLink "WitnessesMustLieLaw" (168 : Nat) ({ cls := "WitnessesMustLie", name := "count", desc := "(I)I" } : Jvm.MethodName)) ∈ ab_Tg := ab_t4 159 rfl rfl
theorem tw_872 : (Jvm.Cond.instanceMethod ({ cls := "WitnessesMustLie", name := "count", desc := "(I)I" } : Jvm.MethodName)) ∈ ab_Tg := ab_t4 160 rfl rfl
theorem tw_873 : (Jvm.Cond.selects "WitnessesMustLie" ({ cls := "WitnessesMustLie", name := "count", desc := "(I)I" } : Jvm.MethodName) ({ cls := "WitnessesMustLie", name := "count", desc := "(I)I" } : Jvm.MethodName)) ∈ ab_Tg := ab_t4 161 rfl rfl
theorem tw_874 : (Jvm.Cond.code ({ cls := "WitnessesMustLie", name := "count", desc := "(I)I" } : Jvm.MethodName) prog_1_method_37_code (2 : Nat) (Option.some Jvm.ClassFile.FieldType.int)) ∈ ab_Tg := ab_t4 162 rfl rfl
theorem tw_875 : (Jvm.Cond.methodLink "WitnessesMustLie" (331 : Nat) ({ cls := "WitnessesMustLie$Trial", name := "wordsSaid", desc := "()I" } : Jvm.MethodName)) ∈ ab_Tg := ab_t4 163 rfl rfl
theorem tw_876 : (Jvm.Cond.instanceMethod ({ cls := "WitnessesMustLie$Trial", name := "wordsSaid", desc := "()I" } : Jvm.MethodName)) ∈ ab_Tg := ab_t4 164 rfl rfl
theorem tw_877 : (Jvm.Cond.selects "WitnessesMustLie$Trial" ({ cls := "WitnessesMustLie$Trial", name := "wordsSaid", desc := "()I" } : Jvm.MethodName) ({ cls := "WitnessesMustLie$Trial", name := "wordsSaid", desc := "()I" } : Jvm.MethodName)) ∈ ab_Tg := ab_t4 165 rfl rfl
theorem tw_878 : (Jvm.Cond.code ({ cls := "WitnessesMustLie$Trial", name := "wordsSaid", desc := "()I" } : Jvm.MethodName) prog_12_method_17_code (3 : Nat) (Option.some Jvm.ClassFile.FieldType.int)) ∈ ab_Tg := ab_t4 166 rfl rfl
theorem tw_879 : (Jvm.Cond.methodLink "WitnessesMustLie$Trial" (101 : Nat) ({ cls := "WitnessesMustLie$Saying", name := "words", desc := "()I" } : Jvm.MethodName)) ∈ ab_Tg := ab_t4 167 rfl rfl
theorem tw_880 : (Jvm.Cond.methodLink "WitnessesMustLieLaw" (172 : Nat) ({ cls := "WitnessesMustLie", name := "keep", desc := "(IIII)I" } : Jvm.MethodName)) ∈ ab_Tg := ab_t4 168 rfl rfl
theorem tw_881 : (Jvm.Cond.instanceMethod ({ cls := "WitnessesMustLie", name := "keep", desc := "(IIII)I" } : Jvm.MethodName)) ∈ ab_Tg := ab_t4 169 rfl rfl
theorem tw_882 : (Jvm.Cond.selects "WitnessesMustLie" ({ cls := "WitnessesMustLie", name := "keep", desc := "(IIII)I" } : Jvm.MethodName) ({ cls := "WitnessesMustLie", name := "keep", desc := "(IIII)I" } : Jvm.MethodName)) ∈ ab_Tg := ab_t4 170 rfl rfl
theorem tw_883 : (Jvm.Cond.code ({ cls := "WitnessesMustLie", name := "keep", desc := "(IIII)I" } : Jvm.MethodName) prog_1_method_38_code (7 : Nat) (Option.some Jvm.ClassFile.FieldType.int)) ∈ ab_Tg := ab_t4 171 rfl rfl
theorem tw_884 : (Jvm.Cond.methodLink "WitnessesMustLie" (334 : Nat) ({ cls := "WitnessesMustLie$Shelf", name := "holdNothing", desc := "()V" } : Jvm.MethodName)) ∈ ab_Tg := ab_t4 172 rfl rfl
theorem tw_885 : (Jvm.Cond.instanceMethod ({ cls := "WitnessesMustLie$Shelf", name := "holdNothing", desc := "()V" } : Jvm.MethodName)) ∈ ab_Tg := ab_t4 173 rfl rfl
theorem tw_886 : (Jvm.Cond.selects "WitnessesMustLie$Shelf" ({ cls := "WitnessesMustLie$Shelf", name := "holdNothing", desc := "()V" } : Jvm.MethodName) ({ cls := "WitnessesMustLie$Shelf", name := "holdNothing", desc := "()V" } : Jvm.MethodName)) ∈ ab_Tg := ab_t4 174 rfl rfl
theorem tw_887 : (Jvm.Cond.code ({ cls := "WitnessesMustLie$Shelf", name := "holdNothing", desc := "()V" } : Jvm.MethodName) prog_11_method_2_code (1 : Nat) (Option.none : Option Jvm.ClassFile.FieldType)) ∈ ab_Tg := ab_t4 175 rfl rfl
theorem tw_888 : (Jvm.Cond.methodLink "WitnessesMustLie" (341 : Nat) ({ cls := "WitnessesMustLie$Shelf", name := "holdSaying", desc := "(LWitnessesMustLie$Says;I)V" } : Jvm.MethodName)) ∈ ab_Tg := ab_t4 176 rfl rfl
theorem tw_889 : (Jvm.Cond.instanceMethod ({ cls := "WitnessesMustLie$Shelf", name := "holdSaying", desc := "(LWitnessesMustLie$Says;I)V" } : Jvm.MethodName)) ∈ ab_Tg := ab_t4 177 rfl rfl
theorem tw_890 : (Jvm.Cond.selects "WitnessesMustLie$Shelf" ({ cls := "WitnessesMustLie$Shelf", name := "holdSaying", desc := "(LWitnessesMustLie$Says;I)V" } : Jvm.MethodName) ({ cls := "WitnessesMustLie$Shelf", name := "holdSaying", desc := "(LWitnessesMustLie$Says;I)V" } : Jvm.MethodName)) ∈ ab_Tg := ab_t4 178 rfl rfl
theorem tw_891 : (Jvm.Cond.code ({ cls := "WitnessesMustLie$Shelf", name := "holdSaying", desc := "(LWitnessesMustLie$Says;I)V" } : Jvm.MethodName) prog_11_method_3_code (3 : Nat) (Option.none : Option Jvm.ClassFile.FieldType)) ∈ ab_Tg := ab_t4 179 rfl rfl
theorem tw_892 : (Jvm.Cond.methodLink "WitnessesMustLieLaw" (176 : Nat) ({ cls := "WitnessesMustLie", name := "row", desc := "(III)I" } : Jvm.MethodName)) ∈ ab_Tg := ab_t4 180 rfl rfl
theorem tw_893 : (Jvm.Cond.instanceMethod ({ cls := "WitnessesMustLie", name := "row", desc := "(III)I" } : Jvm.MethodName)) ∈ ab_Tg := ab_t4 181 rfl rfl
theorem tw_894 : (Jvm.Cond.selects "WitnessesMustLie" ({ cls := "WitnessesMustLie", name := "row", desc := "(III)I" } : Jvm.MethodName) ({ cls := "WitnessesMustLie", name := "row", desc := "(III)I" } : Jvm.MethodName)) ∈ ab_Tg := ab_t4 182 rfl rfl
theorem tw_895 : (Jvm.Cond.code ({ cls := "WitnessesMustLie", name := "row", desc := "(III)I" } : Jvm.MethodName) prog_1_method_39_code (5 : Nat) (Option.some Jvm.ClassFile.FieldType.int)) ∈ ab_Tg := ab_t4 183 rfl rfl
theorem tw_896 : (Jvm.Cond.methodLink "WitnessesMustLie" (345 : Nat) ({ cls := "WitnessesMustLie$Shelf", name := "holdRow", desc := "(II)V" } : Jvm.MethodName)) ∈ ab_Tg := ab_t4 184 rfl rfl
theorem tw_897 : (Jvm.Cond.instanceMethod ({ cls := "WitnessesMustLie$Shelf", name := "holdRow", desc := "(II)V" } : Jvm.MethodName)) ∈ ab_Tg := ab_t4 185 rfl rfl
theorem tw_898 : (Jvm.Cond.selects "WitnessesMustLie$Shelf" ({ cls := "WitnessesMustLie$Shelf", name := "holdRow", desc := "(II)V" } : Jvm.MethodName) ({ cls := "WitnessesMustLie$Shelf", name := "holdRow", desc := "(II)V" } : Jvm.MethodName)) ∈ ab_Tg := ab_t4 186 rfl rfl
theorem tw_899 : (Jvm.Cond.code ({ cls := "WitnessesMustLie$Shelf", name := "holdRow", desc := "(II)V" } : Jvm.MethodName) prog_11_method_4_code (4 : Nat) (Option.none : Option Jvm.ClassFile.FieldType)) ∈ ab_Tg := ab_t4 187 rfl rfl
theorem tw_900 : (Jvm.Cond.methodLink "WitnessesMustLieLaw" (180 : Nat) ({ cls := "WitnessesMustLie", name := "put", desc := "(III)I" } : Jvm.MethodName)) ∈ ab_Tg := ab_t4 188 rfl rfl
theorem tw_901 : (Jvm.Cond.instanceMethod ({ cls := "WitnessesMustLie", name := "put", desc := "(III)I" } : Jvm.MethodName)) ∈ ab_Tg := ab_t4 189 rfl rfl
theorem tw_902 : (Jvm.Cond.selects "WitnessesMustLie" ({ cls := "WitnessesMustLie", name := "put", desc := "(III)I" } : Jvm.MethodName) ({ cls := "WitnessesMustLie", name := "put", desc := "(III)I" } : Jvm.MethodName)) ∈ ab_Tg := ab_t4 190 rfl rfl
theorem tw_903 : (Jvm.Cond.code ({ cls := "WitnessesMustLie", name := "put", desc := "(III)I" } : Jvm.MethodName) prog_1_method_40_code (6 : Nat) (Option.some Jvm.ClassFile.FieldType.int)) ∈ ab_Tg := ab_t4 191 rfl rfl
theorem tw_904 : (Jvm.Cond.methodLink "WitnessesMustLie" (349 : Nat) ({ cls := "WitnessesMustLie$Shelf", name := "setNumber", desc := "(II)Z" } : Jvm.MethodName)) ∈ ab_Tg := ab_t4 192 rfl rfl
theorem tw_905 : (Jvm.Cond.instanceMethod ({ cls := "WitnessesMustLie$Shelf", name := "setNumber", desc := "(II)Z" } : Jvm.MethodName)) ∈ ab_Tg := ab_t4 193 rfl rfl
theorem tw_906 : (Jvm.Cond.selects "WitnessesMustLie$Shelf" ({ cls := "WitnessesMustLie$Shelf", name := "setNumber", desc := "(II)Z" } : Jvm.MethodName) ({ cls := "WitnessesMustLie$Shelf", name := "setNumber", desc := "(II)Z" } : Jvm.MethodName)) ∈ ab_Tg := ab_t4 194 rfl rfl
theorem tw_907 : (Jvm.Cond.code ({ cls := "WitnessesMustLie$Shelf", name := "setNumber", desc := "(II)Z" } : Jvm.MethodName) prog_11_method_12_code (3 : Nat) (Option.some Jvm.ClassFile.FieldType.boolean)) ∈ ab_Tg := ab_t4 195 rfl rfl
theorem tw_908 : (Jvm.Cond.methodLink "WitnessesMustLie$Shelf" (50 : Nat) ({ cls := "WitnessesMustLie$Shelf", name := "lowestBits", desc := "(I)I" } : Jvm.MethodName)) ∈ ab_Tg := ab_t4 196 rfl rfl
theorem tw_909 : (Jvm.Cond.instanceMethod ({ cls := "WitnessesMustLie$Shelf", name := "lowestBits", desc := "(I)I" } : Jvm.MethodName)) ∈ ab_Tg := ab_t4 198 rfl rfl
theorem tw_910 : (Jvm.Cond.code ({ cls := "WitnessesMustLie$Shelf", name := "lowestBits", desc := "(I)I" } : Jvm.MethodName) prog_11_method_13_code (2 : Nat) (Option.some Jvm.ClassFile.FieldType.int)) ∈ ab_Tg := ab_t4 199 rfl rfl
theorem tw_911 : (Jvm.Cond.methodLink "WitnessesMustLieLaw" (193 : Nat) ({ cls := "WitnessesMustLie", name := "copy", desc := "(IIIII)I" } : Jvm.MethodName)) ∈ ab_Tg := ab_t4 200 rfl rfl
theorem tw_912 : (Jvm.Cond.instanceMethod ({ cls := "WitnessesMustLie", name := "copy", desc := "(IIIII)I" } : Jvm.MethodName)) ∈ ab_Tg := ab_t4 201 rfl rfl
theorem tw_913 : (Jvm.Cond.selects "WitnessesMustLie" ({ cls := "WitnessesMustLie", name := "copy", desc := "(IIIII)I" } : Jvm.MethodName) ({ cls := "WitnessesMustLie", name := "copy", desc := "(IIIII)I" } : Jvm.MethodName)) ∈ ab_Tg := ab_t4 202 rfl rfl
theorem tw_914 : (Jvm.Cond.code ({ cls := "WitnessesMustLie", name := "copy", desc := "(IIIII)I" } : Jvm.MethodName) prog_1_method_42_code (8 : Nat) (Option.some Jvm.ClassFile.FieldType.int)) ∈ ab_Tg := ab_t4 203 rfl rfl
theorem tw_915 : (Jvm.Cond.methodLink "WitnessesMustLie" (369 : Nat) ({ cls := "WitnessesMustLie$Shelf", name := "isEmpty", desc := "()Z" } : Jvm.MethodName)) ∈ ab_Tg := ab_t4 204 rfl rfl
theorem tw_916 : (Jvm.Cond.methodLink "WitnessesMustLie" (364 : Nat) ({ cls := "WitnessesMustLie$Shelf", name := "hasPlaces", desc := "(II)Z" } : Jvm.MethodName)) ∈ ab_Tg := ab_t4 205 rfl rfl
theorem tw_917 : (Jvm.Cond.methodLink "WitnessesMustLie" (376 : Nat) ({ cls := "java/lang/System", name := "arraycopy", desc := "(Ljava/lang/Object;ILjava/lang/Object;II)V" } : Jvm.MethodName)) ∈ ab_Tg := ab_t4 206 rfl rfl
theorem tw_918 : (Jvm.Cond.methodLink "WitnessesMustLieLaw" (198 : Nat) ({ cls := "WitnessesMustLie", name := "cost", desc := "(I)I" } : Jvm.MethodName)) ∈ ab_Tg := ab_t4 207 rfl rfl
theorem tw_919 : (Jvm.Cond.instanceMethod ({ cls := "WitnessesMustLie", name := "cost", desc := "(I)I" } : Jvm.MethodName)) ∈ ab_Tg := ab_t4 208 rfl rfl
theorem tw_920 : (Jvm.Cond.selects "WitnessesMustLie" ({ cls := "WitnessesMustLie", name := "cost", desc := "(I)I" } : Jvm.MethodName) ({ cls := "WitnessesMustLie", name := "cost", desc := "(I)I" } : Jvm.MethodName)) ∈ ab_Tg := ab_t4 209 rfl rfl
theorem tw_921 : (Jvm.Cond.code ({ cls := "WitnessesMustLie", name := "cost", desc := "(I)I" } : Jvm.MethodName) prog_1_method_43_code (4 : Nat) (Option.some Jvm.ClassFile.FieldType.int)) ∈ ab_Tg := ab_t4 210 rfl rfl
theorem tw_922 : (Jvm.Cond.methodLink "WitnessesMustLie" (382 : Nat) ({ cls := "WitnessesMustLie$Says", name := "price", desc := "(I)I" } : Jvm.MethodName)) ∈ ab_Tg := ab_t4 211 rfl rfl
theorem tw_923 : (Jvm.Cond.instanceMethod ({ cls := "WitnessesMustLie$Says", name := "price", desc := "(I)I" } : Jvm.MethodName)) ∈ ab_Tg := ab_t4 212 rfl rfl
theorem tw_924 : (Jvm.Cond.selects "WitnessesMustLie$Says" ({ cls := "WitnessesMustLie$Says", name := "price", desc := "(I)I" } : Jvm.MethodName) ({ cls := "WitnessesMustLie$Says", name := "price", desc := "(I)I" } : Jvm.MethodName)) ∈ ab_Tg := ab_t4 213 rfl rfl
theorem tw_925 : (Jvm.Cond.sameMethod "WitnessesMustLie$Says" "WitnessesMustLie$Says" "price" "(I)I") ∈ ab_Tg := ab_t4 214 rfl rfl
theorem tw_926 : (Jvm.Cond.selects "WitnessesMustLie$Alike" ({ cls := "WitnessesMustLie$Says", name := "price", desc := "(I)I" } : Jvm.MethodName) ({ cls := "WitnessesMustLie$Alike", name := "price", desc := "(I)I" } : Jvm.MethodName)) ∈ ab_Tg := ab_t4 215 rfl rfl
theorem tw_927 : (Jvm.Cond.instanceMethod ({ cls := "WitnessesMustLie$Alike", name := "price", desc := "(I)I" } : Jvm.MethodName)) ∈ ab_Tg := ab_t4 216 rfl rfl
theorem tw_928 : (Jvm.Cond.code ({ cls := "WitnessesMustLie$Alike", name := "price", desc := "(I)I" } : Jvm.MethodName) prog_2_method_4_code (2 : Nat) (Option.some Jvm.ClassFile.FieldType.int)) ∈ ab_Tg := ab_t4 217 rfl rfl
theorem tw_929 : (Jvm.Cond.methodLink "WitnessesMustLie$Alike" (13 : Nat) ({ cls := "WitnessesMustLie$Both", name := "price", desc := "(I)I" } : Jvm.MethodName)) ∈ ab_Tg := ab_t4 218 rfl rfl
theorem tw_930 : (Jvm.Cond.instanceMethod ({ cls := "WitnessesMustLie$Both", name := "price", desc := "(I)I" } : Jvm.MethodName)) ∈ ab_Tg := ab_t4 219 rfl rfl
theorem tw_931 : (Jvm.Cond.code ({ cls := "WitnessesMustLie$Both", name := "price", desc := "(I)I" } : Jvm.MethodName) prog_3_method_5_code (2 : Nat) (Option.some Jvm.ClassFile.FieldType.int)) ∈ ab_Tg := ab_t4 220 rfl rfl
theorem tw_932 : (Jvm.Cond.methodLink "WitnessesMustLie$Both" (20 : Nat) ({ cls := "WitnessesMustLie$Says", name := "price", desc := "(I)I" } : Jvm.MethodName)) ∈ ab_Tg := ab_t4 221 rfl rfl
theorem tw_933 : (Jvm.Cond.selects "WitnessesMustLie$Both" ({ cls := "WitnessesMustLie$Says", name := "price", desc := "(I)I" } : Jvm.MethodName) ({ cls := "WitnessesMustLie$Both", name := "price", desc := "(I)I" } : Jvm.MethodName)) ∈ ab_Tg := ab_t4 222 rfl rfl
theorem tw_934 : (Jvm.Cond.selects "WitnessesMustLie$Denies" ({ cls := "WitnessesMustLie$Says", name := "price", desc := "(I)I" } : Jvm.MethodName) ({ cls := "WitnessesMustLie$Denies", name := "price", desc := "(I)I" } : Jvm.MethodName)) ∈ ab_Tg := ab_t4 223 rfl rfl
theorem tw_935 : (Jvm.Cond.instanceMethod ({ cls := "WitnessesMustLie$Denies", name := "price", desc := "(I)I" } : Jvm.MethodName)) ∈ ab_Tg := ab_t4 224 rfl rfl
theorem tw_936 : (Jvm.Cond.code ({ cls := "WitnessesMustLie$Denies", name := "price", desc := "(I)I" } : Jvm.MethodName) prog_4_method_4_code (2 : Nat) (Option.some Jvm.ClassFile.FieldType.int)) ∈ ab_Tg := ab_t4 225 rfl rfl
theorem tw_937 : (Jvm.Cond.methodLink "WitnessesMustLie$Denies" (13 : Nat) ({ cls := "WitnessesMustLie$Says", name := "price", desc := "(I)I" } : Jvm.MethodName)) ∈ ab_Tg := ab_t4 226 rfl rfl
theorem tw_938 : (Jvm.Cond.selects "WitnessesMustLie$Either" ({ cls := "WitnessesMustLie$Says", name := "price", desc := "(I)I" } : Jvm.MethodName) ({ cls := "WitnessesMustLie$Either", name := "price", desc := "(I)I" } : Jvm.MethodName)) ∈ ab_Tg := ab_t4 227 rfl rfl
theorem tw_939 : (Jvm.Cond.instanceMethod ({ cls := "WitnessesMustLie$Either", name := "price", desc := "(I)I" } : Jvm.MethodName)) ∈ ab_Tg := ab_t4 228 rfl rfl
theorem tw_940 : (Jvm.Cond.code ({ cls := "WitnessesMustLie$Either", name := "price", desc := "(I)I" } : Jvm.MethodName) prog_5_method_4_code (2 : Nat) (Option.some Jvm.ClassFile.FieldType.int)) ∈ ab_Tg := ab_t4 229 rfl rfl
theorem tw_941 : (Jvm.Cond.methodLink "WitnessesMustLie$Either" (11 : Nat) ({ cls := "WitnessesMustLie$Both", name := "price", desc := "(I)I" } : Jvm.MethodName)) ∈ ab_Tg := ab_t4 230 rfl rfl
theorem tw_942 : (Jvm.Cond.selects "WitnessesMustLie$Expert" ({ cls := "WitnessesMustLie$Says", name := "price", desc := "(I)I" } : Jvm.MethodName) ({ cls := "WitnessesMustLie$Expert", name := "price", desc := "(I)I" } : Jvm.MethodName)) ∈ ab_Tg := ab_t4 231 rfl rfl
theorem tw_943 : (Jvm.Cond.instanceMethod ({ cls := "WitnessesMustLie$Expert", name := "price", desc := "(I)I" } : Jvm.MethodName)) ∈ ab_Tg := ab_t4 232 rfl rfl
theorem tw_944 : (Jvm.Cond.code ({ cls := "WitnessesMustLie$Expert", name := "price", desc := "(I)I" } : Jvm.MethodName) prog_6_method_4_code (2 : Nat) (Option.some Jvm.ClassFile.FieldType.int)) ∈ ab_Tg := ab_t4 233 rfl rfl
theorem tw_945 : (Jvm.Cond.methodLink "WitnessesMustLie$Expert" (11 : Nat) ({ cls := "WitnessesMustLie$Denies", name := "price", desc := "(I)I" } : Jvm.MethodName)) ∈ ab_Tg := ab_t4 234 rfl rfl
theorem tw_946 : (Jvm.Cond.selects "WitnessesMustLie$If" ({ cls := "WitnessesMustLie$Says", name := "price", desc := "(I)I" } : Jvm.MethodName) ({ cls := "WitnessesMustLie$If", name := "price", desc := "(I)I" } : Jvm.MethodName)) ∈ ab_Tg := ab_t4 235 rfl rfl
theorem tw_947 : (Jvm.Cond.instanceMethod ({ cls := "WitnessesMustLie$If", name := "price", desc := "(I)I" } : Jvm.MethodName)) ∈ ab_Tg := ab_t4 236 rfl rfl
theorem tw_948 : (Jvm.Cond.code ({ cls := "WitnessesMustLie$If", name := "price", desc := "(I)I" } : Jvm.MethodName) prog_7_method_4_code (2 : Nat) (Option.some Jvm.ClassFile.FieldType.int)) ∈ ab_Tg := ab_t4 237 rfl rfl
theorem tw_949 : (Jvm.Cond.methodLink "WitnessesMustLie$If" (13 : Nat) ({ cls := "WitnessesMustLie$Either", name := "price", desc := "(I)I" } : Jvm.MethodName)) ∈ ab_Tg := ab_t4 238 rfl rfl
theorem tw_950 : (Jvm.Cond.selects "WitnessesMustLie$Poet" ({ cls := "WitnessesMustLie$Says", name := "price", desc := "(I)I" } : Jvm.MethodName) ({ cls := "WitnessesMustLie$Poet", name := "price", desc := "(I)I" } : Jvm.MethodName)) ∈ ab_Tg := ab_t4 239 rfl rfl
theorem tw_951 : (Jvm.Cond.instanceMethod ({ cls := "WitnessesMustLie$Poet", name := "price", desc := "(I)I" } : Jvm.MethodName)) ∈ ab_Tg := ab_t5 0 rfl rfl
theorem tw_952 : (Jvm.Cond.code ({ cls := "WitnessesMustLie$Poet", name := "price", desc := "(I)I" } : Jvm.MethodName) prog_8_method_5_code (2 : Nat) (Option.some Jvm.ClassFile.FieldType.int)) ∈ ab_Tg := ab_t5 1 rfl rfl
theorem tw_953 : (Jvm.Cond.methodLink "WitnessesMustLie$Poet" (20 : Nat) ({ cls := "WitnessesMustLie$Either", name := "price", desc := "(I)I" } : Jvm.MethodName)) ∈ ab_Tg := ab_t5 2 rfl rfl
theorem tw_954 : (Jvm.Cond.code ({ cls := "WitnessesMustLie$Says", name := "price", desc := "(I)I" } : Jvm.MethodName) prog_10_method_6_code (2 : Nat) (Option.some Jvm.ClassFile.FieldType.int)) ∈ ab_Tg := ab_t5 3 rfl rfl
theorem tw_955 : (Jvm.Cond.methodLink "WitnessesMustLieLaw" (202 : Nat) ({ cls := "WitnessesMustLie", name := "toss", desc := "(I)I" } : Jvm.MethodName)) ∈ ab_Tg := ab_t5 4 rfl rfl
theorem tw_956 : (Jvm.Cond.instanceMethod ({ cls := "WitnessesMustLie", name := "toss", desc := "(I)I" } : Jvm.MethodName)) ∈ ab_Tg := ab_t5 5 rfl rfl
theorem tw_957 : (Jvm.Cond.selects "WitnessesMustLie" ({ cls := "WitnessesMustLie", name := "toss", desc := "(I)I" } : Jvm.MethodName) ({ cls := "WitnessesMustLie", name := "toss", desc := "(I)I" } : Jvm.MethodName)) ∈ ab_Tg := ab_t5 6 rfl rfl
theorem tw_958 : (Jvm.Cond.classLink "WitnessesMustLie" (359 : Nat) "java/lang/IllegalStateException") ∈ ab_Tg := ab_t5 8 rfl rfl
theorem tw_959 : (Jvm.Cond.methodLink "WitnessesMustLie" (385 : Nat) ({ cls := "WitnessesMustLie$Says", name := "fail", desc := "(I)V" } : Jvm.MethodName)) ∈ ab_Tg := ab_t5 9 rfl rfl
theorem tw_960 : (Jvm.Cond.instanceMethod ({ cls := "WitnessesMustLie$Says", name := "fail", desc := "(I)V" } : Jvm.MethodName)) ∈ ab_Tg := ab_t5 10 rfl rfl
theorem tw_961 : (Jvm.Cond.selects "WitnessesMustLie$Says" ({ cls := "WitnessesMustLie$Says", name := "fail", desc := "(I)V" } : Jvm.MethodName) ({ cls := "WitnessesMustLie$Says", name := "fail", desc := "(I)V" } : Jvm.MethodName)) ∈ ab_Tg := ab_t5 11 rfl rfl
theorem tw_962 : (Jvm.Cond.sameMethod "WitnessesMustLie$Says" "WitnessesMustLie$Says" "fail" "(I)V") ∈ ab_Tg := ab_t5 12 rfl rfl
theorem tw_963 : (Jvm.Cond.selects "WitnessesMustLie$Alike" ({ cls := "WitnessesMustLie$Says", name := "fail", desc := "(I)V" } : Jvm.MethodName) ({ cls := "WitnessesMustLie$Says", name := "fail", desc := "(I)V" } : Jvm.MethodName)) ∈ ab_Tg := ab_t5 13 rfl rfl
theorem tw_964 : (Jvm.Cond.selects "WitnessesMustLie$Both" ({ cls := "WitnessesMustLie$Says", name := "fail", desc := "(I)V" } : Jvm.MethodName) ({ cls := "WitnessesMustLie$Says", name := "fail", desc := "(I)V" } : Jvm.MethodName)) ∈ ab_Tg := ab_t5 14 rfl rfl
theorem tw_965 : (Jvm.Cond.selects "WitnessesMustLie$Denies" ({ cls := "WitnessesMustLie$Says", name := "fail", desc := "(I)V" } : Jvm.MethodName) ({ cls := "WitnessesMustLie$Says", name := "fail", desc := "(I)V" } : Jvm.MethodName)) ∈ ab_Tg := ab_t5 15 rfl rfl
theorem tw_966 : (Jvm.Cond.selects "WitnessesMustLie$Either" ({ cls := "WitnessesMustLie$Says", name := "fail", desc := "(I)V" } : Jvm.MethodName) ({ cls := "WitnessesMustLie$Says", name := "fail", desc := "(I)V" } : Jvm.MethodName)) ∈ ab_Tg := ab_t5 16 rfl rfl
theorem tw_967 : (Jvm.Cond.selects "WitnessesMustLie$Expert" ({ cls := "WitnessesMustLie$Says", name := "fail", desc := "(I)V" } : Jvm.MethodName) ({ cls := "WitnessesMustLie$Expert", name := "fail", desc := "(I)V" } : Jvm.MethodName)) ∈ ab_Tg := ab_t5 17 rfl rfl
theorem tw_968 : (Jvm.Cond.instanceMethod ({ cls := "WitnessesMustLie$Expert", name := "fail", desc := "(I)V" } : Jvm.MethodName)) ∈ ab_Tg := ab_t5 18 rfl rfl
theorem tw_969 : (Jvm.Cond.code ({ cls := "WitnessesMustLie$Expert", name := "fail", desc := "(I)V" } : Jvm.MethodName) prog_6_method_5_code (2 : Nat) (Option.none : Option Jvm.ClassFile.FieldType)) ∈ ab_Tg := ab_t5 19 rfl rfl
theorem tw_970 : (Jvm.Cond.selects "WitnessesMustLie$If" ({ cls := "WitnessesMustLie$Says", name := "fail", desc := "(I)V" } : Jvm.MethodName) ({ cls := "WitnessesMustLie$Says", name := "fail", desc := "(I)V" } : Jvm.MethodName)) ∈ ab_Tg := ab_t5 20 rfl rfl
theorem tw_971 : (Jvm.Cond.selects "WitnessesMustLie$Poet" ({ cls := "WitnessesMustLie$Says", name := "fail", desc := "(I)V" } : Jvm.MethodName) ({ cls := "WitnessesMustLie$Says", name := "fail", desc := "(I)V" } : Jvm.MethodName)) ∈ ab_Tg := ab_t5 21 rfl rfl
theorem tw_972 : (Jvm.Cond.code ({ cls := "WitnessesMustLie$Says", name := "fail", desc := "(I)V" } : Jvm.MethodName) prog_10_method_7_code (2 : Nat) (Option.none : Option Jvm.ClassFile.FieldType)) ∈ ab_Tg := ab_t5 22 rfl rfl
theorem tw_973 : (Jvm.Cond.classLink "WitnessesMustLie$Says" (27 : Nat) "java/lang/IllegalStateException") ∈ ab_Tg := ab_t5 23 rfl rfl
theorem tw_974 : (Jvm.Cond.instantiable "java/lang/IllegalStateException" (6 : Nat)) ∈ ab_Tg := ab_t5 24 rfl rfl
theorem tw_975 : (Jvm.Cond.castable "java/lang/IllegalStateException" "java/lang/IllegalStateException") ∈ ab_Tn := ab_n5 25 rfl rfl
theorem tw_976 : (Jvm.Cond.selects "java/lang/IllegalStateException" ({ cls := "java/lang/Throwable", name := "fillInStackTrace", desc := "(I)Ljava/lang/Throwable;" } : Jvm.MethodName) ({ cls := "java/lang/Throwable", name := "fillInStackTrace", desc := "(I)Ljava/lang/Throwable;" } : Jvm.MethodName)) ∈ ab_Tg := ab_t5 32 rfl rfl
theorem tw_977 : (Jvm.Cond.selects "java/lang/IllegalStateException" ({ cls := "java/lang/Throwable", name := "fillInStackTrace", desc := "()Ljava/lang/Throwable;" } : Jvm.MethodName) ({ cls := "java/lang/Throwable", name := "fillInStackTrace", desc := "()Ljava/lang/Throwable;" } : Jvm.MethodName)) ∈ ab_Tg := ab_t5 33 rfl rfl
theorem tw_978 : (Jvm.Cond.lays "java/lang/IllegalStateException" "java/lang/Throwable" "cause" "Ljava/lang/Throwable;") ∈ ab_Tg := ab_t5 34 rfl rfl
theorem tw_979 : (Jvm.Cond.lays "java/lang/Throwable" "java/lang/Throwable" "cause" "Ljava/lang/Throwable;") ∈ ab_Tg := ab_t5 35 rfl rfl
theorem tw_980 : (Jvm.Cond.lays "java/lang/IllegalStateException" "java/lang/Throwable" "stackTrace" "[Ljava/lang/StackTraceElement;") ∈ ab_Tg := ab_t5 36 rfl rfl
theorem tw_981 : (Jvm.Cond.lays "java/lang/Throwable" "java/lang/Throwable" "stackTrace" "[Ljava/lang/StackTraceElement;") ∈ ab_Tg := ab_t5 37 rfl rfl
theorem tw_982 : (Jvm.Cond.lays "java/lang/IllegalStateException" "java/lang/Throwable" "suppressedExceptions" "Ljava/util/List;") ∈ ab_Tg := ab_t5 38 rfl rfl
theorem tw_983 : (Jvm.Cond.lays "java/lang/Throwable" "java/lang/Throwable" "suppressedExceptions" "Ljava/util/List;") ∈ ab_Tg := ab_t5 39 rfl rfl
theorem tw_984 : (Jvm.Cond.lays "java/lang/IllegalStateException" "java/lang/Throwable" "detailMessage" "Ljava/lang/String;") ∈ ab_Tg := ab_t5 40 rfl rfl
theorem tw_985 : (Jvm.Cond.lays "java/lang/Throwable" "java/lang/Throwable" "detailMessage" "Ljava/lang/String;") ∈ ab_Tg := ab_t5 41 rfl rfl
theorem tw_986 : (Jvm.Cond.lays "java/lang/IllegalStateException" "java/lang/Throwable" "backtrace" "Ljava/lang/Object;") ∈ ab_Tg := ab_t5 42 rfl rfl
theorem tw_987 : (Jvm.Cond.lays "java/lang/Throwable" "java/lang/Throwable" "backtrace" "Ljava/lang/Object;") ∈ ab_Tg := ab_t5 43 rfl rfl
theorem tw_988 : (Jvm.Cond.fieldLink "java/lang/Throwable" (198 : Nat) "java/lang/Throwable" "backtrace" "Ljava/lang/Object;") ∈ ab_Tg := ab_t5 44 rfl rfl
theorem tw_989 : (Jvm.Cond.superclass "java/lang/Throwable" "java/lang/Object") ∈ ab_Tg := ab_t5 45 rfl rfl
theorem tw_990 : (Jvm.Cond.instanceMethod ({ cls := "java/lang/Throwable", name := "<init>", desc := "()V" } : Jvm.MethodName)) ∈ ab_Tg := ab_t5 46 rfl rfl
theorem tw_991 : (Jvm.Cond.code ({ cls := "java/lang/Throwable", name := "<init>", desc := "()V" } : Jvm.MethodName) prog_27_method_1_code (1 : Nat) (Option.none : Option Jvm.ClassFile.FieldType)) ∈ ab_Tg := ab_t5 47 rfl rfl
theorem tw_992 : (Jvm.Cond.methodLink "java/lang/Throwable" (1 : Nat) ({ cls := "java/lang/Object", name := "<init>", desc := "()V" } : Jvm.MethodName)) ∈ ab_Tg := ab_t5 48 rfl rfl
theorem tw_993 : (Jvm.Cond.fieldLink "java/lang/Throwable" (13 : Nat) "java/lang/Throwable" "UNASSIGNED_STACK" "[Ljava/lang/StackTraceElement;") ∈ ab_Tg := ab_t5 49 rfl rfl
theorem tw_994 : (Jvm.Cond.fieldLink "java/lang/Throwable" (20 : Nat) "java/lang/Throwable" "SUPPRESSED_SENTINEL" "Ljava/util/List;") ∈ ab_Tg := ab_t5 51 rfl rfl
theorem tw_995 : (Jvm.Cond.methodLink "java/lang/Throwable" (27 : Nat) ({ cls := "java/lang/Throwable", name := "fillInStackTrace", desc := "()Ljava/lang/Throwable;" } : Jvm.MethodName)) ∈ ab_Tg := ab_t5 53 rfl rfl
theorem tw_996 : (Jvm.Cond.instanceMethod ({ cls := "java/lang/Throwable", name := "fillInStackTrace", desc := "()Ljava/lang/Throwable;" } : Jvm.MethodName)) ∈ ab_Tg := ab_t5 54 rfl rfl
theorem tw_997 : (Jvm.Cond.sameMethod "java/lang/Throwable" "java/lang/Throwable" "fillInStackTrace" "()Ljava/lang/Throwable;") ∈ ab_Tg := ab_t5 55 rfl rfl
theorem tw_998 : (Jvm.Cond.selects "java/lang/IllegalArgumentException" ({ cls := "java/lang/Throwable", name := "fillInStackTrace", desc := "()Ljava/lang/Throwable;" } : Jvm.MethodName) ({ cls := "java/lang/Throwable", name := "fillInStackTrace", desc := "()Ljava/lang/Throwable;" } : Jvm.MethodName)) ∈ ab_Tg := ab_t5 56 rfl rfl
theorem tw_999 : (Jvm.Cond.methodLink "java/lang/Throwable" (202 : Nat) ({ cls := "java/lang/Throwable", name := "fillInStackTrace", desc := "(I)Ljava/lang/Throwable;" } : Jvm.MethodName)) ∈ ab_Tg := ab_t5 58 rfl rfl
theorem tw_1000 : (Jvm.Cond.instanceMethod ({ cls := "java/lang/Throwable", name := "fillInStackTrace", desc := "(I)Ljava/lang/Throwable;" } : Jvm.MethodName)) ∈ ab_Tg := ab_t5 60 rfl rfl
theorem tw_1001 : (Jvm.Cond.instantiable "java/lang/Throwable" (6 : Nat)) ∈ ab_Tg := ab_t5 61 rfl rfl
theorem tw_1002 : (Jvm.Cond.methodLink "WitnessesMustLie$Says" (31 : Nat) ({ cls := "java/lang/IllegalStateException", name := "<init>", desc := "(Ljava/lang/String;)V" } : Jvm.MethodName)) ∈ ab_Tg := ab_t5 64 rfl rfl
theorem tw_1003 : (Jvm.Cond.instanceMethod ({ cls := "java/lang/IllegalStateException", name := "<init>", desc := "(Ljava/lang/String;)V" } : Jvm.MethodName)) ∈ ab_Tg := ab_t5 65 rfl rfl
theorem tw_1004 : (Jvm.Cond.code ({ cls := "java/lang/IllegalStateException", name := "<init>", desc := "(Ljava/lang/String;)V" } : Jvm.MethodName) prog_19_method_2_code (2 : Nat) (Option.none : Option Jvm.ClassFile.FieldType)) ∈ ab_Tg := ab_t5 66 rfl rfl
theorem tw_1005 : (Jvm.Cond.methodLink "java/lang/IllegalStateException" (7 : Nat) ({ cls := "java/lang/RuntimeException", name := "<init>", desc := "(Ljava/lang/String;)V" } : Jvm.MethodName)) ∈ ab_Tg := ab_t5 67 rfl rfl
theorem tw_1006 : (Jvm.Cond.instanceMethod ({ cls := "java/lang/RuntimeException", name := "<init>", desc := "(Ljava/lang/String;)V" } : Jvm.MethodName)) ∈ ab_Tg := ab_t5 68 rfl rfl
theorem tw_1007 : (Jvm.Cond.code ({ cls := "java/lang/RuntimeException", name := "<init>", desc := "(Ljava/lang/String;)V" } : Jvm.MethodName) prog_24_method_2_code (2 : Nat) (Option.none : Option Jvm.ClassFile.FieldType)) ∈ ab_Tg := ab_t5 69 rfl rfl
theorem tw_1008 : (Jvm.Cond.methodLink "java/lang/RuntimeException" (7 : Nat) ({ cls := "java/lang/Exception", name := "<init>", desc := "(Ljava/lang/String;)V" } : Jvm.MethodName)) ∈ ab_Tg := ab_t5 70 rfl rfl
theorem tw_1009 : (Jvm.Cond.instanceMethod ({ cls := "java/lang/Exception", name := "<init>", desc := "(Ljava/lang/String;)V" } : Jvm.MethodName)) ∈ ab_Tg := ab_t5 71 rfl rfl
theorem tw_1010 : (Jvm.Cond.code ({ cls := "java/lang/Exception", name := "<init>", desc := "(Ljava/lang/String;)V" } : Jvm.MethodName) prog_17_method_2_code (2 : Nat) (Option.none : Option Jvm.ClassFile.FieldType)) ∈ ab_Tg := ab_t5 72 rfl rfl
theorem tw_1011 : (Jvm.Cond.methodLink "java/lang/Exception" (7 : Nat) ({ cls := "java/lang/Throwable", name := "<init>", desc := "(Ljava/lang/String;)V" } : Jvm.MethodName)) ∈ ab_Tg := ab_t5 73 rfl rfl
theorem tw_1012 : (Jvm.Cond.instanceMethod ({ cls := "java/lang/Throwable", name := "<init>", desc := "(Ljava/lang/String;)V" } : Jvm.MethodName)) ∈ ab_Tg := ab_t5 74 rfl rfl
theorem tw_1013 : (Jvm.Cond.code ({ cls := "java/lang/Throwable", name := "<init>", desc := "(Ljava/lang/String;)V" } : Jvm.MethodName) prog_27_method_2_code (2 : Nat) (Option.none : Option Jvm.ClassFile.FieldType)) ∈ ab_Tg := ab_t5 75 rfl rfl
theorem tw_1014 : (Jvm.Cond.fieldLink "java/lang/Throwable" (31 : Nat) "java/lang/Throwable" "detailMessage" "Ljava/lang/String;") ∈ ab_Tg := ab_t5 77 rfl rfl
theorem tw_1015 : (Jvm.Cond.fieldLink "java/lang/Throwable" (7 : Nat) "java/lang/Throwable" "cause" "Ljava/lang/Throwable;") ∈ ab_Tg := ab_t5 78 rfl rfl
theorem tw_1016 : (Jvm.Cond.fieldLink "java/lang/Throwable" (17 : Nat) "java/lang/Throwable" "stackTrace" "[Ljava/lang/StackTraceElement;") ∈ ab_Tg := ab_t5 79 rfl rfl
theorem tw_1017 : (Jvm.Cond.fieldLink "java/lang/Throwable" (24 : Nat) "java/lang/Throwable" "suppressedExceptions" "Ljava/util/List;") ∈ ab_Tg := ab_t5 80 rfl rfl
theorem tw_1018 : (Jvm.Cond.lays "java/lang/IllegalStateException" "java/lang/Throwable" "depth" "I") ∈ ab_Tg := ab_t5 85 rfl rfl
theorem tw_1019 : (Jvm.Cond.superclass "java/lang/IllegalStateException" "java/lang/RuntimeException") ∈ ab_Tg := ab_t5 88 rfl rfl
theorem tw_1020 : (Jvm.Cond.arrayClass Jvm.ClassFile.FieldType.byte) ∈ ab_Tg := ab_t5 89 rfl rfl
theorem tw_1021 : (Jvm.Cond.methodLink "WitnessesMustLie" (388 : Nat) ({ cls := "WitnessesMustLie$Says", name := "failure", desc := "(I)I" } : Jvm.MethodName)) ∈ ab_Tg := ab_t5 90 rfl rfl
theorem tw_1022 : (Jvm.Cond.instanceMethod ({ cls := "WitnessesMustLie$Says", name := "failure", desc := "(I)I" } : Jvm.MethodName)) ∈ ab_Tg := ab_t5 91 rfl rfl
theorem tw_1023 : (Jvm.Cond.selects "WitnessesMustLie$Says" ({ cls := "WitnessesMustLie$Says", name := "failure", desc := "(I)I" } : Jvm.MethodName) ({ cls := "WitnessesMustLie$Says", name := "failure", desc := "(I)I" } : Jvm.MethodName)) ∈ ab_Tg := ab_t5 92 rfl rfl
theorem tw_1024 : (Jvm.Cond.sameMethod "WitnessesMustLie$Says" "WitnessesMustLie$Says" "failure" "(I)I") ∈ ab_Tg := ab_t5 93 rfl rfl
theorem tw_1025 : (Jvm.Cond.selects "WitnessesMustLie$Alike" ({ cls := "WitnessesMustLie$Says", name := "failure", desc := "(I)I" } : Jvm.MethodName) ({ cls := "WitnessesMustLie$Both", name := "failure", desc := "(I)I" } : Jvm.MethodName)) ∈ ab_Tg := ab_t5 94 rfl rfl
theorem tw_1026 : (Jvm.Cond.instanceMethod ({ cls := "WitnessesMustLie$Both", name := "failure", desc := "(I)I" } : Jvm.MethodName)) ∈ ab_Tg := ab_t5 95 rfl rfl
theorem tw_1027 : (Jvm.Cond.code ({ cls := "WitnessesMustLie$Both", name := "failure", desc := "(I)I" } : Jvm.MethodName) prog_3_method_6_code (2 : Nat) (Option.some Jvm.ClassFile.FieldType.int)) ∈ ab_Tg := ab_t5 96 rfl rfl
theorem tw_1028 : (Jvm.Cond.methodLink "WitnessesMustLie$Both" (23 : Nat) ({ cls := "WitnessesMustLie$Says", name := "failure", desc := "(I)I" } : Jvm.MethodName)) ∈ ab_Tg := ab_t5 97 rfl rfl
theorem tw_1029 : (Jvm.Cond.selects "WitnessesMustLie$Both" ({ cls := "WitnessesMustLie$Says", name := "failure", desc := "(I)I" } : Jvm.MethodName) ({ cls := "WitnessesMustLie$Both", name := "failure", desc := "(I)I" } : Jvm.MethodName)) ∈ ab_Tg := ab_t5 98 rfl rfl
theorem tw_1030 : (Jvm.Cond.selects "WitnessesMustLie$Denies" ({ cls := "WitnessesMustLie$Says", name := "failure", desc := "(I)I" } : Jvm.MethodName) ({ cls := "WitnessesMustLie$Says", name := "failure", desc := "(I)I" } : Jvm.MethodName)) ∈ ab_Tg := ab_t5 99 rfl rfl
theorem tw_1031 : (Jvm.Cond.selects "WitnessesMustLie$Either" ({ cls := "WitnessesMustLie$Says", name := "failure", desc := "(I)I" } : Jvm.MethodName) ({ cls := "WitnessesMustLie$Both", name := "failure", desc := "(I)I" } : Jvm.MethodName)) ∈ ab_Tg := ab_t5 100 rfl rfl
theorem tw_1032 : (Jvm.Cond.selects "WitnessesMustLie$Expert" ({ cls := "WitnessesMustLie$Says", name := "failure", desc := "(I)I" } : Jvm.MethodName) ({ cls := "WitnessesMustLie$Says", name := "failure", desc := "(I)I" } : Jvm.MethodName)) ∈ ab_Tg := ab_t5 101 rfl rfl
theorem tw_1033 : (Jvm.Cond.selects "WitnessesMustLie$If" ({ cls := "WitnessesMustLie$Says", name := "failure", desc := "(I)I" } : Jvm.MethodName) ({ cls := "WitnessesMustLie$Both", name := "failure", desc := "(I)I" } : Jvm.MethodName)) ∈ ab_Tg := ab_t5 102 rfl rfl
theorem tw_1034 : (Jvm.Cond.selects "WitnessesMustLie$Poet" ({ cls := "WitnessesMustLie$Says", name := "failure", desc := "(I)I" } : Jvm.MethodName) ({ cls := "WitnessesMustLie$Poet", name := "failure", desc := "(I)I" } : Jvm.MethodName)) ∈ ab_Tg := ab_t5 103 rfl rfl
theorem tw_1035 : (Jvm.Cond.instanceMethod ({ cls := "WitnessesMustLie$Poet", name := "failure", desc := "(I)I" } : Jvm.MethodName)) ∈ ab_Tg := ab_t5 104 rfl rfl
theorem tw_1036 : (Jvm.Cond.code ({ cls := "WitnessesMustLie$Poet", name := "failure", desc := "(I)I" } : Jvm.MethodName) prog_8_method_6_code (2 : Nat) (Option.some Jvm.ClassFile.FieldType.int)) ∈ ab_Tg := ab_t5 105 rfl rfl
theorem tw_1037 : (Jvm.Cond.methodLink "WitnessesMustLie$Poet" (23 : Nat) ({ cls := "WitnessesMustLie$Poet", name := "price", desc := "(I)I" } : Jvm.MethodName)) ∈ ab_Tg := ab_t5 106 rfl rfl
theorem tw_1038 : (Jvm.Cond.code ({ cls := "WitnessesMustLie$Says", name := "failure", desc := "(I)I" } : Jvm.MethodName) prog_10_method_8_code (2 : Nat) (Option.some Jvm.ClassFile.FieldType.int)) ∈ ab_Tg := ab_t5 107 rfl rfl
theorem tw_1039 : (Jvm.Cond.methodLink "WitnessesMustLieLaw" (184 : Nat) ({ cls := "WitnessesMustLieLaw", name := "element", desc := "(LWitnessesMustLie;II[J)I" } : Jvm.MethodName)) ∈ ab_Tg := ab_t5 108 rfl rfl
theorem tw_1040 : (Jvm.Cond.static ({ cls := "WitnessesMustLieLaw", name := "element", desc := "(LWitnessesMustLie;II[J)I" } : Jvm.MethodName)) ∈ ab_Tg := ab_t5 109 rfl rfl
theorem tw_1041 : (Jvm.Cond.classLink "WitnessesMustLieLaw" (13 : Nat) "java/lang/IllegalArgumentException") ∈ ab_Tg := ab_t5 111 rfl rfl
theorem tw_1042 : (Jvm.Cond.classLink "WitnessesMustLieLaw" (15 : Nat) "java/lang/IllegalStateException") ∈ ab_Tg := ab_t5 112 rfl rfl
theorem tw_1043 : (Jvm.Cond.methodLink "WitnessesMustLieLaw" (7 : Nat) ({ cls := "WitnessesMustLie", name := "element", desc := "(II)J" } : Jvm.MethodName)) ∈ ab_Tg := ab_t5 113 rfl rfl
theorem tw_1044 : (Jvm.Cond.instanceMethod ({ cls := "WitnessesMustLie", name := "element", desc := "(II)J" } : Jvm.MethodName)) ∈ ab_Tg := ab_t5 114 rfl rfl
theorem tw_1045 : (Jvm.Cond.selects "WitnessesMustLie" ({ cls := "WitnessesMustLie", name := "element", desc := "(II)J" } : Jvm.MethodName) ({ cls := "WitnessesMustLie", name := "element", desc := "(II)J" } : Jvm.MethodName)) ∈ ab_Tg := ab_t5 115 rfl rfl
theorem tw_1046 : (Jvm.Cond.code ({ cls := "WitnessesMustLie", name := "element", desc := "(II)J" } : Jvm.MethodName) prog_1_method_41_code (4 : Nat) (Option.some Jvm.ClassFile.FieldType.long)) ∈ ab_Tg := ab_t5 116 rfl rfl
theorem tw_1047 : (Jvm.Cond.classLink "WitnessesMustLie" (352 : Nat) "java/lang/IllegalArgumentException") ∈ ab_Tg := ab_t5 117 rfl rfl
theorem tw_1048 : (Jvm.Cond.instantiable "java/lang/IllegalArgumentException" (6 : Nat)) ∈ ab_Tg := ab_t5 118 rfl rfl
theorem tw_1049 : (Jvm.Cond.castable "java/lang/IllegalArgumentException" "java/lang/IllegalArgumentException") ∈ ab_Tn := ab_n5 119 rfl rfl
theorem tw_1050 : (Jvm.Cond.selects "java/lang/IllegalArgumentException" ({ cls := "java/lang/Throwable", name := "fillInStackTrace", desc := "(I)Ljava/lang/Throwable;" } : Jvm.MethodName) ({ cls := "java/lang/Throwable", name := "fillInStackTrace", desc := "(I)Ljava/lang/Throwable;" } : Jvm.MethodName)) ∈ ab_Tg := ab_t5 120 rfl rfl
theorem tw_1051 : (Jvm.Cond.lays "java/lang/IllegalArgumentException" "java/lang/Throwable" "cause" "Ljava/lang/Throwable;") ∈ ab_Tg := ab_t5 121 rfl rfl
theorem tw_1052 : (Jvm.Cond.lays "java/lang/IllegalArgumentException" "java/lang/Throwable" "stackTrace" "[Ljava/lang/StackTraceElement;") ∈ ab_Tg := ab_t5 122 rfl rfl
theorem tw_1053 : (Jvm.Cond.lays "java/lang/IllegalArgumentException" "java/lang/Throwable" "suppressedExceptions" "Ljava/util/List;") ∈ ab_Tg := ab_t5 123 rfl rfl
theorem tw_1054 : (Jvm.Cond.lays "java/lang/IllegalArgumentException" "java/lang/Throwable" "detailMessage" "Ljava/lang/String;") ∈ ab_Tg := ab_t5 124 rfl rfl
theorem tw_1055 : (Jvm.Cond.lays "java/lang/IllegalArgumentException" "java/lang/Throwable" "backtrace" "Ljava/lang/Object;") ∈ ab_Tg := ab_t5 125 rfl rfl
theorem tw_1056 : (Jvm.Cond.methodLink "WitnessesMustLie" (356 : Nat) ({ cls := "java/lang/IllegalArgumentException", name := "<init>", desc := "(Ljava/lang/String;)V" } : Jvm.MethodName)) ∈ ab_Tg := ab_t5 127 rfl rfl
theorem tw_1057 : (Jvm.Cond.instanceMethod ({ cls := "java/lang/IllegalArgumentException", name := "<init>", desc := "(Ljava/lang/String;)V" } : Jvm.MethodName)) ∈ ab_Tg := ab_t5 128 rfl rfl
theorem tw_1058 : (Jvm.Cond.code ({ cls := "java/lang/IllegalArgumentException", name := "<init>", desc := "(Ljava/lang/String;)V" } : Jvm.MethodName) prog_18_method_2_code (2 : Nat) (Option.none : Option Jvm.ClassFile.FieldType)) ∈ ab_Tg := ab_t5 129 rfl rfl
theorem tw_1059 : (Jvm.Cond.methodLink "java/lang/IllegalArgumentException" (7 : Nat) ({ cls := "java/lang/RuntimeException", name := "<init>", desc := "(Ljava/lang/String;)V" } : Jvm.MethodName)) ∈ ab_Tg := ab_t5 130 rfl rfl
theorem tw_1060 : (Jvm.Cond.lays "java/lang/IllegalArgumentException" "java/lang/Throwable" "depth" "I") ∈ ab_Tg := ab_t5 131 rfl rfl
theorem tw_1061 : (Jvm.Cond.superclass "java/lang/IllegalArgumentException" "java/lang/RuntimeException") ∈ ab_Tg := ab_t5 132 rfl rfl
theorem tw_1062 : (Jvm.Cond.methodLink "WitnessesMustLie" (363 : Nat) ({ cls := "java/lang/IllegalStateException", name := "<init>", desc := "(Ljava/lang/String;)V" } : Jvm.MethodName)) ∈ ab_Tg := ab_t5 134 rfl rfl
theorem tw_1063 : (Jvm.Cond.classLink "WitnessesMustLieLaw" (18 : Nat) "WitnessesMustLieModel") ∈ ab_Tg := ab_t5 136 rfl rfl
theorem tw_1064 : (Jvm.Cond.instantiable "WitnessesMustLieModel" (22 : Nat)) ∈ ab_Tg := ab_t5 137 rfl rfl
theorem tw_1065 : (Jvm.Cond.methodLink "WitnessesMustLieLaw" (20 : Nat) ({ cls := "WitnessesMustLieModel", name := "<init>", desc := "()V" } : Jvm.MethodName)) ∈ ab_Tg := ab_t5 138 rfl rfl
theorem tw_1066 : (Jvm.Cond.instanceMethod ({ cls := "WitnessesMustLieModel", name := "<init>", desc := "()V" } : Jvm.MethodName)) ∈ ab_Tg := ab_t5 139 rfl rfl
theorem tw_1067 : (Jvm.Cond.code ({ cls := "WitnessesMustLieModel", name := "<init>", desc := "()V" } : Jvm.MethodName) prog_14_method_1_code (1 : Nat) (Option.none : Option Jvm.ClassFile.FieldType)) ∈ ab_Tg := ab_t5 140 rfl rfl
theorem tw_1068 : (Jvm.Cond.methodLink "WitnessesMustLieModel" (1 : Nat) ({ cls := "java/lang/Object", name := "<init>", desc := "()V" } : Jvm.MethodName)) ∈ ab_Tg := ab_t5 141 rfl rfl
theorem tw_1069 : (Jvm.Cond.fieldLink "WitnessesMustLieModel" (61 : Nat) "WitnessesMustLieModel" "truth" "I") ∈ ab_Tg := ab_t5 142 rfl rfl
theorem tw_1070 : (Jvm.Cond.fieldLink "WitnessesMustLieModel" (94 : Nat) "WitnessesMustLieModel" "laws" "I") ∈ ab_Tg := ab_t5 143 rfl rfl
theorem tw_1071 : (Jvm.Cond.fieldLink "WitnessesMustLieModel" (7 : Nat) "WitnessesMustLieModel" "law" "[I") ∈ ab_Tg := ab_t5 144 rfl rfl
theorem tw_1072 : (Jvm.Cond.fieldLink "WitnessesMustLieModel" (47 : Nat) "WitnessesMustLieModel" "witnesses" "I") ∈ ab_Tg := ab_t5 145 rfl rfl
theorem tw_1073 : (Jvm.Cond.fieldLink "WitnessesMustLieModel" (13 : Nat) "WitnessesMustLieModel" "knows" "[I") ∈ ab_Tg := ab_t5 146 rfl rfl
theorem tw_1074 : (Jvm.Cond.fieldLink "WitnessesMustLieModel" (51 : Nat) "WitnessesMustLieModel" "said" "I") ∈ ab_Tg := ab_t5 147 rfl rfl
theorem tw_1075 : (Jvm.Cond.fieldLink "WitnessesMustLieModel" (16 : Nat) "WitnessesMustLieModel" "saying" "[I") ∈ ab_Tg := ab_t5 148 rfl rfl
theorem tw_1076 : (Jvm.Cond.fieldLink "WitnessesMustLieModel" (19 : Nat) "WitnessesMustLieModel" "by" "[I") ∈ ab_Tg := ab_t5 149 rfl rfl
theorem tw_1077 : (Jvm.Cond.fieldLink "WitnessesMustLieModel" (22 : Nat) "WitnessesMustLieModel" "holds" "[I") ∈ ab_Tg := ab_t5 150 rfl rfl
theorem tw_1078 : (Jvm.Cond.fieldLink "WitnessesMustLieModel" (25 : Nat) "WitnessesMustLieModel" "first" "[I") ∈ ab_Tg := ab_t5 151 rfl rfl
theorem tw_1079 : (Jvm.Cond.fieldLink "WitnessesMustLieModel" (28 : Nat) "WitnessesMustLieModel" "second" "[I") ∈ ab_Tg := ab_t5 152 rfl rfl
theorem tw_1080 : (Jvm.Cond.fieldLink "WitnessesMustLieModel" (31 : Nat) "WitnessesMustLieModel" "cells" "[I") ∈ ab_Tg := ab_t5 153 rfl rfl
theorem tw_1081 : (Jvm.Cond.fieldLink "WitnessesMustLieModel" (74 : Nat) "WitnessesMustLieModel" "text" "I") ∈ ab_Tg := ab_t5 154 rfl rfl
theorem tw_1082 : (Jvm.Cond.fieldLink "WitnessesMustLieModel" (71 : Nat) "WitnessesMustLieModel" "at" "I") ∈ ab_Tg := ab_t5 155 rfl rfl
theorem tw_1083 : (Jvm.Cond.fieldLink "WitnessesMustLieModel" (34 : Nat) "WitnessesMustLieModel" "value" "[I") ∈ ab_Tg := ab_t5 156 rfl rfl
theorem tw_1084 : (Jvm.Cond.fieldLink "WitnessesMustLieModel" (236 : Nat) "WitnessesMustLieModel" "imaged" "Z") ∈ ab_Tg := ab_t5 157 rfl rfl
theorem tw_1085 : (Jvm.Cond.fieldLink "WitnessesMustLieModel" (37 : Nat) "WitnessesMustLieModel" "old" "[I") ∈ ab_Tg := ab_t5 158 rfl rfl
theorem tw_1086 : (Jvm.Cond.fieldLink "WitnessesMustLieModel" (40 : Nat) "WitnessesMustLieModel" "ahead" "[I") ∈ ab_Tg := ab_t5 159 rfl rfl
theorem tw_1087 : (Jvm.Cond.fieldLink "WitnessesMustLieModel" (206 : Nat) "WitnessesMustLieModel" "above" "J") ∈ ab_Tg := ab_t5 160 rfl rfl
theorem tw_1088 : (Jvm.Cond.fieldLink "WitnessesMustLieModel" (210 : Nat) "WitnessesMustLieModel" "below" "J") ∈ ab_Tg := ab_t5 161 rfl rfl
theorem tw_1089 : (Jvm.Cond.fieldLink "WitnessesMustLieModel" (240 : Nat) "WitnessesMustLieModel" "thrown" "I") ∈ ab_Tg := ab_t5 162 rfl rfl
theorem tw_1090 : (Jvm.Cond.lays "WitnessesMustLieModel" "WitnessesMustLieModel" "truth" "I") ∈ ab_Tg := ab_t5 163 rfl rfl
theorem tw_1091 : (Jvm.Cond.lays "WitnessesMustLieModel" "WitnessesMustLieModel" "laws" "I") ∈ ab_Tg := ab_t5 165 rfl rfl
theorem tw_1092 : (Jvm.Cond.laysFinal "WitnessesMustLieModel" "WitnessesMustLieModel" "law" "[I") ∈ ab_Tg := ab_t5 167 rfl rfl
theorem tw_1093 : (Jvm.Cond.lays "WitnessesMustLieModel" "WitnessesMustLieModel" "witnesses" "I") ∈ ab_Tg := ab_t5 169 rfl rfl
theorem tw_1094 : (Jvm.Cond.laysFinal "WitnessesMustLieModel" "WitnessesMustLieModel" "knows" "[I") ∈ ab_Tg := ab_t5 171 rfl rfl
theorem tw_1095 : (Jvm.Cond.lays "WitnessesMustLieModel" "WitnessesMustLieModel" "said" "I") ∈ ab_Tg := ab_t5 173 rfl rfl
theorem tw_1096 : (Jvm.Cond.laysFinal "WitnessesMustLieModel" "WitnessesMustLieModel" "saying" "[I") ∈ ab_Tg := ab_t5 175 rfl rfl
theorem tw_1097 : (Jvm.Cond.laysFinal "WitnessesMustLieModel" "WitnessesMustLieModel" "by" "[I") ∈ ab_Tg := ab_t5 177 rfl rfl
theorem tw_1098 : (Jvm.Cond.laysFinal "WitnessesMustLieModel" "WitnessesMustLieModel" "holds" "[I") ∈ ab_Tg := ab_t5 179 rfl rfl
theorem tw_1099 : (Jvm.Cond.laysFinal "WitnessesMustLieModel" "WitnessesMustLieModel" "first" "[I") ∈ ab_Tg := ab_t5 181 rfl rfl
theorem tw_1100 : (Jvm.Cond.laysFinal "WitnessesMustLieModel" "WitnessesMustLieModel" "second" "[I") ∈ ab_Tg := ab_t5 183 rfl rfl
theorem tw_1101 : (Jvm.Cond.laysFinal "WitnessesMustLieModel" "WitnessesMustLieModel" "cells" "[I") ∈ ab_Tg := ab_t5 185 rfl rfl
theorem tw_1102 : (Jvm.Cond.lays "WitnessesMustLieModel" "WitnessesMustLieModel" "text" "I") ∈ ab_Tg := ab_t5 187 rfl rfl
theorem tw_1103 : (Jvm.Cond.lays "WitnessesMustLieModel" "WitnessesMustLieModel" "at" "I") ∈ ab_Tg := ab_t5 189 rfl rfl
theorem tw_1104 : (Jvm.Cond.laysFinal "WitnessesMustLieModel" "WitnessesMustLieModel" "value" "[I") ∈ ab_Tg := ab_t5 191 rfl rfl
theorem tw_1105 : (Jvm.Cond.lays "WitnessesMustLieModel" "WitnessesMustLieModel" "imaged" "Z") ∈ ab_Tg := ab_t5 193 rfl rfl
theorem tw_1106 : (Jvm.Cond.laysFinal "WitnessesMustLieModel" "WitnessesMustLieModel" "old" "[I") ∈ ab_Tg := ab_t5 195 rfl rfl
theorem tw_1107 : (Jvm.Cond.laysFinal "WitnessesMustLieModel" "WitnessesMustLieModel" "ahead" "[I") ∈ ab_Tg := ab_t5 197 rfl rfl
theorem tw_1108 : (Jvm.Cond.lays "WitnessesMustLieModel" "WitnessesMustLieModel" "above" "J") ∈ ab_Tg := ab_t5 199 rfl rfl
theorem tw_1109 : (Jvm.Cond.lays "WitnessesMustLieModel" "WitnessesMustLieModel" "below" "J") ∈ ab_Tg := ab_t5 201 rfl rfl
theorem tw_1110 : (Jvm.Cond.lays "WitnessesMustLieModel" "WitnessesMustLieModel" "bestLie" "I") ∈ ab_Tg := ab_t5 203 rfl rfl
theorem tw_1111 : (Jvm.Cond.lays "WitnessesMustLieModel" "WitnessesMustLieModel" "thrown" "I") ∈ ab_Tg := ab_t5 205 rfl rfl
theorem tw_1112 : (Jvm.Cond.superclass "WitnessesMustLieModel" "java/lang/Object") ∈ ab_Tg := ab_t5 207 rfl rfl
theorem tw_1113 : (Jvm.Cond.methodLink "WitnessesMustLieLaw" (25 : Nat) ({ cls := "WitnessesMustLieModel", name := "trial", desc := "(I)I" } : Jvm.MethodName)) ∈ ab_Tg := ab_t5 208 rfl rfl
theorem tw_1114 : (Jvm.Cond.instanceMethod ({ cls := "WitnessesMustLieModel", name := "trial", desc := "(I)I" } : Jvm.MethodName)) ∈ ab_Tg := ab_t5 209 rfl rfl
theorem tw_1115 : (Jvm.Cond.selects "WitnessesMustLieModel" ({ cls := "WitnessesMustLieModel", name := "trial", desc := "(I)I" } : Jvm.MethodName) ({ cls := "WitnessesMustLieModel", name := "trial", desc := "(I)I" } : Jvm.MethodName)) ∈ ab_Tg := ab_t5 210 rfl rfl
theorem tw_1116 : (Jvm.Cond.code ({ cls := "WitnessesMustLieModel", name := "trial", desc := "(I)I" } : Jvm.MethodName) prog_14_method_21_code (5 : Nat) (Option.some Jvm.ClassFile.FieldType.int)) ∈ ab_Tg := ab_t5 211 rfl rfl
theorem tw_1117 : (Jvm.Cond.methodLink "WitnessesMustLieModel" (107 : Nat) ({ cls := "WitnessesMustLieModel", name := "isShelf", desc := "(I)Z" } : Jvm.MethodName)) ∈ ab_Tg := ab_t5 212 rfl rfl
theorem tw_1118 : (Jvm.Cond.static ({ cls := "WitnessesMustLieModel", name := "isShelf", desc := "(I)Z" } : Jvm.MethodName)) ∈ ab_Tg := ab_t5 213 rfl rfl
theorem tw_1119 : (Jvm.Cond.code ({ cls := "WitnessesMustLieModel", name := "isShelf", desc := "(I)Z" } : Jvm.MethodName) prog_14_method_4_code (1 : Nat) (Option.some Jvm.ClassFile.FieldType.boolean)) ∈ ab_Tg := ab_t5 214 rfl rfl
theorem tw_1120 : (Jvm.Cond.methodLink "WitnessesMustLieModel" (43 : Nat) ({ cls := "WitnessesMustLieModel", name := "within", desc := "(III)Z" } : Jvm.MethodName)) ∈ ab_Tg := ab_t5 215 rfl rfl
theorem tw_1121 : (Jvm.Cond.static ({ cls := "WitnessesMustLieModel", name := "within", desc := "(III)Z" } : Jvm.MethodName)) ∈ ab_Tg := ab_t5 216 rfl rfl
theorem tw_1122 : (Jvm.Cond.code ({ cls := "WitnessesMustLieModel", name := "within", desc := "(III)Z" } : Jvm.MethodName) prog_14_method_2_code (3 : Nat) (Option.some Jvm.ClassFile.FieldType.boolean)) ∈ ab_Tg := ab_t5 217 rfl rfl
theorem tw_1123 : (Jvm.Cond.methodLink "WitnessesMustLieModel" (110 : Nat) ({ cls := "WitnessesMustLieModel", name := "statement", desc := "(Z)I" } : Jvm.MethodName)) ∈ ab_Tg := ab_t5 218 rfl rfl
theorem tw_1124 : (Jvm.Cond.instanceMethod ({ cls := "WitnessesMustLieModel", name := "statement", desc := "(Z)I" } : Jvm.MethodName)) ∈ ab_Tg := ab_t5 220 rfl rfl
theorem tw_1125 : (Jvm.Cond.code ({ cls := "WitnessesMustLieModel", name := "statement", desc := "(Z)I" } : Jvm.MethodName) prog_14_method_20_code (2 : Nat) (Option.some Jvm.ClassFile.FieldType.int)) ∈ ab_Tg := ab_t5 221 rfl rfl
theorem tw_1126 : (Jvm.Cond.methodLink "WitnessesMustLieModel" (85 : Nat) ({ cls := "WitnessesMustLieModel", name := "is", desc := "(I)Z" } : Jvm.MethodName)) ∈ ab_Tg := ab_t5 222 rfl rfl
theorem tw_1127 : (Jvm.Cond.instanceMethod ({ cls := "WitnessesMustLieModel", name := "is", desc := "(I)Z" } : Jvm.MethodName)) ∈ ab_Tg := ab_t5 224 rfl rfl
theorem tw_1128 : (Jvm.Cond.code ({ cls := "WitnessesMustLieModel", name := "is", desc := "(I)Z" } : Jvm.MethodName) prog_14_method_15_code (2 : Nat) (Option.some Jvm.ClassFile.FieldType.boolean)) ∈ ab_Tg := ab_t5 225 rfl rfl
theorem tw_1129 : (Jvm.Cond.methodLink "WitnessesMustLieModel" (88 : Nat) ({ cls := "WitnessesMustLieModel", name := "digits", desc := "(I)Z" } : Jvm.MethodName)) ∈ ab_Tg := ab_t5 226 rfl rfl
theorem tw_1130 : (Jvm.Cond.instanceMethod ({ cls := "WitnessesMustLieModel", name := "digits", desc := "(I)Z" } : Jvm.MethodName)) ∈ ab_Tg := ab_t5 228 rfl rfl
theorem tw_1131 : (Jvm.Cond.code ({ cls := "WitnessesMustLieModel", name := "digits", desc := "(I)Z" } : Jvm.MethodName) prog_14_method_16_code (4 : Nat) (Option.some Jvm.ClassFile.FieldType.boolean)) ∈ ab_Tg := ab_t5 229 rfl rfl
theorem tw_1132 : (Jvm.Cond.methodLink "WitnessesMustLieModel" (91 : Nat) ({ cls := "WitnessesMustLieModel", name := "isSaying", desc := "(I)Z" } : Jvm.MethodName)) ∈ ab_Tg := ab_t5 230 rfl rfl
theorem tw_1133 : (Jvm.Cond.instanceMethod ({ cls := "WitnessesMustLieModel", name := "isSaying", desc := "(I)Z" } : Jvm.MethodName)) ∈ ab_Tg := ab_t5 232 rfl rfl
theorem tw_1134 : (Jvm.Cond.code ({ cls := "WitnessesMustLieModel", name := "isSaying", desc := "(I)Z" } : Jvm.MethodName) prog_14_method_18_code (2 : Nat) (Option.some Jvm.ClassFile.FieldType.boolean)) ∈ ab_Tg := ab_t5 233 rfl rfl
theorem tw_1135 : (Jvm.Cond.methodLink "WitnessesMustLieModel" (77 : Nat) ({ cls := "WitnessesMustLieModel", name := "isFact", desc := "(I)Z" } : Jvm.MethodName)) ∈ ab_Tg := ab_t5 234 rfl rfl
theorem tw_1136 : (Jvm.Cond.static ({ cls := "WitnessesMustLieModel", name := "isFact", desc := "(I)Z" } : Jvm.MethodName)) ∈ ab_Tg := ab_t5 235 rfl rfl
theorem tw_1137 : (Jvm.Cond.code ({ cls := "WitnessesMustLieModel", name := "isFact", desc := "(I)Z" } : Jvm.MethodName) prog_14_method_3_code (1 : Nat) (Option.some Jvm.ClassFile.FieldType.boolean)) ∈ ab_Tg := ab_t5 236 rfl rfl
theorem tw_1138 : (Jvm.Cond.methodLink "WitnessesMustLieModel" (97 : Nat) ({ cls := "WitnessesMustLieModel", name := "readSaying", desc := "(I)I" } : Jvm.MethodName)) ∈ ab_Tg := ab_t5 237 rfl rfl
theorem tw_1139 : (Jvm.Cond.instanceMethod ({ cls := "WitnessesMustLieModel", name := "readSaying", desc := "(I)I" } : Jvm.MethodName)) ∈ ab_Tg := ab_t5 239 rfl rfl
theorem tw_1140 : (Jvm.Cond.code ({ cls := "WitnessesMustLieModel", name := "readSaying", desc := "(I)I" } : Jvm.MethodName) prog_14_method_19_code (2 : Nat) (Option.some Jvm.ClassFile.FieldType.int)) ∈ ab_Tg := ab_t6 0 rfl rfl
theorem tw_1141 : (Jvm.Cond.methodLink "WitnessesMustLieModel" (81 : Nat) ({ cls := "WitnessesMustLieModel", name := "made", desc := "(IIII)I" } : Jvm.MethodName)) ∈ ab_Tg := ab_t6 1 rfl rfl
theorem tw_1142 : (Jvm.Cond.static ({ cls := "WitnessesMustLieModel", name := "made", desc := "(IIII)I" } : Jvm.MethodName)) ∈ ab_Tg := ab_t6 2 rfl rfl
theorem tw_1143 : (Jvm.Cond.code ({ cls := "WitnessesMustLieModel", name := "made", desc := "(IIII)I" } : Jvm.MethodName) prog_14_method_7_code (4 : Nat) (Option.some Jvm.ClassFile.FieldType.int)) ∈ ab_Tg := ab_t6 3 rfl rfl
theorem tw_1144 : (Jvm.Cond.methodLink "WitnessesMustLieModel" (100 : Nat) ({ cls := "WitnessesMustLieModel", name := "two", desc := "()I" } : Jvm.MethodName)) ∈ ab_Tg := ab_t6 4 rfl rfl
theorem tw_1145 : (Jvm.Cond.instanceMethod ({ cls := "WitnessesMustLieModel", name := "two", desc := "()I" } : Jvm.MethodName)) ∈ ab_Tg := ab_t6 6 rfl rfl
theorem tw_1146 : (Jvm.Cond.code ({ cls := "WitnessesMustLieModel", name := "two", desc := "()I" } : Jvm.MethodName) prog_14_method_17_code (1 : Nat) (Option.some Jvm.ClassFile.FieldType.int)) ∈ ab_Tg := ab_t6 7 rfl rfl
theorem tw_1147 : (Jvm.Cond.methodLink "WitnessesMustLieModel" (104 : Nat) ({ cls := "WitnessesMustLieModel", name := "isWitness", desc := "(I)Z" } : Jvm.MethodName)) ∈ ab_Tg := ab_t6 8 rfl rfl
theorem tw_1148 : (Jvm.Cond.instanceMethod ({ cls := "WitnessesMustLieModel", name := "isWitness", desc := "(I)Z" } : Jvm.MethodName)) ∈ ab_Tg := ab_t6 10 rfl rfl
theorem tw_1149 : (Jvm.Cond.code ({ cls := "WitnessesMustLieModel", name := "isWitness", desc := "(I)Z" } : Jvm.MethodName) prog_14_method_5_code (2 : Nat) (Option.some Jvm.ClassFile.FieldType.boolean)) ∈ ab_Tg := ab_t6 11 rfl rfl
theorem tw_1150 : (Jvm.Cond.methodLink "WitnessesMustLieModel" (114 : Nat) ({ cls := "WitnessesMustLieModel", name := "keep", desc := "([I)V" } : Jvm.MethodName)) ∈ ab_Tg := ab_t6 12 rfl rfl
theorem tw_1151 : (Jvm.Cond.instanceMethod ({ cls := "WitnessesMustLieModel", name := "keep", desc := "([I)V" } : Jvm.MethodName)) ∈ ab_Tg := ab_t6 14 rfl rfl
theorem tw_1152 : (Jvm.Cond.code ({ cls := "WitnessesMustLieModel", name := "keep", desc := "([I)V" } : Jvm.MethodName) prog_14_method_70_code (3 : Nat) (Option.none : Option Jvm.ClassFile.FieldType)) ∈ ab_Tg := ab_t6 15 rfl rfl
theorem tw_1153 : (Jvm.Cond.methodLink "WitnessesMustLieModel" (118 : Nat) ({ cls := "WitnessesMustLieModel", name := "again", desc := "([I)V" } : Jvm.MethodName)) ∈ ab_Tg := ab_t6 16 rfl rfl
theorem tw_1154 : (Jvm.Cond.instanceMethod ({ cls := "WitnessesMustLieModel", name := "again", desc := "([I)V" } : Jvm.MethodName)) ∈ ab_Tg := ab_t6 18 rfl rfl
theorem tw_1155 : (Jvm.Cond.code ({ cls := "WitnessesMustLieModel", name := "again", desc := "([I)V" } : Jvm.MethodName) prog_14_method_71_code (3 : Nat) (Option.none : Option Jvm.ClassFile.FieldType)) ∈ ab_Tg := ab_t6 19 rfl rfl
theorem tw_1156 : (Jvm.Cond.methodLink "WitnessesMustLieLaw" (30 : Nat) ({ cls := "WitnessesMustLieModel", name := "law", desc := "(II)I" } : Jvm.MethodName)) ∈ ab_Tg := ab_t6 20 rfl rfl
theorem tw_1157 : (Jvm.Cond.instanceMethod ({ cls := "WitnessesMustLieModel", name := "law", desc := "(II)I" } : Jvm.MethodName)) ∈ ab_Tg := ab_t6 21 rfl rfl
theorem tw_1158 : (Jvm.Cond.selects "WitnessesMustLieModel" ({ cls := "WitnessesMustLieModel", name := "law", desc := "(II)I" } : Jvm.MethodName) ({ cls := "WitnessesMustLieModel", name := "law", desc := "(II)I" } : Jvm.MethodName)) ∈ ab_Tg := ab_t6 22 rfl rfl
theorem tw_1159 : (Jvm.Cond.code ({ cls := "WitnessesMustLieModel", name := "law", desc := "(II)I" } : Jvm.MethodName) prog_14_method_22_code (3 : Nat) (Option.some Jvm.ClassFile.FieldType.int)) ∈ ab_Tg := ab_t6 23 rfl rfl
theorem tw_1160 : (Jvm.Cond.methodLink "WitnessesMustLieModel" (121 : Nat) ({ cls := "WitnessesMustLieModel", name := "of", desc := "(II)I" } : Jvm.MethodName)) ∈ ab_Tg := ab_t6 24 rfl rfl
theorem tw_1161 : (Jvm.Cond.static ({ cls := "WitnessesMustLieModel", name := "of", desc := "(II)I" } : Jvm.MethodName)) ∈ ab_Tg := ab_t6 25 rfl rfl
theorem tw_1162 : (Jvm.Cond.code ({ cls := "WitnessesMustLieModel", name := "of", desc := "(II)I" } : Jvm.MethodName) prog_14_method_14_code (2 : Nat) (Option.some Jvm.ClassFile.FieldType.int)) ∈ ab_Tg := ab_t6 26 rfl rfl
theorem tw_1163 : (Jvm.Cond.methodLink "WitnessesMustLieModel" (64 : Nat) ({ cls := "WitnessesMustLieModel", name := "sizeOf", desc := "(I)I" } : Jvm.MethodName)) ∈ ab_Tg := ab_t6 27 rfl rfl
theorem tw_1164 : (Jvm.Cond.static ({ cls := "WitnessesMustLieModel", name := "sizeOf", desc := "(I)I" } : Jvm.MethodName)) ∈ ab_Tg := ab_t6 28 rfl rfl
theorem tw_1165 : (Jvm.Cond.code ({ cls := "WitnessesMustLieModel", name := "sizeOf", desc := "(I)I" } : Jvm.MethodName) prog_14_method_10_code (2 : Nat) (Option.some Jvm.ClassFile.FieldType.int)) ∈ ab_Tg := ab_t6 29 rfl rfl
theorem tw_1166 : (Jvm.Cond.methodLink "WitnessesMustLieModel" (68 : Nat) ({ cls := "WitnessesMustLieModel", name := "aboutOf", desc := "(I)I" } : Jvm.MethodName)) ∈ ab_Tg := ab_t6 30 rfl rfl
theorem tw_1167 : (Jvm.Cond.static ({ cls := "WitnessesMustLieModel", name := "aboutOf", desc := "(I)I" } : Jvm.MethodName)) ∈ ab_Tg := ab_t6 31 rfl rfl
theorem tw_1168 : (Jvm.Cond.code ({ cls := "WitnessesMustLieModel", name := "aboutOf", desc := "(I)I" } : Jvm.MethodName) prog_14_method_11_code (3 : Nat) (Option.some Jvm.ClassFile.FieldType.int)) ∈ ab_Tg := ab_t6 32 rfl rfl
theorem tw_1169 : (Jvm.Cond.methodLink "WitnessesMustLieLaw" (34 : Nat) ({ cls := "WitnessesMustLieModel", name := "said", desc := "(II)I" } : Jvm.MethodName)) ∈ ab_Tg := ab_t6 33 rfl rfl
theorem tw_1170 : (Jvm.Cond.instanceMethod ({ cls := "WitnessesMustLieModel", name := "said", desc := "(II)I" } : Jvm.MethodName)) ∈ ab_Tg := ab_t6 34 rfl rfl
theorem tw_1171 : (Jvm.Cond.selects "WitnessesMustLieModel" ({ cls := "WitnessesMustLieModel", name := "said", desc := "(II)I" } : Jvm.MethodName) ({ cls := "WitnessesMustLieModel", name := "said", desc := "(II)I" } : Jvm.MethodName)) ∈ ab_Tg := ab_t6 35 rfl rfl
theorem tw_1172 : (Jvm.Cond.code ({ cls := "WitnessesMustLieModel", name := "said", desc := "(II)I" } : Jvm.MethodName) prog_14_method_23_code (3 : Nat) (Option.some Jvm.ClassFile.FieldType.int)) ∈ ab_Tg := ab_t6 36 rfl rfl
theorem tw_1173 : (Jvm.Cond.methodLink "WitnessesMustLieModel" (125 : Nat) ({ cls := "WitnessesMustLieModel", name := "isSaid", desc := "(I)Z" } : Jvm.MethodName)) ∈ ab_Tg := ab_t6 37 rfl rfl
theorem tw_1174 : (Jvm.Cond.instanceMethod ({ cls := "WitnessesMustLieModel", name := "isSaid", desc := "(I)Z" } : Jvm.MethodName)) ∈ ab_Tg := ab_t6 39 rfl rfl
theorem tw_1175 : (Jvm.Cond.code ({ cls := "WitnessesMustLieModel", name := "isSaid", desc := "(I)Z" } : Jvm.MethodName) prog_14_method_6_code (2 : Nat) (Option.some Jvm.ClassFile.FieldType.boolean)) ∈ ab_Tg := ab_t6 40 rfl rfl
theorem tw_1176 : (Jvm.Cond.methodLink "WitnessesMustLieModel" (128 : Nat) ({ cls := "WitnessesMustLieModel", name := "isSlip", desc := "(I)Z" } : Jvm.MethodName)) ∈ ab_Tg := ab_t6 41 rfl rfl
theorem tw_1177 : (Jvm.Cond.instanceMethod ({ cls := "WitnessesMustLieModel", name := "isSlip", desc := "(I)Z" } : Jvm.MethodName)) ∈ ab_Tg := ab_t6 43 rfl rfl
theorem tw_1178 : (Jvm.Cond.code ({ cls := "WitnessesMustLieModel", name := "isSlip", desc := "(I)Z" } : Jvm.MethodName) prog_14_method_13_code (2 : Nat) (Option.some Jvm.ClassFile.FieldType.boolean)) ∈ ab_Tg := ab_t6 44 rfl rfl
theorem tw_1179 : (Jvm.Cond.methodLink "WitnessesMustLieModel" (58 : Nat) ({ cls := "WitnessesMustLieModel", name := "isTrueIn", desc := "(II)Z" } : Jvm.MethodName)) ∈ ab_Tg := ab_t6 45 rfl rfl
theorem tw_1180 : (Jvm.Cond.static ({ cls := "WitnessesMustLieModel", name := "isTrueIn", desc := "(II)Z" } : Jvm.MethodName)) ∈ ab_Tg := ab_t6 46 rfl rfl
theorem tw_1181 : (Jvm.Cond.code ({ cls := "WitnessesMustLieModel", name := "isTrueIn", desc := "(II)Z" } : Jvm.MethodName) prog_14_method_9_code (4 : Nat) (Option.some Jvm.ClassFile.FieldType.boolean)) ∈ ab_Tg := ab_t6 47 rfl rfl
theorem tw_1182 : (Jvm.Cond.methodLink "WitnessesMustLieModel" (54 : Nat) ({ cls := "WitnessesMustLieModel", name := "has", desc := "(II)Z" } : Jvm.MethodName)) ∈ ab_Tg := ab_t6 48 rfl rfl
theorem tw_1183 : (Jvm.Cond.static ({ cls := "WitnessesMustLieModel", name := "has", desc := "(II)Z" } : Jvm.MethodName)) ∈ ab_Tg := ab_t6 49 rfl rfl
theorem tw_1184 : (Jvm.Cond.code ({ cls := "WitnessesMustLieModel", name := "has", desc := "(II)Z" } : Jvm.MethodName) prog_14_method_8_code (2 : Nat) (Option.some Jvm.ClassFile.FieldType.boolean)) ∈ ab_Tg := ab_t6 50 rfl rfl
theorem tw_1185 : (Jvm.Cond.methodLink "WitnessesMustLieLaw" (38 : Nat) ({ cls := "WitnessesMustLieModel", name := "knows", desc := "(I)I" } : Jvm.MethodName)) ∈ ab_Tg := ab_t6 51 rfl rfl
theorem tw_1186 : (Jvm.Cond.instanceMethod ({ cls := "WitnessesMustLieModel", name := "knows", desc := "(I)I" } : Jvm.MethodName)) ∈ ab_Tg := ab_t6 52 rfl rfl
theorem tw_1187 : (Jvm.Cond.selects "WitnessesMustLieModel" ({ cls := "WitnessesMustLieModel", name := "knows", desc := "(I)I" } : Jvm.MethodName) ({ cls := "WitnessesMustLieModel", name := "knows", desc := "(I)I" } : Jvm.MethodName)) ∈ ab_Tg := ab_t6 53 rfl rfl
theorem tw_1188 : (Jvm.Cond.code ({ cls := "WitnessesMustLieModel", name := "knows", desc := "(I)I" } : Jvm.MethodName) prog_14_method_24_code (2 : Nat) (Option.some Jvm.ClassFile.FieldType.int)) ∈ ab_Tg := ab_t6 54 rfl rfl
theorem tw_1189 : (Jvm.Cond.methodLink "WitnessesMustLieLaw" (43 : Nat) ({ cls := "WitnessesMustLieModel", name := "isTrue", desc := "(IIII)I" } : Jvm.MethodName)) ∈ ab_Tg := ab_t6 55 rfl rfl
theorem tw_1190 : (Jvm.Cond.instanceMethod ({ cls := "WitnessesMustLieModel", name := "isTrue", desc := "(IIII)I" } : Jvm.MethodName)) ∈ ab_Tg := ab_t6 56 rfl rfl
theorem tw_1191 : (Jvm.Cond.selects "WitnessesMustLieModel" ({ cls := "WitnessesMustLieModel", name := "isTrue", desc := "(IIII)I" } : Jvm.MethodName) ({ cls := "WitnessesMustLieModel", name := "isTrue", desc := "(IIII)I" } : Jvm.MethodName)) ∈ ab_Tg := ab_t6 57 rfl rfl
theorem tw_1192 : (Jvm.Cond.code ({ cls := "WitnessesMustLieModel", name := "isTrue", desc := "(IIII)I" } : Jvm.MethodName) prog_14_method_27_code (6 : Nat) (Option.some Jvm.ClassFile.FieldType.int)) ∈ ab_Tg := ab_t6 58 rfl rfl
theorem tw_1193 : (Jvm.Cond.methodLink "WitnessesMustLieModel" (131 : Nat) ({ cls := "WitnessesMustLieModel", name := "noSaying", desc := "(I)I" } : Jvm.MethodName)) ∈ ab_Tg := ab_t6 59 rfl rfl
theorem tw_1194 : (Jvm.Cond.instanceMethod ({ cls := "WitnessesMustLieModel", name := "noSaying", desc := "(I)I" } : Jvm.MethodName)) ∈ ab_Tg := ab_t6 61 rfl rfl
theorem tw_1195 : (Jvm.Cond.code ({ cls := "WitnessesMustLieModel", name := "noSaying", desc := "(I)I" } : Jvm.MethodName) prog_14_method_25_code (2 : Nat) (Option.some Jvm.ClassFile.FieldType.int)) ∈ ab_Tg := ab_t6 62 rfl rfl
theorem tw_1196 : (Jvm.Cond.methodLink "WitnessesMustLieModel" (134 : Nat) ({ cls := "WitnessesMustLieModel", name := "onShelf", desc := "(III)I" } : Jvm.MethodName)) ∈ ab_Tg := ab_t6 63 rfl rfl
theorem tw_1197 : (Jvm.Cond.instanceMethod ({ cls := "WitnessesMustLieModel", name := "onShelf", desc := "(III)I" } : Jvm.MethodName)) ∈ ab_Tg := ab_t6 65 rfl rfl
theorem tw_1198 : (Jvm.Cond.code ({ cls := "WitnessesMustLieModel", name := "onShelf", desc := "(III)I" } : Jvm.MethodName) prog_14_method_26_code (4 : Nat) (Option.some Jvm.ClassFile.FieldType.int)) ∈ ab_Tg := ab_t6 66 rfl rfl
theorem tw_1199 : (Jvm.Cond.methodLink "WitnessesMustLieLaw" (48 : Nat) ({ cls := "WitnessesMustLieModel", name := "rules", desc := "(III)I" } : Jvm.MethodName)) ∈ ab_Tg := ab_t6 67 rfl rfl
theorem tw_1200 : (Jvm.Cond.instanceMethod ({ cls := "WitnessesMustLieModel", name := "rules", desc := "(III)I" } : Jvm.MethodName)) ∈ ab_Tg := ab_t6 68 rfl rfl
theorem tw_1201 : (Jvm.Cond.selects "WitnessesMustLieModel" ({ cls := "WitnessesMustLieModel", name := "rules", desc := "(III)I" } : Jvm.MethodName) ({ cls := "WitnessesMustLieModel", name := "rules", desc := "(III)I" } : Jvm.MethodName)) ∈ ab_Tg := ab_t6 69 rfl rfl
theorem tw_1202 : (Jvm.Cond.code ({ cls := "WitnessesMustLieModel", name := "rules", desc := "(III)I" } : Jvm.MethodName) prog_14_method_28_code (5 : Nat) (Option.some Jvm.ClassFile.FieldType.int)) ∈ ab_Tg := ab_t6 70 rfl rfl
theorem tw_1203 : (Jvm.Cond.methodLink "WitnessesMustLieLaw" (52 : Nat) ({ cls := "WitnessesMustLieModel", name := "says", desc := "(IIII)I" } : Jvm.MethodName)) ∈ ab_Tg := ab_t6 71 rfl rfl
theorem tw_1204 : (Jvm.Cond.instanceMethod ({ cls := "WitnessesMustLieModel", name := "says", desc := "(IIII)I" } : Jvm.MethodName)) ∈ ab_Tg := ab_t6 72 rfl rfl
theorem tw_1205 : (Jvm.Cond.selects "WitnessesMustLieModel" ({ cls := "WitnessesMustLieModel", name := "says", desc := "(IIII)I" } : Jvm.MethodName) ({ cls := "WitnessesMustLieModel", name := "says", desc := "(IIII)I" } : Jvm.MethodName)) ∈ ab_Tg := ab_t6 73 rfl rfl
theorem tw_1206 : (Jvm.Cond.code ({ cls := "WitnessesMustLieModel", name := "says", desc := "(IIII)I" } : Jvm.MethodName) prog_14_method_29_code (6 : Nat) (Option.some Jvm.ClassFile.FieldType.int)) ∈ ab_Tg := ab_t6 74 rfl rfl
theorem tw_1207 : (Jvm.Cond.methodLink "WitnessesMustLieLaw" (57 : Nat) ({ cls := "WitnessesMustLieModel", name := "unsays", desc := "()I" } : Jvm.MethodName)) ∈ ab_Tg := ab_t6 75 rfl rfl
theorem tw_1208 : (Jvm.Cond.instanceMethod ({ cls := "WitnessesMustLieModel", name := "unsays", desc := "()I" } : Jvm.MethodName)) ∈ ab_Tg := ab_t6 76 rfl rfl
theorem tw_1209 : (Jvm.Cond.selects "WitnessesMustLieModel" ({ cls := "WitnessesMustLieModel", name := "unsays", desc := "()I" } : Jvm.MethodName) ({ cls := "WitnessesMustLieModel", name := "unsays", desc := "()I" } : Jvm.MethodName)) ∈ ab_Tg := ab_t6 77 rfl rfl
theorem tw_1210 : (Jvm.Cond.code ({ cls := "WitnessesMustLieModel", name := "unsays", desc := "()I" } : Jvm.MethodName) prog_14_method_30_code (1 : Nat) (Option.some Jvm.ClassFile.FieldType.int)) ∈ ab_Tg := ab_t6 78 rfl rfl
theorem tw_1211 : (Jvm.Cond.methodLink "WitnessesMustLieLaw" (61 : Nat) ({ cls := "WitnessesMustLieModel", name := "witness", desc := "(I)I" } : Jvm.MethodName)) ∈ ab_Tg := ab_t6 79 rfl rfl
theorem tw_1212 : (Jvm.Cond.instanceMethod ({ cls := "WitnessesMustLieModel", name := "witness", desc := "(I)I" } : Jvm.MethodName)) ∈ ab_Tg := ab_t6 80 rfl rfl
theorem tw_1213 : (Jvm.Cond.selects "WitnessesMustLieModel" ({ cls := "WitnessesMustLieModel", name := "witness", desc := "(I)I" } : Jvm.MethodName) ({ cls := "WitnessesMustLieModel", name := "witness", desc := "(I)I" } : Jvm.MethodName)) ∈ ab_Tg := ab_t6 81 rfl rfl
theorem tw_1214 : (Jvm.Cond.code ({ cls := "WitnessesMustLieModel", name := "witness", desc := "(I)I" } : Jvm.MethodName) prog_14_method_31_code (2 : Nat) (Option.some Jvm.ClassFile.FieldType.int)) ∈ ab_Tg := ab_t6 82 rfl rfl
theorem tw_1215 : (Jvm.Cond.methodLink "WitnessesMustLieLaw" (65 : Nat) ({ cls := "WitnessesMustLieModel", name := "truth", desc := "(I)I" } : Jvm.MethodName)) ∈ ab_Tg := ab_t6 83 rfl rfl
theorem tw_1216 : (Jvm.Cond.instanceMethod ({ cls := "WitnessesMustLieModel", name := "truth", desc := "(I)I" } : Jvm.MethodName)) ∈ ab_Tg := ab_t6 84 rfl rfl
theorem tw_1217 : (Jvm.Cond.selects "WitnessesMustLieModel" ({ cls := "WitnessesMustLieModel", name := "truth", desc := "(I)I" } : Jvm.MethodName) ({ cls := "WitnessesMustLieModel", name := "truth", desc := "(I)I" } : Jvm.MethodName)) ∈ ab_Tg := ab_t6 85 rfl rfl
theorem tw_1218 : (Jvm.Cond.code ({ cls := "WitnessesMustLieModel", name := "truth", desc := "(I)I" } : Jvm.MethodName) prog_14_method_32_code (3 : Nat) (Option.some Jvm.ClassFile.FieldType.int)) ∈ ab_Tg := ab_t6 86 rfl rfl
theorem tw_1219 : (Jvm.Cond.methodLink "WitnessesMustLieLaw" (70 : Nat) ({ cls := "WitnessesMustLieModel", name := "worlds", desc := "(I)J" } : Jvm.MethodName)) ∈ ab_Tg := ab_t6 87 rfl rfl
theorem tw_1220 : (Jvm.Cond.instanceMethod ({ cls := "WitnessesMustLieModel", name := "worlds", desc := "(I)J" } : Jvm.MethodName)) ∈ ab_Tg := ab_t6 88 rfl rfl
theorem tw_1221 : (Jvm.Cond.selects "WitnessesMustLieModel" ({ cls := "WitnessesMustLieModel", name := "worlds", desc := "(I)J" } : Jvm.MethodName) ({ cls := "WitnessesMustLieModel", name := "worlds", desc := "(I)J" } : Jvm.MethodName)) ∈ ab_Tg := ab_t6 89 rfl rfl
theorem tw_1222 : (Jvm.Cond.code ({ cls := "WitnessesMustLieModel", name := "worlds", desc := "(I)J" } : Jvm.MethodName) prog_14_method_36_code (2 : Nat) (Option.some Jvm.ClassFile.FieldType.long)) ∈ ab_Tg := ab_t6 90 rfl rfl
theorem tw_1223 : (Jvm.Cond.constantLong "WitnessesMustLieModel" (151 : Nat) (4000000000000000001 : Int64)) ∈ ab_Tg := ab_t6 91 rfl rfl
theorem tw_1224 : (Jvm.Cond.methodLink "WitnessesMustLieModel" (144 : Nat) ({ cls := "WitnessesMustLieModel", name := "mayBe", desc := "()J" } : Jvm.MethodName)) ∈ ab_Tg := ab_t6 92 rfl rfl
theorem tw_1225 : (Jvm.Cond.instanceMethod ({ cls := "WitnessesMustLieModel", name := "mayBe", desc := "()J" } : Jvm.MethodName)) ∈ ab_Tg := ab_t6 94 rfl rfl
theorem tw_1226 : (Jvm.Cond.code ({ cls := "WitnessesMustLieModel", name := "mayBe", desc := "()J" } : Jvm.MethodName) prog_14_method_33_code (4 : Nat) (Option.some Jvm.ClassFile.FieldType.long)) ∈ ab_Tg := ab_t6 95 rfl rfl
theorem tw_1227 : (Jvm.Cond.constantLong "WitnessesMustLieModel" (138 : Nat) (-1 : Int64)) ∈ ab_Tg := ab_t6 96 rfl rfl
theorem tw_1228 : (Jvm.Cond.methodLink "WitnessesMustLieModel" (140 : Nat) ({ cls := "WitnessesMustLieModel", name := "worldsOf", desc := "(I)J" } : Jvm.MethodName)) ∈ ab_Tg := ab_t6 97 rfl rfl
theorem tw_1229 : (Jvm.Cond.static ({ cls := "WitnessesMustLieModel", name := "worldsOf", desc := "(I)J" } : Jvm.MethodName)) ∈ ab_Tg := ab_t6 98 rfl rfl
theorem tw_1230 : (Jvm.Cond.code ({ cls := "WitnessesMustLieModel", name := "worldsOf", desc := "(I)J" } : Jvm.MethodName) prog_14_method_12_code (4 : Nat) (Option.some Jvm.ClassFile.FieldType.long)) ∈ ab_Tg := ab_t6 99 rfl rfl
theorem tw_1231 : (Jvm.Cond.methodLink "WitnessesMustLieModel" (153 : Nat) ({ cls := "WitnessesMustLieModel", name := "left", desc := "()J" } : Jvm.MethodName)) ∈ ab_Tg := ab_t6 100 rfl rfl
theorem tw_1232 : (Jvm.Cond.instanceMethod ({ cls := "WitnessesMustLieModel", name := "left", desc := "()J" } : Jvm.MethodName)) ∈ ab_Tg := ab_t6 102 rfl rfl
theorem tw_1233 : (Jvm.Cond.code ({ cls := "WitnessesMustLieModel", name := "left", desc := "()J" } : Jvm.MethodName) prog_14_method_35_code (1 : Nat) (Option.some Jvm.ClassFile.FieldType.long)) ∈ ab_Tg := ab_t6 103 rfl rfl
theorem tw_1234 : (Jvm.Cond.methodLink "WitnessesMustLieModel" (148 : Nat) ({ cls := "WitnessesMustLieModel", name := "leftBy", desc := "(I)J" } : Jvm.MethodName)) ∈ ab_Tg := ab_t6 104 rfl rfl
theorem tw_1235 : (Jvm.Cond.instanceMethod ({ cls := "WitnessesMustLieModel", name := "leftBy", desc := "(I)J" } : Jvm.MethodName)) ∈ ab_Tg := ab_t6 106 rfl rfl
theorem tw_1236 : (Jvm.Cond.code ({ cls := "WitnessesMustLieModel", name := "leftBy", desc := "(I)J" } : Jvm.MethodName) prog_14_method_34_code (5 : Nat) (Option.some Jvm.ClassFile.FieldType.long)) ∈ ab_Tg := ab_t6 107 rfl rfl
theorem tw_1237 : (Jvm.Cond.methodLink "WitnessesMustLieLaw" (74 : Nat) ({ cls := "WitnessesMustLieModel", name := "many", desc := "(I)I" } : Jvm.MethodName)) ∈ ab_Tg := ab_t6 108 rfl rfl
theorem tw_1238 : (Jvm.Cond.instanceMethod ({ cls := "WitnessesMustLieModel", name := "many", desc := "(I)I" } : Jvm.MethodName)) ∈ ab_Tg := ab_t6 109 rfl rfl
theorem tw_1239 : (Jvm.Cond.selects "WitnessesMustLieModel" ({ cls := "WitnessesMustLieModel", name := "many", desc := "(I)I" } : Jvm.MethodName) ({ cls := "WitnessesMustLieModel", name := "many", desc := "(I)I" } : Jvm.MethodName)) ∈ ab_Tg := ab_t6 110 rfl rfl
theorem tw_1240 : (Jvm.Cond.code ({ cls := "WitnessesMustLieModel", name := "many", desc := "(I)I" } : Jvm.MethodName) prog_14_method_37_code (2 : Nat) (Option.some Jvm.ClassFile.FieldType.int)) ∈ ab_Tg := ab_t6 111 rfl rfl
theorem tw_1241 : (Jvm.Cond.methodLink "WitnessesMustLieModel" (156 : Nat) ({ cls := "java/lang/Long", name := "bitCount", desc := "(J)I" } : Jvm.MethodName)) ∈ ab_Tg := ab_t6 112 rfl rfl
theorem tw_1242 : (Jvm.Cond.methodLink "WitnessesMustLieLaw" (78 : Nat) ({ cls := "WitnessesMustLieModel", name := "proved", desc := "(I)I" } : Jvm.MethodName)) ∈ ab_Tg := ab_t6 113 rfl rfl
theorem tw_1243 : (Jvm.Cond.instanceMethod ({ cls := "WitnessesMustLieModel", name := "proved", desc := "(I)I" } : Jvm.MethodName)) ∈ ab_Tg := ab_t6 114 rfl rfl
theorem tw_1244 : (Jvm.Cond.selects "WitnessesMustLieModel" ({ cls := "WitnessesMustLieModel", name := "proved", desc := "(I)I" } : Jvm.MethodName) ({ cls := "WitnessesMustLieModel", name := "proved", desc := "(I)I" } : Jvm.MethodName)) ∈ ab_Tg := ab_t6 115 rfl rfl
theorem tw_1245 : (Jvm.Cond.code ({ cls := "WitnessesMustLieModel", name := "proved", desc := "(I)I" } : Jvm.MethodName) prog_14_method_39_code (2 : Nat) (Option.some Jvm.ClassFile.FieldType.int)) ∈ ab_Tg := ab_t6 116 rfl rfl
theorem tw_1246 : (Jvm.Cond.methodLink "WitnessesMustLieModel" (162 : Nat) ({ cls := "WitnessesMustLieModel", name := "facts", desc := "(JI)I" } : Jvm.MethodName)) ∈ ab_Tg := ab_t6 117 rfl rfl
theorem tw_1247 : (Jvm.Cond.static ({ cls := "WitnessesMustLieModel", name := "facts", desc := "(JI)I" } : Jvm.MethodName)) ∈ ab_Tg := ab_t6 118 rfl rfl
theorem tw_1248 : (Jvm.Cond.code ({ cls := "WitnessesMustLieModel", name := "facts", desc := "(JI)I" } : Jvm.MethodName) prog_14_method_38_code (5 : Nat) (Option.some Jvm.ClassFile.FieldType.int)) ∈ ab_Tg := ab_t6 119 rfl rfl
theorem tw_1249 : (Jvm.Cond.methodLink "WitnessesMustLieLaw" (82 : Nat) ({ cls := "WitnessesMustLieModel", name := "slips", desc := "(I)I" } : Jvm.MethodName)) ∈ ab_Tg := ab_t6 120 rfl rfl
theorem tw_1250 : (Jvm.Cond.instanceMethod ({ cls := "WitnessesMustLieModel", name := "slips", desc := "(I)I" } : Jvm.MethodName)) ∈ ab_Tg := ab_t6 121 rfl rfl
theorem tw_1251 : (Jvm.Cond.selects "WitnessesMustLieModel" ({ cls := "WitnessesMustLieModel", name := "slips", desc := "(I)I" } : Jvm.MethodName) ({ cls := "WitnessesMustLieModel", name := "slips", desc := "(I)I" } : Jvm.MethodName)) ∈ ab_Tg := ab_t6 122 rfl rfl
theorem tw_1252 : (Jvm.Cond.code ({ cls := "WitnessesMustLieModel", name := "slips", desc := "(I)I" } : Jvm.MethodName) prog_14_method_40_code (4 : Nat) (Option.some Jvm.ClassFile.FieldType.int)) ∈ ab_Tg := ab_t6 123 rfl rfl
theorem tw_1253 : (Jvm.Cond.methodLink "WitnessesMustLieModel" (166 : Nat) ({ cls := "java/lang/Integer", name := "numberOfTrailingZeros", desc := "(I)I" } : Jvm.MethodName)) ∈ ab_Tg := ab_t6 124 rfl rfl
theorem tw_1254 : (Jvm.Cond.methodLink "WitnessesMustLieLaw" (86 : Nat) ({ cls := "WitnessesMustLieModel", name := "alone", desc := "(I)I" } : Jvm.MethodName)) ∈ ab_Tg := ab_t6 125 rfl rfl
theorem tw_1255 : (Jvm.Cond.instanceMethod ({ cls := "WitnessesMustLieModel", name := "alone", desc := "(I)I" } : Jvm.MethodName)) ∈ ab_Tg := ab_t6 126 rfl rfl
theorem tw_1256 : (Jvm.Cond.selects "WitnessesMustLieModel" ({ cls := "WitnessesMustLieModel", name := "alone", desc := "(I)I" } : Jvm.MethodName) ({ cls := "WitnessesMustLieModel", name := "alone", desc := "(I)I" } : Jvm.MethodName)) ∈ ab_Tg := ab_t6 127 rfl rfl
theorem tw_1257 : (Jvm.Cond.code ({ cls := "WitnessesMustLieModel", name := "alone", desc := "(I)I" } : Jvm.MethodName) prog_14_method_41_code (2 : Nat) (Option.some Jvm.ClassFile.FieldType.int)) ∈ ab_Tg := ab_t6 128 rfl rfl
theorem tw_1258 : (Jvm.Cond.methodLink "WitnessesMustLieLaw" (90 : Nat) ({ cls := "WitnessesMustLieModel", name := "clash", desc := "()I" } : Jvm.MethodName)) ∈ ab_Tg := ab_t6 129 rfl rfl
theorem tw_1259 : (Jvm.Cond.instanceMethod ({ cls := "WitnessesMustLieModel", name := "clash", desc := "()I" } : Jvm.MethodName)) ∈ ab_Tg := ab_t6 130 rfl rfl
theorem tw_1260 : (Jvm.Cond.selects "WitnessesMustLieModel" ({ cls := "WitnessesMustLieModel", name := "clash", desc := "()I" } : Jvm.MethodName) ({ cls := "WitnessesMustLieModel", name := "clash", desc := "()I" } : Jvm.MethodName)) ∈ ab_Tg := ab_t6 131 rfl rfl
theorem tw_1261 : (Jvm.Cond.code ({ cls := "WitnessesMustLieModel", name := "clash", desc := "()I" } : Jvm.MethodName) prog_14_method_42_code (3 : Nat) (Option.some Jvm.ClassFile.FieldType.int)) ∈ ab_Tg := ab_t6 132 rfl rfl
theorem tw_1262 : (Jvm.Cond.methodLink "WitnessesMustLieLaw" (94 : Nat) ({ cls := "WitnessesMustLieModel", name := "proof", desc := "(I)I" } : Jvm.MethodName)) ∈ ab_Tg := ab_t6 133 rfl rfl
theorem tw_1263 : (Jvm.Cond.instanceMethod ({ cls := "WitnessesMustLieModel", name := "proof", desc := "(I)I" } : Jvm.MethodName)) ∈ ab_Tg := ab_t6 134 rfl rfl
theorem tw_1264 : (Jvm.Cond.selects "WitnessesMustLieModel" ({ cls := "WitnessesMustLieModel", name := "proof", desc := "(I)I" } : Jvm.MethodName) ({ cls := "WitnessesMustLieModel", name := "proof", desc := "(I)I" } : Jvm.MethodName)) ∈ ab_Tg := ab_t6 135 rfl rfl
theorem tw_1265 : (Jvm.Cond.code ({ cls := "WitnessesMustLieModel", name := "proof", desc := "(I)I" } : Jvm.MethodName) prog_14_method_44_code (6 : Nat) (Option.some Jvm.ClassFile.FieldType.int)) ∈ ab_Tg := ab_t6 136 rfl rfl
theorem tw_1266 : (Jvm.Cond.methodLink "WitnessesMustLieModel" (173 : Nat) ({ cls := "WitnessesMustLieModel", name := "isBetter", desc := "(II)Z" } : Jvm.MethodName)) ∈ ab_Tg := ab_t6 137 rfl rfl
theorem tw_1267 : (Jvm.Cond.static ({ cls := "WitnessesMustLieModel", name := "isBetter", desc := "(II)Z" } : Jvm.MethodName)) ∈ ab_Tg := ab_t6 138 rfl rfl
theorem tw_1268 : (Jvm.Cond.code ({ cls := "WitnessesMustLieModel", name := "isBetter", desc := "(II)Z" } : Jvm.MethodName) prog_14_method_43_code (2 : Nat) (Option.some Jvm.ClassFile.FieldType.boolean)) ∈ ab_Tg := ab_t6 139 rfl rfl
theorem tw_1269 : (Jvm.Cond.methodLink "WitnessesMustLieModel" (171 : Nat) ({ cls := "java/lang/Integer", name := "bitCount", desc := "(I)I" } : Jvm.MethodName)) ∈ ab_Tg := ab_t6 140 rfl rfl
theorem tw_1270 : (Jvm.Cond.methodLink "WitnessesMustLieLaw" (98 : Nat) ({ cls := "WitnessesMustLieModel", name := "slipped", desc := "()I" } : Jvm.MethodName)) ∈ ab_Tg := ab_t6 141 rfl rfl
theorem tw_1271 : (Jvm.Cond.instanceMethod ({ cls := "WitnessesMustLieModel", name := "slipped", desc := "()I" } : Jvm.MethodName)) ∈ ab_Tg := ab_t6 142 rfl rfl
theorem tw_1272 : (Jvm.Cond.selects "WitnessesMustLieModel" ({ cls := "WitnessesMustLieModel", name := "slipped", desc := "()I" } : Jvm.MethodName) ({ cls := "WitnessesMustLieModel", name := "slipped", desc := "()I" } : Jvm.MethodName)) ∈ ab_Tg := ab_t6 143 rfl rfl
theorem tw_1273 : (Jvm.Cond.code ({ cls := "WitnessesMustLieModel", name := "slipped", desc := "()I" } : Jvm.MethodName) prog_14_method_45_code (6 : Nat) (Option.some Jvm.ClassFile.FieldType.int)) ∈ ab_Tg := ab_t6 144 rfl rfl
theorem tw_1274 : (Jvm.Cond.methodLink "WitnessesMustLieLaw" (102 : Nat) ({ cls := "WitnessesMustLieModel", name := "ask", desc := "()I" } : Jvm.MethodName)) ∈ ab_Tg := ab_t6 145 rfl rfl
theorem tw_1275 : (Jvm.Cond.instanceMethod ({ cls := "WitnessesMustLieModel", name := "ask", desc := "()I" } : Jvm.MethodName)) ∈ ab_Tg := ab_t6 146 rfl rfl
theorem tw_1276 : (Jvm.Cond.selects "WitnessesMustLieModel" ({ cls := "WitnessesMustLieModel", name := "ask", desc := "()I" } : Jvm.MethodName) ({ cls := "WitnessesMustLieModel", name := "ask", desc := "()I" } : Jvm.MethodName)) ∈ ab_Tg := ab_t6 147 rfl rfl
theorem tw_1277 : (Jvm.Cond.code ({ cls := "WitnessesMustLieModel", name := "ask", desc := "()I" } : Jvm.MethodName) prog_14_method_46_code (8 : Nat) (Option.some Jvm.ClassFile.FieldType.int)) ∈ ab_Tg := ab_t6 148 rfl rfl
theorem tw_1278 : (Jvm.Cond.methodLink "WitnessesMustLieModel" (176 : Nat) ({ cls := "java/lang/Math", name := "min", desc := "(II)I" } : Jvm.MethodName)) ∈ ab_Tg := ab_t6 149 rfl rfl
theorem tw_1279 : (Jvm.Cond.methodLink "WitnessesMustLieLaw" (106 : Nat) ({ cls := "WitnessesMustLieModel", name := "plain", desc := "()I" } : Jvm.MethodName)) ∈ ab_Tg := ab_t6 150 rfl rfl
theorem tw_1280 : (Jvm.Cond.instanceMethod ({ cls := "WitnessesMustLieModel", name := "plain", desc := "()I" } : Jvm.MethodName)) ∈ ab_Tg := ab_t6 151 rfl rfl
theorem tw_1281 : (Jvm.Cond.selects "WitnessesMustLieModel" ({ cls := "WitnessesMustLieModel", name := "plain", desc := "()I" } : Jvm.MethodName) ({ cls := "WitnessesMustLieModel", name := "plain", desc := "()I" } : Jvm.MethodName)) ∈ ab_Tg := ab_t6 152 rfl rfl
theorem tw_1282 : (Jvm.Cond.code ({ cls := "WitnessesMustLieModel", name := "plain", desc := "()I" } : Jvm.MethodName) prog_14_method_49_code (3 : Nat) (Option.some Jvm.ClassFile.FieldType.int)) ∈ ab_Tg := ab_t6 153 rfl rfl
theorem tw_1283 : (Jvm.Cond.methodLink "WitnessesMustLieModel" (184 : Nat) ({ cls := "WitnessesMustLieModel", name := "isPlain", desc := "(I)Z" } : Jvm.MethodName)) ∈ ab_Tg := ab_t6 154 rfl rfl
theorem tw_1284 : (Jvm.Cond.instanceMethod ({ cls := "WitnessesMustLieModel", name := "isPlain", desc := "(I)Z" } : Jvm.MethodName)) ∈ ab_Tg := ab_t6 156 rfl rfl
theorem tw_1285 : (Jvm.Cond.code ({ cls := "WitnessesMustLieModel", name := "isPlain", desc := "(I)Z" } : Jvm.MethodName) prog_14_method_48_code (2 : Nat) (Option.some Jvm.ClassFile.FieldType.boolean)) ∈ ab_Tg := ab_t6 157 rfl rfl
theorem tw_1286 : (Jvm.Cond.methodLink "WitnessesMustLieModel" (181 : Nat) ({ cls := "WitnessesMustLieModel", name := "saidBy", desc := "(I)I" } : Jvm.MethodName)) ∈ ab_Tg := ab_t6 158 rfl rfl
theorem tw_1287 : (Jvm.Cond.instanceMethod ({ cls := "WitnessesMustLieModel", name := "saidBy", desc := "(I)I" } : Jvm.MethodName)) ∈ ab_Tg := ab_t6 160 rfl rfl
theorem tw_1288 : (Jvm.Cond.code ({ cls := "WitnessesMustLieModel", name := "saidBy", desc := "(I)I" } : Jvm.MethodName) prog_14_method_47_code (4 : Nat) (Option.some Jvm.ClassFile.FieldType.int)) ∈ ab_Tg := ab_t6 161 rfl rfl
theorem tw_1289 : (Jvm.Cond.methodLink "WitnessesMustLieLaw" (110 : Nat) ({ cls := "WitnessesMustLieModel", name := "order", desc := "(I)I" } : Jvm.MethodName)) ∈ ab_Tg := ab_t6 162 rfl rfl
theorem tw_1290 : (Jvm.Cond.instanceMethod ({ cls := "WitnessesMustLieModel", name := "order", desc := "(I)I" } : Jvm.MethodName)) ∈ ab_Tg := ab_t6 163 rfl rfl
theorem tw_1291 : (Jvm.Cond.selects "WitnessesMustLieModel" ({ cls := "WitnessesMustLieModel", name := "order", desc := "(I)I" } : Jvm.MethodName) ({ cls := "WitnessesMustLieModel", name := "order", desc := "(I)I" } : Jvm.MethodName)) ∈ ab_Tg := ab_t6 164 rfl rfl
theorem tw_1292 : (Jvm.Cond.code ({ cls := "WitnessesMustLieModel", name := "order", desc := "(I)I" } : Jvm.MethodName) prog_14_method_50_code (7 : Nat) (Option.some Jvm.ClassFile.FieldType.int)) ∈ ab_Tg := ab_t6 165 rfl rfl
theorem tw_1293 : (Jvm.Cond.methodLink "WitnessesMustLieModel" (187 : Nat) ({ cls := "WitnessesMustLieModel", name := "plain", desc := "()I" } : Jvm.MethodName)) ∈ ab_Tg := ab_t6 166 rfl rfl
theorem tw_1294 : (Jvm.Cond.methodLink "WitnessesMustLieLaw" (114 : Nat) ({ cls := "WitnessesMustLieModel", name := "without", desc := "(I)I" } : Jvm.MethodName)) ∈ ab_Tg := ab_t6 167 rfl rfl
theorem tw_1295 : (Jvm.Cond.instanceMethod ({ cls := "WitnessesMustLieModel", name := "without", desc := "(I)I" } : Jvm.MethodName)) ∈ ab_Tg := ab_t6 168 rfl rfl
theorem tw_1296 : (Jvm.Cond.selects "WitnessesMustLieModel" ({ cls := "WitnessesMustLieModel", name := "without", desc := "(I)I" } : Jvm.MethodName) ({ cls := "WitnessesMustLieModel", name := "without", desc := "(I)I" } : Jvm.MethodName)) ∈ ab_Tg := ab_t6 169 rfl rfl
theorem tw_1297 : (Jvm.Cond.code ({ cls := "WitnessesMustLieModel", name := "without", desc := "(I)I" } : Jvm.MethodName) prog_14_method_51_code (2 : Nat) (Option.some Jvm.ClassFile.FieldType.int)) ∈ ab_Tg := ab_t6 170 rfl rfl
theorem tw_1298 : (Jvm.Cond.methodLink "WitnessesMustLieLaw" (118 : Nat) ({ cls := "WitnessesMustLieModel", name := "lie", desc := "(II)I" } : Jvm.MethodName)) ∈ ab_Tg := ab_t6 171 rfl rfl
theorem tw_1299 : (Jvm.Cond.instanceMethod ({ cls := "WitnessesMustLieModel", name := "lie", desc := "(II)I" } : Jvm.MethodName)) ∈ ab_Tg := ab_t6 172 rfl rfl
theorem tw_1300 : (Jvm.Cond.selects "WitnessesMustLieModel" ({ cls := "WitnessesMustLieModel", name := "lie", desc := "(II)I" } : Jvm.MethodName) ({ cls := "WitnessesMustLieModel", name := "lie", desc := "(II)I" } : Jvm.MethodName)) ∈ ab_Tg := ab_t6 173 rfl rfl
theorem tw_1301 : (Jvm.Cond.code ({ cls := "WitnessesMustLieModel", name := "lie", desc := "(II)I" } : Jvm.MethodName) prog_14_method_54_code (11 : Nat) (Option.some Jvm.ClassFile.FieldType.int)) ∈ ab_Tg := ab_t6 174 rfl rfl
theorem tw_1302 : (Jvm.Cond.methodLink "WitnessesMustLieModel" (190 : Nat) ({ cls := "WitnessesMustLieModel", name := "plainSaying", desc := "(I)I" } : Jvm.MethodName)) ∈ ab_Tg := ab_t6 175 rfl rfl
theorem tw_1303 : (Jvm.Cond.static ({ cls := "WitnessesMustLieModel", name := "plainSaying", desc := "(I)I" } : Jvm.MethodName)) ∈ ab_Tg := ab_t6 176 rfl rfl
theorem tw_1304 : (Jvm.Cond.code ({ cls := "WitnessesMustLieModel", name := "plainSaying", desc := "(I)I" } : Jvm.MethodName) prog_14_method_53_code (1 : Nat) (Option.some Jvm.ClassFile.FieldType.int)) ∈ ab_Tg := ab_t6 177 rfl rfl
theorem tw_1305 : (Jvm.Cond.methodLink "WitnessesMustLieModel" (193 : Nat) ({ cls := "WitnessesMustLieModel", name := "isLie", desc := "(II)Z" } : Jvm.MethodName)) ∈ ab_Tg := ab_t6 178 rfl rfl
theorem tw_1306 : (Jvm.Cond.instanceMethod ({ cls := "WitnessesMustLieModel", name := "isLie", desc := "(II)Z" } : Jvm.MethodName)) ∈ ab_Tg := ab_t6 180 rfl rfl
theorem tw_1307 : (Jvm.Cond.code ({ cls := "WitnessesMustLieModel", name := "isLie", desc := "(II)Z" } : Jvm.MethodName) prog_14_method_52_code (3 : Nat) (Option.some Jvm.ClassFile.FieldType.boolean)) ∈ ab_Tg := ab_t6 181 rfl rfl
theorem tw_1308 : (Jvm.Cond.methodLink "WitnessesMustLieLaw" (122 : Nat) ({ cls := "WitnessesMustLieModel", name := "twoLies", desc := "(II)I" } : Jvm.MethodName)) ∈ ab_Tg := ab_t6 182 rfl rfl
theorem tw_1309 : (Jvm.Cond.instanceMethod ({ cls := "WitnessesMustLieModel", name := "twoLies", desc := "(II)I" } : Jvm.MethodName)) ∈ ab_Tg := ab_t6 183 rfl rfl
theorem tw_1310 : (Jvm.Cond.selects "WitnessesMustLieModel" ({ cls := "WitnessesMustLieModel", name := "twoLies", desc := "(II)I" } : Jvm.MethodName) ({ cls := "WitnessesMustLieModel", name := "twoLies", desc := "(II)I" } : Jvm.MethodName)) ∈ ab_Tg := ab_t6 184 rfl rfl
theorem tw_1311 : (Jvm.Cond.code ({ cls := "WitnessesMustLieModel", name := "twoLies", desc := "(II)I" } : Jvm.MethodName) prog_14_method_55_code (10 : Nat) (Option.some Jvm.ClassFile.FieldType.int)) ∈ ab_Tg := ab_t6 185 rfl rfl
theorem tw_1312 : (Jvm.Cond.methodLink "WitnessesMustLieModel" (196 : Nat) ({ cls := "java/lang/Math", name := "max", desc := "(II)I" } : Jvm.MethodName)) ∈ ab_Tg := ab_t6 186 rfl rfl
theorem tw_1313 : (Jvm.Cond.methodLink "WitnessesMustLieLaw" (126 : Nat) ({ cls := "WitnessesMustLieModel", name := "tells", desc := "(III)I" } : Jvm.MethodName)) ∈ ab_Tg := ab_t6 187 rfl rfl
theorem tw_1314 : (Jvm.Cond.instanceMethod ({ cls := "WitnessesMustLieModel", name := "tells", desc := "(III)I" } : Jvm.MethodName)) ∈ ab_Tg := ab_t6 188 rfl rfl
theorem tw_1315 : (Jvm.Cond.selects "WitnessesMustLieModel" ({ cls := "WitnessesMustLieModel", name := "tells", desc := "(III)I" } : Jvm.MethodName) ({ cls := "WitnessesMustLieModel", name := "tells", desc := "(III)I" } : Jvm.MethodName)) ∈ ab_Tg := ab_t6 189 rfl rfl
theorem tw_1316 : (Jvm.Cond.code ({ cls := "WitnessesMustLieModel", name := "tells", desc := "(III)I" } : Jvm.MethodName) prog_14_method_56_code (5 : Nat) (Option.some Jvm.ClassFile.FieldType.int)) ∈ ab_Tg := ab_t6 190 rfl rfl
theorem tw_1317 : (Jvm.Cond.methodLink "WitnessesMustLieLaw" (130 : Nat) ({ cls := "WitnessesMustLieModel", name := "verdict", desc := "()I" } : Jvm.MethodName)) ∈ ab_Tg := ab_t6 191 rfl rfl
theorem tw_1318 : (Jvm.Cond.instanceMethod ({ cls := "WitnessesMustLieModel", name := "verdict", desc := "()I" } : Jvm.MethodName)) ∈ ab_Tg := ab_t6 192 rfl rfl
theorem tw_1319 : (Jvm.Cond.selects "WitnessesMustLieModel" ({ cls := "WitnessesMustLieModel", name := "verdict", desc := "()I" } : Jvm.MethodName) ({ cls := "WitnessesMustLieModel", name := "verdict", desc := "()I" } : Jvm.MethodName)) ∈ ab_Tg := ab_t6 193 rfl rfl
theorem tw_1320 : (Jvm.Cond.code ({ cls := "WitnessesMustLieModel", name := "verdict", desc := "()I" } : Jvm.MethodName) prog_14_method_57_code (3 : Nat) (Option.some Jvm.ClassFile.FieldType.int)) ∈ ab_Tg := ab_t6 194 rfl rfl
theorem tw_1321 : (Jvm.Cond.methodLink "WitnessesMustLieLaw" (134 : Nat) ({ cls := "WitnessesMustLieModel", name := "certain", desc := "(I)I" } : Jvm.MethodName)) ∈ ab_Tg := ab_t6 195 rfl rfl
theorem tw_1322 : (Jvm.Cond.instanceMethod ({ cls := "WitnessesMustLieModel", name := "certain", desc := "(I)I" } : Jvm.MethodName)) ∈ ab_Tg := ab_t6 196 rfl rfl
theorem tw_1323 : (Jvm.Cond.selects "WitnessesMustLieModel" ({ cls := "WitnessesMustLieModel", name := "certain", desc := "(I)I" } : Jvm.MethodName) ({ cls := "WitnessesMustLieModel", name := "certain", desc := "(I)I" } : Jvm.MethodName)) ∈ ab_Tg := ab_t6 197 rfl rfl
theorem tw_1324 : (Jvm.Cond.code ({ cls := "WitnessesMustLieModel", name := "certain", desc := "(I)I" } : Jvm.MethodName) prog_14_method_60_code (2 : Nat) (Option.some Jvm.ClassFile.FieldType.int)) ∈ ab_Tg := ab_t6 198 rfl rfl
theorem tw_1325 : (Jvm.Cond.methodLink "WitnessesMustLieModel" (199 : Nat) ({ cls := "WitnessesMustLieModel", name := "like", desc := "(JII)J" } : Jvm.MethodName)) ∈ ab_Tg := ab_t6 199 rfl rfl
theorem tw_1326 : (Jvm.Cond.instanceMethod ({ cls := "WitnessesMustLieModel", name := "like", desc := "(JII)J" } : Jvm.MethodName)) ∈ ab_Tg := ab_t6 201 rfl rfl
theorem tw_1327 : (Jvm.Cond.code ({ cls := "WitnessesMustLieModel", name := "like", desc := "(JII)J" } : Jvm.MethodName) prog_14_method_58_code (8 : Nat) (Option.some Jvm.ClassFile.FieldType.long)) ∈ ab_Tg := ab_t6 202 rfl rfl
theorem tw_1328 : (Jvm.Cond.methodLink "WitnessesMustLieModel" (203 : Nat) ({ cls := "WitnessesMustLieModel", name := "alike", desc := "(J)I" } : Jvm.MethodName)) ∈ ab_Tg := ab_t6 203 rfl rfl
theorem tw_1329 : (Jvm.Cond.static ({ cls := "WitnessesMustLieModel", name := "alike", desc := "(J)I" } : Jvm.MethodName)) ∈ ab_Tg := ab_t6 204 rfl rfl
theorem tw_1330 : (Jvm.Cond.code ({ cls := "WitnessesMustLieModel", name := "alike", desc := "(J)I" } : Jvm.MethodName) prog_14_method_59_code (2 : Nat) (Option.some Jvm.ClassFile.FieldType.int)) ∈ ab_Tg := ab_t6 205 rfl rfl
theorem tw_1331 : (Jvm.Cond.methodLink "WitnessesMustLieLaw" (138 : Nat) ({ cls := "WitnessesMustLieModel", name := "knowsOf", desc := "(II)I" } : Jvm.MethodName)) ∈ ab_Tg := ab_t6 206 rfl rfl
theorem tw_1332 : (Jvm.Cond.instanceMethod ({ cls := "WitnessesMustLieModel", name := "knowsOf", desc := "(II)I" } : Jvm.MethodName)) ∈ ab_Tg := ab_t6 207 rfl rfl
theorem tw_1333 : (Jvm.Cond.selects "WitnessesMustLieModel" ({ cls := "WitnessesMustLieModel", name := "knowsOf", desc := "(II)I" } : Jvm.MethodName) ({ cls := "WitnessesMustLieModel", name := "knowsOf", desc := "(II)I" } : Jvm.MethodName)) ∈ ab_Tg := ab_t6 208 rfl rfl
theorem tw_1334 : (Jvm.Cond.code ({ cls := "WitnessesMustLieModel", name := "knowsOf", desc := "(II)I" } : Jvm.MethodName) prog_14_method_61_code (9 : Nat) (Option.some Jvm.ClassFile.FieldType.int)) ∈ ab_Tg := ab_t6 209 rfl rfl
theorem tw_1335 : (Jvm.Cond.methodLink "WitnessesMustLieLaw" (142 : Nat) ({ cls := "WitnessesMustLieModel", name := "allKnow", desc := "(I)I" } : Jvm.MethodName)) ∈ ab_Tg := ab_t6 210 rfl rfl
theorem tw_1336 : (Jvm.Cond.instanceMethod ({ cls := "WitnessesMustLieModel", name := "allKnow", desc := "(I)I" } : Jvm.MethodName)) ∈ ab_Tg := ab_t6 211 rfl rfl
theorem tw_1337 : (Jvm.Cond.selects "WitnessesMustLieModel" ({ cls := "WitnessesMustLieModel", name := "allKnow", desc := "(I)I" } : Jvm.MethodName) ({ cls := "WitnessesMustLieModel", name := "allKnow", desc := "(I)I" } : Jvm.MethodName)) ∈ ab_Tg := ab_t6 212 rfl rfl
theorem tw_1338 : (Jvm.Cond.code ({ cls := "WitnessesMustLieModel", name := "allKnow", desc := "(I)I" } : Jvm.MethodName) prog_14_method_62_code (11 : Nat) (Option.some Jvm.ClassFile.FieldType.int)) ∈ ab_Tg := ab_t6 213 rfl rfl
theorem tw_1339 : (Jvm.Cond.methodLink "WitnessesMustLieLaw" (147 : Nat) ({ cls := "WitnessesMustLieModel", name := "pencils", desc := "(III)J" } : Jvm.MethodName)) ∈ ab_Tg := ab_t6 214 rfl rfl
theorem tw_1340 : (Jvm.Cond.instanceMethod ({ cls := "WitnessesMustLieModel", name := "pencils", desc := "(III)J" } : Jvm.MethodName)) ∈ ab_Tg := ab_t6 215 rfl rfl
theorem tw_1341 : (Jvm.Cond.selects "WitnessesMustLieModel" ({ cls := "WitnessesMustLieModel", name := "pencils", desc := "(III)J" } : Jvm.MethodName) ({ cls := "WitnessesMustLieModel", name := "pencils", desc := "(III)J" } : Jvm.MethodName)) ∈ ab_Tg := ab_t6 216 rfl rfl
theorem tw_1342 : (Jvm.Cond.code ({ cls := "WitnessesMustLieModel", name := "pencils", desc := "(III)J" } : Jvm.MethodName) prog_14_method_64_code (10 : Nat) (Option.some Jvm.ClassFile.FieldType.long)) ∈ ab_Tg := ab_t6 217 rfl rfl
theorem tw_1343 : (Jvm.Cond.constantLong "WitnessesMustLieModel" (213 : Nat) (1000000000000 : Int64)) ∈ ab_Tg := ab_t6 218 rfl rfl
theorem tw_1344 : (Jvm.Cond.methodLink "WitnessesMustLieModel" (215 : Nat) ({ cls := "WitnessesMustLieModel", name := "part", desc := "(I)J" } : Jvm.MethodName)) ∈ ab_Tg := ab_t6 219 rfl rfl
theorem tw_1345 : (Jvm.Cond.instanceMethod ({ cls := "WitnessesMustLieModel", name := "part", desc := "(I)J" } : Jvm.MethodName)) ∈ ab_Tg := ab_t6 221 rfl rfl
theorem tw_1346 : (Jvm.Cond.code ({ cls := "WitnessesMustLieModel", name := "part", desc := "(I)J" } : Jvm.MethodName) prog_14_method_63_code (8 : Nat) (Option.some Jvm.ClassFile.FieldType.long)) ∈ ab_Tg := ab_t6 222 rfl rfl
theorem tw_1347 : (Jvm.Cond.methodLink "WitnessesMustLieLaw" (151 : Nat) ({ cls := "WitnessesMustLieModel", name := "fits", desc := "(I)J" } : Jvm.MethodName)) ∈ ab_Tg := ab_t6 223 rfl rfl
theorem tw_1348 : (Jvm.Cond.instanceMethod ({ cls := "WitnessesMustLieModel", name := "fits", desc := "(I)J" } : Jvm.MethodName)) ∈ ab_Tg := ab_t6 224 rfl rfl
theorem tw_1349 : (Jvm.Cond.selects "WitnessesMustLieModel" ({ cls := "WitnessesMustLieModel", name := "fits", desc := "(I)J" } : Jvm.MethodName) ({ cls := "WitnessesMustLieModel", name := "fits", desc := "(I)J" } : Jvm.MethodName)) ∈ ab_Tg := ab_t6 225 rfl rfl
theorem tw_1350 : (Jvm.Cond.code ({ cls := "WitnessesMustLieModel", name := "fits", desc := "(I)J" } : Jvm.MethodName) prog_14_method_67_code (7 : Nat) (Option.some Jvm.ClassFile.FieldType.long)) ∈ ab_Tg := ab_t6 226 rfl rfl
theorem tw_1351 : (Jvm.Cond.methodLink "WitnessesMustLieModel" (223 : Nat) ({ cls := "WitnessesMustLieModel", name := "noRow", desc := "(I)I" } : Jvm.MethodName)) ∈ ab_Tg := ab_t6 227 rfl rfl
theorem tw_1352 : (Jvm.Cond.instanceMethod ({ cls := "WitnessesMustLieModel", name := "noRow", desc := "(I)I" } : Jvm.MethodName)) ∈ ab_Tg := ab_t6 229 rfl rfl
theorem tw_1353 : (Jvm.Cond.code ({ cls := "WitnessesMustLieModel", name := "noRow", desc := "(I)I" } : Jvm.MethodName) prog_14_method_66_code (2 : Nat) (Option.some Jvm.ClassFile.FieldType.int)) ∈ ab_Tg := ab_t6 230 rfl rfl
theorem tw_1354 : (Jvm.Cond.constantLong "WitnessesMustLieModel" (226 : Nat) (4000000000000000000 : Int64)) ∈ ab_Tg := ab_t6 231 rfl rfl
theorem tw_1355 : (Jvm.Cond.constantLong "WitnessesMustLieModel" (228 : Nat) (4000000000000000013 : Int64)) ∈ ab_Tg := ab_t6 232 rfl rfl
theorem tw_1356 : (Jvm.Cond.methodLink "WitnessesMustLieModel" (230 : Nat) ({ cls := "WitnessesMustLieModel", name := "leastOf", desc := "(I)I" } : Jvm.MethodName)) ∈ ab_Tg := ab_t6 233 rfl rfl
theorem tw_1357 : (Jvm.Cond.instanceMethod ({ cls := "WitnessesMustLieModel", name := "leastOf", desc := "(I)I" } : Jvm.MethodName)) ∈ ab_Tg := ab_t6 235 rfl rfl
theorem tw_1358 : (Jvm.Cond.code ({ cls := "WitnessesMustLieModel", name := "leastOf", desc := "(I)I" } : Jvm.MethodName) prog_14_method_65_code (2 : Nat) (Option.some Jvm.ClassFile.FieldType.int)) ∈ ab_Tg := ab_t6 236 rfl rfl
theorem tw_1359 : (Jvm.Cond.constant "WitnessesMustLieModel" (222 : Nat) (-2147483648 : Int32)) ∈ ab_Tg := ab_t6 237 rfl rfl
theorem tw_1360 : (Jvm.Cond.methodLink "WitnessesMustLieLaw" (155 : Nat) ({ cls := "WitnessesMustLieModel", name := "judge", desc := "(I)I" } : Jvm.MethodName)) ∈ ab_Tg := ab_t6 238 rfl rfl
theorem tw_1361 : (Jvm.Cond.instanceMethod ({ cls := "WitnessesMustLieModel", name := "judge", desc := "(I)I" } : Jvm.MethodName)) ∈ ab_Tg := ab_t6 239 rfl rfl
theorem tw_1362 : (Jvm.Cond.selects "WitnessesMustLieModel" ({ cls := "WitnessesMustLieModel", name := "judge", desc := "(I)I" } : Jvm.MethodName) ({ cls := "WitnessesMustLieModel", name := "judge", desc := "(I)I" } : Jvm.MethodName)) ∈ ab_Tg := ab_t7 0 rfl rfl
theorem tw_1363 : (Jvm.Cond.code ({ cls := "WitnessesMustLieModel", name := "judge", desc := "(I)I" } : Jvm.MethodName) prog_14_method_68_code (5 : Nat) (Option.some Jvm.ClassFile.FieldType.int)) ∈ ab_Tg := ab_t7 1 rfl rfl
theorem tw_1364 : (Jvm.Cond.methodLink "WitnessesMustLieLaw" (159 : Nat) ({ cls := "WitnessesMustLieModel", name := "seeds", desc := "(III)I" } : Jvm.MethodName)) ∈ ab_Tg := ab_t7 2 rfl rfl
theorem tw_1365 : (Jvm.Cond.instanceMethod ({ cls := "WitnessesMustLieModel", name := "seeds", desc := "(III)I" } : Jvm.MethodName)) ∈ ab_Tg := ab_t7 3 rfl rfl
theorem tw_1366 : (Jvm.Cond.selects "WitnessesMustLieModel" ({ cls := "WitnessesMustLieModel", name := "seeds", desc := "(III)I" } : Jvm.MethodName) ({ cls := "WitnessesMustLieModel", name := "seeds", desc := "(III)I" } : Jvm.MethodName)) ∈ ab_Tg := ab_t7 4 rfl rfl
theorem tw_1367 : (Jvm.Cond.code ({ cls := "WitnessesMustLieModel", name := "seeds", desc := "(III)I" } : Jvm.MethodName) prog_14_method_69_code (10 : Nat) (Option.some Jvm.ClassFile.FieldType.int)) ∈ ab_Tg := ab_t7 5 rfl rfl
theorem tw_1368 : (Jvm.Cond.constant "WitnessesMustLieModel" (233 : Nat) (1103515245 : Int32)) ∈ ab_Tg := ab_t7 6 rfl rfl
theorem tw_1369 : (Jvm.Cond.constant "WitnessesMustLieModel" (234 : Nat) (2147483647 : Int32)) ∈ ab_Tg := ab_t7 7 rfl rfl
theorem tw_1370 : (Jvm.Cond.constant "WitnessesMustLieModel" (235 : Nat) (65536 : Int32)) ∈ ab_Tg := ab_t7 8 rfl rfl
theorem tw_1371 : (Jvm.Cond.methodLink "WitnessesMustLieLaw" (163 : Nat) ({ cls := "WitnessesMustLieModel", name := "image", desc := "()I" } : Jvm.MethodName)) ∈ ab_Tg := ab_t7 9 rfl rfl
theorem tw_1372 : (Jvm.Cond.instanceMethod ({ cls := "WitnessesMustLieModel", name := "image", desc := "()I" } : Jvm.MethodName)) ∈ ab_Tg := ab_t7 10 rfl rfl
theorem tw_1373 : (Jvm.Cond.selects "WitnessesMustLieModel" ({ cls := "WitnessesMustLieModel", name := "image", desc := "()I" } : Jvm.MethodName) ({ cls := "WitnessesMustLieModel", name := "image", desc := "()I" } : Jvm.MethodName)) ∈ ab_Tg := ab_t7 11 rfl rfl
theorem tw_1374 : (Jvm.Cond.code ({ cls := "WitnessesMustLieModel", name := "image", desc := "()I" } : Jvm.MethodName) prog_14_method_72_code (1 : Nat) (Option.some Jvm.ClassFile.FieldType.int)) ∈ ab_Tg := ab_t7 12 rfl rfl
theorem tw_1375 : (Jvm.Cond.methodLink "WitnessesMustLieLaw" (167 : Nat) ({ cls := "WitnessesMustLieModel", name := "restore", desc := "()I" } : Jvm.MethodName)) ∈ ab_Tg := ab_t7 13 rfl rfl
theorem tw_1376 : (Jvm.Cond.instanceMethod ({ cls := "WitnessesMustLieModel", name := "restore", desc := "()I" } : Jvm.MethodName)) ∈ ab_Tg := ab_t7 14 rfl rfl
theorem tw_1377 : (Jvm.Cond.selects "WitnessesMustLieModel" ({ cls := "WitnessesMustLieModel", name := "restore", desc := "()I" } : Jvm.MethodName) ({ cls := "WitnessesMustLieModel", name := "restore", desc := "()I" } : Jvm.MethodName)) ∈ ab_Tg := ab_t7 15 rfl rfl
theorem tw_1378 : (Jvm.Cond.code ({ cls := "WitnessesMustLieModel", name := "restore", desc := "()I" } : Jvm.MethodName) prog_14_method_73_code (1 : Nat) (Option.some Jvm.ClassFile.FieldType.int)) ∈ ab_Tg := ab_t7 16 rfl rfl
theorem tw_1379 : (Jvm.Cond.methodLink "WitnessesMustLieLaw" (171 : Nat) ({ cls := "WitnessesMustLieModel", name := "count", desc := "(I)I" } : Jvm.MethodName)) ∈ ab_Tg := ab_t7 17 rfl rfl
theorem tw_1380 : (Jvm.Cond.instanceMethod ({ cls := "WitnessesMustLieModel", name := "count", desc := "(I)I" } : Jvm.MethodName)) ∈ ab_Tg := ab_t7 18 rfl rfl
theorem tw_1381 : (Jvm.Cond.selects "WitnessesMustLieModel" ({ cls := "WitnessesMustLieModel", name := "count", desc := "(I)I" } : Jvm.MethodName) ({ cls := "WitnessesMustLieModel", name := "count", desc := "(I)I" } : Jvm.MethodName)) ∈ ab_Tg := ab_t7 19 rfl rfl
theorem tw_1382 : (Jvm.Cond.code ({ cls := "WitnessesMustLieModel", name := "count", desc := "(I)I" } : Jvm.MethodName) prog_14_method_74_code (4 : Nat) (Option.some Jvm.ClassFile.FieldType.int)) ∈ ab_Tg := ab_t7 20 rfl rfl
theorem tw_1383 : (Jvm.Cond.methodLink "WitnessesMustLieLaw" (175 : Nat) ({ cls := "WitnessesMustLieModel", name := "keep", desc := "(IIII)I" } : Jvm.MethodName)) ∈ ab_Tg := ab_t7 21 rfl rfl
theorem tw_1384 : (Jvm.Cond.instanceMethod ({ cls := "WitnessesMustLieModel", name := "keep", desc := "(IIII)I" } : Jvm.MethodName)) ∈ ab_Tg := ab_t7 22 rfl rfl
theorem tw_1385 : (Jvm.Cond.selects "WitnessesMustLieModel" ({ cls := "WitnessesMustLieModel", name := "keep", desc := "(IIII)I" } : Jvm.MethodName) ({ cls := "WitnessesMustLieModel", name := "keep", desc := "(IIII)I" } : Jvm.MethodName)) ∈ ab_Tg := ab_t7 23 rfl rfl
theorem tw_1386 : (Jvm.Cond.code ({ cls := "WitnessesMustLieModel", name := "keep", desc := "(IIII)I" } : Jvm.MethodName) prog_14_method_75_code (5 : Nat) (Option.some Jvm.ClassFile.FieldType.int)) ∈ ab_Tg := ab_t7 24 rfl rfl
theorem tw_1387 : (Jvm.Cond.methodLink "WitnessesMustLieLaw" (179 : Nat) ({ cls := "WitnessesMustLieModel", name := "row", desc := "(III)I" } : Jvm.MethodName)) ∈ ab_Tg := ab_t7 25 rfl rfl
theorem tw_1388 : (Jvm.Cond.instanceMethod ({ cls := "WitnessesMustLieModel", name := "row", desc := "(III)I" } : Jvm.MethodName)) ∈ ab_Tg := ab_t7 26 rfl rfl
theorem tw_1389 : (Jvm.Cond.selects "WitnessesMustLieModel" ({ cls := "WitnessesMustLieModel", name := "row", desc := "(III)I" } : Jvm.MethodName) ({ cls := "WitnessesMustLieModel", name := "row", desc := "(III)I" } : Jvm.MethodName)) ∈ ab_Tg := ab_t7 27 rfl rfl
theorem tw_1390 : (Jvm.Cond.code ({ cls := "WitnessesMustLieModel", name := "row", desc := "(III)I" } : Jvm.MethodName) prog_14_method_76_code (5 : Nat) (Option.some Jvm.ClassFile.FieldType.int)) ∈ ab_Tg := ab_t7 28 rfl rfl
theorem tw_1391 : (Jvm.Cond.methodLink "WitnessesMustLieLaw" (183 : Nat) ({ cls := "WitnessesMustLieModel", name := "put", desc := "(III)I" } : Jvm.MethodName)) ∈ ab_Tg := ab_t7 29 rfl rfl
theorem tw_1392 : (Jvm.Cond.instanceMethod ({ cls := "WitnessesMustLieModel", name := "put", desc := "(III)I" } : Jvm.MethodName)) ∈ ab_Tg := ab_t7 30 rfl rfl
theorem tw_1393 : (Jvm.Cond.selects "WitnessesMustLieModel" ({ cls := "WitnessesMustLieModel", name := "put", desc := "(III)I" } : Jvm.MethodName) ({ cls := "WitnessesMustLieModel", name := "put", desc := "(III)I" } : Jvm.MethodName)) ∈ ab_Tg := ab_t7 31 rfl rfl
theorem tw_1394 : (Jvm.Cond.code ({ cls := "WitnessesMustLieModel", name := "put", desc := "(III)I" } : Jvm.MethodName) prog_14_method_77_code (5 : Nat) (Option.some Jvm.ClassFile.FieldType.int)) ∈ ab_Tg := ab_t7 32 rfl rfl
theorem tw_1395 : (Jvm.Cond.methodLink "WitnessesMustLieLaw" (190 : Nat) ({ cls := "WitnessesMustLieModel", name := "thrown", desc := "()I" } : Jvm.MethodName)) ∈ ab_Tg := ab_t7 33 rfl rfl
theorem tw_1396 : (Jvm.Cond.instanceMethod ({ cls := "WitnessesMustLieModel", name := "thrown", desc := "()I" } : Jvm.MethodName)) ∈ ab_Tg := ab_t7 34 rfl rfl
theorem tw_1397 : (Jvm.Cond.selects "WitnessesMustLieModel" ({ cls := "WitnessesMustLieModel", name := "thrown", desc := "()I" } : Jvm.MethodName) ({ cls := "WitnessesMustLieModel", name := "thrown", desc := "()I" } : Jvm.MethodName)) ∈ ab_Tg := ab_t7 35 rfl rfl
theorem tw_1398 : (Jvm.Cond.code ({ cls := "WitnessesMustLieModel", name := "thrown", desc := "()I" } : Jvm.MethodName) prog_14_method_78_code (1 : Nat) (Option.some Jvm.ClassFile.FieldType.int)) ∈ ab_Tg := ab_t7 36 rfl rfl
theorem tw_1399 : (Jvm.Cond.methodLink "WitnessesMustLieLaw" (189 : Nat) ({ cls := "WitnessesMustLieModel", name := "element", desc := "(II)J" } : Jvm.MethodName)) ∈ ab_Tg := ab_t7 37 rfl rfl
theorem tw_1400 : (Jvm.Cond.instanceMethod ({ cls := "WitnessesMustLieModel", name := "element", desc := "(II)J" } : Jvm.MethodName)) ∈ ab_Tg := ab_t7 38 rfl rfl
theorem tw_1401 : (Jvm.Cond.selects "WitnessesMustLieModel" ({ cls := "WitnessesMustLieModel", name := "element", desc := "(II)J" } : Jvm.MethodName) ({ cls := "WitnessesMustLieModel", name := "element", desc := "(II)J" } : Jvm.MethodName)) ∈ ab_Tg := ab_t7 39 rfl rfl
theorem tw_1402 : (Jvm.Cond.code ({ cls := "WitnessesMustLieModel", name := "element", desc := "(II)J" } : Jvm.MethodName) prog_14_method_79_code (3 : Nat) (Option.some Jvm.ClassFile.FieldType.long)) ∈ ab_Tg := ab_t7 40 rfl rfl
theorem tw_1403 : (Jvm.Cond.methodLink "WitnessesMustLieLaw" (197 : Nat) ({ cls := "WitnessesMustLieModel", name := "copy", desc := "(IIIII)I" } : Jvm.MethodName)) ∈ ab_Tg := ab_t7 41 rfl rfl
theorem tw_1404 : (Jvm.Cond.instanceMethod ({ cls := "WitnessesMustLieModel", name := "copy", desc := "(IIIII)I" } : Jvm.MethodName)) ∈ ab_Tg := ab_t7 42 rfl rfl
theorem tw_1405 : (Jvm.Cond.selects "WitnessesMustLieModel" ({ cls := "WitnessesMustLieModel", name := "copy", desc := "(IIIII)I" } : Jvm.MethodName) ({ cls := "WitnessesMustLieModel", name := "copy", desc := "(IIIII)I" } : Jvm.MethodName)) ∈ ab_Tg := ab_t7 43 rfl rfl
theorem tw_1406 : (Jvm.Cond.code ({ cls := "WitnessesMustLieModel", name := "copy", desc := "(IIIII)I" } : Jvm.MethodName) prog_14_method_80_code (7 : Nat) (Option.some Jvm.ClassFile.FieldType.int)) ∈ ab_Tg := ab_t7 44 rfl rfl
theorem tw_1407 : (Jvm.Cond.methodLink "WitnessesMustLieLaw" (201 : Nat) ({ cls := "WitnessesMustLieModel", name := "cost", desc := "(I)I" } : Jvm.MethodName)) ∈ ab_Tg := ab_t7 45 rfl rfl
theorem tw_1408 : (Jvm.Cond.instanceMethod ({ cls := "WitnessesMustLieModel", name := "cost", desc := "(I)I" } : Jvm.MethodName)) ∈ ab_Tg := ab_t7 46 rfl rfl
theorem tw_1409 : (Jvm.Cond.selects "WitnessesMustLieModel" ({ cls := "WitnessesMustLieModel", name := "cost", desc := "(I)I" } : Jvm.MethodName) ({ cls := "WitnessesMustLieModel", name := "cost", desc := "(I)I" } : Jvm.MethodName)) ∈ ab_Tg := ab_t7 47 rfl rfl
theorem tw_1410 : (Jvm.Cond.code ({ cls := "WitnessesMustLieModel", name := "cost", desc := "(I)I" } : Jvm.MethodName) prog_14_method_82_code (3 : Nat) (Option.some Jvm.ClassFile.FieldType.int)) ∈ ab_Tg := ab_t7 48 rfl rfl
theorem tw_1411 : (Jvm.Cond.methodLink "WitnessesMustLieModel" (243 : Nat) ({ cls := "WitnessesMustLieModel", name := "costOf", desc := "(I)I" } : Jvm.MethodName)) ∈ ab_Tg := ab_t7 49 rfl rfl
theorem tw_1412 : (Jvm.Cond.instanceMethod ({ cls := "WitnessesMustLieModel", name := "costOf", desc := "(I)I" } : Jvm.MethodName)) ∈ ab_Tg := ab_t7 51 rfl rfl
theorem tw_1413 : (Jvm.Cond.code ({ cls := "WitnessesMustLieModel", name := "costOf", desc := "(I)I" } : Jvm.MethodName) prog_14_method_81_code (2 : Nat) (Option.some Jvm.ClassFile.FieldType.int)) ∈ ab_Tg := ab_t7 52 rfl rfl
theorem tw_1414 : (Jvm.Cond.methodLink "WitnessesMustLieLaw" (205 : Nat) ({ cls := "WitnessesMustLieModel", name := "toss", desc := "(I)I" } : Jvm.MethodName)) ∈ ab_Tg := ab_t7 53 rfl rfl
theorem tw_1415 : (Jvm.Cond.instanceMethod ({ cls := "WitnessesMustLieModel", name := "toss", desc := "(I)I" } : Jvm.MethodName)) ∈ ab_Tg := ab_t7 54 rfl rfl
theorem tw_1416 : (Jvm.Cond.selects "WitnessesMustLieModel" ({ cls := "WitnessesMustLieModel", name := "toss", desc := "(I)I" } : Jvm.MethodName) ({ cls := "WitnessesMustLieModel", name := "toss", desc := "(I)I" } : Jvm.MethodName)) ∈ ab_Tg := ab_t7 55 rfl rfl
theorem tw_1417 : (Jvm.Cond.code ({ cls := "WitnessesMustLieModel", name := "toss", desc := "(I)I" } : Jvm.MethodName) prog_14_method_83_code (3 : Nat) (Option.some Jvm.ClassFile.FieldType.int)) ∈ ab_Tg := ab_t7 56 rfl rfl
theorem tw_1418 : (Jvm.Cond.sameMethod "WitnessesMustLie$Both" "WitnessesMustLie$Both" "words" "(I)I") ∈ ab_Tg := ab_t7 57 rfl rfl
theorem tw_1419 : (Jvm.Cond.sameMethod "WitnessesMustLie$Denies" "WitnessesMustLie$Denies" "words" "(I)I") ∈ ab_Tg := ab_t7 58 rfl rfl
theorem tw_1420 : (Jvm.Cond.sameMethod "WitnessesMustLie$Either" "WitnessesMustLie$Either" "words" "(I)I") ∈ ab_Tg := ab_t7 59 rfl rfl
theorem tw_1421 : (Jvm.Cond.sameMethod "WitnessesMustLie$Both" "WitnessesMustLie$Both" "price" "(I)I") ∈ ab_Tg := ab_t7 60 rfl rfl
theorem tw_1422 : (Jvm.Cond.sameMethod "WitnessesMustLie$Denies" "WitnessesMustLie$Denies" "price" "(I)I") ∈ ab_Tg := ab_t7 61 rfl rfl
theorem tw_1423 : (Jvm.Cond.sameMethod "WitnessesMustLie$Either" "WitnessesMustLie$Either" "price" "(I)I") ∈ ab_Tg := ab_t7 62 rfl rfl
theorem tw_1424 : (Jvm.Cond.sameMethod "java/lang/Throwable" "java/lang/Throwable" "fillInStackTrace" "(I)Ljava/lang/Throwable;") ∈ ab_Tg := ab_t7 63 rfl rfl
theorem tw_1425 : (Jvm.Cond.selects "WitnessesMustLie$Poet" ({ cls := "WitnessesMustLie$Poet", name := "price", desc := "(I)I" } : Jvm.MethodName) ({ cls := "WitnessesMustLie$Poet", name := "price", desc := "(I)I" } : Jvm.MethodName)) ∈ ab_Tg := ab_t7 64 rfl rfl
theorem tw_1426 : (Jvm.Cond.castable "WitnessesMustLie$Alike" "WitnessesMustLie$Says") ∈ ab_Tn := ab_n7 65 rfl rfl
theorem tw_1427 : (Jvm.Cond.castable "WitnessesMustLie$Both" "WitnessesMustLie$Says") ∈ ab_Tn := ab_n7 66 rfl rfl
theorem tw_1428 : (Jvm.Cond.castable "WitnessesMustLie$Denies" "WitnessesMustLie$Says") ∈ ab_Tn := ab_n7 67 rfl rfl
theorem tw_1429 : (Jvm.Cond.castable "WitnessesMustLie$Either" "WitnessesMustLie$Says") ∈ ab_Tn := ab_n7 68 rfl rfl
theorem tw_1430 : (Jvm.Cond.castable "WitnessesMustLie$Expert" "WitnessesMustLie$Says") ∈ ab_Tn := ab_n7 69 rfl rfl
theorem tw_1431 : (Jvm.Cond.castable "WitnessesMustLie$If" "WitnessesMustLie$Says") ∈ ab_Tn := ab_n7 70 rfl rfl
theorem tw_1432 : (Jvm.Cond.castable "WitnessesMustLie$Poet" "WitnessesMustLie$Says") ∈ ab_Tn := ab_n7 71 rfl rfl
theorem tw_1433 : (Jvm.Cond.castable "WitnessesMustLie$Shelf" "java/lang/Object") ∈ ab_Tn := ab_n7 72 rfl rfl
theorem tw_1434 : (Jvm.Cond.castable "WitnessesMustLie" "java/lang/Object") ∈ ab_Tn := ab_n7 73 rfl rfl
theorem tw_1435 : (Jvm.Cond.castable "java/util/ArrayList" "java/lang/Object") ∈ ab_Tn := ab_n7 74 rfl rfl
theorem tw_1436 : (Jvm.Cond.castable "WitnessesMustLie$Trial" "java/lang/Object") ∈ ab_Tn := ab_n7 75 rfl rfl
theorem tw_1437 : (Jvm.Cond.castable "WitnessesMustLie$Says" "java/lang/Object") ∈ ab_Tn := ab_n7 76 rfl rfl
theorem tw_1438 : (Jvm.Cond.castable "WitnessesMustLie$Denies" "java/lang/Object") ∈ ab_Tn := ab_n7 77 rfl rfl
theorem tw_1439 : (Jvm.Cond.castable "WitnessesMustLie$Both" "java/lang/Object") ∈ ab_Tn := ab_n7 78 rfl rfl
theorem tw_1440 : (Jvm.Cond.castable "WitnessesMustLie$Either" "java/lang/Object") ∈ ab_Tn := ab_n7 79 rfl rfl
theorem tw_1441 : (Jvm.Cond.castable "WitnessesMustLie$If" "java/lang/Object") ∈ ab_Tn := ab_n7 80 rfl rfl
theorem tw_1442 : (Jvm.Cond.castable "WitnessesMustLie$Alike" "java/lang/Object") ∈ ab_Tn := ab_n7 81 rfl rfl
theorem tw_1443 : (Jvm.Cond.castable "WitnessesMustLie$Expert" "java/lang/Object") ∈ ab_Tn := ab_n7 82 rfl rfl
theorem tw_1444 : (Jvm.Cond.castable "WitnessesMustLie$Poet" "java/lang/Object") ∈ ab_Tn := ab_n7 83 rfl rfl
theorem tw_1445 : (Jvm.Cond.castable "WitnessesMustLieModel" "java/lang/Object") ∈ ab_Tn := ab_n7 84 rfl rfl
theorem tw_1446 : (Jvm.Cond.castable "WitnessesMustLie$Saying" "java/lang/Object") ∈ ab_Tn := ab_n7 85 rfl rfl
theorem tw_1447 : (Jvm.Cond.castable "java/lang/IllegalArgumentException" "java/lang/Object") ∈ ab_Tn := ab_n7 86 rfl rfl
theorem tw_1448 : (Jvm.Cond.castable "java/lang/IllegalStateException" "java/lang/Object") ∈ ab_Tn := ab_n7 87 rfl rfl
theorem tw_1449 : (Jvm.Cond.castable "java/lang/Throwable" "java/lang/Object") ∈ ab_Tn := ab_n7 88 rfl rfl
theorem tw_1450 : (Jvm.Cond.castable "java/lang/String" "java/lang/Object") ∈ ab_Tn := ab_n7 89 rfl rfl
theorem tw_1451 : (Jvm.Cond.sameMethod "[Ljava/lang/Object;" "java/lang/Object" "getClass" "()Ljava/lang/Class;") ∈ ab_Tg := ab_t7 90 rfl rfl
theorem tw_1452 : (Jvm.Cond.selects "[Ljava/lang/Object;" ({ cls := "java/lang/Object", name := "getClass", desc := "()Ljava/lang/Class;" } : Jvm.MethodName) ({ cls := "java/lang/Object", name := "getClass", desc := "()Ljava/lang/Class;" } : Jvm.MethodName)) ∈ ab_Tg := ab_t7 91 rfl rfl
theorem tw_1453 : (Jvm.Cond.castable "[LWitnessesMustLie$Shelf;" "java/lang/Object") ∈ ab_Tn := ab_n7 93 rfl rfl
theorem tw_1454 : (Jvm.Cond.castable "[I" "java/lang/Object") ∈ ab_Tn := ab_n7 94 rfl rfl
theorem tw_1455 : (Jvm.Cond.castable "[J" "java/lang/Object") ∈ ab_Tn := ab_n7 95 rfl rfl
theorem tw_1456 : (Jvm.Cond.castable "[Ljava/lang/Object;" "java/lang/Object") ∈ ab_Tn := ab_n7 96 rfl rfl
theorem tw_1457 : (Jvm.Cond.castable "[B" "java/lang/Object") ∈ ab_Tn := ab_n7 97 rfl rfl
end
