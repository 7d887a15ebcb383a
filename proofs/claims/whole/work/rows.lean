section
-- ===== PART A: goes FIRST, ahead of the names: the tables' words, and 'selects' of the private methods out of them =====
/-- a private method of a class that the tables say can be made, by its rows of tables_1 -/
def lw_okq (q : MethodName × Nat) : Prop := (q.1.cls ≠ "java/lang/invoke/MethodHandle" ∧ q.1.cls ≠ "java/lang/invoke/VarHandle") ∧ Cond.instantiable q.1.cls q.2 ∈ tables_1 ∧ Cond.privateMethod q.1 ∈ tables_1 ∧ Cond.instanceMethod q.1 ∈ tables_1
theorem lw_p0 : lw_okq (⟨"java/util/ArrayList", "add", "(Ljava/lang/Object;[Ljava/lang/Object;I)V"⟩, 3) := ⟨⟨by decide +kernel, by decide +kernel⟩, List.mem_of_getElem? (i := 39) (by decide +kernel), List.mem_of_getElem? (i := 112) (by decide +kernel), List.mem_of_getElem? (i := 113) (by decide +kernel)⟩
theorem lw_p1 : lw_okq (⟨"java/util/ArrayList", "grow", "()[Ljava/lang/Object;"⟩, 3) := ⟨⟨by decide +kernel, by decide +kernel⟩, List.mem_of_getElem? (i := 39) (by decide +kernel), List.mem_of_getElem? (i := 116) (by decide +kernel), List.mem_of_getElem? (i := 117) (by decide +kernel)⟩
theorem lw_p2 : lw_okq (⟨"java/util/ArrayList", "grow", "(I)[Ljava/lang/Object;"⟩, 3) := ⟨⟨by decide +kernel, by decide +kernel⟩, List.mem_of_getElem? (i := 39) (by decide +kernel), List.mem_of_getElem? (i := 120) (by decide +kernel), List.mem_of_getElem? (i := 121) (by decide +kernel)⟩
theorem lw_p3 : lw_okq (⟨"WitnessesMustLie", "shelfAt", "(I)LWitnessesMustLie$Shelf;"⟩, 8) := ⟨⟨by decide +kernel, by decide +kernel⟩, List.mem_of_getElem? (i := 31) (by decide +kernel), List.mem_of_getElem? (i := 285) (by decide +kernel), List.mem_of_getElem? (i := 286) (by decide +kernel)⟩
theorem lw_p4 : lw_okq (⟨"WitnessesMustLie$Shelf", "refusalUnless", "(I)I"⟩, 6) := ⟨⟨by decide +kernel, by decide +kernel⟩, List.mem_of_getElem? (i := 226) (by decide +kernel), List.mem_of_getElem? (i := 293) (by decide +kernel), List.mem_of_getElem? (i := 294) (by decide +kernel)⟩
theorem lw_p5 : lw_okq (⟨"WitnessesMustLie", "enact", "(LWitnessesMustLie$Shelf;)I"⟩, 8) := ⟨⟨by decide +kernel, by decide +kernel⟩, List.mem_of_getElem? (i := 31) (by decide +kernel), List.mem_of_getElem? (i := 318) (by decide +kernel), List.mem_of_getElem? (i := 319) (by decide +kernel)⟩
theorem lw_p6 : lw_okq (⟨"WitnessesMustLie", "isEnacted", "(LWitnessesMustLie$Shelf;I)Z"⟩, 8) := ⟨⟨by decide +kernel, by decide +kernel⟩, List.mem_of_getElem? (i := 31) (by decide +kernel), List.mem_of_getElem? (i := 357) (by decide +kernel), List.mem_of_getElem? (i := 358) (by decide +kernel)⟩
theorem lw_p7 : lw_okq (⟨"WitnessesMustLie", "sayingAt", "(LWitnessesMustLie$Shelf;II)LWitnessesMustLie$Saying;"⟩, 8) := ⟨⟨by decide +kernel, by decide +kernel⟩, List.mem_of_getElem? (i := 31) (by decide +kernel), List.mem_of_getElem? (i := 361) (by decide +kernel), List.mem_of_getElem? (i := 362) (by decide +kernel)⟩
theorem lw_p8 : lw_okq (⟨"WitnessesMustLie", "kindNumbered", "(I)LWitnessesMustLie$Says;"⟩, 8) := ⟨⟨by decide +kernel, by decide +kernel⟩, List.mem_of_getElem? (i := 31) (by decide +kernel), List.mem_of_getElem? (i := 368) (by decide +kernel), List.mem_of_getElem? (i := 369) (by decide +kernel)⟩
theorem lw_p9 : lw_okq (⟨"java/util/ArrayList", "fastRemove", "([Ljava/lang/Object;I)V"⟩, 3) := ⟨⟨by decide +kernel, by decide +kernel⟩, List.mem_of_getElem? (i := 39) (by decide +kernel), List.mem_of_getElem? (i := 607) (by decide +kernel), List.mem_of_getElem? (i := 608) (by decide +kernel)⟩
theorem lw_p10 : lw_okq (⟨"WitnessesMustLie", "leastOrder", "(I)I"⟩, 8) := ⟨⟨by decide +kernel, by decide +kernel⟩, List.mem_of_getElem? (i := 31) (by decide +kernel), List.mem_of_getElem? (i := 736) (by decide +kernel), List.mem_of_getElem? (i := 737) (by decide +kernel)⟩
theorem lw_p11 : lw_okq (⟨"WitnessesMustLie", "digitsWithAhead", "(I)I"⟩, 8) := ⟨⟨by decide +kernel, by decide +kernel⟩, List.mem_of_getElem? (i := 31) (by decide +kernel), List.mem_of_getElem? (i := 740) (by decide +kernel), List.mem_of_getElem? (i := 741) (by decide +kernel)⟩
theorem lw_p12 : lw_okq (⟨"WitnessesMustLie", "digitsOf", "(II)I"⟩, 8) := ⟨⟨by decide +kernel, by decide +kernel⟩, List.mem_of_getElem? (i := 31) (by decide +kernel), List.mem_of_getElem? (i := 744) (by decide +kernel), List.mem_of_getElem? (i := 745) (by decide +kernel)⟩
theorem lw_p13 : lw_okq (⟨"WitnessesMustLie", "isLie", "(II)Z"⟩, 8) := ⟨⟨by decide +kernel, by decide +kernel⟩, List.mem_of_getElem? (i := 31) (by decide +kernel), List.mem_of_getElem? (i := 757) (by decide +kernel), List.mem_of_getElem? (i := 758) (by decide +kernel)⟩
theorem lw_p14 : lw_okq (⟨"WitnessesMustLie", "worldsOfCode", "(I)J"⟩, 8) := ⟨⟨by decide +kernel, by decide +kernel⟩, List.mem_of_getElem? (i := 31) (by decide +kernel), List.mem_of_getElem? (i := 771) (by decide +kernel), List.mem_of_getElem? (i := 772) (by decide +kernel)⟩
theorem lw_p15 : lw_okq (⟨"WitnessesMustLie", "fillLies", "(I[J)I"⟩, 8) := ⟨⟨by decide +kernel, by decide +kernel⟩, List.mem_of_getElem? (i := 31) (by decide +kernel), List.mem_of_getElem? (i := 779) (by decide +kernel), List.mem_of_getElem? (i := 780) (by decide +kernel)⟩
def lw_privs_1 : List (MethodName × Nat) := [(⟨"java/util/ArrayList", "add", "(Ljava/lang/Object;[Ljava/lang/Object;I)V"⟩, 3), (⟨"java/util/ArrayList", "grow", "()[Ljava/lang/Object;"⟩, 3), (⟨"java/util/ArrayList", "grow", "(I)[Ljava/lang/Object;"⟩, 3), (⟨"WitnessesMustLie", "shelfAt", "(I)LWitnessesMustLie$Shelf;"⟩, 8), (⟨"WitnessesMustLie$Shelf", "refusalUnless", "(I)I"⟩, 6), (⟨"WitnessesMustLie", "enact", "(LWitnessesMustLie$Shelf;)I"⟩, 8), (⟨"WitnessesMustLie", "isEnacted", "(LWitnessesMustLie$Shelf;I)Z"⟩, 8), (⟨"WitnessesMustLie", "sayingAt", "(LWitnessesMustLie$Shelf;II)LWitnessesMustLie$Saying;"⟩, 8), (⟨"WitnessesMustLie", "kindNumbered", "(I)LWitnessesMustLie$Says;"⟩, 8), (⟨"java/util/ArrayList", "fastRemove", "([Ljava/lang/Object;I)V"⟩, 3), (⟨"WitnessesMustLie", "leastOrder", "(I)I"⟩, 8), (⟨"WitnessesMustLie", "digitsWithAhead", "(I)I"⟩, 8), (⟨"WitnessesMustLie", "digitsOf", "(II)I"⟩, 8), (⟨"WitnessesMustLie", "isLie", "(II)Z"⟩, 8), (⟨"WitnessesMustLie", "worldsOfCode", "(I)J"⟩, 8), (⟨"WitnessesMustLie", "fillLies", "(I[J)I"⟩, 8)]
theorem lw_r1 : ∀ q ∈ lw_privs_1, lw_okq q := List.forall_mem_cons.mpr ⟨lw_p0, List.forall_mem_cons.mpr ⟨lw_p1, List.forall_mem_cons.mpr ⟨lw_p2, List.forall_mem_cons.mpr ⟨lw_p3, List.forall_mem_cons.mpr ⟨lw_p4, List.forall_mem_cons.mpr ⟨lw_p5, List.forall_mem_cons.mpr ⟨lw_p6, List.forall_mem_cons.mpr ⟨lw_p7, List.forall_mem_cons.mpr ⟨lw_p8, List.forall_mem_cons.mpr ⟨lw_p9, List.forall_mem_cons.mpr ⟨lw_p10, List.forall_mem_cons.mpr ⟨lw_p11, List.forall_mem_cons.mpr ⟨lw_p12, List.forall_mem_cons.mpr ⟨lw_p13, List.forall_mem_cons.mpr ⟨lw_p14, List.forall_mem_cons.mpr ⟨lw_p15, fun _ h => absurd h List.not_mem_nil⟩⟩⟩⟩⟩⟩⟩⟩⟩⟩⟩⟩⟩⟩⟩⟩
theorem lw_p16 : lw_okq (⟨"WitnessesMustLie", "mostLeft", "(JI)I"⟩, 8) := ⟨⟨by decide +kernel, by decide +kernel⟩, List.mem_of_getElem? (i := 31) (by decide +kernel), List.mem_of_getElem? (i := 783) (by decide +kernel), List.mem_of_getElem? (i := 784) (by decide +kernel)⟩
theorem lw_p17 : lw_okq (⟨"WitnessesMustLie", "worldsOfDraws", "(I)J"⟩, 8) := ⟨⟨by decide +kernel, by decide +kernel⟩, List.mem_of_getElem? (i := 31) (by decide +kernel), List.mem_of_getElem? (i := 856) (by decide +kernel), List.mem_of_getElem? (i := 857) (by decide +kernel)⟩
theorem lw_p18 : lw_okq (⟨"WitnessesMustLie$Shelf", "lowestBits", "(I)I"⟩, 6) := ⟨⟨by decide +kernel, by decide +kernel⟩, List.mem_of_getElem? (i := 226) (by decide +kernel), List.mem_of_getElem? (i := 917) (by decide +kernel), List.mem_of_getElem? (i := 918) (by decide +kernel)⟩
theorem lw_p19 : lw_okq (⟨"java/lang/Throwable", "fillInStackTrace", "(I)Ljava/lang/Throwable;"⟩, 6) := ⟨⟨by decide +kernel, by decide +kernel⟩, List.mem_of_getElem? (i := 1021) (by decide +kernel), List.mem_of_getElem? (i := 1019) (by decide +kernel), List.mem_of_getElem? (i := 1020) (by decide +kernel)⟩
theorem lw_p20 : lw_okq (⟨"WitnessesMustLieModel", "statement", "(Z)I"⟩, 22) := ⟨⟨by decide +kernel, by decide +kernel⟩, List.mem_of_getElem? (i := 1097) (by decide +kernel), List.mem_of_getElem? (i := 1179) (by decide +kernel), List.mem_of_getElem? (i := 1180) (by decide +kernel)⟩
theorem lw_p21 : lw_okq (⟨"WitnessesMustLieModel", "is", "(I)Z"⟩, 22) := ⟨⟨by decide +kernel, by decide +kernel⟩, List.mem_of_getElem? (i := 1097) (by decide +kernel), List.mem_of_getElem? (i := 1183) (by decide +kernel), List.mem_of_getElem? (i := 1184) (by decide +kernel)⟩
theorem lw_p22 : lw_okq (⟨"WitnessesMustLieModel", "digits", "(I)Z"⟩, 22) := ⟨⟨by decide +kernel, by decide +kernel⟩, List.mem_of_getElem? (i := 1097) (by decide +kernel), List.mem_of_getElem? (i := 1187) (by decide +kernel), List.mem_of_getElem? (i := 1188) (by decide +kernel)⟩
theorem lw_p23 : lw_okq (⟨"WitnessesMustLieModel", "isSaying", "(I)Z"⟩, 22) := ⟨⟨by decide +kernel, by decide +kernel⟩, List.mem_of_getElem? (i := 1097) (by decide +kernel), List.mem_of_getElem? (i := 1191) (by decide +kernel), List.mem_of_getElem? (i := 1192) (by decide +kernel)⟩
theorem lw_p24 : lw_okq (⟨"WitnessesMustLieModel", "readSaying", "(I)I"⟩, 22) := ⟨⟨by decide +kernel, by decide +kernel⟩, List.mem_of_getElem? (i := 1097) (by decide +kernel), List.mem_of_getElem? (i := 1198) (by decide +kernel), List.mem_of_getElem? (i := 1199) (by decide +kernel)⟩
theorem lw_p25 : lw_okq (⟨"WitnessesMustLieModel", "two", "()I"⟩, 22) := ⟨⟨by decide +kernel, by decide +kernel⟩, List.mem_of_getElem? (i := 1097) (by decide +kernel), List.mem_of_getElem? (i := 1205) (by decide +kernel), List.mem_of_getElem? (i := 1206) (by decide +kernel)⟩
theorem lw_p26 : lw_okq (⟨"WitnessesMustLieModel", "isWitness", "(I)Z"⟩, 22) := ⟨⟨by decide +kernel, by decide +kernel⟩, List.mem_of_getElem? (i := 1097) (by decide +kernel), List.mem_of_getElem? (i := 1209) (by decide +kernel), List.mem_of_getElem? (i := 1210) (by decide +kernel)⟩
theorem lw_p27 : lw_okq (⟨"WitnessesMustLieModel", "keep", "([I)V"⟩, 22) := ⟨⟨by decide +kernel, by decide +kernel⟩, List.mem_of_getElem? (i := 1097) (by decide +kernel), List.mem_of_getElem? (i := 1213) (by decide +kernel), List.mem_of_getElem? (i := 1214) (by decide +kernel)⟩
theorem lw_p28 : lw_okq (⟨"WitnessesMustLieModel", "again", "([I)V"⟩, 22) := ⟨⟨by decide +kernel, by decide +kernel⟩, List.mem_of_getElem? (i := 1097) (by decide +kernel), List.mem_of_getElem? (i := 1217) (by decide +kernel), List.mem_of_getElem? (i := 1218) (by decide +kernel)⟩
theorem lw_p29 : lw_okq (⟨"WitnessesMustLieModel", "isSaid", "(I)Z"⟩, 22) := ⟨⟨by decide +kernel, by decide +kernel⟩, List.mem_of_getElem? (i := 1097) (by decide +kernel), List.mem_of_getElem? (i := 1238) (by decide +kernel), List.mem_of_getElem? (i := 1239) (by decide +kernel)⟩
theorem lw_p30 : lw_okq (⟨"WitnessesMustLieModel", "isSlip", "(I)Z"⟩, 22) := ⟨⟨by decide +kernel, by decide +kernel⟩, List.mem_of_getElem? (i := 1097) (by decide +kernel), List.mem_of_getElem? (i := 1242) (by decide +kernel), List.mem_of_getElem? (i := 1243) (by decide +kernel)⟩
theorem lw_p31 : lw_okq (⟨"WitnessesMustLieModel", "noSaying", "(I)I"⟩, 22) := ⟨⟨by decide +kernel, by decide +kernel⟩, List.mem_of_getElem? (i := 1097) (by decide +kernel), List.mem_of_getElem? (i := 1260) (by decide +kernel), List.mem_of_getElem? (i := 1261) (by decide +kernel)⟩
def lw_privs_2 : List (MethodName × Nat) := [(⟨"WitnessesMustLie", "mostLeft", "(JI)I"⟩, 8), (⟨"WitnessesMustLie", "worldsOfDraws", "(I)J"⟩, 8), (⟨"WitnessesMustLie$Shelf", "lowestBits", "(I)I"⟩, 6), (⟨"java/lang/Throwable", "fillInStackTrace", "(I)Ljava/lang/Throwable;"⟩, 6), (⟨"WitnessesMustLieModel", "statement", "(Z)I"⟩, 22), (⟨"WitnessesMustLieModel", "is", "(I)Z"⟩, 22), (⟨"WitnessesMustLieModel", "digits", "(I)Z"⟩, 22), (⟨"WitnessesMustLieModel", "isSaying", "(I)Z"⟩, 22), (⟨"WitnessesMustLieModel", "readSaying", "(I)I"⟩, 22), (⟨"WitnessesMustLieModel", "two", "()I"⟩, 22), (⟨"WitnessesMustLieModel", "isWitness", "(I)Z"⟩, 22), (⟨"WitnessesMustLieModel", "keep", "([I)V"⟩, 22), (⟨"WitnessesMustLieModel", "again", "([I)V"⟩, 22), (⟨"WitnessesMustLieModel", "isSaid", "(I)Z"⟩, 22), (⟨"WitnessesMustLieModel", "isSlip", "(I)Z"⟩, 22), (⟨"WitnessesMustLieModel", "noSaying", "(I)I"⟩, 22)]
theorem lw_r2 : ∀ q ∈ lw_privs_2, lw_okq q := List.forall_mem_cons.mpr ⟨lw_p16, List.forall_mem_cons.mpr ⟨lw_p17, List.forall_mem_cons.mpr ⟨lw_p18, List.forall_mem_cons.mpr ⟨lw_p19, List.forall_mem_cons.mpr ⟨lw_p20, List.forall_mem_cons.mpr ⟨lw_p21, List.forall_mem_cons.mpr ⟨lw_p22, List.forall_mem_cons.mpr ⟨lw_p23, List.forall_mem_cons.mpr ⟨lw_p24, List.forall_mem_cons.mpr ⟨lw_p25, List.forall_mem_cons.mpr ⟨lw_p26, List.forall_mem_cons.mpr ⟨lw_p27, List.forall_mem_cons.mpr ⟨lw_p28, List.forall_mem_cons.mpr ⟨lw_p29, List.forall_mem_cons.mpr ⟨lw_p30, List.forall_mem_cons.mpr ⟨lw_p31, fun _ h => absurd h List.not_mem_nil⟩⟩⟩⟩⟩⟩⟩⟩⟩⟩⟩⟩⟩⟩⟩⟩
theorem lw_p32 : lw_okq (⟨"WitnessesMustLieModel", "onShelf", "(III)I"⟩, 22) := ⟨⟨by decide +kernel, by decide +kernel⟩, List.mem_of_getElem? (i := 1097) (by decide +kernel), List.mem_of_getElem? (i := 1264) (by decide +kernel), List.mem_of_getElem? (i := 1265) (by decide +kernel)⟩
theorem lw_p33 : lw_okq (⟨"WitnessesMustLieModel", "mayBe", "()J"⟩, 22) := ⟨⟨by decide +kernel, by decide +kernel⟩, List.mem_of_getElem? (i := 1097) (by decide +kernel), List.mem_of_getElem? (i := 1293) (by decide +kernel), List.mem_of_getElem? (i := 1294) (by decide +kernel)⟩
theorem lw_p34 : lw_okq (⟨"WitnessesMustLieModel", "left", "()J"⟩, 22) := ⟨⟨by decide +kernel, by decide +kernel⟩, List.mem_of_getElem? (i := 1097) (by decide +kernel), List.mem_of_getElem? (i := 1301) (by decide +kernel), List.mem_of_getElem? (i := 1302) (by decide +kernel)⟩
theorem lw_p35 : lw_okq (⟨"WitnessesMustLieModel", "leftBy", "(I)J"⟩, 22) := ⟨⟨by decide +kernel, by decide +kernel⟩, List.mem_of_getElem? (i := 1097) (by decide +kernel), List.mem_of_getElem? (i := 1305) (by decide +kernel), List.mem_of_getElem? (i := 1306) (by decide +kernel)⟩
theorem lw_p36 : lw_okq (⟨"WitnessesMustLieModel", "isPlain", "(I)Z"⟩, 22) := ⟨⟨by decide +kernel, by decide +kernel⟩, List.mem_of_getElem? (i := 1097) (by decide +kernel), List.mem_of_getElem? (i := 1355) (by decide +kernel), List.mem_of_getElem? (i := 1356) (by decide +kernel)⟩
theorem lw_p37 : lw_okq (⟨"WitnessesMustLieModel", "saidBy", "(I)I"⟩, 22) := ⟨⟨by decide +kernel, by decide +kernel⟩, List.mem_of_getElem? (i := 1097) (by decide +kernel), List.mem_of_getElem? (i := 1359) (by decide +kernel), List.mem_of_getElem? (i := 1360) (by decide +kernel)⟩
theorem lw_p38 : lw_okq (⟨"WitnessesMustLieModel", "isLie", "(II)Z"⟩, 22) := ⟨⟨by decide +kernel, by decide +kernel⟩, List.mem_of_getElem? (i := 1097) (by decide +kernel), List.mem_of_getElem? (i := 1379) (by decide +kernel), List.mem_of_getElem? (i := 1380) (by decide +kernel)⟩
theorem lw_p39 : lw_okq (⟨"WitnessesMustLieModel", "like", "(JII)J"⟩, 22) := ⟨⟨by decide +kernel, by decide +kernel⟩, List.mem_of_getElem? (i := 1097) (by decide +kernel), List.mem_of_getElem? (i := 1400) (by decide +kernel), List.mem_of_getElem? (i := 1401) (by decide +kernel)⟩
theorem lw_p40 : lw_okq (⟨"WitnessesMustLieModel", "part", "(I)J"⟩, 22) := ⟨⟨by decide +kernel, by decide +kernel⟩, List.mem_of_getElem? (i := 1097) (by decide +kernel), List.mem_of_getElem? (i := 1420) (by decide +kernel), List.mem_of_getElem? (i := 1421) (by decide +kernel)⟩
theorem lw_p41 : lw_okq (⟨"WitnessesMustLieModel", "noRow", "(I)I"⟩, 22) := ⟨⟨by decide +kernel, by decide +kernel⟩, List.mem_of_getElem? (i := 1097) (by decide +kernel), List.mem_of_getElem? (i := 1428) (by decide +kernel), List.mem_of_getElem? (i := 1429) (by decide +kernel)⟩
theorem lw_p42 : lw_okq (⟨"WitnessesMustLieModel", "leastOf", "(I)I"⟩, 22) := ⟨⟨by decide +kernel, by decide +kernel⟩, List.mem_of_getElem? (i := 1097) (by decide +kernel), List.mem_of_getElem? (i := 1434) (by decide +kernel), List.mem_of_getElem? (i := 1435) (by decide +kernel)⟩
theorem lw_p43 : lw_okq (⟨"WitnessesMustLieModel", "costOf", "(I)I"⟩, 22) := ⟨⟨by decide +kernel, by decide +kernel⟩, List.mem_of_getElem? (i := 1097) (by decide +kernel), List.mem_of_getElem? (i := 1490) (by decide +kernel), List.mem_of_getElem? (i := 1491) (by decide +kernel)⟩
def lw_privs_3 : List (MethodName × Nat) := [(⟨"WitnessesMustLieModel", "onShelf", "(III)I"⟩, 22), (⟨"WitnessesMustLieModel", "mayBe", "()J"⟩, 22), (⟨"WitnessesMustLieModel", "left", "()J"⟩, 22), (⟨"WitnessesMustLieModel", "leftBy", "(I)J"⟩, 22), (⟨"WitnessesMustLieModel", "isPlain", "(I)Z"⟩, 22), (⟨"WitnessesMustLieModel", "saidBy", "(I)I"⟩, 22), (⟨"WitnessesMustLieModel", "isLie", "(II)Z"⟩, 22), (⟨"WitnessesMustLieModel", "like", "(JII)J"⟩, 22), (⟨"WitnessesMustLieModel", "part", "(I)J"⟩, 22), (⟨"WitnessesMustLieModel", "noRow", "(I)I"⟩, 22), (⟨"WitnessesMustLieModel", "leastOf", "(I)I"⟩, 22), (⟨"WitnessesMustLieModel", "costOf", "(I)I"⟩, 22)]
theorem lw_r3 : ∀ q ∈ lw_privs_3, lw_okq q := List.forall_mem_cons.mpr ⟨lw_p32, List.forall_mem_cons.mpr ⟨lw_p33, List.forall_mem_cons.mpr ⟨lw_p34, List.forall_mem_cons.mpr ⟨lw_p35, List.forall_mem_cons.mpr ⟨lw_p36, List.forall_mem_cons.mpr ⟨lw_p37, List.forall_mem_cons.mpr ⟨lw_p38, List.forall_mem_cons.mpr ⟨lw_p39, List.forall_mem_cons.mpr ⟨lw_p40, List.forall_mem_cons.mpr ⟨lw_p41, List.forall_mem_cons.mpr ⟨lw_p42, List.forall_mem_cons.mpr ⟨lw_p43, fun _ h => absurd h List.not_mem_nil⟩⟩⟩⟩⟩⟩⟩⟩⟩⟩⟩⟩
def lw_privs : List (MethodName × Nat) := lw_privs_1 ++ (lw_privs_2 ++ (lw_privs_3))
def lw_tbl : List Cond := k2_sels lw_privs ++ tables_1
theorem lw_privs_ok : ∀ q ∈ lw_privs, lw_okq q := by
  show ∀ q ∈ lw_privs_1 ++ (lw_privs_2 ++ (lw_privs_3)), lw_okq q
  exact List.forall_mem_append.mpr ⟨lw_r1, List.forall_mem_append.mpr ⟨lw_r2, lw_r3⟩⟩
end
section
def RX0 : String := "WitnessesMustLie$Alike"
def TX0 : u_T := fun k => match k with
  | _ => ("WitnessesMustLie$Says", "number", "I", true)
def tyX0 : Nat → FieldType := fun k => match k with
  | _ => .int
abbrev wsX00 : List Cond := u_ws RX0 TX0 1
theorem nmX0 : ∀ a, a < 1 → ∀ b, b < 1 → a ≠ b → (TX0 a).2.1 ≠ (TX0 b).2.1 := by decide +kernel
theorem tyX0_ok : ∀ k, k < 1 → parseFieldDescriptor (TX0 k).2.2.1 = some (tyX0 k) := by decide +kernel
abbrev cX0_init : ByteArray := prog_2_method_1_code
def yX0_init : MethodName := ⟨RX0, "<init>", "(I)V"⟩
abbrev cX0_trueWorlds : ByteArray := prog_2_method_2_code
def yX0_trueWorlds : MethodName := ⟨RX0, "trueWorlds", "(JJJ)J"⟩
abbrev cX0_words : ByteArray := prog_2_method_3_code
def yX0_words : MethodName := ⟨RX0, "words", "(I)I"⟩
abbrev cX0_price : ByteArray := prog_2_method_4_code
def yX0_price : MethodName := ⟨RX0, "price", "(I)I"⟩
def RX1 : String := "WitnessesMustLie$Both"
def TX1 : u_T := fun k => match k with
  | _ => ("WitnessesMustLie$Says", "number", "I", true)
def tyX1 : Nat → FieldType := fun k => match k with
  | _ => .int
abbrev wsX10 : List Cond := u_ws RX1 TX1 1
theorem nmX1 : ∀ a, a < 1 → ∀ b, b < 1 → a ≠ b → (TX1 a).2.1 ≠ (TX1 b).2.1 := by decide +kernel
theorem tyX1_ok : ∀ k, k < 1 → parseFieldDescriptor (TX1 k).2.2.1 = some (tyX1 k) := by decide +kernel
abbrev cX1_init : ByteArray := prog_3_method_1_code
def yX1_init : MethodName := ⟨RX1, "<init>", "(I)V"⟩
abbrev cX1_trueWorlds : ByteArray := prog_3_method_2_code
def yX1_trueWorlds : MethodName := ⟨RX1, "trueWorlds", "(JJJ)J"⟩
abbrev cX1_words : ByteArray := prog_3_method_3_code
def yX1_words : MethodName := ⟨RX1, "words", "(I)I"⟩
abbrev cX1_facts : ByteArray := prog_3_method_4_code
def yX1_facts : MethodName := ⟨RX1, "facts", "(III)I"⟩
abbrev cX1_price : ByteArray := prog_3_method_5_code
def yX1_price : MethodName := ⟨RX1, "price", "(I)I"⟩
abbrev cX1_failure : ByteArray := prog_3_method_6_code
def yX1_failure : MethodName := ⟨RX1, "failure", "(I)I"⟩
def RX2 : String := "WitnessesMustLie$Denies"
def TX2 : u_T := fun k => match k with
  | _ => ("WitnessesMustLie$Says", "number", "I", true)
def tyX2 : Nat → FieldType := fun k => match k with
  | _ => .int
abbrev wsX20 : List Cond := u_ws RX2 TX2 1
theorem nmX2 : ∀ a, a < 1 → ∀ b, b < 1 → a ≠ b → (TX2 a).2.1 ≠ (TX2 b).2.1 := by decide +kernel
theorem tyX2_ok : ∀ k, k < 1 → parseFieldDescriptor (TX2 k).2.2.1 = some (tyX2 k) := by decide +kernel
abbrev cX2_init : ByteArray := prog_4_method_1_code
def yX2_init : MethodName := ⟨RX2, "<init>", "(I)V"⟩
abbrev cX2_trueWorlds : ByteArray := prog_4_method_2_code
def yX2_trueWorlds : MethodName := ⟨RX2, "trueWorlds", "(JJJ)J"⟩
abbrev cX2_words : ByteArray := prog_4_method_3_code
def yX2_words : MethodName := ⟨RX2, "words", "(I)I"⟩
abbrev cX2_price : ByteArray := prog_4_method_4_code
def yX2_price : MethodName := ⟨RX2, "price", "(I)I"⟩
def RX3 : String := "WitnessesMustLie$Either"
def TX3 : u_T := fun k => match k with
  | _ => ("WitnessesMustLie$Says", "number", "I", true)
def tyX3 : Nat → FieldType := fun k => match k with
  | _ => .int
abbrev wsX30 : List Cond := u_ws RX3 TX3 1
theorem nmX3 : ∀ a, a < 1 → ∀ b, b < 1 → a ≠ b → (TX3 a).2.1 ≠ (TX3 b).2.1 := by decide +kernel
theorem tyX3_ok : ∀ k, k < 1 → parseFieldDescriptor (TX3 k).2.2.1 = some (tyX3 k) := by decide +kernel
abbrev cX3_init : ByteArray := prog_5_method_1_code
def yX3_init : MethodName := ⟨RX3, "<init>", "(I)V"⟩
abbrev cX3_trueWorlds : ByteArray := prog_5_method_2_code
def yX3_trueWorlds : MethodName := ⟨RX3, "trueWorlds", "(JJJ)J"⟩
abbrev cX3_words : ByteArray := prog_5_method_3_code
def yX3_words : MethodName := ⟨RX3, "words", "(I)I"⟩
abbrev cX3_price : ByteArray := prog_5_method_4_code
def yX3_price : MethodName := ⟨RX3, "price", "(I)I"⟩
def RX4 : String := "WitnessesMustLie$Expert"
def TX4 : u_T := fun k => match k with
  | _ => ("WitnessesMustLie$Says", "number", "I", true)
def tyX4 : Nat → FieldType := fun k => match k with
  | _ => .int
abbrev wsX40 : List Cond := u_ws RX4 TX4 1
theorem nmX4 : ∀ a, a < 1 → ∀ b, b < 1 → a ≠ b → (TX4 a).2.1 ≠ (TX4 b).2.1 := by decide +kernel
theorem tyX4_ok : ∀ k, k < 1 → parseFieldDescriptor (TX4 k).2.2.1 = some (tyX4 k) := by decide +kernel
abbrev cX4_init : ByteArray := prog_6_method_1_code
def yX4_init : MethodName := ⟨RX4, "<init>", "(I)V"⟩
abbrev cX4_trueWorlds : ByteArray := prog_6_method_2_code
def yX4_trueWorlds : MethodName := ⟨RX4, "trueWorlds", "(JJJ)J"⟩
abbrev cX4_words : ByteArray := prog_6_method_3_code
def yX4_words : MethodName := ⟨RX4, "words", "(I)I"⟩
abbrev cX4_price : ByteArray := prog_6_method_4_code
def yX4_price : MethodName := ⟨RX4, "price", "(I)I"⟩
abbrev cX4_fail : ByteArray := prog_6_method_5_code
def yX4_fail : MethodName := ⟨RX4, "fail", "(I)V"⟩
def RX5 : String := "WitnessesMustLie$If"
def TX5 : u_T := fun k => match k with
  | _ => ("WitnessesMustLie$Says", "number", "I", true)
def tyX5 : Nat → FieldType := fun k => match k with
  | _ => .int
abbrev wsX50 : List Cond := u_ws RX5 TX5 1
theorem nmX5 : ∀ a, a < 1 → ∀ b, b < 1 → a ≠ b → (TX5 a).2.1 ≠ (TX5 b).2.1 := by decide +kernel
theorem tyX5_ok : ∀ k, k < 1 → parseFieldDescriptor (TX5 k).2.2.1 = some (tyX5 k) := by decide +kernel
abbrev cX5_init : ByteArray := prog_7_method_1_code
def yX5_init : MethodName := ⟨RX5, "<init>", "(I)V"⟩
abbrev cX5_trueWorlds : ByteArray := prog_7_method_2_code
def yX5_trueWorlds : MethodName := ⟨RX5, "trueWorlds", "(JJJ)J"⟩
abbrev cX5_words : ByteArray := prog_7_method_3_code
def yX5_words : MethodName := ⟨RX5, "words", "(I)I"⟩
abbrev cX5_price : ByteArray := prog_7_method_4_code
def yX5_price : MethodName := ⟨RX5, "price", "(I)I"⟩
def RX6 : String := "WitnessesMustLie$Poet"
def TX6 : u_T := fun k => match k with
  | _ => ("WitnessesMustLie$Says", "number", "I", true)
def tyX6 : Nat → FieldType := fun k => match k with
  | _ => .int
abbrev wsX60 : List Cond := u_ws RX6 TX6 1
theorem nmX6 : ∀ a, a < 1 → ∀ b, b < 1 → a ≠ b → (TX6 a).2.1 ≠ (TX6 b).2.1 := by decide +kernel
theorem tyX6_ok : ∀ k, k < 1 → parseFieldDescriptor (TX6 k).2.2.1 = some (tyX6 k) := by decide +kernel
abbrev cX6_init : ByteArray := prog_8_method_1_code
def yX6_init : MethodName := ⟨RX6, "<init>", "(I)V"⟩
abbrev cX6_trueWorlds : ByteArray := prog_8_method_2_code
def yX6_trueWorlds : MethodName := ⟨RX6, "trueWorlds", "(JJJ)J"⟩
abbrev cX6_words : ByteArray := prog_8_method_3_code
def yX6_words : MethodName := ⟨RX6, "words", "(I)I"⟩
abbrev cX6_facts : ByteArray := prog_8_method_4_code
def yX6_facts : MethodName := ⟨RX6, "facts", "(III)I"⟩
abbrev cX6_price : ByteArray := prog_8_method_5_code
def yX6_price : MethodName := ⟨RX6, "price", "(I)I"⟩
abbrev cX6_failure : ByteArray := prog_8_method_6_code
def yX6_failure : MethodName := ⟨RX6, "failure", "(I)I"⟩
def RX7 : String := "WitnessesMustLie$Saying"
def TX7 : u_T := fun k => match k with
  | 0 => ("WitnessesMustLie$Saying", "teller", "I", true)
  | 1 => ("WitnessesMustLie$Saying", "kind", "LWitnessesMustLie$Says;", true)
  | 2 => ("WitnessesMustLie$Saying", "figure", "I", true)
  | 3 => ("WitnessesMustLie$Saying", "a", "I", true)
  | 4 => ("WitnessesMustLie$Saying", "b", "I", true)
  | _ => ("WitnessesMustLie$Saying", "trueWorlds", "J", true)
def tyX7 : Nat → FieldType := fun k => match k with
  | 0 => .int
  | 1 => .object "WitnessesMustLie$Says"
  | 2 => .int
  | 3 => .int
  | 4 => .int
  | _ => .long
abbrev wsX70 : List Cond := u_ws RX7 TX7 6
theorem nmX7 : ∀ a, a < 6 → ∀ b, b < 6 → a ≠ b → (TX7 a).2.1 ≠ (TX7 b).2.1 := by decide +kernel
theorem tyX7_ok : ∀ k, k < 6 → parseFieldDescriptor (TX7 k).2.2.1 = some (tyX7 k) := by decide +kernel
abbrev cX7_init : ByteArray := prog_9_method_1_code
def yX7_init : MethodName := ⟨RX7, "<init>", "(ILWitnessesMustLie$Says;IIIJ)V"⟩
abbrev cX7_told : ByteArray := prog_9_method_2_code
def yX7_told : MethodName := ⟨RX7, "told", "(I)I"⟩
abbrev cX7_words : ByteArray := prog_9_method_3_code
def yX7_words : MethodName := ⟨RX7, "words", "()I"⟩
abbrev cX7_facts : ByteArray := prog_9_method_4_code
def yX7_facts : MethodName := ⟨RX7, "facts", "()I"⟩
def RX8 : String := "WitnessesMustLie$Says"
def TX8 : u_T := fun k => match k with
  | _ => ("WitnessesMustLie$Says", "number", "I", true)
def tyX8 : Nat → FieldType := fun k => match k with
  | _ => .int
abbrev wsX80 : List Cond := u_ws RX8 TX8 1
theorem nmX8 : ∀ a, a < 1 → ∀ b, b < 1 → a ≠ b → (TX8 a).2.1 ≠ (TX8 b).2.1 := by decide +kernel
theorem tyX8_ok : ∀ k, k < 1 → parseFieldDescriptor (TX8 k).2.2.1 = some (tyX8 k) := by decide +kernel
abbrev cX8_init : ByteArray := prog_10_method_1_code
def yX8_init : MethodName := ⟨RX8, "<init>", "(I)V"⟩
abbrev cX8_worldsOf : ByteArray := prog_10_method_2_code
def yX8_worldsOf : MethodName := ⟨RX8, "worldsOf", "(III)J"⟩
abbrev cX8_trueWorlds : ByteArray := prog_10_method_3_code
def yX8_trueWorlds : MethodName := ⟨RX8, "trueWorlds", "(JJJ)J"⟩
abbrev cX8_words : ByteArray := prog_10_method_4_code
def yX8_words : MethodName := ⟨RX8, "words", "(I)I"⟩
abbrev cX8_facts : ByteArray := prog_10_method_5_code
def yX8_facts : MethodName := ⟨RX8, "facts", "(III)I"⟩
abbrev cX8_price : ByteArray := prog_10_method_6_code
def yX8_price : MethodName := ⟨RX8, "price", "(I)I"⟩
abbrev cX8_fail : ByteArray := prog_10_method_7_code
def yX8_fail : MethodName := ⟨RX8, "fail", "(I)V"⟩
abbrev cX8_failure : ByteArray := prog_10_method_8_code
def yX8_failure : MethodName := ⟨RX8, "failure", "(I)I"⟩
def RX9 : String := "WitnessesMustLie$Shelf"
def TX9 : u_T := fun k => match k with
  | 0 => ("WitnessesMustLie$Shelf", "numbers", "[I", true)
  | 1 => ("WitnessesMustLie$Shelf", "holds", "I", false)
  | 2 => ("WitnessesMustLie$Shelf", "kind", "LWitnessesMustLie$Says;", false)
  | 3 => ("WitnessesMustLie$Shelf", "figure", "I", false)
  | 4 => ("WitnessesMustLie$Shelf", "sort", "I", false)
  | _ => ("WitnessesMustLie$Shelf", "length", "I", false)
def tyX9 : Nat → FieldType := fun k => match k with
  | 0 => .array .int
  | 1 => .int
  | 2 => .object "WitnessesMustLie$Says"
  | 3 => .int
  | 4 => .int
  | _ => .int
abbrev wsX90 : List Cond := u_ws RX9 TX9 6
theorem nmX9 : ∀ a, a < 6 → ∀ b, b < 6 → a ≠ b → (TX9 a).2.1 ≠ (TX9 b).2.1 := by decide +kernel
theorem tyX9_ok : ∀ k, k < 6 → parseFieldDescriptor (TX9 k).2.2.1 = some (tyX9 k) := by decide +kernel
abbrev cX9_init : ByteArray := prog_11_method_1_code
def yX9_init : MethodName := ⟨RX9, "<init>", "(LWitnessesMustLie$Says;)V"⟩
abbrev cX9_holdNothing : ByteArray := prog_11_method_2_code
def yX9_holdNothing : MethodName := ⟨RX9, "holdNothing", "()V"⟩
abbrev cX9_holdSaying : ByteArray := prog_11_method_3_code
def yX9_holdSaying : MethodName := ⟨RX9, "holdSaying", "(LWitnessesMustLie$Says;I)V"⟩
abbrev cX9_holdRow : ByteArray := prog_11_method_4_code
def yX9_holdRow : MethodName := ⟨RX9, "holdRow", "(II)V"⟩
abbrev cX9_isEmpty : ByteArray := prog_11_method_5_code
def yX9_isEmpty : MethodName := ⟨RX9, "isEmpty", "()Z"⟩
abbrev cX9_refusalAsSaying : ByteArray := prog_11_method_6_code
def yX9_refusalAsSaying : MethodName := ⟨RX9, "refusalAsSaying", "()I"⟩
abbrev cX9_refusalAsRow : ByteArray := prog_11_method_7_code
def yX9_refusalAsRow : MethodName := ⟨RX9, "refusalAsRow", "()I"⟩
abbrev cX9_refusalUnless : ByteArray := prog_11_method_8_code
def yX9_refusalUnless : MethodName := ⟨RX9, "refusalUnless", "(I)I"⟩
abbrev cX9_worldsOf : ByteArray := prog_11_method_9_code
def yX9_worldsOf : MethodName := ⟨RX9, "worldsOf", "(II)J"⟩
abbrev cX9_hasPlaces : ByteArray := prog_11_method_10_code
def yX9_hasPlaces : MethodName := ⟨RX9, "hasPlaces", "(II)Z"⟩
abbrev cX9_numberAt : ByteArray := prog_11_method_11_code
def yX9_numberAt : MethodName := ⟨RX9, "numberAt", "(I)I"⟩
abbrev cX9_setNumber : ByteArray := prog_11_method_12_code
def yX9_setNumber : MethodName := ⟨RX9, "setNumber", "(II)Z"⟩
abbrev cX9_lowestBits : ByteArray := prog_11_method_13_code
def yX9_lowestBits : MethodName := ⟨RX9, "lowestBits", "(I)I"⟩
abbrev cX9_isSkipped : ByteArray := prog_11_method_14_code
def yX9_isSkipped : MethodName := ⟨RX9, "isSkipped", "(I)Z"⟩
abbrev cX9_tellsTrueOrFalse : ByteArray := prog_11_method_15_code
def yX9_tellsTrueOrFalse : MethodName := ⟨RX9, "tellsTrueOrFalse", "()Z"⟩
def RX10 : String := "WitnessesMustLie$Trial"
def TX10 : u_T := fun k => match k with
  | 0 => ("WitnessesMustLie$Trial", "laws", "Ljava/util/ArrayList;", true)
  | 1 => ("WitnessesMustLie$Trial", "said", "Ljava/util/ArrayList;", true)
  | 2 => ("WitnessesMustLie$Trial", "known", "[I", true)
  | 3 => ("WitnessesMustLie$Trial", "witnesses", "I", false)
  | _ => ("WitnessesMustLie$Trial", "truthWorld", "I", false)
def tyX10 : Nat → FieldType := fun k => match k with
  | 0 => .object "java/util/ArrayList"
  | 1 => .object "java/util/ArrayList"
  | 2 => .array .int
  | 3 => .int
  | _ => .int
abbrev wsX100 : List Cond := u_ws RX10 TX10 5
theorem nmX10 : ∀ a, a < 5 → ∀ b, b < 5 → a ≠ b → (TX10 a).2.1 ≠ (TX10 b).2.1 := by decide +kernel
theorem tyX10_ok : ∀ k, k < 5 → parseFieldDescriptor (TX10 k).2.2.1 = some (tyX10 k) := by decide +kernel
abbrev cX10_init : ByteArray := prog_12_method_1_code
def yX10_init : MethodName := ⟨RX10, "<init>", "()V"⟩
abbrev cX10_becomes : ByteArray := prog_12_method_2_code
def yX10_becomes : MethodName := ⟨RX10, "becomes", "(LWitnessesMustLie$Trial;)V"⟩
abbrev cX10_refill : ByteArray := prog_12_method_3_code
def yX10_refill : MethodName := ⟨RX10, "refill", "(Ljava/util/ArrayList;Ljava/util/ArrayList;)V"⟩
abbrev cX10_hasWitness : ByteArray := prog_12_method_4_code
def yX10_hasWitness : MethodName := ⟨RX10, "hasWitness", "(I)Z"⟩
abbrev cX10_knownBy : ByteArray := prog_12_method_5_code
def yX10_knownBy : MethodName := ⟨RX10, "knownBy", "(I)I"⟩
abbrev cX10_addLaw : ByteArray := prog_12_method_6_code
def yX10_addLaw : MethodName := ⟨RX10, "addLaw", "(LWitnessesMustLie$Saying;)Z"⟩
abbrev cX10_addSaid : ByteArray := prog_12_method_7_code
def yX10_addSaid : MethodName := ⟨RX10, "addSaid", "(LWitnessesMustLie$Saying;)Z"⟩
abbrev cX10_addWitness : ByteArray := prog_12_method_8_code
def yX10_addWitness : MethodName := ⟨RX10, "addWitness", "(I)Z"⟩
abbrev cX10_setTruth : ByteArray := prog_12_method_9_code
def yX10_setTruth : MethodName := ⟨RX10, "setTruth", "(I)Z"⟩
abbrev cX10_mayBe : ByteArray := prog_12_method_10_code
def yX10_mayBe : MethodName := ⟨RX10, "mayBe", "()J"⟩
abbrev cX10_left : ByteArray := prog_12_method_11_code
def yX10_left : MethodName := ⟨RX10, "left", "()J"⟩
abbrev cX10_mayBeOrLeft : ByteArray := prog_12_method_12_code
def yX10_mayBeOrLeft : MethodName := ⟨RX10, "mayBeOrLeft", "(I)J"⟩
abbrev cX10_leftBySaid : ByteArray := prog_12_method_13_code
def yX10_leftBySaid : MethodName := ⟨RX10, "leftBySaid", "(JI)J"⟩
abbrev cX10_leftByTellers : ByteArray := prog_12_method_14_code
def yX10_leftByTellers : MethodName := ⟨RX10, "leftByTellers", "(I)J"⟩
abbrev cX10_isPlainBy : ByteArray := prog_12_method_15_code
def yX10_isPlainBy : MethodName := ⟨RX10, "isPlainBy", "(I)Z"⟩
abbrev cX10_trueOnes : ByteArray := prog_12_method_16_code
def yX10_trueOnes : MethodName := ⟨RX10, "trueOnes", "(I)I"⟩
abbrev cX10_wordsSaid : ByteArray := prog_12_method_17_code
def yX10_wordsSaid : MethodName := ⟨RX10, "wordsSaid", "()I"⟩
abbrev cX10_reachedFrom : ByteArray := prog_12_method_18_code
def yX10_reachedFrom : MethodName := ⟨RX10, "reachedFrom", "(JJ)J"⟩
def RX11 : String := "WitnessesMustLie"
def TX11 : u_T := fun k => match k with
  | 0 => ("WitnessesMustLie", "kinds", "Ljava/util/ArrayList;", true)
  | 1 => ("WitnessesMustLie", "shelves", "[LWitnessesMustLie$Shelf;", true)
  | 2 => ("WitnessesMustLie", "court", "LWitnessesMustLie$Trial;", true)
  | 3 => ("WitnessesMustLie", "kept", "LWitnessesMustLie$Trial;", true)
  | 4 => ("WitnessesMustLie", "tried", "LWitnessesMustLie$Trial;", true)
  | 5 => ("WitnessesMustLie", "isKept", "Z", false)
  | 6 => ("WitnessesMustLie", "oneLies", "[J", true)
  | _ => ("WitnessesMustLie", "otherLies", "[J", true)
def tyX11 : Nat → FieldType := fun k => match k with
  | 0 => .object "java/util/ArrayList"
  | 1 => .array (.object "WitnessesMustLie$Shelf")
  | 2 => .object "WitnessesMustLie$Trial"
  | 3 => .object "WitnessesMustLie$Trial"
  | 4 => .object "WitnessesMustLie$Trial"
  | 5 => .boolean
  | 6 => .array .long
  | _ => .array .long
abbrev wsX110 : List Cond := u_ws RX11 TX11 8
theorem nmX11 : ∀ a, a < 8 → ∀ b, b < 8 → a ≠ b → (TX11 a).2.1 ≠ (TX11 b).2.1 := by decide +kernel
theorem tyX11_ok : ∀ k, k < 8 → parseFieldDescriptor (TX11 k).2.2.1 = some (tyX11 k) := by decide +kernel
abbrev cX11_init : ByteArray := prog_1_method_1_code
def yX11_init : MethodName := ⟨RX11, "<init>", "()V"⟩
abbrev cX11_trial : ByteArray := prog_1_method_2_code
def yX11_trial : MethodName := ⟨RX11, "trial", "(I)I"⟩
abbrev cX11_law : ByteArray := prog_1_method_3_code
def yX11_law : MethodName := ⟨RX11, "law", "(II)I"⟩
abbrev cX11_said : ByteArray := prog_1_method_4_code
def yX11_said : MethodName := ⟨RX11, "said", "(II)I"⟩
abbrev cX11_knows : ByteArray := prog_1_method_5_code
def yX11_knows : MethodName := ⟨RX11, "knows", "(I)I"⟩
abbrev cX11_isTrue : ByteArray := prog_1_method_6_code
def yX11_isTrue : MethodName := ⟨RX11, "isTrue", "(IIII)I"⟩
abbrev cX11_rules : ByteArray := prog_1_method_7_code
def yX11_rules : MethodName := ⟨RX11, "rules", "(III)I"⟩
abbrev cX11_says : ByteArray := prog_1_method_8_code
def yX11_says : MethodName := ⟨RX11, "says", "(IIII)I"⟩
abbrev cX11_unsays : ByteArray := prog_1_method_9_code
def yX11_unsays : MethodName := ⟨RX11, "unsays", "()I"⟩
abbrev cX11_witness : ByteArray := prog_1_method_10_code
def yX11_witness : MethodName := ⟨RX11, "witness", "(I)I"⟩
abbrev cX11_truth : ByteArray := prog_1_method_11_code
def yX11_truth : MethodName := ⟨RX11, "truth", "(I)I"⟩
abbrev cX11_worlds : ByteArray := prog_1_method_12_code
def yX11_worlds : MethodName := ⟨RX11, "worlds", "(I)J"⟩
abbrev cX11_many : ByteArray := prog_1_method_13_code
def yX11_many : MethodName := ⟨RX11, "many", "(I)I"⟩
abbrev cX11_proved : ByteArray := prog_1_method_14_code
def yX11_proved : MethodName := ⟨RX11, "proved", "(I)I"⟩
abbrev cX11_slips : ByteArray := prog_1_method_15_code
def yX11_slips : MethodName := ⟨RX11, "slips", "(I)I"⟩
abbrev cX11_alone : ByteArray := prog_1_method_16_code
def yX11_alone : MethodName := ⟨RX11, "alone", "(I)I"⟩
abbrev cX11_clash : ByteArray := prog_1_method_17_code
def yX11_clash : MethodName := ⟨RX11, "clash", "()I"⟩
abbrev cX11_proof : ByteArray := prog_1_method_18_code
def yX11_proof : MethodName := ⟨RX11, "proof", "(I)I"⟩
abbrev cX11_slipped : ByteArray := prog_1_method_19_code
def yX11_slipped : MethodName := ⟨RX11, "slipped", "()I"⟩
abbrev cX11_ask : ByteArray := prog_1_method_20_code
def yX11_ask : MethodName := ⟨RX11, "ask", "()I"⟩
abbrev cX11_plain : ByteArray := prog_1_method_21_code
def yX11_plain : MethodName := ⟨RX11, "plain", "()I"⟩
abbrev cX11_order : ByteArray := prog_1_method_22_code
def yX11_order : MethodName := ⟨RX11, "order", "(I)I"⟩
abbrev cX11_without : ByteArray := prog_1_method_23_code
def yX11_without : MethodName := ⟨RX11, "without", "(I)I"⟩
abbrev cX11_lie : ByteArray := prog_1_method_24_code
def yX11_lie : MethodName := ⟨RX11, "lie", "(II)I"⟩
abbrev cX11_twoLies : ByteArray := prog_1_method_25_code
def yX11_twoLies : MethodName := ⟨RX11, "twoLies", "(II)I"⟩
abbrev cX11_tells : ByteArray := prog_1_method_26_code
def yX11_tells : MethodName := ⟨RX11, "tells", "(III)I"⟩
abbrev cX11_verdict : ByteArray := prog_1_method_27_code
def yX11_verdict : MethodName := ⟨RX11, "verdict", "()I"⟩
abbrev cX11_certain : ByteArray := prog_1_method_28_code
def yX11_certain : MethodName := ⟨RX11, "certain", "(I)I"⟩
abbrev cX11_knowsOf : ByteArray := prog_1_method_29_code
def yX11_knowsOf : MethodName := ⟨RX11, "knowsOf", "(II)I"⟩
abbrev cX11_allKnow : ByteArray := prog_1_method_30_code
def yX11_allKnow : MethodName := ⟨RX11, "allKnow", "(I)I"⟩
abbrev cX11_pencils : ByteArray := prog_1_method_31_code
def yX11_pencils : MethodName := ⟨RX11, "pencils", "(III)J"⟩
abbrev cX11_fits : ByteArray := prog_1_method_32_code
def yX11_fits : MethodName := ⟨RX11, "fits", "(I)J"⟩
abbrev cX11_judge : ByteArray := prog_1_method_33_code
def yX11_judge : MethodName := ⟨RX11, "judge", "(I)I"⟩
abbrev cX11_seeds : ByteArray := prog_1_method_34_code
def yX11_seeds : MethodName := ⟨RX11, "seeds", "(III)I"⟩
abbrev cX11_image : ByteArray := prog_1_method_35_code
def yX11_image : MethodName := ⟨RX11, "image", "()I"⟩
abbrev cX11_restore : ByteArray := prog_1_method_36_code
def yX11_restore : MethodName := ⟨RX11, "restore", "()I"⟩
abbrev cX11_count : ByteArray := prog_1_method_37_code
def yX11_count : MethodName := ⟨RX11, "count", "(I)I"⟩
abbrev cX11_keep : ByteArray := prog_1_method_38_code
def yX11_keep : MethodName := ⟨RX11, "keep", "(IIII)I"⟩
abbrev cX11_row : ByteArray := prog_1_method_39_code
def yX11_row : MethodName := ⟨RX11, "row", "(III)I"⟩
abbrev cX11_put : ByteArray := prog_1_method_40_code
def yX11_put : MethodName := ⟨RX11, "put", "(III)I"⟩
abbrev cX11_element : ByteArray := prog_1_method_41_code
def yX11_element : MethodName := ⟨RX11, "element", "(II)J"⟩
abbrev cX11_copy : ByteArray := prog_1_method_42_code
def yX11_copy : MethodName := ⟨RX11, "copy", "(IIIII)I"⟩
abbrev cX11_cost : ByteArray := prog_1_method_43_code
def yX11_cost : MethodName := ⟨RX11, "cost", "(I)I"⟩
abbrev cX11_toss : ByteArray := prog_1_method_44_code
def yX11_toss : MethodName := ⟨RX11, "toss", "(I)I"⟩
abbrev cX11_isFact : ByteArray := prog_1_method_45_code
def yX11_isFact : MethodName := ⟨RX11, "isFact", "(I)Z"⟩
abbrev cX11_areFacts : ByteArray := prog_1_method_46_code
def yX11_areFacts : MethodName := ⟨RX11, "areFacts", "(I)Z"⟩
abbrev cX11_isWorld : ByteArray := prog_1_method_47_code
def yX11_isWorld : MethodName := ⟨RX11, "isWorld", "(I)Z"⟩
abbrev cX11_isEitherOr : ByteArray := prog_1_method_48_code
def yX11_isEitherOr : MethodName := ⟨RX11, "isEitherOr", "(I)Z"⟩
abbrev cX11_oneIf : ByteArray := prog_1_method_49_code
def yX11_oneIf : MethodName := ⟨RX11, "oneIf", "(Z)I"⟩
abbrev cX11_refusedLong : ByteArray := prog_1_method_50_code
def yX11_refusedLong : MethodName := ⟨RX11, "refusedLong", "(I)J"⟩
abbrev cX11_shelfAt : ByteArray := prog_1_method_51_code
def yX11_shelfAt : MethodName := ⟨RX11, "shelfAt", "(I)LWitnessesMustLie$Shelf;"⟩
abbrev cX11_kindNumbered : ByteArray := prog_1_method_52_code
def yX11_kindNumbered : MethodName := ⟨RX11, "kindNumbered", "(I)LWitnessesMustLie$Says;"⟩
abbrev cX11_sayingIn : ByteArray := prog_1_method_53_code
def yX11_sayingIn : MethodName := ⟨RX11, "sayingIn", "(Ljava/util/ArrayList;I)LWitnessesMustLie$Saying;"⟩
abbrev cX11_newSaying : ByteArray := prog_1_method_54_code
def yX11_newSaying : MethodName := ⟨RX11, "newSaying", "(ILWitnessesMustLie$Says;III)LWitnessesMustLie$Saying;"⟩
abbrev cX11_worldsWith : ByteArray := prog_1_method_55_code
def yX11_worldsWith : MethodName := ⟨RX11, "worldsWith", "(I)J"⟩
abbrev cX11_factBit : ByteArray := prog_1_method_56_code
def yX11_factBit : MethodName := ⟨RX11, "factBit", "(I)I"⟩
abbrev cX11_hasWorld : ByteArray := prog_1_method_57_code
def yX11_hasWorld : MethodName := ⟨RX11, "hasWorld", "(JI)Z"⟩
abbrev cX11_factsOfAll : ByteArray := prog_1_method_58_code
def yX11_factsOfAll : MethodName := ⟨RX11, "factsOfAll", "(J)I"⟩
abbrev cX11_factsOfNone : ByteArray := prog_1_method_59_code
def yX11_factsOfNone : MethodName := ⟨RX11, "factsOfNone", "(J)I"⟩
abbrev cX11_factsAlike : ByteArray := prog_1_method_60_code
def yX11_factsAlike : MethodName := ⟨RX11, "factsAlike", "(J)I"⟩
abbrev cX11_isProvedBy : ByteArray := prog_1_method_61_code
def yX11_isProvedBy : MethodName := ⟨RX11, "isProvedBy", "(JI)Z"⟩
abbrev cX11_likeInKnown : ByteArray := prog_1_method_62_code
def yX11_likeInKnown : MethodName := ⟨RX11, "likeInKnown", "(JII)J"⟩
abbrev cX11_brokenPlace : ByteArray := prog_1_method_63_code
def yX11_brokenPlace : MethodName := ⟨RX11, "brokenPlace", "(LWitnessesMustLie$Shelf;)I"⟩
abbrev cX11_digitsBehind : ByteArray := prog_1_method_64_code
def yX11_digitsBehind : MethodName := ⟨RX11, "digitsBehind", "(I)I"⟩
abbrev cX11_isDigit : ByteArray := prog_1_method_65_code
def yX11_isDigit : MethodName := ⟨RX11, "isDigit", "(I)Z"⟩
abbrev cX11_digitAt : ByteArray := prog_1_method_66_code
def yX11_digitAt : MethodName := ⟨RX11, "digitAt", "(LWitnessesMustLie$Shelf;I)I"⟩
abbrev cX11_twoDigitsAt : ByteArray := prog_1_method_67_code
def yX11_twoDigitsAt : MethodName := ⟨RX11, "twoDigitsAt", "(LWitnessesMustLie$Shelf;I)I"⟩
abbrev cX11_enact : ByteArray := prog_1_method_68_code
def yX11_enact : MethodName := ⟨RX11, "enact", "(LWitnessesMustLie$Shelf;)I"⟩
abbrev cX11_isEnacted : ByteArray := prog_1_method_69_code
def yX11_isEnacted : MethodName := ⟨RX11, "isEnacted", "(LWitnessesMustLie$Shelf;I)Z"⟩
abbrev cX11_sayingAt : ByteArray := prog_1_method_70_code
def yX11_sayingAt : MethodName := ⟨RX11, "sayingAt", "(LWitnessesMustLie$Shelf;II)LWitnessesMustLie$Saying;"⟩
abbrev cX11_leastOrder : ByteArray := prog_1_method_71_code
def yX11_leastOrder : MethodName := ⟨RX11, "leastOrder", "(I)I"⟩
abbrev cX11_digitsWithAhead : ByteArray := prog_1_method_72_code
def yX11_digitsWithAhead : MethodName := ⟨RX11, "digitsWithAhead", "(I)I"⟩
abbrev cX11_digitsOf : ByteArray := prog_1_method_73_code
def yX11_digitsOf : MethodName := ⟨RX11, "digitsOf", "(II)I"⟩
abbrev cX11_kindOfCode : ByteArray := prog_1_method_74_code
def yX11_kindOfCode : MethodName := ⟨RX11, "kindOfCode", "(I)I"⟩
abbrev cX11_firstOfCode : ByteArray := prog_1_method_75_code
def yX11_firstOfCode : MethodName := ⟨RX11, "firstOfCode", "(I)I"⟩
abbrev cX11_secondOfCode : ByteArray := prog_1_method_76_code
def yX11_secondOfCode : MethodName := ⟨RX11, "secondOfCode", "(I)I"⟩
abbrev cX11_worldsOfCode : ByteArray := prog_1_method_77_code
def yX11_worldsOfCode : MethodName := ⟨RX11, "worldsOfCode", "(I)J"⟩
abbrev cX11_isLie : ByteArray := prog_1_method_78_code
def yX11_isLie : MethodName := ⟨RX11, "isLie", "(II)Z"⟩
abbrev cX11_fillLies : ByteArray := prog_1_method_79_code
def yX11_fillLies : MethodName := ⟨RX11, "fillLies", "(I[J)I"⟩
abbrev cX11_mostLeft : ByteArray := prog_1_method_80_code
def yX11_mostLeft : MethodName := ⟨RX11, "mostLeft", "(JI)I"⟩
abbrev cX11_power : ByteArray := prog_1_method_81_code
def yX11_power : MethodName := ⟨RX11, "power", "(II)J"⟩
abbrev cX11_waysToChoose : ByteArray := prog_1_method_82_code
def yX11_waysToChoose : MethodName := ⟨RX11, "waysToChoose", "(I)J"⟩
abbrev cX11_greatestDivisor : ByteArray := prog_1_method_83_code
def yX11_greatestDivisor : MethodName := ⟨RX11, "greatestDivisor", "(JJ)J"⟩
abbrev cX11_nextSeed : ByteArray := prog_1_method_84_code
def yX11_nextSeed : MethodName := ⟨RX11, "nextSeed", "(I)I"⟩
abbrev cX11_drawnBelow : ByteArray := prog_1_method_85_code
def yX11_drawnBelow : MethodName := ⟨RX11, "drawnBelow", "(II)I"⟩
abbrev cX11_seedAfterDraws : ByteArray := prog_1_method_86_code
def yX11_seedAfterDraws : MethodName := ⟨RX11, "seedAfterDraws", "(I)I"⟩
abbrev cX11_worldsOfDraws : ByteArray := prog_1_method_87_code
def yX11_worldsOfDraws : MethodName := ⟨RX11, "worldsOfDraws", "(I)J"⟩
def RX12 : String := "WitnessesMustLieModel"
def TX12 : u_T := fun k => match k with
  | 0 => ("WitnessesMustLieModel", "truth", "I", false)
  | 1 => ("WitnessesMustLieModel", "laws", "I", false)
  | 2 => ("WitnessesMustLieModel", "law", "[I", true)
  | 3 => ("WitnessesMustLieModel", "witnesses", "I", false)
  | 4 => ("WitnessesMustLieModel", "knows", "[I", true)
  | 5 => ("WitnessesMustLieModel", "said", "I", false)
  | 6 => ("WitnessesMustLieModel", "saying", "[I", true)
  | 7 => ("WitnessesMustLieModel", "by", "[I", true)
  | 8 => ("WitnessesMustLieModel", "holds", "[I", true)
  | 9 => ("WitnessesMustLieModel", "first", "[I", true)
  | 10 => ("WitnessesMustLieModel", "second", "[I", true)
  | 11 => ("WitnessesMustLieModel", "cells", "[I", true)
  | 12 => ("WitnessesMustLieModel", "text", "I", false)
  | 13 => ("WitnessesMustLieModel", "at", "I", false)
  | 14 => ("WitnessesMustLieModel", "value", "[I", true)
  | 15 => ("WitnessesMustLieModel", "imaged", "Z", false)
  | 16 => ("WitnessesMustLieModel", "old", "[I", true)
  | 17 => ("WitnessesMustLieModel", "ahead", "[I", true)
  | 18 => ("WitnessesMustLieModel", "above", "J", false)
  | 19 => ("WitnessesMustLieModel", "below", "J", false)
  | 20 => ("WitnessesMustLieModel", "bestLie", "I", false)
  | _ => ("WitnessesMustLieModel", "thrown", "I", false)
def tyX12 : Nat → FieldType := fun k => match k with
  | 0 => .int
  | 1 => .int
  | 2 => .array .int
  | 3 => .int
  | 4 => .array .int
  | 5 => .int
  | 6 => .array .int
  | 7 => .array .int
  | 8 => .array .int
  | 9 => .array .int
  | 10 => .array .int
  | 11 => .array .int
  | 12 => .int
  | 13 => .int
  | 14 => .array .int
  | 15 => .boolean
  | 16 => .array .int
  | 17 => .array .int
  | 18 => .long
  | 19 => .long
  | 20 => .int
  | _ => .int
abbrev wsX120 : List Cond := u_ws RX12 TX12 22
theorem nmX12 : ∀ a, a < 22 → ∀ b, b < 22 → a ≠ b → (TX12 a).2.1 ≠ (TX12 b).2.1 := by decide +kernel
theorem tyX12_ok : ∀ k, k < 22 → parseFieldDescriptor (TX12 k).2.2.1 = some (tyX12 k) := by decide +kernel
abbrev cX12_init : ByteArray := prog_14_method_1_code
def yX12_init : MethodName := ⟨RX12, "<init>", "()V"⟩
abbrev cX12_within : ByteArray := prog_14_method_2_code
def yX12_within : MethodName := ⟨RX12, "within", "(III)Z"⟩
abbrev cX12_isFact : ByteArray := prog_14_method_3_code
def yX12_isFact : MethodName := ⟨RX12, "isFact", "(I)Z"⟩
abbrev cX12_isShelf : ByteArray := prog_14_method_4_code
def yX12_isShelf : MethodName := ⟨RX12, "isShelf", "(I)Z"⟩
abbrev cX12_isWitness : ByteArray := prog_14_method_5_code
def yX12_isWitness : MethodName := ⟨RX12, "isWitness", "(I)Z"⟩
abbrev cX12_isSaid : ByteArray := prog_14_method_6_code
def yX12_isSaid : MethodName := ⟨RX12, "isSaid", "(I)Z"⟩
abbrev cX12_made : ByteArray := prog_14_method_7_code
def yX12_made : MethodName := ⟨RX12, "made", "(IIII)I"⟩
abbrev cX12_has : ByteArray := prog_14_method_8_code
def yX12_has : MethodName := ⟨RX12, "has", "(II)Z"⟩
abbrev cX12_isTrueIn : ByteArray := prog_14_method_9_code
def yX12_isTrueIn : MethodName := ⟨RX12, "isTrueIn", "(II)Z"⟩
abbrev cX12_sizeOf : ByteArray := prog_14_method_10_code
def yX12_sizeOf : MethodName := ⟨RX12, "sizeOf", "(I)I"⟩
abbrev cX12_aboutOf : ByteArray := prog_14_method_11_code
def yX12_aboutOf : MethodName := ⟨RX12, "aboutOf", "(I)I"⟩
abbrev cX12_worldsOf : ByteArray := prog_14_method_12_code
def yX12_worldsOf : MethodName := ⟨RX12, "worldsOf", "(I)J"⟩
abbrev cX12_isSlip : ByteArray := prog_14_method_13_code
def yX12_isSlip : MethodName := ⟨RX12, "isSlip", "(I)Z"⟩
abbrev cX12_of : ByteArray := prog_14_method_14_code
def yX12_of : MethodName := ⟨RX12, "of", "(II)I"⟩
abbrev cX12_is : ByteArray := prog_14_method_15_code
def yX12_is : MethodName := ⟨RX12, "is", "(I)Z"⟩
abbrev cX12_digits : ByteArray := prog_14_method_16_code
def yX12_digits : MethodName := ⟨RX12, "digits", "(I)Z"⟩
abbrev cX12_two : ByteArray := prog_14_method_17_code
def yX12_two : MethodName := ⟨RX12, "two", "()I"⟩
abbrev cX12_isSaying : ByteArray := prog_14_method_18_code
def yX12_isSaying : MethodName := ⟨RX12, "isSaying", "(I)Z"⟩
abbrev cX12_readSaying : ByteArray := prog_14_method_19_code
def yX12_readSaying : MethodName := ⟨RX12, "readSaying", "(I)I"⟩
abbrev cX12_statement : ByteArray := prog_14_method_20_code
def yX12_statement : MethodName := ⟨RX12, "statement", "(Z)I"⟩
abbrev cX12_trial : ByteArray := prog_14_method_21_code
def yX12_trial : MethodName := ⟨RX12, "trial", "(I)I"⟩
abbrev cX12_law : ByteArray := prog_14_method_22_code
def yX12_law : MethodName := ⟨RX12, "law", "(II)I"⟩
abbrev cX12_said : ByteArray := prog_14_method_23_code
def yX12_said : MethodName := ⟨RX12, "said", "(II)I"⟩
abbrev cX12_knows : ByteArray := prog_14_method_24_code
def yX12_knows : MethodName := ⟨RX12, "knows", "(I)I"⟩
abbrev cX12_noSaying : ByteArray := prog_14_method_25_code
def yX12_noSaying : MethodName := ⟨RX12, "noSaying", "(I)I"⟩
abbrev cX12_onShelf : ByteArray := prog_14_method_26_code
def yX12_onShelf : MethodName := ⟨RX12, "onShelf", "(III)I"⟩
abbrev cX12_isTrue : ByteArray := prog_14_method_27_code
def yX12_isTrue : MethodName := ⟨RX12, "isTrue", "(IIII)I"⟩
abbrev cX12_rules : ByteArray := prog_14_method_28_code
def yX12_rules : MethodName := ⟨RX12, "rules", "(III)I"⟩
abbrev cX12_says : ByteArray := prog_14_method_29_code
def yX12_says : MethodName := ⟨RX12, "says", "(IIII)I"⟩
abbrev cX12_unsays : ByteArray := prog_14_method_30_code
def yX12_unsays : MethodName := ⟨RX12, "unsays", "()I"⟩
abbrev cX12_witness : ByteArray := prog_14_method_31_code
def yX12_witness : MethodName := ⟨RX12, "witness", "(I)I"⟩
abbrev cX12_truth : ByteArray := prog_14_method_32_code
def yX12_truth : MethodName := ⟨RX12, "truth", "(I)I"⟩
abbrev cX12_mayBe : ByteArray := prog_14_method_33_code
def yX12_mayBe : MethodName := ⟨RX12, "mayBe", "()J"⟩
abbrev cX12_leftBy : ByteArray := prog_14_method_34_code
def yX12_leftBy : MethodName := ⟨RX12, "leftBy", "(I)J"⟩
abbrev cX12_left : ByteArray := prog_14_method_35_code
def yX12_left : MethodName := ⟨RX12, "left", "()J"⟩
abbrev cX12_worlds : ByteArray := prog_14_method_36_code
def yX12_worlds : MethodName := ⟨RX12, "worlds", "(I)J"⟩
abbrev cX12_many : ByteArray := prog_14_method_37_code
def yX12_many : MethodName := ⟨RX12, "many", "(I)I"⟩
abbrev cX12_facts : ByteArray := prog_14_method_38_code
def yX12_facts : MethodName := ⟨RX12, "facts", "(JI)I"⟩
abbrev cX12_proved : ByteArray := prog_14_method_39_code
def yX12_proved : MethodName := ⟨RX12, "proved", "(I)I"⟩
abbrev cX12_slips : ByteArray := prog_14_method_40_code
def yX12_slips : MethodName := ⟨RX12, "slips", "(I)I"⟩
abbrev cX12_alone : ByteArray := prog_14_method_41_code
def yX12_alone : MethodName := ⟨RX12, "alone", "(I)I"⟩
abbrev cX12_clash : ByteArray := prog_14_method_42_code
def yX12_clash : MethodName := ⟨RX12, "clash", "()I"⟩
abbrev cX12_isBetter : ByteArray := prog_14_method_43_code
def yX12_isBetter : MethodName := ⟨RX12, "isBetter", "(II)Z"⟩
abbrev cX12_proof : ByteArray := prog_14_method_44_code
def yX12_proof : MethodName := ⟨RX12, "proof", "(I)I"⟩
abbrev cX12_slipped : ByteArray := prog_14_method_45_code
def yX12_slipped : MethodName := ⟨RX12, "slipped", "()I"⟩
abbrev cX12_ask : ByteArray := prog_14_method_46_code
def yX12_ask : MethodName := ⟨RX12, "ask", "()I"⟩
abbrev cX12_saidBy : ByteArray := prog_14_method_47_code
def yX12_saidBy : MethodName := ⟨RX12, "saidBy", "(I)I"⟩
abbrev cX12_isPlain : ByteArray := prog_14_method_48_code
def yX12_isPlain : MethodName := ⟨RX12, "isPlain", "(I)Z"⟩
abbrev cX12_plain : ByteArray := prog_14_method_49_code
def yX12_plain : MethodName := ⟨RX12, "plain", "()I"⟩
abbrev cX12_order : ByteArray := prog_14_method_50_code
def yX12_order : MethodName := ⟨RX12, "order", "(I)I"⟩
abbrev cX12_without : ByteArray := prog_14_method_51_code
def yX12_without : MethodName := ⟨RX12, "without", "(I)I"⟩
abbrev cX12_isLie : ByteArray := prog_14_method_52_code
def yX12_isLie : MethodName := ⟨RX12, "isLie", "(II)Z"⟩
abbrev cX12_plainSaying : ByteArray := prog_14_method_53_code
def yX12_plainSaying : MethodName := ⟨RX12, "plainSaying", "(I)I"⟩
abbrev cX12_lie : ByteArray := prog_14_method_54_code
def yX12_lie : MethodName := ⟨RX12, "lie", "(II)I"⟩
abbrev cX12_twoLies : ByteArray := prog_14_method_55_code
def yX12_twoLies : MethodName := ⟨RX12, "twoLies", "(II)I"⟩
abbrev cX12_tells : ByteArray := prog_14_method_56_code
def yX12_tells : MethodName := ⟨RX12, "tells", "(III)I"⟩
abbrev cX12_verdict : ByteArray := prog_14_method_57_code
def yX12_verdict : MethodName := ⟨RX12, "verdict", "()I"⟩
abbrev cX12_like : ByteArray := prog_14_method_58_code
def yX12_like : MethodName := ⟨RX12, "like", "(JII)J"⟩
abbrev cX12_alike : ByteArray := prog_14_method_59_code
def yX12_alike : MethodName := ⟨RX12, "alike", "(J)I"⟩
abbrev cX12_certain : ByteArray := prog_14_method_60_code
def yX12_certain : MethodName := ⟨RX12, "certain", "(I)I"⟩
abbrev cX12_knowsOf : ByteArray := prog_14_method_61_code
def yX12_knowsOf : MethodName := ⟨RX12, "knowsOf", "(II)I"⟩
abbrev cX12_allKnow : ByteArray := prog_14_method_62_code
def yX12_allKnow : MethodName := ⟨RX12, "allKnow", "(I)I"⟩
abbrev cX12_part : ByteArray := prog_14_method_63_code
def yX12_part : MethodName := ⟨RX12, "part", "(I)J"⟩
abbrev cX12_pencils : ByteArray := prog_14_method_64_code
def yX12_pencils : MethodName := ⟨RX12, "pencils", "(III)J"⟩
abbrev cX12_leastOf : ByteArray := prog_14_method_65_code
def yX12_leastOf : MethodName := ⟨RX12, "leastOf", "(I)I"⟩
abbrev cX12_noRow : ByteArray := prog_14_method_66_code
def yX12_noRow : MethodName := ⟨RX12, "noRow", "(I)I"⟩
abbrev cX12_fits : ByteArray := prog_14_method_67_code
def yX12_fits : MethodName := ⟨RX12, "fits", "(I)J"⟩
abbrev cX12_judge : ByteArray := prog_14_method_68_code
def yX12_judge : MethodName := ⟨RX12, "judge", "(I)I"⟩
abbrev cX12_seeds : ByteArray := prog_14_method_69_code
def yX12_seeds : MethodName := ⟨RX12, "seeds", "(III)I"⟩
abbrev cX12_keep : ByteArray := prog_14_method_70_code
def yX12_keep : MethodName := ⟨RX12, "keep", "([I)V"⟩
abbrev cX12_again : ByteArray := prog_14_method_71_code
def yX12_again : MethodName := ⟨RX12, "again", "([I)V"⟩
abbrev cX12_image : ByteArray := prog_14_method_72_code
def yX12_image : MethodName := ⟨RX12, "image", "()I"⟩
abbrev cX12_restore : ByteArray := prog_14_method_73_code
def yX12_restore : MethodName := ⟨RX12, "restore", "()I"⟩
abbrev cX12_count : ByteArray := prog_14_method_74_code
def yX12_count : MethodName := ⟨RX12, "count", "(I)I"⟩
abbrev cX12_keep_ : ByteArray := prog_14_method_75_code
def yX12_keep_ : MethodName := ⟨RX12, "keep", "(IIII)I"⟩
abbrev cX12_row : ByteArray := prog_14_method_76_code
def yX12_row : MethodName := ⟨RX12, "row", "(III)I"⟩
abbrev cX12_put : ByteArray := prog_14_method_77_code
def yX12_put : MethodName := ⟨RX12, "put", "(III)I"⟩
abbrev cX12_thrown : ByteArray := prog_14_method_78_code
def yX12_thrown : MethodName := ⟨RX12, "thrown", "()I"⟩
abbrev cX12_element : ByteArray := prog_14_method_79_code
def yX12_element : MethodName := ⟨RX12, "element", "(II)J"⟩
abbrev cX12_copy : ByteArray := prog_14_method_80_code
def yX12_copy : MethodName := ⟨RX12, "copy", "(IIIII)I"⟩
abbrev cX12_costOf : ByteArray := prog_14_method_81_code
def yX12_costOf : MethodName := ⟨RX12, "costOf", "(I)I"⟩
abbrev cX12_cost : ByteArray := prog_14_method_82_code
def yX12_cost : MethodName := ⟨RX12, "cost", "(I)I"⟩
abbrev cX12_toss : ByteArray := prog_14_method_83_code
def yX12_toss : MethodName := ⟨RX12, "toss", "(I)I"⟩
def RJx145de : String := "java/io/Serializable"
def TJx145de : u_T := fun k => match k with
  | _ => ("", "", "", false)
def tyJx145de : Nat → FieldType := fun k => match k with
  | _ => .int
abbrev wsJx145de0 : List Cond := u_ws RJx145de TJx145de 0
theorem nmJx145de : ∀ a, a < 0 → ∀ b, b < 0 → a ≠ b → (TJx145de a).2.1 ≠ (TJx145de b).2.1 := by decide +kernel
theorem tyJx145de_ok : ∀ k, k < 0 → parseFieldDescriptor (TJx145de k).2.2.1 = some (tyJx145de k) := by decide +kernel
def RJx8e188 : String := "java/lang/Cloneable"
def TJx8e188 : u_T := fun k => match k with
  | _ => ("", "", "", false)
def tyJx8e188 : Nat → FieldType := fun k => match k with
  | _ => .int
abbrev wsJx8e1880 : List Cond := u_ws RJx8e188 TJx8e188 0
theorem nmJx8e188 : ∀ a, a < 0 → ∀ b, b < 0 → a ≠ b → (TJx8e188 a).2.1 ≠ (TJx8e188 b).2.1 := by decide +kernel
theorem tyJx8e188_ok : ∀ k, k < 0 → parseFieldDescriptor (TJx8e188 k).2.2.1 = some (tyJx8e188 k) := by decide +kernel
def RJ6 : String := "java/lang/Integer"
def TJ6 : u_T := fun k => match k with
  | _ => ("", "", "", false)
def tyJ6 : Nat → FieldType := fun k => match k with
  | _ => .int
abbrev wsJ60 : List Cond := u_ws RJ6 TJ6 0
theorem nmJ6 : ∀ a, a < 0 → ∀ b, b < 0 → a ≠ b → (TJ6 a).2.1 ≠ (TJ6 b).2.1 := by decide +kernel
theorem tyJ6_ok : ∀ k, k < 0 → parseFieldDescriptor (TJ6 k).2.2.1 = some (tyJ6 k) := by decide +kernel
abbrev cJ6_numberOfTrailingZeros_0f7a4 : ByteArray := prog_20_method_48_code
def yJ6_numberOfTrailingZeros_0f7a4 : MethodName := ⟨RJ6, "numberOfTrailingZeros", "(I)I"⟩
abbrev cJ6_bitCount_0f7a4 : ByteArray := prog_20_method_49_code
def yJ6_bitCount_0f7a4 : MethodName := ⟨RJ6, "bitCount", "(I)I"⟩
def RJxab1ab : String := "java/lang/Iterable"
def TJxab1ab : u_T := fun k => match k with
  | _ => ("", "", "", false)
def tyJxab1ab : Nat → FieldType := fun k => match k with
  | _ => .int
abbrev wsJxab1ab0 : List Cond := u_ws RJxab1ab TJxab1ab 0
theorem nmJxab1ab : ∀ a, a < 0 → ∀ b, b < 0 → a ≠ b → (TJxab1ab a).2.1 ≠ (TJxab1ab b).2.1 := by decide +kernel
theorem tyJxab1ab_ok : ∀ k, k < 0 → parseFieldDescriptor (TJxab1ab k).2.2.1 = some (tyJxab1ab k) := by decide +kernel
def RJ13 : String := "java/lang/Long"
def TJ13 : u_T := fun k => match k with
  | _ => ("", "", "", false)
def tyJ13 : Nat → FieldType := fun k => match k with
  | _ => .int
abbrev wsJ130 : List Cond := u_ws RJ13 TJ13 0
theorem nmJ13 : ∀ a, a < 0 → ∀ b, b < 0 → a ≠ b → (TJ13 a).2.1 ≠ (TJ13 b).2.1 := by decide +kernel
theorem tyJ13_ok : ∀ k, k < 0 → parseFieldDescriptor (TJ13 k).2.2.1 = some (tyJ13 k) := by decide +kernel
abbrev cJ13_bitCount_95d88 : ByteArray := prog_22_method_50_code
def yJ13_bitCount_95d88 : MethodName := ⟨RJ13, "bitCount", "(J)I"⟩
def RJ9 : String := "java/lang/Math"
def TJ9 : u_T := fun k => match k with
  | _ => ("", "", "", false)
def tyJ9 : Nat → FieldType := fun k => match k with
  | _ => .int
abbrev wsJ90 : List Cond := u_ws RJ9 TJ9 0
theorem nmJ9 : ∀ a, a < 0 → ∀ b, b < 0 → a ≠ b → (TJ9 a).2.1 ≠ (TJ9 b).2.1 := by decide +kernel
theorem tyJ9_ok : ∀ k, k < 0 → parseFieldDescriptor (TJ9 k).2.2.1 = some (tyJ9 k) := by decide +kernel
abbrev cJ9_max_7cf53 : ByteArray := prog_23_method_65_code
def yJ9_max_7cf53 : MethodName := ⟨RJ9, "max", "(II)I"⟩
abbrev cJ9_min_7cf53 : ByteArray := prog_23_method_69_code
def yJ9_min_7cf53 : MethodName := ⟨RJ9, "min", "(II)I"⟩
def RJ0 : String := "java/lang/String"
def TJ0 : u_T := fun k => match k with
  | _ => ("", "", "", false)
def tyJ0 : Nat → FieldType := fun k => match k with
  | _ => .int
abbrev wsJ00 : List Cond := u_ws RJ0 TJ0 0
theorem nmJ0 : ∀ a, a < 0 → ∀ b, b < 0 → a ≠ b → (TJ0 a).2.1 ≠ (TJ0 b).2.1 := by decide +kernel
theorem tyJ0_ok : ∀ k, k < 0 → parseFieldDescriptor (TJ0 k).2.2.1 = some (tyJ0 k) := by decide +kernel
def RJ10 : String := "java/lang/System"
def TJ10 : u_T := fun k => match k with
  | _ => ("", "", "", false)
def tyJ10 : Nat → FieldType := fun k => match k with
  | _ => .int
abbrev wsJ100 : List Cond := u_ws RJ10 TJ10 0
theorem nmJ10 : ∀ a, a < 0 → ∀ b, b < 0 → a ≠ b → (TJ10 a).2.1 ≠ (TJ10 b).2.1 := by decide +kernel
theorem tyJ10_ok : ∀ k, k < 0 → parseFieldDescriptor (TJ10 k).2.2.1 = some (tyJ10 k) := by decide +kernel
def RJxa1e45 : String := "java/util/AbstractCollection"
def TJxa1e45 : u_T := fun k => match k with
  | _ => ("", "", "", false)
def tyJxa1e45 : Nat → FieldType := fun k => match k with
  | _ => .int
abbrev wsJxa1e450 : List Cond := u_ws RJxa1e45 TJxa1e45 0
theorem nmJxa1e45 : ∀ a, a < 0 → ∀ b, b < 0 → a ≠ b → (TJxa1e45 a).2.1 ≠ (TJxa1e45 b).2.1 := by decide +kernel
theorem tyJxa1e45_ok : ∀ k, k < 0 → parseFieldDescriptor (TJxa1e45 k).2.2.1 = some (tyJxa1e45 k) := by decide +kernel
abbrev cJxa1e45_init_da8c8 : ByteArray := prog_28_method_1_code
def yJxa1e45_init_da8c8 : MethodName := ⟨RJxa1e45, "<init>", "()V"⟩
def RJxc12de : String := "java/util/AbstractList"
def TJxc12de : u_T := fun k => match k with
  | _ => ("", "", "", false)
def tyJxc12de : Nat → FieldType := fun k => match k with
  | _ => .int
abbrev wsJxc12de0 : List Cond := u_ws RJxc12de TJxc12de 0
theorem nmJxc12de : ∀ a, a < 0 → ∀ b, b < 0 → a ≠ b → (TJxc12de a).2.1 ≠ (TJxc12de b).2.1 := by decide +kernel
theorem tyJxc12de_ok : ∀ k, k < 0 → parseFieldDescriptor (TJxc12de k).2.2.1 = some (tyJxc12de k) := by decide +kernel
abbrev cJxc12de_init_da8c8 : ByteArray := prog_29_method_1_code
def yJxc12de_init_da8c8 : MethodName := ⟨RJxc12de, "<init>", "()V"⟩
def RJx4a65c : String := "java/util/ArrayList"
def TJx4a65c : u_T := fun k => match k with
  | 0 => ("java/util/AbstractList", "modCount", "I", false)
  | 1 => ("java/util/ArrayList", "elementData", "[Ljava/lang/Object;", false)
  | _ => ("java/util/ArrayList", "size", "I", false)
def tyJx4a65c : Nat → FieldType := fun k => match k with
  | 0 => .int
  | 1 => .array (.object "java/lang/Object")
  | _ => .int
abbrev wsJx4a65c0 : List Cond := u_ws RJx4a65c TJx4a65c 3
theorem nmJx4a65c : ∀ a, a < 3 → ∀ b, b < 3 → a ≠ b → (TJx4a65c a).2.1 ≠ (TJx4a65c b).2.1 := by decide +kernel
theorem tyJx4a65c_ok : ∀ k, k < 3 → parseFieldDescriptor (TJx4a65c k).2.2.1 = some (tyJx4a65c k) := by decide +kernel
abbrev cJx4a65c_init_da8c8 : ByteArray := prog_30_method_2_code
def yJx4a65c_init_da8c8 : MethodName := ⟨RJx4a65c, "<init>", "()V"⟩
abbrev cJx4a65c_grow_92f84 : ByteArray := prog_30_method_6_code
def yJx4a65c_grow_92f84 : MethodName := ⟨RJx4a65c, "grow", "(I)[Ljava/lang/Object;"⟩
abbrev cJx4a65c_grow_d5877 : ByteArray := prog_30_method_7_code
def yJx4a65c_grow_d5877 : MethodName := ⟨RJx4a65c, "grow", "()[Ljava/lang/Object;"⟩
abbrev cJx4a65c_size_8abf5 : ByteArray := prog_30_method_8_code
def yJx4a65c_size_8abf5 : MethodName := ⟨RJx4a65c, "size", "()I"⟩
abbrev cJx4a65c_elementData_915e3 : ByteArray := prog_30_method_18_code
def yJx4a65c_elementData_915e3 : MethodName := ⟨RJx4a65c, "elementData", "(I)Ljava/lang/Object;"⟩
abbrev cJx4a65c_get_915e3 : ByteArray := prog_30_method_20_code
def yJx4a65c_get_915e3 : MethodName := ⟨RJx4a65c, "get", "(I)Ljava/lang/Object;"⟩
abbrev cJx4a65c_add_72be8 : ByteArray := prog_30_method_24_code
def yJx4a65c_add_72be8 : MethodName := ⟨RJx4a65c, "add", "(Ljava/lang/Object;[Ljava/lang/Object;I)V"⟩
abbrev cJx4a65c_add_9ea2d : ByteArray := prog_30_method_25_code
def yJx4a65c_add_9ea2d : MethodName := ⟨RJx4a65c, "add", "(Ljava/lang/Object;)Z"⟩
abbrev cJx4a65c_remove_915e3 : ByteArray := prog_30_method_29_code
def yJx4a65c_remove_915e3 : MethodName := ⟨RJx4a65c, "remove", "(I)Ljava/lang/Object;"⟩
abbrev cJx4a65c_fastRemove_b59b0 : ByteArray := prog_30_method_39_code
def yJx4a65c_fastRemove_b59b0 : MethodName := ⟨RJx4a65c, "fastRemove", "([Ljava/lang/Object;I)V"⟩
abbrev cJx4a65c_clear_da8c8 : ByteArray := prog_30_method_40_code
def yJx4a65c_clear_da8c8 : MethodName := ⟨RJx4a65c, "clear", "()V"⟩
def RJ7 : String := "java/util/Arrays"
def TJ7 : u_T := fun k => match k with
  | _ => ("", "", "", false)
def tyJ7 : Nat → FieldType := fun k => match k with
  | _ => .int
abbrev wsJ70 : List Cond := u_ws RJ7 TJ7 0
theorem nmJ7 : ∀ a, a < 0 → ∀ b, b < 0 → a ≠ b → (TJ7 a).2.1 ≠ (TJ7 b).2.1 := by decide +kernel
theorem tyJ7_ok : ∀ k, k < 0 → parseFieldDescriptor (TJ7 k).2.2.1 = some (tyJ7 k) := by decide +kernel
abbrev cJ7_copyOf_1904c : ByteArray := prog_31_method_119_code
def yJ7_copyOf_1904c : MethodName := ⟨RJ7, "copyOf", "([Ljava/lang/Object;I)[Ljava/lang/Object;"⟩
abbrev cJ7_copyOf_6403c : ByteArray := prog_31_method_120_code
def yJ7_copyOf_6403c : MethodName := ⟨RJ7, "copyOf", "([Ljava/lang/Object;ILjava/lang/Class;)[Ljava/lang/Object;"⟩
def RJx5ef63 : String := "java/util/Collection"
def TJx5ef63 : u_T := fun k => match k with
  | _ => ("", "", "", false)
def tyJx5ef63 : Nat → FieldType := fun k => match k with
  | _ => .int
abbrev wsJx5ef630 : List Cond := u_ws RJx5ef63 TJx5ef63 0
theorem nmJx5ef63 : ∀ a, a < 0 → ∀ b, b < 0 → a ≠ b → (TJx5ef63 a).2.1 ≠ (TJx5ef63 b).2.1 := by decide +kernel
theorem tyJx5ef63_ok : ∀ k, k < 0 → parseFieldDescriptor (TJx5ef63 k).2.2.1 = some (tyJx5ef63 k) := by decide +kernel
def RJxbd725 : String := "java/util/List"
def TJxbd725 : u_T := fun k => match k with
  | _ => ("", "", "", false)
def tyJxbd725 : Nat → FieldType := fun k => match k with
  | _ => .int
abbrev wsJxbd7250 : List Cond := u_ws RJxbd725 TJxbd725 0
theorem nmJxbd725 : ∀ a, a < 0 → ∀ b, b < 0 → a ≠ b → (TJxbd725 a).2.1 ≠ (TJxbd725 b).2.1 := by decide +kernel
theorem tyJxbd725_ok : ∀ k, k < 0 → parseFieldDescriptor (TJxbd725 k).2.2.1 = some (tyJxbd725 k) := by decide +kernel
def RJ15 : String := "java/util/Objects"
def TJ15 : u_T := fun k => match k with
  | _ => ("", "", "", false)
def tyJ15 : Nat → FieldType := fun k => match k with
  | _ => .int
abbrev wsJ150 : List Cond := u_ws RJ15 TJ15 0
theorem nmJ15 : ∀ a, a < 0 → ∀ b, b < 0 → a ≠ b → (TJ15 a).2.1 ≠ (TJ15 b).2.1 := by decide +kernel
theorem tyJ15_ok : ∀ k, k < 0 → parseFieldDescriptor (TJ15 k).2.2.1 = some (tyJ15 k) := by decide +kernel
abbrev cJ15_checkIndex_7cf53 : ByteArray := prog_34_method_17_code
def yJ15_checkIndex_7cf53 : MethodName := ⟨RJ15, "checkIndex", "(II)I"⟩
def RJxf0a74 : String := "java/util/RandomAccess"
def TJxf0a74 : u_T := fun k => match k with
  | _ => ("", "", "", false)
def tyJxf0a74 : Nat → FieldType := fun k => match k with
  | _ => .int
abbrev wsJxf0a740 : List Cond := u_ws RJxf0a74 TJxf0a74 0
theorem nmJxf0a74 : ∀ a, a < 0 → ∀ b, b < 0 → a ≠ b → (TJxf0a74 a).2.1 ≠ (TJxf0a74 b).2.1 := by decide +kernel
theorem tyJxf0a74_ok : ∀ k, k < 0 → parseFieldDescriptor (TJxf0a74 k).2.2.1 = some (tyJxf0a74 k) := by decide +kernel
def RJxa66e6 : String := "java/util/SequencedCollection"
def TJxa66e6 : u_T := fun k => match k with
  | _ => ("", "", "", false)
def tyJxa66e6 : Nat → FieldType := fun k => match k with
  | _ => .int
abbrev wsJxa66e60 : List Cond := u_ws RJxa66e6 TJxa66e6 0
theorem nmJxa66e6 : ∀ a, a < 0 → ∀ b, b < 0 → a ≠ b → (TJxa66e6 a).2.1 ≠ (TJxa66e6 b).2.1 := by decide +kernel
theorem tyJxa66e6_ok : ∀ k, k < 0 → parseFieldDescriptor (TJxa66e6 k).2.2.1 = some (tyJxa66e6 k) := by decide +kernel
def RJ8 : String := "jdk/internal/util/ArraysSupport"
def TJ8 : u_T := fun k => match k with
  | _ => ("", "", "", false)
def tyJ8 : Nat → FieldType := fun k => match k with
  | _ => .int
abbrev wsJ80 : List Cond := u_ws RJ8 TJ8 0
theorem nmJ8 : ∀ a, a < 0 → ∀ b, b < 0 → a ≠ b → (TJ8 a).2.1 ≠ (TJ8 b).2.1 := by decide +kernel
theorem tyJ8_ok : ∀ k, k < 0 → parseFieldDescriptor (TJ8 k).2.2.1 = some (tyJ8 k) := by decide +kernel
abbrev cJ8_newLength_cabcc : ByteArray := prog_37_method_27_code
def yJ8_newLength_cabcc : MethodName := ⟨RJ8, "newLength", "(III)I"⟩
abbrev cJ8_hugeLength_7cf53 : ByteArray := prog_37_method_28_code
def yJ8_hugeLength_7cf53 : MethodName := ⟨RJ8, "hugeLength", "(II)I"⟩
def RJ3 : String := "jdk/internal/util/Preconditions"
def TJ3 : u_T := fun k => match k with
  | _ => ("", "", "", false)
def tyJ3 : Nat → FieldType := fun k => match k with
  | _ => .int
abbrev wsJ30 : List Cond := u_ws RJ3 TJ3 0
theorem nmJ3 : ∀ a, a < 0 → ∀ b, b < 0 → a ≠ b → (TJ3 a).2.1 ≠ (TJ3 b).2.1 := by decide +kernel
theorem tyJ3_ok : ∀ k, k < 0 → parseFieldDescriptor (TJ3 k).2.2.1 = some (tyJ3 k) := by decide +kernel
abbrev cJ3_checkIndex_8e157 : ByteArray := prog_38_method_11_code
def yJ3_checkIndex_8e157 : MethodName := ⟨RJ3, "checkIndex", "(IILjava/util/function/BiFunction;)I"⟩
def RL : String := "WitnessesMustLieLaw"
abbrev cL_element : ByteArray := method_3_code
def yL_element : MethodName := ⟨RL, "element", "(LWitnessesMustLie;II[J)I"⟩
abbrev cL_law : ByteArray := code
def yL_law : MethodName := ⟨RL, "law", "([I)Z"⟩
end
section
/-! An abstract machine over a heap that is a list: place k of the list stands for the cell at base + k. A static array of before is named by a float (a stand-in: the system has none). -/
abbrev ab_E : Type := (Nat × vp_A) ⊕ (Nat × List Value)
/-- the ground: classes and slots, the base, the addresses of static arrays, array classes, the state at the law's entry, the launch -/
abbrev ab_G : Type := va_G × Nat × (Nat → Nat) × (Nat → ClassId) × State × Launch
/-- a method: name, bytes, locals, what it returns; the frames and words of locals that its calls need -/
abbrev ab_M : Type := MethodName × ByteArray × Nat × Option FieldType × Nat × Nat
abbrev ab_X : Type := Program × Env × Room × State × MethodId × Array Value × List Frame × Method × Code × (State → Prop) × List ab_E
def ab_cls : List vw_C := [(RJx4a65c, TJx4a65c, 3), (RX0, TX0, 1), (RX1, TX1, 1), (RX2, TX2, 1), (RX3, TX3, 1), (RX4, TX4, 1), (RX5, TX5, 1), (RX6, TX6, 1), (RX7, TX7, 6), (RX8, TX8, 1), (RX9, TX9, 6), (RX10, TX10, 5), (RX11, TX11, 8), (RX12, TX12, 22), ("java/lang/IllegalStateException", TX0, 0), ("java/lang/IllegalArgumentException", TX0, 0)]
def ab_tyof : List FieldType := [.int, .long, .object "java/lang/Object", .object "WitnessesMustLie$Shelf"]
def ab_Tg : List Cond := lw_tbl.filter goodWord
def ab_ren (G : ab_G) : Value → Value
  | .ref k => .ref (G.2.1 + k)
  | .float j => .ref (G.2.2.1 j.toNat)
  | v => v
def ab_renA (G : ab_G) (a : vp_A) : vp_A := match a with
  | (n, .inr (.inr (.inr (.inr f)))) => (n, .inr (.inr (.inr (.inr (fun j => (f j).map (G.2.1 + ·))))))
  | x => x
def ab_renE (G : ab_G) : ab_E → va_E
  | .inl (t, a) => .inl (G.2.2.2.1 t, ab_renA G a)
  | .inr (c, fs) => .inr (c, fs.map (ab_ren G))
def ab_wld (G : ab_G) (h : List ab_E) : va_W := h.mapIdx (fun k c => (G.2.1 + k, ab_renE G c))
/-- how many slots a cell has -/
def ab_szE : ab_E → Nat
  | .inl (_, n, _) => n
  | .inr (c, _) => match ab_cls[c]? with
    | some r => r.2.2
    | none => 0
def ab_sz (h : List ab_E) : Nat := (h.map ab_szE).sum
def ab_A (G : ab_G) : Nat → Prop := fun q => G.2.1 ≤ q
/-- the heap stands for the list; what was before stays -/
def ab_RH (G : ab_G) (h : List ab_E) (H : Heap) : Prop := va_P G.1 ab_cls (ab_wld G h) H ∧ H.size = G.2.1 + h.length ∧ ∀ q : Nat, q < G.2.1 → H[q]? = G.2.2.2.2.1.heap[q]?
def ab_RU (G : ab_G) (h : List ab_E) (U : State) : Prop := ab_RH G h U.heap ∧ G.2.2.2.2.1.vm.Alike U.vm
def ab_tys (G : ab_G) : List (ClassId × FieldType) := [(G.2.2.2.1 0, .int), (G.2.2.2.1 1, .long), (G.2.2.2.1 2, .object "java/lang/Object"), (G.2.2.2.1 3, .object "WitnessesMustLie$Shelf")]
/-- what the Statement gives of a static that holds an array -/
def ab_St (G : ab_G) (C n d : String) (j : Nat) : Prop := va_Z C n d (.ref (G.2.2.1 j)) (ab_A G) G.2.2.2.2.1 G.2.2.2.2.1.heap ∧ G.2.2.1 j < G.2.1
def ab_wv (j : Nat) : Int64 := match j with
  | 0 => -6148914691236517206
  | 1 => -3689348814741910324
  | 2 => -1085102592571150096
  | 3 => -71777214294589696
  | 4 => -281470681808896
  | _ => -4294967296
def ab_GG (G : ab_G) : Prop := va_K G.1 ab_cls (ab_tys G) G.2.2.2.2.1 ∧ G.2.2.2.2.1.heap.size = G.2.1 ∧
  ab_St G "java/util/ArrayList" "DEFAULTCAPACITY_EMPTY_ELEMENTDATA" "[Ljava/lang/Object;" 0 ∧
  (∃ cell : Cell, G.2.2.2.2.1.heap[G.2.2.1 0]? = some cell ∧ G.2.2.2.2.1.isArrayOf cell (.object "java/lang/Object") ∧ cell.slots.size.toInt32 = 0) ∧
  ab_St G "WitnessesMustLie" "WORLDS_WITH" "[J" 2 ∧
  va_T .long (G.2.2.1 2) 6 (fun j => .long (ab_wv j)) (ab_A G) G.2.2.2.2.1 G.2.2.2.2.1.heap
def ab_Good (G : ab_G) (M : ab_M) (X : ab_X) : Prop := match X with
  | (p, e, R, s, m, args, below, meth, c, Q, h0) => p.tables.exec = Jvm.exec ∧ c.code = M.2.1 ∧ c.maxLocals = M.2.2.1 ∧ meth.sig.returnType = M.2.2.2.1 ∧ meth.locks = false ∧ s.vm.findClass M.1.cls = some m.cls ∧
    (∀ w ∈ ab_Tg, w.before args s = true) ∧ G.2.2.2.2.1.vm.Alike s.vm ∧ s.heap.size = G.2.1 + h0.length ∧ (∀ q : Nat, q < G.2.1 → s.heap[q]? = G.2.2.2.2.1.heap[q]?) ∧ meth.name = M.1.name ∧ R.frames = M.2.2.2.2.1 ∧ R.locals = M.2.2.2.2.2 ∧ ab_GG G
def ab_ll (G : ab_G) (l : List (Nat × Value)) : List (Nat × Value) := l.map (fun q => (q.1, ab_ren G q.2))
/-- from here on it comes to the end that X names -/
def ab_WA (G : ab_G) (M : ab_M) (X : ab_X) (pc : Nat) (l : List (Nat × Value)) (st : List Value) (h : List ab_E) : Prop := match X with
  | (p, e, R, s, m, args, below, meth, c, Q, h0) => h.length ≤ h0.length + R.cells ∧ ab_sz h ≤ ab_sz h0 + R.slots ∧
    ∀ (ls : Array Slot) (H : Heap) (locs : List Loc), h0.length ≤ h.length → ab_sz h0 ≤ ab_sz h → lv_has ls M.2.2.1 (ab_ll G l) → ab_RH G h H → va_S (ab_A G) s.heap H locs →
      W p G.2.2.2.2.2 e R s m args below meth c H locs (h.length - h0.length) (ab_sz h - ab_sz h0) Q (F0 m pc ls (st.map (ab_ren G)))
def ab_Qc (G : ab_G) (r : Option Value) (h1 : List ab_E) : Array Value → State → Outcome → State → Prop := fun _ st oc t => oc = .returned (r.map (ab_ren G)) ∧ ab_RU G h1 t ∧ va_F (ab_A G) st t
def ab_ws (M : ab_M) : List Cond := .code M.1 M.2.1 M.2.2.1 M.2.2.2.1 :: ab_Tg
def ab_room (M : ab_M) (h h1 : List ab_E) : Room := { frames := M.2.2.2.2.1, cells := h1.length - h.length, slots := ab_sz h1 - ab_sz h, locals := M.2.2.2.2.2 }
/-- the contract: from arguments and a heap to an answer and a heap -/
def ab_CM (G : ab_G) (M : ab_M) (av : List Value) (h : List ab_E) (r : Option Value) (h1 : List ab_E) : Prop :=
  h.length ≤ h1.length ∧ ab_sz h ≤ ab_sz h1 ∧ Met G.2.2.2.2.2 M.1 (ab_ws M) (ab_room M h h1) (va_Pc (av.map (ab_ren G)) (ab_RU G h)) (ab_Qc G r h1) (h1.length - h.length) (ab_sz h1 - ab_sz h) (ab_A G)
/-- the end that a contract wants -/
def ab_Fin (G : ab_G) (M : ab_M) (X : ab_X) (r : Option Value) (h h1 : List ab_E) : Prop := match X with
  | (p, e, R, s, m, args, below, meth, c, Q, h0) => h0 = h ∧ h.length ≤ h1.length ∧ ab_sz h ≤ ab_sz h1 ∧ R = ab_room M h h1 ∧ Q = MQ below (ab_Qc G r h1) args s (h1.length - h.length) (ab_sz h1 - ab_sz h) (ab_A G)
-- lemmas on worlds
theorem ab_wld_get {G : ab_G} {h : List ab_E} {k : Nat} {c : ab_E} (hk : h[k]? = some c) : (ab_wld G h)[k]? = some (G.2.1 + k, ab_renE G c) := by
  unfold ab_wld
  rw [List.getElem?_mapIdx, hk]
  rfl
theorem ab_wld_inv {G : ab_G} {h : List ab_E} {k : Nat} {q : Nat × va_E} (hk : (ab_wld G h)[k]? = some q) : ∃ c, h[k]? = some c ∧ q = (G.2.1 + k, ab_renE G c) := by
  unfold ab_wld at hk
  rw [List.getElem?_mapIdx] at hk
  cases hc : h[k]? with
  | none => rw [hc] at hk; cases hk
  | some c => rw [hc] at hk; exact ⟨c, rfl, (Option.some.inj hk).symm⟩
theorem ab_wld_D (G : ab_G) (h : List ab_E) : va_D (ab_A G) (ab_wld G h) := by
  refine ⟨fun i j p q hi hj hpq => ?_, fun k q hk => ?_⟩
  · obtain ⟨c, -, rfl⟩ := ab_wld_inv hi
    obtain ⟨d, -, rfl⟩ := ab_wld_inv hj
    have e : G.2.1 + i = G.2.1 + j := hpq
    omega
  · obtain ⟨c, -, rfl⟩ := ab_wld_inv hk
    exact Nat.le_add_right _ _
theorem ab_wld_set {G : ab_G} {h : List ab_E} {k : Nat} {c : ab_E} : ab_wld G (h.set k c) = (ab_wld G h).set k (G.2.1 + k, ab_renE G c) := by
  apply List.ext_getElem?
  intro i
  unfold ab_wld
  rw [List.getElem?_mapIdx, List.getElem?_set, List.getElem?_set]
  by_cases hik : k = i
  · subst hik
    rw [if_pos rfl, if_pos rfl]
    by_cases hl : k < h.length
    · simp [hl]
    · simp [hl]
  · rw [if_neg hik, if_neg hik, List.getElem?_mapIdx]
theorem ab_wld_app {G : ab_G} {h : List ab_E} {c : ab_E} : ab_wld G (h ++ [c]) = ab_wld G h ++ [(G.2.1 + h.length, ab_renE G c)] := by
  unfold ab_wld
  rw [List.mapIdx_append]
  congr 1
  simp [List.mapIdx_cons]
theorem ab_sz_app (h : List ab_E) (c : ab_E) : ab_sz (h ++ [c]) = ab_sz h + ab_szE c := by
  simp [ab_sz]
theorem ab_sz_set {h : List ab_E} {k : Nat} {c d : ab_E} (hk : h[k]? = some c) (e : ab_szE d = ab_szE c) : ab_sz (h.set k d) = ab_sz h := by
  unfold ab_sz
  induction h generalizing k with
  | nil => rfl
  | cons a t ih =>
    cases k with
    | zero =>
      rw [List.getElem?_cons_zero] at hk
      cases hk
      simp [e]
    | succ k =>
      rw [List.getElem?_cons_succ] at hk
      rw [List.set_cons_succ, List.map_cons, List.map_cons, List.sum_cons, List.sum_cons, ih hk]
theorem ab_ren_cat (G : ab_G) (v : Value) : (ab_ren G v).category = v.category := by cases v <;> rfl
theorem ab_args (G : ab_G) : ∀ (i : Nat) (vs : List Value), lv_args i (vs.map (ab_ren G)) = ab_ll G (lv_args i vs)
  | _, [] => rfl
  | i, v :: vs => by
    show (i, ab_ren G v) :: lv_args (if (ab_ren G v).category = 2 then i + 2 else i + 1) (vs.map (ab_ren G)) = (i, ab_ren G v) :: ab_ll G (lv_args (if v.category = 2 then i + 2 else i + 1) vs)
    rw [ab_ren_cat, ab_args G _ vs]
theorem ab_slen (G : ab_G) (vs : List Value) : (lg_sl (vs.map (ab_ren G))).length = (lg_sl vs).length := by
  unfold lg_sl
  induction vs with
  | nil => rfl
  | cons v t ih =>
    rw [List.map_cons, List.flatMap_cons, List.flatMap_cons, List.length_append, List.length_append, ih, ab_ren_cat]
    by_cases h : v.category = 2
    · rw [if_pos h, if_pos h]; rfl
    · rw [if_neg h, if_neg h]; rfl
/-- storing one word's value -/
def ab_st1 (l : List (Nat × Value)) (i : Nat) (v : Value) : List (Nat × Value) := (i, v) :: l.filter (fun q => !(q.1 == i) && !(q.1 + 1 == i && q.2.category == 2))
def ab_st2 (l : List (Nat × Value)) (i : Nat) (v : Value) : List (Nat × Value) := (i, v) :: l.filter (fun q => !(q.1 == i) && (!(q.1 == i + 1) && !(q.1 + 1 == i && q.2.category == 2)))
theorem ab_ll_filter (G : ab_G) (f : Nat → Nat → Bool) (l : List (Nat × Value)) : (ab_ll G l).filter (fun q => f q.1 q.2.category) = ab_ll G (l.filter (fun q => f q.1 q.2.category)) := by
  unfold ab_ll
  rw [List.filter_map]
  congr 1
  apply List.filter_congr
  intro q _
  show f q.1 (ab_ren G q.2).category = _
  rw [ab_ren_cat]
theorem ab_ll_st1 (G : ab_G) (l : List (Nat × Value)) (i : Nat) (v : Value) : (i, ab_ren G v) :: (ab_ll G l).filter (fun q => !(q.1 == i) && !(q.1 + 1 == i && q.2.category == 2)) = ab_ll G (ab_st1 l i v) :=
  congrArg (List.cons (i, ab_ren G v)) (ab_ll_filter G (fun a b => !(a == i) && !(a + 1 == i && b == 2)) l)
theorem ab_ll_st2 (G : ab_G) (l : List (Nat × Value)) (i : Nat) (v : Value) : (i, ab_ren G v) :: (ab_ll G l).filter (fun q => !(q.1 == i) && (!(q.1 == i + 1) && !(q.1 + 1 == i && q.2.category == 2))) = ab_ll G (ab_st2 l i v) :=
  congrArg (List.cons (i, ab_ren G v)) (ab_ll_filter G (fun a b => !(a == i) && (!(a == i + 1) && !(a + 1 == i && b == 2))) l)
theorem ab_lat {G : ab_G} {ls : Array Slot} {n : Nat} {l : List (Nat × Value)} (h : lv_has ls n (ab_ll G l)) {i : Nat} {v : Value} (hm : (i, v) ∈ l) : ls[i]? = some (.val (ab_ren G v)) :=
  h.2.2 (i, ab_ren G v) (List.mem_map.mpr ⟨(i, v), hm, rfl⟩)
/-- a contract by its walk -/
theorem ab_meth {G : ab_G} {M : ab_M} {av : List Value} {h h1 : List ab_E} {r : Option Value} {l0 : List (Nat × Value)} (hG : ab_GG G) (hy : plainName M.1.cls = true) (hl0 : lv_args 0 av = l0) (hn : (lg_sl av).length ≤ M.2.2.1) (hle : h.length ≤ h1.length) (hsz : ab_sz h ≤ ab_sz h1)
    (k : ∀ X, ab_Good G M X → ab_Fin G M X r h h1 → ab_WA G M X 0 l0 [] h) : ab_CM G M av h r h1 := by
  refine ⟨hle, hsz, Met.ofW (cc := M.2.1) (maxL := M.2.2.1) (ret := M.2.2.2.1) hy rfl ?_⟩
  intro p e s m args below meth c s₁ B hml hv
  obtain ⟨rfl, hRH, hAl⟩ := hv
  have hts : ∀ w ∈ ab_ws M, w.before _ s = true := atoms_spec (ws := ab_ws M) B.pre
  have hown : s.vm.findClass M.1.cls = some m.cls := findClass_of_methodNamed B.named
  have kk := k (p, e, ab_room M h h1, s, m, (av.map (ab_ren G)).toArray, below, meth, c, MQ below (ab_Qc G r h1) (av.map (ab_ren G)).toArray s (h1.length - h.length) (ab_sz h1 - ab_sz h) (ab_A G), h)
    ⟨B.exec, B.bytes, hml, B.returns, B.notSynchronized, hown, fun w hw => hts w (List.mem_cons_of_mem _ hw), hAl, hRH.2.1, hRH.2.2, (name_of_methodNamed B.named B.method).1, rfl, rfl, hG⟩ ⟨rfl, hle, hsz, rfl, rfl⟩
  have hl := lv_entry (av.map (ab_ren G)) (n := M.2.2.1) (by rw [ab_slen]; exact hn)
  rw [ab_args, hl0] at hl
  rw [lg_entry_eq]
  have w := kk.2.2 _ s.heap [] (Nat.le_refl _) (Nat.le_refl _) hl hRH va_S.rf
  rw [Nat.sub_self, Nat.sub_self] at w
  exact w
end
section
theorem ab_isref (G : ab_G) {v : Value} (hv : v = .null ∨ (∃ a, v = .ref a) ∨ ∃ x, v = .float x) : ab_ren G v = .null ∨ ∃ a, ab_ren G v = .ref a := by
  rcases hv with rfl | ⟨a, rfl⟩ | ⟨x, rfl⟩
  · exact Or.inl rfl
  · exact Or.inr ⟨_, rfl⟩
  · exact Or.inr ⟨_, rfl⟩
theorem ab_iconst {G : ab_G} {M : ab_M} {X : ab_X} {pc : Nat} {l : List (Nat × Value)} {st : List Value} {h : List ab_E} (hX : ab_Good G M X) {n : Int} {v : Int32} (hm : decode M.2.1 pc = .ok (.iconst n, 1)) (hv : Int32.ofInt n = v) (k : ab_WA G M X (pc + 1) l (.int v :: st) h) : ab_WA G M X pc l st h := by
  obtain ⟨p, e, R, s, m, args, below, meth, c, Q, h0⟩ := X
  obtain ⟨hx, hb, hml, hr, hlk, hown, hts, hal, hsz, hkp, hnm, hrf, hrl, hG⟩ := hX
  refine ⟨k.1, k.2.1, fun ls H locs g1 g2 hl hR hS => ?_⟩
  exact lv_iconst hx hb hm hv (k.2.2 ls H locs g1 g2 hl hR hS)
theorem ab_bipush {G : ab_G} {M : ab_M} {X : ab_X} {pc : Nat} {l : List (Nat × Value)} {st : List Value} {h : List ab_E} (hX : ab_Good G M X) {n : Int} {v : Int32} (hm : decode M.2.1 pc = .ok (.bipush n, 2)) (hv : (Int8.ofInt n).toInt32 = v) (k : ab_WA G M X (pc + 2) l (.int v :: st) h) : ab_WA G M X pc l st h := by
  obtain ⟨p, e, R, s, m, args, below, meth, c, Q, h0⟩ := X
  obtain ⟨hx, hb, hml, hr, hlk, hown, hts, hal, hsz, hkp, hnm, hrf, hrl, hG⟩ := hX
  refine ⟨k.1, k.2.1, fun ls H locs g1 g2 hl hR hS => ?_⟩
  exact lv_bipush hx hb hm hv (k.2.2 ls H locs g1 g2 hl hR hS)
theorem ab_sipush {G : ab_G} {M : ab_M} {X : ab_X} {pc : Nat} {l : List (Nat × Value)} {st : List Value} {h : List ab_E} (hX : ab_Good G M X) {n : Int} {v : Int32} (hm : decode M.2.1 pc = .ok (.sipush n, 3)) (hv : (Int16.ofInt n).toInt32 = v) (k : ab_WA G M X (pc + 3) l (.int v :: st) h) : ab_WA G M X pc l st h := by
  obtain ⟨p, e, R, s, m, args, below, meth, c, Q, h0⟩ := X
  obtain ⟨hx, hb, hml, hr, hlk, hown, hts, hal, hsz, hkp, hnm, hrf, hrl, hG⟩ := hX
  refine ⟨k.1, k.2.1, fun ls H locs g1 g2 hl hR hS => ?_⟩
  exact lv_sipush hx hb hm hv (k.2.2 ls H locs g1 g2 hl hR hS)
theorem ab_lconst {G : ab_G} {M : ab_M} {X : ab_X} {pc : Nat} {l : List (Nat × Value)} {st : List Value} {h : List ab_E} (hX : ab_Good G M X) {n : Fin 2} {v : Int64} (hm : decode M.2.1 pc = .ok (.lconst n, 1)) (hv : Int64.ofNat (n : Nat) = v) (k : ab_WA G M X (pc + 1) l (.long v :: st) h) : ab_WA G M X pc l st h := by
  obtain ⟨p, e, R, s, m, args, below, meth, c, Q, h0⟩ := X
  obtain ⟨hx, hb, hml, hr, hlk, hown, hts, hal, hsz, hkp, hnm, hrf, hrl, hG⟩ := hX
  refine ⟨k.1, k.2.1, fun ls H locs g1 g2 hl hR hS => ?_⟩
  exact lv_lconst hx hb hm hv (k.2.2 ls H locs g1 g2 hl hR hS)
theorem ab_ldc {G : ab_G} {M : ab_M} {X : ab_X} {pc : Nat} {l : List (Nat × Value)} {st : List Value} {h : List ab_E} (hX : ab_Good G M X) {i : Nat} {v : Int32} (hm : decode M.2.1 pc = .ok (.ldc i, 2)) (hw : Cond.constant M.1.cls i v ∈ ab_Tg) (k : ab_WA G M X (pc + 2) l (.int v :: st) h) : ab_WA G M X pc l st h := by
  obtain ⟨p, e, R, s, m, args, below, meth, c, Q, h0⟩ := X
  obtain ⟨hx, hb, hml, hr, hlk, hown, hts, hal, hsz, hkp, hnm, hrf, hrl, hG⟩ := hX
  refine ⟨k.1, k.2.1, fun ls H locs g1 g2 hl hR hS => ?_⟩
  exact lv_ldc hx hb hown (hts _ hw) hm (k.2.2 ls H locs g1 g2 hl hR hS)
theorem ab_ldcw {G : ab_G} {M : ab_M} {X : ab_X} {pc : Nat} {l : List (Nat × Value)} {st : List Value} {h : List ab_E} (hX : ab_Good G M X) {i : Nat} {v : Int32} (hm : decode M.2.1 pc = .ok (.ldc_w i, 3)) (hw : Cond.constant M.1.cls i v ∈ ab_Tg) (k : ab_WA G M X (pc + 3) l (.int v :: st) h) : ab_WA G M X pc l st h := by
  obtain ⟨p, e, R, s, m, args, below, meth, c, Q, h0⟩ := X
  obtain ⟨hx, hb, hml, hr, hlk, hown, hts, hal, hsz, hkp, hnm, hrf, hrl, hG⟩ := hX
  refine ⟨k.1, k.2.1, fun ls H locs g1 g2 hl hR hS => ?_⟩
  exact lv_ldcw hx hb hown (hts _ hw) hm (k.2.2 ls H locs g1 g2 hl hR hS)
theorem ab_ldc2 {G : ab_G} {M : ab_M} {X : ab_X} {pc : Nat} {l : List (Nat × Value)} {st : List Value} {h : List ab_E} (hX : ab_Good G M X) {i : Nat} {v : Int64} (hm : decode M.2.1 pc = .ok (.ldc2_w i, 3)) (hw : Cond.constantLong M.1.cls i v ∈ ab_Tg) (k : ab_WA G M X (pc + 3) l (.long v :: st) h) : ab_WA G M X pc l st h := by
  obtain ⟨p, e, R, s, m, args, below, meth, c, Q, h0⟩ := X
  obtain ⟨hx, hb, hml, hr, hlk, hown, hts, hal, hsz, hkp, hnm, hrf, hrl, hG⟩ := hX
  refine ⟨k.1, k.2.1, fun ls H locs g1 g2 hl hR hS => ?_⟩
  exact lv_ldc2 hx hb hown (hts _ hw) hm (k.2.2 ls H locs g1 g2 hl hR hS)
theorem ab_null {G : ab_G} {M : ab_M} {X : ab_X} {pc : Nat} {l : List (Nat × Value)} {st : List Value} {h : List ab_E} (hX : ab_Good G M X) (hm : decode M.2.1 pc = .ok (.aconst_null, 1)) (k : ab_WA G M X (pc + 1) l (.null :: st) h) : ab_WA G M X pc l st h := by
  obtain ⟨p, e, R, s, m, args, below, meth, c, Q, h0⟩ := X
  obtain ⟨hx, hb, hml, hr, hlk, hown, hts, hal, hsz, hkp, hnm, hrf, hrl, hG⟩ := hX
  refine ⟨k.1, k.2.1, fun ls H locs g1 g2 hl hR hS => ?_⟩
  exact lv_null hx hb hm (k.2.2 ls H locs g1 g2 hl hR hS)
theorem ab_iload_n {G : ab_G} {M : ab_M} {X : ab_X} {pc : Nat} {l : List (Nat × Value)} {st : List Value} {h : List ab_E} (hX : ab_Good G M X) {j : Fin 4} {x : Int32} (hm : decode M.2.1 pc = .ok (.iload_n j, 1)) (hl0 : ((j : Nat), Value.int x) ∈ l) (k : ab_WA G M X (pc + 1) l (.int x :: st) h) : ab_WA G M X pc l st h := by
  obtain ⟨p, e, R, s, m, args, below, meth, c, Q, h0⟩ := X
  obtain ⟨hx, hb, hml, hr, hlk, hown, hts, hal, hsz, hkp, hnm, hrf, hrl, hG⟩ := hX
  refine ⟨k.1, k.2.1, fun ls H locs g1 g2 hl hR hS => ?_⟩
  exact lv_iload_n hx hb hm rfl (ab_lat hl hl0) (k.2.2 ls H locs g1 g2 hl hR hS)
theorem ab_iload {G : ab_G} {M : ab_M} {X : ab_X} {pc : Nat} {l : List (Nat × Value)} {st : List Value} {h : List ab_E} (hX : ab_Good G M X) {j : Nat} {x : Int32} (hm : decode M.2.1 pc = .ok (.iload j, 2)) (hl0 : (j, Value.int x) ∈ l) (k : ab_WA G M X (pc + 2) l (.int x :: st) h) : ab_WA G M X pc l st h := by
  obtain ⟨p, e, R, s, m, args, below, meth, c, Q, h0⟩ := X
  obtain ⟨hx, hb, hml, hr, hlk, hown, hts, hal, hsz, hkp, hnm, hrf, hrl, hG⟩ := hX
  refine ⟨k.1, k.2.1, fun ls H locs g1 g2 hl hR hS => ?_⟩
  exact lv_iload hx hb hm (ab_lat hl hl0) (k.2.2 ls H locs g1 g2 hl hR hS)
theorem ab_lload_n {G : ab_G} {M : ab_M} {X : ab_X} {pc : Nat} {l : List (Nat × Value)} {st : List Value} {h : List ab_E} (hX : ab_Good G M X) {j : Fin 4} {x : Int64} (hm : decode M.2.1 pc = .ok (.lload_n j, 1)) (hl0 : ((j : Nat), Value.long x) ∈ l) (k : ab_WA G M X (pc + 1) l (.long x :: st) h) : ab_WA G M X pc l st h := by
  obtain ⟨p, e, R, s, m, args, below, meth, c, Q, h0⟩ := X
  obtain ⟨hx, hb, hml, hr, hlk, hown, hts, hal, hsz, hkp, hnm, hrf, hrl, hG⟩ := hX
  refine ⟨k.1, k.2.1, fun ls H locs g1 g2 hl hR hS => ?_⟩
  exact lv_lload_n hx hb hm rfl (ab_lat hl hl0) (k.2.2 ls H locs g1 g2 hl hR hS)
theorem ab_lload {G : ab_G} {M : ab_M} {X : ab_X} {pc : Nat} {l : List (Nat × Value)} {st : List Value} {h : List ab_E} (hX : ab_Good G M X) {j : Nat} {x : Int64} (hm : decode M.2.1 pc = .ok (.lload j, 2)) (hl0 : (j, Value.long x) ∈ l) (k : ab_WA G M X (pc + 2) l (.long x :: st) h) : ab_WA G M X pc l st h := by
  obtain ⟨p, e, R, s, m, args, below, meth, c, Q, h0⟩ := X
  obtain ⟨hx, hb, hml, hr, hlk, hown, hts, hal, hsz, hkp, hnm, hrf, hrl, hG⟩ := hX
  refine ⟨k.1, k.2.1, fun ls H locs g1 g2 hl hR hS => ?_⟩
  exact lv_lload hx hb hm (ab_lat hl hl0) (k.2.2 ls H locs g1 g2 hl hR hS)
theorem ab_aload_n {G : ab_G} {M : ab_M} {X : ab_X} {pc : Nat} {l : List (Nat × Value)} {st : List Value} {h : List ab_E} (hX : ab_Good G M X) {j : Fin 4} {x : Nat} (hm : decode M.2.1 pc = .ok (.aload_n j, 1)) (hl0 : ((j : Nat), Value.ref x) ∈ l) (k : ab_WA G M X (pc + 1) l (.ref x :: st) h) : ab_WA G M X pc l st h := by
  obtain ⟨p, e, R, s, m, args, below, meth, c, Q, h0⟩ := X
  obtain ⟨hx, hb, hml, hr, hlk, hown, hts, hal, hsz, hkp, hnm, hrf, hrl, hG⟩ := hX
  refine ⟨k.1, k.2.1, fun ls H locs g1 g2 hl hR hS => ?_⟩
  exact lv_aload_n hx hb hm rfl (ab_lat hl hl0) (k.2.2 ls H locs g1 g2 hl hR hS)
theorem ab_aload_nS {G : ab_G} {M : ab_M} {X : ab_X} {pc : Nat} {l : List (Nat × Value)} {st : List Value} {h : List ab_E} (hX : ab_Good G M X) {j : Fin 4} {x : UInt32} (hm : decode M.2.1 pc = .ok (.aload_n j, 1)) (hl0 : ((j : Nat), Value.float x) ∈ l) (k : ab_WA G M X (pc + 1) l (.float x :: st) h) : ab_WA G M X pc l st h := by
  obtain ⟨p, e, R, s, m, args, below, meth, c, Q, h0⟩ := X
  obtain ⟨hx, hb, hml, hr, hlk, hown, hts, hal, hsz, hkp, hnm, hrf, hrl, hG⟩ := hX
  refine ⟨k.1, k.2.1, fun ls H locs g1 g2 hl hR hS => ?_⟩
  exact lv_aload_n hx hb hm rfl (ab_lat hl hl0) (k.2.2 ls H locs g1 g2 hl hR hS)
theorem ab_aload {G : ab_G} {M : ab_M} {X : ab_X} {pc : Nat} {l : List (Nat × Value)} {st : List Value} {h : List ab_E} (hX : ab_Good G M X) {j : Nat} {x : Nat} (hm : decode M.2.1 pc = .ok (.aload j, 2)) (hl0 : (j, Value.ref x) ∈ l) (k : ab_WA G M X (pc + 2) l (.ref x :: st) h) : ab_WA G M X pc l st h := by
  obtain ⟨p, e, R, s, m, args, below, meth, c, Q, h0⟩ := X
  obtain ⟨hx, hb, hml, hr, hlk, hown, hts, hal, hsz, hkp, hnm, hrf, hrl, hG⟩ := hX
  refine ⟨k.1, k.2.1, fun ls H locs g1 g2 hl hR hS => ?_⟩
  exact lv_aload hx hb hm (ab_lat hl hl0) (k.2.2 ls H locs g1 g2 hl hR hS)
theorem ab_aloadS {G : ab_G} {M : ab_M} {X : ab_X} {pc : Nat} {l : List (Nat × Value)} {st : List Value} {h : List ab_E} (hX : ab_Good G M X) {j : Nat} {x : UInt32} (hm : decode M.2.1 pc = .ok (.aload j, 2)) (hl0 : (j, Value.float x) ∈ l) (k : ab_WA G M X (pc + 2) l (.float x :: st) h) : ab_WA G M X pc l st h := by
  obtain ⟨p, e, R, s, m, args, below, meth, c, Q, h0⟩ := X
  obtain ⟨hx, hb, hml, hr, hlk, hown, hts, hal, hsz, hkp, hnm, hrf, hrl, hG⟩ := hX
  refine ⟨k.1, k.2.1, fun ls H locs g1 g2 hl hR hS => ?_⟩
  exact lv_aload hx hb hm (ab_lat hl hl0) (k.2.2 ls H locs g1 g2 hl hR hS)
theorem ab_istore_n {G : ab_G} {M : ab_M} {X : ab_X} {pc : Nat} {l : List (Nat × Value)} {st : List Value} {h : List ab_E} (hX : ab_Good G M X) {j : Fin 4} {i : Nat} {x : Int32} {l2 : List (Nat × Value)} (hm : decode M.2.1 pc = .ok (.istore_n j, 1)) (hi : (j : Nat) = i) (hn : i < M.2.2.1) (hl2 : ab_st1 l i (.int x) = l2) (k : ab_WA G M X (pc + 1) l2 st h) : ab_WA G M X pc l (.int x :: st) h := by
  obtain ⟨p, e, R, s, m, args, below, meth, c, Q, h0⟩ := X
  obtain ⟨hx, hb, hml, hr, hlk, hown, hts, hal, hsz, hkp, hnm, hrf, hrl, hG⟩ := hX
  refine ⟨k.1, k.2.1, fun ls H locs g1 g2 hl hR hS => ?_⟩
  exact lv_istore_n hx hb hm hi hl hn rfl fun ls2 hl9 => k.2.2 ls2 H locs g1 g2 (by rw [← hl2, ← ab_ll_st1]; exact hl9) hR hS
theorem ab_istore {G : ab_G} {M : ab_M} {X : ab_X} {pc : Nat} {l : List (Nat × Value)} {st : List Value} {h : List ab_E} (hX : ab_Good G M X) {i : Nat} {x : Int32} {l2 : List (Nat × Value)} (hm : decode M.2.1 pc = .ok (.istore i, 2)) (hn : i < M.2.2.1) (hl2 : ab_st1 l i (.int x) = l2) (k : ab_WA G M X (pc + 2) l2 st h) : ab_WA G M X pc l (.int x :: st) h := by
  obtain ⟨p, e, R, s, m, args, below, meth, c, Q, h0⟩ := X
  obtain ⟨hx, hb, hml, hr, hlk, hown, hts, hal, hsz, hkp, hnm, hrf, hrl, hG⟩ := hX
  refine ⟨k.1, k.2.1, fun ls H locs g1 g2 hl hR hS => ?_⟩
  exact lv_istore hx hb hm hl hn rfl fun ls2 hl9 => k.2.2 ls2 H locs g1 g2 (by rw [← hl2, ← ab_ll_st1]; exact hl9) hR hS
theorem ab_astore_n {G : ab_G} {M : ab_M} {X : ab_X} {pc : Nat} {l : List (Nat × Value)} {st : List Value} {h : List ab_E} (hX : ab_Good G M X) {j : Fin 4} {i : Nat} {x : Nat} {l2 : List (Nat × Value)} (hm : decode M.2.1 pc = .ok (.astore_n j, 1)) (hi : (j : Nat) = i) (hn : i < M.2.2.1) (hl2 : ab_st1 l i (.ref x) = l2) (k : ab_WA G M X (pc + 1) l2 st h) : ab_WA G M X pc l (.ref x :: st) h := by
  obtain ⟨p, e, R, s, m, args, below, meth, c, Q, h0⟩ := X
  obtain ⟨hx, hb, hml, hr, hlk, hown, hts, hal, hsz, hkp, hnm, hrf, hrl, hG⟩ := hX
  refine ⟨k.1, k.2.1, fun ls H locs g1 g2 hl hR hS => ?_⟩
  exact lv_astore_n hx hb hm hi hl hn rfl fun ls2 hl9 => k.2.2 ls2 H locs g1 g2 (by rw [← hl2, ← ab_ll_st1]; exact hl9) hR hS
theorem ab_astore {G : ab_G} {M : ab_M} {X : ab_X} {pc : Nat} {l : List (Nat × Value)} {st : List Value} {h : List ab_E} (hX : ab_Good G M X) {i : Nat} {x : Nat} {l2 : List (Nat × Value)} (hm : decode M.2.1 pc = .ok (.astore i, 2)) (hn : i < M.2.2.1) (hl2 : ab_st1 l i (.ref x) = l2) (k : ab_WA G M X (pc + 2) l2 st h) : ab_WA G M X pc l (.ref x :: st) h := by
  obtain ⟨p, e, R, s, m, args, below, meth, c, Q, h0⟩ := X
  obtain ⟨hx, hb, hml, hr, hlk, hown, hts, hal, hsz, hkp, hnm, hrf, hrl, hG⟩ := hX
  refine ⟨k.1, k.2.1, fun ls H locs g1 g2 hl hR hS => ?_⟩
  exact lv_astore hx hb hm hl hn rfl fun ls2 hl9 => k.2.2 ls2 H locs g1 g2 (by rw [← hl2, ← ab_ll_st1]; exact hl9) hR hS
theorem ab_lstore_n {G : ab_G} {M : ab_M} {X : ab_X} {pc : Nat} {l : List (Nat × Value)} {st : List Value} {h : List ab_E} (hX : ab_Good G M X) {j : Fin 4} {i : Nat} {x : Int64} {l2 : List (Nat × Value)} (hm : decode M.2.1 pc = .ok (.lstore_n j, 1)) (hi : (j : Nat) = i) (hn : i + 1 < M.2.2.1) (hl2 : ab_st2 l i (.long x) = l2) (k : ab_WA G M X (pc + 1) l2 st h) : ab_WA G M X pc l (.long x :: st) h := by
  obtain ⟨p, e, R, s, m, args, below, meth, c, Q, h0⟩ := X
  obtain ⟨hx, hb, hml, hr, hlk, hown, hts, hal, hsz, hkp, hnm, hrf, hrl, hG⟩ := hX
  refine ⟨k.1, k.2.1, fun ls H locs g1 g2 hl hR hS => ?_⟩
  exact lv_lstore_n hx hb hm hi hl hn rfl fun ls2 hl9 => k.2.2 ls2 H locs g1 g2 (by rw [← hl2, ← ab_ll_st2]; exact hl9) hR hS
theorem ab_lstore {G : ab_G} {M : ab_M} {X : ab_X} {pc : Nat} {l : List (Nat × Value)} {st : List Value} {h : List ab_E} (hX : ab_Good G M X) {i : Nat} {x : Int64} {l2 : List (Nat × Value)} (hm : decode M.2.1 pc = .ok (.lstore i, 2)) (hn : i + 1 < M.2.2.1) (hl2 : ab_st2 l i (.long x) = l2) (k : ab_WA G M X (pc + 2) l2 st h) : ab_WA G M X pc l (.long x :: st) h := by
  obtain ⟨p, e, R, s, m, args, below, meth, c, Q, h0⟩ := X
  obtain ⟨hx, hb, hml, hr, hlk, hown, hts, hal, hsz, hkp, hnm, hrf, hrl, hG⟩ := hX
  refine ⟨k.1, k.2.1, fun ls H locs g1 g2 hl hR hS => ?_⟩
  exact lv_lstore hx hb hm hl hn rfl fun ls2 hl9 => k.2.2 ls2 H locs g1 g2 (by rw [← hl2, ← ab_ll_st2]; exact hl9) hR hS
theorem ab_aload_nN {G : ab_G} {M : ab_M} {X : ab_X} {pc : Nat} {l : List (Nat × Value)} {st : List Value} {h : List ab_E} (hX : ab_Good G M X) {j : Fin 4} (hm : decode M.2.1 pc = .ok (.aload_n j, 1)) (hl0 : ((j : Nat), Value.null) ∈ l) (k : ab_WA G M X (pc + 1) l (.null :: st) h) : ab_WA G M X pc l st h := by
  obtain ⟨p, e, R, s, m, args, below, meth, c, Q, h0⟩ := X
  obtain ⟨hx, hb, hml, hr, hlk, hown, hts, hal, hsz, hkp, hnm, hrf, hrl, hG⟩ := hX
  refine ⟨k.1, k.2.1, fun ls H locs g1 g2 hl hR hS => ?_⟩
  exact lv_aload_nN hx hb hm rfl (ab_lat hl hl0) (k.2.2 ls H locs g1 g2 hl hR hS)
theorem ab_aloadN {G : ab_G} {M : ab_M} {X : ab_X} {pc : Nat} {l : List (Nat × Value)} {st : List Value} {h : List ab_E} (hX : ab_Good G M X) {j : Nat} (hm : decode M.2.1 pc = .ok (.aload j, 2)) (hl0 : (j, Value.null) ∈ l) (k : ab_WA G M X (pc + 2) l (.null :: st) h) : ab_WA G M X pc l st h := by
  obtain ⟨p, e, R, s, m, args, below, meth, c, Q, h0⟩ := X
  obtain ⟨hx, hb, hml, hr, hlk, hown, hts, hal, hsz, hkp, hnm, hrf, hrl, hG⟩ := hX
  refine ⟨k.1, k.2.1, fun ls H locs g1 g2 hl hR hS => ?_⟩
  exact lv_aloadN hx hb hm (ab_lat hl hl0) (k.2.2 ls H locs g1 g2 hl hR hS)
theorem ab_astore_nN {G : ab_G} {M : ab_M} {X : ab_X} {pc : Nat} {l : List (Nat × Value)} {st : List Value} {h : List ab_E} (hX : ab_Good G M X) {j : Fin 4} {i : Nat} {l2 : List (Nat × Value)} (hm : decode M.2.1 pc = .ok (.astore_n j, 1)) (hi : (j : Nat) = i) (hn : i < M.2.2.1) (hl2 : ab_st1 l i .null = l2) (k : ab_WA G M X (pc + 1) l2 st h) : ab_WA G M X pc l (.null :: st) h := by
  obtain ⟨p, e, R, s, m, args, below, meth, c, Q, h0⟩ := X
  obtain ⟨hx, hb, hml, hr, hlk, hown, hts, hal, hsz, hkp, hnm, hrf, hrl, hG⟩ := hX
  refine ⟨k.1, k.2.1, fun ls H locs g1 g2 hl hR hS => ?_⟩
  exact lv_astore_nN hx hb hm hi hl hn rfl fun ls2 hl9 => k.2.2 ls2 H locs g1 g2 (by rw [← hl2, ← ab_ll_st1]; exact hl9) hR hS
theorem ab_astoreN {G : ab_G} {M : ab_M} {X : ab_X} {pc : Nat} {l : List (Nat × Value)} {st : List Value} {h : List ab_E} (hX : ab_Good G M X) {i : Nat} {l2 : List (Nat × Value)} (hm : decode M.2.1 pc = .ok (.astore i, 2)) (hn : i < M.2.2.1) (hl2 : ab_st1 l i .null = l2) (k : ab_WA G M X (pc + 2) l2 st h) : ab_WA G M X pc l (.null :: st) h := by
  obtain ⟨p, e, R, s, m, args, below, meth, c, Q, h0⟩ := X
  obtain ⟨hx, hb, hml, hr, hlk, hown, hts, hal, hsz, hkp, hnm, hrf, hrl, hG⟩ := hX
  refine ⟨k.1, k.2.1, fun ls H locs g1 g2 hl hR hS => ?_⟩
  exact lv_astoreN hx hb hm hl hn rfl fun ls2 hl9 => k.2.2 ls2 H locs g1 g2 (by rw [← hl2, ← ab_ll_st1]; exact hl9) hR hS
theorem ab_astore_nS {G : ab_G} {M : ab_M} {X : ab_X} {pc : Nat} {l : List (Nat × Value)} {st : List Value} {h : List ab_E} (hX : ab_Good G M X) {j : Fin 4} {i : Nat} {x : UInt32} {l2 : List (Nat × Value)} (hm : decode M.2.1 pc = .ok (.astore_n j, 1)) (hi : (j : Nat) = i) (hn : i < M.2.2.1) (hl2 : ab_st1 l i (.float x) = l2) (k : ab_WA G M X (pc + 1) l2 st h) : ab_WA G M X pc l (.float x :: st) h := by
  obtain ⟨p, e, R, s, m, args, below, meth, c, Q, h0⟩ := X
  obtain ⟨hx, hb, hml, hr, hlk, hown, hts, hal, hsz, hkp, hnm, hrf, hrl, hG⟩ := hX
  refine ⟨k.1, k.2.1, fun ls H locs g1 g2 hl hR hS => ?_⟩
  exact lv_astore_n hx hb hm hi hl hn rfl fun ls2 hl9 => k.2.2 ls2 H locs g1 g2 (by rw [← hl2, ← ab_ll_st1]; exact hl9) hR hS
theorem ab_astoreS {G : ab_G} {M : ab_M} {X : ab_X} {pc : Nat} {l : List (Nat × Value)} {st : List Value} {h : List ab_E} (hX : ab_Good G M X) {i : Nat} {x : UInt32} {l2 : List (Nat × Value)} (hm : decode M.2.1 pc = .ok (.astore i, 2)) (hn : i < M.2.2.1) (hl2 : ab_st1 l i (.float x) = l2) (k : ab_WA G M X (pc + 2) l2 st h) : ab_WA G M X pc l (.float x :: st) h := by
  obtain ⟨p, e, R, s, m, args, below, meth, c, Q, h0⟩ := X
  obtain ⟨hx, hb, hml, hr, hlk, hown, hts, hal, hsz, hkp, hnm, hrf, hrl, hG⟩ := hX
  refine ⟨k.1, k.2.1, fun ls H locs g1 g2 hl hR hS => ?_⟩
  exact lv_astore hx hb hm hl hn rfl fun ls2 hl9 => k.2.2 ls2 H locs g1 g2 (by rw [← hl2, ← ab_ll_st1]; exact hl9) hR hS
theorem ab_iinc {G : ab_G} {M : ab_M} {X : ab_X} {pc : Nat} {l : List (Nat × Value)} {st : List Value} {h : List ab_E} (hX : ab_Good G M X) {i : Nat} {n : Int} {x v : Int32} {l2 : List (Nat × Value)} (hm : decode M.2.1 pc = .ok (.iinc i n, 3)) (hl0 : (i, Value.int x) ∈ l) (hv : x + Int32.ofInt n = v) (hn : i < M.2.2.1) (hl2 : ab_st1 l i (.int v) = l2) (k : ab_WA G M X (pc + 3) l2 st h) : ab_WA G M X pc l st h := by
  obtain ⟨p, e, R, s, m, args, below, meth, c, Q, h0⟩ := X
  obtain ⟨hx, hb, hml, hr, hlk, hown, hts, hal, hsz, hkp, hnm, hrf, hrl, hG⟩ := hX
  refine ⟨k.1, k.2.1, fun ls H locs g1 g2 hl hR hS => ?_⟩
  obtain ⟨kp, hkp2⟩ := List.getElem?_of_mem hl0
  have hk0 : (ab_ll G l)[kp]? = some (i, .int x) := by
    unfold ab_ll
    rw [List.getElem?_map, hkp2]
    rfl
  exact lv_iinc hx hb hm hl hk0 hv hn rfl fun ls2 hl3 => k.2.2 ls2 H locs g1 g2 (by rw [← hl2, ← ab_ll_st1]; exact hl3) hR hS
theorem ab_iadd {G : ab_G} {M : ab_M} {X : ab_X} {pc : Nat} {l : List (Nat × Value)} {st : List Value} {h : List ab_E} (hX : ab_Good G M X) {x y : Int32} (hm : decode M.2.1 pc = .ok (.iadd, 1)) (k : ab_WA G M X (pc + 1) l (.int (x + y) :: st) h) : ab_WA G M X pc l (.int y :: .int x :: st) h := by
  obtain ⟨p, e, R, s, m, args, below, meth, c, Q, h0⟩ := X
  obtain ⟨hx, hb, hml, hr, hlk, hown, hts, hal, hsz, hkp, hnm, hrf, hrl, hG⟩ := hX
  refine ⟨k.1, k.2.1, fun ls H locs g1 g2 hl hR hS => ?_⟩
  exact lv_iadd hx hb hm (k.2.2 ls H locs g1 g2 hl hR hS)
theorem ab_isub {G : ab_G} {M : ab_M} {X : ab_X} {pc : Nat} {l : List (Nat × Value)} {st : List Value} {h : List ab_E} (hX : ab_Good G M X) {x y : Int32} (hm : decode M.2.1 pc = .ok (.isub, 1)) (k : ab_WA G M X (pc + 1) l (.int (x - y) :: st) h) : ab_WA G M X pc l (.int y :: .int x :: st) h := by
  obtain ⟨p, e, R, s, m, args, below, meth, c, Q, h0⟩ := X
  obtain ⟨hx, hb, hml, hr, hlk, hown, hts, hal, hsz, hkp, hnm, hrf, hrl, hG⟩ := hX
  refine ⟨k.1, k.2.1, fun ls H locs g1 g2 hl hR hS => ?_⟩
  exact lv_isub hx hb hm (k.2.2 ls H locs g1 g2 hl hR hS)
theorem ab_imul {G : ab_G} {M : ab_M} {X : ab_X} {pc : Nat} {l : List (Nat × Value)} {st : List Value} {h : List ab_E} (hX : ab_Good G M X) {x y : Int32} (hm : decode M.2.1 pc = .ok (.imul, 1)) (k : ab_WA G M X (pc + 1) l (.int (x * y) :: st) h) : ab_WA G M X pc l (.int y :: .int x :: st) h := by
  obtain ⟨p, e, R, s, m, args, below, meth, c, Q, h0⟩ := X
  obtain ⟨hx, hb, hml, hr, hlk, hown, hts, hal, hsz, hkp, hnm, hrf, hrl, hG⟩ := hX
  refine ⟨k.1, k.2.1, fun ls H locs g1 g2 hl hR hS => ?_⟩
  exact lv_imul hx hb hm (k.2.2 ls H locs g1 g2 hl hR hS)
theorem ab_iand {G : ab_G} {M : ab_M} {X : ab_X} {pc : Nat} {l : List (Nat × Value)} {st : List Value} {h : List ab_E} (hX : ab_Good G M X) {x y : Int32} (hm : decode M.2.1 pc = .ok (.iand, 1)) (k : ab_WA G M X (pc + 1) l (.int (x &&& y) :: st) h) : ab_WA G M X pc l (.int y :: .int x :: st) h := by
  obtain ⟨p, e, R, s, m, args, below, meth, c, Q, h0⟩ := X
  obtain ⟨hx, hb, hml, hr, hlk, hown, hts, hal, hsz, hkp, hnm, hrf, hrl, hG⟩ := hX
  refine ⟨k.1, k.2.1, fun ls H locs g1 g2 hl hR hS => ?_⟩
  exact lv_iand hx hb hm (k.2.2 ls H locs g1 g2 hl hR hS)
theorem ab_ior {G : ab_G} {M : ab_M} {X : ab_X} {pc : Nat} {l : List (Nat × Value)} {st : List Value} {h : List ab_E} (hX : ab_Good G M X) {x y : Int32} (hm : decode M.2.1 pc = .ok (.ior, 1)) (k : ab_WA G M X (pc + 1) l (.int (x ||| y) :: st) h) : ab_WA G M X pc l (.int y :: .int x :: st) h := by
  obtain ⟨p, e, R, s, m, args, below, meth, c, Q, h0⟩ := X
  obtain ⟨hx, hb, hml, hr, hlk, hown, hts, hal, hsz, hkp, hnm, hrf, hrl, hG⟩ := hX
  refine ⟨k.1, k.2.1, fun ls H locs g1 g2 hl hR hS => ?_⟩
  exact lv_ior hx hb hm (k.2.2 ls H locs g1 g2 hl hR hS)
theorem ab_ixor {G : ab_G} {M : ab_M} {X : ab_X} {pc : Nat} {l : List (Nat × Value)} {st : List Value} {h : List ab_E} (hX : ab_Good G M X) {x y : Int32} (hm : decode M.2.1 pc = .ok (.ixor, 1)) (k : ab_WA G M X (pc + 1) l (.int (x ^^^ y) :: st) h) : ab_WA G M X pc l (.int y :: .int x :: st) h := by
  obtain ⟨p, e, R, s, m, args, below, meth, c, Q, h0⟩ := X
  obtain ⟨hx, hb, hml, hr, hlk, hown, hts, hal, hsz, hkp, hnm, hrf, hrl, hG⟩ := hX
  refine ⟨k.1, k.2.1, fun ls H locs g1 g2 hl hR hS => ?_⟩
  exact lv_ixor hx hb hm (k.2.2 ls H locs g1 g2 hl hR hS)
theorem ab_ishl {G : ab_G} {M : ab_M} {X : ab_X} {pc : Nat} {l : List (Nat × Value)} {st : List Value} {h : List ab_E} (hX : ab_Good G M X) {x y : Int32} (hm : decode M.2.1 pc = .ok (.ishl, 1)) (k : ab_WA G M X (pc + 1) l (.int (x <<< (y &&& 31)) :: st) h) : ab_WA G M X pc l (.int y :: .int x :: st) h := by
  obtain ⟨p, e, R, s, m, args, below, meth, c, Q, h0⟩ := X
  obtain ⟨hx, hb, hml, hr, hlk, hown, hts, hal, hsz, hkp, hnm, hrf, hrl, hG⟩ := hX
  refine ⟨k.1, k.2.1, fun ls H locs g1 g2 hl hR hS => ?_⟩
  exact lv_ishl hx hb hm (k.2.2 ls H locs g1 g2 hl hR hS)
theorem ab_ishr {G : ab_G} {M : ab_M} {X : ab_X} {pc : Nat} {l : List (Nat × Value)} {st : List Value} {h : List ab_E} (hX : ab_Good G M X) {x y : Int32} (hm : decode M.2.1 pc = .ok (.ishr, 1)) (k : ab_WA G M X (pc + 1) l (.int (x >>> (y &&& 31)) :: st) h) : ab_WA G M X pc l (.int y :: .int x :: st) h := by
  obtain ⟨p, e, R, s, m, args, below, meth, c, Q, h0⟩ := X
  obtain ⟨hx, hb, hml, hr, hlk, hown, hts, hal, hsz, hkp, hnm, hrf, hrl, hG⟩ := hX
  refine ⟨k.1, k.2.1, fun ls H locs g1 g2 hl hR hS => ?_⟩
  exact lv_ishr hx hb hm (k.2.2 ls H locs g1 g2 hl hR hS)
theorem ab_iushr {G : ab_G} {M : ab_M} {X : ab_X} {pc : Nat} {l : List (Nat × Value)} {st : List Value} {h : List ab_E} (hX : ab_Good G M X) {x y : Int32} (hm : decode M.2.1 pc = .ok (.iushr, 1)) (k : ab_WA G M X (pc + 1) l (.int (x.toUInt32 >>> (y.toUInt32 &&& Int32.toUInt32 31)).toInt32 :: st) h) : ab_WA G M X pc l (.int y :: .int x :: st) h := by
  obtain ⟨p, e, R, s, m, args, below, meth, c, Q, h0⟩ := X
  obtain ⟨hx, hb, hml, hr, hlk, hown, hts, hal, hsz, hkp, hnm, hrf, hrl, hG⟩ := hX
  refine ⟨k.1, k.2.1, fun ls H locs g1 g2 hl hR hS => ?_⟩
  exact lv_iushr hx hb hm rfl (k.2.2 ls H locs g1 g2 hl hR hS)
theorem ab_idiv {G : ab_G} {M : ab_M} {X : ab_X} {pc : Nat} {l : List (Nat × Value)} {st : List Value} {h : List ab_E} (hX : ab_Good G M X) {x y : Int32} (hm : decode M.2.1 pc = .ok (.idiv, 1)) (hne : ¬ y = 0) (k : ab_WA G M X (pc + 1) l (.int (x / y) :: st) h) : ab_WA G M X pc l (.int y :: .int x :: st) h := by
  obtain ⟨p, e, R, s, m, args, below, meth, c, Q, h0⟩ := X
  obtain ⟨hx, hb, hml, hr, hlk, hown, hts, hal, hsz, hkp, hnm, hrf, hrl, hG⟩ := hX
  refine ⟨k.1, k.2.1, fun ls H locs g1 g2 hl hR hS => ?_⟩
  exact lv_idiv hx hb hm hne (k.2.2 ls H locs g1 g2 hl hR hS)
theorem ab_irem {G : ab_G} {M : ab_M} {X : ab_X} {pc : Nat} {l : List (Nat × Value)} {st : List Value} {h : List ab_E} (hX : ab_Good G M X) {x y : Int32} (hm : decode M.2.1 pc = .ok (.irem, 1)) (hne : ¬ y = 0) (k : ab_WA G M X (pc + 1) l (.int (x - x / y * y) :: st) h) : ab_WA G M X pc l (.int y :: .int x :: st) h := by
  obtain ⟨p, e, R, s, m, args, below, meth, c, Q, h0⟩ := X
  obtain ⟨hx, hb, hml, hr, hlk, hown, hts, hal, hsz, hkp, hnm, hrf, hrl, hG⟩ := hX
  refine ⟨k.1, k.2.1, fun ls H locs g1 g2 hl hR hS => ?_⟩
  exact lv_irem hx hb hm hne (k.2.2 ls H locs g1 g2 hl hR hS)
theorem ab_ladd {G : ab_G} {M : ab_M} {X : ab_X} {pc : Nat} {l : List (Nat × Value)} {st : List Value} {h : List ab_E} (hX : ab_Good G M X) {x y : Int64} (hm : decode M.2.1 pc = .ok (.ladd, 1)) (k : ab_WA G M X (pc + 1) l (.long (x + y) :: st) h) : ab_WA G M X pc l (.long y :: .long x :: st) h := by
  obtain ⟨p, e, R, s, m, args, below, meth, c, Q, h0⟩ := X
  obtain ⟨hx, hb, hml, hr, hlk, hown, hts, hal, hsz, hkp, hnm, hrf, hrl, hG⟩ := hX
  refine ⟨k.1, k.2.1, fun ls H locs g1 g2 hl hR hS => ?_⟩
  exact lv_ladd hx hb hm (k.2.2 ls H locs g1 g2 hl hR hS)
theorem ab_lsub {G : ab_G} {M : ab_M} {X : ab_X} {pc : Nat} {l : List (Nat × Value)} {st : List Value} {h : List ab_E} (hX : ab_Good G M X) {x y : Int64} (hm : decode M.2.1 pc = .ok (.lsub, 1)) (k : ab_WA G M X (pc + 1) l (.long (x - y) :: st) h) : ab_WA G M X pc l (.long y :: .long x :: st) h := by
  obtain ⟨p, e, R, s, m, args, below, meth, c, Q, h0⟩ := X
  obtain ⟨hx, hb, hml, hr, hlk, hown, hts, hal, hsz, hkp, hnm, hrf, hrl, hG⟩ := hX
  refine ⟨k.1, k.2.1, fun ls H locs g1 g2 hl hR hS => ?_⟩
  exact lv_lsub hx hb hm (k.2.2 ls H locs g1 g2 hl hR hS)
theorem ab_lmul {G : ab_G} {M : ab_M} {X : ab_X} {pc : Nat} {l : List (Nat × Value)} {st : List Value} {h : List ab_E} (hX : ab_Good G M X) {x y : Int64} (hm : decode M.2.1 pc = .ok (.lmul, 1)) (k : ab_WA G M X (pc + 1) l (.long (x * y) :: st) h) : ab_WA G M X pc l (.long y :: .long x :: st) h := by
  obtain ⟨p, e, R, s, m, args, below, meth, c, Q, h0⟩ := X
  obtain ⟨hx, hb, hml, hr, hlk, hown, hts, hal, hsz, hkp, hnm, hrf, hrl, hG⟩ := hX
  refine ⟨k.1, k.2.1, fun ls H locs g1 g2 hl hR hS => ?_⟩
  exact lv_lmul hx hb hm (k.2.2 ls H locs g1 g2 hl hR hS)
theorem ab_land {G : ab_G} {M : ab_M} {X : ab_X} {pc : Nat} {l : List (Nat × Value)} {st : List Value} {h : List ab_E} (hX : ab_Good G M X) {x y : Int64} (hm : decode M.2.1 pc = .ok (.land, 1)) (k : ab_WA G M X (pc + 1) l (.long (x &&& y) :: st) h) : ab_WA G M X pc l (.long y :: .long x :: st) h := by
  obtain ⟨p, e, R, s, m, args, below, meth, c, Q, h0⟩ := X
  obtain ⟨hx, hb, hml, hr, hlk, hown, hts, hal, hsz, hkp, hnm, hrf, hrl, hG⟩ := hX
  refine ⟨k.1, k.2.1, fun ls H locs g1 g2 hl hR hS => ?_⟩
  exact lv_land hx hb hm (k.2.2 ls H locs g1 g2 hl hR hS)
theorem ab_lor {G : ab_G} {M : ab_M} {X : ab_X} {pc : Nat} {l : List (Nat × Value)} {st : List Value} {h : List ab_E} (hX : ab_Good G M X) {x y : Int64} (hm : decode M.2.1 pc = .ok (.lor, 1)) (k : ab_WA G M X (pc + 1) l (.long (x ||| y) :: st) h) : ab_WA G M X pc l (.long y :: .long x :: st) h := by
  obtain ⟨p, e, R, s, m, args, below, meth, c, Q, h0⟩ := X
  obtain ⟨hx, hb, hml, hr, hlk, hown, hts, hal, hsz, hkp, hnm, hrf, hrl, hG⟩ := hX
  refine ⟨k.1, k.2.1, fun ls H locs g1 g2 hl hR hS => ?_⟩
  exact lv_lor hx hb hm (k.2.2 ls H locs g1 g2 hl hR hS)
theorem ab_lxor {G : ab_G} {M : ab_M} {X : ab_X} {pc : Nat} {l : List (Nat × Value)} {st : List Value} {h : List ab_E} (hX : ab_Good G M X) {x y : Int64} (hm : decode M.2.1 pc = .ok (.lxor, 1)) (k : ab_WA G M X (pc + 1) l (.long (x ^^^ y) :: st) h) : ab_WA G M X pc l (.long y :: .long x :: st) h := by
  obtain ⟨p, e, R, s, m, args, below, meth, c, Q, h0⟩ := X
  obtain ⟨hx, hb, hml, hr, hlk, hown, hts, hal, hsz, hkp, hnm, hrf, hrl, hG⟩ := hX
  refine ⟨k.1, k.2.1, fun ls H locs g1 g2 hl hR hS => ?_⟩
  exact lv_lxor hx hb hm (k.2.2 ls H locs g1 g2 hl hR hS)
theorem ab_ldiv {G : ab_G} {M : ab_M} {X : ab_X} {pc : Nat} {l : List (Nat × Value)} {st : List Value} {h : List ab_E} (hX : ab_Good G M X) {x y : Int64} (hm : decode M.2.1 pc = .ok (.ldiv, 1)) (hne : ¬ y = 0) (k : ab_WA G M X (pc + 1) l (.long (x / y) :: st) h) : ab_WA G M X pc l (.long y :: .long x :: st) h := by
  obtain ⟨p, e, R, s, m, args, below, meth, c, Q, h0⟩ := X
  obtain ⟨hx, hb, hml, hr, hlk, hown, hts, hal, hsz, hkp, hnm, hrf, hrl, hG⟩ := hX
  refine ⟨k.1, k.2.1, fun ls H locs g1 g2 hl hR hS => ?_⟩
  exact lv_ldiv hx hb hm hne (k.2.2 ls H locs g1 g2 hl hR hS)
theorem ab_lrem {G : ab_G} {M : ab_M} {X : ab_X} {pc : Nat} {l : List (Nat × Value)} {st : List Value} {h : List ab_E} (hX : ab_Good G M X) {x y : Int64} (hm : decode M.2.1 pc = .ok (.lrem, 1)) (hne : ¬ y = 0) (k : ab_WA G M X (pc + 1) l (.long (x - x / y * y) :: st) h) : ab_WA G M X pc l (.long y :: .long x :: st) h := by
  obtain ⟨p, e, R, s, m, args, below, meth, c, Q, h0⟩ := X
  obtain ⟨hx, hb, hml, hr, hlk, hown, hts, hal, hsz, hkp, hnm, hrf, hrl, hG⟩ := hX
  refine ⟨k.1, k.2.1, fun ls H locs g1 g2 hl hR hS => ?_⟩
  exact lv_lrem hx hb hm hne (k.2.2 ls H locs g1 g2 hl hR hS)
theorem ab_lshl {G : ab_G} {M : ab_M} {X : ab_X} {pc : Nat} {l : List (Nat × Value)} {st : List Value} {h : List ab_E} (hX : ab_Good G M X) {x : Int64} {y : Int32} (hm : decode M.2.1 pc = .ok (.lshl, 1)) (k : ab_WA G M X (pc + 1) l (.long (x <<< (y.toInt64 &&& 63)) :: st) h) : ab_WA G M X pc l (.int y :: .long x :: st) h := by
  obtain ⟨p, e, R, s, m, args, below, meth, c, Q, h0⟩ := X
  obtain ⟨hx, hb, hml, hr, hlk, hown, hts, hal, hsz, hkp, hnm, hrf, hrl, hG⟩ := hX
  refine ⟨k.1, k.2.1, fun ls H locs g1 g2 hl hR hS => ?_⟩
  exact lv_lshl hx hb hm rfl (k.2.2 ls H locs g1 g2 hl hR hS)
theorem ab_lshr {G : ab_G} {M : ab_M} {X : ab_X} {pc : Nat} {l : List (Nat × Value)} {st : List Value} {h : List ab_E} (hX : ab_Good G M X) {x : Int64} {y : Int32} (hm : decode M.2.1 pc = .ok (.lshr, 1)) (k : ab_WA G M X (pc + 1) l (.long (x >>> (y.toInt64 &&& 63)) :: st) h) : ab_WA G M X pc l (.int y :: .long x :: st) h := by
  obtain ⟨p, e, R, s, m, args, below, meth, c, Q, h0⟩ := X
  obtain ⟨hx, hb, hml, hr, hlk, hown, hts, hal, hsz, hkp, hnm, hrf, hrl, hG⟩ := hX
  refine ⟨k.1, k.2.1, fun ls H locs g1 g2 hl hR hS => ?_⟩
  exact lv_lshr hx hb hm rfl (k.2.2 ls H locs g1 g2 hl hR hS)
theorem ab_lushr {G : ab_G} {M : ab_M} {X : ab_X} {pc : Nat} {l : List (Nat × Value)} {st : List Value} {h : List ab_E} (hX : ab_Good G M X) {x : Int64} {y : Int32} (hm : decode M.2.1 pc = .ok (.lushr, 1)) (k : ab_WA G M X (pc + 1) l (.long (x.toUInt64 >>> (y.toInt64.toUInt64 &&& Int64.toUInt64 63)).toInt64 :: st) h) : ab_WA G M X pc l (.int y :: .long x :: st) h := by
  obtain ⟨p, e, R, s, m, args, below, meth, c, Q, h0⟩ := X
  obtain ⟨hx, hb, hml, hr, hlk, hown, hts, hal, hsz, hkp, hnm, hrf, hrl, hG⟩ := hX
  refine ⟨k.1, k.2.1, fun ls H locs g1 g2 hl hR hS => ?_⟩
  exact lv_lushr hx hb hm rfl (k.2.2 ls H locs g1 g2 hl hR hS)
theorem ab_lcmp {G : ab_G} {M : ab_M} {X : ab_X} {pc : Nat} {l : List (Nat × Value)} {st : List Value} {h : List ab_E} (hX : ab_Good G M X) {x y : Int64} (hm : decode M.2.1 pc = .ok (.lcmp, 1)) (k : ab_WA G M X (pc + 1) l (.int (lg_cmp x y) :: st) h) : ab_WA G M X pc l (.long y :: .long x :: st) h := by
  obtain ⟨p, e, R, s, m, args, below, meth, c, Q, h0⟩ := X
  obtain ⟨hx, hb, hml, hr, hlk, hown, hts, hal, hsz, hkp, hnm, hrf, hrl, hG⟩ := hX
  refine ⟨k.1, k.2.1, fun ls H locs g1 g2 hl hR hS => ?_⟩
  exact W.lcmp hx hb hm (k.2.2 ls H locs g1 g2 hl hR hS)
theorem ab_i2l {G : ab_G} {M : ab_M} {X : ab_X} {pc : Nat} {l : List (Nat × Value)} {st : List Value} {h : List ab_E} (hX : ab_Good G M X) {x : Int32} (hm : decode M.2.1 pc = .ok (.i2l, 1)) (k : ab_WA G M X (pc + 1) l (.long x.toInt64 :: st) h) : ab_WA G M X pc l (.int x :: st) h := by
  obtain ⟨p, e, R, s, m, args, below, meth, c, Q, h0⟩ := X
  obtain ⟨hx, hb, hml, hr, hlk, hown, hts, hal, hsz, hkp, hnm, hrf, hrl, hG⟩ := hX
  refine ⟨k.1, k.2.1, fun ls H locs g1 g2 hl hR hS => ?_⟩
  exact lv_i2l hx hb hm rfl (k.2.2 ls H locs g1 g2 hl hR hS)
theorem ab_l2i {G : ab_G} {M : ab_M} {X : ab_X} {pc : Nat} {l : List (Nat × Value)} {st : List Value} {h : List ab_E} (hX : ab_Good G M X) {x : Int64} (hm : decode M.2.1 pc = .ok (.l2i, 1)) (k : ab_WA G M X (pc + 1) l (.int x.toInt32 :: st) h) : ab_WA G M X pc l (.long x :: st) h := by
  obtain ⟨p, e, R, s, m, args, below, meth, c, Q, h0⟩ := X
  obtain ⟨hx, hb, hml, hr, hlk, hown, hts, hal, hsz, hkp, hnm, hrf, hrl, hG⟩ := hX
  refine ⟨k.1, k.2.1, fun ls H locs g1 g2 hl hR hS => ?_⟩
  exact lv_l2i hx hb hm rfl (k.2.2 ls H locs g1 g2 hl hR hS)
theorem ab_i2b {G : ab_G} {M : ab_M} {X : ab_X} {pc : Nat} {l : List (Nat × Value)} {st : List Value} {h : List ab_E} (hX : ab_Good G M X) {x : Int32} (hm : decode M.2.1 pc = .ok (.i2b, 1)) (k : ab_WA G M X (pc + 1) l (.int x.toInt8.toInt32 :: st) h) : ab_WA G M X pc l (.int x :: st) h := by
  obtain ⟨p, e, R, s, m, args, below, meth, c, Q, h0⟩ := X
  obtain ⟨hx, hb, hml, hr, hlk, hown, hts, hal, hsz, hkp, hnm, hrf, hrl, hG⟩ := hX
  refine ⟨k.1, k.2.1, fun ls H locs g1 g2 hl hR hS => ?_⟩
  exact lv_i2b hx hb hm rfl (k.2.2 ls H locs g1 g2 hl hR hS)
theorem ab_i2s {G : ab_G} {M : ab_M} {X : ab_X} {pc : Nat} {l : List (Nat × Value)} {st : List Value} {h : List ab_E} (hX : ab_Good G M X) {x : Int32} (hm : decode M.2.1 pc = .ok (.i2s, 1)) (k : ab_WA G M X (pc + 1) l (.int x.toInt16.toInt32 :: st) h) : ab_WA G M X pc l (.int x :: st) h := by
  obtain ⟨p, e, R, s, m, args, below, meth, c, Q, h0⟩ := X
  obtain ⟨hx, hb, hml, hr, hlk, hown, hts, hal, hsz, hkp, hnm, hrf, hrl, hG⟩ := hX
  refine ⟨k.1, k.2.1, fun ls H locs g1 g2 hl hR hS => ?_⟩
  exact lv_i2s hx hb hm rfl (k.2.2 ls H locs g1 g2 hl hR hS)
theorem ab_dup {G : ab_G} {M : ab_M} {X : ab_X} {pc : Nat} {l : List (Nat × Value)} {st : List Value} {h : List ab_E} (hX : ab_Good G M X) {v : Value} (hm : decode M.2.1 pc = .ok (.dup, 1)) (hv : v.category = 1) (k : ab_WA G M X (pc + 1) l (v :: v :: st) h) : ab_WA G M X pc l (v :: st) h := by
  obtain ⟨p, e, R, s, m, args, below, meth, c, Q, h0⟩ := X
  obtain ⟨hx, hb, hml, hr, hlk, hown, hts, hal, hsz, hkp, hnm, hrf, hrl, hG⟩ := hX
  refine ⟨k.1, k.2.1, fun ls H locs g1 g2 hl hR hS => ?_⟩
  exact lv_dup hx hb hm ((ab_ren_cat G v).trans hv) (k.2.2 ls H locs g1 g2 hl hR hS)
theorem ab_dup_x1 {G : ab_G} {M : ab_M} {X : ab_X} {pc : Nat} {l : List (Nat × Value)} {st : List Value} {h : List ab_E} (hX : ab_Good G M X) {v w : Value} (hm : decode M.2.1 pc = .ok (.dup_x1, 1)) (hv : v.category = 1) (hw : w.category = 1) (k : ab_WA G M X (pc + 1) l (v :: w :: v :: st) h) : ab_WA G M X pc l (v :: w :: st) h := by
  obtain ⟨p, e, R, s, m, args, below, meth, c, Q, h0⟩ := X
  obtain ⟨hx, hb, hml, hr, hlk, hown, hts, hal, hsz, hkp, hnm, hrf, hrl, hG⟩ := hX
  refine ⟨k.1, k.2.1, fun ls H locs g1 g2 hl hR hS => ?_⟩
  exact lv_dup_x1 hx hb hm ((ab_ren_cat G v).trans hv) ((ab_ren_cat G w).trans hw) (k.2.2 ls H locs g1 g2 hl hR hS)
theorem ab_pop {G : ab_G} {M : ab_M} {X : ab_X} {pc : Nat} {l : List (Nat × Value)} {st : List Value} {h : List ab_E} (hX : ab_Good G M X) {v : Value} (hm : decode M.2.1 pc = .ok (.pop, 1)) (hv : v.category = 1) (k : ab_WA G M X (pc + 1) l st h) : ab_WA G M X pc l (v :: st) h := by
  obtain ⟨p, e, R, s, m, args, below, meth, c, Q, h0⟩ := X
  obtain ⟨hx, hb, hml, hr, hlk, hown, hts, hal, hsz, hkp, hnm, hrf, hrl, hG⟩ := hX
  refine ⟨k.1, k.2.1, fun ls H locs g1 g2 hl hR hS => ?_⟩
  exact lv_pop hx hb hm ((ab_ren_cat G v).trans hv) (k.2.2 ls H locs g1 g2 hl hR hS)
theorem ab_goto {G : ab_G} {M : ab_M} {X : ab_X} {pc : Nat} {l : List (Nat × Value)} {st : List Value} {h : List ab_E} (hX : ab_Good G M X) {off : Int} {tgt : Nat} (hm : decode M.2.1 pc = .ok (.goto off, 3)) (ht : (pc : Int) + off = (tgt : Int)) (k : ab_WA G M X tgt l st h) : ab_WA G M X pc l st h := by
  obtain ⟨p, e, R, s, m, args, below, meth, c, Q, h0⟩ := X
  obtain ⟨hx, hb, hml, hr, hlk, hown, hts, hal, hsz, hkp, hnm, hrf, hrl, hG⟩ := hX
  refine ⟨k.1, k.2.1, fun ls H locs g1 g2 hl hR hS => ?_⟩
  exact lv_goto hx hb hm ht (k.2.2 ls H locs g1 g2 hl hR hS)
theorem ab_ifnonnull {G : ab_G} {M : ab_M} {X : ab_X} {pc : Nat} {l : List (Nat × Value)} {st : List Value} {h : List ab_E} (hX : ab_Good G M X) {x : Nat} {off : Int} {tgt : Nat} (hm : decode M.2.1 pc = .ok (.ifnonnull off, 3)) (ht : (pc : Int) + off = (tgt : Int)) (k : ab_WA G M X tgt l st h) : ab_WA G M X pc l (.ref x :: st) h := by
  obtain ⟨p, e, R, s, m, args, below, meth, c, Q, h0⟩ := X
  obtain ⟨hx, hb, hml, hr, hlk, hown, hts, hal, hsz, hkp, hnm, hrf, hrl, hG⟩ := hX
  refine ⟨k.1, k.2.1, fun ls H locs g1 g2 hl hR hS => ?_⟩
  exact lv_ifnonnull hx hb hm ht (k.2.2 ls H locs g1 g2 hl hR hS)
theorem ab_ifnull {G : ab_G} {M : ab_M} {X : ab_X} {pc : Nat} {l : List (Nat × Value)} {st : List Value} {h : List ab_E} (hX : ab_Good G M X) {x : Nat} {off : Int} (hm : decode M.2.1 pc = .ok (.ifnull off, 3)) (k : ab_WA G M X (pc + 3) l st h) : ab_WA G M X pc l (.ref x :: st) h := by
  obtain ⟨p, e, R, s, m, args, below, meth, c, Q, h0⟩ := X
  obtain ⟨hx, hb, hml, hr, hlk, hown, hts, hal, hsz, hkp, hnm, hrf, hrl, hG⟩ := hX
  refine ⟨k.1, k.2.1, fun ls H locs g1 g2 hl hR hS => ?_⟩
  exact lv_ifnull hx hb hm (k.2.2 ls H locs g1 g2 hl hR hS)
theorem ab_ifnullN {G : ab_G} {M : ab_M} {X : ab_X} {pc : Nat} {l : List (Nat × Value)} {st : List Value} {h : List ab_E} (hX : ab_Good G M X) {off : Int} {tgt : Nat} (hm : decode M.2.1 pc = .ok (.ifnull off, 3)) (ht : (pc : Int) + off = (tgt : Int)) (k : ab_WA G M X tgt l st h) : ab_WA G M X pc l (.null :: st) h := by
  obtain ⟨p, e, R, s, m, args, below, meth, c, Q, h0⟩ := X
  obtain ⟨hx, hb, hml, hr, hlk, hown, hts, hal, hsz, hkp, hnm, hrf, hrl, hG⟩ := hX
  refine ⟨k.1, k.2.1, fun ls H locs g1 g2 hl hR hS => ?_⟩
  exact lv_ifnullN hx hb hm ht (k.2.2 ls H locs g1 g2 hl hR hS)
theorem ab_ifnonnullN {G : ab_G} {M : ab_M} {X : ab_X} {pc : Nat} {l : List (Nat × Value)} {st : List Value} {h : List ab_E} (hX : ab_Good G M X) {off : Int} (hm : decode M.2.1 pc = .ok (.ifnonnull off, 3)) (k : ab_WA G M X (pc + 3) l st h) : ab_WA G M X pc l (.null :: st) h := by
  obtain ⟨p, e, R, s, m, args, below, meth, c, Q, h0⟩ := X
  obtain ⟨hx, hb, hml, hr, hlk, hown, hts, hal, hsz, hkp, hnm, hrf, hrl, hG⟩ := hX
  refine ⟨k.1, k.2.1, fun ls H locs g1 g2 hl hR hS => ?_⟩
  exact lv_ifnonnullN hx hb hm (k.2.2 ls H locs g1 g2 hl hR hS)
theorem ab_castN {G : ab_G} {M : ab_M} {X : ab_X} {pc : Nat} {l : List (Nat × Value)} {st : List Value} {h : List ab_E} (hX : ab_Good G M X) {i : Nat} (hm : decode M.2.1 pc = .ok (.checkcast i, 3)) (k : ab_WA G M X (pc + 3) l (.null :: st) h) : ab_WA G M X pc l (.null :: st) h := by
  obtain ⟨p, e, R, s, m, args, below, meth, c, Q, h0⟩ := X
  obtain ⟨hx, hb, hml, hr, hlk, hown, hts, hal, hsz, hkp, hnm, hrf, hrl, hG⟩ := hX
  refine ⟨k.1, k.2.1, fun ls H locs g1 g2 hl hR hS => ?_⟩
  exact lv_castN hx hb hm (k.2.2 ls H locs g1 g2 hl hR hS)
theorem ab_ifne {G : ab_G} {M : ab_M} {X : ab_X} {pc : Nat} {l : List (Nat × Value)} {st : List Value} {h : List ab_E} (hX : ab_Good G M X) {x : Int32} {off : Int} {tgt : Nat} (hm : decode M.2.1 pc = .ok (.ifCond .ne off, 3)) (ht : (pc : Int) + off = (tgt : Int)) (kt : ¬ (x = 0) → ab_WA G M X tgt l st h) (kf : (x = 0) → ab_WA G M X (pc + 3) l st h) : ab_WA G M X pc l (.int x :: st) h := by
  obtain ⟨p, e, R, s, m, args, below, meth, c, Q, h0⟩ := X
  obtain ⟨hx, hb, hml, hr, hlk, hown, hts, hal, hsz, hkp, hnm, hrf, hrl, hG⟩ := hX
  by_cases hc : (x = 0)
  · have k := kf hc
    exact ⟨k.1, k.2.1, fun ls H locs g1 g2 hl hR hS => lv_if_ne hx hb hm ht (fun n => absurd hc n) (fun _ => k.2.2 ls H locs g1 g2 hl hR hS)⟩
  · have k := kt hc
    exact ⟨k.1, k.2.1, fun ls H locs g1 g2 hl hR hS => lv_if_ne hx hb hm ht (fun _ => k.2.2 ls H locs g1 g2 hl hR hS) (fun n => absurd n hc)⟩
theorem ab_icmpne {G : ab_G} {M : ab_M} {X : ab_X} {pc : Nat} {l : List (Nat × Value)} {st : List Value} {h : List ab_E} (hX : ab_Good G M X) {x y : Int32} {off : Int} {tgt : Nat} (hm : decode M.2.1 pc = .ok (.if_icmp .ne off, 3)) (ht : (pc : Int) + off = (tgt : Int)) (kt : ¬ (x = y) → ab_WA G M X tgt l st h) (kf : (x = y) → ab_WA G M X (pc + 3) l st h) : ab_WA G M X pc l (.int y :: .int x :: st) h := by
  obtain ⟨p, e, R, s, m, args, below, meth, c, Q, h0⟩ := X
  obtain ⟨hx, hb, hml, hr, hlk, hown, hts, hal, hsz, hkp, hnm, hrf, hrl, hG⟩ := hX
  by_cases hc : (x = y)
  · have k := kf hc
    exact ⟨k.1, k.2.1, fun ls H locs g1 g2 hl hR hS => lv_icmp_ne hx hb hm ht (fun n => absurd hc n) (fun _ => k.2.2 ls H locs g1 g2 hl hR hS)⟩
  · have k := kt hc
    exact ⟨k.1, k.2.1, fun ls H locs g1 g2 hl hR hS => lv_icmp_ne hx hb hm ht (fun _ => k.2.2 ls H locs g1 g2 hl hR hS) (fun n => absurd n hc)⟩
theorem ab_ifeq {G : ab_G} {M : ab_M} {X : ab_X} {pc : Nat} {l : List (Nat × Value)} {st : List Value} {h : List ab_E} (hX : ab_Good G M X) {x : Int32} {off : Int} {tgt : Nat} (hm : decode M.2.1 pc = .ok (.ifCond .eq off, 3)) (ht : (pc : Int) + off = (tgt : Int)) (kt : (x = 0) → ab_WA G M X tgt l st h) (kf : ¬ (x = 0) → ab_WA G M X (pc + 3) l st h) : ab_WA G M X pc l (.int x :: st) h := by
  obtain ⟨p, e, R, s, m, args, below, meth, c, Q, h0⟩ := X
  obtain ⟨hx, hb, hml, hr, hlk, hown, hts, hal, hsz, hkp, hnm, hrf, hrl, hG⟩ := hX
  by_cases hc : (x = 0)
  · have k := kt hc
    exact ⟨k.1, k.2.1, fun ls H locs g1 g2 hl hR hS => lv_if_eq hx hb hm ht (fun _ => k.2.2 ls H locs g1 g2 hl hR hS) (fun n => absurd hc n)⟩
  · have k := kf hc
    exact ⟨k.1, k.2.1, fun ls H locs g1 g2 hl hR hS => lv_if_eq hx hb hm ht (fun n => absurd n hc) (fun _ => k.2.2 ls H locs g1 g2 hl hR hS)⟩
theorem ab_icmpeq {G : ab_G} {M : ab_M} {X : ab_X} {pc : Nat} {l : List (Nat × Value)} {st : List Value} {h : List ab_E} (hX : ab_Good G M X) {x y : Int32} {off : Int} {tgt : Nat} (hm : decode M.2.1 pc = .ok (.if_icmp .eq off, 3)) (ht : (pc : Int) + off = (tgt : Int)) (kt : (x = y) → ab_WA G M X tgt l st h) (kf : ¬ (x = y) → ab_WA G M X (pc + 3) l st h) : ab_WA G M X pc l (.int y :: .int x :: st) h := by
  obtain ⟨p, e, R, s, m, args, below, meth, c, Q, h0⟩ := X
  obtain ⟨hx, hb, hml, hr, hlk, hown, hts, hal, hsz, hkp, hnm, hrf, hrl, hG⟩ := hX
  by_cases hc : (x = y)
  · have k := kt hc
    exact ⟨k.1, k.2.1, fun ls H locs g1 g2 hl hR hS => lv_icmp_eq hx hb hm ht (fun _ => k.2.2 ls H locs g1 g2 hl hR hS) (fun n => absurd hc n)⟩
  · have k := kf hc
    exact ⟨k.1, k.2.1, fun ls H locs g1 g2 hl hR hS => lv_icmp_eq hx hb hm ht (fun n => absurd n hc) (fun _ => k.2.2 ls H locs g1 g2 hl hR hS)⟩
theorem ab_iflt {G : ab_G} {M : ab_M} {X : ab_X} {pc : Nat} {l : List (Nat × Value)} {st : List Value} {h : List ab_E} (hX : ab_Good G M X) {x : Int32} {off : Int} {tgt : Nat} (hm : decode M.2.1 pc = .ok (.ifCond .lt off, 3)) (ht : (pc : Int) + off = (tgt : Int)) (kt : (x < 0) → ab_WA G M X tgt l st h) (kf : ¬ (x < 0) → ab_WA G M X (pc + 3) l st h) : ab_WA G M X pc l (.int x :: st) h := by
  obtain ⟨p, e, R, s, m, args, below, meth, c, Q, h0⟩ := X
  obtain ⟨hx, hb, hml, hr, hlk, hown, hts, hal, hsz, hkp, hnm, hrf, hrl, hG⟩ := hX
  by_cases hc : (x < 0)
  · have k := kt hc
    exact ⟨k.1, k.2.1, fun ls H locs g1 g2 hl hR hS => lv_if_lt hx hb hm ht (fun _ => k.2.2 ls H locs g1 g2 hl hR hS) (fun n => absurd hc n)⟩
  · have k := kf hc
    exact ⟨k.1, k.2.1, fun ls H locs g1 g2 hl hR hS => lv_if_lt hx hb hm ht (fun n => absurd n hc) (fun _ => k.2.2 ls H locs g1 g2 hl hR hS)⟩
theorem ab_icmplt {G : ab_G} {M : ab_M} {X : ab_X} {pc : Nat} {l : List (Nat × Value)} {st : List Value} {h : List ab_E} (hX : ab_Good G M X) {x y : Int32} {off : Int} {tgt : Nat} (hm : decode M.2.1 pc = .ok (.if_icmp .lt off, 3)) (ht : (pc : Int) + off = (tgt : Int)) (kt : (x < y) → ab_WA G M X tgt l st h) (kf : ¬ (x < y) → ab_WA G M X (pc + 3) l st h) : ab_WA G M X pc l (.int y :: .int x :: st) h := by
  obtain ⟨p, e, R, s, m, args, below, meth, c, Q, h0⟩ := X
  obtain ⟨hx, hb, hml, hr, hlk, hown, hts, hal, hsz, hkp, hnm, hrf, hrl, hG⟩ := hX
  by_cases hc : (x < y)
  · have k := kt hc
    exact ⟨k.1, k.2.1, fun ls H locs g1 g2 hl hR hS => lv_icmp_lt hx hb hm ht (fun _ => k.2.2 ls H locs g1 g2 hl hR hS) (fun n => absurd hc n)⟩
  · have k := kf hc
    exact ⟨k.1, k.2.1, fun ls H locs g1 g2 hl hR hS => lv_icmp_lt hx hb hm ht (fun n => absurd n hc) (fun _ => k.2.2 ls H locs g1 g2 hl hR hS)⟩
theorem ab_ifge {G : ab_G} {M : ab_M} {X : ab_X} {pc : Nat} {l : List (Nat × Value)} {st : List Value} {h : List ab_E} (hX : ab_Good G M X) {x : Int32} {off : Int} {tgt : Nat} (hm : decode M.2.1 pc = .ok (.ifCond .ge off, 3)) (ht : (pc : Int) + off = (tgt : Int)) (kt : (0 ≤ x) → ab_WA G M X tgt l st h) (kf : ¬ (0 ≤ x) → ab_WA G M X (pc + 3) l st h) : ab_WA G M X pc l (.int x :: st) h := by
  obtain ⟨p, e, R, s, m, args, below, meth, c, Q, h0⟩ := X
  obtain ⟨hx, hb, hml, hr, hlk, hown, hts, hal, hsz, hkp, hnm, hrf, hrl, hG⟩ := hX
  by_cases hc : (0 ≤ x)
  · have k := kt hc
    exact ⟨k.1, k.2.1, fun ls H locs g1 g2 hl hR hS => lv_if_ge hx hb hm ht (fun _ => k.2.2 ls H locs g1 g2 hl hR hS) (fun n => absurd hc n)⟩
  · have k := kf hc
    exact ⟨k.1, k.2.1, fun ls H locs g1 g2 hl hR hS => lv_if_ge hx hb hm ht (fun n => absurd n hc) (fun _ => k.2.2 ls H locs g1 g2 hl hR hS)⟩
theorem ab_icmpge {G : ab_G} {M : ab_M} {X : ab_X} {pc : Nat} {l : List (Nat × Value)} {st : List Value} {h : List ab_E} (hX : ab_Good G M X) {x y : Int32} {off : Int} {tgt : Nat} (hm : decode M.2.1 pc = .ok (.if_icmp .ge off, 3)) (ht : (pc : Int) + off = (tgt : Int)) (kt : (y ≤ x) → ab_WA G M X tgt l st h) (kf : ¬ (y ≤ x) → ab_WA G M X (pc + 3) l st h) : ab_WA G M X pc l (.int y :: .int x :: st) h := by
  obtain ⟨p, e, R, s, m, args, below, meth, c, Q, h0⟩ := X
  obtain ⟨hx, hb, hml, hr, hlk, hown, hts, hal, hsz, hkp, hnm, hrf, hrl, hG⟩ := hX
  by_cases hc : (y ≤ x)
  · have k := kt hc
    exact ⟨k.1, k.2.1, fun ls H locs g1 g2 hl hR hS => lv_icmp_ge hx hb hm ht (fun _ => k.2.2 ls H locs g1 g2 hl hR hS) (fun n => absurd hc n)⟩
  · have k := kf hc
    exact ⟨k.1, k.2.1, fun ls H locs g1 g2 hl hR hS => lv_icmp_ge hx hb hm ht (fun n => absurd n hc) (fun _ => k.2.2 ls H locs g1 g2 hl hR hS)⟩
theorem ab_ifgt {G : ab_G} {M : ab_M} {X : ab_X} {pc : Nat} {l : List (Nat × Value)} {st : List Value} {h : List ab_E} (hX : ab_Good G M X) {x : Int32} {off : Int} {tgt : Nat} (hm : decode M.2.1 pc = .ok (.ifCond .gt off, 3)) (ht : (pc : Int) + off = (tgt : Int)) (kt : (0 < x) → ab_WA G M X tgt l st h) (kf : ¬ (0 < x) → ab_WA G M X (pc + 3) l st h) : ab_WA G M X pc l (.int x :: st) h := by
  obtain ⟨p, e, R, s, m, args, below, meth, c, Q, h0⟩ := X
  obtain ⟨hx, hb, hml, hr, hlk, hown, hts, hal, hsz, hkp, hnm, hrf, hrl, hG⟩ := hX
  by_cases hc : (0 < x)
  · have k := kt hc
    exact ⟨k.1, k.2.1, fun ls H locs g1 g2 hl hR hS => lv_if_gt hx hb hm ht (fun _ => k.2.2 ls H locs g1 g2 hl hR hS) (fun n => absurd hc n)⟩
  · have k := kf hc
    exact ⟨k.1, k.2.1, fun ls H locs g1 g2 hl hR hS => lv_if_gt hx hb hm ht (fun n => absurd n hc) (fun _ => k.2.2 ls H locs g1 g2 hl hR hS)⟩
theorem ab_icmpgt {G : ab_G} {M : ab_M} {X : ab_X} {pc : Nat} {l : List (Nat × Value)} {st : List Value} {h : List ab_E} (hX : ab_Good G M X) {x y : Int32} {off : Int} {tgt : Nat} (hm : decode M.2.1 pc = .ok (.if_icmp .gt off, 3)) (ht : (pc : Int) + off = (tgt : Int)) (kt : (y < x) → ab_WA G M X tgt l st h) (kf : ¬ (y < x) → ab_WA G M X (pc + 3) l st h) : ab_WA G M X pc l (.int y :: .int x :: st) h := by
  obtain ⟨p, e, R, s, m, args, below, meth, c, Q, h0⟩ := X
  obtain ⟨hx, hb, hml, hr, hlk, hown, hts, hal, hsz, hkp, hnm, hrf, hrl, hG⟩ := hX
  by_cases hc : (y < x)
  · have k := kt hc
    exact ⟨k.1, k.2.1, fun ls H locs g1 g2 hl hR hS => lv_icmp_gt hx hb hm ht (fun _ => k.2.2 ls H locs g1 g2 hl hR hS) (fun n => absurd hc n)⟩
  · have k := kf hc
    exact ⟨k.1, k.2.1, fun ls H locs g1 g2 hl hR hS => lv_icmp_gt hx hb hm ht (fun n => absurd n hc) (fun _ => k.2.2 ls H locs g1 g2 hl hR hS)⟩
theorem ab_ifle {G : ab_G} {M : ab_M} {X : ab_X} {pc : Nat} {l : List (Nat × Value)} {st : List Value} {h : List ab_E} (hX : ab_Good G M X) {x : Int32} {off : Int} {tgt : Nat} (hm : decode M.2.1 pc = .ok (.ifCond .le off, 3)) (ht : (pc : Int) + off = (tgt : Int)) (kt : (x ≤ 0) → ab_WA G M X tgt l st h) (kf : ¬ (x ≤ 0) → ab_WA G M X (pc + 3) l st h) : ab_WA G M X pc l (.int x :: st) h := by
  obtain ⟨p, e, R, s, m, args, below, meth, c, Q, h0⟩ := X
  obtain ⟨hx, hb, hml, hr, hlk, hown, hts, hal, hsz, hkp, hnm, hrf, hrl, hG⟩ := hX
  by_cases hc : (x ≤ 0)
  · have k := kt hc
    exact ⟨k.1, k.2.1, fun ls H locs g1 g2 hl hR hS => lv_if_le hx hb hm ht (fun _ => k.2.2 ls H locs g1 g2 hl hR hS) (fun n => absurd hc n)⟩
  · have k := kf hc
    exact ⟨k.1, k.2.1, fun ls H locs g1 g2 hl hR hS => lv_if_le hx hb hm ht (fun n => absurd n hc) (fun _ => k.2.2 ls H locs g1 g2 hl hR hS)⟩
theorem ab_icmple {G : ab_G} {M : ab_M} {X : ab_X} {pc : Nat} {l : List (Nat × Value)} {st : List Value} {h : List ab_E} (hX : ab_Good G M X) {x y : Int32} {off : Int} {tgt : Nat} (hm : decode M.2.1 pc = .ok (.if_icmp .le off, 3)) (ht : (pc : Int) + off = (tgt : Int)) (kt : (x ≤ y) → ab_WA G M X tgt l st h) (kf : ¬ (x ≤ y) → ab_WA G M X (pc + 3) l st h) : ab_WA G M X pc l (.int y :: .int x :: st) h := by
  obtain ⟨p, e, R, s, m, args, below, meth, c, Q, h0⟩ := X
  obtain ⟨hx, hb, hml, hr, hlk, hown, hts, hal, hsz, hkp, hnm, hrf, hrl, hG⟩ := hX
  by_cases hc : (x ≤ y)
  · have k := kt hc
    exact ⟨k.1, k.2.1, fun ls H locs g1 g2 hl hR hS => lv_icmp_le hx hb hm ht (fun _ => k.2.2 ls H locs g1 g2 hl hR hS) (fun n => absurd hc n)⟩
  · have k := kf hc
    exact ⟨k.1, k.2.1, fun ls H locs g1 g2 hl hR hS => lv_icmp_le hx hb hm ht (fun n => absurd n hc) (fun _ => k.2.2 ls H locs g1 g2 hl hR hS)⟩
theorem ab_tsIn {G : ab_G} {M : ab_M} {X : ab_X} {pc : Nat} {l : List (Nat × Value)} {st : List Value} {h : List ab_E} (hX : ab_Good G M X) {dflt lo hi off : Int} {offs : Array Int} {len : Nat} {x : Int32} {tgt : Nat} (hm : decode M.2.1 pc = .ok (.tableswitch dflt lo hi offs, len)) (h1 : ¬ x.toInt < lo) (h2 : ¬ hi < x.toInt) (ho : offs[(x.toInt - lo).toNat]? = some off) (ht : (pc : Int) + off = (tgt : Int)) (k : ab_WA G M X tgt l st h) : ab_WA G M X pc l (.int x :: st) h := by
  obtain ⟨p, e, R, s, m, args, below, meth, c, Q, h0⟩ := X
  obtain ⟨hx, hb, hml, hr, hlk, hown, hts, hal, hsz, hkp, hnm, hrf, hrl, hG⟩ := hX
  refine ⟨k.1, k.2.1, fun ls H locs g1 g2 hl hR hS => ?_⟩
  exact lv_tableIn hx hb hm h1 h2 ho ht (k.2.2 ls H locs g1 g2 hl hR hS)
theorem ab_tsOut {G : ab_G} {M : ab_M} {X : ab_X} {pc : Nat} {l : List (Nat × Value)} {st : List Value} {h : List ab_E} (hX : ab_Good G M X) {dflt lo hi : Int} {offs : Array Int} {len : Nat} {x : Int32} {tgt : Nat} (hm : decode M.2.1 pc = .ok (.tableswitch dflt lo hi offs, len)) (h1 : x.toInt < lo ∨ hi < x.toInt) (ht : (pc : Int) + dflt = (tgt : Int)) (k : ab_WA G M X tgt l st h) : ab_WA G M X pc l (.int x :: st) h := by
  obtain ⟨p, e, R, s, m, args, below, meth, c, Q, h0⟩ := X
  obtain ⟨hx, hb, hml, hr, hlk, hown, hts, hal, hsz, hkp, hnm, hrf, hrl, hG⟩ := hX
  refine ⟨k.1, k.2.1, fun ls H locs g1 g2 hl hR hS => ?_⟩
  exact lv_tableOut hx hb hm h1 ht (k.2.2 ls H locs g1 g2 hl hR hS)
theorem ab_ls {G : ab_G} {M : ab_M} {X : ab_X} {pc : Nat} {l : List (Nat × Value)} {st : List Value} {h : List ab_E} (hX : ab_Good G M X) {dflt off : Int} {ps : Array (Int × Int)} {len : Nat} {x : Int32} {tgt : Nat} (hm : decode M.2.1 pc = .ok (.lookupswitch dflt ps, len)) (hp : (ps.toList.zip (ps.toList.drop 1)).all (fun (a, next) => a.1 < next.1) = true) (ho : Op.lookupswitch.offset ps.toList dflt x.toInt = off) (ht : (pc : Int) + off = (tgt : Int)) (k : ab_WA G M X tgt l st h) : ab_WA G M X pc l (.int x :: st) h := by
  obtain ⟨p, e, R, s, m, args, below, meth, c, Q, h0⟩ := X
  obtain ⟨hx, hb, hml, hr, hlk, hown, hts, hal, hsz, hkp, hnm, hrf, hrl, hG⟩ := hX
  refine ⟨k.1, k.2.1, fun ls H locs g1 g2 hl hR hS => ?_⟩
  exact lv_lookup hx hb hm hp ho ht (k.2.2 ls H locs g1 g2 hl hR hS)
theorem ab_acmpne {G : ab_G} {M : ab_M} {X : ab_X} {pc : Nat} {l : List (Nat × Value)} {st : List Value} {h : List ab_E} (hX : ab_Good G M X) {v w : Value} {a b : Nat} {off : Int} {tgt : Nat} (hm : decode M.2.1 pc = .ok (.if_acmp .ne off, 3)) (ht : (pc : Int) + off = (tgt : Int)) (hv : ab_ren G v = .ref a) (hw : ab_ren G w = .ref b) (kt : ¬ a = b → ab_WA G M X tgt l st h) (kf : a = b → ab_WA G M X (pc + 3) l st h) : ab_WA G M X pc l (w :: v :: st) h := by
  obtain ⟨p, e, R, s, m, args, below, meth, c, Q, h0⟩ := X
  obtain ⟨hx, hb, hml, hr, hlk, hown, hts, hal, hsz, hkp, hnm, hrf, hrl, hG⟩ := hX
  have e : (w :: v :: st).map (ab_ren G) = va_rf (some b) :: va_rf (some a) :: st.map (ab_ren G) := by rw [List.map_cons, List.map_cons, hv, hw]; rfl
  by_cases hc : a = b
  · have k := kf hc
    exact ⟨k.1, k.2.1, fun ls H locs g1 g2 hl hR hS => by
      rw [e]
      exact lv_acmp_ne hx hb hm ht (fun n => absurd (congrArg some hc) n) (fun _ => k.2.2 ls H locs g1 g2 hl hR hS)⟩
  · have k := kt hc
    exact ⟨k.1, k.2.1, fun ls H locs g1 g2 hl hR hS => by
      rw [e]
      exact lv_acmp_ne hx hb hm ht (fun _ => k.2.2 ls H locs g1 g2 hl hR hS) (fun n => absurd (Option.some.inj n) hc)⟩
theorem ab_ireturn {G : ab_G} {M : ab_M} {X : ab_X} {pc : Nat} {l : List (Nat × Value)} {st : List Value} {h : List ab_E} (hX : ab_Good G M X) {v : Int32} {ty : FieldType} {r : Option Value} {h1 h2 : List ab_E} (hF : ab_Fin G M X r h1 h2) (hm : decode M.2.1 pc = .ok (.ireturn, 1)) (hret : M.2.2.2.1 = some ty) (hn : narrow ty (.int v) = .int v) (hrv : r = some (.int v)) (hh : h = h2) : ab_WA G M X pc l [.int v] h := by
  obtain ⟨p, e, R, s, m, args, below, meth, c, Q, h0⟩ := X
  obtain ⟨hx, hb, hml, hr, hlk, hown, hts, hal, hsz, hkp, hnm, hrf, hrl, hG⟩ := hX
  obtain ⟨rfl, hle, hlz, rfl, rfl⟩ := hF
  subst hh
  subst hrv
  refine ⟨by show h.length ≤ h0.length + (h.length - h0.length); omega, by show ab_sz h ≤ ab_sz h0 + (ab_sz h - ab_sz h0); omega, fun ls H locs g1 g2 hl hR hS => ?_⟩
  exact W.zret hx hb (hr.trans hret) hn (fun t ht hW => ⟨rfl, ⟨by rw [ht]; exact hR, hal.trans hW.alike⟩, hS.F ht⟩) hS.2.2 hm hlk
theorem ab_lreturn {G : ab_G} {M : ab_M} {X : ab_X} {pc : Nat} {l : List (Nat × Value)} {st : List Value} {h : List ab_E} (hX : ab_Good G M X) {v : Int64} {r : Option Value} {h1 h2 : List ab_E} (hF : ab_Fin G M X r h1 h2) (hm : decode M.2.1 pc = .ok (.lreturn, 1)) (hret : M.2.2.2.1 = some .long) (hrv : r = some (.long v)) (hh : h = h2) : ab_WA G M X pc l [.long v] h := by
  obtain ⟨p, e, R, s, m, args, below, meth, c, Q, h0⟩ := X
  obtain ⟨hx, hb, hml, hr, hlk, hown, hts, hal, hsz, hkp, hnm, hrf, hrl, hG⟩ := hX
  obtain ⟨rfl, hle, hlz, rfl, rfl⟩ := hF
  subst hh
  subst hrv
  refine ⟨by show h.length ≤ h0.length + (h.length - h0.length); omega, by show ab_sz h ≤ ab_sz h0 + (ab_sz h - ab_sz h0); omega, fun ls H locs g1 g2 hl hR hS => ?_⟩
  exact W.lret hx hb (hr.trans hret) (fun t ht hW => ⟨rfl, ⟨by rw [ht]; exact hR, hal.trans hW.alike⟩, hS.F ht⟩) hS.2.2 hm hlk
theorem ab_vreturn {G : ab_G} {M : ab_M} {X : ab_X} {pc : Nat} {l : List (Nat × Value)} {st : List Value} {h : List ab_E} (hX : ab_Good G M X)  {r : Option Value} {h1 h2 : List ab_E} (hF : ab_Fin G M X r h1 h2) (hm : decode M.2.1 pc = .ok (.return_, 1)) (hret : M.2.2.2.1 = none) (hrv : r = none) (hh : h = h2) : ab_WA G M X pc l [] h := by
  obtain ⟨p, e, R, s, m, args, below, meth, c, Q, h0⟩ := X
  obtain ⟨hx, hb, hml, hr, hlk, hown, hts, hal, hsz, hkp, hnm, hrf, hrl, hG⟩ := hX
  obtain ⟨rfl, hle, hlz, rfl, rfl⟩ := hF
  subst hh
  subst hrv
  refine ⟨by show h.length ≤ h0.length + (h.length - h0.length); omega, by show ab_sz h ≤ ab_sz h0 + (ab_sz h - ab_sz h0); omega, fun ls H locs g1 g2 hl hR hS => ?_⟩
  exact W.vret hx hb (hr.trans hret) (fun t ht hW => ⟨rfl, ⟨by rw [ht]; exact hR, hal.trans hW.alike⟩, hS.F ht⟩) hS.2.2 hm hlk
theorem ab_areturn {G : ab_G} {M : ab_M} {X : ab_X} {pc : Nat} {l : List (Nat × Value)} {st : List Value} {h : List ab_E} (hX : ab_Good G M X) {v : Value} {rt : FieldType} {r : Option Value} {h1 h2 : List ab_E} (hF : ab_Fin G M X r h1 h2) (hm : decode M.2.1 pc = .ok (.areturn, 1)) (hret : M.2.2.2.1 = some rt) (hrt : (∃ n, rt = .object n) ∨ ∃ t, rt = .array t) (hv : v = .null ∨ (∃ a, v = .ref a) ∨ ∃ x, v = .float x) (hrv : r = some v) (hh : h = h2) : ab_WA G M X pc l [v] h := by
  obtain ⟨p, e, R, s, m, args, below, meth, c, Q, h0⟩ := X
  obtain ⟨hx, hb, hml, hr, hlk, hown, hts, hal, hsz, hkp, hnm, hrf, hrl, hG⟩ := hX
  obtain ⟨rfl, hle, hlz, rfl, rfl⟩ := hF
  subst hh
  subst hrv
  refine ⟨by show h.length ≤ h0.length + (h.length - h0.length); omega, by show ab_sz h ≤ ab_sz h0 + (ab_sz h - ab_sz h0); omega, fun ls H locs g1 g2 hl hR hS => ?_⟩
  exact W.aret hx hb (hr.trans hret) hrt (ab_isref G hv) (fun t ht hW => ⟨rfl, ⟨by rw [ht]; exact hR, hal.trans hW.alike⟩, hS.F ht⟩) hS.2.2 hm hlk
end
section
/-! Rules for the heap: fields, arrays, what is new, statics, casts. -/
/-- a field of class ci at a pool entry: it is the k-th -/
def ab_fs (M : ab_M) (i ci k : Nat) : Prop := ∃ (C : String) (T : u_T) (N : Nat) (ref : String), ab_cls[ci]? = some (C, T, N) ∧ k < N ∧ (∀ w ∈ u_ws C T N, w ∈ ab_Tg) ∧
  (Cond.fieldLink M.1.cls i ref (T k).2.1 (T k).2.2.1 ∈ ab_Tg ∨ ∃ host, Cond.fieldLinkNest M.1.cls i ref (T k).2.1 (T k).2.2.1 host ∈ ab_Tg) ∧ (ref = (T k).1 ∨ Cond.sameField ref (T k).1 (T k).2.1 (T k).2.2.1 ∈ ab_Tg)
/-- and written -/
def ab_ps (M : ab_M) (i ci k : Nat) (ty : FieldType) : Prop := ∃ (C : String) (T : u_T) (N : Nat) (ref : String) (ty0 : Nat → FieldType), ab_cls[ci]? = some (C, T, N) ∧ k < N ∧ (∀ w ∈ u_ws C T N, w ∈ ab_Tg) ∧
  (∀ k, k < N → parseFieldDescriptor (T k).2.2.1 = some (ty0 k)) ∧ (∀ a, a < N → ∀ b, b < N → a ≠ b → (T a).2.1 ≠ (T b).2.1) ∧ ty0 k = ty ∧
  (ref = (T k).1 ∨ Cond.sameField ref (T k).1 (T k).2.1 (T k).2.2.1 ∈ ab_Tg) ∧
  ((Cond.fieldLink M.1.cls i ref (T k).2.1 (T k).2.2.1 ∈ ab_Tg ∧ ((T k).2.2.2 = false ∨ ((T k).2.2.2 = true ∧ M.1.name = "<init>" ∧ (T k).1 = M.1.cls))) ∨ ((∃ host, Cond.fieldLinkNest M.1.cls i ref (T k).2.1 (T k).2.2.1 host ∈ ab_Tg) ∧ (T k).2.2.2 = false))
theorem ab_same {s : State} {args : Array Value} (hts : ∀ w ∈ ab_Tg, w.before args s = true) {ref : String} {q : String × String × String × Bool} (h : ref = q.1 ∨ Cond.sameField ref q.1 q.2.1 q.2.2.1 ∈ ab_Tg) : ∀ x, s.fieldFound? q.1 q.2.1 q.2.2.1 = some x → s.fieldFound? ref q.2.1 q.2.2.1 = some x := by
  rcases h with rfl | h
  · exact fun _ h => h
  · exact u_same (hts _ h)
theorem ab_getfield {G : ab_G} {M : ab_M} {X : ab_X} {pc : Nat} {l : List (Nat × Value)} {st : List Value} {h : List ab_E} (hX : ab_Good G M X) {i ci k a : Nat} {fs : List Value} {v : Value} (hm : decode M.2.1 pc = .ok (.getfield i, 3)) (hs : ab_fs M i ci k) (hc : h[a]? = some (.inr (ci, fs))) (hv : fs[k]? = some v)
    (kk : ab_WA G M X (pc + 3) l (v :: st) h) : ab_WA G M X pc l (.ref a :: st) h := by
  obtain ⟨p, e, R, s, m, args, below, meth, c, Q, h0⟩ := X
  obtain ⟨hx, hb, hml, hr, hlk, hown, hts, hal, hsz, hkp, hnm, hrf, hrl, hG⟩ := hX
  obtain ⟨C, T, N, ref, q1, q2, q3, q4, q5⟩ := hs
  refine ⟨kk.1, kk.2.1, fun ls H locs g1 g2 hl hR hS => ?_⟩
  have w := kk.2.2 ls H locs g1 g2 hl hR hS
  have hK := va_K.moved hal hG.1
  have he : (ab_wld G h)[a]? = some (G.2.1 + a, .inr (ci, fs.map (ab_ren G))) := ab_wld_get hc
  have hv2 : (fs.map (ab_ren G))[k]? = some (ab_ren G v) := by rw [List.getElem?_map, hv]; rfl
  rcases q4 with q4 | ⟨host, q4⟩
  · exact va_get (D := G.1) hx hb hts q3 hown hK hR.1 a he q1 k q2 (hts _ q4) (ab_same hts q5) hv2 hm w
  · exact va_getN (D := G.1) hx hb hts q3 hown hK hR.1 a he q1 k q2 (hts _ q4) (ab_same hts q5) hv2 hm w
/-- the heap's size, read off the room -/
theorem ab_size {p : Program} {l : Launch} {e : Env} {R : Room} {s : State} {m : MethodId} {args : Array Value} {below : List Frame} {meth : Method} {c : Code} {H : Heap} {locs : List Loc} {cells slots n0 : Nat} {Q : State → Prop} {g : JFrame} {G : ab_G} {h : List ab_E}
    (hP : va_P G.1 ab_cls (ab_wld G h) H) (hs : s.heap.size = G.2.1 + n0) (hn : h.length = n0 + cells) (hz : s.heap.size ≤ H.size) (k : H.size = G.2.1 + h.length → W p l e R s m args below meth c H locs cells slots Q g) : W p l e R s m args below meth c H locs cells slots Q g := by
  intro T hT X
  have h1 := X.heapSize
  rw [hT] at h1
  have h2 : G.2.1 + h.length ≤ H.size := by
    by_cases h0 : h.length = 0
    · omega
    · have hl : h.length - 1 < h.length := by omega
      have := (hP (h.length - 1) _ (ab_wld_get (List.getElem?_eq_getElem hl))).lt
      have e : ((G.2.1 + (h.length - 1), ab_renE G h[h.length - 1]) : Nat × va_E).1 = G.2.1 + (h.length - 1) := rfl
      rw [e] at this
      omega
  exact k (by omega) T hT X
/-- the place of a new cell, read off the room -/
theorem ab_place {p : Program} {l : Launch} {e : Env} {R : Room} {s : State} {m : MethodId} {args : Array Value} {below : List Frame} {meth : Method} {c : Code} {H : Heap} {locs : List Loc} {cells slots n0 : Nat} {Q : State → Prop} {g : JFrame} {G : ab_G} {h : List ab_E} {q : Nat} {v : va_E}
    (hP : va_P G.1 ab_cls (ab_wld G h ++ [(q, v)]) H) (hD : va_D (ab_A G) (ab_wld G h ++ [(q, v)])) (hs : s.heap.size = G.2.1 + n0) (hn : h.length + 1 = n0 + cells) (k : q = G.2.1 + h.length → H.size = G.2.1 + (h.length + 1) → W p l e R s m args below meth c H locs cells slots Q g) : W p l e R s m args below meth c H locs cells slots Q g := by
  intro T hT X
  have h1 := X.heapSize
  rw [hT] at h1
  have hw : (ab_wld G h).length = h.length := by simp [ab_wld]
  have hlast : (ab_wld G h ++ [(q, v)])[h.length]? = some (q, v) := by rw [List.getElem?_append_right (by omega), hw, Nat.sub_self]; rfl
  have hq1 : q < H.size := (hP _ _ hlast).lt
  have hq2 : G.2.1 ≤ q := hD.2 _ _ hlast
  have hq3 : ¬ q < G.2.1 + h.length := by
    intro hlt
    have hk : q - G.2.1 < h.length := by omega
    have hg : (ab_wld G h ++ [(q, v)])[q - G.2.1]? = some (G.2.1 + (q - G.2.1), ab_renE G h[q - G.2.1]) := by
      rw [List.getElem?_append_left (by omega)]
      exact ab_wld_get (List.getElem?_eq_getElem hk)
    have := hD.1 _ _ _ _ hg hlast (by show G.2.1 + (q - G.2.1) = q; omega)
    omega
  exact k (by omega) (by omega) T hT X
theorem ab_putfield {G : ab_G} {M : ab_M} {X : ab_X} {pc : Nat} {l : List (Nat × Value)} {st : List Value} {h h1 : List ab_E} (hX : ab_Good G M X) {i ci k a : Nat} {fs : List Value} {v : Value} {ty : FieldType} (hm : decode M.2.1 pc = .ok (.putfield i, 3)) (hs : ab_ps M i ci k ty) (hc : h[a]? = some (.inr (ci, fs))) (hl0 : k < fs.length) (hn : narrow ty (ab_ren G v) = ab_ren G v) (hfit : fits ty (ab_ren G v) = true)
    (hh : h.set a (.inr (ci, fs.set k v)) = h1) (kk : ab_WA G M X (pc + 3) l st h1) : ab_WA G M X pc l (v :: .ref a :: st) h := by
  subst hh
  obtain ⟨p, e, R, s, m, args, below, meth, c, Q, h0⟩ := X
  obtain ⟨hx, hb, hml, hr, hlk, hown, hts, hal, hsz, hkp, hnm, hrf, hrl, hG⟩ := hX
  obtain ⟨C, T, N, ref, ty0, q1, q2, q3, hty, hap, rfl, q5, q4⟩ := hs
  have e1 : (h.set a (.inr (ci, fs.set k v) : ab_E)).length = h.length := List.length_set
  have e2 : ab_sz (h.set a (.inr (ci, fs.set k v))) = ab_sz h := ab_sz_set hc rfl
  refine ⟨by rw [← e1]; exact kk.1, by rw [← e2]; exact kk.2.1, fun ls H locs g1 g2 hl hR hS => ?_⟩
  have hK := va_K.moved hal hG.1
  have he : (ab_wld G h)[a]? = some (G.2.1 + a, .inr (ci, fs.map (ab_ren G))) := ab_wld_get hc
  have hl1 : k < (fs.map (ab_ren G)).length := by rw [List.length_map]; exact hl0
  have go : ∀ (H1 : Heap) (locs1 : List Loc), va_P G.1 ab_cls ((ab_wld G h).set a (G.2.1 + a, .inr (ci, (fs.map (ab_ren G)).set k (ab_ren G v)))) H1 → va_D (ab_A G) ((ab_wld G h).set a (G.2.1 + a, .inr (ci, (fs.map (ab_ren G)).set k (ab_ren G v)))) → va_S (ab_A G) s.heap H1 locs1 → W p G.2.2.2.2.2 e R s m args below meth c H1 locs1 (h.length - h0.length) (ab_sz h - ab_sz h0) Q (F0 m (pc + 3) ls (st.map (ab_ren G))) := by
    intro H1 locs1 hP1 hD1 hS1
    have hP2 : va_P G.1 ab_cls (ab_wld G (h.set a (.inr (ci, fs.set k v)))) H1 := by
      rw [ab_wld_set]
      show va_P G.1 ab_cls ((ab_wld G h).set a (G.2.1 + a, .inr (ci, (fs.set k v).map (ab_ren G)))) H1
      rw [List.map_set]
      exact hP1
    refine ab_size (n0 := h0.length) hP2 hsz (by rw [e1]; omega) hS1.1 fun hz => ?_
    have w := kk.2.2 ls H1 locs1 (by rw [e1]; exact g1) (by rw [e2]; exact g2) hl ⟨hP2, hz, fun q hq => (hS1.2.1 q (by omega) (Nat.not_le.mpr hq)).trans (hkp q hq)⟩ hS1
    rw [e1, e2] at w
    exact w
  rcases q4 with ⟨q4, q6⟩ | ⟨⟨host, q4⟩, q6⟩
  · rcases q6 with q6 | ⟨q6, q7, q8⟩
    · exact va_put (D := G.1) hx hb hts q3 ty0 hty hap hown hK hR.1 (ab_wld_D G h) hS a he q1 k q2 (hts _ q4) (ab_same hts q5) q6 (hty k q2) hn hfit hl1 hm go
    · exact va_putF (D := G.1) hx hb hts q3 ty0 hty hap hown hK hR.1 (ab_wld_D G h) hS a he q1 k q2 (hts _ q4) (ab_same hts q5) q6 (hnm.trans q7) q8 (hty k q2) hn hfit hl1 hm go
  · exact va_putN (D := G.1) hx hb hts q3 ty0 hty hap hown hK hR.1 (ab_wld_D G h) hS a he q1 k q2 (hts _ q4) (ab_same hts q5) q6 (hty k q2) hn hfit hl1 hm go
end
section
/-! Rules for arrays, what is new, statics, casts. -/
theorem ab_iaload {G : ab_G} {M : ab_M} {X : ab_X} {pc : Nat} {l : List (Nat × Value)} {st : List Value} {h : List ab_E} (hX : ab_Good G M X) {a n : Nat} {f : Nat → Int32} {i : Int32} (hm : decode M.2.1 pc = .ok (.iaload, 1)) (hc : h[a]? = some (.inl (0, n, .inl f))) (hin : vp_in i n)
    (kk : ab_WA G M X (pc + 1) l (.int (f i.toNatClampNeg) :: st) h) : ab_WA G M X pc l (.int i :: .ref a :: st) h := by
  obtain ⟨p, e, R, s, m, args, below, meth, c, Q, h0⟩ := X
  obtain ⟨hx, hb, hml, hr, hlk, hown, hts, hal, hsz, hkp, hnm, hrf, hrl, hG⟩ := hX
  refine ⟨kk.1, kk.2.1, fun ls H locs g1 g2 hl hR hS => ?_⟩
  have w := kk.2.2 ls H locs g1 g2 hl hR hS
  have hK := va_K.moved hal hG.1
  have he : (ab_wld G h)[a]? = some (G.2.1 + a, .inl (G.2.2.2.1 0, n, .inl f)) := ab_wld_get hc
  exact va_iald (D := G.1) hx hb hK hR.1 a 0 he rfl hin hm w
theorem ab_laload {G : ab_G} {M : ab_M} {X : ab_X} {pc : Nat} {l : List (Nat × Value)} {st : List Value} {h : List ab_E} (hX : ab_Good G M X) {a n : Nat} {f : Nat → Int64} {i : Int32} (hm : decode M.2.1 pc = .ok (.laload, 1)) (hc : h[a]? = some (.inl (1, n, .inr (.inl f)))) (hin : vp_in i n)
    (kk : ab_WA G M X (pc + 1) l (.long (f i.toNatClampNeg) :: st) h) : ab_WA G M X pc l (.int i :: .ref a :: st) h := by
  obtain ⟨p, e, R, s, m, args, below, meth, c, Q, h0⟩ := X
  obtain ⟨hx, hb, hml, hr, hlk, hown, hts, hal, hsz, hkp, hnm, hrf, hrl, hG⟩ := hX
  refine ⟨kk.1, kk.2.1, fun ls H locs g1 g2 hl hR hS => ?_⟩
  have w := kk.2.2 ls H locs g1 g2 hl hR hS
  have hK := va_K.moved hal hG.1
  have he : (ab_wld G h)[a]? = some (G.2.1 + a, .inl (G.2.2.2.1 1, n, .inr (.inl f))) := ab_wld_get hc
  exact va_lald (D := G.1) hx hb hK hR.1 a 1 he rfl hin hm w
/-- array of references: t its class's place (2: Object, 3: Shelf) -/
theorem ab_aaload {G : ab_G} {M : ab_M} {X : ab_X} {pc : Nat} {l : List (Nat × Value)} {st : List Value} {h : List ab_E} (hX : ab_Good G M X) {a n t : Nat} {f : Nat → Option Nat} {i : Int32} {v : Value} (ht : t = 2 ∨ t = 3) (hm : decode M.2.1 pc = .ok (.aaload, 1)) (hc : h[a]? = some (.inl (t, n, .inr (.inr (.inr (.inr f)))))) (hin : vp_in i n) (hv : va_rf (f i.toNatClampNeg) = v)
    (kk : ab_WA G M X (pc + 1) l (v :: st) h) : ab_WA G M X pc l (.int i :: .ref a :: st) h := by
  subst hv
  obtain ⟨p, e, R, s, m, args, below, meth, c, Q, h0⟩ := X
  obtain ⟨hx, hb, hml, hr, hlk, hown, hts, hal, hsz, hkp, hnm, hrf, hrl, hG⟩ := hX
  refine ⟨kk.1, kk.2.1, fun ls H locs g1 g2 hl hR hS => ?_⟩
  have w := kk.2.2 ls H locs g1 g2 hl hR hS
  have hK := va_K.moved hal hG.1
  have he : (ab_wld G h)[a]? = some (G.2.1 + a, .inl (G.2.2.2.1 t, n, .inr (.inr (.inr (.inr (fun j => (f j).map (G.2.1 + ·))))))) := ab_wld_get hc
  have e2 : va_rf ((f i.toNatClampNeg).map (G.2.1 + ·)) = ab_ren G (va_rf (f i.toNatClampNeg)) := by cases f i.toNatClampNeg <;> rfl
  rcases ht with rfl | rfl
  · exact va_aldq (D := G.1) hx hb hK hR.1 a 2 he rfl hin hm (by rw [e2]; exact w)
  · exact va_aldq (D := G.1) hx hb hK hR.1 a 3 he rfl hin hm (by rw [e2]; exact w)
theorem ab_alen {G : ab_G} {M : ab_M} {X : ab_X} {pc : Nat} {l : List (Nat × Value)} {st : List Value} {h : List ab_E} (hX : ab_Good G M X) {a t : Nat} {x : vp_A} {v : Int32} (hm : decode M.2.1 pc = .ok (.arraylength, 1)) (hc : h[a]? = some (.inl (t, x))) (ht : t < 4) (hv : Int32.ofNat x.1 = v)
    (kk : ab_WA G M X (pc + 1) l (.int v :: st) h) : ab_WA G M X pc l (.ref a :: st) h := by
  obtain ⟨p, e, R, s, m, args, below, meth, c, Q, h0⟩ := X
  obtain ⟨hx, hb, hml, hr, hlk, hown, hts, hal, hsz, hkp, hnm, hrf, hrl, hG⟩ := hX
  refine ⟨kk.1, kk.2.1, fun ls H locs g1 g2 hl hR hS => ?_⟩
  have w := kk.2.2 ls H locs g1 g2 hl hR hS
  have hK := va_K.moved hal hG.1
  have he : (ab_wld G h)[a]? = some (G.2.1 + a, .inl (G.2.2.2.1 t, ab_renA G x)) := ab_wld_get hc
  have hv2 : Int32.ofNat (ab_renA G x).1 = v := by
    rw [← hv]
    obtain ⟨n, f⟩ := x
    rcases f with f | f | f | f | f <;> rfl
  have hty : ∃ ty, (ab_tys G)[t]? = some (G.2.2.2.1 t, ty) := by
    match t, ht with
    | 0, _ => exact ⟨_, rfl⟩
    | 1, _ => exact ⟨_, rfl⟩
    | 2, _ => exact ⟨_, rfl⟩
    | 3, _ => exact ⟨_, rfl⟩
  obtain ⟨ty, hty⟩ := hty
  exact va_alen (D := G.1) hx hb hK hR.1 a t he hty hv2 hm w
section STORES
variable {G : ab_G} {M : ab_M} {pc : Nat} {l : List (Nat × Value)} {st : List Value} {h : List ab_E}
variable {p : Program} {e : Env} {R : Room} {s : State} {m : MethodId} {args : Array Value} {below : List Frame} {meth : Method} {c : Code} {Q : State → Prop} {h0 : List ab_E}
/-- behind the writing of one cell of the same size -/
theorem ab_after {ls : Array Slot} {a : Nat} {c0 c1 : ab_E} {pc2 : Nat} (hc : h[a]? = some c0) (hsame : ab_szE c1 = ab_szE c0) (hsz : s.heap.size = G.2.1 + h0.length) (hkp : ∀ q : Nat, q < G.2.1 → s.heap[q]? = G.2.2.2.2.1.heap[q]?) (g1 : h0.length ≤ h.length) (g2 : ab_sz h0 ≤ ab_sz h) (hl : lv_has ls M.2.2.1 (ab_ll G l))
    (kk : ab_WA G M (p, e, R, s, m, args, below, meth, c, Q, h0) pc2 l st (h.set a c1)) :
    ∀ (H1 : Heap) (locs1 : List Loc), va_P G.1 ab_cls ((ab_wld G h).set a (G.2.1 + a, ab_renE G c1)) H1 → va_D (ab_A G) ((ab_wld G h).set a (G.2.1 + a, ab_renE G c1)) → va_S (ab_A G) s.heap H1 locs1 → W p G.2.2.2.2.2 e R s m args below meth c H1 locs1 (h.length - h0.length) (ab_sz h - ab_sz h0) Q (F0 m pc2 ls (st.map (ab_ren G))) := by
  intro H1 locs1 hP1 hD1 hS1
  have e1 : (h.set a c1).length = h.length := List.length_set
  have e2 : ab_sz (h.set a c1) = ab_sz h := ab_sz_set hc hsame
  have hP2 : va_P G.1 ab_cls (ab_wld G (h.set a c1)) H1 := by rw [ab_wld_set]; exact hP1
  refine ab_size (n0 := h0.length) hP2 hsz (by rw [e1]; omega) hS1.1 fun hz => ?_
  have w := kk.2.2 ls H1 locs1 (by rw [e1]; exact g1) (by rw [e2]; exact g2) hl ⟨hP2, hz, fun q hq => (hS1.2.1 q (by omega) (Nat.not_le.mpr hq)).trans (hkp q hq)⟩ hS1
  rw [e1, e2] at w
  exact w
end STORES
theorem ab_iastore {G : ab_G} {M : ab_M} {X : ab_X} {pc : Nat} {l : List (Nat × Value)} {st : List Value} {h h1 : List ab_E} (hX : ab_Good G M X) {a n : Nat} {f : Nat → Int32} {i x : Int32} (hm : decode M.2.1 pc = .ok (.iastore, 1)) (hc : h[a]? = some (.inl (0, n, .inl f))) (hin : vp_in i n)
    (hh : h.set a (.inl (0, n, .inl (upd f i.toNatClampNeg x))) = h1) (kk : ab_WA G M X (pc + 1) l st h1) : ab_WA G M X pc l (.int x :: .int i :: .ref a :: st) h := by
  subst hh
  obtain ⟨p, e, R, s, m, args, below, meth, c, Q, h0⟩ := X
  obtain ⟨hx, hb, hml, hr, hlk, hown, hts, hal, hsz, hkp, hnm, hrf, hrl, hG⟩ := hX
  have e1 : (h.set a (.inl (0, n, .inl (upd f i.toNatClampNeg x)) : ab_E)).length = h.length := List.length_set
  have e2 : ab_sz (h.set a (.inl (0, n, .inl (upd f i.toNatClampNeg x)))) = ab_sz h := ab_sz_set hc rfl
  refine ⟨by rw [← e1]; exact kk.1, by rw [← e2]; exact kk.2.1, fun ls H locs g1 g2 hl hR hS => ?_⟩
  have hK := va_K.moved hal hG.1
  have he : (ab_wld G h)[a]? = some (G.2.1 + a, .inl (G.2.2.2.1 0, n, .inl f)) := ab_wld_get hc
  exact va_iast (D := G.1) hx hb hK hR.1 (ab_wld_D G h) hS a 0 he rfl hin hm (ab_after (c1 := .inl (0, n, .inl (upd f i.toNatClampNeg x))) hc rfl hsz hkp g1 g2 hl kk)
theorem ab_lastore {G : ab_G} {M : ab_M} {X : ab_X} {pc : Nat} {l : List (Nat × Value)} {st : List Value} {h h1 : List ab_E} (hX : ab_Good G M X) {a n : Nat} {f : Nat → Int64} {i : Int32} {x : Int64} (hm : decode M.2.1 pc = .ok (.lastore, 1)) (hc : h[a]? = some (.inl (1, n, .inr (.inl f)))) (hin : vp_in i n)
    (hh : h.set a (.inl (1, n, .inr (.inl (vp_updL f i.toNatClampNeg x)))) = h1) (kk : ab_WA G M X (pc + 1) l st h1) : ab_WA G M X pc l (.long x :: .int i :: .ref a :: st) h := by
  subst hh
  obtain ⟨p, e, R, s, m, args, below, meth, c, Q, h0⟩ := X
  obtain ⟨hx, hb, hml, hr, hlk, hown, hts, hal, hsz, hkp, hnm, hrf, hrl, hG⟩ := hX
  have e1 : (h.set a (.inl (1, n, .inr (.inl (vp_updL f i.toNatClampNeg x))) : ab_E)).length = h.length := List.length_set
  have e2 : ab_sz (h.set a (.inl (1, n, .inr (.inl (vp_updL f i.toNatClampNeg x))))) = ab_sz h := ab_sz_set hc rfl
  refine ⟨by rw [← e1]; exact kk.1, by rw [← e2]; exact kk.2.1, fun ls H locs g1 g2 hl hR hS => ?_⟩
  have hK := va_K.moved hal hG.1
  have he : (ab_wld G h)[a]? = some (G.2.1 + a, .inl (G.2.2.2.1 1, n, .inr (.inl f))) := ab_wld_get hc
  exact va_last (D := G.1) hx hb hK hR.1 (ab_wld_D G h) hS a 1 he rfl hin hm (ab_after (c1 := .inl (1, n, .inr (.inl (vp_updL f i.toNatClampNeg x)))) hc rfl hsz hkp g1 g2 hl kk)
/-- an object stored into an array of its own class -/
theorem ab_renA_up (G : ab_G) (f : Nat → Option Nat) (k v : Nat) : (fun j => ((va_up f k (some v)) j).map (G.2.1 + ·)) = va_up (fun j => (f j).map (G.2.1 + ·)) k (some (G.2.1 + v)) := by
  funext j
  unfold va_up
  by_cases h : j = k
  · rw [if_pos h, if_pos h]; rfl
  · rw [if_neg h, if_neg h]
theorem ab_renA_upN (G : ab_G) (f : Nat → Option Nat) (k : Nat) : (fun j => ((va_up f k none) j).map (G.2.1 + ·)) = va_up (fun j => (f j).map (G.2.1 + ·)) k none := by
  funext j
  unfold va_up
  by_cases h : j = k
  · rw [if_pos h, if_pos h]; rfl
  · rw [if_neg h, if_neg h]
/-- an object of class ci into an array of Shelf (t 3: ci 10) or of Object (t 2: any that is castable) -/
theorem ab_aastore {G : ab_G} {M : ab_M} {X : ab_X} {pc : Nat} {l : List (Nat × Value)} {st : List Value} {h h1 : List ab_E} (hX : ab_Good G M X) {a n t ci v : Nat} {vs : List Value} {r : vw_C} {f : Nat → Option Nat} {i : Int32} (hm : decode M.2.1 pc = .ok (.aastore, 1)) (ht : (t = 2 ∧ Cond.castable r.1 "java/lang/Object" ∈ ab_Tg) ∨ (t = 3 ∧ r.1 = "WitnessesMustLie$Shelf")) (hc : h[a]? = some (.inl (t, n, .inr (.inr (.inr (.inr f)))))) (hin : vp_in i n) (hv : h[v]? = some (.inr (ci, vs))) (hr0 : ab_cls[ci]? = some r)
    (hh : h.set a (.inl (t, n, .inr (.inr (.inr (.inr (va_up f i.toNatClampNeg (some v))))))) = h1) (kk : ab_WA G M X (pc + 1) l st h1) : ab_WA G M X pc l (.ref v :: .int i :: .ref a :: st) h := by
  subst hh
  obtain ⟨p, e, R, s, m, args, below, meth, c, Q, h0⟩ := X
  obtain ⟨hx, hb, hml, hr, hlk, hown, hts, hal, hsz, hkp, hnm, hrf, hrl, hG⟩ := hX
  have e1 : (h.set a (.inl (t, n, .inr (.inr (.inr (.inr (va_up f i.toNatClampNeg (some v)))))) : ab_E)).length = h.length := List.length_set
  have e2 : ab_sz (h.set a (.inl (t, n, .inr (.inr (.inr (.inr (va_up f i.toNatClampNeg (some v)))))))) = ab_sz h := ab_sz_set hc rfl
  refine ⟨by rw [← e1]; exact kk.1, by rw [← e2]; exact kk.2.1, fun ls H locs g1 g2 hl hR hS => ?_⟩
  have hK := va_K.moved hal hG.1
  have he : (ab_wld G h)[a]? = some (G.2.1 + a, .inl (G.2.2.2.1 t, n, .inr (.inr (.inr (.inr (fun j => (f j).map (G.2.1 + ·))))))) := ab_wld_get hc
  have hv2 : (ab_wld G h)[v]? = some (G.2.1 + v, .inr (ci, vs.map (ab_ren G))) := ab_wld_get hv
  have go := ab_after (l := l) (st := st) (c1 := .inl (t, n, .inr (.inr (.inr (.inr (va_up f i.toNatClampNeg (some v))))))) hc rfl hsz hkp g1 g2 hl kk
  have er : ab_renE G (.inl (t, n, .inr (.inr (.inr (.inr (va_up f i.toNatClampNeg (some v))))))) = .inl (G.2.2.2.1 t, n, .inr (.inr (.inr (.inr (va_up (fun j => (f j).map (G.2.1 + ·)) i.toNatClampNeg (some (G.2.1 + v))))))) := by
    show (Sum.inl (G.2.2.2.1 t, n, .inr (.inr (.inr (.inr (fun j => ((va_up f i.toNatClampNeg (some v)) j).map (G.2.1 + ·)))))) : va_E) = _
    rw [ab_renA_up]
  rw [er] at go
  rcases ht with ⟨rfl, hcast⟩ | ⟨rfl, hrn⟩
  · exact va_astqO (D := G.1) (E := "java/lang/Object") hx hb hK hR.1 (ab_wld_D G h) hS a 2 v ci he rfl (va_Nw.of rfl (hts _ hcast)) hv2 hr0 hin hm go
  · exact va_astq (D := G.1) hx hb hK hR.1 (ab_wld_D G h) hS a 3 v ci he (by rw [hrn]; rfl) hv2 hr0 hin hm go
theorem ab_aastoreN {G : ab_G} {M : ab_M} {X : ab_X} {pc : Nat} {l : List (Nat × Value)} {st : List Value} {h h1 : List ab_E} (hX : ab_Good G M X) {a n : Nat} {f : Nat → Option Nat} {i : Int32} (hm : decode M.2.1 pc = .ok (.aastore, 1)) (hc : h[a]? = some (.inl (2, n, .inr (.inr (.inr (.inr f)))))) (hin : vp_in i n)
    (hh : h.set a (.inl (2, n, .inr (.inr (.inr (.inr (va_up f i.toNatClampNeg none)))))) = h1) (kk : ab_WA G M X (pc + 1) l st h1) : ab_WA G M X pc l (.null :: .int i :: .ref a :: st) h := by
  subst hh
  obtain ⟨p, e, R, s, m, args, below, meth, c, Q, h0⟩ := X
  obtain ⟨hx, hb, hml, hr, hlk, hown, hts, hal, hsz, hkp, hnm, hrf, hrl, hG⟩ := hX
  have e1 : (h.set a (.inl (2, n, .inr (.inr (.inr (.inr (va_up f i.toNatClampNeg none))))) : ab_E)).length = h.length := List.length_set
  have e2 : ab_sz (h.set a (.inl (2, n, .inr (.inr (.inr (.inr (va_up f i.toNatClampNeg none))))))) = ab_sz h := ab_sz_set hc rfl
  refine ⟨by rw [← e1]; exact kk.1, by rw [← e2]; exact kk.2.1, fun ls H locs g1 g2 hl hR hS => ?_⟩
  have hK := va_K.moved hal hG.1
  have he : (ab_wld G h)[a]? = some (G.2.1 + a, .inl (G.2.2.2.1 2, n, .inr (.inr (.inr (.inr (fun j => (f j).map (G.2.1 + ·))))))) := ab_wld_get hc
  have go := ab_after (l := l) (st := st) (c1 := .inl (2, n, .inr (.inr (.inr (.inr (va_up f i.toNatClampNeg none)))))) hc rfl hsz hkp g1 g2 hl kk
  have er : ab_renE G (.inl (2, n, .inr (.inr (.inr (.inr (va_up f i.toNatClampNeg none)))))) = .inl (G.2.2.2.1 2, n, .inr (.inr (.inr (.inr (va_up (fun j => (f j).map (G.2.1 + ·)) i.toNatClampNeg none))))) := by
    show (Sum.inl (G.2.2.2.1 2, n, .inr (.inr (.inr (.inr (fun j => ((va_up f i.toNatClampNeg none) j).map (G.2.1 + ·)))))) : va_E) = _
    rw [ab_renA_upN]
  rw [er] at go
  exact va_astqN (D := G.1) hx hb hK hR.1 (ab_wld_D G h) hS a 2 he rfl hin hm go
/-- a new object of class ci at pool entry i -/
def ab_ns (M : ab_M) (i ci : Nat) (fs : List Value) : Prop := ∃ (C : String) (T : u_T) (N : Nat) (ty0 : Nat → FieldType), ab_cls[ci]? = some (C, T, N) ∧ (∀ w ∈ u_ws C T N, w ∈ ab_Tg) ∧ (∀ k, k < N → parseFieldDescriptor (T k).2.2.1 = some (ty0 k)) ∧
  Cond.classLink M.1.cls i C ∈ ab_Tg ∧ Cond.instantiable C N ∈ ab_Tg ∧ Cond.initialized C ∈ ab_Tg ∧ (∀ (G : ab_G) (j : Nat), j < N → defaultValue (ty0 j) = vp_V (fs.map (ab_ren G)) j)
theorem ab_new {G : ab_G} {M : ab_M} {X : ab_X} {pc : Nat} {l : List (Nat × Value)} {st : List Value} {h : List ab_E} (hX : ab_Good G M X) {i ci : Nat} {fs : List Value} (hm : decode M.2.1 pc = .ok (.new i, 3)) (hs : ab_ns M i ci fs)
    (kk : ab_WA G M X (pc + 3) l (.ref h.length :: st) (h ++ [.inr (ci, fs)])) : ab_WA G M X pc l st h := by
  obtain ⟨p, e, R, s, m, args, below, meth, c, Q, h0⟩ := X
  obtain ⟨hx, hb, hml, hr, hlk, hown, hts, hal, hsz, hkp, hnm, hrf, hrl, hG⟩ := hX
  obtain ⟨C, T, N, ty0, q1, q2, q3, q4, q5, q6, q7⟩ := hs
  have e1 : (h ++ [(.inr (ci, fs) : ab_E)]).length = h.length + 1 := by simp
  have e2 : ab_sz (h ++ [.inr (ci, fs)]) = ab_sz h + N := by rw [ab_sz_app]; simp [ab_szE, q1]
  have b1 := kk.1
  have b2 := kk.2.1
  rw [e1] at b1
  rw [e2] at b2
  refine ⟨by omega, by omega, fun ls H locs g1 g2 hl hR hS => ?_⟩
  have hK := va_K.moved hal hG.1
  refine va_new (D := G.1) hx hb hts q2 ty0 q3 hown (hts _ q4) (hts _ q5) (hts _ q6) hK hR.1 (ab_wld_D G h) hS (fun q hq => by show G.2.1 ≤ q; omega) q1 (q7 G) (by omega) (by omega) hm fun q H1 hP1 hD1 hS1 => ?_
  refine ab_place (n0 := h0.length) hP1 hD1 hsz (by omega) fun hq hz => ?_
  subst hq
  have hP2 : va_P G.1 ab_cls (ab_wld G (h ++ [.inr (ci, fs)])) H1 := by rw [ab_wld_app]; exact hP1
  have w := kk.2.2 ls H1 locs (by omega) (by omega) hl ⟨hP2, by rw [hz, e1], fun q hq => (hS1.2.1 q (by omega) (Nat.not_le.mpr hq)).trans (hkp q hq)⟩ hS1
  rw [e1, e2, show h.length + 1 - h0.length = h.length - h0.length + 1 by omega, show ab_sz h + N - ab_sz h0 = ab_sz h - ab_sz h0 + N by omega] at w
  exact w
/-- what findClass says of an array's class -/
theorem ab_newint {G : ab_G} {M : ab_M} {X : ab_X} {pc : Nat} {l : List (Nat × Value)} {st : List Value} {h : List ab_E} (hX : ab_Good G M X) {n : Int32} {N : Nat} (hm : decode M.2.1 pc = .ok (.newarray .int, 2)) (hw : Cond.arrayClass .int ∈ ab_Tg) (hn : ¬ n < 0) (hN : n.toNatClampNeg = N) (hb0 : N * 4 ≤ 536870912)
    (kk : ab_WA G M X (pc + 2) l (.ref h.length :: st) (h ++ [.inl (0, N, .inl (fun _ => 0))])) : ab_WA G M X pc l (.int n :: st) h := by
  obtain ⟨p, e, R, s, m, args, below, meth, c, Q, h0⟩ := X
  obtain ⟨hx, hb, hml, hr, hlk, hown, hts, hal, hsz, hkp, hnm, hrf, hrl, hG⟩ := hX
  have e1 : (h ++ [(.inl (0, N, .inl (fun _ => 0)) : ab_E)]).length = h.length + 1 := by simp
  have e2 : ab_sz (h ++ [.inl (0, N, .inl (fun _ => 0))]) = ab_sz h + N := ab_sz_app _ _
  have b1 := kk.1
  have b2 := kk.2.1
  rw [e1] at b1
  rw [e2] at b2
  refine ⟨by omega, by omega, fun ls H locs g1 g2 hl hR hS => ?_⟩
  have hK := va_K.moved hal hG.1
  refine va_newa (D := G.1) (atype := .int) (ty := .int) (a0 := (N, .inl (fun _ => 0))) hx hb (hts _ hw) rfl hK hR.1 (ab_wld_D G h) hS (fun q hq => by show G.2.1 ≤ q; omega) (fun cA => rfl) hn hN hb0 (by omega) (by omega) hm fun q cA H1 hK1 hP1 hD1 hS1 => ?_
  have hcA : cA = G.2.2.2.1 0 := by
    have h1 : s.vm.findClass ("[" ++ FieldType.int.toString) = some cA := (hK1.2 4 (cA, .int) rfl).2
    have h2 : s.vm.findClass ("[" ++ FieldType.int.toString) = some (G.2.2.2.1 0) := (hK1.2 0 (G.2.2.2.1 0, .int) rfl).2
    exact Option.some.inj (h1.symm.trans h2)
  subst hcA
  refine ab_place (n0 := h0.length) hP1 hD1 hsz (by omega) fun hq hz => ?_
  subst hq
  have hP2 : va_P G.1 ab_cls (ab_wld G (h ++ [.inl (0, N, .inl (fun _ => 0))])) H1 := by rw [ab_wld_app]; exact hP1
  have w := kk.2.2 ls H1 locs (by omega) (by omega) hl ⟨hP2, by rw [hz, e1], fun q hq => (hS1.2.1 q (by omega) (Nat.not_le.mpr hq)).trans (hkp q hq)⟩ hS1
  rw [e1, e2, show h.length + 1 - h0.length = h.length - h0.length + 1 by omega, show ab_sz h + N - ab_sz h0 = ab_sz h - ab_sz h0 + N by omega] at w
  exact w
theorem ab_newlong {G : ab_G} {M : ab_M} {X : ab_X} {pc : Nat} {l : List (Nat × Value)} {st : List Value} {h : List ab_E} (hX : ab_Good G M X) {n : Int32} {N : Nat} (hm : decode M.2.1 pc = .ok (.newarray .long, 2)) (hw : Cond.arrayClass .long ∈ ab_Tg) (hn : ¬ n < 0) (hN : n.toNatClampNeg = N) (hb0 : N * 8 ≤ 536870912)
    (kk : ab_WA G M X (pc + 2) l (.ref h.length :: st) (h ++ [.inl (1, N, .inr (.inl (fun _ => 0)))])) : ab_WA G M X pc l (.int n :: st) h := by
  obtain ⟨p, e, R, s, m, args, below, meth, c, Q, h0⟩ := X
  obtain ⟨hx, hb, hml, hr, hlk, hown, hts, hal, hsz, hkp, hnm, hrf, hrl, hG⟩ := hX
  have e1 : (h ++ [(.inl (1, N, .inr (.inl (fun _ => 0))) : ab_E)]).length = h.length + 1 := by simp
  have e2 : ab_sz (h ++ [.inl (1, N, .inr (.inl (fun _ => 0)))]) = ab_sz h + N := ab_sz_app _ _
  have b1 := kk.1
  have b2 := kk.2.1
  rw [e1] at b1
  rw [e2] at b2
  refine ⟨by omega, by omega, fun ls H locs g1 g2 hl hR hS => ?_⟩
  have hK := va_K.moved hal hG.1
  refine va_newa (D := G.1) (atype := .long) (ty := .long) (a0 := (N, .inr (.inl (fun _ => 0)))) hx hb (hts _ hw) rfl hK hR.1 (ab_wld_D G h) hS (fun q hq => by show G.2.1 ≤ q; omega) (fun cA => rfl) hn hN hb0 (by omega) (by omega) hm fun q cA H1 hK1 hP1 hD1 hS1 => ?_
  have hcA : cA = G.2.2.2.1 1 := by
    have h1 : s.vm.findClass ("[" ++ FieldType.long.toString) = some cA := (hK1.2 4 (cA, .long) rfl).2
    have h2 : s.vm.findClass ("[" ++ FieldType.long.toString) = some (G.2.2.2.1 1) := (hK1.2 1 (G.2.2.2.1 1, .long) rfl).2
    exact Option.some.inj (h1.symm.trans h2)
  subst hcA
  refine ab_place (n0 := h0.length) hP1 hD1 hsz (by omega) fun hq hz => ?_
  subst hq
  have hP2 : va_P G.1 ab_cls (ab_wld G (h ++ [.inl (1, N, .inr (.inl (fun _ => 0)))])) H1 := by rw [ab_wld_app]; exact hP1
  have w := kk.2.2 ls H1 locs (by omega) (by omega) hl ⟨hP2, by rw [hz, e1], fun q hq => (hS1.2.1 q (by omega) (Nat.not_le.mpr hq)).trans (hkp q hq)⟩ hS1
  rw [e1, e2, show h.length + 1 - h0.length = h.length - h0.length + 1 by omega, show ab_sz h + N - ab_sz h0 = ab_sz h - ab_sz h0 + N by omega] at w
  exact w
theorem ab_anew {G : ab_G} {M : ab_M} {X : ab_X} {pc : Nat} {l : List (Nat × Value)} {st : List Value} {h : List ab_E} (hX : ab_Good G M X) {i t : Nat} {C : String} {n : Int32} {N : Nat} (hm : decode M.2.1 pc = .ok (.anewarray i, 3)) (ht : (t = 2 ∧ C = "java/lang/Object") ∨ (t = 3 ∧ C = "WitnessesMustLie$Shelf")) (hw1 : Cond.classLink M.1.cls i C ∈ ab_Tg) (hw2 : Cond.arrayOver (.object C) ∈ ab_Tg) (hn : ¬ n < 0) (hN : n.toNatClampNeg = N) (hb0 : N * 4 ≤ 536870912)
    (kk : ab_WA G M X (pc + 3) l (.ref h.length :: st) (h ++ [.inl (t, N, .inr (.inr (.inr (.inr (fun _ => none)))))])) : ab_WA G M X pc l (.int n :: st) h := by
  obtain ⟨p, e, R, s, m, args, below, meth, c, Q, h0⟩ := X
  obtain ⟨hx, hb, hml, hr, hlk, hown, hts, hal, hsz, hkp, hnm, hrf, hrl, hG⟩ := hX
  have e1 : (h ++ [(.inl (t, N, .inr (.inr (.inr (.inr (fun _ => none))))) : ab_E)]).length = h.length + 1 := by simp
  have e2 : ab_sz (h ++ [.inl (t, N, .inr (.inr (.inr (.inr (fun _ => none)))))]) = ab_sz h + N := ab_sz_app _ _
  have b1 := kk.1
  have b2 := kk.2.1
  rw [e1] at b1
  rw [e2] at b2
  refine ⟨by omega, by omega, fun ls H locs g1 g2 hl hR hS => ?_⟩
  have hK := va_K.moved hal hG.1
  refine va_newq (D := G.1) hx hb hown (hts _ hw1) (va_AO.of (hts _ hw2)) hK hR.1 (ab_wld_D G h) hS (fun q hq => by show G.2.1 ≤ q; omega) hn hN hb0 (by omega) (by omega) hm fun q cA H1 hK1 hP1 hD1 hS1 => ?_
  have hcA : cA = G.2.2.2.1 t := by
    obtain ⟨kA, comp, -, -, -, h1⟩ := (hK1.2 4 (cA, .object C) rfl).2
    rcases ht with ⟨rfl, rfl⟩ | ⟨rfl, rfl⟩
    · obtain ⟨kB, comp2, -, -, -, h2⟩ := (hK1.2 2 (G.2.2.2.1 2, .object "java/lang/Object") rfl).2
      exact Option.some.inj (h1.symm.trans h2)
    · obtain ⟨kB, comp2, -, -, -, h2⟩ := (hK1.2 3 (G.2.2.2.1 3, .object "WitnessesMustLie$Shelf") rfl).2
      exact Option.some.inj (h1.symm.trans h2)
  subst hcA
  refine ab_place (n0 := h0.length) hP1 hD1 hsz (by omega) fun hq hz => ?_
  subst hq
  have hP2 : va_P G.1 ab_cls (ab_wld G (h ++ [.inl (t, N, .inr (.inr (.inr (.inr (fun _ => none)))))])) H1 := by rw [ab_wld_app]; exact hP1
  have w := kk.2.2 ls H1 locs (by omega) (by omega) hl ⟨hP2, by rw [hz, e1], fun q hq => (hS1.2.1 q (by omega) (Nat.not_le.mpr hq)).trans (hkp q hq)⟩ hS1
  rw [e1, e2, show h.length + 1 - h0.length = h.length - h0.length + 1 by omega, show ab_sz h + N - ab_sz h0 = ab_sz h - ab_sz h0 + N by omega] at w
  exact w
end
section
/-! Rules for calls, casts, statics. -/
theorem ab_tg_good {ws : List Cond} (h : ∀ w ∈ ws, w ∈ ab_Tg) : GoodIn ab_Tg ws := fun w hw => ⟨h w hw, good_of_word (List.mem_filter.mp (h w hw)).2⟩
theorem ab_ws_in {Z : ab_M} (hc : Cond.code Z.1 Z.2.1 Z.2.2.1 Z.2.2.2.1 ∈ ab_Tg) : ∀ w ∈ ab_ws Z, w ∈ ab_Tg := fun w hw => (List.mem_cons.mp hw).elim (fun e => by rw [e]; exact hc) id
/-- what every call asks: the callee's code, its room, its arguments -/
def ab_c0 (M Z : ab_M) (n : Nat) : Prop := Cond.code Z.1 Z.2.1 Z.2.2.1 Z.2.2.2.1 ∈ ab_Tg ∧ Cond.initialized Z.1.cls ∈ ab_Tg ∧ (Z.1.cls ≠ "java/lang/invoke/MethodHandle" ∧ Z.1.cls ≠ "java/lang/invoke/VarHandle" ∧ (parseMethodDescriptor Z.1.desc).map (fun d => d.parameters.length) = some n) ∧ Z.2.2.2.2.1 + 1 ≤ M.2.2.2.2.1 ∧ 8 + (Z.2.2.1 + 11) + Z.2.2.2.2.2 ≤ M.2.2.2.2.2
section GO
variable {p : Program} {l : Launch} {e : Env} {R : Room} {s : State} {m : MethodId} {args : Array Value} {below : List Frame} {meth : Method} {c : Code} {H : Heap} {locs : List Loc} {cells slots mc ms pc : Nat} {Q : State → Prop} {ls : Array Slot} {rest st0 : List Value}
theorem ab_cont {G : ab_G} {h1 : List ab_E} {r : Option Value} {a : Array Value}
    (hr : va_Run p l e R s m args below meth c H locs cells slots mc ms (F0 m pc ls st0) rest (ab_Qc G r h1 a) (ab_A G)) (hS : va_S (ab_A G) s.heap H locs)
    (kk : ∀ (H1 : Heap) (locs1 : List Loc), ab_RH G h1 H1 → va_S (ab_A G) s.heap H1 locs1 → W p l e R s m args below meth c H1 locs1 (cells + mc) (slots + ms) Q (F0 m (pc + 3) ls ((r.map (ab_ren G)).toList ++ rest))) : W p l e R s m args below meth c H locs cells slots Q (F0 m pc ls st0) := by
  intro T hT X
  obtain ⟨v, st₀, t, T', L, e0, X', hL, e1, e2, ⟨hv, hru, hz, hk⟩, st⟩ := hr T hT X
  cases hv
  rw [e0] at hz hk
  obtain ⟨t2, a1, b1⟩ := kk T'.heap (locs ++ L) (by rw [e1]; exact hru.1)
    ⟨Nat.le_trans hS.1 (by rw [e1]; exact hz), fun q h1 h2 => by rw [e1, hk q (Nat.lt_of_lt_of_le h1 hS.1) h2]; exact hS.2.1 q h1 h2, fun q hq => by
      rcases List.mem_append.mp hq with h | h
      · exact hS.2.2 q h
      · exact hL q h⟩ T' rfl X'
  exact ⟨t2, st t2 a1, b1⟩
end GO
theorem ab_blind (G : ab_G) (av : List Value) (h : List ab_E) : FrameBlind (va_Pc av (ab_RU G h)) := fun a U g mk q => ⟨q.1, q.2.1, q.2.2⟩
theorem ab_pre {G : ab_G} {s : State} {H : Heap} {h : List ab_E} (av : List Value) (hR : ab_RH G h H) (hal : G.2.2.2.2.1.vm.Alike s.vm) : ∀ U : State, U.heap = H → s.WarmedH U.vm → va_Pc av (ab_RU G h) av.toArray U :=
  fun U hU hW => ⟨rfl, by rw [hU]; exact hR, hal.trans hW.alike⟩
theorem ab_rtl (G : ab_G) (r : Option Value) (rest : List Value) : (r.map (ab_ren G)).toList ++ rest.map (ab_ren G) = (r.toList ++ rest).map (ab_ren G) := by cases r <;> rfl
theorem ab_catsum (G : ab_G) (rest : List Value) : ((rest.map (ab_ren G)).map fun v => v.category).sum = (rest.map Value.category).sum := by
  rw [List.map_map]
  congr 1
  exact List.map_congr_left (fun v _ => ab_ren_cat G v)
/-- a static method: in the own class, or any of another class that isn't private, or a nest mate's -/
def ab_sS (M : ab_M) (i : Nat) (Z : ab_M) (n : Nat) : Prop := ab_c0 M Z n ∧ Cond.static Z.1 ∈ ab_Tg ∧ (Cond.methodLink M.1.cls i Z.1 ∈ ab_Tg ∨ ∃ host, Cond.methodLinkNest M.1.cls i Z.1 host ∈ ab_Tg)
theorem ab_callS {G : ab_G} {M : ab_M} {X : ab_X} {pc : Nat} {l : List (Nat × Value)} {st rest av : List Value} {h h1 : List ab_E} {Z : ab_M} {i n : Nat} {r : Option Value} (hX : ab_Good G M X) (hm : decode M.2.1 pc = .ok (.invokestatic i, 3)) (hs : ab_sS M i Z n) (hC : ab_CM G Z av h r h1) (hav : av.length = n) (hst : st = av.reverse ++ rest) (hW : (rest.map Value.category).sum ≤ 8)
    (kk : ab_WA G M X (pc + 3) l (r.toList ++ rest) h1) : ab_WA G M X pc l st h := by
  obtain ⟨p, e, R, s, m, args, below, meth, c, Q, h0⟩ := X
  obtain ⟨hx, hb, hml, hr, hlk, hown, hts, hal, hsz, hkp, hnm, hrf, hrl, hG⟩ := hX
  obtain ⟨⟨s1, s2, s3, s4, s5⟩, s6, s7⟩ := hs
  obtain ⟨c1, c2, hM⟩ := hC
  have b1 := kk.1
  have b2 := kk.2.1
  refine ⟨by omega, by omega, fun ls H locs g1 g2 hl hR hS => ?_⟩
  have hG1 := ab_tg_good (ab_ws_in s1)
  have hrm : (ab_room Z h h1).frames + 1 ≤ R.frames ∧ 8 + (Z.2.2.1 + 11) + (ab_room Z h h1).locals ≤ R.locals := ⟨by rw [hrf]; exact s4, by rw [hrl]; exact s5⟩
  have hstk : (F0 m pc ls (st.map (ab_ren G))).stack = (av.map (ab_ren G)).reverse ++ rest.map (ab_ren G) := by show st.map (ab_ren G) = _; rw [hst, List.map_append, List.map_reverse]
  have hW2 : 2 * (F0 m pc ls (st.map (ab_ren G))).monitorRoom + ((rest.map (ab_ren G)).map fun v => v.category).sum ≤ 8 := lv_room (by rw [ab_catsum]; exact hW)
  have hnn : (av.map (ab_ren G)).length = n := by rw [List.length_map]; exact hav
  have hf : (h.length - h0.length) + (h1.length - h.length) ≤ R.cells ∧ (ab_sz h - ab_sz h0) + (ab_sz h1 - ab_sz h) ≤ R.slots := ⟨by omega, by omega⟩
  have hrun : va_Run p G.2.2.2.2.2 e R s m args below meth c H locs (h.length - h0.length) (ab_sz h - ab_sz h0) (h1.length - h.length) (ab_sz h1 - ab_sz h) (F0 m pc ls (st.map (ab_ren G))) (rest.map (ab_ren G)) (ab_Qc G r h1 (av.map (ab_ren G)).toArray) (ab_A G) := by
    rcases s7 with s7 | ⟨host, s7⟩
    · exact va_runS (bytes := Z.2.1) (maxL := Z.2.2.1) (ret := Z.2.2.2.1) ⟨hx, hb, hml, hown, hts⟩ hM ⟨callB_of n hts hG1 rfl rfl rfl (hts _ s2) (hts _ s7) s3 hrm, hts _ s6⟩ ⟨ab_blind G _ h, ab_pre _ hR hal⟩ rfl hnn (hl.1) hstk hW2 hm hf
    · exact va_runSN (bytes := Z.2.1) (maxL := Z.2.2.1) (ret := Z.2.2.2.1) (host := host) ⟨hx, hb, hml, hown, hts⟩ hM ⟨va_cnB n hts hG1 rfl rfl rfl (va_Nw.of rfl (hts _ s7)) (hts _ s2) s3 hrm, hts _ s6, trivial⟩ ⟨ab_blind G _ h, ab_pre _ hR hal⟩ rfl hnn (hl.1) hstk hW2 hm hf
  refine ab_cont hrun hS fun H1 locs1 hR1 hS1 => ?_
  have w := kk.2.2 ls H1 locs1 (by omega) (by omega) hl hR1 hS1
  rw [ab_rtl, show h.length - h0.length + (h1.length - h.length) = h1.length - h0.length by omega, show ab_sz h - ab_sz h0 + (ab_sz h1 - ab_sz h) = ab_sz h1 - ab_sz h0 by omega]
  exact w
/-- a method of an object of class ci: exact, a nest mate's private one, inherited or overridden -/
def ab_sV (M : ab_M) (i ci : Nat) (Z : ab_M) (n : Nat) : Prop := ab_c0 M Z n ∧ Cond.instanceMethod Z.1 ∈ ab_Tg ∧ ∃ (C : String) (T : u_T) (N : Nat), ab_cls[ci]? = some (C, T, N) ∧
  ((Cond.methodLink M.1.cls i Z.1 ∈ ab_Tg ∧ Cond.selects C Z.1 Z.1 ∈ ab_Tg) ∨ (∃ host, Cond.methodLinkNest M.1.cls i Z.1 host ∈ ab_Tg ∧ Cond.selects C Z.1 Z.1 ∈ ab_Tg) ∨
   (∃ (x : MethodName) (owner : String) (b0 : ByteArray) (m0 : Nat) (r0 : Option FieldType), Cond.methodLink M.1.cls i x ∈ ab_Tg ∧ Cond.sameMethod x.cls owner x.name x.desc ∈ ab_Tg ∧ Cond.instanceMethod ⟨owner, x.name, x.desc⟩ ∈ ab_Tg ∧ Cond.code ⟨owner, x.name, x.desc⟩ b0 m0 r0 ∈ ab_Tg ∧ Cond.selects C x Z.1 ∈ ab_Tg ∧
     owner ≠ "java/lang/invoke/MethodHandle" ∧ owner ≠ "java/lang/invoke/VarHandle" ∧ x.desc = Z.1.desc))
theorem ab_callV {G : ab_G} {M : ab_M} {X : ab_X} {pc : Nat} {l : List (Nat × Value)} {st rest av : List Value} {h h1 : List ab_E} {Z : ab_M} {i n ci b : Nat} {fs : List Value} {r : Option Value} (hX : ab_Good G M X) (hm : decode M.2.1 pc = .ok (.invokevirtual i, 3)) (hc : h[b]? = some (.inr (ci, fs))) (hs : ab_sV M i ci Z n) (hC : ab_CM G Z (.ref b :: av) h r h1) (hav : av.length = n) (hst : st = av.reverse ++ .ref b :: rest) (hW : (rest.map Value.category).sum ≤ 8)
    (kk : ab_WA G M X (pc + 3) l (r.toList ++ rest) h1) : ab_WA G M X pc l st h := by
  obtain ⟨p, e, R, s, m, args, below, meth, c, Q, h0⟩ := X
  obtain ⟨hx, hb, hml, hr, hlk, hown, hts, hal, hsz, hkp, hnm, hrf, hrl, hG⟩ := hX
  obtain ⟨⟨s1, s2, s3, s4, s5⟩, s6, C, T, N, s7, s8⟩ := hs
  obtain ⟨c1, c2, hM⟩ := hC
  have b1 := kk.1
  have b2 := kk.2.1
  refine ⟨by omega, by omega, fun ls H locs g1 g2 hl hR hS => ?_⟩
  have hK := va_K.moved hal hG.1
  have hG1 := ab_tg_good (ab_ws_in s1)
  have hrm : (ab_room Z h h1).frames + 1 ≤ R.frames ∧ 8 + (Z.2.2.1 + 11) + (ab_room Z h h1).locals ≤ R.locals := ⟨by rw [hrf]; exact s4, by rw [hrl]; exact s5⟩
  have hstk : (F0 m pc ls (st.map (ab_ren G))).stack = (av.map (ab_ren G)).reverse ++ .ref (G.2.1 + b) :: rest.map (ab_ren G) := by show st.map (ab_ren G) = _; rw [hst, List.map_append, List.map_reverse]; rfl
  have hW2 : 2 * (F0 m pc ls (st.map (ab_ren G))).monitorRoom + ((rest.map (ab_ren G)).map fun v => v.category).sum ≤ 8 := lv_room (by rw [ab_catsum]; exact hW)
  have hnn : (av.map (ab_ren G)).length = n := by rw [List.length_map]; exact hav
  have hf : (h.length - h0.length) + (h1.length - h.length) ≤ R.cells ∧ (ab_sz h - ab_sz h0) + (ab_sz h1 - ab_sz h) ≤ R.slots := ⟨by omega, by omega⟩
  have he : (ab_wld G h)[b]? = some (G.2.1 + b, .inr (ci, fs.map (ab_ren G))) := ab_wld_get hc
  have hp : PreV s H C (G.2.1 + b) (va_Pc ((Value.ref b :: av).map (ab_ren G)) (ab_RU G h)) (av.map (ab_ren G)) := ⟨ab_blind G _ h, va_recv hK hR.1 s7 he, ab_pre ((Value.ref b :: av).map (ab_ren G)) hR hal⟩
  have hrun : va_Run p G.2.2.2.2.2 e R s m args below meth c H locs (h.length - h0.length) (ab_sz h - ab_sz h0) (h1.length - h.length) (ab_sz h1 - ab_sz h) (F0 m pc ls (st.map (ab_ren G))) (rest.map (ab_ren G)) (ab_Qc G r h1 ((Value.ref b :: av).map (ab_ren G)).toArray) (ab_A G) := by
    rcases s8 with ⟨s8, s9⟩ | ⟨host, s8, s9⟩ | ⟨x, owner, b0', m0, r0, t1, t2, t3, t4, t5, t6, t7, t8⟩
    · exact va_runV (bytes := Z.2.1) (maxL := Z.2.2.1) (ret := Z.2.2.2.1) (C := C) ⟨hx, hb, hml, hown, hts⟩ hM ⟨callB_of n hts hG1 rfl rfl rfl (hts _ s2) (hts _ s8) s3 hrm, hts _ s6, hts _ s9⟩ hp rfl hnn (hl.1) hstk hW2 hm hf
    · exact va_runVN (bytes := Z.2.1) (maxL := Z.2.2.1) (ret := Z.2.2.2.1) (C := C) (host := host) ⟨hx, hb, hml, hown, hts⟩ hM ⟨va_cnB n hts hG1 rfl rfl rfl (va_Nw.of rfl (hts _ s8)) (hts _ s2) s3 hrm, hts _ s6, hts _ s9⟩ hp rfl hnn (hl.1) hstk hW2 hm hf
    · refine va_runU (bytes := Z.2.1) (maxL := Z.2.2.1) (ret := Z.2.2.2.1) (C := C) (owner := owner) (x := x) ⟨hx, hb, hml, hown, hts⟩ hM ?_ hp rfl hnn (hl.1) hstk hW2 hm hf
      refine ⟨⟨rfl, rfl, hrm.1, hrm.2, pay_in hts hG1, List.mem_cons_self⟩, hts _ s1, hts _ s2, ⟨t6, t7⟩, fun sig hsig => ?_, hts _ t1, hts _ t2, va_Decl.of (hts _ t3) (hts _ t4), hts _ t5, hts _ s6⟩
      have h2 := s3.2.2
      rw [← t8, hsig] at h2
      exact (Option.some.inj h2).symm
  refine ab_cont hrun hS fun H1 locs1 hR1 hS1 => ?_
  have w := kk.2.2 ls H1 locs1 (by omega) (by omega) hl hR1 hS1
  rw [ab_rtl, show h.length - h0.length + (h1.length - h.length) = h1.length - h0.length by omega, show ab_sz h - ab_sz h0 + (ab_sz h1 - ab_sz h) = ab_sz h1 - ab_sz h0 by omega]
  exact w
/-- a constructor -/
def ab_sI (M : ab_M) (i : Nat) (Z : ab_M) (n : Nat) : Prop := ab_c0 M Z n ∧ Cond.instanceMethod Z.1 ∈ ab_Tg ∧ Z.1.name = "<init>" ∧ Z.2.2.2.1 = none ∧ (Cond.methodLink M.1.cls i Z.1 ∈ ab_Tg ∨ ∃ host, Cond.methodLinkNest M.1.cls i Z.1 host ∈ ab_Tg)
theorem ab_callI {G : ab_G} {M : ab_M} {X : ab_X} {pc : Nat} {l : List (Nat × Value)} {st rest av : List Value} {h h1 : List ab_E} {Z : ab_M} {i n b : Nat} (hX : ab_Good G M X) (hm : decode M.2.1 pc = .ok (.invokespecial i, 3)) (hs : ab_sI M i Z n) (hC : ab_CM G Z (.ref b :: av) h none h1) (hav : av.length = n) (hst : st = av.reverse ++ .ref b :: rest) (hW : (rest.map Value.category).sum ≤ 8)
    (kk : ab_WA G M X (pc + 3) l rest h1) : ab_WA G M X pc l st h := by
  obtain ⟨p, e, R, s, m, args, below, meth, c, Q, h0⟩ := X
  obtain ⟨hx, hb, hml, hr, hlk, hown, hts, hal, hsz, hkp, hnm, hrf, hrl, hG⟩ := hX
  obtain ⟨⟨s1, s2, s3, s4, s5⟩, s6, s7, s0, s8⟩ := hs
  rw [s0] at s1
  obtain ⟨c1, c2, hM⟩ := hC
  have b1 := kk.1
  have b2 := kk.2.1
  refine ⟨by omega, by omega, fun ls H locs g1 g2 hl hR hS => ?_⟩
  have hws : ab_ws Z = .code Z.1 Z.2.1 Z.2.2.1 none :: ab_Tg := by unfold ab_ws; rw [s0]
  have hG1 : GoodIn ab_Tg (ab_ws Z) := ab_tg_good (fun w hw => by
    rw [hws] at hw
    exact (List.mem_cons.mp hw).elim (fun e => by rw [e]; exact s1) id)
  have hrm : (ab_room Z h h1).frames + 1 ≤ R.frames ∧ 8 + (Z.2.2.1 + 11) + (ab_room Z h h1).locals ≤ R.locals := ⟨by rw [hrf]; exact s4, by rw [hrl]; exact s5⟩
  have hstk : (F0 m pc ls (st.map (ab_ren G))).stack = (av.map (ab_ren G)).reverse ++ .ref (G.2.1 + b) :: rest.map (ab_ren G) := by show st.map (ab_ren G) = _; rw [hst, List.map_append, List.map_reverse]; rfl
  have hW2 : 2 * (F0 m pc ls (st.map (ab_ren G))).monitorRoom + ((rest.map (ab_ren G)).map fun v => v.category).sum ≤ 8 := lv_room (by rw [ab_catsum]; exact hW)
  have hnn : (av.map (ab_ren G)).length = n := by rw [List.length_map]; exact hav
  have hf : (h.length - h0.length) + (h1.length - h.length) ≤ R.cells ∧ (ab_sz h - ab_sz h0) + (ab_sz h1 - ab_sz h) ≤ R.slots := ⟨by omega, by omega⟩
  have hp : PreS s H (va_Pc ((Value.ref b :: av).map (ab_ren G)) (ab_RU G h)) (.ref (G.2.1 + b) :: av.map (ab_ren G)) := ⟨ab_blind G _ h, ab_pre ((Value.ref b :: av).map (ab_ren G)) hR hal⟩
  have hrun : va_Run p G.2.2.2.2.2 e R s m args below meth c H locs (h.length - h0.length) (ab_sz h - ab_sz h0) (h1.length - h.length) (ab_sz h1 - ab_sz h) (F0 m pc ls (st.map (ab_ren G))) (rest.map (ab_ren G)) (ab_Qc G none h1 ((Value.ref b :: av).map (ab_ren G)).toArray) (ab_A G) := by
    rcases s8 with s8 | ⟨host, s8⟩
    · exact va_runI (bytes := Z.2.1) (maxL := Z.2.2.1) ⟨hx, hb, hml, hown, hts⟩ hM ⟨callB_of n hts hG1 hws rfl rfl (hts _ s2) (hts _ s8) s3 hrm, s7, hts _ s6⟩ hp rfl hnn (hl.1) hstk hW2 hm hf
    · exact va_runIN (bytes := Z.2.1) (maxL := Z.2.2.1) (host := host) ⟨hx, hb, hml, hown, hts⟩ hM ⟨va_cnB n hts hG1 hws rfl rfl (va_Nw.of rfl (hts _ s8)) (hts _ s2) s3 hrm, s7, hts _ s6⟩ hp rfl hnn (hl.1) hstk hW2 hm hf
  refine ab_cont hrun hS fun H1 locs1 hR1 hS1 => ?_
  have w := kk.2.2 ls H1 locs1 (by omega) (by omega) hl hR1 hS1
  rw [ab_rtl, show h.length - h0.length + (h1.length - h.length) = h1.length - h0.length by omega, show ab_sz h - ab_sz h0 + (ab_sz h1 - ab_sz h) = ab_sz h1 - ab_sz h0 by omega]
  exact w
/-- Object's constructor -/
theorem ab_objInit {G : ab_G} {M : ab_M} {X : ab_X} {pc : Nat} {l : List (Nat × Value)} {rest : List Value} {h : List ab_E} {i b : Nat} (hX : ab_Good G M X) (hm : decode M.2.1 pc = .ok (.invokespecial i, 3)) (hw : Cond.methodLink M.1.cls i objectInit ∈ ab_Tg ∧ Cond.instanceMethod objectInit ∈ ab_Tg ∧ Cond.code objectInit ⟨#[0xb1]⟩ 1 none ∈ ab_Tg) (hrm : 1 ≤ M.2.2.2.2.1 ∧ 20 ≤ M.2.2.2.2.2) (hW : (rest.map Value.category).sum ≤ 8)
    (kk : ab_WA G M X (pc + 3) l rest h) : ab_WA G M X pc l (.ref b :: rest) h := by
  obtain ⟨p, e, R, s, m, args, below, meth, c, Q, h0⟩ := X
  obtain ⟨hx, hb, hml, hr, hlk, hown, hts, hal, hsz, hkp, hnm, hrf, hrl, hG⟩ := hX
  refine ⟨kk.1, kk.2.1, fun ls H locs g1 g2 hl hR hS => ?_⟩
  have w := kk.2.2 ls H locs g1 g2 hl hR hS
  have e0 : ((rest.map (ab_ren G)).map fun v => v.category).sum ≤ 8 := by rw [ab_catsum]; exact hW
  refine W.objInit hx hb hown (hts _ hw.1) (hts _ hw.2.1) (hts _ hw.2.2) rfl (hl.1.trans hml.symm) rfl hm (by rw [hrf]; exact hrm.1) ?_ w
  have e1 : 2 * (F0 m pc ls ((Value.ref b :: rest).map (ab_ren G))).monitorRoom = 0 := rfl
  rw [e1, hrl]
  omega
/-- a superclass's method -/
def ab_sP (M : ab_M) (i : Nat) (Z : ab_M) (n : Nat) : Prop := ab_c0 M Z n ∧ Cond.instanceMethod Z.1 ∈ ab_Tg ∧ Z.1.name ≠ "<init>" ∧ Cond.methodLink M.1.cls i Z.1 ∈ ab_Tg ∧ Cond.sameMethod Z.1.cls Z.1.cls Z.1.name Z.1.desc ∈ ab_Tg ∧ Cond.superclass M.1.cls Z.1.cls ∈ ab_Tg
theorem ab_callP {G : ab_G} {M : ab_M} {X : ab_X} {pc : Nat} {l : List (Nat × Value)} {st rest av : List Value} {h h1 : List ab_E} {Z : ab_M} {i n ci b : Nat} {fs : List Value} {q : vw_C} {r : Option Value} (hX : ab_Good G M X) (hm : decode M.2.1 pc = .ok (.invokespecial i, 3)) (hc : h[b]? = some (.inr (ci, fs))) (hq : ab_cls[ci]? = some q) (hs : ab_sP M i Z n) (hC : ab_CM G Z (.ref b :: av) h r h1) (hav : av.length = n) (hst : st = av.reverse ++ .ref b :: rest) (hW : (rest.map Value.category).sum ≤ 8)
    (kk : ab_WA G M X (pc + 3) l (r.toList ++ rest) h1) : ab_WA G M X pc l st h := by
  obtain ⟨p, e, R, s, m, args, below, meth, c, Q, h0⟩ := X
  obtain ⟨hx, hb, hml, hr, hlk, hown, hts, hal, hsz, hkp, hnm, hrf, hrl, hG⟩ := hX
  obtain ⟨⟨s1, s2, s3, s4, s5⟩, s6, s7, s8, s9, s10⟩ := hs
  obtain ⟨c1, c2, hM⟩ := hC
  have b1 := kk.1
  have b2 := kk.2.1
  refine ⟨by omega, by omega, fun ls H locs g1 g2 hl hR hS => ?_⟩
  have hK := va_K.moved hal hG.1
  have hG1 := ab_tg_good (ab_ws_in s1)
  have hrm : (ab_room Z h h1).frames + 1 ≤ R.frames ∧ 8 + (Z.2.2.1 + 11) + (ab_room Z h h1).locals ≤ R.locals := ⟨by rw [hrf]; exact s4, by rw [hrl]; exact s5⟩
  have hstk : (F0 m pc ls (st.map (ab_ren G))).stack = (av.map (ab_ren G)).reverse ++ .ref (G.2.1 + b) :: rest.map (ab_ren G) := by show st.map (ab_ren G) = _; rw [hst, List.map_append, List.map_reverse]; rfl
  have hW2 : 2 * (F0 m pc ls (st.map (ab_ren G))).monitorRoom + ((rest.map (ab_ren G)).map fun v => v.category).sum ≤ 8 := lv_room (by rw [ab_catsum]; exact hW)
  have hnn : (av.map (ab_ren G)).length = n := by rw [List.length_map]; exact hav
  have hf : (h.length - h0.length) + (h1.length - h.length) ≤ R.cells ∧ (ab_sz h - ab_sz h0) + (ab_sz h1 - ab_sz h) ≤ R.slots := ⟨by omega, by omega⟩
  have he : (ab_wld G h)[b]? = some (G.2.1 + b, .inr (ci, fs.map (ab_ren G))) := ab_wld_get hc
  have hp : PreV s H q.1 (G.2.1 + b) (va_Pc ((Value.ref b :: av).map (ab_ren G)) (ab_RU G h)) (av.map (ab_ren G)) := ⟨ab_blind G _ h, va_recv hK hR.1 hq he, ab_pre ((Value.ref b :: av).map (ab_ren G)) hR hal⟩
  have hrun : va_Run p G.2.2.2.2.2 e R s m args below meth c H locs (h.length - h0.length) (ab_sz h - ab_sz h0) (h1.length - h.length) (ab_sz h1 - ab_sz h) (F0 m pc ls (st.map (ab_ren G))) (rest.map (ab_ren G)) (ab_Qc G r h1 ((Value.ref b :: av).map (ab_ren G)).toArray) (ab_A G) :=
    va_runSU (bytes := Z.2.1) (maxL := Z.2.2.1) (ret := Z.2.2.2.1) (C := q.1) (hK.1 ci q hq).2 ⟨hx, hb, hml, hown, hts⟩ hM ⟨⟨rfl, rfl, hrm.1, hrm.2, pay_in hts hG1, List.mem_cons_self⟩, hts _ s8, hts _ s9, hts _ s10, hts _ s6, hts _ s2, hts _ s1, s7, fun sig hsig => by
      have h2 := s3.2.2
      rw [hsig] at h2
      exact (Option.some.inj h2).symm⟩ hp rfl hnn (hl.1) hstk hW2 hm hf
  refine ab_cont hrun hS fun H1 locs1 hR1 hS1 => ?_
  have w := kk.2.2 ls H1 locs1 (by omega) (by omega) hl hR1 hS1
  rw [ab_rtl, show h.length - h0.length + (h1.length - h.length) = h1.length - h0.length by omega, show ab_sz h - ab_sz h0 + (ab_sz h1 - ab_sz h) = ab_sz h1 - ab_sz h0 by omega]
  exact w
/-- checkcast of an object of class ci -/
theorem ab_cast {G : ab_G} {M : ab_M} {X : ab_X} {pc : Nat} {l : List (Nat × Value)} {st : List Value} {h : List ab_E} {i ci a : Nat} {fs : List Value} {q : vw_C} {nm : String} (hX : ab_Good G M X) (hm : decode M.2.1 pc = .ok (.checkcast i, 3)) (hc : h[a]? = some (.inr (ci, fs))) (hq : ab_cls[ci]? = some q) (hw : Cond.classLink M.1.cls i nm ∈ ab_Tg ∧ Cond.castable q.1 nm ∈ ab_Tg)
    (kk : ab_WA G M X (pc + 3) l (.ref a :: st) h) : ab_WA G M X pc l (.ref a :: st) h := by
  obtain ⟨p, e, R, s, m, args, below, meth, c, Q, h0⟩ := X
  obtain ⟨hx, hb, hml, hr, hlk, hown, hts, hal, hsz, hkp, hnm, hrf, hrl, hG⟩ := hX
  refine ⟨kk.1, kk.2.1, fun ls H locs g1 g2 hl hR hS => ?_⟩
  have w := kk.2.2 ls H locs g1 g2 hl hR hS
  have hK := va_K.moved hal hG.1
  have he : (ab_wld G h)[a]? = some (G.2.1 + a, .inr (ci, fs.map (ab_ren G))) := ab_wld_get hc
  exact va_castY hx hb hown (hts _ hw.1) (va_Nw.of rfl (hts _ hw.2)) (va_recv hK hR.1 hq he) hm w
/-- a static that holds an array of before -/
theorem ab_getstatic {G : ab_G} {M : ab_M} {X : ab_X} {pc : Nat} {l : List (Nat × Value)} {st : List Value} {h : List ab_E} {i : Nat} {C n d : String} (j : Nat) (hj : j < 4) (hX : ab_Good G M X) (hm : decode M.2.1 pc = .ok (.getstatic i, 3)) (hw : Cond.fieldLink M.1.cls i C n d ∈ ab_Tg) (hZ : ab_GG G → ab_St G C n d j)
    (kk : ab_WA G M X (pc + 3) l (.float (UInt32.ofNat j) :: st) h) : ab_WA G M X pc l st h := by
  obtain ⟨p, e, R, s, m, args, below, meth, c, Q, h0⟩ := X
  obtain ⟨hx, hb, hml, hr, hlk, hown, hts, hal, hsz, hkp, hnm, hrf, hrl, hG⟩ := hX
  refine ⟨kk.1, kk.2.1, fun ls H locs g1 g2 hl hR hS => ?_⟩
  have w := kk.2.2 ls H locs g1 g2 hl hR hS
  have e1 : ab_ren G (.float (UInt32.ofNat j)) = .ref (G.2.2.1 j) := by
    match j, hj with
    | 0, _ => rfl
    | 1, _ => rfl
    | 2, _ => rfl
    | 3, _ => rfl
  have hz0 := (hZ hG).1
  have hz1 : va_Z C n d (.ref (G.2.2.1 j)) (ab_A G) s s.heap := by
    refine va_Z.kept (va_Z.moved hal hz0) (fun q _ hq => hkp q (Nat.not_le.mp hq))
  refine va_gets hx hb hz1 hS hown (hts _ hw) (fun _ hh => hh) hm ?_
  rw [List.map_cons, e1] at w
  exact w
theorem ab_wlen {G : ab_G} {M : ab_M} {X : ab_X} {pc : Nat} {l : List (Nat × Value)} {st : List Value} {h : List ab_E} (hX : ab_Good G M X) (hm : decode M.2.1 pc = .ok (.arraylength, 1))
    (kk : ab_WA G M X (pc + 1) l (.int 6 :: st) h) : ab_WA G M X pc l (.float 2 :: st) h := by
  obtain ⟨p, e, R, s, m, args, below, meth, c, Q, h0⟩ := X
  obtain ⟨hx, hb, hml, hr, hlk, hown, hts, hal, hsz, hkp, hnm, hrf, hrl, hG⟩ := hX
  refine ⟨kk.1, kk.2.1, fun ls H locs g1 g2 hl hR hS => ?_⟩
  have w := kk.2.2 ls H locs g1 g2 hl hR hS
  obtain ⟨cell, t1, t2, t3, t4, t5, t6, t7⟩ := hG.2.2.2.2.2
  have hlt : G.2.2.1 2 < G.2.1 := Nat.not_le.mp t7
  exact W.alen hx hb (cell := cell) (ty := .long) ((hR.2.2 _ hlt).trans t1) (State.isArrayOf_alike hal t2) t5 rfl rfl hm w
theorem ab_wload {G : ab_G} {M : ab_M} {X : ab_X} {pc : Nat} {l : List (Nat × Value)} {st : List Value} {h : List ab_E} {i : Int32} (hX : ab_Good G M X) (hm : decode M.2.1 pc = .ok (.laload, 1)) (hin : vp_in i 6)
    (kk : ab_WA G M X (pc + 1) l (.long (ab_wv i.toNatClampNeg) :: st) h) : ab_WA G M X pc l (.int i :: .float 2 :: st) h := by
  obtain ⟨p, e, R, s, m, args, below, meth, c, Q, h0⟩ := X
  obtain ⟨hx, hb, hml, hr, hlk, hown, hts, hal, hsz, hkp, hnm, hrf, hrl, hG⟩ := hX
  refine ⟨kk.1, kk.2.1, fun ls H locs g1 g2 hl hR hS => ?_⟩
  have w := kk.2.2 ls H locs g1 g2 hl hR hS
  have hT : va_T .long (G.2.2.1 2) 6 (fun j => .long (ab_wv j)) (ab_A G) s s.heap := va_T.kept (va_T.moved hal hG.2.2.2.2.2) (fun q _ hq => hkp q (Nat.not_le.mp hq))
  exact va_tl hx hb hT hS hin rfl hm w
/-- the static empty array has no places -/
theorem ab_elen {G : ab_G} {M : ab_M} {X : ab_X} {pc : Nat} {l : List (Nat × Value)} {st : List Value} {h : List ab_E} (hX : ab_Good G M X) (hm : decode M.2.1 pc = .ok (.arraylength, 1))
    (kk : ab_WA G M X (pc + 1) l (.int 0 :: st) h) : ab_WA G M X pc l (.float 0 :: st) h := by
  obtain ⟨p, e, R, s, m, args, below, meth, c, Q, h0⟩ := X
  obtain ⟨hx, hb, hml, hr, hlk, hown, hts, hal, hsz, hkp, hnm, hrf, hrl, hG⟩ := hX
  refine ⟨kk.1, kk.2.1, fun ls H locs g1 g2 hl hR hS => ?_⟩
  have w := kk.2.2 ls H locs g1 g2 hl hR hS
  obtain ⟨cell, t1, t2, t3⟩ := hG.2.2.2.1
  exact W.alen hx hb (cell := cell) (ty := .object "java/lang/Object") ((hR.2.2 _ hG.2.2.1.2).trans t1) (State.isArrayOf_alike hal t2) t3 rfl rfl hm w
/-- the script -/
theorem ab_slen2 {G : ab_G} {M : ab_M} {X : ab_X} {pc : Nat} {l : List (Nat × Value)} {st : List Value} {h : List ab_E} {L : Nat} {xs : Nat → Int32} (hX : ab_Good G M X) (hsc : va_X (G.2.2.1 1) L xs G.2.2.2.2.1 G.2.2.2.2.1.heap ∧ G.2.2.1 1 < G.2.1) (hm : decode M.2.1 pc = .ok (.arraylength, 1))
    (kk : ab_WA G M X (pc + 1) l (.int (nI L) :: st) h) : ab_WA G M X pc l (.float 1 :: st) h := by
  obtain ⟨p, e, R, s, m, args, below, meth, c, Q, h0⟩ := X
  obtain ⟨hx, hb, hml, hr, hlk, hown, hts, hal, hsz, hkp, hnm, hrf, hrl, hG⟩ := hX
  refine ⟨kk.1, kk.2.1, fun ls H locs g1 g2 hl hR hS => ?_⟩
  have w := kk.2.2 ls H locs g1 g2 hl hR hS
  obtain ⟨cell, t1, t2, t3, t4, t5⟩ := hsc.1
  exact W.alen hx hb (cell := cell) (ty := .int) ((hR.2.2 _ hsc.2).trans t1) (State.isArrayOf_alike hal t2) (by rw [t4]; rfl) rfl rfl hm w
theorem ab_sload {G : ab_G} {M : ab_M} {X : ab_X} {pc : Nat} {l : List (Nat × Value)} {st : List Value} {h : List ab_E} {L : Nat} {xs : Nat → Int32} {i : Int32} (hX : ab_Good G M X) (hsc : va_X (G.2.2.1 1) L xs G.2.2.2.2.1 G.2.2.2.2.1.heap ∧ G.2.2.1 1 < G.2.1) (hm : decode M.2.1 pc = .ok (.iaload, 1)) (hin : vp_in i L)
    (kk : ab_WA G M X (pc + 1) l (.int (xs i.toNatClampNeg) :: st) h) : ab_WA G M X pc l (.int i :: .float 1 :: st) h := by
  obtain ⟨p, e, R, s, m, args, below, meth, c, Q, h0⟩ := X
  obtain ⟨hx, hb, hml, hr, hlk, hown, hts, hal, hsz, hkp, hnm, hrf, hrl, hG⟩ := hX
  refine ⟨kk.1, kk.2.1, fun ls H locs g1 g2 hl hR hS => ?_⟩
  have w := kk.2.2 ls H locs g1 g2 hl hR hS
  have hXs : va_X (G.2.2.1 1) L xs s s.heap := va_X.kept (va_X.moved hal hsc.1) (hkp _ hsc.2)
  exact va_sld hx hb hXs (by omega) (fun z => absurd hsc.2 (Nat.not_lt.mpr z)) hS hin hm w
end
