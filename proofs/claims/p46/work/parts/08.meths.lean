/-! the methods and the sites of their calls and fields: by program -/
abbrev mX0_init : ab_M := (yX0_init, cX0_init, 2, (Option.none : Option Jvm.ClassFile.FieldType), 3, 62)
abbrev mX0_trueWorlds : ab_M := (yX0_trueWorlds, cX0_trueWorlds, 7, (Option.some Jvm.ClassFile.FieldType.long), 0, 0)
abbrev mX0_words : ab_M := (yX0_words, cX0_words, 2, (Option.some Jvm.ClassFile.FieldType.int), 2, 42)
abbrev mX1_init : ab_M := (yX1_init, cX1_init, 2, (Option.none : Option Jvm.ClassFile.FieldType), 2, 41)
abbrev mX1_trueWorlds : ab_M := (yX1_trueWorlds, cX1_trueWorlds, 7, (Option.some Jvm.ClassFile.FieldType.long), 0, 0)
abbrev mX1_words : ab_M := (yX1_words, cX1_words, 2, (Option.some Jvm.ClassFile.FieldType.int), 1, 21)
abbrev mX1_facts : ab_M := (yX1_facts, cX1_facts, 4, (Option.some Jvm.ClassFile.FieldType.int), 2, 43)
abbrev mX2_init : ab_M := (yX2_init, cX2_init, 2, (Option.none : Option Jvm.ClassFile.FieldType), 2, 41)
abbrev mX2_trueWorlds : ab_M := (yX2_trueWorlds, cX2_trueWorlds, 7, (Option.some Jvm.ClassFile.FieldType.long), 0, 0)
abbrev mX2_words : ab_M := (yX2_words, cX2_words, 2, (Option.some Jvm.ClassFile.FieldType.int), 1, 21)
abbrev mX3_init : ab_M := (yX3_init, cX3_init, 2, (Option.none : Option Jvm.ClassFile.FieldType), 3, 62)
abbrev mX3_trueWorlds : ab_M := (yX3_trueWorlds, cX3_trueWorlds, 7, (Option.some Jvm.ClassFile.FieldType.long), 0, 0)
abbrev mX3_words : ab_M := (yX3_words, cX3_words, 2, (Option.some Jvm.ClassFile.FieldType.int), 2, 42)
abbrev mX4_init : ab_M := (yX4_init, cX4_init, 2, (Option.none : Option Jvm.ClassFile.FieldType), 3, 62)
abbrev mX4_trueWorlds : ab_M := (yX4_trueWorlds, cX4_trueWorlds, 7, (Option.some Jvm.ClassFile.FieldType.long), 0, 0)
abbrev mX4_words : ab_M := (yX4_words, cX4_words, 2, (Option.some Jvm.ClassFile.FieldType.int), 2, 42)
abbrev mX5_init : ab_M := (yX5_init, cX5_init, 2, (Option.none : Option Jvm.ClassFile.FieldType), 4, 83)
abbrev mX5_trueWorlds : ab_M := (yX5_trueWorlds, cX5_trueWorlds, 7, (Option.some Jvm.ClassFile.FieldType.long), 0, 0)
abbrev mX5_words : ab_M := (yX5_words, cX5_words, 2, (Option.some Jvm.ClassFile.FieldType.int), 3, 63)
abbrev mX6_init : ab_M := (yX6_init, cX6_init, 2, (Option.none : Option Jvm.ClassFile.FieldType), 4, 83)
abbrev mX6_trueWorlds : ab_M := (yX6_trueWorlds, cX6_trueWorlds, 7, (Option.some Jvm.ClassFile.FieldType.long), 0, 0)
abbrev mX6_words : ab_M := (yX6_words, cX6_words, 2, (Option.some Jvm.ClassFile.FieldType.int), 3, 63)
abbrev mX6_facts : ab_M := (yX6_facts, cX6_facts, 4, (Option.some Jvm.ClassFile.FieldType.int), 3, 66)
abbrev mX7_init : ab_M := (yX7_init, cX7_init, 8, (Option.none : Option Jvm.ClassFile.FieldType), 1, 20)
abbrev mX7_told : ab_M := (yX7_told, cX7_told, 2, (Option.some Jvm.ClassFile.FieldType.int), 5, 109)
abbrev mX7_words : ab_M := (yX7_words, cX7_words, 1, (Option.some Jvm.ClassFile.FieldType.int), 4, 84)
abbrev mX7_facts : ab_M := (yX7_facts, cX7_facts, 1, (Option.some Jvm.ClassFile.FieldType.int), 4, 89)
abbrev mX8_init : ab_M := (yX8_init, cX8_init, 2, (Option.none : Option Jvm.ClassFile.FieldType), 1, 20)
abbrev mX8_worldsOf : ab_M := (yX8_worldsOf, cX8_worldsOf, 4, (Option.some Jvm.ClassFile.FieldType.long), 1, 26)
abbrev mX8_trueWorlds : ab_M := (yX8_trueWorlds, cX8_trueWorlds, 7, (Option.some Jvm.ClassFile.FieldType.long), 0, 0)
abbrev mX8_words : ab_M := (yX8_words, cX8_words, 2, (Option.some Jvm.ClassFile.FieldType.int), 0, 0)
abbrev mX8_facts : ab_M := (yX8_facts, cX8_facts, 4, (Option.some Jvm.ClassFile.FieldType.int), 1, 20)
abbrev mX9_init : ab_M := (yX9_init, cX9_init, 2, (Option.none : Option Jvm.ClassFile.FieldType), 1, 20)
abbrev mX9_holdNothing : ab_M := (yX9_holdNothing, cX9_holdNothing, 1, (Option.none : Option Jvm.ClassFile.FieldType), 0, 0)
abbrev mX9_holdSaying : ab_M := (yX9_holdSaying, cX9_holdSaying, 3, (Option.none : Option Jvm.ClassFile.FieldType), 0, 0)
abbrev mX9_holdRow : ab_M := (yX9_holdRow, cX9_holdRow, 4, (Option.none : Option Jvm.ClassFile.FieldType), 0, 0)
abbrev mX9_isEmpty : ab_M := (yX9_isEmpty, cX9_isEmpty, 1, (Option.some Jvm.ClassFile.FieldType.boolean), 0, 0)
abbrev mX9_refusalAsSaying : ab_M := (yX9_refusalAsSaying, cX9_refusalAsSaying, 1, (Option.some Jvm.ClassFile.FieldType.int), 2, 41)
abbrev mX9_refusalAsRow : ab_M := (yX9_refusalAsRow, cX9_refusalAsRow, 1, (Option.some Jvm.ClassFile.FieldType.int), 2, 41)
abbrev mX9_refusalUnless : ab_M := (yX9_refusalUnless, cX9_refusalUnless, 2, (Option.some Jvm.ClassFile.FieldType.int), 1, 20)
abbrev mX9_worldsOf : ab_M := (yX9_worldsOf, cX9_worldsOf, 3, (Option.some Jvm.ClassFile.FieldType.long), 2, 49)
abbrev mX9_hasPlaces : ab_M := (yX9_hasPlaces, cX9_hasPlaces, 3, (Option.some Jvm.ClassFile.FieldType.boolean), 0, 0)
abbrev mX9_numberAt : ab_M := (yX9_numberAt, cX9_numberAt, 2, (Option.some Jvm.ClassFile.FieldType.int), 1, 22)
abbrev mX9_setNumber : ab_M := (yX9_setNumber, cX9_setNumber, 3, (Option.some Jvm.ClassFile.FieldType.boolean), 1, 22)
abbrev mX9_lowestBits : ab_M := (yX9_lowestBits, cX9_lowestBits, 2, (Option.some Jvm.ClassFile.FieldType.int), 0, 0)
abbrev mX10_init : ab_M := (yX10_init, cX10_init, 1, (Option.none : Option Jvm.ClassFile.FieldType), 4, 80)
abbrev mX10_becomes : ab_M := (yX10_becomes, cX10_becomes, 3, (Option.none : Option Jvm.ClassFile.FieldType), 6, 130)
abbrev mX10_refill : ab_M := (yX10_refill, cX10_refill, 3, (Option.none : Option Jvm.ClassFile.FieldType), 5, 108)
abbrev mX10_hasWitness : ab_M := (yX10_hasWitness, cX10_hasWitness, 2, (Option.some Jvm.ClassFile.FieldType.boolean), 0, 0)
abbrev mX10_knownBy : ab_M := (yX10_knownBy, cX10_knownBy, 2, (Option.some Jvm.ClassFile.FieldType.int), 0, 0)
abbrev mX10_addLaw : ab_M := (yX10_addLaw, cX10_addLaw, 2, (Option.some Jvm.ClassFile.FieldType.boolean), 5, 108)
abbrev mX10_addSaid : ab_M := (yX10_addSaid, cX10_addSaid, 2, (Option.some Jvm.ClassFile.FieldType.boolean), 5, 108)
abbrev mX10_addWitness : ab_M := (yX10_addWitness, cX10_addWitness, 2, (Option.some Jvm.ClassFile.FieldType.boolean), 1, 20)
abbrev mX10_setTruth : ab_M := (yX10_setTruth, cX10_setTruth, 2, (Option.some Jvm.ClassFile.FieldType.boolean), 1, 20)
abbrev mX10_mayBe : ab_M := (yX10_mayBe, cX10_mayBe, 4, (Option.some Jvm.ClassFile.FieldType.long), 3, 64)
abbrev mX10_left : ab_M := (yX10_left, cX10_left, 1, (Option.some Jvm.ClassFile.FieldType.long), 4, 90)
abbrev mX10_mayBeOrLeft : ab_M := (yX10_mayBeOrLeft, cX10_mayBeOrLeft, 2, (Option.some Jvm.ClassFile.FieldType.long), 5, 110)
abbrev mX10_leftBySaid : ab_M := (yX10_leftBySaid, cX10_leftBySaid, 7, (Option.some Jvm.ClassFile.FieldType.long), 3, 64)
abbrev mX10_leftByTellers : ab_M := (yX10_leftByTellers, cX10_leftByTellers, 4, (Option.some Jvm.ClassFile.FieldType.long), 4, 90)
abbrev mX10_isPlainBy : ab_M := (yX10_isPlainBy, cX10_isPlainBy, 2, (Option.some Jvm.ClassFile.FieldType.boolean), 5, 113)
abbrev mX10_trueOnes : ab_M := (yX10_trueOnes, cX10_trueOnes, 4, (Option.some Jvm.ClassFile.FieldType.int), 3, 64)
abbrev mX10_wordsSaid : ab_M := (yX10_wordsSaid, cX10_wordsSaid, 3, (Option.some Jvm.ClassFile.FieldType.int), 5, 104)
abbrev mX10_reachedFrom : ab_M := (yX10_reachedFrom, cX10_reachedFrom, 9, (Option.some Jvm.ClassFile.FieldType.long), 2, 46)
abbrev mX11_init : ab_M := (yX11_init, cX11_init, 3, (Option.none : Option Jvm.ClassFile.FieldType), 5, 108)
abbrev mX11_trial : ab_M := (yX11_trial, cX11_trial, 5, (Option.some Jvm.ClassFile.FieldType.int), 8, 175)
abbrev mX11_law : ab_M := (yX11_law, cX11_law, 4, (Option.some Jvm.ClassFile.FieldType.int), 6, 130)
abbrev mX11_said : ab_M := (yX11_said, cX11_said, 4, (Option.some Jvm.ClassFile.FieldType.int), 6, 130)
abbrev mX11_knows : ab_M := (yX11_knows, cX11_knows, 2, (Option.some Jvm.ClassFile.FieldType.int), 1, 21)
abbrev mX11_rules : ab_M := (yX11_rules, cX11_rules, 7, (Option.some Jvm.ClassFile.FieldType.int), 6, 129)
abbrev mX11_says : ab_M := (yX11_says, cX11_says, 8, (Option.some Jvm.ClassFile.FieldType.int), 6, 129)
abbrev mX11_unsays : ab_M := (yX11_unsays, cX11_unsays, 2, (Option.some Jvm.ClassFile.FieldType.int), 3, 66)
abbrev mX11_witness : ab_M := (yX11_witness, cX11_witness, 2, (Option.some Jvm.ClassFile.FieldType.int), 2, 41)
abbrev mX11_truth : ab_M := (yX11_truth, cX11_truth, 3, (Option.some Jvm.ClassFile.FieldType.int), 1, 20)
abbrev mX11_worlds : ab_M := (yX11_worlds, cX11_worlds, 2, (Option.some Jvm.ClassFile.FieldType.long), 6, 131)
abbrev mX11_many : ab_M := (yX11_many, cX11_many, 2, (Option.some Jvm.ClassFile.FieldType.int), 6, 131)
abbrev mX11_proved : ab_M := (yX11_proved, cX11_proved, 2, (Option.some Jvm.ClassFile.FieldType.int), 5, 110)
abbrev mX11_slips : ab_M := (yX11_slips, cX11_slips, 3, (Option.some Jvm.ClassFile.FieldType.int), 4, 87)
abbrev mX11_alone : ab_M := (yX11_alone, cX11_alone, 3, (Option.some Jvm.ClassFile.FieldType.int), 4, 87)
abbrev mX11_clash : ab_M := (yX11_clash, cX11_clash, 9, (Option.some Jvm.ClassFile.FieldType.int), 4, 87)
abbrev mX11_proof : ab_M := (yX11_proof, cX11_proof, 8, (Option.some Jvm.ClassFile.FieldType.int), 4, 90)
abbrev mX11_slipped : ab_M := (yX11_slipped, cX11_slipped, 8, (Option.some Jvm.ClassFile.FieldType.int), 4, 87)
abbrev mX11_ask : ab_M := (yX11_ask, cX11_ask, 8, (Option.some Jvm.ClassFile.FieldType.int), 5, 110)
abbrev mX11_plain : ab_M := (yX11_plain, cX11_plain, 5, (Option.some Jvm.ClassFile.FieldType.int), 6, 134)
abbrev mX11_order : ab_M := (yX11_order, cX11_order, 3, (Option.some Jvm.ClassFile.FieldType.int), 7, 158)
abbrev mX11_without : ab_M := (yX11_without, cX11_without, 4, (Option.some Jvm.ClassFile.FieldType.int), 5, 113)
abbrev mX11_lie : ab_M := (yX11_lie, cX11_lie, 10, (Option.some Jvm.ClassFile.FieldType.int), 6, 131)
abbrev mX11_tells : ab_M := (yX11_tells, cX11_tells, 6, (Option.some Jvm.ClassFile.FieldType.int), 5, 110)
abbrev mX11_verdict : ab_M := (yX11_verdict, cX11_verdict, 3, (Option.some Jvm.ClassFile.FieldType.int), 5, 109)
abbrev mX11_certain : ab_M := (yX11_certain, cX11_certain, 2, (Option.some Jvm.ClassFile.FieldType.int), 5, 110)
abbrev mX11_knowsOf : ab_M := (yX11_knowsOf, cX11_knowsOf, 9, (Option.some Jvm.ClassFile.FieldType.int), 5, 110)
abbrev mX11_allKnow : ab_M := (yX11_allKnow, cX11_allKnow, 7, (Option.some Jvm.ClassFile.FieldType.int), 5, 110)
abbrev mX11_seeds : ab_M := (yX11_seeds, cX11_seeds, 15, (Option.some Jvm.ClassFile.FieldType.int), 5, 111)
abbrev mX11_image : ab_M := (yX11_image, cX11_image, 1, (Option.some Jvm.ClassFile.FieldType.int), 7, 152)
abbrev mX11_restore : ab_M := (yX11_restore, cX11_restore, 1, (Option.some Jvm.ClassFile.FieldType.int), 7, 152)
abbrev mX11_count : ab_M := (yX11_count, cX11_count, 2, (Option.some Jvm.ClassFile.FieldType.int), 6, 126)
abbrev mX11_keep : ab_M := (yX11_keep, cX11_keep, 7, (Option.some Jvm.ClassFile.FieldType.int), 4, 85)
abbrev mX11_row : ab_M := (yX11_row, cX11_row, 5, (Option.some Jvm.ClassFile.FieldType.int), 1, 23)
abbrev mX11_put : ab_M := (yX11_put, cX11_put, 6, (Option.some Jvm.ClassFile.FieldType.int), 3, 61)
abbrev mX11_element : ab_M := (yX11_element, cX11_element, 4, (Option.some Jvm.ClassFile.FieldType.long), 3, 61)
abbrev mX11_isFact : ab_M := (yX11_isFact, cX11_isFact, 1, (Option.some Jvm.ClassFile.FieldType.boolean), 0, 0)
abbrev mX11_areFacts : ab_M := (yX11_areFacts, cX11_areFacts, 1, (Option.some Jvm.ClassFile.FieldType.boolean), 0, 0)
abbrev mX11_isWorld : ab_M := (yX11_isWorld, cX11_isWorld, 1, (Option.some Jvm.ClassFile.FieldType.boolean), 0, 0)
abbrev mX11_isEitherOr : ab_M := (yX11_isEitherOr, cX11_isEitherOr, 1, (Option.some Jvm.ClassFile.FieldType.boolean), 0, 0)
abbrev mX11_oneIf : ab_M := (yX11_oneIf, cX11_oneIf, 1, (Option.some Jvm.ClassFile.FieldType.int), 0, 0)
abbrev mX11_refusedLong : ab_M := (yX11_refusedLong, cX11_refusedLong, 1, (Option.some Jvm.ClassFile.FieldType.long), 0, 0)
abbrev mX11_shelfAt : ab_M := (yX11_shelfAt, cX11_shelfAt, 2, (Option.some (Jvm.ClassFile.FieldType.object "WitnessesMustLie$Shelf")), 0, 0)
abbrev mX11_kindNumbered : ab_M := (yX11_kindNumbered, cX11_kindNumbered, 2, (Option.some (Jvm.ClassFile.FieldType.object "WitnessesMustLie$Says")), 3, 64)
abbrev mX11_sayingIn : ab_M := (yX11_sayingIn, cX11_sayingIn, 2, (Option.some (Jvm.ClassFile.FieldType.object "WitnessesMustLie$Saying")), 3, 64)
abbrev mX11_newSaying : ab_M := (yX11_newSaying, cX11_newSaying, 5, (Option.some (Jvm.ClassFile.FieldType.object "WitnessesMustLie$Saying")), 2, 49)
abbrev mX11_worldsWith : ab_M := (yX11_worldsWith, cX11_worldsWith, 1, (Option.some Jvm.ClassFile.FieldType.long), 0, 0)
abbrev mX11_factBit : ab_M := (yX11_factBit, cX11_factBit, 1, (Option.some Jvm.ClassFile.FieldType.int), 0, 0)
abbrev mX11_hasWorld : ab_M := (yX11_hasWorld, cX11_hasWorld, 3, (Option.some Jvm.ClassFile.FieldType.boolean), 0, 0)
abbrev mX11_factsOfAll : ab_M := (yX11_factsOfAll, cX11_factsOfAll, 4, (Option.some Jvm.ClassFile.FieldType.int), 1, 20)
abbrev mX11_factsOfNone : ab_M := (yX11_factsOfNone, cX11_factsOfNone, 4, (Option.some Jvm.ClassFile.FieldType.int), 1, 20)
abbrev mX11_factsAlike : ab_M := (yX11_factsAlike, cX11_factsAlike, 2, (Option.some Jvm.ClassFile.FieldType.int), 2, 43)
abbrev mX11_isProvedBy : ab_M := (yX11_isProvedBy, cX11_isProvedBy, 3, (Option.some Jvm.ClassFile.FieldType.boolean), 1, 20)
abbrev mX11_likeInKnown : ab_M := (yX11_likeInKnown, cX11_likeInKnown, 7, (Option.some Jvm.ClassFile.FieldType.long), 1, 20)
abbrev mX11_brokenPlace : ab_M := (yX11_brokenPlace, cX11_brokenPlace, 4, (Option.some Jvm.ClassFile.FieldType.int), 2, 43)
abbrev mX11_digitsBehind : ab_M := (yX11_digitsBehind, cX11_digitsBehind, 1, (Option.some Jvm.ClassFile.FieldType.int), 0, 0)
abbrev mX11_isDigit : ab_M := (yX11_isDigit, cX11_isDigit, 1, (Option.some Jvm.ClassFile.FieldType.boolean), 0, 0)
abbrev mX11_digitAt : ab_M := (yX11_digitAt, cX11_digitAt, 2, (Option.some Jvm.ClassFile.FieldType.int), 2, 43)
abbrev mX11_twoDigitsAt : ab_M := (yX11_twoDigitsAt, cX11_twoDigitsAt, 2, (Option.some Jvm.ClassFile.FieldType.int), 3, 64)
abbrev mX11_enact : ab_M := (yX11_enact, cX11_enact, 4, (Option.some Jvm.ClassFile.FieldType.int), 7, 152)
abbrev mX11_isEnacted : ab_M := (yX11_isEnacted, cX11_isEnacted, 3, (Option.some Jvm.ClassFile.FieldType.boolean), 6, 129)
abbrev mX11_sayingAt : ab_M := (yX11_sayingAt, cX11_sayingAt, 7, (Option.some (Jvm.ClassFile.FieldType.object "WitnessesMustLie$Saying")), 4, 85)
abbrev mX11_leastOrder : ab_M := (yX11_leastOrder, cX11_leastOrder, 5, (Option.some Jvm.ClassFile.FieldType.int), 6, 134)
abbrev mX11_digitsWithAhead : ab_M := (yX11_digitsWithAhead, cX11_digitsWithAhead, 2, (Option.some Jvm.ClassFile.FieldType.int), 1, 24)
abbrev mX11_digitsOf : ab_M := (yX11_digitsOf, cX11_digitsOf, 5, (Option.some Jvm.ClassFile.FieldType.int), 0, 0)
abbrev mX11_kindOfCode : ab_M := (yX11_kindOfCode, cX11_kindOfCode, 1, (Option.some Jvm.ClassFile.FieldType.int), 0, 0)
abbrev mX11_firstOfCode : ab_M := (yX11_firstOfCode, cX11_firstOfCode, 1, (Option.some Jvm.ClassFile.FieldType.int), 0, 0)
abbrev mX11_secondOfCode : ab_M := (yX11_secondOfCode, cX11_secondOfCode, 1, (Option.some Jvm.ClassFile.FieldType.int), 0, 0)
abbrev mX11_worldsOfCode : ab_M := (yX11_worldsOfCode, cX11_worldsOfCode, 3, (Option.some Jvm.ClassFile.FieldType.long), 4, 85)
abbrev mX11_isLie : ab_M := (yX11_isLie, cX11_isLie, 5, (Option.some Jvm.ClassFile.FieldType.boolean), 5, 107)
abbrev mX11_nextSeed : ab_M := (yX11_nextSeed, cX11_nextSeed, 1, (Option.some Jvm.ClassFile.FieldType.int), 0, 0)
abbrev mX11_drawnBelow : ab_M := (yX11_drawnBelow, cX11_drawnBelow, 2, (Option.some Jvm.ClassFile.FieldType.int), 0, 0)
abbrev mX11_seedAfterDraws : ab_M := (yX11_seedAfterDraws, cX11_seedAfterDraws, 1, (Option.some Jvm.ClassFile.FieldType.int), 1, 20)
abbrev mX11_worldsOfDraws : ab_M := (yX11_worldsOfDraws, cX11_worldsOfDraws, 7, (Option.some Jvm.ClassFile.FieldType.long), 4, 85)
abbrev mJ6_numberOfTrailingZeros_0f7a4 : ab_M := (yJ6_numberOfTrailingZeros_0f7a4, cJ6_numberOfTrailingZeros_0f7a4, 2, (Option.some Jvm.ClassFile.FieldType.int), 0, 0)
abbrev mJ6_bitCount_0f7a4 : ab_M := (yJ6_bitCount_0f7a4, cJ6_bitCount_0f7a4, 1, (Option.some Jvm.ClassFile.FieldType.int), 0, 0)
abbrev mJ13_bitCount_95d88 : ab_M := (yJ13_bitCount_95d88, cJ13_bitCount_95d88, 2, (Option.some Jvm.ClassFile.FieldType.int), 0, 0)
abbrev mJ9_max_7cf53 : ab_M := (yJ9_max_7cf53, cJ9_max_7cf53, 2, (Option.some Jvm.ClassFile.FieldType.int), 0, 0)
abbrev mJ9_min_7cf53 : ab_M := (yJ9_min_7cf53, cJ9_min_7cf53, 2, (Option.some Jvm.ClassFile.FieldType.int), 0, 0)
abbrev mJxa1e45_init_da8c8 : ab_M := (yJxa1e45_init_da8c8, cJxa1e45_init_da8c8, 1, (Option.none : Option Jvm.ClassFile.FieldType), 1, 20)
abbrev mJxc12de_init_da8c8 : ab_M := (yJxc12de_init_da8c8, cJxc12de_init_da8c8, 1, (Option.none : Option Jvm.ClassFile.FieldType), 2, 40)
abbrev mJx4a65c_init_da8c8 : ab_M := (yJx4a65c_init_da8c8, cJx4a65c_init_da8c8, 1, (Option.none : Option Jvm.ClassFile.FieldType), 3, 60)
abbrev mJx4a65c_grow_92f84 : ab_M := (yJx4a65c_grow_92f84, cJx4a65c_grow_92f84, 4, (Option.some (Jvm.ClassFile.FieldType.array (Jvm.ClassFile.FieldType.object "java/lang/Object"))), 1, 21)
abbrev mJx4a65c_grow_d5877 : ab_M := (yJx4a65c_grow_d5877, cJx4a65c_grow_d5877, 1, (Option.some (Jvm.ClassFile.FieldType.array (Jvm.ClassFile.FieldType.object "java/lang/Object"))), 2, 44)
abbrev mJx4a65c_size_8abf5 : ab_M := (yJx4a65c_size_8abf5, cJx4a65c_size_8abf5, 1, (Option.some Jvm.ClassFile.FieldType.int), 0, 0)
abbrev mJx4a65c_elementData_915e3 : ab_M := (yJx4a65c_elementData_915e3, cJx4a65c_elementData_915e3, 2, (Option.some (Jvm.ClassFile.FieldType.object "java/lang/Object")), 0, 0)
abbrev mJx4a65c_get_915e3 : ab_M := (yJx4a65c_get_915e3, cJx4a65c_get_915e3, 2, (Option.some (Jvm.ClassFile.FieldType.object "java/lang/Object")), 2, 43)
abbrev mJx4a65c_add_72be8 : ab_M := (yJx4a65c_add_72be8, cJx4a65c_add_72be8, 4, (Option.none : Option Jvm.ClassFile.FieldType), 3, 64)
abbrev mJx4a65c_add_9ea2d : ab_M := (yJx4a65c_add_9ea2d, cJx4a65c_add_9ea2d, 2, (Option.some Jvm.ClassFile.FieldType.boolean), 4, 87)
abbrev mJx4a65c_remove_915e3 : ab_M := (yJx4a65c_remove_915e3, cJx4a65c_remove_915e3, 4, (Option.some (Jvm.ClassFile.FieldType.object "java/lang/Object")), 2, 43)
abbrev mJx4a65c_fastRemove_b59b0 : ab_M := (yJx4a65c_fastRemove_b59b0, cJx4a65c_fastRemove_b59b0, 4, (Option.none : Option Jvm.ClassFile.FieldType), 0, 0)
abbrev mJx4a65c_clear_da8c8 : ab_M := (yJx4a65c_clear_da8c8, cJx4a65c_clear_da8c8, 4, (Option.none : Option Jvm.ClassFile.FieldType), 0, 0)
abbrev mJ15_checkIndex_7cf53 : ab_M := (yJ15_checkIndex_7cf53, cJ15_checkIndex_7cf53, 2, (Option.some Jvm.ClassFile.FieldType.int), 1, 22)
abbrev mJ3_checkIndex_8e157 : ab_M := (yJ3_checkIndex_8e157, cJ3_checkIndex_8e157, 3, (Option.some Jvm.ClassFile.FieldType.int), 0, 0)
abbrev mL_at : ab_M := (yL_at, cL_at, 2, (Option.some Jvm.ClassFile.FieldType.int), 0, 0)
abbrev mL_some : ab_M := (yL_some, cL_some, 3, (Option.some Jvm.ClassFile.FieldType.int), 0, 0)
abbrev mL_holds : ab_M := (yL_holds, cL_holds, 5, (Option.some Jvm.ClassFile.FieldType.boolean), 0, 0)
abbrev mL_world : ab_M := (yL_world, cL_world, 8, (Option.none : Option Jvm.ClassFile.FieldType), 7, 156)
abbrev mL_saying : ab_M := (yL_saying, cL_saying, 1, (Option.some Jvm.ClassFile.FieldType.int), 1, 22)
abbrev mL_told : ab_M := (yL_told, cL_told, 5, (Option.some Jvm.ClassFile.FieldType.long), 8, 180)
abbrev mL_law : ab_M := (yL_law, cL_law, 15, some .boolean, 13, 492)
theorem zc_X0_init : Cond.code mX0_init.1 mX0_init.2.1 mX0_init.2.2.1 mX0_init.2.2.2.1 ∈ ab_Tg ∧ Cond.initialized mX0_init.1.cls ∈ ab_Tg ∧ (mX0_init.1.cls ≠ "java/lang/invoke/MethodHandle" ∧ mX0_init.1.cls ≠ "java/lang/invoke/VarHandle" ∧ (parseMethodDescriptor mX0_init.1.desc).map (fun d => d.parameters.length) = some 1) := ⟨tw_207, tw_33, by decide +kernel, by decide +kernel, by decide +kernel⟩
theorem zc_X0_trueWorlds : Cond.code mX0_trueWorlds.1 mX0_trueWorlds.2.1 mX0_trueWorlds.2.2.1 mX0_trueWorlds.2.2.2.1 ∈ ab_Tg ∧ Cond.initialized mX0_trueWorlds.1.cls ∈ ab_Tg ∧ (mX0_trueWorlds.1.cls ≠ "java/lang/invoke/MethodHandle" ∧ mX0_trueWorlds.1.cls ≠ "java/lang/invoke/VarHandle" ∧ (parseMethodDescriptor mX0_trueWorlds.1.desc).map (fun d => d.parameters.length) = some 3) := ⟨tw_383, tw_33, by decide +kernel, by decide +kernel, by decide +kernel⟩
theorem zc_X0_words : Cond.code mX0_words.1 mX0_words.2.1 mX0_words.2.2.1 mX0_words.2.2.2.1 ∈ ab_Tg ∧ Cond.initialized mX0_words.1.cls ∈ ab_Tg ∧ (mX0_words.1.cls ≠ "java/lang/invoke/MethodHandle" ∧ mX0_words.1.cls ≠ "java/lang/invoke/VarHandle" ∧ (parseMethodDescriptor mX0_words.1.desc).map (fun d => d.parameters.length) = some 1) := ⟨tw_483, tw_33, by decide +kernel, by decide +kernel, by decide +kernel⟩
theorem zc_X1_init : Cond.code mX1_init.1 mX1_init.2.1 mX1_init.2.2.1 mX1_init.2.2.2.1 ∈ ab_Tg ∧ Cond.initialized mX1_init.1.cls ∈ ab_Tg ∧ (mX1_init.1.cls ≠ "java/lang/invoke/MethodHandle" ∧ mX1_init.1.cls ≠ "java/lang/invoke/VarHandle" ∧ (parseMethodDescriptor mX1_init.1.desc).map (fun d => d.parameters.length) = some 1) := ⟨tw_183, tw_30, by decide +kernel, by decide +kernel, by decide +kernel⟩
theorem zc_X1_trueWorlds : Cond.code mX1_trueWorlds.1 mX1_trueWorlds.2.1 mX1_trueWorlds.2.2.1 mX1_trueWorlds.2.2.2.1 ∈ ab_Tg ∧ Cond.initialized mX1_trueWorlds.1.cls ∈ ab_Tg ∧ (mX1_trueWorlds.1.cls ≠ "java/lang/invoke/MethodHandle" ∧ mX1_trueWorlds.1.cls ≠ "java/lang/invoke/VarHandle" ∧ (parseMethodDescriptor mX1_trueWorlds.1.desc).map (fun d => d.parameters.length) = some 3) := ⟨tw_387, tw_30, by decide +kernel, by decide +kernel, by decide +kernel⟩
theorem zc_X1_words : Cond.code mX1_words.1 mX1_words.2.1 mX1_words.2.2.1 mX1_words.2.2.2.1 ∈ ab_Tg ∧ Cond.initialized mX1_words.1.cls ∈ ab_Tg ∧ (mX1_words.1.cls ≠ "java/lang/invoke/MethodHandle" ∧ mX1_words.1.cls ≠ "java/lang/invoke/VarHandle" ∧ (parseMethodDescriptor mX1_words.1.desc).map (fun d => d.parameters.length) = some 1) := ⟨tw_486, tw_30, by decide +kernel, by decide +kernel, by decide +kernel⟩
theorem zc_X1_facts : Cond.code mX1_facts.1 mX1_facts.2.1 mX1_facts.2.2.1 mX1_facts.2.2.2.1 ∈ ab_Tg ∧ Cond.initialized mX1_facts.1.cls ∈ ab_Tg ∧ (mX1_facts.1.cls ≠ "java/lang/invoke/MethodHandle" ∧ mX1_facts.1.cls ≠ "java/lang/invoke/VarHandle" ∧ (parseMethodDescriptor mX1_facts.1.desc).map (fun d => d.parameters.length) = some 3) := ⟨tw_520, tw_30, by decide +kernel, by decide +kernel, by decide +kernel⟩
theorem zc_X2_init : Cond.code mX2_init.1 mX2_init.2.1 mX2_init.2.2.1 mX2_init.2.2.2.1 ∈ ab_Tg ∧ Cond.initialized mX2_init.1.cls ∈ ab_Tg ∧ (mX2_init.1.cls ≠ "java/lang/invoke/MethodHandle" ∧ mX2_init.1.cls ≠ "java/lang/invoke/VarHandle" ∧ (parseMethodDescriptor mX2_init.1.desc).map (fun d => d.parameters.length) = some 1) := ⟨tw_175, tw_29, by decide +kernel, by decide +kernel, by decide +kernel⟩
theorem zc_X2_trueWorlds : Cond.code mX2_trueWorlds.1 mX2_trueWorlds.2.1 mX2_trueWorlds.2.2.1 mX2_trueWorlds.2.2.2.1 ∈ ab_Tg ∧ Cond.initialized mX2_trueWorlds.1.cls ∈ ab_Tg ∧ (mX2_trueWorlds.1.cls ≠ "java/lang/invoke/MethodHandle" ∧ mX2_trueWorlds.1.cls ≠ "java/lang/invoke/VarHandle" ∧ (parseMethodDescriptor mX2_trueWorlds.1.desc).map (fun d => d.parameters.length) = some 3) := ⟨tw_390, tw_29, by decide +kernel, by decide +kernel, by decide +kernel⟩
theorem zc_X2_words : Cond.code mX2_words.1 mX2_words.2.1 mX2_words.2.2.1 mX2_words.2.2.2.1 ∈ ab_Tg ∧ Cond.initialized mX2_words.1.cls ∈ ab_Tg ∧ (mX2_words.1.cls ≠ "java/lang/invoke/MethodHandle" ∧ mX2_words.1.cls ≠ "java/lang/invoke/VarHandle" ∧ (parseMethodDescriptor mX2_words.1.desc).map (fun d => d.parameters.length) = some 1) := ⟨tw_491, tw_29, by decide +kernel, by decide +kernel, by decide +kernel⟩
theorem zc_X3_init : Cond.code mX3_init.1 mX3_init.2.1 mX3_init.2.2.1 mX3_init.2.2.2.1 ∈ ab_Tg ∧ Cond.initialized mX3_init.1.cls ∈ ab_Tg ∧ (mX3_init.1.cls ≠ "java/lang/invoke/MethodHandle" ∧ mX3_init.1.cls ≠ "java/lang/invoke/VarHandle" ∧ (parseMethodDescriptor mX3_init.1.desc).map (fun d => d.parameters.length) = some 1) := ⟨tw_191, tw_31, by decide +kernel, by decide +kernel, by decide +kernel⟩
theorem zc_X3_trueWorlds : Cond.code mX3_trueWorlds.1 mX3_trueWorlds.2.1 mX3_trueWorlds.2.2.1 mX3_trueWorlds.2.2.2.1 ∈ ab_Tg ∧ Cond.initialized mX3_trueWorlds.1.cls ∈ ab_Tg ∧ (mX3_trueWorlds.1.cls ≠ "java/lang/invoke/MethodHandle" ∧ mX3_trueWorlds.1.cls ≠ "java/lang/invoke/VarHandle" ∧ (parseMethodDescriptor mX3_trueWorlds.1.desc).map (fun d => d.parameters.length) = some 3) := ⟨tw_394, tw_31, by decide +kernel, by decide +kernel, by decide +kernel⟩
theorem zc_X3_words : Cond.code mX3_words.1 mX3_words.2.1 mX3_words.2.2.1 mX3_words.2.2.2.1 ∈ ab_Tg ∧ Cond.initialized mX3_words.1.cls ∈ ab_Tg ∧ (mX3_words.1.cls ≠ "java/lang/invoke/MethodHandle" ∧ mX3_words.1.cls ≠ "java/lang/invoke/VarHandle" ∧ (parseMethodDescriptor mX3_words.1.desc).map (fun d => d.parameters.length) = some 1) := ⟨tw_495, tw_31, by decide +kernel, by decide +kernel, by decide +kernel⟩
theorem zc_X4_init : Cond.code mX4_init.1 mX4_init.2.1 mX4_init.2.2.1 mX4_init.2.2.2.1 ∈ ab_Tg ∧ Cond.initialized mX4_init.1.cls ∈ ab_Tg ∧ (mX4_init.1.cls ≠ "java/lang/invoke/MethodHandle" ∧ mX4_init.1.cls ≠ "java/lang/invoke/VarHandle" ∧ (parseMethodDescriptor mX4_init.1.desc).map (fun d => d.parameters.length) = some 1) := ⟨tw_215, tw_34, by decide +kernel, by decide +kernel, by decide +kernel⟩
theorem zc_X4_trueWorlds : Cond.code mX4_trueWorlds.1 mX4_trueWorlds.2.1 mX4_trueWorlds.2.2.1 mX4_trueWorlds.2.2.2.1 ∈ ab_Tg ∧ Cond.initialized mX4_trueWorlds.1.cls ∈ ab_Tg ∧ (mX4_trueWorlds.1.cls ≠ "java/lang/invoke/MethodHandle" ∧ mX4_trueWorlds.1.cls ≠ "java/lang/invoke/VarHandle" ∧ (parseMethodDescriptor mX4_trueWorlds.1.desc).map (fun d => d.parameters.length) = some 3) := ⟨tw_397, tw_34, by decide +kernel, by decide +kernel, by decide +kernel⟩
theorem zc_X4_words : Cond.code mX4_words.1 mX4_words.2.1 mX4_words.2.2.1 mX4_words.2.2.2.1 ∈ ab_Tg ∧ Cond.initialized mX4_words.1.cls ∈ ab_Tg ∧ (mX4_words.1.cls ≠ "java/lang/invoke/MethodHandle" ∧ mX4_words.1.cls ≠ "java/lang/invoke/VarHandle" ∧ (parseMethodDescriptor mX4_words.1.desc).map (fun d => d.parameters.length) = some 1) := ⟨tw_499, tw_34, by decide +kernel, by decide +kernel, by decide +kernel⟩
theorem zc_X5_init : Cond.code mX5_init.1 mX5_init.2.1 mX5_init.2.2.1 mX5_init.2.2.2.1 ∈ ab_Tg ∧ Cond.initialized mX5_init.1.cls ∈ ab_Tg ∧ (mX5_init.1.cls ≠ "java/lang/invoke/MethodHandle" ∧ mX5_init.1.cls ≠ "java/lang/invoke/VarHandle" ∧ (parseMethodDescriptor mX5_init.1.desc).map (fun d => d.parameters.length) = some 1) := ⟨tw_199, tw_32, by decide +kernel, by decide +kernel, by decide +kernel⟩
theorem zc_X5_trueWorlds : Cond.code mX5_trueWorlds.1 mX5_trueWorlds.2.1 mX5_trueWorlds.2.2.1 mX5_trueWorlds.2.2.2.1 ∈ ab_Tg ∧ Cond.initialized mX5_trueWorlds.1.cls ∈ ab_Tg ∧ (mX5_trueWorlds.1.cls ≠ "java/lang/invoke/MethodHandle" ∧ mX5_trueWorlds.1.cls ≠ "java/lang/invoke/VarHandle" ∧ (parseMethodDescriptor mX5_trueWorlds.1.desc).map (fun d => d.parameters.length) = some 3) := ⟨tw_400, tw_32, by decide +kernel, by decide +kernel, by decide +kernel⟩
theorem zc_X5_words : Cond.code mX5_words.1 mX5_words.2.1 mX5_words.2.2.1 mX5_words.2.2.2.1 ∈ ab_Tg ∧ Cond.initialized mX5_words.1.cls ∈ ab_Tg ∧ (mX5_words.1.cls ≠ "java/lang/invoke/MethodHandle" ∧ mX5_words.1.cls ≠ "java/lang/invoke/VarHandle" ∧ (parseMethodDescriptor mX5_words.1.desc).map (fun d => d.parameters.length) = some 1) := ⟨tw_503, tw_32, by decide +kernel, by decide +kernel, by decide +kernel⟩
theorem zc_X6_init : Cond.code mX6_init.1 mX6_init.2.1 mX6_init.2.2.1 mX6_init.2.2.2.1 ∈ ab_Tg ∧ Cond.initialized mX6_init.1.cls ∈ ab_Tg ∧ (mX6_init.1.cls ≠ "java/lang/invoke/MethodHandle" ∧ mX6_init.1.cls ≠ "java/lang/invoke/VarHandle" ∧ (parseMethodDescriptor mX6_init.1.desc).map (fun d => d.parameters.length) = some 1) := ⟨tw_223, tw_35, by decide +kernel, by decide +kernel, by decide +kernel⟩
theorem zc_X6_trueWorlds : Cond.code mX6_trueWorlds.1 mX6_trueWorlds.2.1 mX6_trueWorlds.2.2.1 mX6_trueWorlds.2.2.2.1 ∈ ab_Tg ∧ Cond.initialized mX6_trueWorlds.1.cls ∈ ab_Tg ∧ (mX6_trueWorlds.1.cls ≠ "java/lang/invoke/MethodHandle" ∧ mX6_trueWorlds.1.cls ≠ "java/lang/invoke/VarHandle" ∧ (parseMethodDescriptor mX6_trueWorlds.1.desc).map (fun d => d.parameters.length) = some 3) := ⟨tw_404, tw_35, by decide +kernel, by decide +kernel, by decide +kernel⟩
theorem zc_X6_words : Cond.code mX6_words.1 mX6_words.2.1 mX6_words.2.2.1 mX6_words.2.2.2.1 ∈ ab_Tg ∧ Cond.initialized mX6_words.1.cls ∈ ab_Tg ∧ (mX6_words.1.cls ≠ "java/lang/invoke/MethodHandle" ∧ mX6_words.1.cls ≠ "java/lang/invoke/VarHandle" ∧ (parseMethodDescriptor mX6_words.1.desc).map (fun d => d.parameters.length) = some 1) := ⟨tw_507, tw_35, by decide +kernel, by decide +kernel, by decide +kernel⟩
theorem zc_X6_facts : Cond.code mX6_facts.1 mX6_facts.2.1 mX6_facts.2.2.1 mX6_facts.2.2.2.1 ∈ ab_Tg ∧ Cond.initialized mX6_facts.1.cls ∈ ab_Tg ∧ (mX6_facts.1.cls ≠ "java/lang/invoke/MethodHandle" ∧ mX6_facts.1.cls ≠ "java/lang/invoke/VarHandle" ∧ (parseMethodDescriptor mX6_facts.1.desc).map (fun d => d.parameters.length) = some 3) := ⟨tw_532, tw_35, by decide +kernel, by decide +kernel, by decide +kernel⟩
theorem zc_X7_init : Cond.code mX7_init.1 mX7_init.2.1 mX7_init.2.2.1 mX7_init.2.2.2.1 ∈ ab_Tg ∧ Cond.initialized mX7_init.1.cls ∈ ab_Tg ∧ (mX7_init.1.cls ≠ "java/lang/invoke/MethodHandle" ∧ mX7_init.1.cls ≠ "java/lang/invoke/VarHandle" ∧ (parseMethodDescriptor mX7_init.1.desc).map (fun d => d.parameters.length) = some 6) := ⟨tw_408, tw_41, by decide +kernel, by decide +kernel, by decide +kernel⟩
theorem zc_X7_told : Cond.code mX7_told.1 mX7_told.2.1 mX7_told.2.2.1 mX7_told.2.2.2.1 ∈ ab_Tg ∧ Cond.initialized mX7_told.1.cls ∈ ab_Tg ∧ (mX7_told.1.cls ≠ "java/lang/invoke/MethodHandle" ∧ mX7_told.1.cls ≠ "java/lang/invoke/VarHandle" ∧ (parseMethodDescriptor mX7_told.1.desc).map (fun d => d.parameters.length) = some 1) := ⟨tw_472, tw_41, by decide +kernel, by decide +kernel, by decide +kernel⟩
theorem zc_X7_words : Cond.code mX7_words.1 mX7_words.2.1 mX7_words.2.2.1 mX7_words.2.2.2.1 ∈ ab_Tg ∧ Cond.initialized mX7_words.1.cls ∈ ab_Tg ∧ (mX7_words.1.cls ≠ "java/lang/invoke/MethodHandle" ∧ mX7_words.1.cls ≠ "java/lang/invoke/VarHandle" ∧ (parseMethodDescriptor mX7_words.1.desc).map (fun d => d.parameters.length) = some 0) := ⟨tw_476, tw_41, by decide +kernel, by decide +kernel, by decide +kernel⟩
theorem zc_X7_facts : Cond.code mX7_facts.1 mX7_facts.2.1 mX7_facts.2.2.1 mX7_facts.2.2.2.1 ∈ ab_Tg ∧ Cond.initialized mX7_facts.1.cls ∈ ab_Tg ∧ (mX7_facts.1.cls ≠ "java/lang/invoke/MethodHandle" ∧ mX7_facts.1.cls ≠ "java/lang/invoke/VarHandle" ∧ (parseMethodDescriptor mX7_facts.1.desc).map (fun d => d.parameters.length) = some 0) := ⟨tw_513, tw_41, by decide +kernel, by decide +kernel, by decide +kernel⟩
theorem zc_X8_init : Cond.code mX8_init.1 mX8_init.2.1 mX8_init.2.2.1 mX8_init.2.2.2.1 ∈ ab_Tg ∧ Cond.initialized mX8_init.1.cls ∈ ab_Tg ∧ (mX8_init.1.cls ≠ "java/lang/invoke/MethodHandle" ∧ mX8_init.1.cls ≠ "java/lang/invoke/VarHandle" ∧ (parseMethodDescriptor mX8_init.1.desc).map (fun d => d.parameters.length) = some 1) := ⟨tw_107, tw_24, by decide +kernel, by decide +kernel, by decide +kernel⟩
theorem zc_X8_worldsOf : Cond.code mX8_worldsOf.1 mX8_worldsOf.2.1 mX8_worldsOf.2.2.1 mX8_worldsOf.2.2.2.1 ∈ ab_Tg ∧ Cond.initialized mX8_worldsOf.1.cls ∈ ab_Tg ∧ (mX8_worldsOf.1.cls ≠ "java/lang/invoke/MethodHandle" ∧ mX8_worldsOf.1.cls ≠ "java/lang/invoke/VarHandle" ∧ (parseMethodDescriptor mX8_worldsOf.1.desc).map (fun d => d.parameters.length) = some 3) := ⟨tw_372, tw_24, by decide +kernel, by decide +kernel, by decide +kernel⟩
theorem zc_X8_trueWorlds : Cond.code mX8_trueWorlds.1 mX8_trueWorlds.2.1 mX8_trueWorlds.2.2.1 mX8_trueWorlds.2.2.2.1 ∈ ab_Tg ∧ Cond.initialized mX8_trueWorlds.1.cls ∈ ab_Tg ∧ (mX8_trueWorlds.1.cls ≠ "java/lang/invoke/MethodHandle" ∧ mX8_trueWorlds.1.cls ≠ "java/lang/invoke/VarHandle" ∧ (parseMethodDescriptor mX8_trueWorlds.1.desc).map (fun d => d.parameters.length) = some 3) := ⟨tw_405, tw_24, by decide +kernel, by decide +kernel, by decide +kernel⟩
theorem zc_X8_words : Cond.code mX8_words.1 mX8_words.2.1 mX8_words.2.2.1 mX8_words.2.2.2.1 ∈ ab_Tg ∧ Cond.initialized mX8_words.1.cls ∈ ab_Tg ∧ (mX8_words.1.cls ≠ "java/lang/invoke/MethodHandle" ∧ mX8_words.1.cls ≠ "java/lang/invoke/VarHandle" ∧ (parseMethodDescriptor mX8_words.1.desc).map (fun d => d.parameters.length) = some 1) := ⟨tw_509, tw_24, by decide +kernel, by decide +kernel, by decide +kernel⟩
theorem zc_X8_facts : Cond.code mX8_facts.1 mX8_facts.2.1 mX8_facts.2.2.1 mX8_facts.2.2.2.1 ∈ ab_Tg ∧ Cond.initialized mX8_facts.1.cls ∈ ab_Tg ∧ (mX8_facts.1.cls ≠ "java/lang/invoke/MethodHandle" ∧ mX8_facts.1.cls ≠ "java/lang/invoke/VarHandle" ∧ (parseMethodDescriptor mX8_facts.1.desc).map (fun d => d.parameters.length) = some 3) := ⟨tw_536, tw_24, by decide +kernel, by decide +kernel, by decide +kernel⟩
theorem zc_X9_init : Cond.code mX9_init.1 mX9_init.2.1 mX9_init.2.2.1 mX9_init.2.2.2.1 ∈ ab_Tg ∧ Cond.initialized mX9_init.1.cls ∈ ab_Tg ∧ (mX9_init.1.cls ≠ "java/lang/invoke/MethodHandle" ∧ mX9_init.1.cls ≠ "java/lang/invoke/VarHandle" ∧ (parseMethodDescriptor mX9_init.1.desc).map (fun d => d.parameters.length) = some 1) := ⟨tw_230, tw_36, by decide +kernel, by decide +kernel, by decide +kernel⟩
theorem zc_X9_holdNothing : Cond.code mX9_holdNothing.1 mX9_holdNothing.2.1 mX9_holdNothing.2.2.1 mX9_holdNothing.2.2.2.1 ∈ ab_Tg ∧ Cond.initialized mX9_holdNothing.1.cls ∈ ab_Tg ∧ (mX9_holdNothing.1.cls ≠ "java/lang/invoke/MethodHandle" ∧ mX9_holdNothing.1.cls ≠ "java/lang/invoke/VarHandle" ∧ (parseMethodDescriptor mX9_holdNothing.1.desc).map (fun d => d.parameters.length) = some 0) := ⟨tw_776, tw_36, by decide +kernel, by decide +kernel, by decide +kernel⟩
theorem zc_X9_holdSaying : Cond.code mX9_holdSaying.1 mX9_holdSaying.2.1 mX9_holdSaying.2.2.1 mX9_holdSaying.2.2.2.1 ∈ ab_Tg ∧ Cond.initialized mX9_holdSaying.1.cls ∈ ab_Tg ∧ (mX9_holdSaying.1.cls ≠ "java/lang/invoke/MethodHandle" ∧ mX9_holdSaying.1.cls ≠ "java/lang/invoke/VarHandle" ∧ (parseMethodDescriptor mX9_holdSaying.1.desc).map (fun d => d.parameters.length) = some 2) := ⟨tw_780, tw_36, by decide +kernel, by decide +kernel, by decide +kernel⟩
theorem zc_X9_holdRow : Cond.code mX9_holdRow.1 mX9_holdRow.2.1 mX9_holdRow.2.2.1 mX9_holdRow.2.2.2.1 ∈ ab_Tg ∧ Cond.initialized mX9_holdRow.1.cls ∈ ab_Tg ∧ (mX9_holdRow.1.cls ≠ "java/lang/invoke/MethodHandle" ∧ mX9_holdRow.1.cls ≠ "java/lang/invoke/VarHandle" ∧ (parseMethodDescriptor mX9_holdRow.1.desc).map (fun d => d.parameters.length) = some 2) := ⟨tw_788, tw_36, by decide +kernel, by decide +kernel, by decide +kernel⟩
theorem zc_X9_isEmpty : Cond.code mX9_isEmpty.1 mX9_isEmpty.2.1 mX9_isEmpty.2.2.1 mX9_isEmpty.2.2.2.1 ∈ ab_Tg ∧ Cond.initialized mX9_isEmpty.1.cls ∈ ab_Tg ∧ (mX9_isEmpty.1.cls ≠ "java/lang/invoke/MethodHandle" ∧ mX9_isEmpty.1.cls ≠ "java/lang/invoke/VarHandle" ∧ (parseMethodDescriptor mX9_isEmpty.1.desc).map (fun d => d.parameters.length) = some 0) := ⟨tw_283, tw_36, by decide +kernel, by decide +kernel, by decide +kernel⟩
theorem zc_X9_refusalAsSaying : Cond.code mX9_refusalAsSaying.1 mX9_refusalAsSaying.2.1 mX9_refusalAsSaying.2.2.1 mX9_refusalAsSaying.2.2.2.1 ∈ ab_Tg ∧ Cond.initialized mX9_refusalAsSaying.1.cls ∈ ab_Tg ∧ (mX9_refusalAsSaying.1.cls ≠ "java/lang/invoke/MethodHandle" ∧ mX9_refusalAsSaying.1.cls ≠ "java/lang/invoke/VarHandle" ∧ (parseMethodDescriptor mX9_refusalAsSaying.1.desc).map (fun d => d.parameters.length) = some 0) := ⟨tw_545, tw_36, by decide +kernel, by decide +kernel, by decide +kernel⟩
theorem zc_X9_refusalAsRow : Cond.code mX9_refusalAsRow.1 mX9_refusalAsRow.2.1 mX9_refusalAsRow.2.2.1 mX9_refusalAsRow.2.2.2.1 ∈ ab_Tg ∧ Cond.initialized mX9_refusalAsRow.1.cls ∈ ab_Tg ∧ (mX9_refusalAsRow.1.cls ≠ "java/lang/invoke/MethodHandle" ∧ mX9_refusalAsRow.1.cls ≠ "java/lang/invoke/VarHandle" ∧ (parseMethodDescriptor mX9_refusalAsRow.1.desc).map (fun d => d.parameters.length) = some 0) := ⟨tw_276, tw_36, by decide +kernel, by decide +kernel, by decide +kernel⟩
theorem zc_X9_refusalUnless : Cond.code mX9_refusalUnless.1 mX9_refusalUnless.2.1 mX9_refusalUnless.2.2.1 mX9_refusalUnless.2.2.2.1 ∈ ab_Tg ∧ Cond.initialized mX9_refusalUnless.1.cls ∈ ab_Tg ∧ (mX9_refusalUnless.1.cls ≠ "java/lang/invoke/MethodHandle" ∧ mX9_refusalUnless.1.cls ≠ "java/lang/invoke/VarHandle" ∧ (parseMethodDescriptor mX9_refusalUnless.1.desc).map (fun d => d.parameters.length) = some 1) := ⟨tw_279, tw_36, by decide +kernel, by decide +kernel, by decide +kernel⟩
theorem zc_X9_worldsOf : Cond.code mX9_worldsOf.1 mX9_worldsOf.2.1 mX9_worldsOf.2.2.1 mX9_worldsOf.2.2.2.1 ∈ ab_Tg ∧ Cond.initialized mX9_worldsOf.1.cls ∈ ab_Tg ∧ (mX9_worldsOf.1.cls ≠ "java/lang/invoke/MethodHandle" ∧ mX9_worldsOf.1.cls ≠ "java/lang/invoke/VarHandle" ∧ (parseMethodDescriptor mX9_worldsOf.1.desc).map (fun d => d.parameters.length) = some 2) := ⟨tw_708, tw_36, by decide +kernel, by decide +kernel, by decide +kernel⟩
theorem zc_X9_hasPlaces : Cond.code mX9_hasPlaces.1 mX9_hasPlaces.2.1 mX9_hasPlaces.2.2.1 mX9_hasPlaces.2.2.2.1 ∈ ab_Tg ∧ Cond.initialized mX9_hasPlaces.1.cls ∈ ab_Tg ∧ (mX9_hasPlaces.1.cls ≠ "java/lang/invoke/MethodHandle" ∧ mX9_hasPlaces.1.cls ≠ "java/lang/invoke/VarHandle" ∧ (parseMethodDescriptor mX9_hasPlaces.1.desc).map (fun d => d.parameters.length) = some 2) := ⟨tw_294, tw_36, by decide +kernel, by decide +kernel, by decide +kernel⟩
theorem zc_X9_numberAt : Cond.code mX9_numberAt.1 mX9_numberAt.2.1 mX9_numberAt.2.2.1 mX9_numberAt.2.2.2.1 ∈ ab_Tg ∧ Cond.initialized mX9_numberAt.1.cls ∈ ab_Tg ∧ (mX9_numberAt.1.cls ≠ "java/lang/invoke/MethodHandle" ∧ mX9_numberAt.1.cls ≠ "java/lang/invoke/VarHandle" ∧ (parseMethodDescriptor mX9_numberAt.1.desc).map (fun d => d.parameters.length) = some 1) := ⟨tw_290, tw_36, by decide +kernel, by decide +kernel, by decide +kernel⟩
theorem zc_X9_setNumber : Cond.code mX9_setNumber.1 mX9_setNumber.2.1 mX9_setNumber.2.2.1 mX9_setNumber.2.2.2.1 ∈ ab_Tg ∧ Cond.initialized mX9_setNumber.1.cls ∈ ab_Tg ∧ (mX9_setNumber.1.cls ≠ "java/lang/invoke/MethodHandle" ∧ mX9_setNumber.1.cls ≠ "java/lang/invoke/VarHandle" ∧ (parseMethodDescriptor mX9_setNumber.1.desc).map (fun d => d.parameters.length) = some 2) := ⟨tw_796, tw_36, by decide +kernel, by decide +kernel, by decide +kernel⟩
theorem zc_X9_lowestBits : Cond.code mX9_lowestBits.1 mX9_lowestBits.2.1 mX9_lowestBits.2.2.1 mX9_lowestBits.2.2.2.1 ∈ ab_Tg ∧ Cond.initialized mX9_lowestBits.1.cls ∈ ab_Tg ∧ (mX9_lowestBits.1.cls ≠ "java/lang/invoke/MethodHandle" ∧ mX9_lowestBits.1.cls ≠ "java/lang/invoke/VarHandle" ∧ (parseMethodDescriptor mX9_lowestBits.1.desc).map (fun d => d.parameters.length) = some 1) := ⟨tw_799, tw_36, by decide +kernel, by decide +kernel, by decide +kernel⟩
theorem zc_X10_init : Cond.code mX10_init.1 mX10_init.2.1 mX10_init.2.2.1 mX10_init.2.2.2.1 ∈ ab_Tg ∧ Cond.initialized mX10_init.1.cls ∈ ab_Tg ∧ (mX10_init.1.cls ≠ "java/lang/invoke/MethodHandle" ∧ mX10_init.1.cls ≠ "java/lang/invoke/VarHandle" ∧ (parseMethodDescriptor mX10_init.1.desc).map (fun d => d.parameters.length) = some 0) := ⟨tw_83, tw_23, by decide +kernel, by decide +kernel, by decide +kernel⟩
theorem zc_X10_becomes : Cond.code mX10_becomes.1 mX10_becomes.2.1 mX10_becomes.2.2.1 mX10_becomes.2.2.2.1 ∈ ab_Tg ∧ Cond.initialized mX10_becomes.1.cls ∈ ab_Tg ∧ (mX10_becomes.1.cls ≠ "java/lang/invoke/MethodHandle" ∧ mX10_becomes.1.cls ≠ "java/lang/invoke/VarHandle" ∧ (parseMethodDescriptor mX10_becomes.1.desc).map (fun d => d.parameters.length) = some 1) := ⟨tw_307, tw_23, by decide +kernel, by decide +kernel, by decide +kernel⟩
theorem zc_X10_refill : Cond.code mX10_refill.1 mX10_refill.2.1 mX10_refill.2.2.1 mX10_refill.2.2.2.1 ∈ ab_Tg ∧ Cond.initialized mX10_refill.1.cls ∈ ab_Tg ∧ (mX10_refill.1.cls ≠ "java/lang/invoke/MethodHandle" ∧ mX10_refill.1.cls ≠ "java/lang/invoke/VarHandle" ∧ (parseMethodDescriptor mX10_refill.1.desc).map (fun d => d.parameters.length) = some 2) := ⟨tw_310, tw_23, by decide +kernel, by decide +kernel, by decide +kernel⟩
theorem zc_X10_hasWitness : Cond.code mX10_hasWitness.1 mX10_hasWitness.2.1 mX10_hasWitness.2.2.1 mX10_hasWitness.2.2.2.1 ∈ ab_Tg ∧ Cond.initialized mX10_hasWitness.1.cls ∈ ab_Tg ∧ (mX10_hasWitness.1.cls ≠ "java/lang/invoke/MethodHandle" ∧ mX10_hasWitness.1.cls ≠ "java/lang/invoke/VarHandle" ∧ (parseMethodDescriptor mX10_hasWitness.1.desc).map (fun d => d.parameters.length) = some 1) := ⟨tw_455, tw_23, by decide +kernel, by decide +kernel, by decide +kernel⟩
theorem zc_X10_knownBy : Cond.code mX10_knownBy.1 mX10_knownBy.2.1 mX10_knownBy.2.2.1 mX10_knownBy.2.2.2.1 ∈ ab_Tg ∧ Cond.initialized mX10_knownBy.1.cls ∈ ab_Tg ∧ (mX10_knownBy.1.cls ≠ "java/lang/invoke/MethodHandle" ∧ mX10_knownBy.1.cls ≠ "java/lang/invoke/VarHandle" ∧ (parseMethodDescriptor mX10_knownBy.1.desc).map (fun d => d.parameters.length) = some 1) := ⟨tw_338, tw_23, by decide +kernel, by decide +kernel, by decide +kernel⟩
theorem zc_X10_addLaw : Cond.code mX10_addLaw.1 mX10_addLaw.2.1 mX10_addLaw.2.2.1 mX10_addLaw.2.2.2.1 ∈ ab_Tg ∧ Cond.initialized mX10_addLaw.1.cls ∈ ab_Tg ∧ (mX10_addLaw.1.cls ≠ "java/lang/invoke/MethodHandle" ∧ mX10_addLaw.1.cls ≠ "java/lang/invoke/VarHandle" ∧ (parseMethodDescriptor mX10_addLaw.1.desc).map (fun d => d.parameters.length) = some 1) := ⟨tw_430, tw_23, by decide +kernel, by decide +kernel, by decide +kernel⟩
theorem zc_X10_addSaid : Cond.code mX10_addSaid.1 mX10_addSaid.2.1 mX10_addSaid.2.2.1 mX10_addSaid.2.2.2.1 ∈ ab_Tg ∧ Cond.initialized mX10_addSaid.1.cls ∈ ab_Tg ∧ (mX10_addSaid.1.cls ≠ "java/lang/invoke/MethodHandle" ∧ mX10_addSaid.1.cls ≠ "java/lang/invoke/VarHandle" ∧ (parseMethodDescriptor mX10_addSaid.1.desc).map (fun d => d.parameters.length) = some 1) := ⟨tw_451, tw_23, by decide +kernel, by decide +kernel, by decide +kernel⟩
theorem zc_X10_addWitness : Cond.code mX10_addWitness.1 mX10_addWitness.2.1 mX10_addWitness.2.2.1 mX10_addWitness.2.2.2.1 ∈ ab_Tg ∧ Cond.initialized mX10_addWitness.1.cls ∈ ab_Tg ∧ (mX10_addWitness.1.cls ≠ "java/lang/invoke/MethodHandle" ∧ mX10_addWitness.1.cls ≠ "java/lang/invoke/VarHandle" ∧ (parseMethodDescriptor mX10_addWitness.1.desc).map (fun d => d.parameters.length) = some 1) := ⟨tw_437, tw_23, by decide +kernel, by decide +kernel, by decide +kernel⟩
theorem zc_X10_setTruth : Cond.code mX10_setTruth.1 mX10_setTruth.2.1 mX10_setTruth.2.2.1 mX10_setTruth.2.2.2.1 ∈ ab_Tg ∧ Cond.initialized mX10_setTruth.1.cls ∈ ab_Tg ∧ (mX10_setTruth.1.cls ≠ "java/lang/invoke/MethodHandle" ∧ mX10_setTruth.1.cls ≠ "java/lang/invoke/VarHandle" ∧ (parseMethodDescriptor mX10_setTruth.1.desc).map (fun d => d.parameters.length) = some 1) := ⟨tw_444, tw_23, by decide +kernel, by decide +kernel, by decide +kernel⟩
theorem zc_X10_mayBe : Cond.code mX10_mayBe.1 mX10_mayBe.2.1 mX10_mayBe.2.2.1 mX10_mayBe.2.2.2.1 ∈ ab_Tg ∧ Cond.initialized mX10_mayBe.1.cls ∈ ab_Tg ∧ (mX10_mayBe.1.cls ≠ "java/lang/invoke/MethodHandle" ∧ mX10_mayBe.1.cls ≠ "java/lang/invoke/VarHandle" ∧ (parseMethodDescriptor mX10_mayBe.1.desc).map (fun d => d.parameters.length) = some 0) := ⟨tw_587, tw_23, by decide +kernel, by decide +kernel, by decide +kernel⟩
theorem zc_X10_left : Cond.code mX10_left.1 mX10_left.2.1 mX10_left.2.2.1 mX10_left.2.2.2.1 ∈ ab_Tg ∧ Cond.initialized mX10_left.1.cls ∈ ab_Tg ∧ (mX10_left.1.cls ≠ "java/lang/invoke/MethodHandle" ∧ mX10_left.1.cls ≠ "java/lang/invoke/VarHandle" ∧ (parseMethodDescriptor mX10_left.1.desc).map (fun d => d.parameters.length) = some 0) := ⟨tw_592, tw_23, by decide +kernel, by decide +kernel, by decide +kernel⟩
theorem zc_X10_mayBeOrLeft : Cond.code mX10_mayBeOrLeft.1 mX10_mayBeOrLeft.2.1 mX10_mayBeOrLeft.2.2.1 mX10_mayBeOrLeft.2.2.2.1 ∈ ab_Tg ∧ Cond.initialized mX10_mayBeOrLeft.1.cls ∈ ab_Tg ∧ (mX10_mayBeOrLeft.1.cls ≠ "java/lang/invoke/MethodHandle" ∧ mX10_mayBeOrLeft.1.cls ≠ "java/lang/invoke/VarHandle" ∧ (parseMethodDescriptor mX10_mayBeOrLeft.1.desc).map (fun d => d.parameters.length) = some 1) := ⟨tw_583, tw_23, by decide +kernel, by decide +kernel, by decide +kernel⟩
theorem zc_X10_leftBySaid : Cond.code mX10_leftBySaid.1 mX10_leftBySaid.2.1 mX10_leftBySaid.2.2.1 mX10_leftBySaid.2.2.2.1 ∈ ab_Tg ∧ Cond.initialized mX10_leftBySaid.1.cls ∈ ab_Tg ∧ (mX10_leftBySaid.1.cls ≠ "java/lang/invoke/MethodHandle" ∧ mX10_leftBySaid.1.cls ≠ "java/lang/invoke/VarHandle" ∧ (parseMethodDescriptor mX10_leftBySaid.1.desc).map (fun d => d.parameters.length) = some 2) := ⟨tw_596, tw_23, by decide +kernel, by decide +kernel, by decide +kernel⟩
theorem zc_X10_leftByTellers : Cond.code mX10_leftByTellers.1 mX10_leftByTellers.2.1 mX10_leftByTellers.2.2.1 mX10_leftByTellers.2.2.2.1 ∈ ab_Tg ∧ Cond.initialized mX10_leftByTellers.1.cls ∈ ab_Tg ∧ (mX10_leftByTellers.1.cls ≠ "java/lang/invoke/MethodHandle" ∧ mX10_leftByTellers.1.cls ≠ "java/lang/invoke/VarHandle" ∧ (parseMethodDescriptor mX10_leftByTellers.1.desc).map (fun d => d.parameters.length) = some 1) := ⟨tw_673, tw_23, by decide +kernel, by decide +kernel, by decide +kernel⟩
theorem zc_X10_isPlainBy : Cond.code mX10_isPlainBy.1 mX10_isPlainBy.2.1 mX10_isPlainBy.2.2.1 mX10_isPlainBy.2.2.2.1 ∈ ab_Tg ∧ Cond.initialized mX10_isPlainBy.1.cls ∈ ab_Tg ∧ (mX10_isPlainBy.1.cls ≠ "java/lang/invoke/MethodHandle" ∧ mX10_isPlainBy.1.cls ≠ "java/lang/invoke/VarHandle" ∧ (parseMethodDescriptor mX10_isPlainBy.1.desc).map (fun d => d.parameters.length) = some 1) := ⟨tw_669, tw_23, by decide +kernel, by decide +kernel, by decide +kernel⟩
theorem zc_X10_trueOnes : Cond.code mX10_trueOnes.1 mX10_trueOnes.2.1 mX10_trueOnes.2.2.1 mX10_trueOnes.2.2.2.1 ∈ ab_Tg ∧ Cond.initialized mX10_trueOnes.1.cls ∈ ab_Tg ∧ (mX10_trueOnes.1.cls ≠ "java/lang/invoke/MethodHandle" ∧ mX10_trueOnes.1.cls ≠ "java/lang/invoke/VarHandle" ∧ (parseMethodDescriptor mX10_trueOnes.1.desc).map (fun d => d.parameters.length) = some 1) := ⟨tw_632, tw_23, by decide +kernel, by decide +kernel, by decide +kernel⟩
theorem zc_X10_wordsSaid : Cond.code mX10_wordsSaid.1 mX10_wordsSaid.2.1 mX10_wordsSaid.2.2.1 mX10_wordsSaid.2.2.2.1 ∈ ab_Tg ∧ Cond.initialized mX10_wordsSaid.1.cls ∈ ab_Tg ∧ (mX10_wordsSaid.1.cls ≠ "java/lang/invoke/MethodHandle" ∧ mX10_wordsSaid.1.cls ≠ "java/lang/invoke/VarHandle" ∧ (parseMethodDescriptor mX10_wordsSaid.1.desc).map (fun d => d.parameters.length) = some 0) := ⟨tw_767, tw_23, by decide +kernel, by decide +kernel, by decide +kernel⟩
theorem zc_X10_reachedFrom : Cond.code mX10_reachedFrom.1 mX10_reachedFrom.2.1 mX10_reachedFrom.2.2.1 mX10_reachedFrom.2.2.2.1 ∈ ab_Tg ∧ Cond.initialized mX10_reachedFrom.1.cls ∈ ab_Tg ∧ (mX10_reachedFrom.1.cls ≠ "java/lang/invoke/MethodHandle" ∧ mX10_reachedFrom.1.cls ≠ "java/lang/invoke/VarHandle" ∧ (parseMethodDescriptor mX10_reachedFrom.1.desc).map (fun d => d.parameters.length) = some 2) := ⟨tw_731, tw_23, by decide +kernel, by decide +kernel, by decide +kernel⟩
theorem zc_X11_init : Cond.code mX11_init.1 mX11_init.2.1 mX11_init.2.2.1 mX11_init.2.2.2.1 ∈ ab_Tg ∧ Cond.initialized mX11_init.1.cls ∈ ab_Tg ∧ (mX11_init.1.cls ≠ "java/lang/invoke/MethodHandle" ∧ mX11_init.1.cls ≠ "java/lang/invoke/VarHandle" ∧ (parseMethodDescriptor mX11_init.1.desc).map (fun d => d.parameters.length) = some 0) := ⟨tw_51, tw_19, by decide +kernel, by decide +kernel, by decide +kernel⟩
theorem zc_X11_trial : Cond.code mX11_trial.1 mX11_trial.2.1 mX11_trial.2.2.1 mX11_trial.2.2.2.1 ∈ ab_Tg ∧ Cond.initialized mX11_trial.1.cls ∈ ab_Tg ∧ (mX11_trial.1.cls ≠ "java/lang/invoke/MethodHandle" ∧ mX11_trial.1.cls ≠ "java/lang/invoke/VarHandle" ∧ (parseMethodDescriptor mX11_trial.1.desc).map (fun d => d.parameters.length) = some 1) := ⟨tw_269, tw_19, by decide +kernel, by decide +kernel, by decide +kernel⟩
theorem zc_X11_law : Cond.code mX11_law.1 mX11_law.2.1 mX11_law.2.2.1 mX11_law.2.2.2.1 ∈ ab_Tg ∧ Cond.initialized mX11_law.1.cls ∈ ab_Tg ∧ (mX11_law.1.cls ≠ "java/lang/invoke/MethodHandle" ∧ mX11_law.1.cls ≠ "java/lang/invoke/VarHandle" ∧ (parseMethodDescriptor mX11_law.1.desc).map (fun d => d.parameters.length) = some 2) := ⟨tw_891, tw_19, by decide +kernel, by decide +kernel, by decide +kernel⟩
theorem zc_X11_said : Cond.code mX11_said.1 mX11_said.2.1 mX11_said.2.2.1 mX11_said.2.2.2.1 ∈ ab_Tg ∧ Cond.initialized mX11_said.1.cls ∈ ab_Tg ∧ (mX11_said.1.cls ≠ "java/lang/invoke/MethodHandle" ∧ mX11_said.1.cls ≠ "java/lang/invoke/VarHandle" ∧ (parseMethodDescriptor mX11_said.1.desc).map (fun d => d.parameters.length) = some 2) := ⟨tw_459, tw_19, by decide +kernel, by decide +kernel, by decide +kernel⟩
theorem zc_X11_knows : Cond.code mX11_knows.1 mX11_knows.2.1 mX11_knows.2.2.1 mX11_knows.2.2.2.1 ∈ ab_Tg ∧ Cond.initialized mX11_knows.1.cls ∈ ab_Tg ∧ (mX11_knows.1.cls ≠ "java/lang/invoke/MethodHandle" ∧ mX11_knows.1.cls ≠ "java/lang/invoke/VarHandle" ∧ (parseMethodDescriptor mX11_knows.1.desc).map (fun d => d.parameters.length) = some 1) := ⟨tw_895, tw_19, by decide +kernel, by decide +kernel, by decide +kernel⟩
theorem zc_X11_rules : Cond.code mX11_rules.1 mX11_rules.2.1 mX11_rules.2.2.1 mX11_rules.2.2.2.1 ∈ ab_Tg ∧ Cond.initialized mX11_rules.1.cls ∈ ab_Tg ∧ (mX11_rules.1.cls ≠ "java/lang/invoke/MethodHandle" ∧ mX11_rules.1.cls ≠ "java/lang/invoke/VarHandle" ∧ (parseMethodDescriptor mX11_rules.1.desc).map (fun d => d.parameters.length) = some 3) := ⟨tw_541, tw_19, by decide +kernel, by decide +kernel, by decide +kernel⟩
theorem zc_X11_says : Cond.code mX11_says.1 mX11_says.2.1 mX11_says.2.2.1 mX11_says.2.2.2.1 ∈ ab_Tg ∧ Cond.initialized mX11_says.1.cls ∈ ab_Tg ∧ (mX11_says.1.cls ≠ "java/lang/invoke/MethodHandle" ∧ mX11_says.1.cls ≠ "java/lang/invoke/VarHandle" ∧ (parseMethodDescriptor mX11_says.1.desc).map (fun d => d.parameters.length) = some 4) := ⟨tw_549, tw_19, by decide +kernel, by decide +kernel, by decide +kernel⟩
theorem zc_X11_unsays : Cond.code mX11_unsays.1 mX11_unsays.2.1 mX11_unsays.2.2.1 mX11_unsays.2.2.2.1 ∈ ab_Tg ∧ Cond.initialized mX11_unsays.1.cls ∈ ab_Tg ∧ (mX11_unsays.1.cls ≠ "java/lang/invoke/MethodHandle" ∧ mX11_unsays.1.cls ≠ "java/lang/invoke/VarHandle" ∧ (parseMethodDescriptor mX11_unsays.1.desc).map (fun d => d.parameters.length) = some 0) := ⟨tw_554, tw_19, by decide +kernel, by decide +kernel, by decide +kernel⟩
theorem zc_X11_witness : Cond.code mX11_witness.1 mX11_witness.2.1 mX11_witness.2.2.1 mX11_witness.2.2.2.1 ∈ ab_Tg ∧ Cond.initialized mX11_witness.1.cls ∈ ab_Tg ∧ (mX11_witness.1.cls ≠ "java/lang/invoke/MethodHandle" ∧ mX11_witness.1.cls ≠ "java/lang/invoke/VarHandle" ∧ (parseMethodDescriptor mX11_witness.1.desc).map (fun d => d.parameters.length) = some 1) := ⟨tw_566, tw_19, by decide +kernel, by decide +kernel, by decide +kernel⟩
theorem zc_X11_truth : Cond.code mX11_truth.1 mX11_truth.2.1 mX11_truth.2.2.1 mX11_truth.2.2.2.1 ∈ ab_Tg ∧ Cond.initialized mX11_truth.1.cls ∈ ab_Tg ∧ (mX11_truth.1.cls ≠ "java/lang/invoke/MethodHandle" ∧ mX11_truth.1.cls ≠ "java/lang/invoke/VarHandle" ∧ (parseMethodDescriptor mX11_truth.1.desc).map (fun d => d.parameters.length) = some 1) := ⟨tw_571, tw_19, by decide +kernel, by decide +kernel, by decide +kernel⟩
theorem zc_X11_worlds : Cond.code mX11_worlds.1 mX11_worlds.2.1 mX11_worlds.2.2.1 mX11_worlds.2.2.2.1 ∈ ab_Tg ∧ Cond.initialized mX11_worlds.1.cls ∈ ab_Tg ∧ (mX11_worlds.1.cls ≠ "java/lang/invoke/MethodHandle" ∧ mX11_worlds.1.cls ≠ "java/lang/invoke/VarHandle" ∧ (parseMethodDescriptor mX11_worlds.1.desc).map (fun d => d.parameters.length) = some 1) := ⟨tw_576, tw_19, by decide +kernel, by decide +kernel, by decide +kernel⟩
theorem zc_X11_many : Cond.code mX11_many.1 mX11_many.2.1 mX11_many.2.2.1 mX11_many.2.2.2.1 ∈ ab_Tg ∧ Cond.initialized mX11_many.1.cls ∈ ab_Tg ∧ (mX11_many.1.cls ≠ "java/lang/invoke/MethodHandle" ∧ mX11_many.1.cls ≠ "java/lang/invoke/VarHandle" ∧ (parseMethodDescriptor mX11_many.1.desc).map (fun d => d.parameters.length) = some 1) := ⟨tw_604, tw_19, by decide +kernel, by decide +kernel, by decide +kernel⟩
theorem zc_X11_proved : Cond.code mX11_proved.1 mX11_proved.2.1 mX11_proved.2.2.1 mX11_proved.2.2.2.1 ∈ ab_Tg ∧ Cond.initialized mX11_proved.1.cls ∈ ab_Tg ∧ (mX11_proved.1.cls ≠ "java/lang/invoke/MethodHandle" ∧ mX11_proved.1.cls ≠ "java/lang/invoke/VarHandle" ∧ (parseMethodDescriptor mX11_proved.1.desc).map (fun d => d.parameters.length) = some 1) := ⟨tw_614, tw_19, by decide +kernel, by decide +kernel, by decide +kernel⟩
theorem zc_X11_slips : Cond.code mX11_slips.1 mX11_slips.2.1 mX11_slips.2.2.1 mX11_slips.2.2.2.1 ∈ ab_Tg ∧ Cond.initialized mX11_slips.1.cls ∈ ab_Tg ∧ (mX11_slips.1.cls ≠ "java/lang/invoke/MethodHandle" ∧ mX11_slips.1.cls ≠ "java/lang/invoke/VarHandle" ∧ (parseMethodDescriptor mX11_slips.1.desc).map (fun d => d.parameters.length) = some 1) := ⟨tw_628, tw_19, by decide +kernel, by decide +kernel, by decide +kernel⟩
theorem zc_X11_alone : Cond.code mX11_alone.1 mX11_alone.2.1 mX11_alone.2.2.1 mX11_alone.2.2.2.1 ∈ ab_Tg ∧ Cond.initialized mX11_alone.1.cls ∈ ab_Tg ∧ (mX11_alone.1.cls ≠ "java/lang/invoke/MethodHandle" ∧ mX11_alone.1.cls ≠ "java/lang/invoke/VarHandle" ∧ (parseMethodDescriptor mX11_alone.1.desc).map (fun d => d.parameters.length) = some 1) := ⟨tw_641, tw_19, by decide +kernel, by decide +kernel, by decide +kernel⟩
theorem zc_X11_clash : Cond.code mX11_clash.1 mX11_clash.2.1 mX11_clash.2.2.1 mX11_clash.2.2.2.1 ∈ ab_Tg ∧ Cond.initialized mX11_clash.1.cls ∈ ab_Tg ∧ (mX11_clash.1.cls ≠ "java/lang/invoke/MethodHandle" ∧ mX11_clash.1.cls ≠ "java/lang/invoke/VarHandle" ∧ (parseMethodDescriptor mX11_clash.1.desc).map (fun d => d.parameters.length) = some 0) := ⟨tw_646, tw_19, by decide +kernel, by decide +kernel, by decide +kernel⟩
theorem zc_X11_proof : Cond.code mX11_proof.1 mX11_proof.2.1 mX11_proof.2.2.1 mX11_proof.2.2.2.1 ∈ ab_Tg ∧ Cond.initialized mX11_proof.1.cls ∈ ab_Tg ∧ (mX11_proof.1.cls ≠ "java/lang/invoke/MethodHandle" ∧ mX11_proof.1.cls ≠ "java/lang/invoke/VarHandle" ∧ (parseMethodDescriptor mX11_proof.1.desc).map (fun d => d.parameters.length) = some 1) := ⟨tw_904, tw_19, by decide +kernel, by decide +kernel, by decide +kernel⟩
theorem zc_X11_slipped : Cond.code mX11_slipped.1 mX11_slipped.2.1 mX11_slipped.2.2.1 mX11_slipped.2.2.2.1 ∈ ab_Tg ∧ Cond.initialized mX11_slipped.1.cls ∈ ab_Tg ∧ (mX11_slipped.1.cls ≠ "java/lang/invoke/MethodHandle" ∧ mX11_slipped.1.cls ≠ "java/lang/invoke/VarHandle" ∧ (parseMethodDescriptor mX11_slipped.1.desc).map (fun d => d.parameters.length) = some 0) := ⟨tw_650, tw_19, by decide +kernel, by decide +kernel, by decide +kernel⟩
theorem zc_X11_ask : Cond.code mX11_ask.1 mX11_ask.2.1 mX11_ask.2.2.1 mX11_ask.2.2.2.1 ∈ ab_Tg ∧ Cond.initialized mX11_ask.1.cls ∈ ab_Tg ∧ (mX11_ask.1.cls ≠ "java/lang/invoke/MethodHandle" ∧ mX11_ask.1.cls ≠ "java/lang/invoke/VarHandle" ∧ (parseMethodDescriptor mX11_ask.1.desc).map (fun d => d.parameters.length) = some 0) := ⟨tw_660, tw_19, by decide +kernel, by decide +kernel, by decide +kernel⟩
theorem zc_X11_plain : Cond.code mX11_plain.1 mX11_plain.2.1 mX11_plain.2.2.1 mX11_plain.2.2.2.1 ∈ ab_Tg ∧ Cond.initialized mX11_plain.1.cls ∈ ab_Tg ∧ (mX11_plain.1.cls ≠ "java/lang/invoke/MethodHandle" ∧ mX11_plain.1.cls ≠ "java/lang/invoke/VarHandle" ∧ (parseMethodDescriptor mX11_plain.1.desc).map (fun d => d.parameters.length) = some 0) := ⟨tw_665, tw_19, by decide +kernel, by decide +kernel, by decide +kernel⟩
theorem zc_X11_order : Cond.code mX11_order.1 mX11_order.2.1 mX11_order.2.2.1 mX11_order.2.2.2.1 ∈ ab_Tg ∧ Cond.initialized mX11_order.1.cls ∈ ab_Tg ∧ (mX11_order.1.cls ≠ "java/lang/invoke/MethodHandle" ∧ mX11_order.1.cls ≠ "java/lang/invoke/VarHandle" ∧ (parseMethodDescriptor mX11_order.1.desc).map (fun d => d.parameters.length) = some 1) := ⟨tw_912, tw_19, by decide +kernel, by decide +kernel, by decide +kernel⟩
theorem zc_X11_without : Cond.code mX11_without.1 mX11_without.2.1 mX11_without.2.2.1 mX11_without.2.2.2.1 ∈ ab_Tg ∧ Cond.initialized mX11_without.1.cls ∈ ab_Tg ∧ (mX11_without.1.cls ≠ "java/lang/invoke/MethodHandle" ∧ mX11_without.1.cls ≠ "java/lang/invoke/VarHandle" ∧ (parseMethodDescriptor mX11_without.1.desc).map (fun d => d.parameters.length) = some 1) := ⟨tw_678, tw_19, by decide +kernel, by decide +kernel, by decide +kernel⟩
theorem zc_X11_lie : Cond.code mX11_lie.1 mX11_lie.2.1 mX11_lie.2.2.1 mX11_lie.2.2.2.1 ∈ ab_Tg ∧ Cond.initialized mX11_lie.1.cls ∈ ab_Tg ∧ (mX11_lie.1.cls ≠ "java/lang/invoke/MethodHandle" ∧ mX11_lie.1.cls ≠ "java/lang/invoke/VarHandle" ∧ (parseMethodDescriptor mX11_lie.1.desc).map (fun d => d.parameters.length) = some 2) := ⟨tw_683, tw_19, by decide +kernel, by decide +kernel, by decide +kernel⟩
theorem zc_X11_tells : Cond.code mX11_tells.1 mX11_tells.2.1 mX11_tells.2.2.1 mX11_tells.2.2.2.1 ∈ ab_Tg ∧ Cond.initialized mX11_tells.1.cls ∈ ab_Tg ∧ (mX11_tells.1.cls ≠ "java/lang/invoke/MethodHandle" ∧ mX11_tells.1.cls ≠ "java/lang/invoke/VarHandle" ∧ (parseMethodDescriptor mX11_tells.1.desc).map (fun d => d.parameters.length) = some 3) := ⟨tw_704, tw_19, by decide +kernel, by decide +kernel, by decide +kernel⟩
theorem zc_X11_verdict : Cond.code mX11_verdict.1 mX11_verdict.2.1 mX11_verdict.2.2.1 mX11_verdict.2.2.2.1 ∈ ab_Tg ∧ Cond.initialized mX11_verdict.1.cls ∈ ab_Tg ∧ (mX11_verdict.1.cls ≠ "java/lang/invoke/MethodHandle" ∧ mX11_verdict.1.cls ≠ "java/lang/invoke/VarHandle" ∧ (parseMethodDescriptor mX11_verdict.1.desc).map (fun d => d.parameters.length) = some 0) := ⟨tw_899, tw_19, by decide +kernel, by decide +kernel, by decide +kernel⟩
theorem zc_X11_certain : Cond.code mX11_certain.1 mX11_certain.2.1 mX11_certain.2.2.1 mX11_certain.2.2.2.1 ∈ ab_Tg ∧ Cond.initialized mX11_certain.1.cls ∈ ab_Tg ∧ (mX11_certain.1.cls ≠ "java/lang/invoke/MethodHandle" ∧ mX11_certain.1.cls ≠ "java/lang/invoke/VarHandle" ∧ (parseMethodDescriptor mX11_certain.1.desc).map (fun d => d.parameters.length) = some 1) := ⟨tw_713, tw_19, by decide +kernel, by decide +kernel, by decide +kernel⟩
theorem zc_X11_knowsOf : Cond.code mX11_knowsOf.1 mX11_knowsOf.2.1 mX11_knowsOf.2.2.1 mX11_knowsOf.2.2.2.1 ∈ ab_Tg ∧ Cond.initialized mX11_knowsOf.1.cls ∈ ab_Tg ∧ (mX11_knowsOf.1.cls ≠ "java/lang/invoke/MethodHandle" ∧ mX11_knowsOf.1.cls ≠ "java/lang/invoke/VarHandle" ∧ (parseMethodDescriptor mX11_knowsOf.1.desc).map (fun d => d.parameters.length) = some 2) := ⟨tw_723, tw_19, by decide +kernel, by decide +kernel, by decide +kernel⟩
theorem zc_X11_allKnow : Cond.code mX11_allKnow.1 mX11_allKnow.2.1 mX11_allKnow.2.2.1 mX11_allKnow.2.2.2.1 ∈ ab_Tg ∧ Cond.initialized mX11_allKnow.1.cls ∈ ab_Tg ∧ (mX11_allKnow.1.cls ≠ "java/lang/invoke/MethodHandle" ∧ mX11_allKnow.1.cls ≠ "java/lang/invoke/VarHandle" ∧ (parseMethodDescriptor mX11_allKnow.1.desc).map (fun d => d.parameters.length) = some 1) := ⟨tw_727, tw_19, by decide +kernel, by decide +kernel, by decide +kernel⟩
theorem zc_X11_seeds : Cond.code mX11_seeds.1 mX11_seeds.2.1 mX11_seeds.2.2.1 mX11_seeds.2.2.2.1 ∈ ab_Tg ∧ Cond.initialized mX11_seeds.1.cls ∈ ab_Tg ∧ (mX11_seeds.1.cls ≠ "java/lang/invoke/MethodHandle" ∧ mX11_seeds.1.cls ≠ "java/lang/invoke/VarHandle" ∧ (parseMethodDescriptor mX11_seeds.1.desc).map (fun d => d.parameters.length) = some 3) := ⟨tw_736, tw_19, by decide +kernel, by decide +kernel, by decide +kernel⟩
theorem zc_X11_image : Cond.code mX11_image.1 mX11_image.2.1 mX11_image.2.2.1 mX11_image.2.2.2.1 ∈ ab_Tg ∧ Cond.initialized mX11_image.1.cls ∈ ab_Tg ∧ (mX11_image.1.cls ≠ "java/lang/invoke/MethodHandle" ∧ mX11_image.1.cls ≠ "java/lang/invoke/VarHandle" ∧ (parseMethodDescriptor mX11_image.1.desc).map (fun d => d.parameters.length) = some 0) := ⟨tw_755, tw_19, by decide +kernel, by decide +kernel, by decide +kernel⟩
theorem zc_X11_restore : Cond.code mX11_restore.1 mX11_restore.2.1 mX11_restore.2.2.1 mX11_restore.2.2.2.1 ∈ ab_Tg ∧ Cond.initialized mX11_restore.1.cls ∈ ab_Tg ∧ (mX11_restore.1.cls ≠ "java/lang/invoke/MethodHandle" ∧ mX11_restore.1.cls ≠ "java/lang/invoke/VarHandle" ∧ (parseMethodDescriptor mX11_restore.1.desc).map (fun d => d.parameters.length) = some 0) := ⟨tw_759, tw_19, by decide +kernel, by decide +kernel, by decide +kernel⟩
theorem zc_X11_count : Cond.code mX11_count.1 mX11_count.2.1 mX11_count.2.2.1 mX11_count.2.2.2.1 ∈ ab_Tg ∧ Cond.initialized mX11_count.1.cls ∈ ab_Tg ∧ (mX11_count.1.cls ≠ "java/lang/invoke/MethodHandle" ∧ mX11_count.1.cls ≠ "java/lang/invoke/VarHandle" ∧ (parseMethodDescriptor mX11_count.1.desc).map (fun d => d.parameters.length) = some 1) := ⟨tw_763, tw_19, by decide +kernel, by decide +kernel, by decide +kernel⟩
theorem zc_X11_keep : Cond.code mX11_keep.1 mX11_keep.2.1 mX11_keep.2.2.1 mX11_keep.2.2.2.1 ∈ ab_Tg ∧ Cond.initialized mX11_keep.1.cls ∈ ab_Tg ∧ (mX11_keep.1.cls ≠ "java/lang/invoke/MethodHandle" ∧ mX11_keep.1.cls ≠ "java/lang/invoke/VarHandle" ∧ (parseMethodDescriptor mX11_keep.1.desc).map (fun d => d.parameters.length) = some 4) := ⟨tw_772, tw_19, by decide +kernel, by decide +kernel, by decide +kernel⟩
theorem zc_X11_row : Cond.code mX11_row.1 mX11_row.2.1 mX11_row.2.2.1 mX11_row.2.2.2.1 ∈ ab_Tg ∧ Cond.initialized mX11_row.1.cls ∈ ab_Tg ∧ (mX11_row.1.cls ≠ "java/lang/invoke/MethodHandle" ∧ mX11_row.1.cls ≠ "java/lang/invoke/VarHandle" ∧ (parseMethodDescriptor mX11_row.1.desc).map (fun d => d.parameters.length) = some 3) := ⟨tw_784, tw_19, by decide +kernel, by decide +kernel, by decide +kernel⟩
theorem zc_X11_put : Cond.code mX11_put.1 mX11_put.2.1 mX11_put.2.2.1 mX11_put.2.2.2.1 ∈ ab_Tg ∧ Cond.initialized mX11_put.1.cls ∈ ab_Tg ∧ (mX11_put.1.cls ≠ "java/lang/invoke/MethodHandle" ∧ mX11_put.1.cls ≠ "java/lang/invoke/VarHandle" ∧ (parseMethodDescriptor mX11_put.1.desc).map (fun d => d.parameters.length) = some 3) := ⟨tw_792, tw_19, by decide +kernel, by decide +kernel, by decide +kernel⟩
theorem zc_X11_element : Cond.code mX11_element.1 mX11_element.2.1 mX11_element.2.2.1 mX11_element.2.2.2.1 ∈ ab_Tg ∧ Cond.initialized mX11_element.1.cls ∈ ab_Tg ∧ (mX11_element.1.cls ≠ "java/lang/invoke/MethodHandle" ∧ mX11_element.1.cls ≠ "java/lang/invoke/VarHandle" ∧ (parseMethodDescriptor mX11_element.1.desc).map (fun d => d.parameters.length) = some 2) := ⟨tw_803, tw_19, by decide +kernel, by decide +kernel, by decide +kernel⟩
theorem zc_X11_isFact : Cond.code mX11_isFact.1 mX11_isFact.2.1 mX11_isFact.2.2.1 mX11_isFact.2.2.2.1 ∈ ab_Tg ∧ Cond.initialized mX11_isFact.1.cls ∈ ab_Tg ∧ (mX11_isFact.1.cls ≠ "java/lang/invoke/MethodHandle" ∧ mX11_isFact.1.cls ≠ "java/lang/invoke/VarHandle" ∧ (parseMethodDescriptor mX11_isFact.1.desc).map (fun d => d.parameters.length) = some 1) := ⟨tw_355, tw_19, by decide +kernel, by decide +kernel, by decide +kernel⟩
theorem zc_X11_areFacts : Cond.code mX11_areFacts.1 mX11_areFacts.2.1 mX11_areFacts.2.2.1 mX11_areFacts.2.2.2.1 ∈ ab_Tg ∧ Cond.initialized mX11_areFacts.1.cls ∈ ab_Tg ∧ (mX11_areFacts.1.cls ≠ "java/lang/invoke/MethodHandle" ∧ mX11_areFacts.1.cls ≠ "java/lang/invoke/VarHandle" ∧ (parseMethodDescriptor mX11_areFacts.1.desc).map (fun d => d.parameters.length) = some 1) := ⟨tw_440, tw_19, by decide +kernel, by decide +kernel, by decide +kernel⟩
theorem zc_X11_isWorld : Cond.code mX11_isWorld.1 mX11_isWorld.2.1 mX11_isWorld.2.2.1 mX11_isWorld.2.2.2.1 ∈ ab_Tg ∧ Cond.initialized mX11_isWorld.1.cls ∈ ab_Tg ∧ (mX11_isWorld.1.cls ≠ "java/lang/invoke/MethodHandle" ∧ mX11_isWorld.1.cls ≠ "java/lang/invoke/VarHandle" ∧ (parseMethodDescriptor mX11_isWorld.1.desc).map (fun d => d.parameters.length) = some 1) := ⟨tw_447, tw_19, by decide +kernel, by decide +kernel, by decide +kernel⟩
theorem zc_X11_isEitherOr : Cond.code mX11_isEitherOr.1 mX11_isEitherOr.2.1 mX11_isEitherOr.2.2.1 mX11_isEitherOr.2.2.2.1 ∈ ab_Tg ∧ Cond.initialized mX11_isEitherOr.1.cls ∈ ab_Tg ∧ (mX11_isEitherOr.1.cls ≠ "java/lang/invoke/MethodHandle" ∧ mX11_isEitherOr.1.cls ≠ "java/lang/invoke/VarHandle" ∧ (parseMethodDescriptor mX11_isEitherOr.1.desc).map (fun d => d.parameters.length) = some 1) := ⟨tw_579, tw_19, by decide +kernel, by decide +kernel, by decide +kernel⟩
theorem zc_X11_oneIf : Cond.code mX11_oneIf.1 mX11_oneIf.2.1 mX11_oneIf.2.2.1 mX11_oneIf.2.2.2.1 ∈ ab_Tg ∧ Cond.initialized mX11_oneIf.1.cls ∈ ab_Tg ∧ (mX11_oneIf.1.cls ≠ "java/lang/invoke/MethodHandle" ∧ mX11_oneIf.1.cls ≠ "java/lang/invoke/VarHandle" ∧ (parseMethodDescriptor mX11_oneIf.1.desc).map (fun d => d.parameters.length) = some 1) := ⟨tw_468, tw_19, by decide +kernel, by decide +kernel, by decide +kernel⟩
theorem zc_X11_refusedLong : Cond.code mX11_refusedLong.1 mX11_refusedLong.2.1 mX11_refusedLong.2.2.1 mX11_refusedLong.2.2.2.1 ∈ ab_Tg ∧ Cond.initialized mX11_refusedLong.1.cls ∈ ab_Tg ∧ (mX11_refusedLong.1.cls ≠ "java/lang/invoke/MethodHandle" ∧ mX11_refusedLong.1.cls ≠ "java/lang/invoke/VarHandle" ∧ (parseMethodDescriptor mX11_refusedLong.1.desc).map (fun d => d.parameters.length) = some 1) := ⟨tw_599, tw_19, by decide +kernel, by decide +kernel, by decide +kernel⟩
theorem zc_X11_shelfAt : Cond.code mX11_shelfAt.1 mX11_shelfAt.2.1 mX11_shelfAt.2.2.1 mX11_shelfAt.2.2.2.1 ∈ ab_Tg ∧ Cond.initialized mX11_shelfAt.1.cls ∈ ab_Tg ∧ (mX11_shelfAt.1.cls ≠ "java/lang/invoke/MethodHandle" ∧ mX11_shelfAt.1.cls ≠ "java/lang/invoke/VarHandle" ∧ (parseMethodDescriptor mX11_shelfAt.1.desc).map (fun d => d.parameters.length) = some 1) := ⟨tw_272, tw_19, by decide +kernel, by decide +kernel, by decide +kernel⟩
theorem zc_X11_kindNumbered : Cond.code mX11_kindNumbered.1 mX11_kindNumbered.2.1 mX11_kindNumbered.2.2.1 mX11_kindNumbered.2.2.2.1 ∈ ab_Tg ∧ Cond.initialized mX11_kindNumbered.1.cls ∈ ab_Tg ∧ (mX11_kindNumbered.1.cls ≠ "java/lang/invoke/MethodHandle" ∧ mX11_kindNumbered.1.cls ≠ "java/lang/invoke/VarHandle" ∧ (parseMethodDescriptor mX11_kindNumbered.1.desc).map (fun d => d.parameters.length) = some 1) := ⟨tw_350, tw_19, by decide +kernel, by decide +kernel, by decide +kernel⟩
theorem zc_X11_sayingIn : Cond.code mX11_sayingIn.1 mX11_sayingIn.2.1 mX11_sayingIn.2.2.1 mX11_sayingIn.2.2.2.1 ∈ ab_Tg ∧ Cond.initialized mX11_sayingIn.1.cls ∈ ab_Tg ∧ (mX11_sayingIn.1.cls ≠ "java/lang/invoke/MethodHandle" ∧ mX11_sayingIn.1.cls ≠ "java/lang/invoke/VarHandle" ∧ (parseMethodDescriptor mX11_sayingIn.1.desc).map (fun d => d.parameters.length) = some 2) := ⟨tw_462, tw_19, by decide +kernel, by decide +kernel, by decide +kernel⟩
theorem zc_X11_newSaying : Cond.code mX11_newSaying.1 mX11_newSaying.2.1 mX11_newSaying.2.2.1 mX11_newSaying.2.2.2.1 ∈ ab_Tg ∧ Cond.initialized mX11_newSaying.1.cls ∈ ab_Tg ∧ (mX11_newSaying.1.cls ≠ "java/lang/invoke/MethodHandle" ∧ mX11_newSaying.1.cls ≠ "java/lang/invoke/VarHandle" ∧ (parseMethodDescriptor mX11_newSaying.1.desc).map (fun d => d.parameters.length) = some 5) := ⟨tw_358, tw_19, by decide +kernel, by decide +kernel, by decide +kernel⟩
theorem zc_X11_worldsWith : Cond.code mX11_worldsWith.1 mX11_worldsWith.2.1 mX11_worldsWith.2.2.1 mX11_worldsWith.2.2.2.1 ∈ ab_Tg ∧ Cond.initialized mX11_worldsWith.1.cls ∈ ab_Tg ∧ (mX11_worldsWith.1.cls ≠ "java/lang/invoke/MethodHandle" ∧ mX11_worldsWith.1.cls ≠ "java/lang/invoke/VarHandle" ∧ (parseMethodDescriptor mX11_worldsWith.1.desc).map (fun d => d.parameters.length) = some 1) := ⟨tw_375, tw_19, by decide +kernel, by decide +kernel, by decide +kernel⟩
theorem zc_X11_factBit : Cond.code mX11_factBit.1 mX11_factBit.2.1 mX11_factBit.2.2.1 mX11_factBit.2.2.2.1 ∈ ab_Tg ∧ Cond.initialized mX11_factBit.1.cls ∈ ab_Tg ∧ (mX11_factBit.1.cls ≠ "java/lang/invoke/MethodHandle" ∧ mX11_factBit.1.cls ≠ "java/lang/invoke/VarHandle" ∧ (parseMethodDescriptor mX11_factBit.1.desc).map (fun d => d.parameters.length) = some 1) := ⟨tw_524, tw_19, by decide +kernel, by decide +kernel, by decide +kernel⟩
theorem zc_X11_hasWorld : Cond.code mX11_hasWorld.1 mX11_hasWorld.2.1 mX11_hasWorld.2.2.1 mX11_hasWorld.2.2.2.1 ∈ ab_Tg ∧ Cond.initialized mX11_hasWorld.1.cls ∈ ab_Tg ∧ (mX11_hasWorld.1.cls ≠ "java/lang/invoke/MethodHandle" ∧ mX11_hasWorld.1.cls ≠ "java/lang/invoke/VarHandle" ∧ (parseMethodDescriptor mX11_hasWorld.1.desc).map (fun d => d.parameters.length) = some 2) := ⟨tw_465, tw_19, by decide +kernel, by decide +kernel, by decide +kernel⟩
theorem zc_X11_factsOfAll : Cond.code mX11_factsOfAll.1 mX11_factsOfAll.2.1 mX11_factsOfAll.2.2.1 mX11_factsOfAll.2.2.2.1 ∈ ab_Tg ∧ Cond.initialized mX11_factsOfAll.1.cls ∈ ab_Tg ∧ (mX11_factsOfAll.1.cls ≠ "java/lang/invoke/MethodHandle" ∧ mX11_factsOfAll.1.cls ≠ "java/lang/invoke/VarHandle" ∧ (parseMethodDescriptor mX11_factsOfAll.1.desc).map (fun d => d.parameters.length) = some 1) := ⟨tw_618, tw_19, by decide +kernel, by decide +kernel, by decide +kernel⟩
theorem zc_X11_factsOfNone : Cond.code mX11_factsOfNone.1 mX11_factsOfNone.2.1 mX11_factsOfNone.2.2.1 mX11_factsOfNone.2.2.2.1 ∈ ab_Tg ∧ Cond.initialized mX11_factsOfNone.1.cls ∈ ab_Tg ∧ (mX11_factsOfNone.1.cls ≠ "java/lang/invoke/MethodHandle" ∧ mX11_factsOfNone.1.cls ≠ "java/lang/invoke/VarHandle" ∧ (parseMethodDescriptor mX11_factsOfNone.1.desc).map (fun d => d.parameters.length) = some 1) := ⟨tw_624, tw_19, by decide +kernel, by decide +kernel, by decide +kernel⟩
theorem zc_X11_factsAlike : Cond.code mX11_factsAlike.1 mX11_factsAlike.2.1 mX11_factsAlike.2.2.1 mX11_factsAlike.2.2.2.1 ∈ ab_Tg ∧ Cond.initialized mX11_factsAlike.1.cls ∈ ab_Tg ∧ (mX11_factsAlike.1.cls ≠ "java/lang/invoke/MethodHandle" ∧ mX11_factsAlike.1.cls ≠ "java/lang/invoke/VarHandle" ∧ (parseMethodDescriptor mX11_factsAlike.1.desc).map (fun d => d.parameters.length) = some 1) := ⟨tw_719, tw_19, by decide +kernel, by decide +kernel, by decide +kernel⟩
theorem zc_X11_isProvedBy : Cond.code mX11_isProvedBy.1 mX11_isProvedBy.2.1 mX11_isProvedBy.2.2.1 mX11_isProvedBy.2.2.2.1 ∈ ab_Tg ∧ Cond.initialized mX11_isProvedBy.1.cls ∈ ab_Tg ∧ (mX11_isProvedBy.1.cls ≠ "java/lang/invoke/MethodHandle" ∧ mX11_isProvedBy.1.cls ≠ "java/lang/invoke/VarHandle" ∧ (parseMethodDescriptor mX11_isProvedBy.1.desc).map (fun d => d.parameters.length) = some 2) := ⟨tw_908, tw_19, by decide +kernel, by decide +kernel, by decide +kernel⟩
theorem zc_X11_likeInKnown : Cond.code mX11_likeInKnown.1 mX11_likeInKnown.2.1 mX11_likeInKnown.2.2.1 mX11_likeInKnown.2.2.2.1 ∈ ab_Tg ∧ Cond.initialized mX11_likeInKnown.1.cls ∈ ab_Tg ∧ (mX11_likeInKnown.1.cls ≠ "java/lang/invoke/MethodHandle" ∧ mX11_likeInKnown.1.cls ≠ "java/lang/invoke/VarHandle" ∧ (parseMethodDescriptor mX11_likeInKnown.1.desc).map (fun d => d.parameters.length) = some 3) := ⟨tw_716, tw_19, by decide +kernel, by decide +kernel, by decide +kernel⟩
theorem zc_X11_brokenPlace : Cond.code mX11_brokenPlace.1 mX11_brokenPlace.2.1 mX11_brokenPlace.2.2.1 mX11_brokenPlace.2.2.2.1 ∈ ab_Tg ∧ Cond.initialized mX11_brokenPlace.1.cls ∈ ab_Tg ∧ (mX11_brokenPlace.1.cls ≠ "java/lang/invoke/MethodHandle" ∧ mX11_brokenPlace.1.cls ≠ "java/lang/invoke/VarHandle" ∧ (parseMethodDescriptor mX11_brokenPlace.1.desc).map (fun d => d.parameters.length) = some 1) := ⟨tw_286, tw_19, by decide +kernel, by decide +kernel, by decide +kernel⟩
theorem zc_X11_digitsBehind : Cond.code mX11_digitsBehind.1 mX11_digitsBehind.2.1 mX11_digitsBehind.2.2.1 mX11_digitsBehind.2.2.2.1 ∈ ab_Tg ∧ Cond.initialized mX11_digitsBehind.1.cls ∈ ab_Tg ∧ (mX11_digitsBehind.1.cls ≠ "java/lang/invoke/MethodHandle" ∧ mX11_digitsBehind.1.cls ≠ "java/lang/invoke/VarHandle" ∧ (parseMethodDescriptor mX11_digitsBehind.1.desc).map (fun d => d.parameters.length) = some 1) := ⟨tw_297, tw_19, by decide +kernel, by decide +kernel, by decide +kernel⟩
theorem zc_X11_isDigit : Cond.code mX11_isDigit.1 mX11_isDigit.2.1 mX11_isDigit.2.2.1 mX11_isDigit.2.2.2.1 ∈ ab_Tg ∧ Cond.initialized mX11_isDigit.1.cls ∈ ab_Tg ∧ (mX11_isDigit.1.cls ≠ "java/lang/invoke/MethodHandle" ∧ mX11_isDigit.1.cls ≠ "java/lang/invoke/VarHandle" ∧ (parseMethodDescriptor mX11_isDigit.1.desc).map (fun d => d.parameters.length) = some 1) := ⟨tw_300, tw_19, by decide +kernel, by decide +kernel, by decide +kernel⟩
theorem zc_X11_digitAt : Cond.code mX11_digitAt.1 mX11_digitAt.2.1 mX11_digitAt.2.2.1 mX11_digitAt.2.2.2.1 ∈ ab_Tg ∧ Cond.initialized mX11_digitAt.1.cls ∈ ab_Tg ∧ (mX11_digitAt.1.cls ≠ "java/lang/invoke/MethodHandle" ∧ mX11_digitAt.1.cls ≠ "java/lang/invoke/VarHandle" ∧ (parseMethodDescriptor mX11_digitAt.1.desc).map (fun d => d.parameters.length) = some 2) := ⟨tw_347, tw_19, by decide +kernel, by decide +kernel, by decide +kernel⟩
theorem zc_X11_twoDigitsAt : Cond.code mX11_twoDigitsAt.1 mX11_twoDigitsAt.2.1 mX11_twoDigitsAt.2.2.1 mX11_twoDigitsAt.2.2.2.1 ∈ ab_Tg ∧ Cond.initialized mX11_twoDigitsAt.1.cls ∈ ab_Tg ∧ (mX11_twoDigitsAt.1.cls ≠ "java/lang/invoke/MethodHandle" ∧ mX11_twoDigitsAt.1.cls ≠ "java/lang/invoke/VarHandle" ∧ (parseMethodDescriptor mX11_twoDigitsAt.1.desc).map (fun d => d.parameters.length) = some 2) := ⟨tw_433, tw_19, by decide +kernel, by decide +kernel, by decide +kernel⟩
theorem zc_X11_enact : Cond.code mX11_enact.1 mX11_enact.2.1 mX11_enact.2.2.1 mX11_enact.2.2.2.1 ∈ ab_Tg ∧ Cond.initialized mX11_enact.1.cls ∈ ab_Tg ∧ (mX11_enact.1.cls ≠ "java/lang/invoke/MethodHandle" ∧ mX11_enact.1.cls ≠ "java/lang/invoke/VarHandle" ∧ (parseMethodDescriptor mX11_enact.1.desc).map (fun d => d.parameters.length) = some 1) := ⟨tw_303, tw_19, by decide +kernel, by decide +kernel, by decide +kernel⟩
theorem zc_X11_isEnacted : Cond.code mX11_isEnacted.1 mX11_isEnacted.2.1 mX11_isEnacted.2.2.1 mX11_isEnacted.2.2.2.1 ∈ ab_Tg ∧ Cond.initialized mX11_isEnacted.1.cls ∈ ab_Tg ∧ (mX11_isEnacted.1.cls ≠ "java/lang/invoke/MethodHandle" ∧ mX11_isEnacted.1.cls ≠ "java/lang/invoke/VarHandle" ∧ (parseMethodDescriptor mX11_isEnacted.1.desc).map (fun d => d.parameters.length) = some 2) := ⟨tw_341, tw_19, by decide +kernel, by decide +kernel, by decide +kernel⟩
theorem zc_X11_sayingAt : Cond.code mX11_sayingAt.1 mX11_sayingAt.2.1 mX11_sayingAt.2.2.1 mX11_sayingAt.2.2.2.1 ∈ ab_Tg ∧ Cond.initialized mX11_sayingAt.1.cls ∈ ab_Tg ∧ (mX11_sayingAt.1.cls ≠ "java/lang/invoke/MethodHandle" ∧ mX11_sayingAt.1.cls ≠ "java/lang/invoke/VarHandle" ∧ (parseMethodDescriptor mX11_sayingAt.1.desc).map (fun d => d.parameters.length) = some 3) := ⟨tw_344, tw_19, by decide +kernel, by decide +kernel, by decide +kernel⟩
theorem zc_X11_leastOrder : Cond.code mX11_leastOrder.1 mX11_leastOrder.2.1 mX11_leastOrder.2.2.1 mX11_leastOrder.2.2.2.1 ∈ ab_Tg ∧ Cond.initialized mX11_leastOrder.1.cls ∈ ab_Tg ∧ (mX11_leastOrder.1.cls ≠ "java/lang/invoke/MethodHandle" ∧ mX11_leastOrder.1.cls ≠ "java/lang/invoke/VarHandle" ∧ (parseMethodDescriptor mX11_leastOrder.1.desc).map (fun d => d.parameters.length) = some 1) := ⟨tw_916, tw_19, by decide +kernel, by decide +kernel, by decide +kernel⟩
theorem zc_X11_digitsWithAhead : Cond.code mX11_digitsWithAhead.1 mX11_digitsWithAhead.2.1 mX11_digitsWithAhead.2.2.1 mX11_digitsWithAhead.2.2.2.1 ∈ ab_Tg ∧ Cond.initialized mX11_digitsWithAhead.1.cls ∈ ab_Tg ∧ (mX11_digitsWithAhead.1.cls ≠ "java/lang/invoke/MethodHandle" ∧ mX11_digitsWithAhead.1.cls ≠ "java/lang/invoke/VarHandle" ∧ (parseMethodDescriptor mX11_digitsWithAhead.1.desc).map (fun d => d.parameters.length) = some 1) := ⟨tw_919, tw_19, by decide +kernel, by decide +kernel, by decide +kernel⟩
theorem zc_X11_digitsOf : Cond.code mX11_digitsOf.1 mX11_digitsOf.2.1 mX11_digitsOf.2.2.1 mX11_digitsOf.2.2.2.1 ∈ ab_Tg ∧ Cond.initialized mX11_digitsOf.1.cls ∈ ab_Tg ∧ (mX11_digitsOf.1.cls ≠ "java/lang/invoke/MethodHandle" ∧ mX11_digitsOf.1.cls ≠ "java/lang/invoke/VarHandle" ∧ (parseMethodDescriptor mX11_digitsOf.1.desc).map (fun d => d.parameters.length) = some 2) := ⟨tw_922, tw_19, by decide +kernel, by decide +kernel, by decide +kernel⟩
theorem zc_X11_kindOfCode : Cond.code mX11_kindOfCode.1 mX11_kindOfCode.2.1 mX11_kindOfCode.2.2.1 mX11_kindOfCode.2.2.2.1 ∈ ab_Tg ∧ Cond.initialized mX11_kindOfCode.1.cls ∈ ab_Tg ∧ (mX11_kindOfCode.1.cls ≠ "java/lang/invoke/MethodHandle" ∧ mX11_kindOfCode.1.cls ≠ "java/lang/invoke/VarHandle" ∧ (parseMethodDescriptor mX11_kindOfCode.1.desc).map (fun d => d.parameters.length) = some 1) := ⟨tw_689, tw_19, by decide +kernel, by decide +kernel, by decide +kernel⟩
theorem zc_X11_firstOfCode : Cond.code mX11_firstOfCode.1 mX11_firstOfCode.2.1 mX11_firstOfCode.2.2.1 mX11_firstOfCode.2.2.2.1 ∈ ab_Tg ∧ Cond.initialized mX11_firstOfCode.1.cls ∈ ab_Tg ∧ (mX11_firstOfCode.1.cls ≠ "java/lang/invoke/MethodHandle" ∧ mX11_firstOfCode.1.cls ≠ "java/lang/invoke/VarHandle" ∧ (parseMethodDescriptor mX11_firstOfCode.1.desc).map (fun d => d.parameters.length) = some 1) := ⟨tw_692, tw_19, by decide +kernel, by decide +kernel, by decide +kernel⟩
theorem zc_X11_secondOfCode : Cond.code mX11_secondOfCode.1 mX11_secondOfCode.2.1 mX11_secondOfCode.2.2.1 mX11_secondOfCode.2.2.2.1 ∈ ab_Tg ∧ Cond.initialized mX11_secondOfCode.1.cls ∈ ab_Tg ∧ (mX11_secondOfCode.1.cls ≠ "java/lang/invoke/MethodHandle" ∧ mX11_secondOfCode.1.cls ≠ "java/lang/invoke/VarHandle" ∧ (parseMethodDescriptor mX11_secondOfCode.1.desc).map (fun d => d.parameters.length) = some 1) := ⟨tw_695, tw_19, by decide +kernel, by decide +kernel, by decide +kernel⟩
theorem zc_X11_worldsOfCode : Cond.code mX11_worldsOfCode.1 mX11_worldsOfCode.2.1 mX11_worldsOfCode.2.2.1 mX11_worldsOfCode.2.2.2.1 ∈ ab_Tg ∧ Cond.initialized mX11_worldsOfCode.1.cls ∈ ab_Tg ∧ (mX11_worldsOfCode.1.cls ≠ "java/lang/invoke/MethodHandle" ∧ mX11_worldsOfCode.1.cls ≠ "java/lang/invoke/VarHandle" ∧ (parseMethodDescriptor mX11_worldsOfCode.1.desc).map (fun d => d.parameters.length) = some 1) := ⟨tw_700, tw_19, by decide +kernel, by decide +kernel, by decide +kernel⟩
theorem zc_X11_isLie : Cond.code mX11_isLie.1 mX11_isLie.2.1 mX11_isLie.2.2.1 mX11_isLie.2.2.2.1 ∈ ab_Tg ∧ Cond.initialized mX11_isLie.1.cls ∈ ab_Tg ∧ (mX11_isLie.1.cls ≠ "java/lang/invoke/MethodHandle" ∧ mX11_isLie.1.cls ≠ "java/lang/invoke/VarHandle" ∧ (parseMethodDescriptor mX11_isLie.1.desc).map (fun d => d.parameters.length) = some 2) := ⟨tw_686, tw_19, by decide +kernel, by decide +kernel, by decide +kernel⟩
theorem zc_X11_nextSeed : Cond.code mX11_nextSeed.1 mX11_nextSeed.2.1 mX11_nextSeed.2.2.1 mX11_nextSeed.2.2.2.1 ∈ ab_Tg ∧ Cond.initialized mX11_nextSeed.1.cls ∈ ab_Tg ∧ (mX11_nextSeed.1.cls ≠ "java/lang/invoke/MethodHandle" ∧ mX11_nextSeed.1.cls ≠ "java/lang/invoke/VarHandle" ∧ (parseMethodDescriptor mX11_nextSeed.1.desc).map (fun d => d.parameters.length) = some 1) := ⟨tw_742, tw_19, by decide +kernel, by decide +kernel, by decide +kernel⟩
theorem zc_X11_drawnBelow : Cond.code mX11_drawnBelow.1 mX11_drawnBelow.2.1 mX11_drawnBelow.2.2.1 mX11_drawnBelow.2.2.2.1 ∈ ab_Tg ∧ Cond.initialized mX11_drawnBelow.1.cls ∈ ab_Tg ∧ (mX11_drawnBelow.1.cls ≠ "java/lang/invoke/MethodHandle" ∧ mX11_drawnBelow.1.cls ≠ "java/lang/invoke/VarHandle" ∧ (parseMethodDescriptor mX11_drawnBelow.1.desc).map (fun d => d.parameters.length) = some 2) := ⟨tw_746, tw_19, by decide +kernel, by decide +kernel, by decide +kernel⟩
theorem zc_X11_seedAfterDraws : Cond.code mX11_seedAfterDraws.1 mX11_seedAfterDraws.2.1 mX11_seedAfterDraws.2.2.1 mX11_seedAfterDraws.2.2.2.1 ∈ ab_Tg ∧ Cond.initialized mX11_seedAfterDraws.1.cls ∈ ab_Tg ∧ (mX11_seedAfterDraws.1.cls ≠ "java/lang/invoke/MethodHandle" ∧ mX11_seedAfterDraws.1.cls ≠ "java/lang/invoke/VarHandle" ∧ (parseMethodDescriptor mX11_seedAfterDraws.1.desc).map (fun d => d.parameters.length) = some 1) := ⟨tw_751, tw_19, by decide +kernel, by decide +kernel, by decide +kernel⟩
theorem zc_X11_worldsOfDraws : Cond.code mX11_worldsOfDraws.1 mX11_worldsOfDraws.2.1 mX11_worldsOfDraws.2.2.1 mX11_worldsOfDraws.2.2.2.1 ∈ ab_Tg ∧ Cond.initialized mX11_worldsOfDraws.1.cls ∈ ab_Tg ∧ (mX11_worldsOfDraws.1.cls ≠ "java/lang/invoke/MethodHandle" ∧ mX11_worldsOfDraws.1.cls ≠ "java/lang/invoke/VarHandle" ∧ (parseMethodDescriptor mX11_worldsOfDraws.1.desc).map (fun d => d.parameters.length) = some 1) := ⟨tw_739, tw_19, by decide +kernel, by decide +kernel, by decide +kernel⟩
theorem zc_J6_numberOfTrailingZeros_0f7a4 : Cond.code mJ6_numberOfTrailingZeros_0f7a4.1 mJ6_numberOfTrailingZeros_0f7a4.2.1 mJ6_numberOfTrailingZeros_0f7a4.2.2.1 mJ6_numberOfTrailingZeros_0f7a4.2.2.2.1 ∈ ab_Tg ∧ Cond.initialized mJ6_numberOfTrailingZeros_0f7a4.1.cls ∈ ab_Tg ∧ (mJ6_numberOfTrailingZeros_0f7a4.1.cls ≠ "java/lang/invoke/MethodHandle" ∧ mJ6_numberOfTrailingZeros_0f7a4.1.cls ≠ "java/lang/invoke/VarHandle" ∧ (parseMethodDescriptor mJ6_numberOfTrailingZeros_0f7a4.1.desc).map (fun d => d.parameters.length) = some 1) := ⟨tw_636, tw_39, by decide +kernel, by decide +kernel, by decide +kernel⟩
theorem zc_J6_bitCount_0f7a4 : Cond.code mJ6_bitCount_0f7a4.1 mJ6_bitCount_0f7a4.2.1 mJ6_bitCount_0f7a4.2.2.1 mJ6_bitCount_0f7a4.2.2.2.1 ∈ ab_Tg ∧ Cond.initialized mJ6_bitCount_0f7a4.1.cls ∈ ab_Tg ∧ (mJ6_bitCount_0f7a4.1.cls ≠ "java/lang/invoke/MethodHandle" ∧ mJ6_bitCount_0f7a4.1.cls ≠ "java/lang/invoke/VarHandle" ∧ (parseMethodDescriptor mJ6_bitCount_0f7a4.1.desc).map (fun d => d.parameters.length) = some 1) := ⟨tw_653, tw_39, by decide +kernel, by decide +kernel, by decide +kernel⟩
theorem zc_J13_bitCount_95d88 : Cond.code mJ13_bitCount_95d88.1 mJ13_bitCount_95d88.2.1 mJ13_bitCount_95d88.2.2.1 mJ13_bitCount_95d88.2.2.2.1 ∈ ab_Tg ∧ Cond.initialized mJ13_bitCount_95d88.1.cls ∈ ab_Tg ∧ (mJ13_bitCount_95d88.1.cls ≠ "java/lang/invoke/MethodHandle" ∧ mJ13_bitCount_95d88.1.cls ≠ "java/lang/invoke/VarHandle" ∧ (parseMethodDescriptor mJ13_bitCount_95d88.1.desc).map (fun d => d.parameters.length) = some 1) := ⟨tw_607, tw_40, by decide +kernel, by decide +kernel, by decide +kernel⟩
theorem zc_J9_max_7cf53 : Cond.code mJ9_max_7cf53.1 mJ9_max_7cf53.2.1 mJ9_max_7cf53.2.2.1 mJ9_max_7cf53.2.2.2.1 ∈ ab_Tg ∧ Cond.initialized mJ9_max_7cf53.1.cls ∈ ab_Tg ∧ (mJ9_max_7cf53.1.cls ≠ "java/lang/invoke/MethodHandle" ∧ mJ9_max_7cf53.1.cls ≠ "java/lang/invoke/VarHandle" ∧ (parseMethodDescriptor mJ9_max_7cf53.1.desc).map (fun d => d.parameters.length) = some 2) := ⟨tw_132, tw_26, by decide +kernel, by decide +kernel, by decide +kernel⟩
theorem zc_J9_min_7cf53 : Cond.code mJ9_min_7cf53.1 mJ9_min_7cf53.2.1 mJ9_min_7cf53.2.2.1 mJ9_min_7cf53.2.2.2.1 ∈ ab_Tg ∧ Cond.initialized mJ9_min_7cf53.1.cls ∈ ab_Tg ∧ (mJ9_min_7cf53.1.cls ≠ "java/lang/invoke/MethodHandle" ∧ mJ9_min_7cf53.1.cls ≠ "java/lang/invoke/VarHandle" ∧ (parseMethodDescriptor mJ9_min_7cf53.1.desc).map (fun d => d.parameters.length) = some 2) := ⟨tw_166, tw_26, by decide +kernel, by decide +kernel, by decide +kernel⟩
theorem zc_Jxa1e45_init_da8c8 : Cond.code mJxa1e45_init_da8c8.1 mJxa1e45_init_da8c8.2.1 mJxa1e45_init_da8c8.2.2.1 mJxa1e45_init_da8c8.2.2.2.1 ∈ ab_Tg ∧ Cond.initialized mJxa1e45_init_da8c8.1.cls ∈ ab_Tg ∧ (mJxa1e45_init_da8c8.1.cls ≠ "java/lang/invoke/MethodHandle" ∧ mJxa1e45_init_da8c8.1.cls ≠ "java/lang/invoke/VarHandle" ∧ (parseMethodDescriptor mJxa1e45_init_da8c8.1.desc).map (fun d => d.parameters.length) = some 0) := ⟨tw_65, tw_20, by decide +kernel, by decide +kernel, by decide +kernel⟩
theorem zc_Jxc12de_init_da8c8 : Cond.code mJxc12de_init_da8c8.1 mJxc12de_init_da8c8.2.1 mJxc12de_init_da8c8.2.2.1 mJxc12de_init_da8c8.2.2.2.1 ∈ ab_Tg ∧ Cond.initialized mJxc12de_init_da8c8.1.cls ∈ ab_Tg ∧ (mJxc12de_init_da8c8.1.cls ≠ "java/lang/invoke/MethodHandle" ∧ mJxc12de_init_da8c8.1.cls ≠ "java/lang/invoke/VarHandle" ∧ (parseMethodDescriptor mJxc12de_init_da8c8.1.desc).map (fun d => d.parameters.length) = some 0) := ⟨tw_62, tw_21, by decide +kernel, by decide +kernel, by decide +kernel⟩
theorem zc_Jx4a65c_init_da8c8 : Cond.code mJx4a65c_init_da8c8.1 mJx4a65c_init_da8c8.2.1 mJx4a65c_init_da8c8.2.2.1 mJx4a65c_init_da8c8.2.2.2.1 ∈ ab_Tg ∧ Cond.initialized mJx4a65c_init_da8c8.1.cls ∈ ab_Tg ∧ (mJx4a65c_init_da8c8.1.cls ≠ "java/lang/invoke/MethodHandle" ∧ mJx4a65c_init_da8c8.1.cls ≠ "java/lang/invoke/VarHandle" ∧ (parseMethodDescriptor mJx4a65c_init_da8c8.1.desc).map (fun d => d.parameters.length) = some 0) := ⟨tw_59, tw_22, by decide +kernel, by decide +kernel, by decide +kernel⟩
theorem zc_Jx4a65c_grow_92f84 : Cond.code mJx4a65c_grow_92f84.1 mJx4a65c_grow_92f84.2.1 mJx4a65c_grow_92f84.2.2.1 mJx4a65c_grow_92f84.2.2.2.1 ∈ ab_Tg ∧ Cond.initialized mJx4a65c_grow_92f84.1.cls ∈ ab_Tg ∧ (mJx4a65c_grow_92f84.1.cls ≠ "java/lang/invoke/MethodHandle" ∧ mJx4a65c_grow_92f84.1.cls ≠ "java/lang/invoke/VarHandle" ∧ (parseMethodDescriptor mJx4a65c_grow_92f84.1.desc).map (fun d => d.parameters.length) = some 1) := ⟨tw_126, tw_22, by decide +kernel, by decide +kernel, by decide +kernel⟩
theorem zc_Jx4a65c_grow_d5877 : Cond.code mJx4a65c_grow_d5877.1 mJx4a65c_grow_d5877.2.1 mJx4a65c_grow_d5877.2.2.1 mJx4a65c_grow_d5877.2.2.2.1 ∈ ab_Tg ∧ Cond.initialized mJx4a65c_grow_d5877.1.cls ∈ ab_Tg ∧ (mJx4a65c_grow_d5877.1.cls ≠ "java/lang/invoke/MethodHandle" ∧ mJx4a65c_grow_d5877.1.cls ≠ "java/lang/invoke/VarHandle" ∧ (parseMethodDescriptor mJx4a65c_grow_d5877.1.desc).map (fun d => d.parameters.length) = some 0) := ⟨tw_123, tw_22, by decide +kernel, by decide +kernel, by decide +kernel⟩
theorem zc_Jx4a65c_size_8abf5 : Cond.code mJx4a65c_size_8abf5.1 mJx4a65c_size_8abf5.2.1 mJx4a65c_size_8abf5.2.2.1 mJx4a65c_size_8abf5.2.2.2.1 ∈ ab_Tg ∧ Cond.initialized mJx4a65c_size_8abf5.1.cls ∈ ab_Tg ∧ (mJx4a65c_size_8abf5.1.cls ≠ "java/lang/invoke/MethodHandle" ∧ mJx4a65c_size_8abf5.1.cls ≠ "java/lang/invoke/VarHandle" ∧ (parseMethodDescriptor mJx4a65c_size_8abf5.1.desc).map (fun d => d.parameters.length) = some 0) := ⟨tw_318, tw_22, by decide +kernel, by decide +kernel, by decide +kernel⟩
theorem zc_Jx4a65c_elementData_915e3 : Cond.code mJx4a65c_elementData_915e3.1 mJx4a65c_elementData_915e3.2.1 mJx4a65c_elementData_915e3.2.2.1 mJx4a65c_elementData_915e3.2.2.2.1 ∈ ab_Tg ∧ Cond.initialized mJx4a65c_elementData_915e3.1.cls ∈ ab_Tg ∧ (mJx4a65c_elementData_915e3.1.cls ≠ "java/lang/invoke/MethodHandle" ∧ mJx4a65c_elementData_915e3.1.cls ≠ "java/lang/invoke/VarHandle" ∧ (parseMethodDescriptor mJx4a65c_elementData_915e3.1.desc).map (fun d => d.parameters.length) = some 1) := ⟨tw_332, tw_22, by decide +kernel, by decide +kernel, by decide +kernel⟩
theorem zc_Jx4a65c_get_915e3 : Cond.code mJx4a65c_get_915e3.1 mJx4a65c_get_915e3.2.1 mJx4a65c_get_915e3.2.2.1 mJx4a65c_get_915e3.2.2.2.1 ∈ ab_Tg ∧ Cond.initialized mJx4a65c_get_915e3.1.cls ∈ ab_Tg ∧ (mJx4a65c_get_915e3.1.cls ≠ "java/lang/invoke/MethodHandle" ∧ mJx4a65c_get_915e3.1.cls ≠ "java/lang/invoke/VarHandle" ∧ (parseMethodDescriptor mJx4a65c_get_915e3.1.desc).map (fun d => d.parameters.length) = some 1) := ⟨tw_322, tw_22, by decide +kernel, by decide +kernel, by decide +kernel⟩
theorem zc_Jx4a65c_add_72be8 : Cond.code mJx4a65c_add_72be8.1 mJx4a65c_add_72be8.2.1 mJx4a65c_add_72be8.2.2.1 mJx4a65c_add_72be8.2.2.2.1 ∈ ab_Tg ∧ Cond.initialized mJx4a65c_add_72be8.1.cls ∈ ab_Tg ∧ (mJx4a65c_add_72be8.1.cls ≠ "java/lang/invoke/MethodHandle" ∧ mJx4a65c_add_72be8.1.cls ≠ "java/lang/invoke/VarHandle" ∧ (parseMethodDescriptor mJx4a65c_add_72be8.1.desc).map (fun d => d.parameters.length) = some 3) := ⟨tw_120, tw_22, by decide +kernel, by decide +kernel, by decide +kernel⟩
theorem zc_Jx4a65c_add_9ea2d : Cond.code mJx4a65c_add_9ea2d.1 mJx4a65c_add_9ea2d.2.1 mJx4a65c_add_9ea2d.2.2.1 mJx4a65c_add_9ea2d.2.2.2.1 ∈ ab_Tg ∧ Cond.initialized mJx4a65c_add_9ea2d.1.cls ∈ ab_Tg ∧ (mJx4a65c_add_9ea2d.1.cls ≠ "java/lang/invoke/MethodHandle" ∧ mJx4a65c_add_9ea2d.1.cls ≠ "java/lang/invoke/VarHandle" ∧ (parseMethodDescriptor mJx4a65c_add_9ea2d.1.desc).map (fun d => d.parameters.length) = some 1) := ⟨tw_117, tw_22, by decide +kernel, by decide +kernel, by decide +kernel⟩
theorem zc_Jx4a65c_remove_915e3 : Cond.code mJx4a65c_remove_915e3.1 mJx4a65c_remove_915e3.2.1 mJx4a65c_remove_915e3.2.2.1 mJx4a65c_remove_915e3.2.2.2.1 ∈ ab_Tg ∧ Cond.initialized mJx4a65c_remove_915e3.1.cls ∈ ab_Tg ∧ (mJx4a65c_remove_915e3.1.cls ≠ "java/lang/invoke/MethodHandle" ∧ mJx4a65c_remove_915e3.1.cls ≠ "java/lang/invoke/VarHandle" ∧ (parseMethodDescriptor mJx4a65c_remove_915e3.1.desc).map (fun d => d.parameters.length) = some 1) := ⟨tw_558, tw_22, by decide +kernel, by decide +kernel, by decide +kernel⟩
theorem zc_Jx4a65c_fastRemove_b59b0 : Cond.code mJx4a65c_fastRemove_b59b0.1 mJx4a65c_fastRemove_b59b0.2.1 mJx4a65c_fastRemove_b59b0.2.2.1 mJx4a65c_fastRemove_b59b0.2.2.2.1 ∈ ab_Tg ∧ Cond.initialized mJx4a65c_fastRemove_b59b0.1.cls ∈ ab_Tg ∧ (mJx4a65c_fastRemove_b59b0.1.cls ≠ "java/lang/invoke/MethodHandle" ∧ mJx4a65c_fastRemove_b59b0.1.cls ≠ "java/lang/invoke/VarHandle" ∧ (parseMethodDescriptor mJx4a65c_fastRemove_b59b0.1.desc).map (fun d => d.parameters.length) = some 2) := ⟨tw_561, tw_22, by decide +kernel, by decide +kernel, by decide +kernel⟩
theorem zc_Jx4a65c_clear_da8c8 : Cond.code mJx4a65c_clear_da8c8.1 mJx4a65c_clear_da8c8.2.1 mJx4a65c_clear_da8c8.2.2.1 mJx4a65c_clear_da8c8.2.2.2.1 ∈ ab_Tg ∧ Cond.initialized mJx4a65c_clear_da8c8.1.cls ∈ ab_Tg ∧ (mJx4a65c_clear_da8c8.1.cls ≠ "java/lang/invoke/MethodHandle" ∧ mJx4a65c_clear_da8c8.1.cls ≠ "java/lang/invoke/VarHandle" ∧ (parseMethodDescriptor mJx4a65c_clear_da8c8.1.desc).map (fun d => d.parameters.length) = some 0) := ⟨tw_314, tw_22, by decide +kernel, by decide +kernel, by decide +kernel⟩
theorem zc_J15_checkIndex_7cf53 : Cond.code mJ15_checkIndex_7cf53.1 mJ15_checkIndex_7cf53.2.1 mJ15_checkIndex_7cf53.2.2.1 mJ15_checkIndex_7cf53.2.2.2.1 ∈ ab_Tg ∧ Cond.initialized mJ15_checkIndex_7cf53.1.cls ∈ ab_Tg ∧ (mJ15_checkIndex_7cf53.1.cls ≠ "java/lang/invoke/MethodHandle" ∧ mJ15_checkIndex_7cf53.1.cls ≠ "java/lang/invoke/VarHandle" ∧ (parseMethodDescriptor mJ15_checkIndex_7cf53.1.desc).map (fun d => d.parameters.length) = some 2) := ⟨tw_325, tw_37, by decide +kernel, by decide +kernel, by decide +kernel⟩
theorem zc_J3_checkIndex_8e157 : Cond.code mJ3_checkIndex_8e157.1 mJ3_checkIndex_8e157.2.1 mJ3_checkIndex_8e157.2.2.1 mJ3_checkIndex_8e157.2.2.2.1 ∈ ab_Tg ∧ Cond.initialized mJ3_checkIndex_8e157.1.cls ∈ ab_Tg ∧ (mJ3_checkIndex_8e157.1.cls ≠ "java/lang/invoke/MethodHandle" ∧ mJ3_checkIndex_8e157.1.cls ≠ "java/lang/invoke/VarHandle" ∧ (parseMethodDescriptor mJ3_checkIndex_8e157.1.desc).map (fun d => d.parameters.length) = some 3) := ⟨tw_328, tw_38, by decide +kernel, by decide +kernel, by decide +kernel⟩
theorem zc_L_at : Cond.code mL_at.1 mL_at.2.1 mL_at.2.2.1 mL_at.2.2.2.1 ∈ ab_Tg ∧ Cond.initialized mL_at.1.cls ∈ ab_Tg ∧ (mL_at.1.cls ≠ "java/lang/invoke/MethodHandle" ∧ mL_at.1.cls ≠ "java/lang/invoke/VarHandle" ∧ (parseMethodDescriptor mL_at.1.desc).map (fun d => d.parameters.length) = some 2) := ⟨tw_870, tw_18, by decide +kernel, by decide +kernel, by decide +kernel⟩
theorem zc_L_some : Cond.code mL_some.1 mL_some.2.1 mL_some.2.2.1 mL_some.2.2.2.1 ∈ ab_Tg ∧ Cond.initialized mL_some.1.cls ∈ ab_Tg ∧ (mL_some.1.cls ≠ "java/lang/invoke/MethodHandle" ∧ mL_some.1.cls ≠ "java/lang/invoke/VarHandle" ∧ (parseMethodDescriptor mL_some.1.desc).map (fun d => d.parameters.length) = some 2) := ⟨tw_873, tw_18, by decide +kernel, by decide +kernel, by decide +kernel⟩
theorem zc_L_holds : Cond.code mL_holds.1 mL_holds.2.1 mL_holds.2.2.1 mL_holds.2.2.2.1 ∈ ab_Tg ∧ Cond.initialized mL_holds.1.cls ∈ ab_Tg ∧ (mL_holds.1.cls ≠ "java/lang/invoke/MethodHandle" ∧ mL_holds.1.cls ≠ "java/lang/invoke/VarHandle" ∧ (parseMethodDescriptor mL_holds.1.desc).map (fun d => d.parameters.length) = some 2) := ⟨tw_876, tw_18, by decide +kernel, by decide +kernel, by decide +kernel⟩
theorem zc_L_world : Cond.code mL_world.1 mL_world.2.1 mL_world.2.2.1 mL_world.2.2.2.1 ∈ ab_Tg ∧ Cond.initialized mL_world.1.cls ∈ ab_Tg ∧ (mL_world.1.cls ≠ "java/lang/invoke/MethodHandle" ∧ mL_world.1.cls ≠ "java/lang/invoke/VarHandle" ∧ (parseMethodDescriptor mL_world.1.desc).map (fun d => d.parameters.length) = some 3) := ⟨tw_879, tw_18, by decide +kernel, by decide +kernel, by decide +kernel⟩
theorem zc_L_saying : Cond.code mL_saying.1 mL_saying.2.1 mL_saying.2.2.1 mL_saying.2.2.2.1 ∈ ab_Tg ∧ Cond.initialized mL_saying.1.cls ∈ ab_Tg ∧ (mL_saying.1.cls ≠ "java/lang/invoke/MethodHandle" ∧ mL_saying.1.cls ≠ "java/lang/invoke/VarHandle" ∧ (parseMethodDescriptor mL_saying.1.desc).map (fun d => d.parameters.length) = some 1) := ⟨tw_882, tw_18, by decide +kernel, by decide +kernel, by decide +kernel⟩
theorem zc_L_told : Cond.code mL_told.1 mL_told.2.1 mL_told.2.2.1 mL_told.2.2.2.1 ∈ ab_Tg ∧ Cond.initialized mL_told.1.cls ∈ ab_Tg ∧ (mL_told.1.cls ≠ "java/lang/invoke/MethodHandle" ∧ mL_told.1.cls ≠ "java/lang/invoke/VarHandle" ∧ (parseMethodDescriptor mL_told.1.desc).map (fun d => d.parameters.length) = some 1) := ⟨tw_885, tw_18, by decide +kernel, by decide +kernel, by decide +kernel⟩
theorem ss_X0_init_1 : ab_sI mX0_init 1 mX1_init 1 := ⟨⟨zc_X1_init.1, zc_X1_init.2.1, zc_X1_init.2.2, by decide, by decide⟩, tw_182, rfl, rfl, Or.inl tw_208⟩
theorem ss_X0_words_9 : ab_sP mX0_words 9 mX1_words 1 := ⟨⟨zc_X1_words.1, zc_X1_words.2.1, zc_X1_words.2.2, by decide, by decide⟩, tw_485, by decide, tw_484, tw_926, tw_210⟩
theorem ss_X1_init_1 : ab_sI mX1_init 1 mX8_init 1 := ⟨⟨zc_X8_init.1, zc_X8_init.2.1, zc_X8_init.2.2, by decide, by decide⟩, tw_106, rfl, rfl, Or.inl tw_184⟩
theorem ss_X1_words_7 : ab_sP mX1_words 7 mX8_words 1 := ⟨⟨zc_X8_words.1, zc_X8_words.2.1, zc_X8_words.2.2, by decide, by decide⟩, tw_478, by decide, tw_487, tw_480, tw_186⟩
theorem ss_X1_facts_11 : ab_sP mX1_facts 11 mX8_facts 3 := ⟨⟨zc_X8_facts.1, zc_X8_facts.2.1, zc_X8_facts.2.2, by decide, by decide⟩, tw_515, by decide, tw_521, tw_517, tw_186⟩
theorem ss_X1_facts_15 : ab_sS mX1_facts 15 mX11_factBit 1 := ⟨⟨zc_X11_factBit.1, zc_X11_factBit.2.1, zc_X11_factBit.2.2, by decide, by decide⟩, tw_523, Or.inr ⟨_, tw_522⟩⟩
theorem ss_X2_init_1 : ab_sI mX2_init 1 mX8_init 1 := ⟨⟨zc_X8_init.1, zc_X8_init.2.1, zc_X8_init.2.2, by decide, by decide⟩, tw_106, rfl, rfl, Or.inl tw_176⟩
theorem ss_X2_words_9 : ab_sP mX2_words 9 mX8_words 1 := ⟨⟨zc_X8_words.1, zc_X8_words.2.1, zc_X8_words.2.2, by decide, by decide⟩, tw_478, by decide, tw_492, tw_480, tw_178⟩
theorem ss_X3_init_1 : ab_sI mX3_init 1 mX1_init 1 := ⟨⟨zc_X1_init.1, zc_X1_init.2.1, zc_X1_init.2.2, by decide, by decide⟩, tw_182, rfl, rfl, Or.inl tw_192⟩
theorem ss_X3_words_7 : ab_sP mX3_words 7 mX1_words 1 := ⟨⟨zc_X1_words.1, zc_X1_words.2.1, zc_X1_words.2.2, by decide, by decide⟩, tw_485, by decide, tw_496, tw_926, tw_194⟩
theorem ss_X4_init_1 : ab_sI mX4_init 1 mX2_init 1 := ⟨⟨zc_X2_init.1, zc_X2_init.2.1, zc_X2_init.2.2, by decide, by decide⟩, tw_174, rfl, rfl, Or.inl tw_216⟩
theorem ss_X4_words_7 : ab_sP mX4_words 7 mX2_words 1 := ⟨⟨zc_X2_words.1, zc_X2_words.2.1, zc_X2_words.2.2, by decide, by decide⟩, tw_490, by decide, tw_500, tw_927, tw_218⟩
theorem ss_X5_init_1 : ab_sI mX5_init 1 mX3_init 1 := ⟨⟨zc_X3_init.1, zc_X3_init.2.1, zc_X3_init.2.2, by decide, by decide⟩, tw_190, rfl, rfl, Or.inl tw_200⟩
theorem ss_X5_words_9 : ab_sP mX5_words 9 mX3_words 1 := ⟨⟨zc_X3_words.1, zc_X3_words.2.1, zc_X3_words.2.2, by decide, by decide⟩, tw_494, by decide, tw_504, tw_928, tw_202⟩
theorem ss_X6_init_3 : ab_sI mX6_init 3 mX3_init 1 := ⟨⟨zc_X3_init.1, zc_X3_init.2.1, zc_X3_init.2.2, by decide, by decide⟩, tw_190, rfl, rfl, Or.inl tw_224⟩
theorem ss_X6_words_9 : ab_sP mX6_words 9 mX3_words 1 := ⟨⟨zc_X3_words.1, zc_X3_words.2.1, zc_X3_words.2.2, by decide, by decide⟩, tw_494, by decide, tw_508, tw_928, tw_226⟩
theorem ss_X6_facts_17 : ab_sS mX6_facts 17 mX11_factBit 1 := ⟨⟨zc_X11_factBit.1, zc_X11_factBit.2.1, zc_X11_factBit.2.2, by decide, by decide⟩, tw_523, Or.inr ⟨_, tw_535⟩⟩
theorem so_X7_init_1 : Cond.methodLink mX7_init.1.cls 1 objectInit ∈ ab_Tg ∧ Cond.instanceMethod objectInit ∈ ab_Tg ∧ Cond.code objectInit ⟨#[0xb1]⟩ 1 none ∈ ab_Tg := ⟨tw_409, tw_53, tw_54⟩
theorem ss_X7_told_35 : ab_sV mX7_told 35 8 mX7_words 0 := ⟨⟨zc_X7_words.1, zc_X7_words.2.1, zc_X7_words.2.2, by decide, by decide⟩, tw_474, _, _, _, rfl, Or.inl ⟨tw_473, tw_475⟩⟩
theorem ss_X7_told_39 : ab_sV mX7_told 39 8 mX7_facts 0 := ⟨⟨zc_X7_facts.1, zc_X7_facts.2.1, zc_X7_facts.2.2, by decide, by decide⟩, tw_511, _, _, _, rfl, Or.inl ⟨tw_510, tw_512⟩⟩
theorem ss_X7_words_42_9 : ab_sV mX7_words 42 9 mX8_words 1 := ⟨⟨zc_X8_words.1, zc_X8_words.2.1, zc_X8_words.2.2, by decide, by decide⟩, tw_478, _, _, _, rfl, Or.inl ⟨tw_477, tw_479⟩⟩
theorem ss_X7_words_42_3 : ab_sV mX7_words 42 3 mX2_words 1 := ⟨⟨zc_X2_words.1, zc_X2_words.2.1, zc_X2_words.2.2, by decide, by decide⟩, tw_490, _, _, _, rfl, Or.inr (Or.inr ⟨⟨"WitnessesMustLie$Says", "words", "(I)I"⟩, "WitnessesMustLie$Says", _, _, _, tw_477, tw_480, tw_478, tw_509, tw_489, by decide +kernel, by decide +kernel, rfl⟩)⟩
theorem ss_X7_words_42_2 : ab_sV mX7_words 42 2 mX1_words 1 := ⟨⟨zc_X1_words.1, zc_X1_words.2.1, zc_X1_words.2.2, by decide, by decide⟩, tw_485, _, _, _, rfl, Or.inr (Or.inr ⟨⟨"WitnessesMustLie$Says", "words", "(I)I"⟩, "WitnessesMustLie$Says", _, _, _, tw_477, tw_480, tw_478, tw_509, tw_488, by decide +kernel, by decide +kernel, rfl⟩)⟩
theorem ss_X7_words_42_4 : ab_sV mX7_words 42 4 mX3_words 1 := ⟨⟨zc_X3_words.1, zc_X3_words.2.1, zc_X3_words.2.2, by decide, by decide⟩, tw_494, _, _, _, rfl, Or.inr (Or.inr ⟨⟨"WitnessesMustLie$Says", "words", "(I)I"⟩, "WitnessesMustLie$Says", _, _, _, tw_477, tw_480, tw_478, tw_509, tw_493, by decide +kernel, by decide +kernel, rfl⟩)⟩
theorem ss_X7_words_42_6 : ab_sV mX7_words 42 6 mX5_words 1 := ⟨⟨zc_X5_words.1, zc_X5_words.2.1, zc_X5_words.2.2, by decide, by decide⟩, tw_502, _, _, _, rfl, Or.inr (Or.inr ⟨⟨"WitnessesMustLie$Says", "words", "(I)I"⟩, "WitnessesMustLie$Says", _, _, _, tw_477, tw_480, tw_478, tw_509, tw_501, by decide +kernel, by decide +kernel, rfl⟩)⟩
theorem ss_X7_words_42_1 : ab_sV mX7_words 42 1 mX0_words 1 := ⟨⟨zc_X0_words.1, zc_X0_words.2.1, zc_X0_words.2.2, by decide, by decide⟩, tw_482, _, _, _, rfl, Or.inr (Or.inr ⟨⟨"WitnessesMustLie$Says", "words", "(I)I"⟩, "WitnessesMustLie$Says", _, _, _, tw_477, tw_480, tw_478, tw_509, tw_481, by decide +kernel, by decide +kernel, rfl⟩)⟩
theorem ss_X7_words_42_5 : ab_sV mX7_words 42 5 mX4_words 1 := ⟨⟨zc_X4_words.1, zc_X4_words.2.1, zc_X4_words.2.2, by decide, by decide⟩, tw_498, _, _, _, rfl, Or.inr (Or.inr ⟨⟨"WitnessesMustLie$Says", "words", "(I)I"⟩, "WitnessesMustLie$Says", _, _, _, tw_477, tw_480, tw_478, tw_509, tw_497, by decide +kernel, by decide +kernel, rfl⟩)⟩
theorem ss_X7_words_42_7 : ab_sV mX7_words 42 7 mX6_words 1 := ⟨⟨zc_X6_words.1, zc_X6_words.2.1, zc_X6_words.2.2, by decide, by decide⟩, tw_506, _, _, _, rfl, Or.inr (Or.inr ⟨⟨"WitnessesMustLie$Says", "words", "(I)I"⟩, "WitnessesMustLie$Says", _, _, _, tw_477, tw_480, tw_478, tw_509, tw_505, by decide +kernel, by decide +kernel, rfl⟩)⟩
theorem ss_X7_facts_45_9 : ab_sV mX7_facts 45 9 mX8_facts 3 := ⟨⟨zc_X8_facts.1, zc_X8_facts.2.1, zc_X8_facts.2.2, by decide, by decide⟩, tw_515, _, _, _, rfl, Or.inl ⟨tw_514, tw_516⟩⟩
theorem ss_X7_facts_45_3 : ab_sV mX7_facts 45 3 mX8_facts 3 := ⟨⟨zc_X8_facts.1, zc_X8_facts.2.1, zc_X8_facts.2.2, by decide, by decide⟩, tw_515, _, _, _, rfl, Or.inr (Or.inr ⟨⟨"WitnessesMustLie$Says", "facts", "(III)I"⟩, "WitnessesMustLie$Says", _, _, _, tw_514, tw_517, tw_515, tw_536, tw_526, by decide +kernel, by decide +kernel, rfl⟩)⟩
theorem ss_X7_facts_45_2 : ab_sV mX7_facts 45 2 mX1_facts 3 := ⟨⟨zc_X1_facts.1, zc_X1_facts.2.1, zc_X1_facts.2.2, by decide, by decide⟩, tw_519, _, _, _, rfl, Or.inr (Or.inr ⟨⟨"WitnessesMustLie$Says", "facts", "(III)I"⟩, "WitnessesMustLie$Says", _, _, _, tw_514, tw_517, tw_515, tw_536, tw_525, by decide +kernel, by decide +kernel, rfl⟩)⟩
theorem ss_X7_facts_45_4 : ab_sV mX7_facts 45 4 mX1_facts 3 := ⟨⟨zc_X1_facts.1, zc_X1_facts.2.1, zc_X1_facts.2.2, by decide, by decide⟩, tw_519, _, _, _, rfl, Or.inr (Or.inr ⟨⟨"WitnessesMustLie$Says", "facts", "(III)I"⟩, "WitnessesMustLie$Says", _, _, _, tw_514, tw_517, tw_515, tw_536, tw_527, by decide +kernel, by decide +kernel, rfl⟩)⟩
theorem ss_X7_facts_45_6 : ab_sV mX7_facts 45 6 mX1_facts 3 := ⟨⟨zc_X1_facts.1, zc_X1_facts.2.1, zc_X1_facts.2.2, by decide, by decide⟩, tw_519, _, _, _, rfl, Or.inr (Or.inr ⟨⟨"WitnessesMustLie$Says", "facts", "(III)I"⟩, "WitnessesMustLie$Says", _, _, _, tw_514, tw_517, tw_515, tw_536, tw_529, by decide +kernel, by decide +kernel, rfl⟩)⟩
theorem ss_X7_facts_45_1 : ab_sV mX7_facts 45 1 mX1_facts 3 := ⟨⟨zc_X1_facts.1, zc_X1_facts.2.1, zc_X1_facts.2.2, by decide, by decide⟩, tw_519, _, _, _, rfl, Or.inr (Or.inr ⟨⟨"WitnessesMustLie$Says", "facts", "(III)I"⟩, "WitnessesMustLie$Says", _, _, _, tw_514, tw_517, tw_515, tw_536, tw_518, by decide +kernel, by decide +kernel, rfl⟩)⟩
theorem ss_X7_facts_45_5 : ab_sV mX7_facts 45 5 mX8_facts 3 := ⟨⟨zc_X8_facts.1, zc_X8_facts.2.1, zc_X8_facts.2.2, by decide, by decide⟩, tw_515, _, _, _, rfl, Or.inr (Or.inr ⟨⟨"WitnessesMustLie$Says", "facts", "(III)I"⟩, "WitnessesMustLie$Says", _, _, _, tw_514, tw_517, tw_515, tw_536, tw_528, by decide +kernel, by decide +kernel, rfl⟩)⟩
theorem ss_X7_facts_45_7 : ab_sV mX7_facts 45 7 mX6_facts 3 := ⟨⟨zc_X6_facts.1, zc_X6_facts.2.1, zc_X6_facts.2.2, by decide, by decide⟩, tw_531, _, _, _, rfl, Or.inr (Or.inr ⟨⟨"WitnessesMustLie$Says", "facts", "(III)I"⟩, "WitnessesMustLie$Says", _, _, _, tw_514, tw_517, tw_515, tw_536, tw_530, by decide +kernel, by decide +kernel, rfl⟩)⟩
theorem so_X8_init_3 : Cond.methodLink mX8_init.1.cls 3 objectInit ∈ ab_Tg ∧ Cond.instanceMethod objectInit ∈ ab_Tg ∧ Cond.code objectInit ⟨#[0xb1]⟩ 1 none ∈ ab_Tg := ⟨tw_108, tw_53, tw_54⟩
theorem ss_X8_worldsOf_15 : ab_sS mX8_worldsOf 15 mX11_worldsWith 1 := ⟨⟨zc_X11_worldsWith.1, zc_X11_worldsWith.2.1, zc_X11_worldsWith.2.2, by decide, by decide⟩, tw_374, Or.inr ⟨_, tw_373⟩⟩
theorem ss_X8_worldsOf_19_9 : ab_sV mX8_worldsOf 19 9 mX8_trueWorlds 3 := ⟨⟨zc_X8_trueWorlds.1, zc_X8_trueWorlds.2.1, zc_X8_trueWorlds.2.2, by decide, by decide⟩, tw_378, _, _, _, rfl, Or.inl ⟨tw_377, tw_379⟩⟩
theorem ss_X8_worldsOf_19_3 : ab_sV mX8_worldsOf 19 3 mX2_trueWorlds 3 := ⟨⟨zc_X2_trueWorlds.1, zc_X2_trueWorlds.2.1, zc_X2_trueWorlds.2.2, by decide, by decide⟩, tw_389, _, _, _, rfl, Or.inr (Or.inr ⟨⟨"WitnessesMustLie$Says", "trueWorlds", "(JJJ)J"⟩, "WitnessesMustLie$Says", _, _, _, tw_377, tw_380, tw_378, tw_405, tw_388, by decide +kernel, by decide +kernel, rfl⟩)⟩
theorem ss_X8_worldsOf_19_2 : ab_sV mX8_worldsOf 19 2 mX1_trueWorlds 3 := ⟨⟨zc_X1_trueWorlds.1, zc_X1_trueWorlds.2.1, zc_X1_trueWorlds.2.2, by decide, by decide⟩, tw_386, _, _, _, rfl, Or.inr (Or.inr ⟨⟨"WitnessesMustLie$Says", "trueWorlds", "(JJJ)J"⟩, "WitnessesMustLie$Says", _, _, _, tw_377, tw_380, tw_378, tw_405, tw_385, by decide +kernel, by decide +kernel, rfl⟩)⟩
theorem ss_X8_worldsOf_19_4 : ab_sV mX8_worldsOf 19 4 mX3_trueWorlds 3 := ⟨⟨zc_X3_trueWorlds.1, zc_X3_trueWorlds.2.1, zc_X3_trueWorlds.2.2, by decide, by decide⟩, tw_393, _, _, _, rfl, Or.inr (Or.inr ⟨⟨"WitnessesMustLie$Says", "trueWorlds", "(JJJ)J"⟩, "WitnessesMustLie$Says", _, _, _, tw_377, tw_380, tw_378, tw_405, tw_392, by decide +kernel, by decide +kernel, rfl⟩)⟩
theorem ss_X8_worldsOf_19_6 : ab_sV mX8_worldsOf 19 6 mX5_trueWorlds 3 := ⟨⟨zc_X5_trueWorlds.1, zc_X5_trueWorlds.2.1, zc_X5_trueWorlds.2.2, by decide, by decide⟩, tw_399, _, _, _, rfl, Or.inr (Or.inr ⟨⟨"WitnessesMustLie$Says", "trueWorlds", "(JJJ)J"⟩, "WitnessesMustLie$Says", _, _, _, tw_377, tw_380, tw_378, tw_405, tw_398, by decide +kernel, by decide +kernel, rfl⟩)⟩
theorem ss_X8_worldsOf_19_1 : ab_sV mX8_worldsOf 19 1 mX0_trueWorlds 3 := ⟨⟨zc_X0_trueWorlds.1, zc_X0_trueWorlds.2.1, zc_X0_trueWorlds.2.2, by decide, by decide⟩, tw_382, _, _, _, rfl, Or.inr (Or.inr ⟨⟨"WitnessesMustLie$Says", "trueWorlds", "(JJJ)J"⟩, "WitnessesMustLie$Says", _, _, _, tw_377, tw_380, tw_378, tw_405, tw_381, by decide +kernel, by decide +kernel, rfl⟩)⟩
theorem ss_X8_worldsOf_19_5 : ab_sV mX8_worldsOf 19 5 mX4_trueWorlds 3 := ⟨⟨zc_X4_trueWorlds.1, zc_X4_trueWorlds.2.1, zc_X4_trueWorlds.2.2, by decide, by decide⟩, tw_396, _, _, _, rfl, Or.inr (Or.inr ⟨⟨"WitnessesMustLie$Says", "trueWorlds", "(JJJ)J"⟩, "WitnessesMustLie$Says", _, _, _, tw_377, tw_380, tw_378, tw_405, tw_395, by decide +kernel, by decide +kernel, rfl⟩)⟩
theorem ss_X8_worldsOf_19_7 : ab_sV mX8_worldsOf 19 7 mX6_trueWorlds 3 := ⟨⟨zc_X6_trueWorlds.1, zc_X6_trueWorlds.2.1, zc_X6_trueWorlds.2.2, by decide, by decide⟩, tw_403, _, _, _, rfl, Or.inr (Or.inr ⟨⟨"WitnessesMustLie$Says", "trueWorlds", "(JJJ)J"⟩, "WitnessesMustLie$Says", _, _, _, tw_377, tw_380, tw_378, tw_405, tw_402, by decide +kernel, by decide +kernel, rfl⟩)⟩
theorem ss_X8_facts_23 : ab_sS mX8_facts 23 mX11_factBit 1 := ⟨⟨zc_X11_factBit.1, zc_X11_factBit.2.1, zc_X11_factBit.2.2, by decide, by decide⟩, tw_523, Or.inr ⟨_, tw_537⟩⟩
theorem so_X9_init_3 : Cond.methodLink mX9_init.1.cls 3 objectInit ∈ ab_Tg ∧ Cond.instanceMethod objectInit ∈ ab_Tg ∧ Cond.code objectInit ⟨#[0xb1]⟩ 1 none ∈ ab_Tg := ⟨tw_231, tw_53, tw_54⟩
theorem ss_X9_refusalAsSaying_32 : ab_sV mX9_refusalAsSaying 32 10 mX9_refusalUnless 1 := ⟨⟨zc_X9_refusalUnless.1, zc_X9_refusalUnless.2.1, zc_X9_refusalUnless.2.2, by decide, by decide⟩, tw_278, _, _, _, rfl, Or.inl ⟨tw_277, tw_4⟩⟩
theorem ss_X9_refusalAsRow_32 : ab_sV mX9_refusalAsRow 32 10 mX9_refusalUnless 1 := ⟨⟨zc_X9_refusalUnless.1, zc_X9_refusalUnless.2.1, zc_X9_refusalUnless.2.2, by decide, by decide⟩, tw_278, _, _, _, rfl, Or.inl ⟨tw_277, tw_4⟩⟩
theorem ss_X9_refusalUnless_36 : ab_sV mX9_refusalUnless 36 10 mX9_isEmpty 0 := ⟨⟨zc_X9_isEmpty.1, zc_X9_isEmpty.2.1, zc_X9_isEmpty.2.2, by decide, by decide⟩, tw_281, _, _, _, rfl, Or.inl ⟨tw_280, tw_282⟩⟩
theorem ss_X9_worldsOf_40_9 : ab_sV mX9_worldsOf 40 9 mX8_worldsOf 3 := ⟨⟨zc_X8_worldsOf.1, zc_X8_worldsOf.2.1, zc_X8_worldsOf.2.2, by decide, by decide⟩, tw_362, _, _, _, rfl, Or.inl ⟨tw_709, tw_363⟩⟩
theorem ss_X9_worldsOf_40_3 : ab_sV mX9_worldsOf 40 3 mX8_worldsOf 3 := ⟨⟨zc_X8_worldsOf.1, zc_X8_worldsOf.2.1, zc_X8_worldsOf.2.2, by decide, by decide⟩, tw_362, _, _, _, rfl, Or.inr (Or.inr ⟨⟨"WitnessesMustLie$Says", "worldsOf", "(III)J"⟩, "WitnessesMustLie$Says", _, _, _, tw_709, tw_364, tw_362, tw_372, tw_367, by decide +kernel, by decide +kernel, rfl⟩)⟩
theorem ss_X9_worldsOf_40_2 : ab_sV mX9_worldsOf 40 2 mX8_worldsOf 3 := ⟨⟨zc_X8_worldsOf.1, zc_X8_worldsOf.2.1, zc_X8_worldsOf.2.2, by decide, by decide⟩, tw_362, _, _, _, rfl, Or.inr (Or.inr ⟨⟨"WitnessesMustLie$Says", "worldsOf", "(III)J"⟩, "WitnessesMustLie$Says", _, _, _, tw_709, tw_364, tw_362, tw_372, tw_366, by decide +kernel, by decide +kernel, rfl⟩)⟩
theorem ss_X9_worldsOf_40_4 : ab_sV mX9_worldsOf 40 4 mX8_worldsOf 3 := ⟨⟨zc_X8_worldsOf.1, zc_X8_worldsOf.2.1, zc_X8_worldsOf.2.2, by decide, by decide⟩, tw_362, _, _, _, rfl, Or.inr (Or.inr ⟨⟨"WitnessesMustLie$Says", "worldsOf", "(III)J"⟩, "WitnessesMustLie$Says", _, _, _, tw_709, tw_364, tw_362, tw_372, tw_368, by decide +kernel, by decide +kernel, rfl⟩)⟩
theorem ss_X9_worldsOf_40_6 : ab_sV mX9_worldsOf 40 6 mX8_worldsOf 3 := ⟨⟨zc_X8_worldsOf.1, zc_X8_worldsOf.2.1, zc_X8_worldsOf.2.2, by decide, by decide⟩, tw_362, _, _, _, rfl, Or.inr (Or.inr ⟨⟨"WitnessesMustLie$Says", "worldsOf", "(III)J"⟩, "WitnessesMustLie$Says", _, _, _, tw_709, tw_364, tw_362, tw_372, tw_370, by decide +kernel, by decide +kernel, rfl⟩)⟩
theorem ss_X9_worldsOf_40_1 : ab_sV mX9_worldsOf 40 1 mX8_worldsOf 3 := ⟨⟨zc_X8_worldsOf.1, zc_X8_worldsOf.2.1, zc_X8_worldsOf.2.2, by decide, by decide⟩, tw_362, _, _, _, rfl, Or.inr (Or.inr ⟨⟨"WitnessesMustLie$Says", "worldsOf", "(III)J"⟩, "WitnessesMustLie$Says", _, _, _, tw_709, tw_364, tw_362, tw_372, tw_365, by decide +kernel, by decide +kernel, rfl⟩)⟩
theorem ss_X9_worldsOf_40_5 : ab_sV mX9_worldsOf 40 5 mX8_worldsOf 3 := ⟨⟨zc_X8_worldsOf.1, zc_X8_worldsOf.2.1, zc_X8_worldsOf.2.2, by decide, by decide⟩, tw_362, _, _, _, rfl, Or.inr (Or.inr ⟨⟨"WitnessesMustLie$Says", "worldsOf", "(III)J"⟩, "WitnessesMustLie$Says", _, _, _, tw_709, tw_364, tw_362, tw_372, tw_369, by decide +kernel, by decide +kernel, rfl⟩)⟩
theorem ss_X9_worldsOf_40_7 : ab_sV mX9_worldsOf 40 7 mX8_worldsOf 3 := ⟨⟨zc_X8_worldsOf.1, zc_X8_worldsOf.2.1, zc_X8_worldsOf.2.2, by decide, by decide⟩, tw_362, _, _, _, rfl, Or.inr (Or.inr ⟨⟨"WitnessesMustLie$Says", "worldsOf", "(III)J"⟩, "WitnessesMustLie$Says", _, _, _, tw_709, tw_364, tw_362, tw_372, tw_371, by decide +kernel, by decide +kernel, rfl⟩)⟩
theorem ss_X9_numberAt_46 : ab_sV mX9_numberAt 46 10 mX9_hasPlaces 2 := ⟨⟨zc_X9_hasPlaces.1, zc_X9_hasPlaces.2.1, zc_X9_hasPlaces.2.2, by decide, by decide⟩, tw_292, _, _, _, rfl, Or.inl ⟨tw_291, tw_293⟩⟩
theorem ss_X9_setNumber_46 : ab_sV mX9_setNumber 46 10 mX9_hasPlaces 2 := ⟨⟨zc_X9_hasPlaces.1, zc_X9_hasPlaces.2.1, zc_X9_hasPlaces.2.2, by decide, by decide⟩, tw_292, _, _, _, rfl, Or.inl ⟨tw_291, tw_293⟩⟩
theorem ss_X9_setNumber_50 : ab_sV mX9_setNumber 50 10 mX9_lowestBits 1 := ⟨⟨zc_X9_lowestBits.1, zc_X9_lowestBits.2.1, zc_X9_lowestBits.2.2, by decide, by decide⟩, tw_798, _, _, _, rfl, Or.inl ⟨tw_797, tw_13⟩⟩
theorem so_X10_init_3 : Cond.methodLink mX10_init.1.cls 3 objectInit ∈ ab_Tg ∧ Cond.instanceMethod objectInit ∈ ab_Tg ∧ Cond.code objectInit ⟨#[0xb1]⟩ 1 none ∈ ab_Tg := ⟨tw_84, tw_53, tw_54⟩
theorem ss_X10_init_11 : ab_sI mX10_init 11 mJx4a65c_init_da8c8 0 := ⟨⟨zc_Jx4a65c_init_da8c8.1, zc_Jx4a65c_init_da8c8.2.1, zc_Jx4a65c_init_da8c8.2.2, by decide, by decide⟩, tw_58, rfl, rfl, Or.inl tw_86⟩
theorem ss_X10_becomes_25 : ab_sS mX10_becomes 25 mX10_refill 2 := ⟨⟨zc_X10_refill.1, zc_X10_refill.2.1, zc_X10_refill.2.2, by decide, by decide⟩, tw_309, Or.inl tw_308⟩
theorem ss_X10_becomes_29 : ab_sV mX10_becomes 29 11 mX10_knownBy 1 := ⟨⟨zc_X10_knownBy.1, zc_X10_knownBy.2.1, zc_X10_knownBy.2.2, by decide, by decide⟩, tw_336, _, _, _, rfl, Or.inl ⟨tw_335, tw_337⟩⟩
theorem ss_X10_refill_40 : ab_sV mX10_refill 40 0 mJx4a65c_clear_da8c8 0 := ⟨⟨zc_Jx4a65c_clear_da8c8.1, zc_Jx4a65c_clear_da8c8.2.1, zc_Jx4a65c_clear_da8c8.2.2, by decide, by decide⟩, tw_312, _, _, _, rfl, Or.inl ⟨tw_311, tw_313⟩⟩
theorem ss_X10_refill_43 : ab_sV mX10_refill 43 0 mJx4a65c_size_8abf5 0 := ⟨⟨zc_Jx4a65c_size_8abf5.1, zc_Jx4a65c_size_8abf5.2.1, zc_Jx4a65c_size_8abf5.2.2, by decide, by decide⟩, tw_316, _, _, _, rfl, Or.inl ⟨tw_315, tw_317⟩⟩
theorem ss_X10_refill_47 : ab_sV mX10_refill 47 0 mJx4a65c_get_915e3 1 := ⟨⟨zc_Jx4a65c_get_915e3.1, zc_Jx4a65c_get_915e3.2.1, zc_Jx4a65c_get_915e3.2.2, by decide, by decide⟩, tw_320, _, _, _, rfl, Or.inl ⟨tw_319, tw_321⟩⟩
theorem ss_X10_refill_53 : ab_sV mX10_refill 53 0 mJx4a65c_add_9ea2d 1 := ⟨⟨zc_Jx4a65c_add_9ea2d.1, zc_Jx4a65c_add_9ea2d.2.1, zc_Jx4a65c_add_9ea2d.2.2, by decide, by decide⟩, tw_115, _, _, _, rfl, Or.inl ⟨tw_334, tw_116⟩⟩
theorem ss_X10_addLaw_43 : ab_sV mX10_addLaw 43 0 mJx4a65c_size_8abf5 0 := ⟨⟨zc_Jx4a65c_size_8abf5.1, zc_Jx4a65c_size_8abf5.2.1, zc_Jx4a65c_size_8abf5.2.2, by decide, by decide⟩, tw_316, _, _, _, rfl, Or.inl ⟨tw_315, tw_317⟩⟩
theorem ss_X10_addLaw_53 : ab_sV mX10_addLaw 53 0 mJx4a65c_add_9ea2d 1 := ⟨⟨zc_Jx4a65c_add_9ea2d.1, zc_Jx4a65c_add_9ea2d.2.1, zc_Jx4a65c_add_9ea2d.2.2, by decide, by decide⟩, tw_115, _, _, _, rfl, Or.inl ⟨tw_334, tw_116⟩⟩
theorem ss_X10_addSaid_60 : ab_sV mX10_addSaid 60 11 mX10_hasWitness 1 := ⟨⟨zc_X10_hasWitness.1, zc_X10_hasWitness.2.1, zc_X10_hasWitness.2.2, by decide, by decide⟩, tw_453, _, _, _, rfl, Or.inl ⟨tw_452, tw_454⟩⟩
theorem ss_X10_addSaid_43 : ab_sV mX10_addSaid 43 0 mJx4a65c_size_8abf5 0 := ⟨⟨zc_Jx4a65c_size_8abf5.1, zc_Jx4a65c_size_8abf5.2.1, zc_Jx4a65c_size_8abf5.2.2, by decide, by decide⟩, tw_316, _, _, _, rfl, Or.inl ⟨tw_315, tw_317⟩⟩
theorem ss_X10_addSaid_53 : ab_sV mX10_addSaid 53 0 mJx4a65c_add_9ea2d 1 := ⟨⟨zc_Jx4a65c_add_9ea2d.1, zc_Jx4a65c_add_9ea2d.2.1, zc_Jx4a65c_add_9ea2d.2.2, by decide, by decide⟩, tw_115, _, _, _, rfl, Or.inl ⟨tw_334, tw_116⟩⟩
theorem ss_X10_addWitness_64 : ab_sS mX10_addWitness 64 mX11_areFacts 1 := ⟨⟨zc_X11_areFacts.1, zc_X11_areFacts.2.1, zc_X11_areFacts.2.2, by decide, by decide⟩, tw_439, Or.inr ⟨_, tw_438⟩⟩
theorem ss_X10_setTruth_67 : ab_sS mX10_setTruth 67 mX11_isWorld 1 := ⟨⟨zc_X11_isWorld.1, zc_X11_isWorld.2.1, zc_X11_isWorld.2.2, by decide, by decide⟩, tw_446, Or.inr ⟨_, tw_445⟩⟩
theorem ss_X10_mayBe_43 : ab_sV mX10_mayBe 43 0 mJx4a65c_size_8abf5 0 := ⟨⟨zc_Jx4a65c_size_8abf5.1, zc_Jx4a65c_size_8abf5.2.1, zc_Jx4a65c_size_8abf5.2.2, by decide, by decide⟩, tw_316, _, _, _, rfl, Or.inl ⟨tw_315, tw_317⟩⟩
theorem ss_X10_mayBe_47 : ab_sV mX10_mayBe 47 0 mJx4a65c_get_915e3 1 := ⟨⟨zc_Jx4a65c_get_915e3.1, zc_Jx4a65c_get_915e3.2.1, zc_Jx4a65c_get_915e3.2.2, by decide, by decide⟩, tw_320, _, _, _, rfl, Or.inl ⟨tw_319, tw_321⟩⟩
theorem ss_X10_left_76 : ab_sV mX10_left 76 11 mX10_mayBe 0 := ⟨⟨zc_X10_mayBe.1, zc_X10_mayBe.2.1, zc_X10_mayBe.2.2, by decide, by decide⟩, tw_585, _, _, _, rfl, Or.inl ⟨tw_584, tw_586⟩⟩
theorem ss_X10_left_80 : ab_sV mX10_left 80 11 mX10_leftBySaid 2 := ⟨⟨zc_X10_leftBySaid.1, zc_X10_leftBySaid.2.1, zc_X10_leftBySaid.2.2, by decide, by decide⟩, tw_594, _, _, _, rfl, Or.inl ⟨tw_593, tw_595⟩⟩
theorem ss_X10_mayBeOrLeft_76 : ab_sV mX10_mayBeOrLeft 76 11 mX10_mayBe 0 := ⟨⟨zc_X10_mayBe.1, zc_X10_mayBe.2.1, zc_X10_mayBe.2.2, by decide, by decide⟩, tw_585, _, _, _, rfl, Or.inl ⟨tw_584, tw_586⟩⟩
theorem ss_X10_mayBeOrLeft_84 : ab_sV mX10_mayBeOrLeft 84 11 mX10_left 0 := ⟨⟨zc_X10_left.1, zc_X10_left.2.1, zc_X10_left.2.2, by decide, by decide⟩, tw_590, _, _, _, rfl, Or.inl ⟨tw_589, tw_591⟩⟩
theorem ss_X10_leftBySaid_43 : ab_sV mX10_leftBySaid 43 0 mJx4a65c_size_8abf5 0 := ⟨⟨zc_Jx4a65c_size_8abf5.1, zc_Jx4a65c_size_8abf5.2.1, zc_Jx4a65c_size_8abf5.2.2, by decide, by decide⟩, tw_316, _, _, _, rfl, Or.inl ⟨tw_315, tw_317⟩⟩
theorem ss_X10_leftBySaid_47 : ab_sV mX10_leftBySaid 47 0 mJx4a65c_get_915e3 1 := ⟨⟨zc_Jx4a65c_get_915e3.1, zc_Jx4a65c_get_915e3.2.1, zc_Jx4a65c_get_915e3.2.2, by decide, by decide⟩, tw_320, _, _, _, rfl, Or.inl ⟨tw_319, tw_321⟩⟩
theorem ss_X10_leftByTellers_43 : ab_sV mX10_leftByTellers 43 0 mJx4a65c_size_8abf5 0 := ⟨⟨zc_Jx4a65c_size_8abf5.1, zc_Jx4a65c_size_8abf5.2.1, zc_Jx4a65c_size_8abf5.2.2, by decide, by decide⟩, tw_316, _, _, _, rfl, Or.inl ⟨tw_315, tw_317⟩⟩
theorem ss_X10_leftByTellers_47 : ab_sV mX10_leftByTellers 47 0 mJx4a65c_get_915e3 1 := ⟨⟨zc_Jx4a65c_get_915e3.1, zc_Jx4a65c_get_915e3.2.1, zc_Jx4a65c_get_915e3.2.2, by decide, by decide⟩, tw_320, _, _, _, rfl, Or.inl ⟨tw_319, tw_321⟩⟩
theorem ss_X10_leftByTellers_76 : ab_sV mX10_leftByTellers 76 11 mX10_mayBe 0 := ⟨⟨zc_X10_mayBe.1, zc_X10_mayBe.2.1, zc_X10_mayBe.2.2, by decide, by decide⟩, tw_585, _, _, _, rfl, Or.inl ⟨tw_584, tw_586⟩⟩
theorem ss_X10_leftByTellers_80 : ab_sV mX10_leftByTellers 80 11 mX10_leftBySaid 2 := ⟨⟨zc_X10_leftBySaid.1, zc_X10_leftBySaid.2.1, zc_X10_leftBySaid.2.2, by decide, by decide⟩, tw_594, _, _, _, rfl, Or.inl ⟨tw_593, tw_595⟩⟩
theorem ss_X10_isPlainBy_87 : ab_sV mX10_isPlainBy 87 11 mX10_leftByTellers 1 := ⟨⟨zc_X10_leftByTellers.1, zc_X10_leftByTellers.2.1, zc_X10_leftByTellers.2.2, by decide, by decide⟩, tw_671, _, _, _, rfl, Or.inl ⟨tw_670, tw_672⟩⟩
theorem ss_X10_isPlainBy_91 : ab_sS mX10_isPlainBy 91 mJ13_bitCount_95d88 1 := ⟨⟨zc_J13_bitCount_95d88.1, zc_J13_bitCount_95d88.2.1, zc_J13_bitCount_95d88.2.2, by decide, by decide⟩, tw_606, Or.inl tw_674⟩
theorem ss_X10_trueOnes_43 : ab_sV mX10_trueOnes 43 0 mJx4a65c_size_8abf5 0 := ⟨⟨zc_Jx4a65c_size_8abf5.1, zc_Jx4a65c_size_8abf5.2.1, zc_Jx4a65c_size_8abf5.2.2, by decide, by decide⟩, tw_316, _, _, _, rfl, Or.inl ⟨tw_315, tw_317⟩⟩
theorem ss_X10_trueOnes_47 : ab_sV mX10_trueOnes 47 0 mJx4a65c_get_915e3 1 := ⟨⟨zc_Jx4a65c_get_915e3.1, zc_Jx4a65c_get_915e3.2.1, zc_Jx4a65c_get_915e3.2.2, by decide, by decide⟩, tw_320, _, _, _, rfl, Or.inl ⟨tw_319, tw_321⟩⟩
theorem ss_X10_trueOnes_97 : ab_sS mX10_trueOnes 97 mX11_hasWorld 2 := ⟨⟨zc_X11_hasWorld.1, zc_X11_hasWorld.2.1, zc_X11_hasWorld.2.2, by decide, by decide⟩, tw_464, Or.inr ⟨_, tw_633⟩⟩
theorem ss_X10_wordsSaid_43 : ab_sV mX10_wordsSaid 43 0 mJx4a65c_size_8abf5 0 := ⟨⟨zc_Jx4a65c_size_8abf5.1, zc_Jx4a65c_size_8abf5.2.1, zc_Jx4a65c_size_8abf5.2.2, by decide, by decide⟩, tw_316, _, _, _, rfl, Or.inl ⟨tw_315, tw_317⟩⟩
theorem ss_X10_wordsSaid_47 : ab_sV mX10_wordsSaid 47 0 mJx4a65c_get_915e3 1 := ⟨⟨zc_Jx4a65c_get_915e3.1, zc_Jx4a65c_get_915e3.2.1, zc_Jx4a65c_get_915e3.2.2, by decide, by decide⟩, tw_320, _, _, _, rfl, Or.inl ⟨tw_319, tw_321⟩⟩
theorem ss_X10_wordsSaid_101 : ab_sV mX10_wordsSaid 101 8 mX7_words 0 := ⟨⟨zc_X7_words.1, zc_X7_words.2.1, zc_X7_words.2.2, by decide, by decide⟩, tw_474, _, _, _, rfl, Or.inl ⟨tw_768, tw_475⟩⟩
theorem ss_X10_reachedFrom_97 : ab_sS mX10_reachedFrom 97 mX11_hasWorld 2 := ⟨⟨zc_X11_hasWorld.1, zc_X11_hasWorld.2.1, zc_X11_hasWorld.2.2, by decide, by decide⟩, tw_464, Or.inr ⟨_, tw_633⟩⟩
theorem ss_X10_reachedFrom_29 : ab_sV mX10_reachedFrom 29 11 mX10_knownBy 1 := ⟨⟨zc_X10_knownBy.1, zc_X10_knownBy.2.1, zc_X10_knownBy.2.2, by decide, by decide⟩, tw_336, _, _, _, rfl, Or.inl ⟨tw_335, tw_337⟩⟩
theorem ss_X10_reachedFrom_104 : ab_sS mX10_reachedFrom 104 mX11_likeInKnown 3 := ⟨⟨zc_X11_likeInKnown.1, zc_X11_likeInKnown.2.1, zc_X11_likeInKnown.2.2, by decide, by decide⟩, tw_715, Or.inr ⟨_, tw_732⟩⟩
theorem so_X11_init_3 : Cond.methodLink mX11_init.1.cls 3 objectInit ∈ ab_Tg ∧ Cond.instanceMethod objectInit ∈ ab_Tg ∧ Cond.code objectInit ⟨#[0xb1]⟩ 1 none ∈ ab_Tg := ⟨tw_52, tw_53, tw_54⟩
theorem ss_X11_init_11 : ab_sI mX11_init 11 mJx4a65c_init_da8c8 0 := ⟨⟨zc_Jx4a65c_init_da8c8.1, zc_Jx4a65c_init_da8c8.2.1, zc_Jx4a65c_init_da8c8.2.2, by decide, by decide⟩, tw_58, rfl, rfl, Or.inl tw_57⟩
theorem ss_X11_init_24 : ab_sI mX11_init 24 mX10_init 0 := ⟨⟨zc_X10_init.1, zc_X10_init.2.1, zc_X10_init.2.2, by decide, by decide⟩, tw_82, rfl, rfl, Or.inr ⟨_, tw_81⟩⟩
theorem ss_X11_init_44 : ab_sI mX11_init 44 mX8_init 1 := ⟨⟨zc_X8_init.1, zc_X8_init.2.1, zc_X8_init.2.2, by decide, by decide⟩, tw_106, rfl, rfl, Or.inl tw_105⟩
theorem ss_X11_init_47 : ab_sV mX11_init 47 0 mJx4a65c_add_9ea2d 1 := ⟨⟨zc_Jx4a65c_add_9ea2d.1, zc_Jx4a65c_add_9ea2d.2.1, zc_Jx4a65c_add_9ea2d.2.2, by decide, by decide⟩, tw_115, _, _, _, rfl, Or.inl ⟨tw_114, tw_116⟩⟩
theorem ss_X11_init_53 : ab_sI mX11_init 53 mX2_init 1 := ⟨⟨zc_X2_init.1, zc_X2_init.2.1, zc_X2_init.2.2, by decide, by decide⟩, tw_174, rfl, rfl, Or.inl tw_173⟩
theorem ss_X11_init_56 : ab_sI mX11_init 56 mX1_init 1 := ⟨⟨zc_X1_init.1, zc_X1_init.2.1, zc_X1_init.2.2, by decide, by decide⟩, tw_182, rfl, rfl, Or.inl tw_181⟩
theorem ss_X11_init_59 : ab_sI mX11_init 59 mX3_init 1 := ⟨⟨zc_X3_init.1, zc_X3_init.2.1, zc_X3_init.2.2, by decide, by decide⟩, tw_190, rfl, rfl, Or.inl tw_189⟩
theorem ss_X11_init_62 : ab_sI mX11_init 62 mX5_init 1 := ⟨⟨zc_X5_init.1, zc_X5_init.2.1, zc_X5_init.2.2, by decide, by decide⟩, tw_198, rfl, rfl, Or.inl tw_197⟩
theorem ss_X11_init_65 : ab_sI mX11_init 65 mX0_init 1 := ⟨⟨zc_X0_init.1, zc_X0_init.2.1, zc_X0_init.2.2, by decide, by decide⟩, tw_206, rfl, rfl, Or.inl tw_205⟩
theorem ss_X11_init_68 : ab_sI mX11_init 68 mX4_init 1 := ⟨⟨zc_X4_init.1, zc_X4_init.2.1, zc_X4_init.2.2, by decide, by decide⟩, tw_214, rfl, rfl, Or.inl tw_213⟩
theorem ss_X11_init_71 : ab_sI mX11_init 71 mX6_init 1 := ⟨⟨zc_X6_init.1, zc_X6_init.2.1, zc_X6_init.2.2, by decide, by decide⟩, tw_222, rfl, rfl, Or.inl tw_221⟩
theorem ss_X11_init_72 : ab_sI mX11_init 72 mX9_init 1 := ⟨⟨zc_X9_init.1, zc_X9_init.2.1, zc_X9_init.2.2, by decide, by decide⟩, tw_229, rfl, rfl, Or.inl tw_228⟩
theorem ss_X11_trial_75 : ab_sV mX11_trial 75 12 mX11_shelfAt 1 := ⟨⟨zc_X11_shelfAt.1, zc_X11_shelfAt.2.1, zc_X11_shelfAt.2.2, by decide, by decide⟩, tw_271, _, _, _, rfl, Or.inl ⟨tw_270, tw_3⟩⟩
theorem ss_X11_trial_79 : ab_sV mX11_trial 79 10 mX9_refusalAsRow 0 := ⟨⟨zc_X9_refusalAsRow.1, zc_X9_refusalAsRow.2.1, zc_X9_refusalAsRow.2.2, by decide, by decide⟩, tw_274, _, _, _, rfl, Or.inl ⟨tw_273, tw_275⟩⟩
theorem ss_X11_trial_87 : ab_sS mX11_trial 87 mX11_brokenPlace 1 := ⟨⟨zc_X11_brokenPlace.1, zc_X11_brokenPlace.2.1, zc_X11_brokenPlace.2.2, by decide, by decide⟩, tw_285, Or.inl tw_284⟩
theorem ss_X11_trial_91 : ab_sV mX11_trial 91 12 mX11_enact 1 := ⟨⟨zc_X11_enact.1, zc_X11_enact.2.1, zc_X11_enact.2.2, by decide, by decide⟩, tw_302, _, _, _, rfl, Or.inl ⟨tw_301, tw_5⟩⟩
theorem ss_X11_law_97 : ab_sS mX11_law 97 mX11_sayingIn 2 := ⟨⟨zc_X11_sayingIn.1, zc_X11_sayingIn.2.1, zc_X11_sayingIn.2.2, by decide, by decide⟩, tw_461, Or.inl tw_460⟩
theorem ss_X11_law_101 : ab_sV mX11_law 101 8 mX7_told 1 := ⟨⟨zc_X7_told.1, zc_X7_told.2.1, zc_X7_told.2.2, by decide, by decide⟩, tw_470, _, _, _, rfl, Or.inl ⟨tw_469, tw_471⟩⟩
theorem ss_X11_said_97 : ab_sS mX11_said 97 mX11_sayingIn 2 := ⟨⟨zc_X11_sayingIn.1, zc_X11_sayingIn.2.1, zc_X11_sayingIn.2.2, by decide, by decide⟩, tw_461, Or.inl tw_460⟩
theorem ss_X11_said_117 : ab_sS mX11_said 117 mX11_hasWorld 2 := ⟨⟨zc_X11_hasWorld.1, zc_X11_hasWorld.2.1, zc_X11_hasWorld.2.2, by decide, by decide⟩, tw_464, Or.inl tw_463⟩
theorem ss_X11_said_121 : ab_sS mX11_said 121 mX11_oneIf 1 := ⟨⟨zc_X11_oneIf.1, zc_X11_oneIf.2.1, zc_X11_oneIf.2.2, by decide, by decide⟩, tw_467, Or.inl tw_466⟩
theorem ss_X11_said_101 : ab_sV mX11_said 101 8 mX7_told 1 := ⟨⟨zc_X7_told.1, zc_X7_told.2.1, zc_X7_told.2.2, by decide, by decide⟩, tw_470, _, _, _, rfl, Or.inl ⟨tw_469, tw_471⟩⟩
theorem ss_X11_knows_128 : ab_sV mX11_knows 128 11 mX10_hasWitness 1 := ⟨⟨zc_X10_hasWitness.1, zc_X10_hasWitness.2.1, zc_X10_hasWitness.2.2, by decide, by decide⟩, tw_453, _, _, _, rfl, Or.inl ⟨tw_550, tw_454⟩⟩
theorem ss_X11_knows_132 : ab_sV mX11_knows 132 11 mX10_knownBy 1 := ⟨⟨zc_X10_knownBy.1, zc_X10_knownBy.2.1, zc_X10_knownBy.2.2, by decide, by decide⟩, tw_336, _, _, _, rfl, Or.inl ⟨tw_697, tw_337⟩⟩
theorem ss_X11_rules_75 : ab_sV mX11_rules 75 12 mX11_shelfAt 1 := ⟨⟨zc_X11_shelfAt.1, zc_X11_shelfAt.2.1, zc_X11_shelfAt.2.2, by decide, by decide⟩, tw_271, _, _, _, rfl, Or.inl ⟨tw_270, tw_3⟩⟩
theorem ss_X11_rules_135 : ab_sS mX11_rules 135 mX11_isFact 1 := ⟨⟨zc_X11_isFact.1, zc_X11_isFact.2.1, zc_X11_isFact.2.2, by decide, by decide⟩, tw_354, Or.inl tw_353⟩
theorem ss_X11_rules_141 : ab_sV mX11_rules 141 10 mX9_refusalAsSaying 0 := ⟨⟨zc_X9_refusalAsSaying.1, zc_X9_refusalAsSaying.2.1, zc_X9_refusalAsSaying.2.2, by decide, by decide⟩, tw_543, _, _, _, rfl, Or.inl ⟨tw_542, tw_544⟩⟩
theorem ss_X11_rules_155 : ab_sS mX11_rules 155 mX11_newSaying 5 := ⟨⟨zc_X11_newSaying.1, zc_X11_newSaying.2.1, zc_X11_newSaying.2.2, by decide, by decide⟩, tw_357, Or.inl tw_356⟩
theorem ss_X11_rules_159 : ab_sV mX11_rules 159 11 mX10_addLaw 1 := ⟨⟨zc_X10_addLaw.1, zc_X10_addLaw.2.1, zc_X10_addLaw.2.2, by decide, by decide⟩, tw_428, _, _, _, rfl, Or.inl ⟨tw_427, tw_429⟩⟩
theorem ss_X11_rules_163 : ab_sV mX11_rules 163 0 mJx4a65c_size_8abf5 0 := ⟨⟨zc_Jx4a65c_size_8abf5.1, zc_Jx4a65c_size_8abf5.2.1, zc_Jx4a65c_size_8abf5.2.2, by decide, by decide⟩, tw_316, _, _, _, rfl, Or.inl ⟨tw_351, tw_317⟩⟩
theorem ss_X11_says_75 : ab_sV mX11_says 75 12 mX11_shelfAt 1 := ⟨⟨zc_X11_shelfAt.1, zc_X11_shelfAt.2.1, zc_X11_shelfAt.2.2, by decide, by decide⟩, tw_271, _, _, _, rfl, Or.inl ⟨tw_270, tw_3⟩⟩
theorem ss_X11_says_128 : ab_sV mX11_says 128 11 mX10_hasWitness 1 := ⟨⟨zc_X10_hasWitness.1, zc_X10_hasWitness.2.1, zc_X10_hasWitness.2.2, by decide, by decide⟩, tw_453, _, _, _, rfl, Or.inl ⟨tw_550, tw_454⟩⟩
theorem ss_X11_says_135 : ab_sS mX11_says 135 mX11_isFact 1 := ⟨⟨zc_X11_isFact.1, zc_X11_isFact.2.1, zc_X11_isFact.2.2, by decide, by decide⟩, tw_354, Or.inl tw_353⟩
theorem ss_X11_says_141 : ab_sV mX11_says 141 10 mX9_refusalAsSaying 0 := ⟨⟨zc_X9_refusalAsSaying.1, zc_X9_refusalAsSaying.2.1, zc_X9_refusalAsSaying.2.2, by decide, by decide⟩, tw_543, _, _, _, rfl, Or.inl ⟨tw_542, tw_544⟩⟩
theorem ss_X11_says_155 : ab_sS mX11_says 155 mX11_newSaying 5 := ⟨⟨zc_X11_newSaying.1, zc_X11_newSaying.2.1, zc_X11_newSaying.2.2, by decide, by decide⟩, tw_357, Or.inl tw_356⟩
theorem ss_X11_says_166 : ab_sV mX11_says 166 11 mX10_addSaid 1 := ⟨⟨zc_X10_addSaid.1, zc_X10_addSaid.2.1, zc_X10_addSaid.2.2, by decide, by decide⟩, tw_449, _, _, _, rfl, Or.inl ⟨tw_448, tw_450⟩⟩
theorem ss_X11_says_163 : ab_sV mX11_says 163 0 mJx4a65c_size_8abf5 0 := ⟨⟨zc_Jx4a65c_size_8abf5.1, zc_Jx4a65c_size_8abf5.2.1, zc_Jx4a65c_size_8abf5.2.2, by decide, by decide⟩, tw_316, _, _, _, rfl, Or.inl ⟨tw_351, tw_317⟩⟩
theorem ss_X11_unsays_163 : ab_sV mX11_unsays 163 0 mJx4a65c_size_8abf5 0 := ⟨⟨zc_Jx4a65c_size_8abf5.1, zc_Jx4a65c_size_8abf5.2.1, zc_Jx4a65c_size_8abf5.2.2, by decide, by decide⟩, tw_316, _, _, _, rfl, Or.inl ⟨tw_351, tw_317⟩⟩
theorem ss_X11_unsays_169 : ab_sV mX11_unsays 169 0 mJx4a65c_remove_915e3 1 := ⟨⟨zc_Jx4a65c_remove_915e3.1, zc_Jx4a65c_remove_915e3.2.1, zc_Jx4a65c_remove_915e3.2.2, by decide, by decide⟩, tw_556, _, _, _, rfl, Or.inl ⟨tw_555, tw_557⟩⟩
theorem ss_X11_witness_173 : ab_sS mX11_witness 173 mX11_areFacts 1 := ⟨⟨zc_X11_areFacts.1, zc_X11_areFacts.2.1, zc_X11_areFacts.2.2, by decide, by decide⟩, tw_439, Or.inl tw_567⟩
theorem ss_X11_witness_176 : ab_sV mX11_witness 176 11 mX10_addWitness 1 := ⟨⟨zc_X10_addWitness.1, zc_X10_addWitness.2.1, zc_X10_addWitness.2.2, by decide, by decide⟩, tw_435, _, _, _, rfl, Or.inl ⟨tw_434, tw_436⟩⟩
theorem ss_X11_truth_138 : ab_sS mX11_truth 138 mX11_isWorld 1 := ⟨⟨zc_X11_isWorld.1, zc_X11_isWorld.2.1, zc_X11_isWorld.2.2, by decide, by decide⟩, tw_446, Or.inl tw_572⟩
theorem ss_X11_worlds_182 : ab_sS mX11_worlds 182 mX11_isEitherOr 1 := ⟨⟨zc_X11_isEitherOr.1, zc_X11_isEitherOr.2.1, zc_X11_isEitherOr.2.2, by decide, by decide⟩, tw_578, Or.inl tw_577⟩
theorem ss_X11_worlds_185 : ab_sV mX11_worlds 185 11 mX10_mayBeOrLeft 1 := ⟨⟨zc_X10_mayBeOrLeft.1, zc_X10_mayBeOrLeft.2.1, zc_X10_mayBeOrLeft.2.2, by decide, by decide⟩, tw_581, _, _, _, rfl, Or.inl ⟨tw_580, tw_582⟩⟩
theorem ss_X11_worlds_189 : ab_sS mX11_worlds 189 mX11_refusedLong 1 := ⟨⟨zc_X11_refusedLong.1, zc_X11_refusedLong.2.1, zc_X11_refusedLong.2.2, by decide, by decide⟩, tw_598, Or.inl tw_597⟩
theorem ss_X11_many_182 : ab_sS mX11_many 182 mX11_isEitherOr 1 := ⟨⟨zc_X11_isEitherOr.1, zc_X11_isEitherOr.2.1, zc_X11_isEitherOr.2.2, by decide, by decide⟩, tw_578, Or.inl tw_577⟩
theorem ss_X11_many_185 : ab_sV mX11_many 185 11 mX10_mayBeOrLeft 1 := ⟨⟨zc_X10_mayBeOrLeft.1, zc_X10_mayBeOrLeft.2.1, zc_X10_mayBeOrLeft.2.2, by decide, by decide⟩, tw_581, _, _, _, rfl, Or.inl ⟨tw_580, tw_582⟩⟩
theorem ss_X11_many_192 : ab_sS mX11_many 192 mJ13_bitCount_95d88 1 := ⟨⟨zc_J13_bitCount_95d88.1, zc_J13_bitCount_95d88.2.1, zc_J13_bitCount_95d88.2.2, by decide, by decide⟩, tw_606, Or.inl tw_605⟩
theorem ss_X11_proved_182 : ab_sS mX11_proved 182 mX11_isEitherOr 1 := ⟨⟨zc_X11_isEitherOr.1, zc_X11_isEitherOr.2.1, zc_X11_isEitherOr.2.2, by decide, by decide⟩, tw_578, Or.inl tw_577⟩
theorem ss_X11_proved_198 : ab_sV mX11_proved 198 11 mX10_left 0 := ⟨⟨zc_X10_left.1, zc_X10_left.2.1, zc_X10_left.2.2, by decide, by decide⟩, tw_590, _, _, _, rfl, Or.inl ⟨tw_615, tw_591⟩⟩
theorem ss_X11_proved_202 : ab_sS mX11_proved 202 mX11_factsOfAll 1 := ⟨⟨zc_X11_factsOfAll.1, zc_X11_factsOfAll.2.1, zc_X11_factsOfAll.2.2, by decide, by decide⟩, tw_617, Or.inl tw_616⟩
theorem ss_X11_proved_205 : ab_sS mX11_proved 205 mX11_factsOfNone 1 := ⟨⟨zc_X11_factsOfNone.1, zc_X11_factsOfNone.2.1, zc_X11_factsOfNone.2.2, by decide, by decide⟩, tw_623, Or.inl tw_622⟩
theorem ss_X11_slips_182 : ab_sS mX11_slips 182 mX11_isEitherOr 1 := ⟨⟨zc_X11_isEitherOr.1, zc_X11_isEitherOr.2.1, zc_X11_isEitherOr.2.2, by decide, by decide⟩, tw_578, Or.inl tw_577⟩
theorem ss_X11_slips_208 : ab_sV mX11_slips 208 11 mX10_trueOnes 1 := ⟨⟨zc_X10_trueOnes.1, zc_X10_trueOnes.2.1, zc_X10_trueOnes.2.2, by decide, by decide⟩, tw_630, _, _, _, rfl, Or.inl ⟨tw_629, tw_631⟩⟩
theorem ss_X11_slips_211 : ab_sS mX11_slips 211 mJ6_numberOfTrailingZeros_0f7a4 1 := ⟨⟨zc_J6_numberOfTrailingZeros_0f7a4.1, zc_J6_numberOfTrailingZeros_0f7a4.2.1, zc_J6_numberOfTrailingZeros_0f7a4.2.2, by decide, by decide⟩, tw_635, Or.inl tw_634⟩
theorem ss_X11_alone_97 : ab_sS mX11_alone 97 mX11_sayingIn 2 := ⟨⟨zc_X11_sayingIn.1, zc_X11_sayingIn.2.1, zc_X11_sayingIn.2.2, by decide, by decide⟩, tw_461, Or.inl tw_460⟩
theorem ss_X11_alone_216 : ab_sV mX11_alone 216 11 mX10_mayBe 0 := ⟨⟨zc_X10_mayBe.1, zc_X10_mayBe.2.1, zc_X10_mayBe.2.2, by decide, by decide⟩, tw_585, _, _, _, rfl, Or.inl ⟨tw_642, tw_586⟩⟩
theorem ss_X11_alone_192 : ab_sS mX11_alone 192 mJ13_bitCount_95d88 1 := ⟨⟨zc_J13_bitCount_95d88.1, zc_J13_bitCount_95d88.2.1, zc_J13_bitCount_95d88.2.2, by decide, by decide⟩, tw_606, Or.inl tw_605⟩
theorem ss_X11_clash_216 : ab_sV mX11_clash 216 11 mX10_mayBe 0 := ⟨⟨zc_X10_mayBe.1, zc_X10_mayBe.2.1, zc_X10_mayBe.2.2, by decide, by decide⟩, tw_585, _, _, _, rfl, Or.inl ⟨tw_642, tw_586⟩⟩
theorem ss_X11_clash_163 : ab_sV mX11_clash 163 0 mJx4a65c_size_8abf5 0 := ⟨⟨zc_Jx4a65c_size_8abf5.1, zc_Jx4a65c_size_8abf5.2.1, zc_Jx4a65c_size_8abf5.2.2, by decide, by decide⟩, tw_316, _, _, _, rfl, Or.inl ⟨tw_351, tw_317⟩⟩
theorem ss_X11_clash_221 : ab_sV mX11_clash 221 0 mJx4a65c_get_915e3 1 := ⟨⟨zc_Jx4a65c_get_915e3.1, zc_Jx4a65c_get_915e3.2.1, zc_Jx4a65c_get_915e3.2.2, by decide, by decide⟩, tw_320, _, _, _, rfl, Or.inl ⟨tw_352, tw_321⟩⟩
theorem ss_X11_proof_135 : ab_sS mX11_proof 135 mX11_isFact 1 := ⟨⟨zc_X11_isFact.1, zc_X11_isFact.2.1, zc_X11_isFact.2.2, by decide, by decide⟩, tw_354, Or.inl tw_353⟩
theorem ss_X11_proof_216 : ab_sV mX11_proof 216 11 mX10_mayBe 0 := ⟨⟨zc_X10_mayBe.1, zc_X10_mayBe.2.1, zc_X10_mayBe.2.2, by decide, by decide⟩, tw_585, _, _, _, rfl, Or.inl ⟨tw_642, tw_586⟩⟩
theorem ss_X11_proof_163 : ab_sV mX11_proof 163 0 mJx4a65c_size_8abf5 0 := ⟨⟨zc_Jx4a65c_size_8abf5.1, zc_Jx4a65c_size_8abf5.2.1, zc_Jx4a65c_size_8abf5.2.2, by decide, by decide⟩, tw_316, _, _, _, rfl, Or.inl ⟨tw_351, tw_317⟩⟩
theorem ss_X11_proof_224 : ab_sS mX11_proof 224 mJ6_bitCount_0f7a4 1 := ⟨⟨zc_J6_bitCount_0f7a4.1, zc_J6_bitCount_0f7a4.2.1, zc_J6_bitCount_0f7a4.2.2, by decide, by decide⟩, tw_652, Or.inl tw_651⟩
theorem ss_X11_proof_226 : ab_sV mX11_proof 226 11 mX10_leftBySaid 2 := ⟨⟨zc_X10_leftBySaid.1, zc_X10_leftBySaid.2.1, zc_X10_leftBySaid.2.2, by decide, by decide⟩, tw_594, _, _, _, rfl, Or.inl ⟨tw_905, tw_595⟩⟩
theorem ss_X11_proof_230 : ab_sS mX11_proof 230 mX11_isProvedBy 2 := ⟨⟨zc_X11_isProvedBy.1, zc_X11_isProvedBy.2.1, zc_X11_isProvedBy.2.2, by decide, by decide⟩, tw_907, Or.inl tw_906⟩
theorem ss_X11_slipped_216 : ab_sV mX11_slipped 216 11 mX10_mayBe 0 := ⟨⟨zc_X10_mayBe.1, zc_X10_mayBe.2.1, zc_X10_mayBe.2.2, by decide, by decide⟩, tw_585, _, _, _, rfl, Or.inl ⟨tw_642, tw_586⟩⟩
theorem ss_X11_slipped_117 : ab_sS mX11_slipped 117 mX11_hasWorld 2 := ⟨⟨zc_X11_hasWorld.1, zc_X11_hasWorld.2.1, zc_X11_hasWorld.2.2, by decide, by decide⟩, tw_464, Or.inl tw_463⟩
theorem ss_X11_slipped_208 : ab_sV mX11_slipped 208 11 mX10_trueOnes 1 := ⟨⟨zc_X10_trueOnes.1, zc_X10_trueOnes.2.1, zc_X10_trueOnes.2.2, by decide, by decide⟩, tw_630, _, _, _, rfl, Or.inl ⟨tw_629, tw_631⟩⟩
theorem ss_X11_slipped_224 : ab_sS mX11_slipped 224 mJ6_bitCount_0f7a4 1 := ⟨⟨zc_J6_bitCount_0f7a4.1, zc_J6_bitCount_0f7a4.2.1, zc_J6_bitCount_0f7a4.2.2, by decide, by decide⟩, tw_652, Or.inl tw_651⟩
theorem ss_X11_ask_198 : ab_sV mX11_ask 198 11 mX10_left 0 := ⟨⟨zc_X10_left.1, zc_X10_left.2.1, zc_X10_left.2.2, by decide, by decide⟩, tw_590, _, _, _, rfl, Or.inl ⟨tw_615, tw_591⟩⟩
theorem ss_X11_ask_233 : ab_sS mX11_ask 233 mX11_worldsWith 1 := ⟨⟨zc_X11_worldsWith.1, zc_X11_worldsWith.2.1, zc_X11_worldsWith.2.2, by decide, by decide⟩, tw_374, Or.inl tw_619⟩
theorem ss_X11_ask_192 : ab_sS mX11_ask 192 mJ13_bitCount_95d88 1 := ⟨⟨zc_J13_bitCount_95d88.1, zc_J13_bitCount_95d88.2.1, zc_J13_bitCount_95d88.2.2, by decide, by decide⟩, tw_606, Or.inl tw_605⟩
theorem ss_X11_ask_236 : ab_sS mX11_ask 236 mJ9_min_7cf53 2 := ⟨⟨zc_J9_min_7cf53.1, zc_J9_min_7cf53.2.1, zc_J9_min_7cf53.2.2, by decide, by decide⟩, tw_165, Or.inl tw_661⟩
theorem ss_X11_plain_224 : ab_sS mX11_plain 224 mJ6_bitCount_0f7a4 1 := ⟨⟨zc_J6_bitCount_0f7a4.1, zc_J6_bitCount_0f7a4.2.1, zc_J6_bitCount_0f7a4.2.2, by decide, by decide⟩, tw_652, Or.inl tw_651⟩
theorem ss_X11_plain_242 : ab_sV mX11_plain 242 11 mX10_isPlainBy 1 := ⟨⟨zc_X10_isPlainBy.1, zc_X10_isPlainBy.2.1, zc_X10_isPlainBy.2.2, by decide, by decide⟩, tw_667, _, _, _, rfl, Or.inl ⟨tw_666, tw_668⟩⟩
theorem ss_X11_order_182 : ab_sS mX11_order 182 mX11_isEitherOr 1 := ⟨⟨zc_X11_isEitherOr.1, zc_X11_isEitherOr.2.1, zc_X11_isEitherOr.2.2, by decide, by decide⟩, tw_578, Or.inl tw_577⟩
theorem ss_X11_order_245 : ab_sV mX11_order 245 12 mX11_plain 0 := ⟨⟨zc_X11_plain.1, zc_X11_plain.2.1, zc_X11_plain.2.2, by decide, by decide⟩, tw_663, _, _, _, rfl, Or.inl ⟨tw_913, tw_664⟩⟩
theorem ss_X11_order_224 : ab_sS mX11_order 224 mJ6_bitCount_0f7a4 1 := ⟨⟨zc_J6_bitCount_0f7a4.1, zc_J6_bitCount_0f7a4.2.1, zc_J6_bitCount_0f7a4.2.2, by decide, by decide⟩, tw_652, Or.inl tw_651⟩
theorem ss_X11_order_248 : ab_sV mX11_order 248 12 mX11_leastOrder 1 := ⟨⟨zc_X11_leastOrder.1, zc_X11_leastOrder.2.1, zc_X11_leastOrder.2.2, by decide, by decide⟩, tw_915, _, _, _, rfl, Or.inl ⟨tw_914, tw_15⟩⟩
theorem ss_X11_without_128 : ab_sV mX11_without 128 11 mX10_hasWitness 1 := ⟨⟨zc_X10_hasWitness.1, zc_X10_hasWitness.2.1, zc_X10_hasWitness.2.2, by decide, by decide⟩, tw_453, _, _, _, rfl, Or.inl ⟨tw_550, tw_454⟩⟩
theorem ss_X11_without_251 : ab_sV mX11_without 251 11 mX10_leftByTellers 1 := ⟨⟨zc_X10_leftByTellers.1, zc_X10_leftByTellers.2.1, zc_X10_leftByTellers.2.2, by decide, by decide⟩, tw_671, _, _, _, rfl, Or.inl ⟨tw_679, tw_672⟩⟩
theorem ss_X11_without_192 : ab_sS mX11_without 192 mJ13_bitCount_95d88 1 := ⟨⟨zc_J13_bitCount_95d88.1, zc_J13_bitCount_95d88.2.1, zc_J13_bitCount_95d88.2.2, by decide, by decide⟩, tw_606, Or.inl tw_605⟩
theorem ss_X11_without_198 : ab_sV mX11_without 198 11 mX10_left 0 := ⟨⟨zc_X10_left.1, zc_X10_left.2.1, zc_X10_left.2.2, by decide, by decide⟩, tw_590, _, _, _, rfl, Or.inl ⟨tw_615, tw_591⟩⟩
theorem ss_X11_lie_128 : ab_sV mX11_lie 128 11 mX10_hasWitness 1 := ⟨⟨zc_X10_hasWitness.1, zc_X10_hasWitness.2.1, zc_X10_hasWitness.2.2, by decide, by decide⟩, tw_453, _, _, _, rfl, Or.inl ⟨tw_550, tw_454⟩⟩
theorem ss_X11_lie_198 : ab_sV mX11_lie 198 11 mX10_left 0 := ⟨⟨zc_X10_left.1, zc_X10_left.2.1, zc_X10_left.2.2, by decide, by decide⟩, tw_590, _, _, _, rfl, Or.inl ⟨tw_615, tw_591⟩⟩
theorem ss_X11_lie_254 : ab_sV mX11_lie 254 12 mX11_isLie 2 := ⟨⟨zc_X11_isLie.1, zc_X11_isLie.2.1, zc_X11_isLie.2.2, by decide, by decide⟩, tw_685, _, _, _, rfl, Or.inl ⟨tw_684, tw_10⟩⟩
theorem ss_X11_lie_258 : ab_sV mX11_lie 258 12 mX11_worldsOfCode 1 := ⟨⟨zc_X11_worldsOfCode.1, zc_X11_worldsOfCode.2.1, zc_X11_worldsOfCode.2.2, by decide, by decide⟩, tw_699, _, _, _, rfl, Or.inl ⟨tw_698, tw_11⟩⟩
theorem ss_X11_lie_192 : ab_sS mX11_lie 192 mJ13_bitCount_95d88 1 := ⟨⟨zc_J13_bitCount_95d88.1, zc_J13_bitCount_95d88.2.1, zc_J13_bitCount_95d88.2.2, by decide, by decide⟩, tw_606, Or.inl tw_605⟩
theorem ss_X11_lie_261 : ab_sS mX11_lie 261 mX11_kindOfCode 1 := ⟨⟨zc_X11_kindOfCode.1, zc_X11_kindOfCode.2.1, zc_X11_kindOfCode.2.2, by decide, by decide⟩, tw_688, Or.inl tw_687⟩
theorem ss_X11_lie_264 : ab_sS mX11_lie 264 mX11_firstOfCode 1 := ⟨⟨zc_X11_firstOfCode.1, zc_X11_firstOfCode.2.1, zc_X11_firstOfCode.2.2, by decide, by decide⟩, tw_691, Or.inl tw_690⟩
theorem ss_X11_lie_267 : ab_sS mX11_lie 267 mX11_secondOfCode 1 := ⟨⟨zc_X11_secondOfCode.1, zc_X11_secondOfCode.2.1, zc_X11_secondOfCode.2.2, by decide, by decide⟩, tw_694, Or.inl tw_693⟩
theorem ss_X11_tells_75 : ab_sV mX11_tells 75 12 mX11_shelfAt 1 := ⟨⟨zc_X11_shelfAt.1, zc_X11_shelfAt.2.1, zc_X11_shelfAt.2.2, by decide, by decide⟩, tw_271, _, _, _, rfl, Or.inl ⟨tw_270, tw_3⟩⟩
theorem ss_X11_tells_135 : ab_sS mX11_tells 135 mX11_isFact 1 := ⟨⟨zc_X11_isFact.1, zc_X11_isFact.2.1, zc_X11_isFact.2.2, by decide, by decide⟩, tw_354, Or.inl tw_353⟩
theorem ss_X11_tells_141 : ab_sV mX11_tells 141 10 mX9_refusalAsSaying 0 := ⟨⟨zc_X9_refusalAsSaying.1, zc_X9_refusalAsSaying.2.1, zc_X9_refusalAsSaying.2.2, by decide, by decide⟩, tw_543, _, _, _, rfl, Or.inl ⟨tw_542, tw_544⟩⟩
theorem ss_X11_tells_198 : ab_sV mX11_tells 198 11 mX10_left 0 := ⟨⟨zc_X10_left.1, zc_X10_left.2.1, zc_X10_left.2.2, by decide, by decide⟩, tw_590, _, _, _, rfl, Or.inl ⟨tw_615, tw_591⟩⟩
theorem ss_X11_tells_144 : ab_sV mX11_tells 144 10 mX9_worldsOf 2 := ⟨⟨zc_X9_worldsOf.1, zc_X9_worldsOf.2.1, zc_X9_worldsOf.2.2, by decide, by decide⟩, tw_706, _, _, _, rfl, Or.inl ⟨tw_705, tw_707⟩⟩
theorem ss_X11_tells_192 : ab_sS mX11_tells 192 mJ13_bitCount_95d88 1 := ⟨⟨zc_J13_bitCount_95d88.1, zc_J13_bitCount_95d88.2.1, zc_J13_bitCount_95d88.2.2, by decide, by decide⟩, tw_606, Or.inl tw_605⟩
theorem ss_X11_verdict_163 : ab_sV mX11_verdict 163 0 mJx4a65c_size_8abf5 0 := ⟨⟨zc_Jx4a65c_size_8abf5.1, zc_Jx4a65c_size_8abf5.2.1, zc_Jx4a65c_size_8abf5.2.2, by decide, by decide⟩, tw_316, _, _, _, rfl, Or.inl ⟨tw_351, tw_317⟩⟩
theorem ss_X11_verdict_221 : ab_sV mX11_verdict 221 0 mJx4a65c_get_915e3 1 := ⟨⟨zc_Jx4a65c_get_915e3.1, zc_Jx4a65c_get_915e3.2.1, zc_Jx4a65c_get_915e3.2.2, by decide, by decide⟩, tw_320, _, _, _, rfl, Or.inl ⟨tw_352, tw_321⟩⟩
theorem ss_X11_verdict_281 : ab_sV mX11_verdict 281 8 mX7_facts 0 := ⟨⟨zc_X7_facts.1, zc_X7_facts.2.1, zc_X7_facts.2.2, by decide, by decide⟩, tw_511, _, _, _, rfl, Or.inl ⟨tw_900, tw_512⟩⟩
theorem ss_X11_certain_128 : ab_sV mX11_certain 128 11 mX10_hasWitness 1 := ⟨⟨zc_X10_hasWitness.1, zc_X10_hasWitness.2.1, zc_X10_hasWitness.2.2, by decide, by decide⟩, tw_453, _, _, _, rfl, Or.inl ⟨tw_550, tw_454⟩⟩
theorem ss_X11_certain_198 : ab_sV mX11_certain 198 11 mX10_left 0 := ⟨⟨zc_X10_left.1, zc_X10_left.2.1, zc_X10_left.2.2, by decide, by decide⟩, tw_590, _, _, _, rfl, Or.inl ⟨tw_615, tw_591⟩⟩
theorem ss_X11_certain_132 : ab_sV mX11_certain 132 11 mX10_knownBy 1 := ⟨⟨zc_X10_knownBy.1, zc_X10_knownBy.2.1, zc_X10_knownBy.2.2, by decide, by decide⟩, tw_336, _, _, _, rfl, Or.inl ⟨tw_697, tw_337⟩⟩
theorem ss_X11_certain_284 : ab_sS mX11_certain 284 mX11_likeInKnown 3 := ⟨⟨zc_X11_likeInKnown.1, zc_X11_likeInKnown.2.1, zc_X11_likeInKnown.2.2, by decide, by decide⟩, tw_715, Or.inl tw_714⟩
theorem ss_X11_certain_288 : ab_sS mX11_certain 288 mX11_factsAlike 1 := ⟨⟨zc_X11_factsAlike.1, zc_X11_factsAlike.2.1, zc_X11_factsAlike.2.2, by decide, by decide⟩, tw_718, Or.inl tw_717⟩
theorem ss_X11_knowsOf_128 : ab_sV mX11_knowsOf 128 11 mX10_hasWitness 1 := ⟨⟨zc_X10_hasWitness.1, zc_X10_hasWitness.2.1, zc_X10_hasWitness.2.2, by decide, by decide⟩, tw_453, _, _, _, rfl, Or.inl ⟨tw_550, tw_454⟩⟩
theorem ss_X11_knowsOf_198 : ab_sV mX11_knowsOf 198 11 mX10_left 0 := ⟨⟨zc_X10_left.1, zc_X10_left.2.1, zc_X10_left.2.2, by decide, by decide⟩, tw_590, _, _, _, rfl, Or.inl ⟨tw_615, tw_591⟩⟩
theorem ss_X11_knowsOf_132 : ab_sV mX11_knowsOf 132 11 mX10_knownBy 1 := ⟨⟨zc_X10_knownBy.1, zc_X10_knownBy.2.1, zc_X10_knownBy.2.2, by decide, by decide⟩, tw_336, _, _, _, rfl, Or.inl ⟨tw_697, tw_337⟩⟩
theorem ss_X11_knowsOf_284 : ab_sS mX11_knowsOf 284 mX11_likeInKnown 3 := ⟨⟨zc_X11_likeInKnown.1, zc_X11_likeInKnown.2.1, zc_X11_likeInKnown.2.2, by decide, by decide⟩, tw_715, Or.inl tw_714⟩
theorem ss_X11_knowsOf_117 : ab_sS mX11_knowsOf 117 mX11_hasWorld 2 := ⟨⟨zc_X11_hasWorld.1, zc_X11_hasWorld.2.1, zc_X11_hasWorld.2.2, by decide, by decide⟩, tw_464, Or.inl tw_463⟩
theorem ss_X11_knowsOf_288 : ab_sS mX11_knowsOf 288 mX11_factsAlike 1 := ⟨⟨zc_X11_factsAlike.1, zc_X11_factsAlike.2.1, zc_X11_factsAlike.2.2, by decide, by decide⟩, tw_718, Or.inl tw_717⟩
theorem ss_X11_allKnow_198 : ab_sV mX11_allKnow 198 11 mX10_left 0 := ⟨⟨zc_X10_left.1, zc_X10_left.2.1, zc_X10_left.2.2, by decide, by decide⟩, tw_590, _, _, _, rfl, Or.inl ⟨tw_615, tw_591⟩⟩
theorem ss_X11_allKnow_291 : ab_sV mX11_allKnow 291 11 mX10_reachedFrom 2 := ⟨⟨zc_X10_reachedFrom.1, zc_X10_reachedFrom.2.1, zc_X10_reachedFrom.2.2, by decide, by decide⟩, tw_729, _, _, _, rfl, Or.inl ⟨tw_728, tw_730⟩⟩
theorem ss_X11_allKnow_288 : ab_sS mX11_allKnow 288 mX11_factsAlike 1 := ⟨⟨zc_X11_factsAlike.1, zc_X11_factsAlike.2.1, zc_X11_factsAlike.2.2, by decide, by decide⟩, tw_718, Or.inl tw_717⟩
theorem ss_X11_seeds_182 : ab_sS mX11_seeds 182 mX11_isEitherOr 1 := ⟨⟨zc_X11_isEitherOr.1, zc_X11_isEitherOr.2.1, zc_X11_isEitherOr.2.2, by decide, by decide⟩, tw_578, Or.inl tw_577⟩
theorem ss_X11_seeds_216 : ab_sV mX11_seeds 216 11 mX10_mayBe 0 := ⟨⟨zc_X10_mayBe.1, zc_X10_mayBe.2.1, zc_X10_mayBe.2.2, by decide, by decide⟩, tw_585, _, _, _, rfl, Or.inl ⟨tw_642, tw_586⟩⟩
theorem ss_X11_seeds_317 : ab_sV mX11_seeds 317 12 mX11_worldsOfDraws 1 := ⟨⟨zc_X11_worldsOfDraws.1, zc_X11_worldsOfDraws.2.1, zc_X11_worldsOfDraws.2.2, by decide, by decide⟩, tw_738, _, _, _, rfl, Or.inl ⟨tw_737, tw_12⟩⟩
theorem ss_X11_seeds_320 : ab_sS mX11_seeds 320 mX11_seedAfterDraws 1 := ⟨⟨zc_X11_seedAfterDraws.1, zc_X11_seedAfterDraws.2.1, zc_X11_seedAfterDraws.2.2, by decide, by decide⟩, tw_750, Or.inl tw_749⟩
theorem ss_X11_seeds_117 : ab_sS mX11_seeds 117 mX11_hasWorld 2 := ⟨⟨zc_X11_hasWorld.1, zc_X11_hasWorld.2.1, zc_X11_hasWorld.2.2, by decide, by decide⟩, tw_464, Or.inl tw_463⟩
theorem ss_X11_seeds_121 : ab_sS mX11_seeds 121 mX11_oneIf 1 := ⟨⟨zc_X11_oneIf.1, zc_X11_oneIf.2.1, zc_X11_oneIf.2.2, by decide, by decide⟩, tw_467, Or.inl tw_466⟩
theorem ss_X11_seeds_192 : ab_sS mX11_seeds 192 mJ13_bitCount_95d88 1 := ⟨⟨zc_J13_bitCount_95d88.1, zc_J13_bitCount_95d88.2.1, zc_J13_bitCount_95d88.2.2, by decide, by decide⟩, tw_606, Or.inl tw_605⟩
theorem ss_X11_image_323 : ab_sV mX11_image 323 11 mX10_becomes 1 := ⟨⟨zc_X10_becomes.1, zc_X10_becomes.2.1, zc_X10_becomes.2.2, by decide, by decide⟩, tw_305, _, _, _, rfl, Or.inl ⟨tw_304, tw_306⟩⟩
theorem ss_X11_image_163 : ab_sV mX11_image 163 0 mJx4a65c_size_8abf5 0 := ⟨⟨zc_Jx4a65c_size_8abf5.1, zc_Jx4a65c_size_8abf5.2.1, zc_Jx4a65c_size_8abf5.2.2, by decide, by decide⟩, tw_316, _, _, _, rfl, Or.inl ⟨tw_351, tw_317⟩⟩
theorem ss_X11_restore_323 : ab_sV mX11_restore 323 11 mX10_becomes 1 := ⟨⟨zc_X10_becomes.1, zc_X10_becomes.2.1, zc_X10_becomes.2.2, by decide, by decide⟩, tw_305, _, _, _, rfl, Or.inl ⟨tw_304, tw_306⟩⟩
theorem ss_X11_restore_163 : ab_sV mX11_restore 163 0 mJx4a65c_size_8abf5 0 := ⟨⟨zc_Jx4a65c_size_8abf5.1, zc_Jx4a65c_size_8abf5.2.1, zc_Jx4a65c_size_8abf5.2.2, by decide, by decide⟩, tw_316, _, _, _, rfl, Or.inl ⟨tw_351, tw_317⟩⟩
theorem ss_X11_count_163 : ab_sV mX11_count 163 0 mJx4a65c_size_8abf5 0 := ⟨⟨zc_Jx4a65c_size_8abf5.1, zc_Jx4a65c_size_8abf5.2.1, zc_Jx4a65c_size_8abf5.2.2, by decide, by decide⟩, tw_316, _, _, _, rfl, Or.inl ⟨tw_351, tw_317⟩⟩
theorem ss_X11_count_331 : ab_sV mX11_count 331 11 mX10_wordsSaid 0 := ⟨⟨zc_X10_wordsSaid.1, zc_X10_wordsSaid.2.1, zc_X10_wordsSaid.2.2, by decide, by decide⟩, tw_765, _, _, _, rfl, Or.inl ⟨tw_764, tw_766⟩⟩
theorem ss_X11_count_216 : ab_sV mX11_count 216 11 mX10_mayBe 0 := ⟨⟨zc_X10_mayBe.1, zc_X10_mayBe.2.1, zc_X10_mayBe.2.2, by decide, by decide⟩, tw_585, _, _, _, rfl, Or.inl ⟨tw_642, tw_586⟩⟩
theorem ss_X11_count_117 : ab_sS mX11_count 117 mX11_hasWorld 2 := ⟨⟨zc_X11_hasWorld.1, zc_X11_hasWorld.2.1, zc_X11_hasWorld.2.2, by decide, by decide⟩, tw_464, Or.inl tw_463⟩
theorem ss_X11_count_121 : ab_sS mX11_count 121 mX11_oneIf 1 := ⟨⟨zc_X11_oneIf.1, zc_X11_oneIf.2.1, zc_X11_oneIf.2.2, by decide, by decide⟩, tw_467, Or.inl tw_466⟩
theorem ss_X11_count_198 : ab_sV mX11_count 198 11 mX10_left 0 := ⟨⟨zc_X10_left.1, zc_X10_left.2.1, zc_X10_left.2.2, by decide, by decide⟩, tw_590, _, _, _, rfl, Or.inl ⟨tw_615, tw_591⟩⟩
theorem ss_X11_keep_75 : ab_sV mX11_keep 75 12 mX11_shelfAt 1 := ⟨⟨zc_X11_shelfAt.1, zc_X11_shelfAt.2.1, zc_X11_shelfAt.2.2, by decide, by decide⟩, tw_271, _, _, _, rfl, Or.inl ⟨tw_270, tw_3⟩⟩
theorem ss_X11_keep_182 : ab_sS mX11_keep 182 mX11_isEitherOr 1 := ⟨⟨zc_X11_isEitherOr.1, zc_X11_isEitherOr.2.1, zc_X11_isEitherOr.2.2, by decide, by decide⟩, tw_578, Or.inl tw_577⟩
theorem ss_X11_keep_334 : ab_sV mX11_keep 334 10 mX9_holdNothing 0 := ⟨⟨zc_X9_holdNothing.1, zc_X9_holdNothing.2.1, zc_X9_holdNothing.2.2, by decide, by decide⟩, tw_774, _, _, _, rfl, Or.inl ⟨tw_773, tw_775⟩⟩
theorem ss_X11_keep_337 : ab_sV mX11_keep 337 12 mX11_kindNumbered 1 := ⟨⟨zc_X11_kindNumbered.1, zc_X11_kindNumbered.2.1, zc_X11_kindNumbered.2.2, by decide, by decide⟩, tw_349, _, _, _, rfl, Or.inl ⟨tw_348, tw_8⟩⟩
theorem ss_X11_keep_341 : ab_sV mX11_keep 341 10 mX9_holdSaying 2 := ⟨⟨zc_X9_holdSaying.1, zc_X9_holdSaying.2.1, zc_X9_holdSaying.2.2, by decide, by decide⟩, tw_778, _, _, _, rfl, Or.inl ⟨tw_777, tw_779⟩⟩
theorem ss_X11_row_75 : ab_sV mX11_row 75 12 mX11_shelfAt 1 := ⟨⟨zc_X11_shelfAt.1, zc_X11_shelfAt.2.1, zc_X11_shelfAt.2.2, by decide, by decide⟩, tw_271, _, _, _, rfl, Or.inl ⟨tw_270, tw_3⟩⟩
theorem ss_X11_row_345 : ab_sV mX11_row 345 10 mX9_holdRow 2 := ⟨⟨zc_X9_holdRow.1, zc_X9_holdRow.2.1, zc_X9_holdRow.2.2, by decide, by decide⟩, tw_786, _, _, _, rfl, Or.inl ⟨tw_785, tw_787⟩⟩
theorem ss_X11_put_75 : ab_sV mX11_put 75 12 mX11_shelfAt 1 := ⟨⟨zc_X11_shelfAt.1, zc_X11_shelfAt.2.1, zc_X11_shelfAt.2.2, by decide, by decide⟩, tw_271, _, _, _, rfl, Or.inl ⟨tw_270, tw_3⟩⟩
theorem ss_X11_put_79 : ab_sV mX11_put 79 10 mX9_refusalAsRow 0 := ⟨⟨zc_X9_refusalAsRow.1, zc_X9_refusalAsRow.2.1, zc_X9_refusalAsRow.2.2, by decide, by decide⟩, tw_274, _, _, _, rfl, Or.inl ⟨tw_273, tw_275⟩⟩
theorem ss_X11_put_349 : ab_sV mX11_put 349 10 mX9_setNumber 2 := ⟨⟨zc_X9_setNumber.1, zc_X9_setNumber.2.1, zc_X9_setNumber.2.2, by decide, by decide⟩, tw_794, _, _, _, rfl, Or.inl ⟨tw_793, tw_795⟩⟩
theorem ss_X11_element_75 : ab_sV mX11_element 75 12 mX11_shelfAt 1 := ⟨⟨zc_X11_shelfAt.1, zc_X11_shelfAt.2.1, zc_X11_shelfAt.2.2, by decide, by decide⟩, tw_271, _, _, _, rfl, Or.inl ⟨tw_270, tw_3⟩⟩
theorem ss_X11_element_79 : ab_sV mX11_element 79 10 mX9_refusalAsRow 0 := ⟨⟨zc_X9_refusalAsRow.1, zc_X9_refusalAsRow.2.1, zc_X9_refusalAsRow.2.2, by decide, by decide⟩, tw_274, _, _, _, rfl, Or.inl ⟨tw_273, tw_275⟩⟩
theorem ss_X11_element_364 : ab_sV mX11_element 364 10 mX9_hasPlaces 2 := ⟨⟨zc_X9_hasPlaces.1, zc_X9_hasPlaces.2.1, zc_X9_hasPlaces.2.2, by decide, by decide⟩, tw_292, _, _, _, rfl, Or.inl ⟨tw_867, tw_293⟩⟩
theorem ss_X11_element_314 : ab_sV mX11_element 314 10 mX9_numberAt 1 := ⟨⟨zc_X9_numberAt.1, zc_X9_numberAt.2.1, zc_X9_numberAt.2.2, by decide, by decide⟩, tw_288, _, _, _, rfl, Or.inl ⟨tw_287, tw_289⟩⟩
theorem ss_X11_kindNumbered_163 : ab_sV mX11_kindNumbered 163 0 mJx4a65c_size_8abf5 0 := ⟨⟨zc_Jx4a65c_size_8abf5.1, zc_Jx4a65c_size_8abf5.2.1, zc_Jx4a65c_size_8abf5.2.2, by decide, by decide⟩, tw_316, _, _, _, rfl, Or.inl ⟨tw_351, tw_317⟩⟩
theorem ss_X11_kindNumbered_221 : ab_sV mX11_kindNumbered 221 0 mJx4a65c_get_915e3 1 := ⟨⟨zc_Jx4a65c_get_915e3.1, zc_Jx4a65c_get_915e3.2.1, zc_Jx4a65c_get_915e3.2.2, by decide, by decide⟩, tw_320, _, _, _, rfl, Or.inl ⟨tw_352, tw_321⟩⟩
theorem ss_X11_sayingIn_163 : ab_sV mX11_sayingIn 163 0 mJx4a65c_size_8abf5 0 := ⟨⟨zc_Jx4a65c_size_8abf5.1, zc_Jx4a65c_size_8abf5.2.1, zc_Jx4a65c_size_8abf5.2.2, by decide, by decide⟩, tw_316, _, _, _, rfl, Or.inl ⟨tw_351, tw_317⟩⟩
theorem ss_X11_sayingIn_221 : ab_sV mX11_sayingIn 221 0 mJx4a65c_get_915e3 1 := ⟨⟨zc_Jx4a65c_get_915e3.1, zc_Jx4a65c_get_915e3.2.1, zc_Jx4a65c_get_915e3.2.2, by decide, by decide⟩, tw_320, _, _, _, rfl, Or.inl ⟨tw_352, tw_321⟩⟩
theorem ss_X11_newSaying_393_9 : ab_sV mX11_newSaying 393 9 mX8_worldsOf 3 := ⟨⟨zc_X8_worldsOf.1, zc_X8_worldsOf.2.1, zc_X8_worldsOf.2.2, by decide, by decide⟩, tw_362, _, _, _, rfl, Or.inl ⟨tw_361, tw_363⟩⟩
theorem ss_X11_newSaying_393_3 : ab_sV mX11_newSaying 393 3 mX8_worldsOf 3 := ⟨⟨zc_X8_worldsOf.1, zc_X8_worldsOf.2.1, zc_X8_worldsOf.2.2, by decide, by decide⟩, tw_362, _, _, _, rfl, Or.inr (Or.inr ⟨⟨"WitnessesMustLie$Says", "worldsOf", "(III)J"⟩, "WitnessesMustLie$Says", _, _, _, tw_361, tw_364, tw_362, tw_372, tw_367, by decide +kernel, by decide +kernel, rfl⟩)⟩
theorem ss_X11_newSaying_393_2 : ab_sV mX11_newSaying 393 2 mX8_worldsOf 3 := ⟨⟨zc_X8_worldsOf.1, zc_X8_worldsOf.2.1, zc_X8_worldsOf.2.2, by decide, by decide⟩, tw_362, _, _, _, rfl, Or.inr (Or.inr ⟨⟨"WitnessesMustLie$Says", "worldsOf", "(III)J"⟩, "WitnessesMustLie$Says", _, _, _, tw_361, tw_364, tw_362, tw_372, tw_366, by decide +kernel, by decide +kernel, rfl⟩)⟩
theorem ss_X11_newSaying_393_4 : ab_sV mX11_newSaying 393 4 mX8_worldsOf 3 := ⟨⟨zc_X8_worldsOf.1, zc_X8_worldsOf.2.1, zc_X8_worldsOf.2.2, by decide, by decide⟩, tw_362, _, _, _, rfl, Or.inr (Or.inr ⟨⟨"WitnessesMustLie$Says", "worldsOf", "(III)J"⟩, "WitnessesMustLie$Says", _, _, _, tw_361, tw_364, tw_362, tw_372, tw_368, by decide +kernel, by decide +kernel, rfl⟩)⟩
theorem ss_X11_newSaying_393_6 : ab_sV mX11_newSaying 393 6 mX8_worldsOf 3 := ⟨⟨zc_X8_worldsOf.1, zc_X8_worldsOf.2.1, zc_X8_worldsOf.2.2, by decide, by decide⟩, tw_362, _, _, _, rfl, Or.inr (Or.inr ⟨⟨"WitnessesMustLie$Says", "worldsOf", "(III)J"⟩, "WitnessesMustLie$Says", _, _, _, tw_361, tw_364, tw_362, tw_372, tw_370, by decide +kernel, by decide +kernel, rfl⟩)⟩
theorem ss_X11_newSaying_393_1 : ab_sV mX11_newSaying 393 1 mX8_worldsOf 3 := ⟨⟨zc_X8_worldsOf.1, zc_X8_worldsOf.2.1, zc_X8_worldsOf.2.2, by decide, by decide⟩, tw_362, _, _, _, rfl, Or.inr (Or.inr ⟨⟨"WitnessesMustLie$Says", "worldsOf", "(III)J"⟩, "WitnessesMustLie$Says", _, _, _, tw_361, tw_364, tw_362, tw_372, tw_365, by decide +kernel, by decide +kernel, rfl⟩)⟩
theorem ss_X11_newSaying_393_5 : ab_sV mX11_newSaying 393 5 mX8_worldsOf 3 := ⟨⟨zc_X8_worldsOf.1, zc_X8_worldsOf.2.1, zc_X8_worldsOf.2.2, by decide, by decide⟩, tw_362, _, _, _, rfl, Or.inr (Or.inr ⟨⟨"WitnessesMustLie$Says", "worldsOf", "(III)J"⟩, "WitnessesMustLie$Says", _, _, _, tw_361, tw_364, tw_362, tw_372, tw_369, by decide +kernel, by decide +kernel, rfl⟩)⟩
theorem ss_X11_newSaying_393_7 : ab_sV mX11_newSaying 393 7 mX8_worldsOf 3 := ⟨⟨zc_X8_worldsOf.1, zc_X8_worldsOf.2.1, zc_X8_worldsOf.2.2, by decide, by decide⟩, tw_362, _, _, _, rfl, Or.inr (Or.inr ⟨⟨"WitnessesMustLie$Says", "worldsOf", "(III)J"⟩, "WitnessesMustLie$Says", _, _, _, tw_361, tw_364, tw_362, tw_372, tw_371, by decide +kernel, by decide +kernel, rfl⟩)⟩
theorem ss_X11_newSaying_396 : ab_sI mX11_newSaying 396 mX7_init 6 := ⟨⟨zc_X7_init.1, zc_X7_init.2.1, zc_X7_init.2.2, by decide, by decide⟩, tw_407, rfl, rfl, Or.inl tw_406⟩
theorem ss_X11_factsOfAll_233 : ab_sS mX11_factsOfAll 233 mX11_worldsWith 1 := ⟨⟨zc_X11_worldsWith.1, zc_X11_worldsWith.2.1, zc_X11_worldsWith.2.2, by decide, by decide⟩, tw_374, Or.inl tw_619⟩
theorem ss_X11_factsOfAll_402 : ab_sS mX11_factsOfAll 402 mX11_factBit 1 := ⟨⟨zc_X11_factBit.1, zc_X11_factBit.2.1, zc_X11_factBit.2.2, by decide, by decide⟩, tw_523, Or.inl tw_621⟩
theorem ss_X11_factsOfNone_233 : ab_sS mX11_factsOfNone 233 mX11_worldsWith 1 := ⟨⟨zc_X11_worldsWith.1, zc_X11_worldsWith.2.1, zc_X11_worldsWith.2.2, by decide, by decide⟩, tw_374, Or.inl tw_619⟩
theorem ss_X11_factsOfNone_402 : ab_sS mX11_factsOfNone 402 mX11_factBit 1 := ⟨⟨zc_X11_factBit.1, zc_X11_factBit.2.1, zc_X11_factBit.2.2, by decide, by decide⟩, tw_523, Or.inl tw_621⟩
theorem ss_X11_factsAlike_202 : ab_sS mX11_factsAlike 202 mX11_factsOfAll 1 := ⟨⟨zc_X11_factsOfAll.1, zc_X11_factsOfAll.2.1, zc_X11_factsOfAll.2.2, by decide, by decide⟩, tw_617, Or.inl tw_616⟩
theorem ss_X11_factsAlike_205 : ab_sS mX11_factsAlike 205 mX11_factsOfNone 1 := ⟨⟨zc_X11_factsOfNone.1, zc_X11_factsOfNone.2.1, zc_X11_factsOfNone.2.2, by decide, by decide⟩, tw_623, Or.inl tw_622⟩
theorem ss_X11_isProvedBy_233 : ab_sS mX11_isProvedBy 233 mX11_worldsWith 1 := ⟨⟨zc_X11_worldsWith.1, zc_X11_worldsWith.2.1, zc_X11_worldsWith.2.2, by decide, by decide⟩, tw_374, Or.inl tw_619⟩
theorem ss_X11_likeInKnown_402 : ab_sS mX11_likeInKnown 402 mX11_factBit 1 := ⟨⟨zc_X11_factBit.1, zc_X11_factBit.2.1, zc_X11_factBit.2.2, by decide, by decide⟩, tw_523, Or.inl tw_621⟩
theorem ss_X11_likeInKnown_233 : ab_sS mX11_likeInKnown 233 mX11_worldsWith 1 := ⟨⟨zc_X11_worldsWith.1, zc_X11_worldsWith.2.1, zc_X11_worldsWith.2.2, by decide, by decide⟩, tw_374, Or.inl tw_619⟩
theorem ss_X11_brokenPlace_314 : ab_sV mX11_brokenPlace 314 10 mX9_numberAt 1 := ⟨⟨zc_X9_numberAt.1, zc_X9_numberAt.2.1, zc_X9_numberAt.2.2, by decide, by decide⟩, tw_288, _, _, _, rfl, Or.inl ⟨tw_287, tw_289⟩⟩
theorem ss_X11_brokenPlace_405 : ab_sS mX11_brokenPlace 405 mX11_digitsBehind 1 := ⟨⟨zc_X11_digitsBehind.1, zc_X11_digitsBehind.2.1, zc_X11_digitsBehind.2.2, by decide, by decide⟩, tw_296, Or.inl tw_295⟩
theorem ss_X11_brokenPlace_408 : ab_sS mX11_brokenPlace 408 mX11_isDigit 1 := ⟨⟨zc_X11_isDigit.1, zc_X11_isDigit.2.1, zc_X11_isDigit.2.2, by decide, by decide⟩, tw_299, Or.inl tw_298⟩
theorem ss_X11_digitAt_314 : ab_sV mX11_digitAt 314 10 mX9_numberAt 1 := ⟨⟨zc_X9_numberAt.1, zc_X9_numberAt.2.1, zc_X9_numberAt.2.2, by decide, by decide⟩, tw_288, _, _, _, rfl, Or.inl ⟨tw_287, tw_289⟩⟩
theorem ss_X11_twoDigitsAt_411 : ab_sS mX11_twoDigitsAt 411 mX11_digitAt 2 := ⟨⟨zc_X11_digitAt.1, zc_X11_digitAt.2.1, zc_X11_digitAt.2.2, by decide, by decide⟩, tw_346, Or.inl tw_345⟩
theorem ss_X11_enact_323 : ab_sV mX11_enact 323 11 mX10_becomes 1 := ⟨⟨zc_X10_becomes.1, zc_X10_becomes.2.1, zc_X10_becomes.2.2, by decide, by decide⟩, tw_305, _, _, _, rfl, Or.inl ⟨tw_304, tw_306⟩⟩
theorem ss_X11_enact_415 : ab_sV mX11_enact 415 12 mX11_isEnacted 2 := ⟨⟨zc_X11_isEnacted.1, zc_X11_isEnacted.2.1, zc_X11_isEnacted.2.2, by decide, by decide⟩, tw_340, _, _, _, rfl, Or.inl ⟨tw_339, tw_6⟩⟩
theorem ss_X11_enact_314 : ab_sV mX11_enact 314 10 mX9_numberAt 1 := ⟨⟨zc_X9_numberAt.1, zc_X9_numberAt.2.1, zc_X9_numberAt.2.2, by decide, by decide⟩, tw_288, _, _, _, rfl, Or.inl ⟨tw_287, tw_289⟩⟩
theorem ss_X11_enact_405 : ab_sS mX11_enact 405 mX11_digitsBehind 1 := ⟨⟨zc_X11_digitsBehind.1, zc_X11_digitsBehind.2.1, zc_X11_digitsBehind.2.2, by decide, by decide⟩, tw_296, Or.inl tw_295⟩
theorem ss_X11_isEnacted_314 : ab_sV mX11_isEnacted 314 10 mX9_numberAt 1 := ⟨⟨zc_X9_numberAt.1, zc_X9_numberAt.2.1, zc_X9_numberAt.2.2, by decide, by decide⟩, tw_288, _, _, _, rfl, Or.inl ⟨tw_287, tw_289⟩⟩
theorem ss_X11_isEnacted_419 : ab_sV mX11_isEnacted 419 12 mX11_sayingAt 3 := ⟨⟨zc_X11_sayingAt.1, zc_X11_sayingAt.2.1, zc_X11_sayingAt.2.2, by decide, by decide⟩, tw_343, _, _, _, rfl, Or.inl ⟨tw_342, tw_7⟩⟩
theorem ss_X11_isEnacted_159 : ab_sV mX11_isEnacted 159 11 mX10_addLaw 1 := ⟨⟨zc_X10_addLaw.1, zc_X10_addLaw.2.1, zc_X10_addLaw.2.2, by decide, by decide⟩, tw_428, _, _, _, rfl, Or.inl ⟨tw_427, tw_429⟩⟩
theorem ss_X11_isEnacted_423 : ab_sS mX11_isEnacted 423 mX11_twoDigitsAt 2 := ⟨⟨zc_X11_twoDigitsAt.1, zc_X11_twoDigitsAt.2.1, zc_X11_twoDigitsAt.2.2, by decide, by decide⟩, tw_432, Or.inl tw_431⟩
theorem ss_X11_isEnacted_176 : ab_sV mX11_isEnacted 176 11 mX10_addWitness 1 := ⟨⟨zc_X10_addWitness.1, zc_X10_addWitness.2.1, zc_X10_addWitness.2.2, by decide, by decide⟩, tw_435, _, _, _, rfl, Or.inl ⟨tw_434, tw_436⟩⟩
theorem ss_X11_isEnacted_426 : ab_sV mX11_isEnacted 426 11 mX10_setTruth 1 := ⟨⟨zc_X10_setTruth.1, zc_X10_setTruth.2.1, zc_X10_setTruth.2.2, by decide, by decide⟩, tw_442, _, _, _, rfl, Or.inl ⟨tw_441, tw_443⟩⟩
theorem ss_X11_isEnacted_411 : ab_sS mX11_isEnacted 411 mX11_digitAt 2 := ⟨⟨zc_X11_digitAt.1, zc_X11_digitAt.2.1, zc_X11_digitAt.2.2, by decide, by decide⟩, tw_346, Or.inl tw_345⟩
theorem ss_X11_isEnacted_166 : ab_sV mX11_isEnacted 166 11 mX10_addSaid 1 := ⟨⟨zc_X10_addSaid.1, zc_X10_addSaid.2.1, zc_X10_addSaid.2.2, by decide, by decide⟩, tw_449, _, _, _, rfl, Or.inl ⟨tw_448, tw_450⟩⟩
theorem ss_X11_sayingAt_411 : ab_sS mX11_sayingAt 411 mX11_digitAt 2 := ⟨⟨zc_X11_digitAt.1, zc_X11_digitAt.2.1, zc_X11_digitAt.2.2, by decide, by decide⟩, tw_346, Or.inl tw_345⟩
theorem ss_X11_sayingAt_337 : ab_sV mX11_sayingAt 337 12 mX11_kindNumbered 1 := ⟨⟨zc_X11_kindNumbered.1, zc_X11_kindNumbered.2.1, zc_X11_kindNumbered.2.2, by decide, by decide⟩, tw_349, _, _, _, rfl, Or.inl ⟨tw_348, tw_8⟩⟩
theorem ss_X11_sayingAt_135 : ab_sS mX11_sayingAt 135 mX11_isFact 1 := ⟨⟨zc_X11_isFact.1, zc_X11_isFact.2.1, zc_X11_isFact.2.2, by decide, by decide⟩, tw_354, Or.inl tw_353⟩
theorem ss_X11_sayingAt_155 : ab_sS mX11_sayingAt 155 mX11_newSaying 5 := ⟨⟨zc_X11_newSaying.1, zc_X11_newSaying.2.1, zc_X11_newSaying.2.2, by decide, by decide⟩, tw_357, Or.inl tw_356⟩
theorem ss_X11_leastOrder_224 : ab_sS mX11_leastOrder 224 mJ6_bitCount_0f7a4 1 := ⟨⟨zc_J6_bitCount_0f7a4.1, zc_J6_bitCount_0f7a4.2.1, zc_J6_bitCount_0f7a4.2.2, by decide, by decide⟩, tw_652, Or.inl tw_651⟩
theorem ss_X11_leastOrder_242 : ab_sV mX11_leastOrder 242 11 mX10_isPlainBy 1 := ⟨⟨zc_X10_isPlainBy.1, zc_X10_isPlainBy.2.1, zc_X10_isPlainBy.2.2, by decide, by decide⟩, tw_667, _, _, _, rfl, Or.inl ⟨tw_666, tw_668⟩⟩
theorem ss_X11_leastOrder_429 : ab_sV mX11_leastOrder 429 12 mX11_digitsWithAhead 1 := ⟨⟨zc_X11_digitsWithAhead.1, zc_X11_digitsWithAhead.2.1, zc_X11_digitsWithAhead.2.2, by decide, by decide⟩, tw_918, _, _, _, rfl, Or.inl ⟨tw_917, tw_16⟩⟩
theorem ss_X11_leastOrder_236 : ab_sS mX11_leastOrder 236 mJ9_min_7cf53 2 := ⟨⟨zc_J9_min_7cf53.1, zc_J9_min_7cf53.2.1, zc_J9_min_7cf53.2.2, by decide, by decide⟩, tw_165, Or.inl tw_661⟩
theorem ss_X11_digitsWithAhead_432 : ab_sV mX11_digitsWithAhead 432 12 mX11_digitsOf 2 := ⟨⟨zc_X11_digitsOf.1, zc_X11_digitsOf.2.1, zc_X11_digitsOf.2.2, by decide, by decide⟩, tw_921, _, _, _, rfl, Or.inl ⟨tw_920, tw_17⟩⟩
theorem ss_X11_worldsOfCode_261 : ab_sS mX11_worldsOfCode 261 mX11_kindOfCode 1 := ⟨⟨zc_X11_kindOfCode.1, zc_X11_kindOfCode.2.1, zc_X11_kindOfCode.2.2, by decide, by decide⟩, tw_688, Or.inl tw_687⟩
theorem ss_X11_worldsOfCode_337 : ab_sV mX11_worldsOfCode 337 12 mX11_kindNumbered 1 := ⟨⟨zc_X11_kindNumbered.1, zc_X11_kindNumbered.2.1, zc_X11_kindNumbered.2.2, by decide, by decide⟩, tw_349, _, _, _, rfl, Or.inl ⟨tw_348, tw_8⟩⟩
theorem ss_X11_worldsOfCode_264 : ab_sS mX11_worldsOfCode 264 mX11_firstOfCode 1 := ⟨⟨zc_X11_firstOfCode.1, zc_X11_firstOfCode.2.1, zc_X11_firstOfCode.2.2, by decide, by decide⟩, tw_691, Or.inl tw_690⟩
theorem ss_X11_worldsOfCode_267 : ab_sS mX11_worldsOfCode 267 mX11_secondOfCode 1 := ⟨⟨zc_X11_secondOfCode.1, zc_X11_secondOfCode.2.1, zc_X11_secondOfCode.2.2, by decide, by decide⟩, tw_694, Or.inl tw_693⟩
theorem ss_X11_worldsOfCode_393_9 : ab_sV mX11_worldsOfCode 393 9 mX8_worldsOf 3 := ⟨⟨zc_X8_worldsOf.1, zc_X8_worldsOf.2.1, zc_X8_worldsOf.2.2, by decide, by decide⟩, tw_362, _, _, _, rfl, Or.inl ⟨tw_361, tw_363⟩⟩
theorem ss_X11_worldsOfCode_393_3 : ab_sV mX11_worldsOfCode 393 3 mX8_worldsOf 3 := ⟨⟨zc_X8_worldsOf.1, zc_X8_worldsOf.2.1, zc_X8_worldsOf.2.2, by decide, by decide⟩, tw_362, _, _, _, rfl, Or.inr (Or.inr ⟨⟨"WitnessesMustLie$Says", "worldsOf", "(III)J"⟩, "WitnessesMustLie$Says", _, _, _, tw_361, tw_364, tw_362, tw_372, tw_367, by decide +kernel, by decide +kernel, rfl⟩)⟩
theorem ss_X11_worldsOfCode_393_2 : ab_sV mX11_worldsOfCode 393 2 mX8_worldsOf 3 := ⟨⟨zc_X8_worldsOf.1, zc_X8_worldsOf.2.1, zc_X8_worldsOf.2.2, by decide, by decide⟩, tw_362, _, _, _, rfl, Or.inr (Or.inr ⟨⟨"WitnessesMustLie$Says", "worldsOf", "(III)J"⟩, "WitnessesMustLie$Says", _, _, _, tw_361, tw_364, tw_362, tw_372, tw_366, by decide +kernel, by decide +kernel, rfl⟩)⟩
theorem ss_X11_worldsOfCode_393_4 : ab_sV mX11_worldsOfCode 393 4 mX8_worldsOf 3 := ⟨⟨zc_X8_worldsOf.1, zc_X8_worldsOf.2.1, zc_X8_worldsOf.2.2, by decide, by decide⟩, tw_362, _, _, _, rfl, Or.inr (Or.inr ⟨⟨"WitnessesMustLie$Says", "worldsOf", "(III)J"⟩, "WitnessesMustLie$Says", _, _, _, tw_361, tw_364, tw_362, tw_372, tw_368, by decide +kernel, by decide +kernel, rfl⟩)⟩
theorem ss_X11_worldsOfCode_393_6 : ab_sV mX11_worldsOfCode 393 6 mX8_worldsOf 3 := ⟨⟨zc_X8_worldsOf.1, zc_X8_worldsOf.2.1, zc_X8_worldsOf.2.2, by decide, by decide⟩, tw_362, _, _, _, rfl, Or.inr (Or.inr ⟨⟨"WitnessesMustLie$Says", "worldsOf", "(III)J"⟩, "WitnessesMustLie$Says", _, _, _, tw_361, tw_364, tw_362, tw_372, tw_370, by decide +kernel, by decide +kernel, rfl⟩)⟩
theorem ss_X11_worldsOfCode_393_1 : ab_sV mX11_worldsOfCode 393 1 mX8_worldsOf 3 := ⟨⟨zc_X8_worldsOf.1, zc_X8_worldsOf.2.1, zc_X8_worldsOf.2.2, by decide, by decide⟩, tw_362, _, _, _, rfl, Or.inr (Or.inr ⟨⟨"WitnessesMustLie$Says", "worldsOf", "(III)J"⟩, "WitnessesMustLie$Says", _, _, _, tw_361, tw_364, tw_362, tw_372, tw_365, by decide +kernel, by decide +kernel, rfl⟩)⟩
theorem ss_X11_worldsOfCode_393_5 : ab_sV mX11_worldsOfCode 393 5 mX8_worldsOf 3 := ⟨⟨zc_X8_worldsOf.1, zc_X8_worldsOf.2.1, zc_X8_worldsOf.2.2, by decide, by decide⟩, tw_362, _, _, _, rfl, Or.inr (Or.inr ⟨⟨"WitnessesMustLie$Says", "worldsOf", "(III)J"⟩, "WitnessesMustLie$Says", _, _, _, tw_361, tw_364, tw_362, tw_372, tw_369, by decide +kernel, by decide +kernel, rfl⟩)⟩
theorem ss_X11_worldsOfCode_393_7 : ab_sV mX11_worldsOfCode 393 7 mX8_worldsOf 3 := ⟨⟨zc_X8_worldsOf.1, zc_X8_worldsOf.2.1, zc_X8_worldsOf.2.2, by decide, by decide⟩, tw_362, _, _, _, rfl, Or.inr (Or.inr ⟨⟨"WitnessesMustLie$Says", "worldsOf", "(III)J"⟩, "WitnessesMustLie$Says", _, _, _, tw_361, tw_364, tw_362, tw_372, tw_371, by decide +kernel, by decide +kernel, rfl⟩)⟩
theorem ss_X11_isLie_261 : ab_sS mX11_isLie 261 mX11_kindOfCode 1 := ⟨⟨zc_X11_kindOfCode.1, zc_X11_kindOfCode.2.1, zc_X11_kindOfCode.2.2, by decide, by decide⟩, tw_688, Or.inl tw_687⟩
theorem ss_X11_isLie_337 : ab_sV mX11_isLie 337 12 mX11_kindNumbered 1 := ⟨⟨zc_X11_kindNumbered.1, zc_X11_kindNumbered.2.1, zc_X11_kindNumbered.2.2, by decide, by decide⟩, tw_349, _, _, _, rfl, Or.inl ⟨tw_348, tw_8⟩⟩
theorem ss_X11_isLie_264 : ab_sS mX11_isLie 264 mX11_firstOfCode 1 := ⟨⟨zc_X11_firstOfCode.1, zc_X11_firstOfCode.2.1, zc_X11_firstOfCode.2.2, by decide, by decide⟩, tw_691, Or.inl tw_690⟩
theorem ss_X11_isLie_267 : ab_sS mX11_isLie 267 mX11_secondOfCode 1 := ⟨⟨zc_X11_secondOfCode.1, zc_X11_secondOfCode.2.1, zc_X11_secondOfCode.2.2, by decide, by decide⟩, tw_694, Or.inl tw_693⟩
theorem ss_X11_isLie_435_9 : ab_sV mX11_isLie 435 9 mX8_facts 3 := ⟨⟨zc_X8_facts.1, zc_X8_facts.2.1, zc_X8_facts.2.2, by decide, by decide⟩, tw_515, _, _, _, rfl, Or.inl ⟨tw_696, tw_516⟩⟩
theorem ss_X11_isLie_435_3 : ab_sV mX11_isLie 435 3 mX8_facts 3 := ⟨⟨zc_X8_facts.1, zc_X8_facts.2.1, zc_X8_facts.2.2, by decide, by decide⟩, tw_515, _, _, _, rfl, Or.inr (Or.inr ⟨⟨"WitnessesMustLie$Says", "facts", "(III)I"⟩, "WitnessesMustLie$Says", _, _, _, tw_696, tw_517, tw_515, tw_536, tw_526, by decide +kernel, by decide +kernel, rfl⟩)⟩
theorem ss_X11_isLie_435_2 : ab_sV mX11_isLie 435 2 mX1_facts 3 := ⟨⟨zc_X1_facts.1, zc_X1_facts.2.1, zc_X1_facts.2.2, by decide, by decide⟩, tw_519, _, _, _, rfl, Or.inr (Or.inr ⟨⟨"WitnessesMustLie$Says", "facts", "(III)I"⟩, "WitnessesMustLie$Says", _, _, _, tw_696, tw_517, tw_515, tw_536, tw_525, by decide +kernel, by decide +kernel, rfl⟩)⟩
theorem ss_X11_isLie_435_4 : ab_sV mX11_isLie 435 4 mX1_facts 3 := ⟨⟨zc_X1_facts.1, zc_X1_facts.2.1, zc_X1_facts.2.2, by decide, by decide⟩, tw_519, _, _, _, rfl, Or.inr (Or.inr ⟨⟨"WitnessesMustLie$Says", "facts", "(III)I"⟩, "WitnessesMustLie$Says", _, _, _, tw_696, tw_517, tw_515, tw_536, tw_527, by decide +kernel, by decide +kernel, rfl⟩)⟩
theorem ss_X11_isLie_435_6 : ab_sV mX11_isLie 435 6 mX1_facts 3 := ⟨⟨zc_X1_facts.1, zc_X1_facts.2.1, zc_X1_facts.2.2, by decide, by decide⟩, tw_519, _, _, _, rfl, Or.inr (Or.inr ⟨⟨"WitnessesMustLie$Says", "facts", "(III)I"⟩, "WitnessesMustLie$Says", _, _, _, tw_696, tw_517, tw_515, tw_536, tw_529, by decide +kernel, by decide +kernel, rfl⟩)⟩
theorem ss_X11_isLie_435_1 : ab_sV mX11_isLie 435 1 mX1_facts 3 := ⟨⟨zc_X1_facts.1, zc_X1_facts.2.1, zc_X1_facts.2.2, by decide, by decide⟩, tw_519, _, _, _, rfl, Or.inr (Or.inr ⟨⟨"WitnessesMustLie$Says", "facts", "(III)I"⟩, "WitnessesMustLie$Says", _, _, _, tw_696, tw_517, tw_515, tw_536, tw_518, by decide +kernel, by decide +kernel, rfl⟩)⟩
theorem ss_X11_isLie_435_5 : ab_sV mX11_isLie 435 5 mX8_facts 3 := ⟨⟨zc_X8_facts.1, zc_X8_facts.2.1, zc_X8_facts.2.2, by decide, by decide⟩, tw_515, _, _, _, rfl, Or.inr (Or.inr ⟨⟨"WitnessesMustLie$Says", "facts", "(III)I"⟩, "WitnessesMustLie$Says", _, _, _, tw_696, tw_517, tw_515, tw_536, tw_528, by decide +kernel, by decide +kernel, rfl⟩)⟩
theorem ss_X11_isLie_435_7 : ab_sV mX11_isLie 435 7 mX6_facts 3 := ⟨⟨zc_X6_facts.1, zc_X6_facts.2.1, zc_X6_facts.2.2, by decide, by decide⟩, tw_531, _, _, _, rfl, Or.inr (Or.inr ⟨⟨"WitnessesMustLie$Says", "facts", "(III)I"⟩, "WitnessesMustLie$Says", _, _, _, tw_696, tw_517, tw_515, tw_536, tw_530, by decide +kernel, by decide +kernel, rfl⟩)⟩
theorem ss_X11_isLie_132 : ab_sV mX11_isLie 132 11 mX10_knownBy 1 := ⟨⟨zc_X10_knownBy.1, zc_X10_knownBy.2.1, zc_X10_knownBy.2.2, by decide, by decide⟩, tw_336, _, _, _, rfl, Or.inl ⟨tw_697, tw_337⟩⟩
theorem ss_X11_isLie_258 : ab_sV mX11_isLie 258 12 mX11_worldsOfCode 1 := ⟨⟨zc_X11_worldsOfCode.1, zc_X11_worldsOfCode.2.1, zc_X11_worldsOfCode.2.2, by decide, by decide⟩, tw_699, _, _, _, rfl, Or.inl ⟨tw_698, tw_11⟩⟩
theorem ss_X11_isLie_117 : ab_sS mX11_isLie 117 mX11_hasWorld 2 := ⟨⟨zc_X11_hasWorld.1, zc_X11_hasWorld.2.1, zc_X11_hasWorld.2.2, by decide, by decide⟩, tw_464, Or.inl tw_463⟩
theorem ss_X11_seedAfterDraws_441 : ab_sS mX11_seedAfterDraws 441 mX11_nextSeed 1 := ⟨⟨zc_X11_nextSeed.1, zc_X11_nextSeed.2.1, zc_X11_nextSeed.2.2, by decide, by decide⟩, tw_741, Or.inl tw_740⟩
theorem ss_X11_worldsOfDraws_441 : ab_sS mX11_worldsOfDraws 441 mX11_nextSeed 1 := ⟨⟨zc_X11_nextSeed.1, zc_X11_nextSeed.2.1, zc_X11_nextSeed.2.2, by decide, by decide⟩, tw_741, Or.inl tw_740⟩
theorem ss_X11_worldsOfDraws_163 : ab_sV mX11_worldsOfDraws 163 0 mJx4a65c_size_8abf5 0 := ⟨⟨zc_Jx4a65c_size_8abf5.1, zc_Jx4a65c_size_8abf5.2.1, zc_Jx4a65c_size_8abf5.2.2, by decide, by decide⟩, tw_316, _, _, _, rfl, Or.inl ⟨tw_351, tw_317⟩⟩
theorem ss_X11_worldsOfDraws_444 : ab_sS mX11_worldsOfDraws 444 mX11_drawnBelow 2 := ⟨⟨zc_X11_drawnBelow.1, zc_X11_drawnBelow.2.1, zc_X11_drawnBelow.2.2, by decide, by decide⟩, tw_745, Or.inl tw_744⟩
theorem ss_X11_worldsOfDraws_337 : ab_sV mX11_worldsOfDraws 337 12 mX11_kindNumbered 1 := ⟨⟨zc_X11_kindNumbered.1, zc_X11_kindNumbered.2.1, zc_X11_kindNumbered.2.2, by decide, by decide⟩, tw_349, _, _, _, rfl, Or.inl ⟨tw_348, tw_8⟩⟩
theorem ss_X11_worldsOfDraws_393_9 : ab_sV mX11_worldsOfDraws 393 9 mX8_worldsOf 3 := ⟨⟨zc_X8_worldsOf.1, zc_X8_worldsOf.2.1, zc_X8_worldsOf.2.2, by decide, by decide⟩, tw_362, _, _, _, rfl, Or.inl ⟨tw_361, tw_363⟩⟩
theorem ss_X11_worldsOfDraws_393_3 : ab_sV mX11_worldsOfDraws 393 3 mX8_worldsOf 3 := ⟨⟨zc_X8_worldsOf.1, zc_X8_worldsOf.2.1, zc_X8_worldsOf.2.2, by decide, by decide⟩, tw_362, _, _, _, rfl, Or.inr (Or.inr ⟨⟨"WitnessesMustLie$Says", "worldsOf", "(III)J"⟩, "WitnessesMustLie$Says", _, _, _, tw_361, tw_364, tw_362, tw_372, tw_367, by decide +kernel, by decide +kernel, rfl⟩)⟩
theorem ss_X11_worldsOfDraws_393_2 : ab_sV mX11_worldsOfDraws 393 2 mX8_worldsOf 3 := ⟨⟨zc_X8_worldsOf.1, zc_X8_worldsOf.2.1, zc_X8_worldsOf.2.2, by decide, by decide⟩, tw_362, _, _, _, rfl, Or.inr (Or.inr ⟨⟨"WitnessesMustLie$Says", "worldsOf", "(III)J"⟩, "WitnessesMustLie$Says", _, _, _, tw_361, tw_364, tw_362, tw_372, tw_366, by decide +kernel, by decide +kernel, rfl⟩)⟩
theorem ss_X11_worldsOfDraws_393_4 : ab_sV mX11_worldsOfDraws 393 4 mX8_worldsOf 3 := ⟨⟨zc_X8_worldsOf.1, zc_X8_worldsOf.2.1, zc_X8_worldsOf.2.2, by decide, by decide⟩, tw_362, _, _, _, rfl, Or.inr (Or.inr ⟨⟨"WitnessesMustLie$Says", "worldsOf", "(III)J"⟩, "WitnessesMustLie$Says", _, _, _, tw_361, tw_364, tw_362, tw_372, tw_368, by decide +kernel, by decide +kernel, rfl⟩)⟩
theorem ss_X11_worldsOfDraws_393_6 : ab_sV mX11_worldsOfDraws 393 6 mX8_worldsOf 3 := ⟨⟨zc_X8_worldsOf.1, zc_X8_worldsOf.2.1, zc_X8_worldsOf.2.2, by decide, by decide⟩, tw_362, _, _, _, rfl, Or.inr (Or.inr ⟨⟨"WitnessesMustLie$Says", "worldsOf", "(III)J"⟩, "WitnessesMustLie$Says", _, _, _, tw_361, tw_364, tw_362, tw_372, tw_370, by decide +kernel, by decide +kernel, rfl⟩)⟩
theorem ss_X11_worldsOfDraws_393_1 : ab_sV mX11_worldsOfDraws 393 1 mX8_worldsOf 3 := ⟨⟨zc_X8_worldsOf.1, zc_X8_worldsOf.2.1, zc_X8_worldsOf.2.2, by decide, by decide⟩, tw_362, _, _, _, rfl, Or.inr (Or.inr ⟨⟨"WitnessesMustLie$Says", "worldsOf", "(III)J"⟩, "WitnessesMustLie$Says", _, _, _, tw_361, tw_364, tw_362, tw_372, tw_365, by decide +kernel, by decide +kernel, rfl⟩)⟩
theorem ss_X11_worldsOfDraws_393_5 : ab_sV mX11_worldsOfDraws 393 5 mX8_worldsOf 3 := ⟨⟨zc_X8_worldsOf.1, zc_X8_worldsOf.2.1, zc_X8_worldsOf.2.2, by decide, by decide⟩, tw_362, _, _, _, rfl, Or.inr (Or.inr ⟨⟨"WitnessesMustLie$Says", "worldsOf", "(III)J"⟩, "WitnessesMustLie$Says", _, _, _, tw_361, tw_364, tw_362, tw_372, tw_369, by decide +kernel, by decide +kernel, rfl⟩)⟩
theorem ss_X11_worldsOfDraws_393_7 : ab_sV mX11_worldsOfDraws 393 7 mX8_worldsOf 3 := ⟨⟨zc_X8_worldsOf.1, zc_X8_worldsOf.2.1, zc_X8_worldsOf.2.2, by decide, by decide⟩, tw_362, _, _, _, rfl, Or.inr (Or.inr ⟨⟨"WitnessesMustLie$Says", "worldsOf", "(III)J"⟩, "WitnessesMustLie$Says", _, _, _, tw_361, tw_364, tw_362, tw_372, tw_371, by decide +kernel, by decide +kernel, rfl⟩)⟩
theorem so_Jxa1e45_init_da8c8_1 : Cond.methodLink mJxa1e45_init_da8c8.1.cls 1 objectInit ∈ ab_Tg ∧ Cond.instanceMethod objectInit ∈ ab_Tg ∧ Cond.code objectInit ⟨#[0xb1]⟩ 1 none ∈ ab_Tg := ⟨tw_66, tw_53, tw_54⟩
theorem ss_Jxc12de_init_da8c8_1 : ab_sI mJxc12de_init_da8c8 1 mJxa1e45_init_da8c8 0 := ⟨⟨zc_Jxa1e45_init_da8c8.1, zc_Jxa1e45_init_da8c8.2.1, zc_Jxa1e45_init_da8c8.2.2, by decide, by decide⟩, tw_64, rfl, rfl, Or.inl tw_63⟩
theorem ss_Jx4a65c_init_da8c8_1 : ab_sI mJx4a65c_init_da8c8 1 mJxc12de_init_da8c8 0 := ⟨⟨zc_Jxc12de_init_da8c8.1, zc_Jxc12de_init_da8c8.2.1, zc_Jxc12de_init_da8c8.2.2, by decide, by decide⟩, tw_61, rfl, rfl, Or.inl tw_60⟩
theorem ss_Jx4a65c_grow_92f84_79 : ab_sS mJx4a65c_grow_92f84 79 mJ9_max_7cf53 2 := ⟨⟨zc_J9_max_7cf53.1, zc_J9_max_7cf53.2.1, zc_J9_max_7cf53.2.2, by decide, by decide⟩, tw_131, Or.inl tw_169⟩
theorem ss_Jx4a65c_grow_d5877_69 : ab_sV mJx4a65c_grow_d5877 69 0 mJx4a65c_grow_92f84 1 := ⟨⟨zc_Jx4a65c_grow_92f84.1, zc_Jx4a65c_grow_92f84.2.1, zc_Jx4a65c_grow_92f84.2.2, by decide, by decide⟩, tw_125, _, _, _, rfl, Or.inl ⟨tw_124, tw_2⟩⟩
theorem ss_Jx4a65c_get_915e3_118 : ab_sS mJx4a65c_get_915e3 118 mJ15_checkIndex_7cf53 2 := ⟨⟨zc_J15_checkIndex_7cf53.1, zc_J15_checkIndex_7cf53.2.1, zc_J15_checkIndex_7cf53.2.2, by decide, by decide⟩, tw_324, Or.inl tw_323⟩
theorem ss_Jx4a65c_get_915e3_123 : ab_sV mJx4a65c_get_915e3 123 0 mJx4a65c_elementData_915e3 1 := ⟨⟨zc_Jx4a65c_elementData_915e3.1, zc_Jx4a65c_elementData_915e3.2.1, zc_Jx4a65c_elementData_915e3.2.2, by decide, by decide⟩, tw_330, _, _, _, rfl, Or.inl ⟨tw_329, tw_331⟩⟩
theorem ss_Jx4a65c_add_72be8_129 : ab_sV mJx4a65c_add_72be8 129 0 mJx4a65c_grow_d5877 0 := ⟨⟨zc_Jx4a65c_grow_d5877.1, zc_Jx4a65c_grow_d5877.2.1, zc_Jx4a65c_grow_d5877.2.2, by decide, by decide⟩, tw_122, _, _, _, rfl, Or.inl ⟨tw_121, tw_1⟩⟩
theorem ss_Jx4a65c_add_9ea2d_131 : ab_sV mJx4a65c_add_9ea2d 131 0 mJx4a65c_add_72be8 3 := ⟨⟨zc_Jx4a65c_add_72be8.1, zc_Jx4a65c_add_72be8.2.1, zc_Jx4a65c_add_72be8.2.2, by decide, by decide⟩, tw_119, _, _, _, rfl, Or.inl ⟨tw_118, tw_0⟩⟩
theorem ss_Jx4a65c_remove_915e3_118 : ab_sS mJx4a65c_remove_915e3 118 mJ15_checkIndex_7cf53 2 := ⟨⟨zc_J15_checkIndex_7cf53.1, zc_J15_checkIndex_7cf53.2.1, zc_J15_checkIndex_7cf53.2.2, by decide, by decide⟩, tw_324, Or.inl tw_323⟩
theorem ss_Jx4a65c_remove_915e3_144 : ab_sV mJx4a65c_remove_915e3 144 0 mJx4a65c_fastRemove_b59b0 2 := ⟨⟨zc_Jx4a65c_fastRemove_b59b0.1, zc_Jx4a65c_fastRemove_b59b0.2.1, zc_Jx4a65c_fastRemove_b59b0.2.2, by decide, by decide⟩, tw_560, _, _, _, rfl, Or.inl ⟨tw_559, tw_9⟩⟩
theorem ss_J15_checkIndex_7cf53_105 : ab_sS mJ15_checkIndex_7cf53 105 mJ3_checkIndex_8e157 3 := ⟨⟨zc_J3_checkIndex_8e157.1, zc_J3_checkIndex_8e157.2.1, zc_J3_checkIndex_8e157.2.2, by decide, by decide⟩, tw_327, Or.inl tw_326⟩
theorem ss_L_world_7 : ab_sS mL_world 7 mL_at 2 := ⟨⟨zc_L_at.1, zc_L_at.2.1, zc_L_at.2.2, by decide, by decide⟩, tw_869, Or.inl tw_868⟩
theorem ss_L_world_13 : ab_sS mL_world 13 mL_some 2 := ⟨⟨zc_L_some.1, zc_L_some.2.1, zc_L_some.2.2, by decide, by decide⟩, tw_872, Or.inl tw_871⟩
theorem ss_L_world_17 : ab_sV mL_world 17 12 mX11_truth 1 := ⟨⟨zc_X11_truth.1, zc_X11_truth.2.1, zc_X11_truth.2.2, by decide, by decide⟩, tw_569, _, _, _, rfl, Or.inl ⟨tw_568, tw_570⟩⟩
theorem ss_L_world_23 : ab_sV mL_world 23 12 mX11_witness 1 := ⟨⟨zc_X11_witness.1, zc_X11_witness.2.1, zc_X11_witness.2.2, by decide, by decide⟩, tw_564, _, _, _, rfl, Or.inl ⟨tw_563, tw_565⟩⟩
theorem ss_L_world_26 : ab_sS mL_world 26 mL_saying 1 := ⟨⟨zc_L_saying.1, zc_L_saying.2.1, zc_L_saying.2.2, by decide, by decide⟩, tw_881, Or.inl tw_880⟩
theorem ss_L_world_29 : ab_sS mL_world 29 mL_holds 2 := ⟨⟨zc_L_holds.1, zc_L_holds.2.1, zc_L_holds.2.2, by decide, by decide⟩, tw_875, Or.inl tw_874⟩
theorem ss_L_world_33 : ab_sV mL_world 33 12 mX11_keep 4 := ⟨⟨zc_X11_keep.1, zc_X11_keep.2.1, zc_X11_keep.2.2, by decide, by decide⟩, tw_770, _, _, _, rfl, Or.inl ⟨tw_769, tw_771⟩⟩
theorem ss_L_world_37 : ab_sV mL_world 37 12 mX11_rules 3 := ⟨⟨zc_X11_rules.1, zc_X11_rules.2.1, zc_X11_rules.2.2, by decide, by decide⟩, tw_539, _, _, _, rfl, Or.inl ⟨tw_538, tw_540⟩⟩
theorem ss_L_world_41 : ab_sV mL_world 41 12 mX11_says 4 := ⟨⟨zc_X11_says.1, zc_X11_says.2.1, zc_X11_says.2.2, by decide, by decide⟩, tw_547, _, _, _, rfl, Or.inl ⟨tw_546, tw_548⟩⟩
theorem ss_L_saying_13 : ab_sS mL_saying 13 mL_some 2 := ⟨⟨zc_L_some.1, zc_L_some.2.1, zc_L_some.2.2, by decide, by decide⟩, tw_872, Or.inl tw_871⟩
theorem ss_L_told_48 : ab_sV mL_told 48 12 mX11_count 1 := ⟨⟨zc_X11_count.1, zc_X11_count.2.1, zc_X11_count.2.2, by decide, by decide⟩, tw_761, _, _, _, rfl, Or.inl ⟨tw_760, tw_762⟩⟩
theorem ss_L_told_51 : ab_sV mL_told 51 12 mX11_law 2 := ⟨⟨zc_X11_law.1, zc_X11_law.2.1, zc_X11_law.2.2, by decide, by decide⟩, tw_889, _, _, _, rfl, Or.inl ⟨tw_888, tw_890⟩⟩
theorem ss_L_told_54 : ab_sV mL_told 54 12 mX11_said 2 := ⟨⟨zc_X11_said.1, zc_X11_said.2.1, zc_X11_said.2.2, by decide, by decide⟩, tw_457, _, _, _, rfl, Or.inl ⟨tw_456, tw_458⟩⟩
theorem ss_L_told_57 : ab_sV mL_told 57 12 mX11_alone 1 := ⟨⟨zc_X11_alone.1, zc_X11_alone.2.1, zc_X11_alone.2.2, by decide, by decide⟩, tw_639, _, _, _, rfl, Or.inl ⟨tw_638, tw_640⟩⟩
theorem ss_L_told_60 : ab_sV mL_told 60 12 mX11_knows 1 := ⟨⟨zc_X11_knows.1, zc_X11_knows.2.1, zc_X11_knows.2.2, by decide, by decide⟩, tw_893, _, _, _, rfl, Or.inl ⟨tw_892, tw_894⟩⟩
theorem ss_L_told_63 : ab_sV mL_told 63 12 mX11_without 1 := ⟨⟨zc_X11_without.1, zc_X11_without.2.1, zc_X11_without.2.2, by decide, by decide⟩, tw_676, _, _, _, rfl, Or.inl ⟨tw_675, tw_677⟩⟩
theorem ss_L_told_66 : ab_sV mL_told 66 12 mX11_lie 2 := ⟨⟨zc_X11_lie.1, zc_X11_lie.2.1, zc_X11_lie.2.2, by decide, by decide⟩, tw_681, _, _, _, rfl, Or.inl ⟨tw_680, tw_682⟩⟩
theorem ss_L_told_69 : ab_sV mL_told 69 12 mX11_certain 1 := ⟨⟨zc_X11_certain.1, zc_X11_certain.2.1, zc_X11_certain.2.2, by decide, by decide⟩, tw_711, _, _, _, rfl, Or.inl ⟨tw_710, tw_712⟩⟩
theorem ss_L_told_72 : ab_sV mL_told 72 12 mX11_knowsOf 2 := ⟨⟨zc_X11_knowsOf.1, zc_X11_knowsOf.2.1, zc_X11_knowsOf.2.2, by decide, by decide⟩, tw_721, _, _, _, rfl, Or.inl ⟨tw_720, tw_722⟩⟩
theorem ss_L_told_75 : ab_sV mL_told 75 12 mX11_worlds 1 := ⟨⟨zc_X11_worlds.1, zc_X11_worlds.2.1, zc_X11_worlds.2.2, by decide, by decide⟩, tw_574, _, _, _, rfl, Or.inl ⟨tw_573, tw_575⟩⟩
theorem ss_L_told_79 : ab_sV mL_told 79 12 mX11_many 1 := ⟨⟨zc_X11_many.1, zc_X11_many.2.1, zc_X11_many.2.2, by decide, by decide⟩, tw_602, _, _, _, rfl, Or.inl ⟨tw_601, tw_603⟩⟩
theorem ss_L_told_82 : ab_sV mL_told 82 12 mX11_proved 1 := ⟨⟨zc_X11_proved.1, zc_X11_proved.2.1, zc_X11_proved.2.2, by decide, by decide⟩, tw_612, _, _, _, rfl, Or.inl ⟨tw_611, tw_613⟩⟩
theorem ss_L_told_85 : ab_sV mL_told 85 12 mX11_slips 1 := ⟨⟨zc_X11_slips.1, zc_X11_slips.2.1, zc_X11_slips.2.2, by decide, by decide⟩, tw_626, _, _, _, rfl, Or.inl ⟨tw_625, tw_627⟩⟩
theorem ss_L_told_88 : ab_sV mL_told 88 12 mX11_clash 0 := ⟨⟨zc_X11_clash.1, zc_X11_clash.2.1, zc_X11_clash.2.2, by decide, by decide⟩, tw_644, _, _, _, rfl, Or.inl ⟨tw_643, tw_645⟩⟩
theorem ss_L_told_92 : ab_sV mL_told 92 12 mX11_slipped 0 := ⟨⟨zc_X11_slipped.1, zc_X11_slipped.2.1, zc_X11_slipped.2.2, by decide, by decide⟩, tw_648, _, _, _, rfl, Or.inl ⟨tw_647, tw_649⟩⟩
theorem ss_L_told_95 : ab_sV mL_told 95 12 mX11_ask 0 := ⟨⟨zc_X11_ask.1, zc_X11_ask.2.1, zc_X11_ask.2.2, by decide, by decide⟩, tw_658, _, _, _, rfl, Or.inl ⟨tw_657, tw_659⟩⟩
theorem ss_L_told_98 : ab_sV mL_told 98 12 mX11_plain 0 := ⟨⟨zc_X11_plain.1, zc_X11_plain.2.1, zc_X11_plain.2.2, by decide, by decide⟩, tw_663, _, _, _, rfl, Or.inl ⟨tw_662, tw_664⟩⟩
theorem ss_L_told_101 : ab_sV mL_told 101 12 mX11_verdict 0 := ⟨⟨zc_X11_verdict.1, zc_X11_verdict.2.1, zc_X11_verdict.2.2, by decide, by decide⟩, tw_897, _, _, _, rfl, Or.inl ⟨tw_896, tw_898⟩⟩
theorem ss_L_told_104 : ab_sV mL_told 104 12 mX11_proof 1 := ⟨⟨zc_X11_proof.1, zc_X11_proof.2.1, zc_X11_proof.2.2, by decide, by decide⟩, tw_902, _, _, _, rfl, Or.inl ⟨tw_901, tw_903⟩⟩
theorem ss_L_told_107 : ab_sV mL_told 107 12 mX11_order 1 := ⟨⟨zc_X11_order.1, zc_X11_order.2.1, zc_X11_order.2.2, by decide, by decide⟩, tw_910, _, _, _, rfl, Or.inl ⟨tw_909, tw_911⟩⟩
theorem ss_L_told_110 : ab_sV mL_told 110 12 mX11_allKnow 1 := ⟨⟨zc_X11_allKnow.1, zc_X11_allKnow.2.1, zc_X11_allKnow.2.2, by decide, by decide⟩, tw_725, _, _, _, rfl, Or.inl ⟨tw_724, tw_726⟩⟩
theorem ss_L_told_113 : ab_sV mL_told 113 12 mX11_seeds 3 := ⟨⟨zc_X11_seeds.1, zc_X11_seeds.2.1, zc_X11_seeds.2.2, by decide, by decide⟩, tw_734, _, _, _, rfl, Or.inl ⟨tw_733, tw_735⟩⟩
theorem ss_L_law_116 : ab_sI mL_law 116 mX11_init 0 := ⟨⟨zc_X11_init.1, zc_X11_init.2.1, zc_X11_init.2.2, by decide, by decide⟩, tw_50, rfl, rfl, Or.inl tw_49⟩
theorem ss_L_law_117 : ab_sV mL_law 117 12 mX11_restore 0 := ⟨⟨zc_X11_restore.1, zc_X11_restore.2.1, zc_X11_restore.2.2, by decide, by decide⟩, tw_757, _, _, _, rfl, Or.inl ⟨tw_756, tw_758⟩⟩
theorem ss_L_law_120 : ab_sV mL_law 120 12 mX11_image 0 := ⟨⟨zc_X11_image.1, zc_X11_image.2.1, zc_X11_image.2.2, by decide, by decide⟩, tw_753, _, _, _, rfl, Or.inl ⟨tw_752, tw_754⟩⟩
theorem ss_L_law_98 : ab_sV mL_law 98 12 mX11_plain 0 := ⟨⟨zc_X11_plain.1, zc_X11_plain.2.1, zc_X11_plain.2.2, by decide, by decide⟩, tw_663, _, _, _, rfl, Or.inl ⟨tw_662, tw_664⟩⟩
theorem ss_L_law_95 : ab_sV mL_law 95 12 mX11_ask 0 := ⟨⟨zc_X11_ask.1, zc_X11_ask.2.1, zc_X11_ask.2.2, by decide, by decide⟩, tw_658, _, _, _, rfl, Or.inl ⟨tw_657, tw_659⟩⟩
theorem ss_L_law_88 : ab_sV mL_law 88 12 mX11_clash 0 := ⟨⟨zc_X11_clash.1, zc_X11_clash.2.1, zc_X11_clash.2.2, by decide, by decide⟩, tw_644, _, _, _, rfl, Or.inl ⟨tw_643, tw_645⟩⟩
theorem ss_L_law_123 : ab_sS mL_law 123 mL_world 3 := ⟨⟨zc_L_world.1, zc_L_world.2.1, zc_L_world.2.2, by decide, by decide⟩, tw_878, Or.inl tw_877⟩
theorem ss_L_law_127 : ab_sS mL_law 127 mL_told 1 := ⟨⟨zc_L_told.1, zc_L_told.2.1, zc_L_told.2.2, by decide, by decide⟩, tw_884, Or.inl tw_883⟩
theorem ss_L_law_17 : ab_sV mL_law 17 12 mX11_truth 1 := ⟨⟨zc_X11_truth.1, zc_X11_truth.2.1, zc_X11_truth.2.2, by decide, by decide⟩, tw_569, _, _, _, rfl, Or.inl ⟨tw_568, tw_570⟩⟩
theorem ss_L_law_23 : ab_sV mL_law 23 12 mX11_witness 1 := ⟨⟨zc_X11_witness.1, zc_X11_witness.2.1, zc_X11_witness.2.2, by decide, by decide⟩, tw_564, _, _, _, rfl, Or.inl ⟨tw_563, tw_565⟩⟩
theorem ss_L_law_33 : ab_sV mL_law 33 12 mX11_keep 4 := ⟨⟨zc_X11_keep.1, zc_X11_keep.2.1, zc_X11_keep.2.2, by decide, by decide⟩, tw_770, _, _, _, rfl, Or.inl ⟨tw_769, tw_771⟩⟩
theorem ss_L_law_37 : ab_sV mL_law 37 12 mX11_rules 3 := ⟨⟨zc_X11_rules.1, zc_X11_rules.2.1, zc_X11_rules.2.2, by decide, by decide⟩, tw_539, _, _, _, rfl, Or.inl ⟨tw_538, tw_540⟩⟩
theorem ss_L_law_41 : ab_sV mL_law 41 12 mX11_says 4 := ⟨⟨zc_X11_says.1, zc_X11_says.2.1, zc_X11_says.2.2, by decide, by decide⟩, tw_547, _, _, _, rfl, Or.inl ⟨tw_546, tw_548⟩⟩
theorem ss_L_law_131 : ab_sV mL_law 131 12 mX11_row 3 := ⟨⟨zc_X11_row.1, zc_X11_row.2.1, zc_X11_row.2.2, by decide, by decide⟩, tw_782, _, _, _, rfl, Or.inl ⟨tw_781, tw_783⟩⟩
theorem ss_L_law_113 : ab_sV mL_law 113 12 mX11_seeds 3 := ⟨⟨zc_X11_seeds.1, zc_X11_seeds.2.1, zc_X11_seeds.2.2, by decide, by decide⟩, tw_734, _, _, _, rfl, Or.inl ⟨tw_733, tw_735⟩⟩
theorem ss_L_law_134 : ab_sV mL_law 134 12 mX11_put 3 := ⟨⟨zc_X11_put.1, zc_X11_put.2.1, zc_X11_put.2.2, by decide, by decide⟩, tw_790, _, _, _, rfl, Or.inl ⟨tw_789, tw_791⟩⟩
theorem ss_L_law_137 : ab_sV mL_law 137 12 mX11_trial 1 := ⟨⟨zc_X11_trial.1, zc_X11_trial.2.1, zc_X11_trial.2.2, by decide, by decide⟩, tw_267, _, _, _, rfl, Or.inl ⟨tw_266, tw_268⟩⟩
theorem ss_L_law_75 : ab_sV mL_law 75 12 mX11_worlds 1 := ⟨⟨zc_X11_worlds.1, zc_X11_worlds.2.1, zc_X11_worlds.2.2, by decide, by decide⟩, tw_574, _, _, _, rfl, Or.inl ⟨tw_573, tw_575⟩⟩
theorem ss_L_law_79 : ab_sV mL_law 79 12 mX11_many 1 := ⟨⟨zc_X11_many.1, zc_X11_many.2.1, zc_X11_many.2.2, by decide, by decide⟩, tw_602, _, _, _, rfl, Or.inl ⟨tw_601, tw_603⟩⟩
theorem ss_L_law_142 : ab_sS mL_law 142 mJ13_bitCount_95d88 1 := ⟨⟨zc_J13_bitCount_95d88.1, zc_J13_bitCount_95d88.2.1, zc_J13_bitCount_95d88.2.2, by decide, by decide⟩, tw_606, Or.inl tw_923⟩
theorem ss_L_law_85 : ab_sV mL_law 85 12 mX11_slips 1 := ⟨⟨zc_X11_slips.1, zc_X11_slips.2.1, zc_X11_slips.2.2, by decide, by decide⟩, tw_626, _, _, _, rfl, Or.inl ⟨tw_625, tw_627⟩⟩
theorem ss_L_law_48 : ab_sV mL_law 48 12 mX11_count 1 := ⟨⟨zc_X11_count.1, zc_X11_count.2.1, zc_X11_count.2.2, by decide, by decide⟩, tw_761, _, _, _, rfl, Or.inl ⟨tw_760, tw_762⟩⟩
theorem ss_L_law_82 : ab_sV mL_law 82 12 mX11_proved 1 := ⟨⟨zc_X11_proved.1, zc_X11_proved.2.1, zc_X11_proved.2.2, by decide, by decide⟩, tw_612, _, _, _, rfl, Or.inl ⟨tw_611, tw_613⟩⟩
theorem ss_L_law_69 : ab_sV mL_law 69 12 mX11_certain 1 := ⟨⟨zc_X11_certain.1, zc_X11_certain.2.1, zc_X11_certain.2.2, by decide, by decide⟩, tw_711, _, _, _, rfl, Or.inl ⟨tw_710, tw_712⟩⟩
theorem ss_L_law_72 : ab_sV mL_law 72 12 mX11_knowsOf 2 := ⟨⟨zc_X11_knowsOf.1, zc_X11_knowsOf.2.1, zc_X11_knowsOf.2.2, by decide, by decide⟩, tw_721, _, _, _, rfl, Or.inl ⟨tw_720, tw_722⟩⟩
theorem ss_L_law_63 : ab_sV mL_law 63 12 mX11_without 1 := ⟨⟨zc_X11_without.1, zc_X11_without.2.1, zc_X11_without.2.2, by decide, by decide⟩, tw_676, _, _, _, rfl, Or.inl ⟨tw_675, tw_677⟩⟩
theorem ss_L_law_66 : ab_sV mL_law 66 12 mX11_lie 2 := ⟨⟨zc_X11_lie.1, zc_X11_lie.2.1, zc_X11_lie.2.2, by decide, by decide⟩, tw_681, _, _, _, rfl, Or.inl ⟨tw_680, tw_682⟩⟩
theorem ss_L_law_110 : ab_sV mL_law 110 12 mX11_allKnow 1 := ⟨⟨zc_X11_allKnow.1, zc_X11_allKnow.2.1, zc_X11_allKnow.2.2, by decide, by decide⟩, tw_725, _, _, _, rfl, Or.inl ⟨tw_724, tw_726⟩⟩
theorem ss_L_law_57 : ab_sV mL_law 57 12 mX11_alone 1 := ⟨⟨zc_X11_alone.1, zc_X11_alone.2.1, zc_X11_alone.2.2, by decide, by decide⟩, tw_639, _, _, _, rfl, Or.inl ⟨tw_638, tw_640⟩⟩
theorem ss_L_law_92 : ab_sV mL_law 92 12 mX11_slipped 0 := ⟨⟨zc_X11_slipped.1, zc_X11_slipped.2.1, zc_X11_slipped.2.2, by decide, by decide⟩, tw_648, _, _, _, rfl, Or.inl ⟨tw_647, tw_649⟩⟩
theorem ss_L_law_7 : ab_sS mL_law 7 mL_at 2 := ⟨⟨zc_L_at.1, zc_L_at.2.1, zc_L_at.2.2, by decide, by decide⟩, tw_869, Or.inl tw_868⟩
theorem ss_L_law_13 : ab_sS mL_law 13 mL_some 2 := ⟨⟨zc_L_some.1, zc_L_some.2.1, zc_L_some.2.2, by decide, by decide⟩, tw_872, Or.inl tw_871⟩
theorem ss_L_law_148 : ab_sV mL_law 148 12 mX11_tells 3 := ⟨⟨zc_X11_tells.1, zc_X11_tells.2.1, zc_X11_tells.2.2, by decide, by decide⟩, tw_702, _, _, _, rfl, Or.inl ⟨tw_701, tw_703⟩⟩
theorem ss_L_law_54 : ab_sV mL_law 54 12 mX11_said 2 := ⟨⟨zc_X11_said.1, zc_X11_said.2.1, zc_X11_said.2.2, by decide, by decide⟩, tw_457, _, _, _, rfl, Or.inl ⟨tw_456, tw_458⟩⟩
theorem ss_L_law_151 : ab_sV mL_law 151 12 mX11_unsays 0 := ⟨⟨zc_X11_unsays.1, zc_X11_unsays.2.1, zc_X11_unsays.2.2, by decide, by decide⟩, tw_552, _, _, _, rfl, Or.inl ⟨tw_551, tw_553⟩⟩
theorem ss_L_law_26 : ab_sS mL_law 26 mL_saying 1 := ⟨⟨zc_L_saying.1, zc_L_saying.2.1, zc_L_saying.2.2, by decide, by decide⟩, tw_881, Or.inl tw_880⟩
theorem ss_L_law_29 : ab_sS mL_law 29 mL_holds 2 := ⟨⟨zc_L_holds.1, zc_L_holds.2.1, zc_L_holds.2.2, by decide, by decide⟩, tw_875, Or.inl tw_874⟩
theorem ss_L_law_154 : ab_sV mL_law 154 12 mX11_element 2 := ⟨⟨zc_X11_element.1, zc_X11_element.2.1, zc_X11_element.2.2, by decide, by decide⟩, tw_801, _, _, _, rfl, Or.inl ⟨tw_800, tw_802⟩⟩
theorem zf_X0 : ∀ w ∈ u_ws RX0 TX0 1, w ∈ ab_Tg := fun w hw => by
  have e : u_ws RX0 TX0 1 = [u_lay RX0 TX0 0] := rfl
  rw [e] at hw
  simp only [List.mem_cons, List.not_mem_nil, or_false] at hw
  rcases hw with rfl
  exact tw_209
theorem zf_X1 : ∀ w ∈ u_ws RX1 TX1 1, w ∈ ab_Tg := fun w hw => by
  have e : u_ws RX1 TX1 1 = [u_lay RX1 TX1 0] := rfl
  rw [e] at hw
  simp only [List.mem_cons, List.not_mem_nil, or_false] at hw
  rcases hw with rfl
  exact tw_185
theorem zf_X2 : ∀ w ∈ u_ws RX2 TX2 1, w ∈ ab_Tg := fun w hw => by
  have e : u_ws RX2 TX2 1 = [u_lay RX2 TX2 0] := rfl
  rw [e] at hw
  simp only [List.mem_cons, List.not_mem_nil, or_false] at hw
  rcases hw with rfl
  exact tw_177
theorem zf_X3 : ∀ w ∈ u_ws RX3 TX3 1, w ∈ ab_Tg := fun w hw => by
  have e : u_ws RX3 TX3 1 = [u_lay RX3 TX3 0] := rfl
  rw [e] at hw
  simp only [List.mem_cons, List.not_mem_nil, or_false] at hw
  rcases hw with rfl
  exact tw_193
theorem zf_X4 : ∀ w ∈ u_ws RX4 TX4 1, w ∈ ab_Tg := fun w hw => by
  have e : u_ws RX4 TX4 1 = [u_lay RX4 TX4 0] := rfl
  rw [e] at hw
  simp only [List.mem_cons, List.not_mem_nil, or_false] at hw
  rcases hw with rfl
  exact tw_217
theorem zf_X5 : ∀ w ∈ u_ws RX5 TX5 1, w ∈ ab_Tg := fun w hw => by
  have e : u_ws RX5 TX5 1 = [u_lay RX5 TX5 0] := rfl
  rw [e] at hw
  simp only [List.mem_cons, List.not_mem_nil, or_false] at hw
  rcases hw with rfl
  exact tw_201
theorem zf_X6 : ∀ w ∈ u_ws RX6 TX6 1, w ∈ ab_Tg := fun w hw => by
  have e : u_ws RX6 TX6 1 = [u_lay RX6 TX6 0] := rfl
  rw [e] at hw
  simp only [List.mem_cons, List.not_mem_nil, or_false] at hw
  rcases hw with rfl
  exact tw_225
theorem zf_X7 : ∀ w ∈ u_ws RX7 TX7 6, w ∈ ab_Tg := fun w hw => by
  have e : u_ws RX7 TX7 6 = [u_lay RX7 TX7 0, u_lay RX7 TX7 1, u_lay RX7 TX7 2, u_lay RX7 TX7 3, u_lay RX7 TX7 4, u_lay RX7 TX7 5] := rfl
  rw [e] at hw
  simp only [List.mem_cons, List.not_mem_nil, or_false] at hw
  rcases hw with rfl | rfl | rfl | rfl | rfl | rfl
  · exact tw_420
  · exact tw_421
  · exact tw_422
  · exact tw_423
  · exact tw_424
  · exact tw_425
theorem zf_X8 : ∀ w ∈ u_ws RX8 TX8 1, w ∈ ab_Tg := fun w hw => by
  have e : u_ws RX8 TX8 1 = [u_lay RX8 TX8 0] := rfl
  rw [e] at hw
  simp only [List.mem_cons, List.not_mem_nil, or_false] at hw
  rcases hw with rfl
  exact tw_111
theorem zf_X9 : ∀ w ∈ u_ws RX9 TX9 6, w ∈ ab_Tg := fun w hw => by
  have e : u_ws RX9 TX9 6 = [u_lay RX9 TX9 0, u_lay RX9 TX9 1, u_lay RX9 TX9 2, u_lay RX9 TX9 3, u_lay RX9 TX9 4, u_lay RX9 TX9 5] := rfl
  rw [e] at hw
  simp only [List.mem_cons, List.not_mem_nil, or_false] at hw
  rcases hw with rfl | rfl | rfl | rfl | rfl | rfl
  · exact tw_242
  · exact tw_243
  · exact tw_244
  · exact tw_245
  · exact tw_246
  · exact tw_247
theorem zf_X10 : ∀ w ∈ u_ws RX10 TX10 5, w ∈ ab_Tg := fun w hw => by
  have e : u_ws RX10 TX10 5 = [u_lay RX10 TX10 0, u_lay RX10 TX10 1, u_lay RX10 TX10 2, u_lay RX10 TX10 3, u_lay RX10 TX10 4] := rfl
  rw [e] at hw
  simp only [List.mem_cons, List.not_mem_nil, or_false] at hw
  rcases hw with rfl | rfl | rfl | rfl | rfl
  · exact tw_96
  · exact tw_97
  · exact tw_98
  · exact tw_99
  · exact tw_100
theorem zf_X11 : ∀ w ∈ u_ws RX11 TX11 8, w ∈ ab_Tg := fun w hw => by
  have e : u_ws RX11 TX11 8 = [u_lay RX11 TX11 0, u_lay RX11 TX11 1, u_lay RX11 TX11 2, u_lay RX11 TX11 3, u_lay RX11 TX11 4, u_lay RX11 TX11 5, u_lay RX11 TX11 6, u_lay RX11 TX11 7] := rfl
  rw [e] at hw
  simp only [List.mem_cons, List.not_mem_nil, or_false] at hw
  rcases hw with rfl | rfl | rfl | rfl | rfl | rfl | rfl | rfl
  · exact tw_257
  · exact tw_258
  · exact tw_259
  · exact tw_260
  · exact tw_261
  · exact tw_262
  · exact tw_263
  · exact tw_264
theorem zf_Jx4a65c : ∀ w ∈ u_ws RJx4a65c TJx4a65c 3, w ∈ ab_Tg := fun w hw => by
  have e : u_ws RJx4a65c TJx4a65c 3 = [u_lay RJx4a65c TJx4a65c 0, u_lay RJx4a65c TJx4a65c 1, u_lay RJx4a65c TJx4a65c 2] := rfl
  rw [e] at hw
  simp only [List.mem_cons, List.not_mem_nil, or_false] at hw
  rcases hw with rfl | rfl | rfl
  · exact tw_75
  · exact tw_73
  · exact tw_74
theorem ps_X7_init_7_8 : ab_ps mX7_init 7 8 0 .int := ⟨_, _, _, "WitnessesMustLie$Saying", tyX7, rfl, by decide, zf_X7, tyX7_ok, nmX7, rfl, Or.inl rfl, Or.inl ⟨tw_410, Or.inr ⟨rfl, rfl, rfl⟩⟩⟩
theorem ps_X7_init_13_8 : ab_ps mX7_init 13 8 1 (.object "WitnessesMustLie$Says") := ⟨_, _, _, "WitnessesMustLie$Saying", tyX7, rfl, by decide, zf_X7, tyX7_ok, nmX7, rfl, Or.inl rfl, Or.inl ⟨tw_413, Or.inr ⟨rfl, rfl, rfl⟩⟩⟩
theorem ps_X7_init_17_8 : ab_ps mX7_init 17 8 2 .int := ⟨_, _, _, "WitnessesMustLie$Saying", tyX7, rfl, by decide, zf_X7, tyX7_ok, nmX7, rfl, Or.inl rfl, Or.inl ⟨tw_414, Or.inr ⟨rfl, rfl, rfl⟩⟩⟩
theorem ps_X7_init_20_8 : ab_ps mX7_init 20 8 3 .int := ⟨_, _, _, "WitnessesMustLie$Saying", tyX7, rfl, by decide, zf_X7, tyX7_ok, nmX7, rfl, Or.inl rfl, Or.inl ⟨tw_415, Or.inr ⟨rfl, rfl, rfl⟩⟩⟩
theorem ps_X7_init_23_8 : ab_ps mX7_init 23 8 4 .int := ⟨_, _, _, "WitnessesMustLie$Saying", tyX7, rfl, by decide, zf_X7, tyX7_ok, nmX7, rfl, Or.inl rfl, Or.inl ⟨tw_416, Or.inr ⟨rfl, rfl, rfl⟩⟩⟩
theorem ps_X7_init_26_8 : ab_ps mX7_init 26 8 5 .long := ⟨_, _, _, "WitnessesMustLie$Saying", tyX7, rfl, by decide, zf_X7, tyX7_ok, nmX7, rfl, Or.inl rfl, Or.inl ⟨tw_417, Or.inr ⟨rfl, rfl, rfl⟩⟩⟩
theorem fs_X7_13_8 {M : ab_M} (hM : M.1.cls = RX7) : ab_fs M 13 8 1 := by
  unfold ab_fs
  rw [hM]
  exact ⟨_, _, _, "WitnessesMustLie$Saying", rfl, by decide, zf_X7, Or.inl tw_413, Or.inl rfl⟩
theorem fs_X7_30_1 {M : ab_M} (hM : M.1.cls = RX7) : ab_fs M 30 1 0 := by
  unfold ab_fs
  rw [hM]
  exact ⟨_, _, _, "WitnessesMustLie$Says", rfl, by decide, zf_X0, Or.inr ⟨_, tw_110⟩, Or.inl rfl⟩
theorem fs_X7_30_2 {M : ab_M} (hM : M.1.cls = RX7) : ab_fs M 30 2 0 := by
  unfold ab_fs
  rw [hM]
  exact ⟨_, _, _, "WitnessesMustLie$Says", rfl, by decide, zf_X1, Or.inr ⟨_, tw_110⟩, Or.inl rfl⟩
theorem fs_X7_30_3 {M : ab_M} (hM : M.1.cls = RX7) : ab_fs M 30 3 0 := by
  unfold ab_fs
  rw [hM]
  exact ⟨_, _, _, "WitnessesMustLie$Says", rfl, by decide, zf_X2, Or.inr ⟨_, tw_110⟩, Or.inl rfl⟩
theorem fs_X7_30_4 {M : ab_M} (hM : M.1.cls = RX7) : ab_fs M 30 4 0 := by
  unfold ab_fs
  rw [hM]
  exact ⟨_, _, _, "WitnessesMustLie$Says", rfl, by decide, zf_X3, Or.inr ⟨_, tw_110⟩, Or.inl rfl⟩
theorem fs_X7_30_5 {M : ab_M} (hM : M.1.cls = RX7) : ab_fs M 30 5 0 := by
  unfold ab_fs
  rw [hM]
  exact ⟨_, _, _, "WitnessesMustLie$Says", rfl, by decide, zf_X4, Or.inr ⟨_, tw_110⟩, Or.inl rfl⟩
theorem fs_X7_30_6 {M : ab_M} (hM : M.1.cls = RX7) : ab_fs M 30 6 0 := by
  unfold ab_fs
  rw [hM]
  exact ⟨_, _, _, "WitnessesMustLie$Says", rfl, by decide, zf_X5, Or.inr ⟨_, tw_110⟩, Or.inl rfl⟩
theorem fs_X7_30_7 {M : ab_M} (hM : M.1.cls = RX7) : ab_fs M 30 7 0 := by
  unfold ab_fs
  rw [hM]
  exact ⟨_, _, _, "WitnessesMustLie$Says", rfl, by decide, zf_X6, Or.inr ⟨_, tw_110⟩, Or.inl rfl⟩
theorem fs_X7_30_9 {M : ab_M} (hM : M.1.cls = RX7) : ab_fs M 30 9 0 := by
  unfold ab_fs
  rw [hM]
  exact ⟨_, _, _, "WitnessesMustLie$Says", rfl, by decide, zf_X8, Or.inr ⟨_, tw_110⟩, Or.inl rfl⟩
theorem fs_X7_17_8 {M : ab_M} (hM : M.1.cls = RX7) : ab_fs M 17 8 2 := by
  unfold ab_fs
  rw [hM]
  exact ⟨_, _, _, "WitnessesMustLie$Saying", rfl, by decide, zf_X7, Or.inl tw_414, Or.inl rfl⟩
theorem fs_X7_20_8 {M : ab_M} (hM : M.1.cls = RX7) : ab_fs M 20 8 3 := by
  unfold ab_fs
  rw [hM]
  exact ⟨_, _, _, "WitnessesMustLie$Saying", rfl, by decide, zf_X7, Or.inl tw_415, Or.inl rfl⟩
theorem fs_X7_23_8 {M : ab_M} (hM : M.1.cls = RX7) : ab_fs M 23 8 4 := by
  unfold ab_fs
  rw [hM]
  exact ⟨_, _, _, "WitnessesMustLie$Saying", rfl, by decide, zf_X7, Or.inl tw_416, Or.inl rfl⟩
theorem ps_X8_init_9_1 : ab_ps mX8_init 9 1 0 .int := ⟨_, _, _, "WitnessesMustLie$Says", tyX0, rfl, by decide, zf_X0, tyX0_ok, nmX0, rfl, Or.inl rfl, Or.inl ⟨tw_109, Or.inr ⟨rfl, rfl, rfl⟩⟩⟩
theorem ps_X8_init_9_2 : ab_ps mX8_init 9 2 0 .int := ⟨_, _, _, "WitnessesMustLie$Says", tyX1, rfl, by decide, zf_X1, tyX1_ok, nmX1, rfl, Or.inl rfl, Or.inl ⟨tw_109, Or.inr ⟨rfl, rfl, rfl⟩⟩⟩
theorem ps_X8_init_9_3 : ab_ps mX8_init 9 3 0 .int := ⟨_, _, _, "WitnessesMustLie$Says", tyX2, rfl, by decide, zf_X2, tyX2_ok, nmX2, rfl, Or.inl rfl, Or.inl ⟨tw_109, Or.inr ⟨rfl, rfl, rfl⟩⟩⟩
theorem ps_X8_init_9_4 : ab_ps mX8_init 9 4 0 .int := ⟨_, _, _, "WitnessesMustLie$Says", tyX3, rfl, by decide, zf_X3, tyX3_ok, nmX3, rfl, Or.inl rfl, Or.inl ⟨tw_109, Or.inr ⟨rfl, rfl, rfl⟩⟩⟩
theorem ps_X8_init_9_5 : ab_ps mX8_init 9 5 0 .int := ⟨_, _, _, "WitnessesMustLie$Says", tyX4, rfl, by decide, zf_X4, tyX4_ok, nmX4, rfl, Or.inl rfl, Or.inl ⟨tw_109, Or.inr ⟨rfl, rfl, rfl⟩⟩⟩
theorem ps_X8_init_9_6 : ab_ps mX8_init 9 6 0 .int := ⟨_, _, _, "WitnessesMustLie$Says", tyX5, rfl, by decide, zf_X5, tyX5_ok, nmX5, rfl, Or.inl rfl, Or.inl ⟨tw_109, Or.inr ⟨rfl, rfl, rfl⟩⟩⟩
theorem ps_X8_init_9_7 : ab_ps mX8_init 9 7 0 .int := ⟨_, _, _, "WitnessesMustLie$Says", tyX6, rfl, by decide, zf_X6, tyX6_ok, nmX6, rfl, Or.inl rfl, Or.inl ⟨tw_109, Or.inr ⟨rfl, rfl, rfl⟩⟩⟩
theorem ps_X8_init_9_9 : ab_ps mX8_init 9 9 0 .int := ⟨_, _, _, "WitnessesMustLie$Says", tyX8, rfl, by decide, zf_X8, tyX8_ok, nmX8, rfl, Or.inl rfl, Or.inl ⟨tw_109, Or.inr ⟨rfl, rfl, rfl⟩⟩⟩
theorem ps_X9_init_9_10 : ab_ps mX9_init 9 10 0 (.array .int) := ⟨_, _, _, "WitnessesMustLie$Shelf", tyX9, rfl, by decide, zf_X9, tyX9_ok, nmX9, rfl, Or.inl rfl, Or.inl ⟨tw_232, Or.inr ⟨rfl, rfl, rfl⟩⟩⟩
theorem ps_X9_init_15_10 : ab_ps mX9_init 15 10 2 (.object "WitnessesMustLie$Says") := ⟨_, _, _, "WitnessesMustLie$Shelf", tyX9, rfl, by decide, zf_X9, tyX9_ok, nmX9, rfl, Or.inl rfl, Or.inl ⟨tw_234, Or.inl rfl⟩⟩
theorem ps_X9_holdNothing_19_10 : ab_ps mX9_holdNothing 19 10 1 .int := ⟨_, _, _, "WitnessesMustLie$Shelf", tyX9, rfl, by decide, zf_X9, tyX9_ok, nmX9, rfl, Or.inl rfl, Or.inl ⟨tw_233, Or.inl rfl⟩⟩
theorem ps_X9_holdSaying_19_10 : ab_ps mX9_holdSaying 19 10 1 .int := ⟨_, _, _, "WitnessesMustLie$Shelf", tyX9, rfl, by decide, zf_X9, tyX9_ok, nmX9, rfl, Or.inl rfl, Or.inl ⟨tw_233, Or.inl rfl⟩⟩
theorem ps_X9_holdSaying_15_10 : ab_ps mX9_holdSaying 15 10 2 (.object "WitnessesMustLie$Says") := ⟨_, _, _, "WitnessesMustLie$Shelf", tyX9, rfl, by decide, zf_X9, tyX9_ok, nmX9, rfl, Or.inl rfl, Or.inl ⟨tw_234, Or.inl rfl⟩⟩
theorem ps_X9_holdSaying_23_10 : ab_ps mX9_holdSaying 23 10 3 .int := ⟨_, _, _, "WitnessesMustLie$Shelf", tyX9, rfl, by decide, zf_X9, tyX9_ok, nmX9, rfl, Or.inl rfl, Or.inl ⟨tw_236, Or.inl rfl⟩⟩
theorem ps_X9_holdRow_19_10 : ab_ps mX9_holdRow 19 10 1 .int := ⟨_, _, _, "WitnessesMustLie$Shelf", tyX9, rfl, by decide, zf_X9, tyX9_ok, nmX9, rfl, Or.inl rfl, Or.inl ⟨tw_233, Or.inl rfl⟩⟩
theorem ps_X9_holdRow_26_10 : ab_ps mX9_holdRow 26 10 4 .int := ⟨_, _, _, "WitnessesMustLie$Shelf", tyX9, rfl, by decide, zf_X9, tyX9_ok, nmX9, rfl, Or.inl rfl, Or.inl ⟨tw_239, Or.inl rfl⟩⟩
theorem ps_X9_holdRow_29_10 : ab_ps mX9_holdRow 29 10 5 .int := ⟨_, _, _, "WitnessesMustLie$Shelf", tyX9, rfl, by decide, zf_X9, tyX9_ok, nmX9, rfl, Or.inl rfl, Or.inl ⟨tw_240, Or.inl rfl⟩⟩
theorem fs_X9_9_10 {M : ab_M} (hM : M.1.cls = RX9) : ab_fs M 9 10 0 := by
  unfold ab_fs
  rw [hM]
  exact ⟨_, _, _, "WitnessesMustLie$Shelf", rfl, by decide, zf_X9, Or.inl tw_232, Or.inl rfl⟩
theorem fs_X9_19_10 {M : ab_M} (hM : M.1.cls = RX9) : ab_fs M 19 10 1 := by
  unfold ab_fs
  rw [hM]
  exact ⟨_, _, _, "WitnessesMustLie$Shelf", rfl, by decide, zf_X9, Or.inl tw_233, Or.inl rfl⟩
theorem fs_X9_15_10 {M : ab_M} (hM : M.1.cls = RX9) : ab_fs M 15 10 2 := by
  unfold ab_fs
  rw [hM]
  exact ⟨_, _, _, "WitnessesMustLie$Shelf", rfl, by decide, zf_X9, Or.inl tw_234, Or.inl rfl⟩
theorem fs_X9_23_10 {M : ab_M} (hM : M.1.cls = RX9) : ab_fs M 23 10 3 := by
  unfold ab_fs
  rw [hM]
  exact ⟨_, _, _, "WitnessesMustLie$Shelf", rfl, by decide, zf_X9, Or.inl tw_236, Or.inl rfl⟩
theorem fs_X9_29_10 {M : ab_M} (hM : M.1.cls = RX9) : ab_fs M 29 10 5 := by
  unfold ab_fs
  rw [hM]
  exact ⟨_, _, _, "WitnessesMustLie$Shelf", rfl, by decide, zf_X9, Or.inl tw_240, Or.inl rfl⟩
theorem fs_X9_26_10 {M : ab_M} (hM : M.1.cls = RX9) : ab_fs M 26 10 4 := by
  unfold ab_fs
  rw [hM]
  exact ⟨_, _, _, "WitnessesMustLie$Shelf", rfl, by decide, zf_X9, Or.inl tw_239, Or.inl rfl⟩
theorem ps_X10_init_12_11 : ab_ps mX10_init 12 11 0 (.object "java/util/ArrayList") := ⟨_, _, _, "WitnessesMustLie$Trial", tyX10, rfl, by decide, zf_X10, tyX10_ok, nmX10, rfl, Or.inl rfl, Or.inl ⟨tw_87, Or.inr ⟨rfl, rfl, rfl⟩⟩⟩
theorem ps_X10_init_18_11 : ab_ps mX10_init 18 11 1 (.object "java/util/ArrayList") := ⟨_, _, _, "WitnessesMustLie$Trial", tyX10, rfl, by decide, zf_X10, tyX10_ok, nmX10, rfl, Or.inl rfl, Or.inl ⟨tw_89, Or.inr ⟨rfl, rfl, rfl⟩⟩⟩
theorem ps_X10_init_21_11 : ab_ps mX10_init 21 11 2 (.array .int) := ⟨_, _, _, "WitnessesMustLie$Trial", tyX10, rfl, by decide, zf_X10, tyX10_ok, nmX10, rfl, Or.inl rfl, Or.inl ⟨tw_91, Or.inr ⟨rfl, rfl, rfl⟩⟩⟩
theorem fs_X10_12_11 {M : ab_M} (hM : M.1.cls = RX10) : ab_fs M 12 11 0 := by
  unfold ab_fs
  rw [hM]
  exact ⟨_, _, _, "WitnessesMustLie$Trial", rfl, by decide, zf_X10, Or.inl tw_87, Or.inl rfl⟩
theorem fs_X10_18_11 {M : ab_M} (hM : M.1.cls = RX10) : ab_fs M 18 11 1 := by
  unfold ab_fs
  rw [hM]
  exact ⟨_, _, _, "WitnessesMustLie$Trial", rfl, by decide, zf_X10, Or.inl tw_89, Or.inl rfl⟩
theorem fs_X10_21_11 {M : ab_M} (hM : M.1.cls = RX10) : ab_fs M 21 11 2 := by
  unfold ab_fs
  rw [hM]
  exact ⟨_, _, _, "WitnessesMustLie$Trial", rfl, by decide, zf_X10, Or.inl tw_91, Or.inl rfl⟩
theorem fs_X10_33_11 {M : ab_M} (hM : M.1.cls = RX10) : ab_fs M 33 11 3 := by
  unfold ab_fs
  rw [hM]
  exact ⟨_, _, _, "WitnessesMustLie$Trial", rfl, by decide, zf_X10, Or.inl tw_92, Or.inl rfl⟩
theorem ps_X10_becomes_33_11 : ab_ps mX10_becomes 33 11 3 .int := ⟨_, _, _, "WitnessesMustLie$Trial", tyX10, rfl, by decide, zf_X10, tyX10_ok, nmX10, rfl, Or.inl rfl, Or.inl ⟨tw_92, Or.inl rfl⟩⟩
theorem fs_X10_37_11 {M : ab_M} (hM : M.1.cls = RX10) : ab_fs M 37 11 4 := by
  unfold ab_fs
  rw [hM]
  exact ⟨_, _, _, "WitnessesMustLie$Trial", rfl, by decide, zf_X10, Or.inl tw_94, Or.inl rfl⟩
theorem ps_X10_becomes_37_11 : ab_ps mX10_becomes 37 11 4 .int := ⟨_, _, _, "WitnessesMustLie$Trial", tyX10, rfl, by decide, zf_X10, tyX10_ok, nmX10, rfl, Or.inl rfl, Or.inl ⟨tw_94, Or.inl rfl⟩⟩
theorem fs_X10_57_8 {M : ab_M} (hM : M.1.cls = RX10) : ab_fs M 57 8 0 := by
  unfold ab_fs
  rw [hM]
  exact ⟨_, _, _, "WitnessesMustLie$Saying", rfl, by decide, zf_X7, Or.inr ⟨_, tw_412⟩, Or.inl rfl⟩
theorem ps_X10_addWitness_33_11 : ab_ps mX10_addWitness 33 11 3 .int := ⟨_, _, _, "WitnessesMustLie$Trial", tyX10, rfl, by decide, zf_X10, tyX10_ok, nmX10, rfl, Or.inl rfl, Or.inl ⟨tw_92, Or.inl rfl⟩⟩
theorem ps_X10_setTruth_37_11 : ab_ps mX10_setTruth 37 11 4 .int := ⟨_, _, _, "WitnessesMustLie$Trial", tyX10, rfl, by decide, zf_X10, tyX10_ok, nmX10, rfl, Or.inl rfl, Or.inl ⟨tw_94, Or.inl rfl⟩⟩
theorem fs_X10_72_8 {M : ab_M} (hM : M.1.cls = RX10) : ab_fs M 72 8 5 := by
  unfold ab_fs
  rw [hM]
  exact ⟨_, _, _, "WitnessesMustLie$Saying", rfl, by decide, zf_X7, Or.inr ⟨_, tw_419⟩, Or.inl rfl⟩
theorem ps_X11_init_12_12 : ab_ps mX11_init 12 12 0 (.object "java/util/ArrayList") := ⟨_, _, _, "WitnessesMustLie", tyX11, rfl, by decide, zf_X11, tyX11_ok, nmX11, rfl, Or.inl rfl, Or.inl ⟨tw_249, Or.inr ⟨rfl, rfl, rfl⟩⟩⟩
theorem ps_X11_init_18_12 : ab_ps mX11_init 18 12 1 (.array (.object "WitnessesMustLie$Shelf")) := ⟨_, _, _, "WitnessesMustLie", tyX11, rfl, by decide, zf_X11, tyX11_ok, nmX11, rfl, Or.inl rfl, Or.inl ⟨tw_250, Or.inr ⟨rfl, rfl, rfl⟩⟩⟩
theorem ps_X11_init_25_12 : ab_ps mX11_init 25 12 2 (.object "WitnessesMustLie$Trial") := ⟨_, _, _, "WitnessesMustLie", tyX11, rfl, by decide, zf_X11, tyX11_ok, nmX11, rfl, Or.inl rfl, Or.inl ⟨tw_251, Or.inr ⟨rfl, rfl, rfl⟩⟩⟩
theorem ps_X11_init_29_12 : ab_ps mX11_init 29 12 3 (.object "WitnessesMustLie$Trial") := ⟨_, _, _, "WitnessesMustLie", tyX11, rfl, by decide, zf_X11, tyX11_ok, nmX11, rfl, Or.inl rfl, Or.inl ⟨tw_252, Or.inr ⟨rfl, rfl, rfl⟩⟩⟩
theorem ps_X11_init_32_12 : ab_ps mX11_init 32 12 4 (.object "WitnessesMustLie$Trial") := ⟨_, _, _, "WitnessesMustLie", tyX11, rfl, by decide, zf_X11, tyX11_ok, nmX11, rfl, Or.inl rfl, Or.inl ⟨tw_253, Or.inr ⟨rfl, rfl, rfl⟩⟩⟩
theorem ps_X11_init_35_12 : ab_ps mX11_init 35 12 6 (.array .long) := ⟨_, _, _, "WitnessesMustLie", tyX11, rfl, by decide, zf_X11, tyX11_ok, nmX11, rfl, Or.inl rfl, Or.inl ⟨tw_255, Or.inr ⟨rfl, rfl, rfl⟩⟩⟩
theorem ps_X11_init_39_12 : ab_ps mX11_init 39 12 7 (.array .long) := ⟨_, _, _, "WitnessesMustLie", tyX11, rfl, by decide, zf_X11, tyX11_ok, nmX11, rfl, Or.inl rfl, Or.inl ⟨tw_256, Or.inr ⟨rfl, rfl, rfl⟩⟩⟩
theorem fs_X11_12_12 {M : ab_M} (hM : M.1.cls = RX11) : ab_fs M 12 12 0 := by
  unfold ab_fs
  rw [hM]
  exact ⟨_, _, _, "WitnessesMustLie", rfl, by decide, zf_X11, Or.inl tw_249, Or.inl rfl⟩
theorem fs_X11_18_12 {M : ab_M} (hM : M.1.cls = RX11) : ab_fs M 18 12 1 := by
  unfold ab_fs
  rw [hM]
  exact ⟨_, _, _, "WitnessesMustLie", rfl, by decide, zf_X11, Or.inl tw_250, Or.inl rfl⟩
theorem fs_X11_83_10 {M : ab_M} (hM : M.1.cls = RX11) : ab_fs M 83 10 4 := by
  unfold ab_fs
  rw [hM]
  exact ⟨_, _, _, "WitnessesMustLie$Shelf", rfl, by decide, zf_X9, Or.inr ⟨_, tw_238⟩, Or.inl rfl⟩
theorem fs_X11_25_12 {M : ab_M} (hM : M.1.cls = RX11) : ab_fs M 25 12 2 := by
  unfold ab_fs
  rw [hM]
  exact ⟨_, _, _, "WitnessesMustLie", rfl, by decide, zf_X11, Or.inl tw_251, Or.inl rfl⟩
theorem fs_X11_94_11 {M : ab_M} (hM : M.1.cls = RX11) : ab_fs M 94 11 0 := by
  unfold ab_fs
  rw [hM]
  exact ⟨_, _, _, "WitnessesMustLie$Trial", rfl, by decide, zf_X10, Or.inr ⟨_, tw_88⟩, Or.inl rfl⟩
theorem fs_X11_107_11 {M : ab_M} (hM : M.1.cls = RX11) : ab_fs M 107 11 1 := by
  unfold ab_fs
  rw [hM]
  exact ⟨_, _, _, "WitnessesMustLie$Trial", rfl, by decide, zf_X10, Or.inr ⟨_, tw_90⟩, Or.inl rfl⟩
theorem fs_X11_110_8 {M : ab_M} (hM : M.1.cls = RX11) : ab_fs M 110 8 5 := by
  unfold ab_fs
  rw [hM]
  exact ⟨_, _, _, "WitnessesMustLie$Saying", rfl, by decide, zf_X7, Or.inr ⟨_, tw_418⟩, Or.inl rfl⟩
theorem fs_X11_114_11 {M : ab_M} (hM : M.1.cls = RX11) : ab_fs M 114 11 4 := by
  unfold ab_fs
  rw [hM]
  exact ⟨_, _, _, "WitnessesMustLie$Trial", rfl, by decide, zf_X10, Or.inr ⟨_, tw_95⟩, Or.inl rfl⟩
theorem fs_X11_125_8 {M : ab_M} (hM : M.1.cls = RX11) : ab_fs M 125 8 0 := by
  unfold ab_fs
  rw [hM]
  exact ⟨_, _, _, "WitnessesMustLie$Saying", rfl, by decide, zf_X7, Or.inr ⟨_, tw_411⟩, Or.inl rfl⟩
theorem fs_X11_148_10 {M : ab_M} (hM : M.1.cls = RX11) : ab_fs M 148 10 2 := by
  unfold ab_fs
  rw [hM]
  exact ⟨_, _, _, "WitnessesMustLie$Shelf", rfl, by decide, zf_X9, Or.inr ⟨_, tw_235⟩, Or.inl rfl⟩
theorem fs_X11_152_10 {M : ab_M} (hM : M.1.cls = RX11) : ab_fs M 152 10 3 := by
  unfold ab_fs
  rw [hM]
  exact ⟨_, _, _, "WitnessesMustLie$Shelf", rfl, by decide, zf_X9, Or.inr ⟨_, tw_237⟩, Or.inl rfl⟩
theorem fs_X11_179_11 {M : ab_M} (hM : M.1.cls = RX11) : ab_fs M 179 11 3 := by
  unfold ab_fs
  rw [hM]
  exact ⟨_, _, _, "WitnessesMustLie$Trial", rfl, by decide, zf_X10, Or.inr ⟨_, tw_93⟩, Or.inl rfl⟩
theorem ps_X11_truth_114_11 : ab_ps mX11_truth 114 11 4 .int := ⟨_, _, _, "WitnessesMustLie$Trial", tyX10, rfl, by decide, zf_X10, tyX10_ok, nmX10, rfl, Or.inl rfl, Or.inr ⟨⟨_, tw_95⟩, rfl⟩⟩
theorem fs_X11_29_12 {M : ab_M} (hM : M.1.cls = RX11) : ab_fs M 29 12 3 := by
  unfold ab_fs
  rw [hM]
  exact ⟨_, _, _, "WitnessesMustLie", rfl, by decide, zf_X11, Or.inl tw_252, Or.inl rfl⟩
theorem ps_X11_image_327_12 : ab_ps mX11_image 327 12 5 .boolean := ⟨_, _, _, "WitnessesMustLie", tyX11, rfl, by decide, zf_X11, tyX11_ok, nmX11, rfl, Or.inl rfl, Or.inl ⟨tw_254, Or.inl rfl⟩⟩
theorem fs_X11_327_12 {M : ab_M} (hM : M.1.cls = RX11) : ab_fs M 327 12 5 := by
  unfold ab_fs
  rw [hM]
  exact ⟨_, _, _, "WitnessesMustLie", rfl, by decide, zf_X11, Or.inl tw_254, Or.inl rfl⟩
theorem fs_X11_304_10 {M : ab_M} (hM : M.1.cls = RX11) : ab_fs M 304 10 5 := by
  unfold ab_fs
  rw [hM]
  exact ⟨_, _, _, "WitnessesMustLie$Shelf", rfl, by decide, zf_X9, Or.inr ⟨_, tw_241⟩, Or.inl rfl⟩
theorem fs_X11_32_12 {M : ab_M} (hM : M.1.cls = RX11) : ab_fs M 32 12 4 := by
  unfold ab_fs
  rw [hM]
  exact ⟨_, _, _, "WitnessesMustLie", rfl, by decide, zf_X11, Or.inl tw_253, Or.inl rfl⟩
theorem ps_Jx4a65c_init_da8c8_9_0 : ab_ps mJx4a65c_init_da8c8 9 0 1 (.array (.object "java/lang/Object")) := ⟨_, _, _, "java/util/ArrayList", tyJx4a65c, rfl, by decide, zf_Jx4a65c, tyJx4a65c_ok, nmJx4a65c, rfl, Or.inl rfl, Or.inl ⟨tw_68, Or.inl rfl⟩⟩
theorem fs_Jx4a65c_9_0 {M : ab_M} (hM : M.1.cls = RJx4a65c) : ab_fs M 9 0 1 := by
  unfold ab_fs
  rw [hM]
  exact ⟨_, _, _, "java/util/ArrayList", rfl, by decide, zf_Jx4a65c, Or.inl tw_68, Or.inl rfl⟩
theorem ps_Jx4a65c_grow_92f84_9_0 : ab_ps mJx4a65c_grow_92f84 9 0 1 (.array (.object "java/lang/Object")) := ⟨_, _, _, "java/util/ArrayList", tyJx4a65c, rfl, by decide, zf_Jx4a65c, tyJx4a65c_ok, nmJx4a65c, rfl, Or.inl rfl, Or.inl ⟨tw_68, Or.inl rfl⟩⟩
theorem fs_Jx4a65c_48_0 {M : ab_M} (hM : M.1.cls = RJx4a65c) : ab_fs M 48 0 2 := by
  unfold ab_fs
  rw [hM]
  exact ⟨_, _, _, "java/util/ArrayList", rfl, by decide, zf_Jx4a65c, Or.inl tw_69, Or.inl rfl⟩
theorem ps_Jx4a65c_add_72be8_48_0 : ab_ps mJx4a65c_add_72be8 48 0 2 .int := ⟨_, _, _, "java/util/ArrayList", tyJx4a65c, rfl, by decide, zf_Jx4a65c, tyJx4a65c_ok, nmJx4a65c, rfl, Or.inl rfl, Or.inl ⟨tw_69, Or.inl rfl⟩⟩
theorem fs_Jx4a65c_63_0 {M : ab_M} (hM : M.1.cls = RJx4a65c) : ab_fs M 63 0 0 := by
  unfold ab_fs
  rw [hM]
  exact ⟨_, _, _, "java/util/ArrayList", rfl, by decide, zf_Jx4a65c, Or.inl tw_71, Or.inr tw_72⟩
theorem ps_Jx4a65c_add_9ea2d_63_0 : ab_ps mJx4a65c_add_9ea2d 63 0 0 .int := ⟨_, _, _, "java/util/ArrayList", tyJx4a65c, rfl, by decide, zf_Jx4a65c, tyJx4a65c_ok, nmJx4a65c, rfl, Or.inr tw_72, Or.inl ⟨tw_71, Or.inl rfl⟩⟩
theorem ps_Jx4a65c_fastRemove_b59b0_63_0 : ab_ps mJx4a65c_fastRemove_b59b0 63 0 0 .int := ⟨_, _, _, "java/util/ArrayList", tyJx4a65c, rfl, by decide, zf_Jx4a65c, tyJx4a65c_ok, nmJx4a65c, rfl, Or.inr tw_72, Or.inl ⟨tw_71, Or.inl rfl⟩⟩
theorem ps_Jx4a65c_fastRemove_b59b0_48_0 : ab_ps mJx4a65c_fastRemove_b59b0 48 0 2 .int := ⟨_, _, _, "java/util/ArrayList", tyJx4a65c, rfl, by decide, zf_Jx4a65c, tyJx4a65c_ok, nmJx4a65c, rfl, Or.inl rfl, Or.inl ⟨tw_69, Or.inl rfl⟩⟩
theorem ps_Jx4a65c_clear_da8c8_63_0 : ab_ps mJx4a65c_clear_da8c8 63 0 0 .int := ⟨_, _, _, "java/util/ArrayList", tyJx4a65c, rfl, by decide, zf_Jx4a65c, tyJx4a65c_ok, nmJx4a65c, rfl, Or.inr tw_72, Or.inl ⟨tw_71, Or.inl rfl⟩⟩
theorem ps_Jx4a65c_clear_da8c8_48_0 : ab_ps mJx4a65c_clear_da8c8 48 0 2 .int := ⟨_, _, _, "java/util/ArrayList", tyJx4a65c, rfl, by decide, zf_Jx4a65c, tyJx4a65c_ok, nmJx4a65c, rfl, Or.inl rfl, Or.inl ⟨tw_69, Or.inl rfl⟩⟩
