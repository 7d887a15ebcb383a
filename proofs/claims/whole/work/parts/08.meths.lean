/-! the methods and the sites of their calls and fields: by program -/
abbrev mX0_init : ab_M := (yX0_init, cX0_init, 2, (Option.none : Option Jvm.ClassFile.FieldType), 3, 62)
abbrev mX0_trueWorlds : ab_M := (yX0_trueWorlds, cX0_trueWorlds, 7, (Option.some Jvm.ClassFile.FieldType.long), 0, 0)
abbrev mX0_words : ab_M := (yX0_words, cX0_words, 2, (Option.some Jvm.ClassFile.FieldType.int), 2, 42)
abbrev mX0_price : ab_M := (yX0_price, cX0_price, 2, (Option.some Jvm.ClassFile.FieldType.int), 2, 42)
abbrev mX1_init : ab_M := (yX1_init, cX1_init, 2, (Option.none : Option Jvm.ClassFile.FieldType), 2, 41)
abbrev mX1_trueWorlds : ab_M := (yX1_trueWorlds, cX1_trueWorlds, 7, (Option.some Jvm.ClassFile.FieldType.long), 0, 0)
abbrev mX1_words : ab_M := (yX1_words, cX1_words, 2, (Option.some Jvm.ClassFile.FieldType.int), 1, 21)
abbrev mX1_facts : ab_M := (yX1_facts, cX1_facts, 4, (Option.some Jvm.ClassFile.FieldType.int), 2, 43)
abbrev mX1_price : ab_M := (yX1_price, cX1_price, 2, (Option.some Jvm.ClassFile.FieldType.int), 1, 21)
abbrev mX1_failure : ab_M := (yX1_failure, cX1_failure, 2, (Option.some Jvm.ClassFile.FieldType.int), 1, 21)
abbrev mX2_init : ab_M := (yX2_init, cX2_init, 2, (Option.none : Option Jvm.ClassFile.FieldType), 2, 41)
abbrev mX2_trueWorlds : ab_M := (yX2_trueWorlds, cX2_trueWorlds, 7, (Option.some Jvm.ClassFile.FieldType.long), 0, 0)
abbrev mX2_words : ab_M := (yX2_words, cX2_words, 2, (Option.some Jvm.ClassFile.FieldType.int), 1, 21)
abbrev mX2_price : ab_M := (yX2_price, cX2_price, 2, (Option.some Jvm.ClassFile.FieldType.int), 1, 21)
abbrev mX3_init : ab_M := (yX3_init, cX3_init, 2, (Option.none : Option Jvm.ClassFile.FieldType), 3, 62)
abbrev mX3_trueWorlds : ab_M := (yX3_trueWorlds, cX3_trueWorlds, 7, (Option.some Jvm.ClassFile.FieldType.long), 0, 0)
abbrev mX3_words : ab_M := (yX3_words, cX3_words, 2, (Option.some Jvm.ClassFile.FieldType.int), 2, 42)
abbrev mX3_price : ab_M := (yX3_price, cX3_price, 2, (Option.some Jvm.ClassFile.FieldType.int), 2, 42)
abbrev mX4_init : ab_M := (yX4_init, cX4_init, 2, (Option.none : Option Jvm.ClassFile.FieldType), 3, 62)
abbrev mX4_trueWorlds : ab_M := (yX4_trueWorlds, cX4_trueWorlds, 7, (Option.some Jvm.ClassFile.FieldType.long), 0, 0)
abbrev mX4_words : ab_M := (yX4_words, cX4_words, 2, (Option.some Jvm.ClassFile.FieldType.int), 2, 42)
abbrev mX4_price : ab_M := (yX4_price, cX4_price, 2, (Option.some Jvm.ClassFile.FieldType.int), 2, 42)
abbrev mX4_fail : ab_M := (yX4_fail, cX4_fail, 2, (Option.none : Option Jvm.ClassFile.FieldType), 0, 0)
abbrev mX5_init : ab_M := (yX5_init, cX5_init, 2, (Option.none : Option Jvm.ClassFile.FieldType), 4, 83)
abbrev mX5_trueWorlds : ab_M := (yX5_trueWorlds, cX5_trueWorlds, 7, (Option.some Jvm.ClassFile.FieldType.long), 0, 0)
abbrev mX5_words : ab_M := (yX5_words, cX5_words, 2, (Option.some Jvm.ClassFile.FieldType.int), 3, 63)
abbrev mX5_price : ab_M := (yX5_price, cX5_price, 2, (Option.some Jvm.ClassFile.FieldType.int), 3, 63)
abbrev mX6_init : ab_M := (yX6_init, cX6_init, 2, (Option.none : Option Jvm.ClassFile.FieldType), 4, 83)
abbrev mX6_trueWorlds : ab_M := (yX6_trueWorlds, cX6_trueWorlds, 7, (Option.some Jvm.ClassFile.FieldType.long), 0, 0)
abbrev mX6_words : ab_M := (yX6_words, cX6_words, 2, (Option.some Jvm.ClassFile.FieldType.int), 3, 63)
abbrev mX6_facts : ab_M := (yX6_facts, cX6_facts, 4, (Option.some Jvm.ClassFile.FieldType.int), 3, 66)
abbrev mX6_price : ab_M := (yX6_price, cX6_price, 2, (Option.some Jvm.ClassFile.FieldType.int), 3, 63)
abbrev mX6_failure : ab_M := (yX6_failure, cX6_failure, 2, (Option.some Jvm.ClassFile.FieldType.int), 4, 84)
abbrev mX7_init : ab_M := (yX7_init, cX7_init, 8, (Option.none : Option Jvm.ClassFile.FieldType), 1, 20)
abbrev mX7_told : ab_M := (yX7_told, cX7_told, 2, (Option.some Jvm.ClassFile.FieldType.int), 5, 109)
abbrev mX7_words : ab_M := (yX7_words, cX7_words, 1, (Option.some Jvm.ClassFile.FieldType.int), 4, 84)
abbrev mX7_facts : ab_M := (yX7_facts, cX7_facts, 1, (Option.some Jvm.ClassFile.FieldType.int), 4, 89)
abbrev mX8_init : ab_M := (yX8_init, cX8_init, 2, (Option.none : Option Jvm.ClassFile.FieldType), 1, 20)
abbrev mX8_worldsOf : ab_M := (yX8_worldsOf, cX8_worldsOf, 4, (Option.some Jvm.ClassFile.FieldType.long), 1, 26)
abbrev mX8_trueWorlds : ab_M := (yX8_trueWorlds, cX8_trueWorlds, 7, (Option.some Jvm.ClassFile.FieldType.long), 0, 0)
abbrev mX8_words : ab_M := (yX8_words, cX8_words, 2, (Option.some Jvm.ClassFile.FieldType.int), 0, 0)
abbrev mX8_facts : ab_M := (yX8_facts, cX8_facts, 4, (Option.some Jvm.ClassFile.FieldType.int), 1, 20)
abbrev mX8_price : ab_M := (yX8_price, cX8_price, 2, (Option.some Jvm.ClassFile.FieldType.int), 0, 0)
abbrev mX8_fail : ab_M := (yX8_fail, cX8_fail, 2, (Option.none : Option Jvm.ClassFile.FieldType), 0, 0)
abbrev mX8_failure : ab_M := (yX8_failure, cX8_failure, 2, (Option.some Jvm.ClassFile.FieldType.int), 0, 0)
abbrev mX9_init : ab_M := (yX9_init, cX9_init, 2, (Option.none : Option Jvm.ClassFile.FieldType), 1, 20)
abbrev mX9_holdNothing : ab_M := (yX9_holdNothing, cX9_holdNothing, 1, (Option.none : Option Jvm.ClassFile.FieldType), 0, 0)
abbrev mX9_holdSaying : ab_M := (yX9_holdSaying, cX9_holdSaying, 3, (Option.none : Option Jvm.ClassFile.FieldType), 0, 0)
abbrev mX9_holdRow : ab_M := (yX9_holdRow, cX9_holdRow, 4, (Option.none : Option Jvm.ClassFile.FieldType), 0, 0)
abbrev mX9_isEmpty : ab_M := (yX9_isEmpty, cX9_isEmpty, 1, (Option.some Jvm.ClassFile.FieldType.boolean), 0, 0)
abbrev mX9_refusalAsSaying : ab_M := (yX9_refusalAsSaying, cX9_refusalAsSaying, 1, (Option.some Jvm.ClassFile.FieldType.int), 2, 41)
abbrev mX9_refusalAsRow : ab_M := (yX9_refusalAsRow, cX9_refusalAsRow, 1, (Option.some Jvm.ClassFile.FieldType.int), 2, 41)
abbrev mX9_refusalUnless : ab_M := (yX9_refusalUnless, cX9_refusalUnless, 2, (Option.some Jvm.ClassFile.FieldType.int), 1, 20)
abbrev mX9_worldsOf : ab_M := (yX9_worldsOf, cX9_worldsOf, 3, (Option.some Jvm.ClassFile.FieldType.long), 2, 49)
abbrev mX9_hasPlaces : ab_M := (yX9_hasPlaces, cX9_hasPlaces, 3, (Option.some Jvm.ClassFile.FieldType.boolean), 0, 0)
abbrev mX9_numberAt : ab_M := (yX9_numberAt, cX9_numberAt, 2, (Option.some Jvm.ClassFile.FieldType.int), 1, 22)
abbrev mX9_setNumber : ab_M := (yX9_setNumber, cX9_setNumber, 3, (Option.some Jvm.ClassFile.FieldType.boolean), 1, 22)
abbrev mX9_lowestBits : ab_M := (yX9_lowestBits, cX9_lowestBits, 2, (Option.some Jvm.ClassFile.FieldType.int), 0, 0)
abbrev mX9_isSkipped : ab_M := (yX9_isSkipped, cX9_isSkipped, 2, (Option.some Jvm.ClassFile.FieldType.boolean), 2, 43)
abbrev mX9_tellsTrueOrFalse : ab_M := (yX9_tellsTrueOrFalse, cX9_tellsTrueOrFalse, 3, (Option.some Jvm.ClassFile.FieldType.boolean), 3, 64)
abbrev mX10_init : ab_M := (yX10_init, cX10_init, 1, (Option.none : Option Jvm.ClassFile.FieldType), 4, 80)
abbrev mX10_becomes : ab_M := (yX10_becomes, cX10_becomes, 3, (Option.none : Option Jvm.ClassFile.FieldType), 6, 130)
abbrev mX10_refill : ab_M := (yX10_refill, cX10_refill, 3, (Option.none : Option Jvm.ClassFile.FieldType), 5, 108)
abbrev mX10_hasWitness : ab_M := (yX10_hasWitness, cX10_hasWitness, 2, (Option.some Jvm.ClassFile.FieldType.boolean), 0, 0)
abbrev mX10_knownBy : ab_M := (yX10_knownBy, cX10_knownBy, 2, (Option.some Jvm.ClassFile.FieldType.int), 0, 0)
abbrev mX10_addLaw : ab_M := (yX10_addLaw, cX10_addLaw, 2, (Option.some Jvm.ClassFile.FieldType.boolean), 5, 108)
abbrev mX10_addSaid : ab_M := (yX10_addSaid, cX10_addSaid, 2, (Option.some Jvm.ClassFile.FieldType.boolean), 5, 108)
abbrev mX10_addWitness : ab_M := (yX10_addWitness, cX10_addWitness, 2, (Option.some Jvm.ClassFile.FieldType.boolean), 1, 20)
abbrev mX10_setTruth : ab_M := (yX10_setTruth, cX10_setTruth, 2, (Option.some Jvm.ClassFile.FieldType.boolean), 1, 20)
abbrev mX10_mayBe : ab_M := (yX10_mayBe, cX10_mayBe, 4, (Option.some Jvm.ClassFile.FieldType.long), 3, 64)
abbrev mX10_left : ab_M := (yX10_left, cX10_left, 1, (Option.some Jvm.ClassFile.FieldType.long), 4, 90)
abbrev mX10_mayBeOrLeft : ab_M := (yX10_mayBeOrLeft, cX10_mayBeOrLeft, 2, (Option.some Jvm.ClassFile.FieldType.long), 5, 110)
abbrev mX10_leftBySaid : ab_M := (yX10_leftBySaid, cX10_leftBySaid, 7, (Option.some Jvm.ClassFile.FieldType.long), 3, 64)
abbrev mX10_leftByTellers : ab_M := (yX10_leftByTellers, cX10_leftByTellers, 4, (Option.some Jvm.ClassFile.FieldType.long), 4, 90)
abbrev mX10_isPlainBy : ab_M := (yX10_isPlainBy, cX10_isPlainBy, 2, (Option.some Jvm.ClassFile.FieldType.boolean), 5, 113)
abbrev mX10_trueOnes : ab_M := (yX10_trueOnes, cX10_trueOnes, 4, (Option.some Jvm.ClassFile.FieldType.int), 3, 64)
abbrev mX10_wordsSaid : ab_M := (yX10_wordsSaid, cX10_wordsSaid, 3, (Option.some Jvm.ClassFile.FieldType.int), 5, 104)
abbrev mX10_reachedFrom : ab_M := (yX10_reachedFrom, cX10_reachedFrom, 9, (Option.some Jvm.ClassFile.FieldType.long), 2, 46)
abbrev mX11_init : ab_M := (yX11_init, cX11_init, 3, (Option.none : Option Jvm.ClassFile.FieldType), 5, 108)
abbrev mX11_trial : ab_M := (yX11_trial, cX11_trial, 5, (Option.some Jvm.ClassFile.FieldType.int), 8, 175)
abbrev mX11_law : ab_M := (yX11_law, cX11_law, 4, (Option.some Jvm.ClassFile.FieldType.int), 6, 130)
abbrev mX11_said : ab_M := (yX11_said, cX11_said, 4, (Option.some Jvm.ClassFile.FieldType.int), 6, 130)
abbrev mX11_knows : ab_M := (yX11_knows, cX11_knows, 2, (Option.some Jvm.ClassFile.FieldType.int), 1, 21)
abbrev mX11_isTrue : ab_M := (yX11_isTrue, cX11_isTrue, 7, (Option.some Jvm.ClassFile.FieldType.int), 3, 71)
abbrev mX11_rules : ab_M := (yX11_rules, cX11_rules, 7, (Option.some Jvm.ClassFile.FieldType.int), 6, 129)
abbrev mX11_says : ab_M := (yX11_says, cX11_says, 8, (Option.some Jvm.ClassFile.FieldType.int), 6, 129)
abbrev mX11_unsays : ab_M := (yX11_unsays, cX11_unsays, 2, (Option.some Jvm.ClassFile.FieldType.int), 3, 66)
abbrev mX11_witness : ab_M := (yX11_witness, cX11_witness, 2, (Option.some Jvm.ClassFile.FieldType.int), 2, 41)
abbrev mX11_truth : ab_M := (yX11_truth, cX11_truth, 3, (Option.some Jvm.ClassFile.FieldType.int), 1, 20)
abbrev mX11_worlds : ab_M := (yX11_worlds, cX11_worlds, 2, (Option.some Jvm.ClassFile.FieldType.long), 6, 131)
abbrev mX11_many : ab_M := (yX11_many, cX11_many, 2, (Option.some Jvm.ClassFile.FieldType.int), 6, 131)
abbrev mX11_proved : ab_M := (yX11_proved, cX11_proved, 2, (Option.some Jvm.ClassFile.FieldType.int), 5, 110)
abbrev mX11_slips : ab_M := (yX11_slips, cX11_slips, 3, (Option.some Jvm.ClassFile.FieldType.int), 4, 87)
abbrev mX11_alone : ab_M := (yX11_alone, cX11_alone, 3, (Option.some Jvm.ClassFile.FieldType.int), 4, 87)
abbrev mX11_clash : ab_M := (yX11_clash, cX11_clash, 9, (Option.some Jvm.ClassFile.FieldType.int), 4, 87)
abbrev mX11_proof : ab_M := (yX11_proof, cX11_proof, 8, (Option.some Jvm.ClassFile.FieldType.int), 4, 90)
abbrev mX11_slipped : ab_M := (yX11_slipped, cX11_slipped, 8, (Option.some Jvm.ClassFile.FieldType.int), 4, 87)
abbrev mX11_ask : ab_M := (yX11_ask, cX11_ask, 8, (Option.some Jvm.ClassFile.FieldType.int), 5, 110)
abbrev mX11_plain : ab_M := (yX11_plain, cX11_plain, 5, (Option.some Jvm.ClassFile.FieldType.int), 6, 134)
abbrev mX11_order : ab_M := (yX11_order, cX11_order, 3, (Option.some Jvm.ClassFile.FieldType.int), 7, 158)
abbrev mX11_without : ab_M := (yX11_without, cX11_without, 4, (Option.some Jvm.ClassFile.FieldType.int), 5, 113)
abbrev mX11_lie : ab_M := (yX11_lie, cX11_lie, 10, (Option.some Jvm.ClassFile.FieldType.int), 6, 131)
abbrev mX11_twoLies : ab_M := (yX11_twoLies, cX11_twoLies, 11, (Option.some Jvm.ClassFile.FieldType.int), 7, 155)
abbrev mX11_tells : ab_M := (yX11_tells, cX11_tells, 6, (Option.some Jvm.ClassFile.FieldType.int), 5, 110)
abbrev mX11_verdict : ab_M := (yX11_verdict, cX11_verdict, 3, (Option.some Jvm.ClassFile.FieldType.int), 5, 109)
abbrev mX11_certain : ab_M := (yX11_certain, cX11_certain, 2, (Option.some Jvm.ClassFile.FieldType.int), 5, 110)
abbrev mX11_knowsOf : ab_M := (yX11_knowsOf, cX11_knowsOf, 9, (Option.some Jvm.ClassFile.FieldType.int), 5, 110)
abbrev mX11_allKnow : ab_M := (yX11_allKnow, cX11_allKnow, 7, (Option.some Jvm.ClassFile.FieldType.int), 5, 110)
abbrev mX11_pencils : ab_M := (yX11_pencils, cX11_pencils, 10, (Option.some Jvm.ClassFile.FieldType.long), 1, 30)
abbrev mX11_fits : ab_M := (yX11_fits, cX11_fits, 9, (Option.some Jvm.ClassFile.FieldType.long), 4, 87)
abbrev mX11_judge : ab_M := (yX11_judge, cX11_judge, 9, (Option.some Jvm.ClassFile.FieldType.int), 4, 87)
abbrev mX11_seeds : ab_M := (yX11_seeds, cX11_seeds, 15, (Option.some Jvm.ClassFile.FieldType.int), 5, 111)
abbrev mX11_image : ab_M := (yX11_image, cX11_image, 1, (Option.some Jvm.ClassFile.FieldType.int), 7, 152)
abbrev mX11_restore : ab_M := (yX11_restore, cX11_restore, 1, (Option.some Jvm.ClassFile.FieldType.int), 7, 152)
abbrev mX11_count : ab_M := (yX11_count, cX11_count, 2, (Option.some Jvm.ClassFile.FieldType.int), 6, 126)
abbrev mX11_keep : ab_M := (yX11_keep, cX11_keep, 7, (Option.some Jvm.ClassFile.FieldType.int), 4, 85)
abbrev mX11_row : ab_M := (yX11_row, cX11_row, 5, (Option.some Jvm.ClassFile.FieldType.int), 1, 23)
abbrev mX11_put : ab_M := (yX11_put, cX11_put, 6, (Option.some Jvm.ClassFile.FieldType.int), 3, 61)
abbrev mX11_element : ab_M := (yX11_element, cX11_element, 4, (Option.some Jvm.ClassFile.FieldType.long), 3, 61)
abbrev mX11_copy : ab_M := (yX11_copy, cX11_copy, 8, (Option.some Jvm.ClassFile.FieldType.int), 3, 61)
abbrev mX11_cost : ab_M := (yX11_cost, cX11_cost, 4, (Option.some Jvm.ClassFile.FieldType.int), 4, 84)
abbrev mX11_isFact : ab_M := (yX11_isFact, cX11_isFact, 1, (Option.some Jvm.ClassFile.FieldType.boolean), 0, 0)
abbrev mX11_areFacts : ab_M := (yX11_areFacts, cX11_areFacts, 1, (Option.some Jvm.ClassFile.FieldType.boolean), 0, 0)
abbrev mX11_isWorld : ab_M := (yX11_isWorld, cX11_isWorld, 1, (Option.some Jvm.ClassFile.FieldType.boolean), 0, 0)
abbrev mX11_isEitherOr : ab_M := (yX11_isEitherOr, cX11_isEitherOr, 1, (Option.some Jvm.ClassFile.FieldType.boolean), 0, 0)
abbrev mX11_oneIf : ab_M := (yX11_oneIf, cX11_oneIf, 1, (Option.some Jvm.ClassFile.FieldType.int), 0, 0)
abbrev mX11_refusedLong : ab_M := (yX11_refusedLong, cX11_refusedLong, 1, (Option.some Jvm.ClassFile.FieldType.long), 0, 0)
abbrev mX11_shelfAt : ab_M := (yX11_shelfAt, cX11_shelfAt, 2, (Option.some (Jvm.ClassFile.FieldType.object "WitnessesMustLie$Shelf")), 0, 0)
abbrev mX11_kindNumbered : ab_M := (yX11_kindNumbered, cX11_kindNumbered, 2, (Option.some (Jvm.ClassFile.FieldType.object "WitnessesMustLie$Says")), 3, 64)
abbrev mX11_sayingIn : ab_M := (yX11_sayingIn, cX11_sayingIn, 2, (Option.some (Jvm.ClassFile.FieldType.object "WitnessesMustLie$Saying")), 3, 64)
abbrev mX11_newSaying : ab_M := (yX11_newSaying, cX11_newSaying, 5, (Option.some (Jvm.ClassFile.FieldType.object "WitnessesMustLie$Saying")), 2, 49)
abbrev mX11_worldsWith : ab_M := (yX11_worldsWith, cX11_worldsWith, 1, (Option.some Jvm.ClassFile.FieldType.long), 0, 0)
abbrev mX11_factBit : ab_M := (yX11_factBit, cX11_factBit, 1, (Option.some Jvm.ClassFile.FieldType.int), 0, 0)
abbrev mX11_hasWorld : ab_M := (yX11_hasWorld, cX11_hasWorld, 3, (Option.some Jvm.ClassFile.FieldType.boolean), 0, 0)
abbrev mX11_factsOfAll : ab_M := (yX11_factsOfAll, cX11_factsOfAll, 4, (Option.some Jvm.ClassFile.FieldType.int), 1, 20)
abbrev mX11_factsOfNone : ab_M := (yX11_factsOfNone, cX11_factsOfNone, 4, (Option.some Jvm.ClassFile.FieldType.int), 1, 20)
abbrev mX11_factsAlike : ab_M := (yX11_factsAlike, cX11_factsAlike, 2, (Option.some Jvm.ClassFile.FieldType.int), 2, 43)
abbrev mX11_isProvedBy : ab_M := (yX11_isProvedBy, cX11_isProvedBy, 3, (Option.some Jvm.ClassFile.FieldType.boolean), 1, 20)
abbrev mX11_likeInKnown : ab_M := (yX11_likeInKnown, cX11_likeInKnown, 7, (Option.some Jvm.ClassFile.FieldType.long), 1, 20)
abbrev mX11_brokenPlace : ab_M := (yX11_brokenPlace, cX11_brokenPlace, 4, (Option.some Jvm.ClassFile.FieldType.int), 2, 43)
abbrev mX11_digitsBehind : ab_M := (yX11_digitsBehind, cX11_digitsBehind, 1, (Option.some Jvm.ClassFile.FieldType.int), 0, 0)
abbrev mX11_isDigit : ab_M := (yX11_isDigit, cX11_isDigit, 1, (Option.some Jvm.ClassFile.FieldType.boolean), 0, 0)
abbrev mX11_digitAt : ab_M := (yX11_digitAt, cX11_digitAt, 2, (Option.some Jvm.ClassFile.FieldType.int), 2, 43)
abbrev mX11_twoDigitsAt : ab_M := (yX11_twoDigitsAt, cX11_twoDigitsAt, 2, (Option.some Jvm.ClassFile.FieldType.int), 3, 64)
abbrev mX11_enact : ab_M := (yX11_enact, cX11_enact, 4, (Option.some Jvm.ClassFile.FieldType.int), 7, 152)
abbrev mX11_isEnacted : ab_M := (yX11_isEnacted, cX11_isEnacted, 3, (Option.some Jvm.ClassFile.FieldType.boolean), 6, 129)
abbrev mX11_sayingAt : ab_M := (yX11_sayingAt, cX11_sayingAt, 7, (Option.some (Jvm.ClassFile.FieldType.object "WitnessesMustLie$Saying")), 4, 85)
abbrev mX11_leastOrder : ab_M := (yX11_leastOrder, cX11_leastOrder, 5, (Option.some Jvm.ClassFile.FieldType.int), 6, 134)
abbrev mX11_digitsWithAhead : ab_M := (yX11_digitsWithAhead, cX11_digitsWithAhead, 2, (Option.some Jvm.ClassFile.FieldType.int), 1, 24)
abbrev mX11_digitsOf : ab_M := (yX11_digitsOf, cX11_digitsOf, 5, (Option.some Jvm.ClassFile.FieldType.int), 0, 0)
abbrev mX11_kindOfCode : ab_M := (yX11_kindOfCode, cX11_kindOfCode, 1, (Option.some Jvm.ClassFile.FieldType.int), 0, 0)
abbrev mX11_firstOfCode : ab_M := (yX11_firstOfCode, cX11_firstOfCode, 1, (Option.some Jvm.ClassFile.FieldType.int), 0, 0)
abbrev mX11_secondOfCode : ab_M := (yX11_secondOfCode, cX11_secondOfCode, 1, (Option.some Jvm.ClassFile.FieldType.int), 0, 0)
abbrev mX11_worldsOfCode : ab_M := (yX11_worldsOfCode, cX11_worldsOfCode, 3, (Option.some Jvm.ClassFile.FieldType.long), 4, 85)
abbrev mX11_isLie : ab_M := (yX11_isLie, cX11_isLie, 5, (Option.some Jvm.ClassFile.FieldType.boolean), 5, 107)
abbrev mX11_fillLies : ab_M := (yX11_fillLies, cX11_fillLies, 5, (Option.some Jvm.ClassFile.FieldType.int), 6, 131)
abbrev mX11_mostLeft : ab_M := (yX11_mostLeft, cX11_mostLeft, 6, (Option.some Jvm.ClassFile.FieldType.int), 1, 21)
abbrev mX11_power : ab_M := (yX11_power, cX11_power, 5, (Option.some Jvm.ClassFile.FieldType.long), 0, 0)
abbrev mX11_waysToChoose : ab_M := (yX11_waysToChoose, cX11_waysToChoose, 4, (Option.some Jvm.ClassFile.FieldType.long), 0, 0)
abbrev mX11_greatestDivisor : ab_M := (yX11_greatestDivisor, cX11_greatestDivisor, 11, (Option.some Jvm.ClassFile.FieldType.long), 0, 0)
abbrev mX11_nextSeed : ab_M := (yX11_nextSeed, cX11_nextSeed, 1, (Option.some Jvm.ClassFile.FieldType.int), 0, 0)
abbrev mX11_drawnBelow : ab_M := (yX11_drawnBelow, cX11_drawnBelow, 2, (Option.some Jvm.ClassFile.FieldType.int), 0, 0)
abbrev mX11_seedAfterDraws : ab_M := (yX11_seedAfterDraws, cX11_seedAfterDraws, 1, (Option.some Jvm.ClassFile.FieldType.int), 1, 20)
abbrev mX11_worldsOfDraws : ab_M := (yX11_worldsOfDraws, cX11_worldsOfDraws, 7, (Option.some Jvm.ClassFile.FieldType.long), 4, 85)
abbrev mX12_init : ab_M := (yX12_init, cX12_init, 1, (Option.none : Option Jvm.ClassFile.FieldType), 1, 20)
abbrev mX12_within : ab_M := (yX12_within, cX12_within, 3, (Option.some Jvm.ClassFile.FieldType.boolean), 0, 0)
abbrev mX12_isFact : ab_M := (yX12_isFact, cX12_isFact, 1, (Option.some Jvm.ClassFile.FieldType.boolean), 1, 22)
abbrev mX12_isShelf : ab_M := (yX12_isShelf, cX12_isShelf, 1, (Option.some Jvm.ClassFile.FieldType.boolean), 1, 22)
abbrev mX12_isWitness : ab_M := (yX12_isWitness, cX12_isWitness, 2, (Option.some Jvm.ClassFile.FieldType.boolean), 1, 22)
abbrev mX12_isSaid : ab_M := (yX12_isSaid, cX12_isSaid, 2, (Option.some Jvm.ClassFile.FieldType.boolean), 1, 22)
abbrev mX12_made : ab_M := (yX12_made, cX12_made, 4, (Option.some Jvm.ClassFile.FieldType.int), 0, 0)
abbrev mX12_has : ab_M := (yX12_has, cX12_has, 2, (Option.some Jvm.ClassFile.FieldType.boolean), 0, 0)
abbrev mX12_isTrueIn : ab_M := (yX12_isTrueIn, cX12_isTrueIn, 4, (Option.some Jvm.ClassFile.FieldType.boolean), 1, 21)
abbrev mX12_sizeOf : ab_M := (yX12_sizeOf, cX12_sizeOf, 2, (Option.some Jvm.ClassFile.FieldType.int), 0, 0)
abbrev mX12_aboutOf : ab_M := (yX12_aboutOf, cX12_aboutOf, 3, (Option.some Jvm.ClassFile.FieldType.int), 0, 0)
abbrev mX12_worldsOf : ab_M := (yX12_worldsOf, cX12_worldsOf, 4, (Option.some Jvm.ClassFile.FieldType.long), 2, 44)
abbrev mX12_isSlip : ab_M := (yX12_isSlip, cX12_isSlip, 2, (Option.some Jvm.ClassFile.FieldType.boolean), 2, 44)
abbrev mX12_of : ab_M := (yX12_of, cX12_of, 2, (Option.some Jvm.ClassFile.FieldType.int), 1, 22)
abbrev mX12_is : ab_M := (yX12_is, cX12_is, 2, (Option.some Jvm.ClassFile.FieldType.boolean), 0, 0)
abbrev mX12_digits : ab_M := (yX12_digits, cX12_digits, 4, (Option.some Jvm.ClassFile.FieldType.boolean), 0, 0)
abbrev mX12_two : ab_M := (yX12_two, cX12_two, 1, (Option.some Jvm.ClassFile.FieldType.int), 0, 0)
abbrev mX12_isSaying : ab_M := (yX12_isSaying, cX12_isSaying, 2, (Option.some Jvm.ClassFile.FieldType.boolean), 2, 42)
abbrev mX12_readSaying : ab_M := (yX12_readSaying, cX12_readSaying, 2, (Option.some Jvm.ClassFile.FieldType.int), 1, 23)
abbrev mX12_statement : ab_M := (yX12_statement, cX12_statement, 2, (Option.some Jvm.ClassFile.FieldType.int), 3, 63)
abbrev mX12_trial : ab_M := (yX12_trial, cX12_trial, 5, (Option.some Jvm.ClassFile.FieldType.int), 4, 84)
abbrev mX12_law : ab_M := (yX12_law, cX12_law, 3, (Option.some Jvm.ClassFile.FieldType.int), 2, 43)
abbrev mX12_said : ab_M := (yX12_said, cX12_said, 3, (Option.some Jvm.ClassFile.FieldType.int), 3, 65)
abbrev mX12_knows : ab_M := (yX12_knows, cX12_knows, 2, (Option.some Jvm.ClassFile.FieldType.int), 2, 43)
abbrev mX12_noSaying : ab_M := (yX12_noSaying, cX12_noSaying, 2, (Option.some Jvm.ClassFile.FieldType.int), 0, 0)
abbrev mX12_onShelf : ab_M := (yX12_onShelf, cX12_onShelf, 4, (Option.some Jvm.ClassFile.FieldType.int), 1, 23)
abbrev mX12_isTrue : ab_M := (yX12_isTrue, cX12_isTrue, 6, (Option.some Jvm.ClassFile.FieldType.int), 2, 46)
abbrev mX12_rules : ab_M := (yX12_rules, cX12_rules, 5, (Option.some Jvm.ClassFile.FieldType.int), 2, 46)
abbrev mX12_says : ab_M := (yX12_says, cX12_says, 6, (Option.some Jvm.ClassFile.FieldType.int), 2, 46)
abbrev mX12_unsays : ab_M := (yX12_unsays, cX12_unsays, 1, (Option.some Jvm.ClassFile.FieldType.int), 0, 0)
abbrev mX12_witness : ab_M := (yX12_witness, cX12_witness, 2, (Option.some Jvm.ClassFile.FieldType.int), 1, 22)
abbrev mX12_truth : ab_M := (yX12_truth, cX12_truth, 3, (Option.some Jvm.ClassFile.FieldType.int), 1, 22)
abbrev mX12_mayBe : ab_M := (yX12_mayBe, cX12_mayBe, 4, (Option.some Jvm.ClassFile.FieldType.long), 3, 67)
abbrev mX12_leftBy : ab_M := (yX12_leftBy, cX12_leftBy, 5, (Option.some Jvm.ClassFile.FieldType.long), 4, 90)
abbrev mX12_left : ab_M := (yX12_left, cX12_left, 1, (Option.some Jvm.ClassFile.FieldType.long), 5, 114)
abbrev mX12_worlds : ab_M := (yX12_worlds, cX12_worlds, 2, (Option.some Jvm.ClassFile.FieldType.long), 6, 134)
abbrev mX12_many : ab_M := (yX12_many, cX12_many, 2, (Option.some Jvm.ClassFile.FieldType.int), 6, 134)
abbrev mX12_facts : ab_M := (yX12_facts, cX12_facts, 5, (Option.some Jvm.ClassFile.FieldType.int), 0, 0)
abbrev mX12_proved : ab_M := (yX12_proved, cX12_proved, 2, (Option.some Jvm.ClassFile.FieldType.int), 6, 134)
abbrev mX12_slips : ab_M := (yX12_slips, cX12_slips, 4, (Option.some Jvm.ClassFile.FieldType.int), 3, 65)
abbrev mX12_alone : ab_M := (yX12_alone, cX12_alone, 2, (Option.some Jvm.ClassFile.FieldType.int), 5, 114)
abbrev mX12_clash : ab_M := (yX12_clash, cX12_clash, 3, (Option.some Jvm.ClassFile.FieldType.int), 5, 114)
abbrev mX12_isBetter : ab_M := (yX12_isBetter, cX12_isBetter, 2, (Option.some Jvm.ClassFile.FieldType.boolean), 1, 20)
abbrev mX12_proof : ab_M := (yX12_proof, cX12_proof, 6, (Option.some Jvm.ClassFile.FieldType.int), 5, 114)
abbrev mX12_slipped : ab_M := (yX12_slipped, cX12_slipped, 6, (Option.some Jvm.ClassFile.FieldType.int), 5, 114)
abbrev mX12_ask : ab_M := (yX12_ask, cX12_ask, 8, (Option.some Jvm.ClassFile.FieldType.int), 6, 134)
abbrev mX12_saidBy : ab_M := (yX12_saidBy, cX12_saidBy, 4, (Option.some Jvm.ClassFile.FieldType.int), 1, 21)
abbrev mX12_isPlain : ab_M := (yX12_isPlain, cX12_isPlain, 2, (Option.some Jvm.ClassFile.FieldType.boolean), 5, 114)
abbrev mX12_plain : ab_M := (yX12_plain, cX12_plain, 3, (Option.some Jvm.ClassFile.FieldType.int), 6, 135)
abbrev mX12_order : ab_M := (yX12_order, cX12_order, 7, (Option.some Jvm.ClassFile.FieldType.int), 7, 157)
abbrev mX12_without : ab_M := (yX12_without, cX12_without, 2, (Option.some Jvm.ClassFile.FieldType.int), 6, 134)
abbrev mX12_isLie : ab_M := (yX12_isLie, cX12_isLie, 3, (Option.some Jvm.ClassFile.FieldType.boolean), 2, 44)
abbrev mX12_plainSaying : ab_M := (yX12_plainSaying, cX12_plainSaying, 1, (Option.some Jvm.ClassFile.FieldType.int), 1, 23)
abbrev mX12_lie : ab_M := (yX12_lie, cX12_lie, 11, (Option.some Jvm.ClassFile.FieldType.int), 6, 134)
abbrev mX12_twoLies : ab_M := (yX12_twoLies, cX12_twoLies, 10, (Option.some Jvm.ClassFile.FieldType.int), 6, 134)
abbrev mX12_tells : ab_M := (yX12_tells, cX12_tells, 5, (Option.some Jvm.ClassFile.FieldType.int), 6, 134)
abbrev mX12_verdict : ab_M := (yX12_verdict, cX12_verdict, 3, (Option.some Jvm.ClassFile.FieldType.int), 1, 22)
abbrev mX12_like : ab_M := (yX12_like, cX12_like, 8, (Option.some Jvm.ClassFile.FieldType.long), 0, 0)
abbrev mX12_alike : ab_M := (yX12_alike, cX12_alike, 2, (Option.some Jvm.ClassFile.FieldType.int), 1, 24)
abbrev mX12_certain : ab_M := (yX12_certain, cX12_certain, 2, (Option.some Jvm.ClassFile.FieldType.int), 6, 134)
abbrev mX12_knowsOf : ab_M := (yX12_knowsOf, cX12_knowsOf, 9, (Option.some Jvm.ClassFile.FieldType.int), 6, 134)
abbrev mX12_allKnow : ab_M := (yX12_allKnow, cX12_allKnow, 11, (Option.some Jvm.ClassFile.FieldType.int), 6, 134)
abbrev mX12_part : ab_M := (yX12_part, cX12_part, 8, (Option.some Jvm.ClassFile.FieldType.long), 0, 0)
abbrev mX12_pencils : ab_M := (yX12_pencils, cX12_pencils, 10, (Option.some Jvm.ClassFile.FieldType.long), 1, 27)
abbrev mX12_leastOf : ab_M := (yX12_leastOf, cX12_leastOf, 2, (Option.some Jvm.ClassFile.FieldType.int), 0, 0)
abbrev mX12_noRow : ab_M := (yX12_noRow, cX12_noRow, 2, (Option.some Jvm.ClassFile.FieldType.int), 0, 0)
abbrev mX12_fits : ab_M := (yX12_fits, cX12_fits, 7, (Option.some Jvm.ClassFile.FieldType.long), 4, 90)
abbrev mX12_judge : ab_M := (yX12_judge, cX12_judge, 5, (Option.some Jvm.ClassFile.FieldType.int), 5, 114)
abbrev mX12_seeds : ab_M := (yX12_seeds, cX12_seeds, 10, (Option.some Jvm.ClassFile.FieldType.int), 6, 134)
abbrev mX12_keep : ab_M := (yX12_keep, cX12_keep, 3, (Option.none : Option Jvm.ClassFile.FieldType), 0, 0)
abbrev mX12_again : ab_M := (yX12_again, cX12_again, 3, (Option.none : Option Jvm.ClassFile.FieldType), 0, 0)
abbrev mX12_image : ab_M := (yX12_image, cX12_image, 1, (Option.some Jvm.ClassFile.FieldType.int), 1, 22)
abbrev mX12_restore : ab_M := (yX12_restore, cX12_restore, 1, (Option.some Jvm.ClassFile.FieldType.int), 1, 22)
abbrev mX12_count : ab_M := (yX12_count, cX12_count, 4, (Option.some Jvm.ClassFile.FieldType.int), 6, 134)
abbrev mX12_keep_ : ab_M := (yX12_keep_, cX12_keep_, 5, (Option.some Jvm.ClassFile.FieldType.int), 2, 42)
abbrev mX12_row : ab_M := (yX12_row, cX12_row, 5, (Option.some Jvm.ClassFile.FieldType.int), 2, 42)
abbrev mX12_put : ab_M := (yX12_put, cX12_put, 5, (Option.some Jvm.ClassFile.FieldType.int), 2, 42)
abbrev mX12_thrown : ab_M := (yX12_thrown, cX12_thrown, 1, (Option.some Jvm.ClassFile.FieldType.int), 0, 0)
abbrev mX12_element : ab_M := (yX12_element, cX12_element, 3, (Option.some Jvm.ClassFile.FieldType.long), 2, 42)
abbrev mX12_copy : ab_M := (yX12_copy, cX12_copy, 7, (Option.some Jvm.ClassFile.FieldType.int), 2, 42)
abbrev mX12_costOf : ab_M := (yX12_costOf, cX12_costOf, 2, (Option.some Jvm.ClassFile.FieldType.int), 0, 0)
abbrev mX12_cost : ab_M := (yX12_cost, cX12_cost, 3, (Option.some Jvm.ClassFile.FieldType.int), 2, 42)
abbrev mX12_toss : ab_M := (yX12_toss, cX12_toss, 3, (Option.some Jvm.ClassFile.FieldType.int), 2, 42)
abbrev mJ6_numberOfTrailingZeros_0f7a4 : ab_M := (yJ6_numberOfTrailingZeros_0f7a4, cJ6_numberOfTrailingZeros_0f7a4, 2, (Option.some Jvm.ClassFile.FieldType.int), 0, 0)
abbrev mJ6_bitCount_0f7a4 : ab_M := (yJ6_bitCount_0f7a4, cJ6_bitCount_0f7a4, 1, (Option.some Jvm.ClassFile.FieldType.int), 0, 0)
abbrev mJ13_bitCount_95d88 : ab_M := (yJ13_bitCount_95d88, cJ13_bitCount_95d88, 2, (Option.some Jvm.ClassFile.FieldType.int), 0, 0)
abbrev mJ9_max_7cf53 : ab_M := (yJ9_max_7cf53, cJ9_max_7cf53, 2, (Option.some Jvm.ClassFile.FieldType.int), 0, 0)
abbrev mJ9_min_7cf53 : ab_M := (yJ9_min_7cf53, cJ9_min_7cf53, 2, (Option.some Jvm.ClassFile.FieldType.int), 0, 0)
abbrev mJxa1e45_init_da8c8 : ab_M := (yJxa1e45_init_da8c8, cJxa1e45_init_da8c8, 1, (Option.none : Option Jvm.ClassFile.FieldType), 1, 20)
abbrev mJxc12de_init_da8c8 : ab_M := (yJxc12de_init_da8c8, cJxc12de_init_da8c8, 1, (Option.none : Option Jvm.ClassFile.FieldType), 2, 40)
abbrev mJx4a65c_init_da8c8 : ab_M := (yJx4a65c_init_da8c8, cJx4a65c_init_da8c8, 1, (Option.none : Option Jvm.ClassFile.FieldType), 3, 60)
abbrev mJx4a65c_grow_92f84 : ab_M := (yJx4a65c_grow_92f84, cJx4a65c_grow_92f84, 4, (Option.some (Jvm.ClassFile.FieldType.array (Jvm.ClassFile.FieldType.object "java/lang/Object"))), 1, 21)
abbrev mJx4a65c_grow_d5877 : ab_M := (yJx4a65c_grow_d5877, cJx4a65c_grow_d5877, 1, (Option.some (Jvm.ClassFile.FieldType.array (Jvm.ClassFile.FieldType.object "java/lang/Object"))), 2, 44)
abbrev mJx4a65c_size_8abf5 : ab_M := (yJx4a65c_size_8abf5, cJx4a65c_size_8abf5, 1, (Option.some Jvm.ClassFile.FieldType.int), 0, 0)
abbrev mJx4a65c_elementData_915e3 : ab_M := (yJx4a65c_elementData_915e3, cJx4a65c_elementData_915e3, 2, (Option.some (Jvm.ClassFile.FieldType.object "java/lang/Object")), 0, 0)
abbrev mJx4a65c_get_915e3 : ab_M := (yJx4a65c_get_915e3, cJx4a65c_get_915e3, 2, (Option.some (Jvm.ClassFile.FieldType.object "java/lang/Object")), 2, 43)
abbrev mJx4a65c_add_72be8 : ab_M := (yJx4a65c_add_72be8, cJx4a65c_add_72be8, 4, (Option.none : Option Jvm.ClassFile.FieldType), 3, 64)
abbrev mJx4a65c_add_9ea2d : ab_M := (yJx4a65c_add_9ea2d, cJx4a65c_add_9ea2d, 2, (Option.some Jvm.ClassFile.FieldType.boolean), 4, 87)
abbrev mJx4a65c_remove_915e3 : ab_M := (yJx4a65c_remove_915e3, cJx4a65c_remove_915e3, 4, (Option.some (Jvm.ClassFile.FieldType.object "java/lang/Object")), 2, 43)
abbrev mJx4a65c_fastRemove_b59b0 : ab_M := (yJx4a65c_fastRemove_b59b0, cJx4a65c_fastRemove_b59b0, 4, (Option.none : Option Jvm.ClassFile.FieldType), 0, 0)
abbrev mJx4a65c_clear_da8c8 : ab_M := (yJx4a65c_clear_da8c8, cJx4a65c_clear_da8c8, 4, (Option.none : Option Jvm.ClassFile.FieldType), 0, 0)
abbrev mJ15_checkIndex_7cf53 : ab_M := (yJ15_checkIndex_7cf53, cJ15_checkIndex_7cf53, 2, (Option.some Jvm.ClassFile.FieldType.int), 1, 22)
abbrev mJ3_checkIndex_8e157 : ab_M := (yJ3_checkIndex_8e157, cJ3_checkIndex_8e157, 3, (Option.some Jvm.ClassFile.FieldType.int), 0, 0)
abbrev mL_law : ab_M := (yL_law, cL_law, 8, some .boolean, 13, 494)
theorem zc_X0_init : Cond.code mX0_init.1 mX0_init.2.1 mX0_init.2.2.1 mX0_init.2.2.2.1 ∈ ab_Tg ∧ Cond.initialized mX0_init.1.cls ∈ ab_Tg ∧ (mX0_init.1.cls ≠ "java/lang/invoke/MethodHandle" ∧ mX0_init.1.cls ≠ "java/lang/invoke/VarHandle" ∧ (parseMethodDescriptor mX0_init.1.desc).map (fun d => d.parameters.length) = some 1) := ⟨tw_235, tw_59, by decide +kernel, by decide +kernel, by decide +kernel⟩
theorem zc_X0_trueWorlds : Cond.code mX0_trueWorlds.1 mX0_trueWorlds.2.1 mX0_trueWorlds.2.2.1 mX0_trueWorlds.2.2.2.1 ∈ ab_Tg ∧ Cond.initialized mX0_trueWorlds.1.cls ∈ ab_Tg ∧ (mX0_trueWorlds.1.cls ≠ "java/lang/invoke/MethodHandle" ∧ mX0_trueWorlds.1.cls ≠ "java/lang/invoke/VarHandle" ∧ (parseMethodDescriptor mX0_trueWorlds.1.desc).map (fun d => d.parameters.length) = some 3) := ⟨tw_412, tw_59, by decide +kernel, by decide +kernel, by decide +kernel⟩
theorem zc_X0_words : Cond.code mX0_words.1 mX0_words.2.1 mX0_words.2.2.1 mX0_words.2.2.2.1 ∈ ab_Tg ∧ Cond.initialized mX0_words.1.cls ∈ ab_Tg ∧ (mX0_words.1.cls ≠ "java/lang/invoke/MethodHandle" ∧ mX0_words.1.cls ≠ "java/lang/invoke/VarHandle" ∧ (parseMethodDescriptor mX0_words.1.desc).map (fun d => d.parameters.length) = some 1) := ⟨tw_506, tw_59, by decide +kernel, by decide +kernel, by decide +kernel⟩
theorem zc_X0_price : Cond.code mX0_price.1 mX0_price.2.1 mX0_price.2.2.1 mX0_price.2.2.2.1 ∈ ab_Tg ∧ Cond.initialized mX0_price.1.cls ∈ ab_Tg ∧ (mX0_price.1.cls ≠ "java/lang/invoke/MethodHandle" ∧ mX0_price.1.cls ≠ "java/lang/invoke/VarHandle" ∧ (parseMethodDescriptor mX0_price.1.desc).map (fun d => d.parameters.length) = some 1) := ⟨tw_928, tw_59, by decide +kernel, by decide +kernel, by decide +kernel⟩
theorem zc_X1_init : Cond.code mX1_init.1 mX1_init.2.1 mX1_init.2.2.1 mX1_init.2.2.2.1 ∈ ab_Tg ∧ Cond.initialized mX1_init.1.cls ∈ ab_Tg ∧ (mX1_init.1.cls ≠ "java/lang/invoke/MethodHandle" ∧ mX1_init.1.cls ≠ "java/lang/invoke/VarHandle" ∧ (parseMethodDescriptor mX1_init.1.desc).map (fun d => d.parameters.length) = some 1) := ⟨tw_211, tw_56, by decide +kernel, by decide +kernel, by decide +kernel⟩
theorem zc_X1_trueWorlds : Cond.code mX1_trueWorlds.1 mX1_trueWorlds.2.1 mX1_trueWorlds.2.2.1 mX1_trueWorlds.2.2.2.1 ∈ ab_Tg ∧ Cond.initialized mX1_trueWorlds.1.cls ∈ ab_Tg ∧ (mX1_trueWorlds.1.cls ≠ "java/lang/invoke/MethodHandle" ∧ mX1_trueWorlds.1.cls ≠ "java/lang/invoke/VarHandle" ∧ (parseMethodDescriptor mX1_trueWorlds.1.desc).map (fun d => d.parameters.length) = some 3) := ⟨tw_416, tw_56, by decide +kernel, by decide +kernel, by decide +kernel⟩
theorem zc_X1_words : Cond.code mX1_words.1 mX1_words.2.1 mX1_words.2.2.1 mX1_words.2.2.2.1 ∈ ab_Tg ∧ Cond.initialized mX1_words.1.cls ∈ ab_Tg ∧ (mX1_words.1.cls ≠ "java/lang/invoke/MethodHandle" ∧ mX1_words.1.cls ≠ "java/lang/invoke/VarHandle" ∧ (parseMethodDescriptor mX1_words.1.desc).map (fun d => d.parameters.length) = some 1) := ⟨tw_509, tw_56, by decide +kernel, by decide +kernel, by decide +kernel⟩
theorem zc_X1_facts : Cond.code mX1_facts.1 mX1_facts.2.1 mX1_facts.2.2.1 mX1_facts.2.2.2.1 ∈ ab_Tg ∧ Cond.initialized mX1_facts.1.cls ∈ ab_Tg ∧ (mX1_facts.1.cls ≠ "java/lang/invoke/MethodHandle" ∧ mX1_facts.1.cls ≠ "java/lang/invoke/VarHandle" ∧ (parseMethodDescriptor mX1_facts.1.desc).map (fun d => d.parameters.length) = some 3) := ⟨tw_543, tw_56, by decide +kernel, by decide +kernel, by decide +kernel⟩
theorem zc_X1_price : Cond.code mX1_price.1 mX1_price.2.1 mX1_price.2.2.1 mX1_price.2.2.2.1 ∈ ab_Tg ∧ Cond.initialized mX1_price.1.cls ∈ ab_Tg ∧ (mX1_price.1.cls ≠ "java/lang/invoke/MethodHandle" ∧ mX1_price.1.cls ≠ "java/lang/invoke/VarHandle" ∧ (parseMethodDescriptor mX1_price.1.desc).map (fun d => d.parameters.length) = some 1) := ⟨tw_931, tw_56, by decide +kernel, by decide +kernel, by decide +kernel⟩
theorem zc_X1_failure : Cond.code mX1_failure.1 mX1_failure.2.1 mX1_failure.2.2.1 mX1_failure.2.2.2.1 ∈ ab_Tg ∧ Cond.initialized mX1_failure.1.cls ∈ ab_Tg ∧ (mX1_failure.1.cls ≠ "java/lang/invoke/MethodHandle" ∧ mX1_failure.1.cls ≠ "java/lang/invoke/VarHandle" ∧ (parseMethodDescriptor mX1_failure.1.desc).map (fun d => d.parameters.length) = some 1) := ⟨tw_1027, tw_56, by decide +kernel, by decide +kernel, by decide +kernel⟩
theorem zc_X2_init : Cond.code mX2_init.1 mX2_init.2.1 mX2_init.2.2.1 mX2_init.2.2.2.1 ∈ ab_Tg ∧ Cond.initialized mX2_init.1.cls ∈ ab_Tg ∧ (mX2_init.1.cls ≠ "java/lang/invoke/MethodHandle" ∧ mX2_init.1.cls ≠ "java/lang/invoke/VarHandle" ∧ (parseMethodDescriptor mX2_init.1.desc).map (fun d => d.parameters.length) = some 1) := ⟨tw_203, tw_55, by decide +kernel, by decide +kernel, by decide +kernel⟩
theorem zc_X2_trueWorlds : Cond.code mX2_trueWorlds.1 mX2_trueWorlds.2.1 mX2_trueWorlds.2.2.1 mX2_trueWorlds.2.2.2.1 ∈ ab_Tg ∧ Cond.initialized mX2_trueWorlds.1.cls ∈ ab_Tg ∧ (mX2_trueWorlds.1.cls ≠ "java/lang/invoke/MethodHandle" ∧ mX2_trueWorlds.1.cls ≠ "java/lang/invoke/VarHandle" ∧ (parseMethodDescriptor mX2_trueWorlds.1.desc).map (fun d => d.parameters.length) = some 3) := ⟨tw_419, tw_55, by decide +kernel, by decide +kernel, by decide +kernel⟩
theorem zc_X2_words : Cond.code mX2_words.1 mX2_words.2.1 mX2_words.2.2.1 mX2_words.2.2.2.1 ∈ ab_Tg ∧ Cond.initialized mX2_words.1.cls ∈ ab_Tg ∧ (mX2_words.1.cls ≠ "java/lang/invoke/MethodHandle" ∧ mX2_words.1.cls ≠ "java/lang/invoke/VarHandle" ∧ (parseMethodDescriptor mX2_words.1.desc).map (fun d => d.parameters.length) = some 1) := ⟨tw_514, tw_55, by decide +kernel, by decide +kernel, by decide +kernel⟩
theorem zc_X2_price : Cond.code mX2_price.1 mX2_price.2.1 mX2_price.2.2.1 mX2_price.2.2.2.1 ∈ ab_Tg ∧ Cond.initialized mX2_price.1.cls ∈ ab_Tg ∧ (mX2_price.1.cls ≠ "java/lang/invoke/MethodHandle" ∧ mX2_price.1.cls ≠ "java/lang/invoke/VarHandle" ∧ (parseMethodDescriptor mX2_price.1.desc).map (fun d => d.parameters.length) = some 1) := ⟨tw_936, tw_55, by decide +kernel, by decide +kernel, by decide +kernel⟩
theorem zc_X3_init : Cond.code mX3_init.1 mX3_init.2.1 mX3_init.2.2.1 mX3_init.2.2.2.1 ∈ ab_Tg ∧ Cond.initialized mX3_init.1.cls ∈ ab_Tg ∧ (mX3_init.1.cls ≠ "java/lang/invoke/MethodHandle" ∧ mX3_init.1.cls ≠ "java/lang/invoke/VarHandle" ∧ (parseMethodDescriptor mX3_init.1.desc).map (fun d => d.parameters.length) = some 1) := ⟨tw_219, tw_57, by decide +kernel, by decide +kernel, by decide +kernel⟩
theorem zc_X3_trueWorlds : Cond.code mX3_trueWorlds.1 mX3_trueWorlds.2.1 mX3_trueWorlds.2.2.1 mX3_trueWorlds.2.2.2.1 ∈ ab_Tg ∧ Cond.initialized mX3_trueWorlds.1.cls ∈ ab_Tg ∧ (mX3_trueWorlds.1.cls ≠ "java/lang/invoke/MethodHandle" ∧ mX3_trueWorlds.1.cls ≠ "java/lang/invoke/VarHandle" ∧ (parseMethodDescriptor mX3_trueWorlds.1.desc).map (fun d => d.parameters.length) = some 3) := ⟨tw_423, tw_57, by decide +kernel, by decide +kernel, by decide +kernel⟩
theorem zc_X3_words : Cond.code mX3_words.1 mX3_words.2.1 mX3_words.2.2.1 mX3_words.2.2.2.1 ∈ ab_Tg ∧ Cond.initialized mX3_words.1.cls ∈ ab_Tg ∧ (mX3_words.1.cls ≠ "java/lang/invoke/MethodHandle" ∧ mX3_words.1.cls ≠ "java/lang/invoke/VarHandle" ∧ (parseMethodDescriptor mX3_words.1.desc).map (fun d => d.parameters.length) = some 1) := ⟨tw_518, tw_57, by decide +kernel, by decide +kernel, by decide +kernel⟩
theorem zc_X3_price : Cond.code mX3_price.1 mX3_price.2.1 mX3_price.2.2.1 mX3_price.2.2.2.1 ∈ ab_Tg ∧ Cond.initialized mX3_price.1.cls ∈ ab_Tg ∧ (mX3_price.1.cls ≠ "java/lang/invoke/MethodHandle" ∧ mX3_price.1.cls ≠ "java/lang/invoke/VarHandle" ∧ (parseMethodDescriptor mX3_price.1.desc).map (fun d => d.parameters.length) = some 1) := ⟨tw_940, tw_57, by decide +kernel, by decide +kernel, by decide +kernel⟩
theorem zc_X4_init : Cond.code mX4_init.1 mX4_init.2.1 mX4_init.2.2.1 mX4_init.2.2.2.1 ∈ ab_Tg ∧ Cond.initialized mX4_init.1.cls ∈ ab_Tg ∧ (mX4_init.1.cls ≠ "java/lang/invoke/MethodHandle" ∧ mX4_init.1.cls ≠ "java/lang/invoke/VarHandle" ∧ (parseMethodDescriptor mX4_init.1.desc).map (fun d => d.parameters.length) = some 1) := ⟨tw_243, tw_60, by decide +kernel, by decide +kernel, by decide +kernel⟩
theorem zc_X4_trueWorlds : Cond.code mX4_trueWorlds.1 mX4_trueWorlds.2.1 mX4_trueWorlds.2.2.1 mX4_trueWorlds.2.2.2.1 ∈ ab_Tg ∧ Cond.initialized mX4_trueWorlds.1.cls ∈ ab_Tg ∧ (mX4_trueWorlds.1.cls ≠ "java/lang/invoke/MethodHandle" ∧ mX4_trueWorlds.1.cls ≠ "java/lang/invoke/VarHandle" ∧ (parseMethodDescriptor mX4_trueWorlds.1.desc).map (fun d => d.parameters.length) = some 3) := ⟨tw_426, tw_60, by decide +kernel, by decide +kernel, by decide +kernel⟩
theorem zc_X4_words : Cond.code mX4_words.1 mX4_words.2.1 mX4_words.2.2.1 mX4_words.2.2.2.1 ∈ ab_Tg ∧ Cond.initialized mX4_words.1.cls ∈ ab_Tg ∧ (mX4_words.1.cls ≠ "java/lang/invoke/MethodHandle" ∧ mX4_words.1.cls ≠ "java/lang/invoke/VarHandle" ∧ (parseMethodDescriptor mX4_words.1.desc).map (fun d => d.parameters.length) = some 1) := ⟨tw_522, tw_60, by decide +kernel, by decide +kernel, by decide +kernel⟩
theorem zc_X4_price : Cond.code mX4_price.1 mX4_price.2.1 mX4_price.2.2.1 mX4_price.2.2.2.1 ∈ ab_Tg ∧ Cond.initialized mX4_price.1.cls ∈ ab_Tg ∧ (mX4_price.1.cls ≠ "java/lang/invoke/MethodHandle" ∧ mX4_price.1.cls ≠ "java/lang/invoke/VarHandle" ∧ (parseMethodDescriptor mX4_price.1.desc).map (fun d => d.parameters.length) = some 1) := ⟨tw_944, tw_60, by decide +kernel, by decide +kernel, by decide +kernel⟩
theorem zc_X4_fail : Cond.code mX4_fail.1 mX4_fail.2.1 mX4_fail.2.2.1 mX4_fail.2.2.2.1 ∈ ab_Tg ∧ Cond.initialized mX4_fail.1.cls ∈ ab_Tg ∧ (mX4_fail.1.cls ≠ "java/lang/invoke/MethodHandle" ∧ mX4_fail.1.cls ≠ "java/lang/invoke/VarHandle" ∧ (parseMethodDescriptor mX4_fail.1.desc).map (fun d => d.parameters.length) = some 1) := ⟨tw_969, tw_60, by decide +kernel, by decide +kernel, by decide +kernel⟩
theorem zc_X5_init : Cond.code mX5_init.1 mX5_init.2.1 mX5_init.2.2.1 mX5_init.2.2.2.1 ∈ ab_Tg ∧ Cond.initialized mX5_init.1.cls ∈ ab_Tg ∧ (mX5_init.1.cls ≠ "java/lang/invoke/MethodHandle" ∧ mX5_init.1.cls ≠ "java/lang/invoke/VarHandle" ∧ (parseMethodDescriptor mX5_init.1.desc).map (fun d => d.parameters.length) = some 1) := ⟨tw_227, tw_58, by decide +kernel, by decide +kernel, by decide +kernel⟩
theorem zc_X5_trueWorlds : Cond.code mX5_trueWorlds.1 mX5_trueWorlds.2.1 mX5_trueWorlds.2.2.1 mX5_trueWorlds.2.2.2.1 ∈ ab_Tg ∧ Cond.initialized mX5_trueWorlds.1.cls ∈ ab_Tg ∧ (mX5_trueWorlds.1.cls ≠ "java/lang/invoke/MethodHandle" ∧ mX5_trueWorlds.1.cls ≠ "java/lang/invoke/VarHandle" ∧ (parseMethodDescriptor mX5_trueWorlds.1.desc).map (fun d => d.parameters.length) = some 3) := ⟨tw_429, tw_58, by decide +kernel, by decide +kernel, by decide +kernel⟩
theorem zc_X5_words : Cond.code mX5_words.1 mX5_words.2.1 mX5_words.2.2.1 mX5_words.2.2.2.1 ∈ ab_Tg ∧ Cond.initialized mX5_words.1.cls ∈ ab_Tg ∧ (mX5_words.1.cls ≠ "java/lang/invoke/MethodHandle" ∧ mX5_words.1.cls ≠ "java/lang/invoke/VarHandle" ∧ (parseMethodDescriptor mX5_words.1.desc).map (fun d => d.parameters.length) = some 1) := ⟨tw_526, tw_58, by decide +kernel, by decide +kernel, by decide +kernel⟩
theorem zc_X5_price : Cond.code mX5_price.1 mX5_price.2.1 mX5_price.2.2.1 mX5_price.2.2.2.1 ∈ ab_Tg ∧ Cond.initialized mX5_price.1.cls ∈ ab_Tg ∧ (mX5_price.1.cls ≠ "java/lang/invoke/MethodHandle" ∧ mX5_price.1.cls ≠ "java/lang/invoke/VarHandle" ∧ (parseMethodDescriptor mX5_price.1.desc).map (fun d => d.parameters.length) = some 1) := ⟨tw_948, tw_58, by decide +kernel, by decide +kernel, by decide +kernel⟩
theorem zc_X6_init : Cond.code mX6_init.1 mX6_init.2.1 mX6_init.2.2.1 mX6_init.2.2.2.1 ∈ ab_Tg ∧ Cond.initialized mX6_init.1.cls ∈ ab_Tg ∧ (mX6_init.1.cls ≠ "java/lang/invoke/MethodHandle" ∧ mX6_init.1.cls ≠ "java/lang/invoke/VarHandle" ∧ (parseMethodDescriptor mX6_init.1.desc).map (fun d => d.parameters.length) = some 1) := ⟨tw_251, tw_61, by decide +kernel, by decide +kernel, by decide +kernel⟩
theorem zc_X6_trueWorlds : Cond.code mX6_trueWorlds.1 mX6_trueWorlds.2.1 mX6_trueWorlds.2.2.1 mX6_trueWorlds.2.2.2.1 ∈ ab_Tg ∧ Cond.initialized mX6_trueWorlds.1.cls ∈ ab_Tg ∧ (mX6_trueWorlds.1.cls ≠ "java/lang/invoke/MethodHandle" ∧ mX6_trueWorlds.1.cls ≠ "java/lang/invoke/VarHandle" ∧ (parseMethodDescriptor mX6_trueWorlds.1.desc).map (fun d => d.parameters.length) = some 3) := ⟨tw_433, tw_61, by decide +kernel, by decide +kernel, by decide +kernel⟩
theorem zc_X6_words : Cond.code mX6_words.1 mX6_words.2.1 mX6_words.2.2.1 mX6_words.2.2.2.1 ∈ ab_Tg ∧ Cond.initialized mX6_words.1.cls ∈ ab_Tg ∧ (mX6_words.1.cls ≠ "java/lang/invoke/MethodHandle" ∧ mX6_words.1.cls ≠ "java/lang/invoke/VarHandle" ∧ (parseMethodDescriptor mX6_words.1.desc).map (fun d => d.parameters.length) = some 1) := ⟨tw_530, tw_61, by decide +kernel, by decide +kernel, by decide +kernel⟩
theorem zc_X6_facts : Cond.code mX6_facts.1 mX6_facts.2.1 mX6_facts.2.2.1 mX6_facts.2.2.2.1 ∈ ab_Tg ∧ Cond.initialized mX6_facts.1.cls ∈ ab_Tg ∧ (mX6_facts.1.cls ≠ "java/lang/invoke/MethodHandle" ∧ mX6_facts.1.cls ≠ "java/lang/invoke/VarHandle" ∧ (parseMethodDescriptor mX6_facts.1.desc).map (fun d => d.parameters.length) = some 3) := ⟨tw_555, tw_61, by decide +kernel, by decide +kernel, by decide +kernel⟩
theorem zc_X6_price : Cond.code mX6_price.1 mX6_price.2.1 mX6_price.2.2.1 mX6_price.2.2.2.1 ∈ ab_Tg ∧ Cond.initialized mX6_price.1.cls ∈ ab_Tg ∧ (mX6_price.1.cls ≠ "java/lang/invoke/MethodHandle" ∧ mX6_price.1.cls ≠ "java/lang/invoke/VarHandle" ∧ (parseMethodDescriptor mX6_price.1.desc).map (fun d => d.parameters.length) = some 1) := ⟨tw_952, tw_61, by decide +kernel, by decide +kernel, by decide +kernel⟩
theorem zc_X6_failure : Cond.code mX6_failure.1 mX6_failure.2.1 mX6_failure.2.2.1 mX6_failure.2.2.2.1 ∈ ab_Tg ∧ Cond.initialized mX6_failure.1.cls ∈ ab_Tg ∧ (mX6_failure.1.cls ≠ "java/lang/invoke/MethodHandle" ∧ mX6_failure.1.cls ≠ "java/lang/invoke/VarHandle" ∧ (parseMethodDescriptor mX6_failure.1.desc).map (fun d => d.parameters.length) = some 1) := ⟨tw_1036, tw_61, by decide +kernel, by decide +kernel, by decide +kernel⟩
theorem zc_X7_init : Cond.code mX7_init.1 mX7_init.2.1 mX7_init.2.2.1 mX7_init.2.2.2.1 ∈ ab_Tg ∧ Cond.initialized mX7_init.1.cls ∈ ab_Tg ∧ (mX7_init.1.cls ≠ "java/lang/invoke/MethodHandle" ∧ mX7_init.1.cls ≠ "java/lang/invoke/VarHandle" ∧ (parseMethodDescriptor mX7_init.1.desc).map (fun d => d.parameters.length) = some 6) := ⟨tw_437, tw_66, by decide +kernel, by decide +kernel, by decide +kernel⟩
theorem zc_X7_told : Cond.code mX7_told.1 mX7_told.2.1 mX7_told.2.2.1 mX7_told.2.2.2.1 ∈ ab_Tg ∧ Cond.initialized mX7_told.1.cls ∈ ab_Tg ∧ (mX7_told.1.cls ≠ "java/lang/invoke/MethodHandle" ∧ mX7_told.1.cls ≠ "java/lang/invoke/VarHandle" ∧ (parseMethodDescriptor mX7_told.1.desc).map (fun d => d.parameters.length) = some 1) := ⟨tw_495, tw_66, by decide +kernel, by decide +kernel, by decide +kernel⟩
theorem zc_X7_words : Cond.code mX7_words.1 mX7_words.2.1 mX7_words.2.2.1 mX7_words.2.2.2.1 ∈ ab_Tg ∧ Cond.initialized mX7_words.1.cls ∈ ab_Tg ∧ (mX7_words.1.cls ≠ "java/lang/invoke/MethodHandle" ∧ mX7_words.1.cls ≠ "java/lang/invoke/VarHandle" ∧ (parseMethodDescriptor mX7_words.1.desc).map (fun d => d.parameters.length) = some 0) := ⟨tw_499, tw_66, by decide +kernel, by decide +kernel, by decide +kernel⟩
theorem zc_X7_facts : Cond.code mX7_facts.1 mX7_facts.2.1 mX7_facts.2.2.1 mX7_facts.2.2.2.1 ∈ ab_Tg ∧ Cond.initialized mX7_facts.1.cls ∈ ab_Tg ∧ (mX7_facts.1.cls ≠ "java/lang/invoke/MethodHandle" ∧ mX7_facts.1.cls ≠ "java/lang/invoke/VarHandle" ∧ (parseMethodDescriptor mX7_facts.1.desc).map (fun d => d.parameters.length) = some 0) := ⟨tw_536, tw_66, by decide +kernel, by decide +kernel, by decide +kernel⟩
theorem zc_X8_init : Cond.code mX8_init.1 mX8_init.2.1 mX8_init.2.2.1 mX8_init.2.2.2.1 ∈ ab_Tg ∧ Cond.initialized mX8_init.1.cls ∈ ab_Tg ∧ (mX8_init.1.cls ≠ "java/lang/invoke/MethodHandle" ∧ mX8_init.1.cls ≠ "java/lang/invoke/VarHandle" ∧ (parseMethodDescriptor mX8_init.1.desc).map (fun d => d.parameters.length) = some 1) := ⟨tw_134, tw_50, by decide +kernel, by decide +kernel, by decide +kernel⟩
theorem zc_X8_worldsOf : Cond.code mX8_worldsOf.1 mX8_worldsOf.2.1 mX8_worldsOf.2.2.1 mX8_worldsOf.2.2.2.1 ∈ ab_Tg ∧ Cond.initialized mX8_worldsOf.1.cls ∈ ab_Tg ∧ (mX8_worldsOf.1.cls ≠ "java/lang/invoke/MethodHandle" ∧ mX8_worldsOf.1.cls ≠ "java/lang/invoke/VarHandle" ∧ (parseMethodDescriptor mX8_worldsOf.1.desc).map (fun d => d.parameters.length) = some 3) := ⟨tw_401, tw_50, by decide +kernel, by decide +kernel, by decide +kernel⟩
theorem zc_X8_trueWorlds : Cond.code mX8_trueWorlds.1 mX8_trueWorlds.2.1 mX8_trueWorlds.2.2.1 mX8_trueWorlds.2.2.2.1 ∈ ab_Tg ∧ Cond.initialized mX8_trueWorlds.1.cls ∈ ab_Tg ∧ (mX8_trueWorlds.1.cls ≠ "java/lang/invoke/MethodHandle" ∧ mX8_trueWorlds.1.cls ≠ "java/lang/invoke/VarHandle" ∧ (parseMethodDescriptor mX8_trueWorlds.1.desc).map (fun d => d.parameters.length) = some 3) := ⟨tw_434, tw_50, by decide +kernel, by decide +kernel, by decide +kernel⟩
theorem zc_X8_words : Cond.code mX8_words.1 mX8_words.2.1 mX8_words.2.2.1 mX8_words.2.2.2.1 ∈ ab_Tg ∧ Cond.initialized mX8_words.1.cls ∈ ab_Tg ∧ (mX8_words.1.cls ≠ "java/lang/invoke/MethodHandle" ∧ mX8_words.1.cls ≠ "java/lang/invoke/VarHandle" ∧ (parseMethodDescriptor mX8_words.1.desc).map (fun d => d.parameters.length) = some 1) := ⟨tw_532, tw_50, by decide +kernel, by decide +kernel, by decide +kernel⟩
theorem zc_X8_facts : Cond.code mX8_facts.1 mX8_facts.2.1 mX8_facts.2.2.1 mX8_facts.2.2.2.1 ∈ ab_Tg ∧ Cond.initialized mX8_facts.1.cls ∈ ab_Tg ∧ (mX8_facts.1.cls ≠ "java/lang/invoke/MethodHandle" ∧ mX8_facts.1.cls ≠ "java/lang/invoke/VarHandle" ∧ (parseMethodDescriptor mX8_facts.1.desc).map (fun d => d.parameters.length) = some 3) := ⟨tw_559, tw_50, by decide +kernel, by decide +kernel, by decide +kernel⟩
theorem zc_X8_price : Cond.code mX8_price.1 mX8_price.2.1 mX8_price.2.2.1 mX8_price.2.2.2.1 ∈ ab_Tg ∧ Cond.initialized mX8_price.1.cls ∈ ab_Tg ∧ (mX8_price.1.cls ≠ "java/lang/invoke/MethodHandle" ∧ mX8_price.1.cls ≠ "java/lang/invoke/VarHandle" ∧ (parseMethodDescriptor mX8_price.1.desc).map (fun d => d.parameters.length) = some 1) := ⟨tw_954, tw_50, by decide +kernel, by decide +kernel, by decide +kernel⟩
theorem zc_X8_fail : Cond.code mX8_fail.1 mX8_fail.2.1 mX8_fail.2.2.1 mX8_fail.2.2.2.1 ∈ ab_Tg ∧ Cond.initialized mX8_fail.1.cls ∈ ab_Tg ∧ (mX8_fail.1.cls ≠ "java/lang/invoke/MethodHandle" ∧ mX8_fail.1.cls ≠ "java/lang/invoke/VarHandle" ∧ (parseMethodDescriptor mX8_fail.1.desc).map (fun d => d.parameters.length) = some 1) := ⟨tw_972, tw_50, by decide +kernel, by decide +kernel, by decide +kernel⟩
theorem zc_X8_failure : Cond.code mX8_failure.1 mX8_failure.2.1 mX8_failure.2.2.1 mX8_failure.2.2.2.1 ∈ ab_Tg ∧ Cond.initialized mX8_failure.1.cls ∈ ab_Tg ∧ (mX8_failure.1.cls ≠ "java/lang/invoke/MethodHandle" ∧ mX8_failure.1.cls ≠ "java/lang/invoke/VarHandle" ∧ (parseMethodDescriptor mX8_failure.1.desc).map (fun d => d.parameters.length) = some 1) := ⟨tw_1038, tw_50, by decide +kernel, by decide +kernel, by decide +kernel⟩
theorem zc_X9_init : Cond.code mX9_init.1 mX9_init.2.1 mX9_init.2.2.1 mX9_init.2.2.2.1 ∈ ab_Tg ∧ Cond.initialized mX9_init.1.cls ∈ ab_Tg ∧ (mX9_init.1.cls ≠ "java/lang/invoke/MethodHandle" ∧ mX9_init.1.cls ≠ "java/lang/invoke/VarHandle" ∧ (parseMethodDescriptor mX9_init.1.desc).map (fun d => d.parameters.length) = some 1) := ⟨tw_258, tw_62, by decide +kernel, by decide +kernel, by decide +kernel⟩
theorem zc_X9_holdNothing : Cond.code mX9_holdNothing.1 mX9_holdNothing.2.1 mX9_holdNothing.2.2.1 mX9_holdNothing.2.2.2.1 ∈ ab_Tg ∧ Cond.initialized mX9_holdNothing.1.cls ∈ ab_Tg ∧ (mX9_holdNothing.1.cls ≠ "java/lang/invoke/MethodHandle" ∧ mX9_holdNothing.1.cls ≠ "java/lang/invoke/VarHandle" ∧ (parseMethodDescriptor mX9_holdNothing.1.desc).map (fun d => d.parameters.length) = some 0) := ⟨tw_887, tw_62, by decide +kernel, by decide +kernel, by decide +kernel⟩
theorem zc_X9_holdSaying : Cond.code mX9_holdSaying.1 mX9_holdSaying.2.1 mX9_holdSaying.2.2.1 mX9_holdSaying.2.2.2.1 ∈ ab_Tg ∧ Cond.initialized mX9_holdSaying.1.cls ∈ ab_Tg ∧ (mX9_holdSaying.1.cls ≠ "java/lang/invoke/MethodHandle" ∧ mX9_holdSaying.1.cls ≠ "java/lang/invoke/VarHandle" ∧ (parseMethodDescriptor mX9_holdSaying.1.desc).map (fun d => d.parameters.length) = some 2) := ⟨tw_891, tw_62, by decide +kernel, by decide +kernel, by decide +kernel⟩
theorem zc_X9_holdRow : Cond.code mX9_holdRow.1 mX9_holdRow.2.1 mX9_holdRow.2.2.1 mX9_holdRow.2.2.2.1 ∈ ab_Tg ∧ Cond.initialized mX9_holdRow.1.cls ∈ ab_Tg ∧ (mX9_holdRow.1.cls ≠ "java/lang/invoke/MethodHandle" ∧ mX9_holdRow.1.cls ≠ "java/lang/invoke/VarHandle" ∧ (parseMethodDescriptor mX9_holdRow.1.desc).map (fun d => d.parameters.length) = some 2) := ⟨tw_899, tw_62, by decide +kernel, by decide +kernel, by decide +kernel⟩
theorem zc_X9_isEmpty : Cond.code mX9_isEmpty.1 mX9_isEmpty.2.1 mX9_isEmpty.2.2.1 mX9_isEmpty.2.2.2.1 ∈ ab_Tg ∧ Cond.initialized mX9_isEmpty.1.cls ∈ ab_Tg ∧ (mX9_isEmpty.1.cls ≠ "java/lang/invoke/MethodHandle" ∧ mX9_isEmpty.1.cls ≠ "java/lang/invoke/VarHandle" ∧ (parseMethodDescriptor mX9_isEmpty.1.desc).map (fun d => d.parameters.length) = some 0) := ⟨tw_312, tw_62, by decide +kernel, by decide +kernel, by decide +kernel⟩
theorem zc_X9_refusalAsSaying : Cond.code mX9_refusalAsSaying.1 mX9_refusalAsSaying.2.1 mX9_refusalAsSaying.2.2.1 mX9_refusalAsSaying.2.2.2.1 ∈ ab_Tg ∧ Cond.initialized mX9_refusalAsSaying.1.cls ∈ ab_Tg ∧ (mX9_refusalAsSaying.1.cls ≠ "java/lang/invoke/MethodHandle" ∧ mX9_refusalAsSaying.1.cls ≠ "java/lang/invoke/VarHandle" ∧ (parseMethodDescriptor mX9_refusalAsSaying.1.desc).map (fun d => d.parameters.length) = some 0) := ⟨tw_585, tw_62, by decide +kernel, by decide +kernel, by decide +kernel⟩
theorem zc_X9_refusalAsRow : Cond.code mX9_refusalAsRow.1 mX9_refusalAsRow.2.1 mX9_refusalAsRow.2.2.1 mX9_refusalAsRow.2.2.2.1 ∈ ab_Tg ∧ Cond.initialized mX9_refusalAsRow.1.cls ∈ ab_Tg ∧ (mX9_refusalAsRow.1.cls ≠ "java/lang/invoke/MethodHandle" ∧ mX9_refusalAsRow.1.cls ≠ "java/lang/invoke/VarHandle" ∧ (parseMethodDescriptor mX9_refusalAsRow.1.desc).map (fun d => d.parameters.length) = some 0) := ⟨tw_305, tw_62, by decide +kernel, by decide +kernel, by decide +kernel⟩
theorem zc_X9_refusalUnless : Cond.code mX9_refusalUnless.1 mX9_refusalUnless.2.1 mX9_refusalUnless.2.2.1 mX9_refusalUnless.2.2.2.1 ∈ ab_Tg ∧ Cond.initialized mX9_refusalUnless.1.cls ∈ ab_Tg ∧ (mX9_refusalUnless.1.cls ≠ "java/lang/invoke/MethodHandle" ∧ mX9_refusalUnless.1.cls ≠ "java/lang/invoke/VarHandle" ∧ (parseMethodDescriptor mX9_refusalUnless.1.desc).map (fun d => d.parameters.length) = some 1) := ⟨tw_308, tw_62, by decide +kernel, by decide +kernel, by decide +kernel⟩
theorem zc_X9_worldsOf : Cond.code mX9_worldsOf.1 mX9_worldsOf.2.1 mX9_worldsOf.2.2.1 mX9_worldsOf.2.2.2.1 ∈ ab_Tg ∧ Cond.initialized mX9_worldsOf.1.cls ∈ ab_Tg ∧ (mX9_worldsOf.1.cls ≠ "java/lang/invoke/MethodHandle" ∧ mX9_worldsOf.1.cls ≠ "java/lang/invoke/VarHandle" ∧ (parseMethodDescriptor mX9_worldsOf.1.desc).map (fun d => d.parameters.length) = some 2) := ⟨tw_589, tw_62, by decide +kernel, by decide +kernel, by decide +kernel⟩
theorem zc_X9_hasPlaces : Cond.code mX9_hasPlaces.1 mX9_hasPlaces.2.1 mX9_hasPlaces.2.2.1 mX9_hasPlaces.2.2.2.1 ∈ ab_Tg ∧ Cond.initialized mX9_hasPlaces.1.cls ∈ ab_Tg ∧ (mX9_hasPlaces.1.cls ≠ "java/lang/invoke/MethodHandle" ∧ mX9_hasPlaces.1.cls ≠ "java/lang/invoke/VarHandle" ∧ (parseMethodDescriptor mX9_hasPlaces.1.desc).map (fun d => d.parameters.length) = some 2) := ⟨tw_323, tw_62, by decide +kernel, by decide +kernel, by decide +kernel⟩
theorem zc_X9_numberAt : Cond.code mX9_numberAt.1 mX9_numberAt.2.1 mX9_numberAt.2.2.1 mX9_numberAt.2.2.2.1 ∈ ab_Tg ∧ Cond.initialized mX9_numberAt.1.cls ∈ ab_Tg ∧ (mX9_numberAt.1.cls ≠ "java/lang/invoke/MethodHandle" ∧ mX9_numberAt.1.cls ≠ "java/lang/invoke/VarHandle" ∧ (parseMethodDescriptor mX9_numberAt.1.desc).map (fun d => d.parameters.length) = some 1) := ⟨tw_319, tw_62, by decide +kernel, by decide +kernel, by decide +kernel⟩
theorem zc_X9_setNumber : Cond.code mX9_setNumber.1 mX9_setNumber.2.1 mX9_setNumber.2.2.1 mX9_setNumber.2.2.2.1 ∈ ab_Tg ∧ Cond.initialized mX9_setNumber.1.cls ∈ ab_Tg ∧ (mX9_setNumber.1.cls ≠ "java/lang/invoke/MethodHandle" ∧ mX9_setNumber.1.cls ≠ "java/lang/invoke/VarHandle" ∧ (parseMethodDescriptor mX9_setNumber.1.desc).map (fun d => d.parameters.length) = some 2) := ⟨tw_907, tw_62, by decide +kernel, by decide +kernel, by decide +kernel⟩
theorem zc_X9_lowestBits : Cond.code mX9_lowestBits.1 mX9_lowestBits.2.1 mX9_lowestBits.2.2.1 mX9_lowestBits.2.2.2.1 ∈ ab_Tg ∧ Cond.initialized mX9_lowestBits.1.cls ∈ ab_Tg ∧ (mX9_lowestBits.1.cls ≠ "java/lang/invoke/MethodHandle" ∧ mX9_lowestBits.1.cls ≠ "java/lang/invoke/VarHandle" ∧ (parseMethodDescriptor mX9_lowestBits.1.desc).map (fun d => d.parameters.length) = some 1) := ⟨tw_910, tw_62, by decide +kernel, by decide +kernel, by decide +kernel⟩
theorem zc_X9_isSkipped : Cond.code mX9_isSkipped.1 mX9_isSkipped.2.1 mX9_isSkipped.2.2.1 mX9_isSkipped.2.2.2.1 ∈ ab_Tg ∧ Cond.initialized mX9_isSkipped.1.cls ∈ ab_Tg ∧ (mX9_isSkipped.1.cls ≠ "java/lang/invoke/MethodHandle" ∧ mX9_isSkipped.1.cls ≠ "java/lang/invoke/VarHandle" ∧ (parseMethodDescriptor mX9_isSkipped.1.desc).map (fun d => d.parameters.length) = some 1) := ⟨tw_837, tw_62, by decide +kernel, by decide +kernel, by decide +kernel⟩
theorem zc_X9_tellsTrueOrFalse : Cond.code mX9_tellsTrueOrFalse.1 mX9_tellsTrueOrFalse.2.1 mX9_tellsTrueOrFalse.2.2.1 mX9_tellsTrueOrFalse.2.2.2.1 ∈ ab_Tg ∧ Cond.initialized mX9_tellsTrueOrFalse.1.cls ∈ ab_Tg ∧ (mX9_tellsTrueOrFalse.1.cls ≠ "java/lang/invoke/MethodHandle" ∧ mX9_tellsTrueOrFalse.1.cls ≠ "java/lang/invoke/VarHandle" ∧ (parseMethodDescriptor mX9_tellsTrueOrFalse.1.desc).map (fun d => d.parameters.length) = some 0) := ⟨tw_832, tw_62, by decide +kernel, by decide +kernel, by decide +kernel⟩
theorem zc_X10_init : Cond.code mX10_init.1 mX10_init.2.1 mX10_init.2.2.1 mX10_init.2.2.2.1 ∈ ab_Tg ∧ Cond.initialized mX10_init.1.cls ∈ ab_Tg ∧ (mX10_init.1.cls ≠ "java/lang/invoke/MethodHandle" ∧ mX10_init.1.cls ≠ "java/lang/invoke/VarHandle" ∧ (parseMethodDescriptor mX10_init.1.desc).map (fun d => d.parameters.length) = some 0) := ⟨tw_110, tw_49, by decide +kernel, by decide +kernel, by decide +kernel⟩
theorem zc_X10_becomes : Cond.code mX10_becomes.1 mX10_becomes.2.1 mX10_becomes.2.2.1 mX10_becomes.2.2.2.1 ∈ ab_Tg ∧ Cond.initialized mX10_becomes.1.cls ∈ ab_Tg ∧ (mX10_becomes.1.cls ≠ "java/lang/invoke/MethodHandle" ∧ mX10_becomes.1.cls ≠ "java/lang/invoke/VarHandle" ∧ (parseMethodDescriptor mX10_becomes.1.desc).map (fun d => d.parameters.length) = some 1) := ⟨tw_336, tw_49, by decide +kernel, by decide +kernel, by decide +kernel⟩
theorem zc_X10_refill : Cond.code mX10_refill.1 mX10_refill.2.1 mX10_refill.2.2.1 mX10_refill.2.2.2.1 ∈ ab_Tg ∧ Cond.initialized mX10_refill.1.cls ∈ ab_Tg ∧ (mX10_refill.1.cls ≠ "java/lang/invoke/MethodHandle" ∧ mX10_refill.1.cls ≠ "java/lang/invoke/VarHandle" ∧ (parseMethodDescriptor mX10_refill.1.desc).map (fun d => d.parameters.length) = some 2) := ⟨tw_339, tw_49, by decide +kernel, by decide +kernel, by decide +kernel⟩
theorem zc_X10_hasWitness : Cond.code mX10_hasWitness.1 mX10_hasWitness.2.1 mX10_hasWitness.2.2.1 mX10_hasWitness.2.2.2.1 ∈ ab_Tg ∧ Cond.initialized mX10_hasWitness.1.cls ∈ ab_Tg ∧ (mX10_hasWitness.1.cls ≠ "java/lang/invoke/MethodHandle" ∧ mX10_hasWitness.1.cls ≠ "java/lang/invoke/VarHandle" ∧ (parseMethodDescriptor mX10_hasWitness.1.desc).map (fun d => d.parameters.length) = some 1) := ⟨tw_484, tw_49, by decide +kernel, by decide +kernel, by decide +kernel⟩
theorem zc_X10_knownBy : Cond.code mX10_knownBy.1 mX10_knownBy.2.1 mX10_knownBy.2.2.1 mX10_knownBy.2.2.2.1 ∈ ab_Tg ∧ Cond.initialized mX10_knownBy.1.cls ∈ ab_Tg ∧ (mX10_knownBy.1.cls ≠ "java/lang/invoke/MethodHandle" ∧ mX10_knownBy.1.cls ≠ "java/lang/invoke/VarHandle" ∧ (parseMethodDescriptor mX10_knownBy.1.desc).map (fun d => d.parameters.length) = some 1) := ⟨tw_367, tw_49, by decide +kernel, by decide +kernel, by decide +kernel⟩
theorem zc_X10_addLaw : Cond.code mX10_addLaw.1 mX10_addLaw.2.1 mX10_addLaw.2.2.1 mX10_addLaw.2.2.2.1 ∈ ab_Tg ∧ Cond.initialized mX10_addLaw.1.cls ∈ ab_Tg ∧ (mX10_addLaw.1.cls ≠ "java/lang/invoke/MethodHandle" ∧ mX10_addLaw.1.cls ≠ "java/lang/invoke/VarHandle" ∧ (parseMethodDescriptor mX10_addLaw.1.desc).map (fun d => d.parameters.length) = some 1) := ⟨tw_459, tw_49, by decide +kernel, by decide +kernel, by decide +kernel⟩
theorem zc_X10_addSaid : Cond.code mX10_addSaid.1 mX10_addSaid.2.1 mX10_addSaid.2.2.1 mX10_addSaid.2.2.2.1 ∈ ab_Tg ∧ Cond.initialized mX10_addSaid.1.cls ∈ ab_Tg ∧ (mX10_addSaid.1.cls ≠ "java/lang/invoke/MethodHandle" ∧ mX10_addSaid.1.cls ≠ "java/lang/invoke/VarHandle" ∧ (parseMethodDescriptor mX10_addSaid.1.desc).map (fun d => d.parameters.length) = some 1) := ⟨tw_480, tw_49, by decide +kernel, by decide +kernel, by decide +kernel⟩
theorem zc_X10_addWitness : Cond.code mX10_addWitness.1 mX10_addWitness.2.1 mX10_addWitness.2.2.1 mX10_addWitness.2.2.2.1 ∈ ab_Tg ∧ Cond.initialized mX10_addWitness.1.cls ∈ ab_Tg ∧ (mX10_addWitness.1.cls ≠ "java/lang/invoke/MethodHandle" ∧ mX10_addWitness.1.cls ≠ "java/lang/invoke/VarHandle" ∧ (parseMethodDescriptor mX10_addWitness.1.desc).map (fun d => d.parameters.length) = some 1) := ⟨tw_466, tw_49, by decide +kernel, by decide +kernel, by decide +kernel⟩
theorem zc_X10_setTruth : Cond.code mX10_setTruth.1 mX10_setTruth.2.1 mX10_setTruth.2.2.1 mX10_setTruth.2.2.2.1 ∈ ab_Tg ∧ Cond.initialized mX10_setTruth.1.cls ∈ ab_Tg ∧ (mX10_setTruth.1.cls ≠ "java/lang/invoke/MethodHandle" ∧ mX10_setTruth.1.cls ≠ "java/lang/invoke/VarHandle" ∧ (parseMethodDescriptor mX10_setTruth.1.desc).map (fun d => d.parameters.length) = some 1) := ⟨tw_473, tw_49, by decide +kernel, by decide +kernel, by decide +kernel⟩
theorem zc_X10_mayBe : Cond.code mX10_mayBe.1 mX10_mayBe.2.1 mX10_mayBe.2.2.1 mX10_mayBe.2.2.2.1 ∈ ab_Tg ∧ Cond.initialized mX10_mayBe.1.cls ∈ ab_Tg ∧ (mX10_mayBe.1.cls ≠ "java/lang/invoke/MethodHandle" ∧ mX10_mayBe.1.cls ≠ "java/lang/invoke/VarHandle" ∧ (parseMethodDescriptor mX10_mayBe.1.desc).map (fun d => d.parameters.length) = some 0) := ⟨tw_634, tw_49, by decide +kernel, by decide +kernel, by decide +kernel⟩
theorem zc_X10_left : Cond.code mX10_left.1 mX10_left.2.1 mX10_left.2.2.1 mX10_left.2.2.2.1 ∈ ab_Tg ∧ Cond.initialized mX10_left.1.cls ∈ ab_Tg ∧ (mX10_left.1.cls ≠ "java/lang/invoke/MethodHandle" ∧ mX10_left.1.cls ≠ "java/lang/invoke/VarHandle" ∧ (parseMethodDescriptor mX10_left.1.desc).map (fun d => d.parameters.length) = some 0) := ⟨tw_639, tw_49, by decide +kernel, by decide +kernel, by decide +kernel⟩
theorem zc_X10_mayBeOrLeft : Cond.code mX10_mayBeOrLeft.1 mX10_mayBeOrLeft.2.1 mX10_mayBeOrLeft.2.2.1 mX10_mayBeOrLeft.2.2.2.1 ∈ ab_Tg ∧ Cond.initialized mX10_mayBeOrLeft.1.cls ∈ ab_Tg ∧ (mX10_mayBeOrLeft.1.cls ≠ "java/lang/invoke/MethodHandle" ∧ mX10_mayBeOrLeft.1.cls ≠ "java/lang/invoke/VarHandle" ∧ (parseMethodDescriptor mX10_mayBeOrLeft.1.desc).map (fun d => d.parameters.length) = some 1) := ⟨tw_630, tw_49, by decide +kernel, by decide +kernel, by decide +kernel⟩
theorem zc_X10_leftBySaid : Cond.code mX10_leftBySaid.1 mX10_leftBySaid.2.1 mX10_leftBySaid.2.2.1 mX10_leftBySaid.2.2.2.1 ∈ ab_Tg ∧ Cond.initialized mX10_leftBySaid.1.cls ∈ ab_Tg ∧ (mX10_leftBySaid.1.cls ≠ "java/lang/invoke/MethodHandle" ∧ mX10_leftBySaid.1.cls ≠ "java/lang/invoke/VarHandle" ∧ (parseMethodDescriptor mX10_leftBySaid.1.desc).map (fun d => d.parameters.length) = some 2) := ⟨tw_643, tw_49, by decide +kernel, by decide +kernel, by decide +kernel⟩
theorem zc_X10_leftByTellers : Cond.code mX10_leftByTellers.1 mX10_leftByTellers.2.1 mX10_leftByTellers.2.2.1 mX10_leftByTellers.2.2.2.1 ∈ ab_Tg ∧ Cond.initialized mX10_leftByTellers.1.cls ∈ ab_Tg ∧ (mX10_leftByTellers.1.cls ≠ "java/lang/invoke/MethodHandle" ∧ mX10_leftByTellers.1.cls ≠ "java/lang/invoke/VarHandle" ∧ (parseMethodDescriptor mX10_leftByTellers.1.desc).map (fun d => d.parameters.length) = some 1) := ⟨tw_728, tw_49, by decide +kernel, by decide +kernel, by decide +kernel⟩
theorem zc_X10_isPlainBy : Cond.code mX10_isPlainBy.1 mX10_isPlainBy.2.1 mX10_isPlainBy.2.2.1 mX10_isPlainBy.2.2.2.1 ∈ ab_Tg ∧ Cond.initialized mX10_isPlainBy.1.cls ∈ ab_Tg ∧ (mX10_isPlainBy.1.cls ≠ "java/lang/invoke/MethodHandle" ∧ mX10_isPlainBy.1.cls ≠ "java/lang/invoke/VarHandle" ∧ (parseMethodDescriptor mX10_isPlainBy.1.desc).map (fun d => d.parameters.length) = some 1) := ⟨tw_724, tw_49, by decide +kernel, by decide +kernel, by decide +kernel⟩
theorem zc_X10_trueOnes : Cond.code mX10_trueOnes.1 mX10_trueOnes.2.1 mX10_trueOnes.2.2.1 mX10_trueOnes.2.2.2.1 ∈ ab_Tg ∧ Cond.initialized mX10_trueOnes.1.cls ∈ ab_Tg ∧ (mX10_trueOnes.1.cls ≠ "java/lang/invoke/MethodHandle" ∧ mX10_trueOnes.1.cls ≠ "java/lang/invoke/VarHandle" ∧ (parseMethodDescriptor mX10_trueOnes.1.desc).map (fun d => d.parameters.length) = some 1) := ⟨tw_679, tw_49, by decide +kernel, by decide +kernel, by decide +kernel⟩
theorem zc_X10_wordsSaid : Cond.code mX10_wordsSaid.1 mX10_wordsSaid.2.1 mX10_wordsSaid.2.2.1 mX10_wordsSaid.2.2.2.1 ∈ ab_Tg ∧ Cond.initialized mX10_wordsSaid.1.cls ∈ ab_Tg ∧ (mX10_wordsSaid.1.cls ≠ "java/lang/invoke/MethodHandle" ∧ mX10_wordsSaid.1.cls ≠ "java/lang/invoke/VarHandle" ∧ (parseMethodDescriptor mX10_wordsSaid.1.desc).map (fun d => d.parameters.length) = some 0) := ⟨tw_878, tw_49, by decide +kernel, by decide +kernel, by decide +kernel⟩
theorem zc_X10_reachedFrom : Cond.code mX10_reachedFrom.1 mX10_reachedFrom.2.1 mX10_reachedFrom.2.2.1 mX10_reachedFrom.2.2.2.1 ∈ ab_Tg ∧ Cond.initialized mX10_reachedFrom.1.cls ∈ ab_Tg ∧ (mX10_reachedFrom.1.cls ≠ "java/lang/invoke/MethodHandle" ∧ mX10_reachedFrom.1.cls ≠ "java/lang/invoke/VarHandle" ∧ (parseMethodDescriptor mX10_reachedFrom.1.desc).map (fun d => d.parameters.length) = some 2) := ⟨tw_810, tw_49, by decide +kernel, by decide +kernel, by decide +kernel⟩
theorem zc_X11_init : Cond.code mX11_init.1 mX11_init.2.1 mX11_init.2.2.1 mX11_init.2.2.2.1 ∈ ab_Tg ∧ Cond.initialized mX11_init.1.cls ∈ ab_Tg ∧ (mX11_init.1.cls ≠ "java/lang/invoke/MethodHandle" ∧ mX11_init.1.cls ≠ "java/lang/invoke/VarHandle" ∧ (parseMethodDescriptor mX11_init.1.desc).map (fun d => d.parameters.length) = some 0) := ⟨tw_78, tw_45, by decide +kernel, by decide +kernel, by decide +kernel⟩
theorem zc_X11_trial : Cond.code mX11_trial.1 mX11_trial.2.1 mX11_trial.2.2.1 mX11_trial.2.2.2.1 ∈ ab_Tg ∧ Cond.initialized mX11_trial.1.cls ∈ ab_Tg ∧ (mX11_trial.1.cls ≠ "java/lang/invoke/MethodHandle" ∧ mX11_trial.1.cls ≠ "java/lang/invoke/VarHandle" ∧ (parseMethodDescriptor mX11_trial.1.desc).map (fun d => d.parameters.length) = some 1) := ⟨tw_298, tw_45, by decide +kernel, by decide +kernel, by decide +kernel⟩
theorem zc_X11_law : Cond.code mX11_law.1 mX11_law.2.1 mX11_law.2.2.1 mX11_law.2.2.2.1 ∈ ab_Tg ∧ Cond.initialized mX11_law.1.cls ∈ ab_Tg ∧ (mX11_law.1.cls ≠ "java/lang/invoke/MethodHandle" ∧ mX11_law.1.cls ≠ "java/lang/invoke/VarHandle" ∧ (parseMethodDescriptor mX11_law.1.desc).map (fun d => d.parameters.length) = some 2) := ⟨tw_488, tw_45, by decide +kernel, by decide +kernel, by decide +kernel⟩
theorem zc_X11_said : Cond.code mX11_said.1 mX11_said.2.1 mX11_said.2.2.1 mX11_said.2.2.2.1 ∈ ab_Tg ∧ Cond.initialized mX11_said.1.cls ∈ ab_Tg ∧ (mX11_said.1.cls ≠ "java/lang/invoke/MethodHandle" ∧ mX11_said.1.cls ≠ "java/lang/invoke/VarHandle" ∧ (parseMethodDescriptor mX11_said.1.desc).map (fun d => d.parameters.length) = some 2) := ⟨tw_564, tw_45, by decide +kernel, by decide +kernel, by decide +kernel⟩
theorem zc_X11_knows : Cond.code mX11_knows.1 mX11_knows.2.1 mX11_knows.2.2.1 mX11_knows.2.2.2.1 ∈ ab_Tg ∧ Cond.initialized mX11_knows.1.cls ∈ ab_Tg ∧ (mX11_knows.1.cls ≠ "java/lang/invoke/MethodHandle" ∧ mX11_knows.1.cls ≠ "java/lang/invoke/VarHandle" ∧ (parseMethodDescriptor mX11_knows.1.desc).map (fun d => d.parameters.length) = some 1) := ⟨tw_574, tw_45, by decide +kernel, by decide +kernel, by decide +kernel⟩
theorem zc_X11_isTrue : Cond.code mX11_isTrue.1 mX11_isTrue.2.1 mX11_isTrue.2.2.1 mX11_isTrue.2.2.2.1 ∈ ab_Tg ∧ Cond.initialized mX11_isTrue.1.cls ∈ ab_Tg ∧ (mX11_isTrue.1.cls ≠ "java/lang/invoke/MethodHandle" ∧ mX11_isTrue.1.cls ≠ "java/lang/invoke/VarHandle" ∧ (parseMethodDescriptor mX11_isTrue.1.desc).map (fun d => d.parameters.length) = some 4) := ⟨tw_580, tw_45, by decide +kernel, by decide +kernel, by decide +kernel⟩
theorem zc_X11_rules : Cond.code mX11_rules.1 mX11_rules.2.1 mX11_rules.2.2.1 mX11_rules.2.2.2.1 ∈ ab_Tg ∧ Cond.initialized mX11_rules.1.cls ∈ ab_Tg ∧ (mX11_rules.1.cls ≠ "java/lang/invoke/MethodHandle" ∧ mX11_rules.1.cls ≠ "java/lang/invoke/VarHandle" ∧ (parseMethodDescriptor mX11_rules.1.desc).map (fun d => d.parameters.length) = some 3) := ⟨tw_594, tw_45, by decide +kernel, by decide +kernel, by decide +kernel⟩
theorem zc_X11_says : Cond.code mX11_says.1 mX11_says.2.1 mX11_says.2.2.1 mX11_says.2.2.2.1 ∈ ab_Tg ∧ Cond.initialized mX11_says.1.cls ∈ ab_Tg ∧ (mX11_says.1.cls ≠ "java/lang/invoke/MethodHandle" ∧ mX11_says.1.cls ≠ "java/lang/invoke/VarHandle" ∧ (parseMethodDescriptor mX11_says.1.desc).map (fun d => d.parameters.length) = some 4) := ⟨tw_598, tw_45, by decide +kernel, by decide +kernel, by decide +kernel⟩
theorem zc_X11_unsays : Cond.code mX11_unsays.1 mX11_unsays.2.1 mX11_unsays.2.2.1 mX11_unsays.2.2.2.1 ∈ ab_Tg ∧ Cond.initialized mX11_unsays.1.cls ∈ ab_Tg ∧ (mX11_unsays.1.cls ≠ "java/lang/invoke/MethodHandle" ∧ mX11_unsays.1.cls ≠ "java/lang/invoke/VarHandle" ∧ (parseMethodDescriptor mX11_unsays.1.desc).map (fun d => d.parameters.length) = some 0) := ⟨tw_602, tw_45, by decide +kernel, by decide +kernel, by decide +kernel⟩
theorem zc_X11_witness : Cond.code mX11_witness.1 mX11_witness.2.1 mX11_witness.2.2.1 mX11_witness.2.2.2.1 ∈ ab_Tg ∧ Cond.initialized mX11_witness.1.cls ∈ ab_Tg ∧ (mX11_witness.1.cls ≠ "java/lang/invoke/MethodHandle" ∧ mX11_witness.1.cls ≠ "java/lang/invoke/VarHandle" ∧ (parseMethodDescriptor mX11_witness.1.desc).map (fun d => d.parameters.length) = some 1) := ⟨tw_614, tw_45, by decide +kernel, by decide +kernel, by decide +kernel⟩
theorem zc_X11_truth : Cond.code mX11_truth.1 mX11_truth.2.1 mX11_truth.2.2.1 mX11_truth.2.2.2.1 ∈ ab_Tg ∧ Cond.initialized mX11_truth.1.cls ∈ ab_Tg ∧ (mX11_truth.1.cls ≠ "java/lang/invoke/MethodHandle" ∧ mX11_truth.1.cls ≠ "java/lang/invoke/VarHandle" ∧ (parseMethodDescriptor mX11_truth.1.desc).map (fun d => d.parameters.length) = some 1) := ⟨tw_619, tw_45, by decide +kernel, by decide +kernel, by decide +kernel⟩
theorem zc_X11_worlds : Cond.code mX11_worlds.1 mX11_worlds.2.1 mX11_worlds.2.2.1 mX11_worlds.2.2.2.1 ∈ ab_Tg ∧ Cond.initialized mX11_worlds.1.cls ∈ ab_Tg ∧ (mX11_worlds.1.cls ≠ "java/lang/invoke/MethodHandle" ∧ mX11_worlds.1.cls ≠ "java/lang/invoke/VarHandle" ∧ (parseMethodDescriptor mX11_worlds.1.desc).map (fun d => d.parameters.length) = some 1) := ⟨tw_623, tw_45, by decide +kernel, by decide +kernel, by decide +kernel⟩
theorem zc_X11_many : Cond.code mX11_many.1 mX11_many.2.1 mX11_many.2.2.1 mX11_many.2.2.2.1 ∈ ab_Tg ∧ Cond.initialized mX11_many.1.cls ∈ ab_Tg ∧ (mX11_many.1.cls ≠ "java/lang/invoke/MethodHandle" ∧ mX11_many.1.cls ≠ "java/lang/invoke/VarHandle" ∧ (parseMethodDescriptor mX11_many.1.desc).map (fun d => d.parameters.length) = some 1) := ⟨tw_651, tw_45, by decide +kernel, by decide +kernel, by decide +kernel⟩
theorem zc_X11_proved : Cond.code mX11_proved.1 mX11_proved.2.1 mX11_proved.2.2.1 mX11_proved.2.2.2.1 ∈ ab_Tg ∧ Cond.initialized mX11_proved.1.cls ∈ ab_Tg ∧ (mX11_proved.1.cls ≠ "java/lang/invoke/MethodHandle" ∧ mX11_proved.1.cls ≠ "java/lang/invoke/VarHandle" ∧ (parseMethodDescriptor mX11_proved.1.desc).map (fun d => d.parameters.length) = some 1) := ⟨tw_661, tw_45, by decide +kernel, by decide +kernel, by decide +kernel⟩
theorem zc_X11_slips : Cond.code mX11_slips.1 mX11_slips.2.1 mX11_slips.2.2.1 mX11_slips.2.2.2.1 ∈ ab_Tg ∧ Cond.initialized mX11_slips.1.cls ∈ ab_Tg ∧ (mX11_slips.1.cls ≠ "java/lang/invoke/MethodHandle" ∧ mX11_slips.1.cls ≠ "java/lang/invoke/VarHandle" ∧ (parseMethodDescriptor mX11_slips.1.desc).map (fun d => d.parameters.length) = some 1) := ⟨tw_675, tw_45, by decide +kernel, by decide +kernel, by decide +kernel⟩
theorem zc_X11_alone : Cond.code mX11_alone.1 mX11_alone.2.1 mX11_alone.2.2.1 mX11_alone.2.2.2.1 ∈ ab_Tg ∧ Cond.initialized mX11_alone.1.cls ∈ ab_Tg ∧ (mX11_alone.1.cls ≠ "java/lang/invoke/MethodHandle" ∧ mX11_alone.1.cls ≠ "java/lang/invoke/VarHandle" ∧ (parseMethodDescriptor mX11_alone.1.desc).map (fun d => d.parameters.length) = some 1) := ⟨tw_688, tw_45, by decide +kernel, by decide +kernel, by decide +kernel⟩
theorem zc_X11_clash : Cond.code mX11_clash.1 mX11_clash.2.1 mX11_clash.2.2.1 mX11_clash.2.2.2.1 ∈ ab_Tg ∧ Cond.initialized mX11_clash.1.cls ∈ ab_Tg ∧ (mX11_clash.1.cls ≠ "java/lang/invoke/MethodHandle" ∧ mX11_clash.1.cls ≠ "java/lang/invoke/VarHandle" ∧ (parseMethodDescriptor mX11_clash.1.desc).map (fun d => d.parameters.length) = some 0) := ⟨tw_693, tw_45, by decide +kernel, by decide +kernel, by decide +kernel⟩
theorem zc_X11_proof : Cond.code mX11_proof.1 mX11_proof.2.1 mX11_proof.2.2.1 mX11_proof.2.2.2.1 ∈ ab_Tg ∧ Cond.initialized mX11_proof.1.cls ∈ ab_Tg ∧ (mX11_proof.1.cls ≠ "java/lang/invoke/MethodHandle" ∧ mX11_proof.1.cls ≠ "java/lang/invoke/VarHandle" ∧ (parseMethodDescriptor mX11_proof.1.desc).map (fun d => d.parameters.length) = some 1) := ⟨tw_697, tw_45, by decide +kernel, by decide +kernel, by decide +kernel⟩
theorem zc_X11_slipped : Cond.code mX11_slipped.1 mX11_slipped.2.1 mX11_slipped.2.2.1 mX11_slipped.2.2.2.1 ∈ ab_Tg ∧ Cond.initialized mX11_slipped.1.cls ∈ ab_Tg ∧ (mX11_slipped.1.cls ≠ "java/lang/invoke/MethodHandle" ∧ mX11_slipped.1.cls ≠ "java/lang/invoke/VarHandle" ∧ (parseMethodDescriptor mX11_slipped.1.desc).map (fun d => d.parameters.length) = some 0) := ⟨tw_711, tw_45, by decide +kernel, by decide +kernel, by decide +kernel⟩
theorem zc_X11_ask : Cond.code mX11_ask.1 mX11_ask.2.1 mX11_ask.2.2.1 mX11_ask.2.2.2.1 ∈ ab_Tg ∧ Cond.initialized mX11_ask.1.cls ∈ ab_Tg ∧ (mX11_ask.1.cls ≠ "java/lang/invoke/MethodHandle" ∧ mX11_ask.1.cls ≠ "java/lang/invoke/VarHandle" ∧ (parseMethodDescriptor mX11_ask.1.desc).map (fun d => d.parameters.length) = some 0) := ⟨tw_715, tw_45, by decide +kernel, by decide +kernel, by decide +kernel⟩
theorem zc_X11_plain : Cond.code mX11_plain.1 mX11_plain.2.1 mX11_plain.2.2.1 mX11_plain.2.2.2.1 ∈ ab_Tg ∧ Cond.initialized mX11_plain.1.cls ∈ ab_Tg ∧ (mX11_plain.1.cls ≠ "java/lang/invoke/MethodHandle" ∧ mX11_plain.1.cls ≠ "java/lang/invoke/VarHandle" ∧ (parseMethodDescriptor mX11_plain.1.desc).map (fun d => d.parameters.length) = some 0) := ⟨tw_720, tw_45, by decide +kernel, by decide +kernel, by decide +kernel⟩
theorem zc_X11_order : Cond.code mX11_order.1 mX11_order.2.1 mX11_order.2.2.1 mX11_order.2.2.2.1 ∈ ab_Tg ∧ Cond.initialized mX11_order.1.cls ∈ ab_Tg ∧ (mX11_order.1.cls ≠ "java/lang/invoke/MethodHandle" ∧ mX11_order.1.cls ≠ "java/lang/invoke/VarHandle" ∧ (parseMethodDescriptor mX11_order.1.desc).map (fun d => d.parameters.length) = some 1) := ⟨tw_733, tw_45, by decide +kernel, by decide +kernel, by decide +kernel⟩
theorem zc_X11_without : Cond.code mX11_without.1 mX11_without.2.1 mX11_without.2.2.1 mX11_without.2.2.2.1 ∈ ab_Tg ∧ Cond.initialized mX11_without.1.cls ∈ ab_Tg ∧ (mX11_without.1.cls ≠ "java/lang/invoke/MethodHandle" ∧ mX11_without.1.cls ≠ "java/lang/invoke/VarHandle" ∧ (parseMethodDescriptor mX11_without.1.desc).map (fun d => d.parameters.length) = some 1) := ⟨tw_747, tw_45, by decide +kernel, by decide +kernel, by decide +kernel⟩
theorem zc_X11_lie : Cond.code mX11_lie.1 mX11_lie.2.1 mX11_lie.2.2.1 mX11_lie.2.2.2.1 ∈ ab_Tg ∧ Cond.initialized mX11_lie.1.cls ∈ ab_Tg ∧ (mX11_lie.1.cls ≠ "java/lang/invoke/MethodHandle" ∧ mX11_lie.1.cls ≠ "java/lang/invoke/VarHandle" ∧ (parseMethodDescriptor mX11_lie.1.desc).map (fun d => d.parameters.length) = some 2) := ⟨tw_752, tw_45, by decide +kernel, by decide +kernel, by decide +kernel⟩
theorem zc_X11_twoLies : Cond.code mX11_twoLies.1 mX11_twoLies.2.1 mX11_twoLies.2.2.1 mX11_twoLies.2.2.2.1 ∈ ab_Tg ∧ Cond.initialized mX11_twoLies.1.cls ∈ ab_Tg ∧ (mX11_twoLies.1.cls ≠ "java/lang/invoke/MethodHandle" ∧ mX11_twoLies.1.cls ≠ "java/lang/invoke/VarHandle" ∧ (parseMethodDescriptor mX11_twoLies.1.desc).map (fun d => d.parameters.length) = some 2) := ⟨tw_772, tw_45, by decide +kernel, by decide +kernel, by decide +kernel⟩
theorem zc_X11_tells : Cond.code mX11_tells.1 mX11_tells.2.1 mX11_tells.2.2.1 mX11_tells.2.2.2.1 ∈ ab_Tg ∧ Cond.initialized mX11_tells.1.cls ∈ ab_Tg ∧ (mX11_tells.1.cls ≠ "java/lang/invoke/MethodHandle" ∧ mX11_tells.1.cls ≠ "java/lang/invoke/VarHandle" ∧ (parseMethodDescriptor mX11_tells.1.desc).map (fun d => d.parameters.length) = some 3) := ⟨tw_783, tw_45, by decide +kernel, by decide +kernel, by decide +kernel⟩
theorem zc_X11_verdict : Cond.code mX11_verdict.1 mX11_verdict.2.1 mX11_verdict.2.2.1 mX11_verdict.2.2.2.1 ∈ ab_Tg ∧ Cond.initialized mX11_verdict.1.cls ∈ ab_Tg ∧ (mX11_verdict.1.cls ≠ "java/lang/invoke/MethodHandle" ∧ mX11_verdict.1.cls ≠ "java/lang/invoke/VarHandle" ∧ (parseMethodDescriptor mX11_verdict.1.desc).map (fun d => d.parameters.length) = some 0) := ⟨tw_787, tw_45, by decide +kernel, by decide +kernel, by decide +kernel⟩
theorem zc_X11_certain : Cond.code mX11_certain.1 mX11_certain.2.1 mX11_certain.2.2.1 mX11_certain.2.2.2.1 ∈ ab_Tg ∧ Cond.initialized mX11_certain.1.cls ∈ ab_Tg ∧ (mX11_certain.1.cls ≠ "java/lang/invoke/MethodHandle" ∧ mX11_certain.1.cls ≠ "java/lang/invoke/VarHandle" ∧ (parseMethodDescriptor mX11_certain.1.desc).map (fun d => d.parameters.length) = some 1) := ⟨tw_792, tw_45, by decide +kernel, by decide +kernel, by decide +kernel⟩
theorem zc_X11_knowsOf : Cond.code mX11_knowsOf.1 mX11_knowsOf.2.1 mX11_knowsOf.2.2.1 mX11_knowsOf.2.2.2.1 ∈ ab_Tg ∧ Cond.initialized mX11_knowsOf.1.cls ∈ ab_Tg ∧ (mX11_knowsOf.1.cls ≠ "java/lang/invoke/MethodHandle" ∧ mX11_knowsOf.1.cls ≠ "java/lang/invoke/VarHandle" ∧ (parseMethodDescriptor mX11_knowsOf.1.desc).map (fun d => d.parameters.length) = some 2) := ⟨tw_802, tw_45, by decide +kernel, by decide +kernel, by decide +kernel⟩
theorem zc_X11_allKnow : Cond.code mX11_allKnow.1 mX11_allKnow.2.1 mX11_allKnow.2.2.1 mX11_allKnow.2.2.2.1 ∈ ab_Tg ∧ Cond.initialized mX11_allKnow.1.cls ∈ ab_Tg ∧ (mX11_allKnow.1.cls ≠ "java/lang/invoke/MethodHandle" ∧ mX11_allKnow.1.cls ≠ "java/lang/invoke/VarHandle" ∧ (parseMethodDescriptor mX11_allKnow.1.desc).map (fun d => d.parameters.length) = some 1) := ⟨tw_806, tw_45, by decide +kernel, by decide +kernel, by decide +kernel⟩
theorem zc_X11_pencils : Cond.code mX11_pencils.1 mX11_pencils.2.1 mX11_pencils.2.2.1 mX11_pencils.2.2.2.1 ∈ ab_Tg ∧ Cond.initialized mX11_pencils.1.cls ∈ ab_Tg ∧ (mX11_pencils.1.cls ≠ "java/lang/invoke/MethodHandle" ∧ mX11_pencils.1.cls ≠ "java/lang/invoke/VarHandle" ∧ (parseMethodDescriptor mX11_pencils.1.desc).map (fun d => d.parameters.length) = some 3) := ⟨tw_815, tw_45, by decide +kernel, by decide +kernel, by decide +kernel⟩
theorem zc_X11_fits : Cond.code mX11_fits.1 mX11_fits.2.1 mX11_fits.2.2.1 mX11_fits.2.2.2.1 ∈ ab_Tg ∧ Cond.initialized mX11_fits.1.cls ∈ ab_Tg ∧ (mX11_fits.1.cls ≠ "java/lang/invoke/MethodHandle" ∧ mX11_fits.1.cls ≠ "java/lang/invoke/VarHandle" ∧ (parseMethodDescriptor mX11_fits.1.desc).map (fun d => d.parameters.length) = some 1) := ⟨tw_828, tw_45, by decide +kernel, by decide +kernel, by decide +kernel⟩
theorem zc_X11_judge : Cond.code mX11_judge.1 mX11_judge.2.1 mX11_judge.2.2.1 mX11_judge.2.2.2.1 ∈ ab_Tg ∧ Cond.initialized mX11_judge.1.cls ∈ ab_Tg ∧ (mX11_judge.1.cls ≠ "java/lang/invoke/MethodHandle" ∧ mX11_judge.1.cls ≠ "java/lang/invoke/VarHandle" ∧ (parseMethodDescriptor mX11_judge.1.desc).map (fun d => d.parameters.length) = some 1) := ⟨tw_843, tw_45, by decide +kernel, by decide +kernel, by decide +kernel⟩
theorem zc_X11_seeds : Cond.code mX11_seeds.1 mX11_seeds.2.1 mX11_seeds.2.2.1 mX11_seeds.2.2.2.1 ∈ ab_Tg ∧ Cond.initialized mX11_seeds.1.cls ∈ ab_Tg ∧ (mX11_seeds.1.cls ≠ "java/lang/invoke/MethodHandle" ∧ mX11_seeds.1.cls ≠ "java/lang/invoke/VarHandle" ∧ (parseMethodDescriptor mX11_seeds.1.desc).map (fun d => d.parameters.length) = some 3) := ⟨tw_847, tw_45, by decide +kernel, by decide +kernel, by decide +kernel⟩
theorem zc_X11_image : Cond.code mX11_image.1 mX11_image.2.1 mX11_image.2.2.1 mX11_image.2.2.2.1 ∈ ab_Tg ∧ Cond.initialized mX11_image.1.cls ∈ ab_Tg ∧ (mX11_image.1.cls ≠ "java/lang/invoke/MethodHandle" ∧ mX11_image.1.cls ≠ "java/lang/invoke/VarHandle" ∧ (parseMethodDescriptor mX11_image.1.desc).map (fun d => d.parameters.length) = some 0) := ⟨tw_866, tw_45, by decide +kernel, by decide +kernel, by decide +kernel⟩
theorem zc_X11_restore : Cond.code mX11_restore.1 mX11_restore.2.1 mX11_restore.2.2.1 mX11_restore.2.2.2.1 ∈ ab_Tg ∧ Cond.initialized mX11_restore.1.cls ∈ ab_Tg ∧ (mX11_restore.1.cls ≠ "java/lang/invoke/MethodHandle" ∧ mX11_restore.1.cls ≠ "java/lang/invoke/VarHandle" ∧ (parseMethodDescriptor mX11_restore.1.desc).map (fun d => d.parameters.length) = some 0) := ⟨tw_870, tw_45, by decide +kernel, by decide +kernel, by decide +kernel⟩
theorem zc_X11_count : Cond.code mX11_count.1 mX11_count.2.1 mX11_count.2.2.1 mX11_count.2.2.2.1 ∈ ab_Tg ∧ Cond.initialized mX11_count.1.cls ∈ ab_Tg ∧ (mX11_count.1.cls ≠ "java/lang/invoke/MethodHandle" ∧ mX11_count.1.cls ≠ "java/lang/invoke/VarHandle" ∧ (parseMethodDescriptor mX11_count.1.desc).map (fun d => d.parameters.length) = some 1) := ⟨tw_874, tw_45, by decide +kernel, by decide +kernel, by decide +kernel⟩
theorem zc_X11_keep : Cond.code mX11_keep.1 mX11_keep.2.1 mX11_keep.2.2.1 mX11_keep.2.2.2.1 ∈ ab_Tg ∧ Cond.initialized mX11_keep.1.cls ∈ ab_Tg ∧ (mX11_keep.1.cls ≠ "java/lang/invoke/MethodHandle" ∧ mX11_keep.1.cls ≠ "java/lang/invoke/VarHandle" ∧ (parseMethodDescriptor mX11_keep.1.desc).map (fun d => d.parameters.length) = some 4) := ⟨tw_883, tw_45, by decide +kernel, by decide +kernel, by decide +kernel⟩
theorem zc_X11_row : Cond.code mX11_row.1 mX11_row.2.1 mX11_row.2.2.1 mX11_row.2.2.2.1 ∈ ab_Tg ∧ Cond.initialized mX11_row.1.cls ∈ ab_Tg ∧ (mX11_row.1.cls ≠ "java/lang/invoke/MethodHandle" ∧ mX11_row.1.cls ≠ "java/lang/invoke/VarHandle" ∧ (parseMethodDescriptor mX11_row.1.desc).map (fun d => d.parameters.length) = some 3) := ⟨tw_895, tw_45, by decide +kernel, by decide +kernel, by decide +kernel⟩
theorem zc_X11_put : Cond.code mX11_put.1 mX11_put.2.1 mX11_put.2.2.1 mX11_put.2.2.2.1 ∈ ab_Tg ∧ Cond.initialized mX11_put.1.cls ∈ ab_Tg ∧ (mX11_put.1.cls ≠ "java/lang/invoke/MethodHandle" ∧ mX11_put.1.cls ≠ "java/lang/invoke/VarHandle" ∧ (parseMethodDescriptor mX11_put.1.desc).map (fun d => d.parameters.length) = some 3) := ⟨tw_903, tw_45, by decide +kernel, by decide +kernel, by decide +kernel⟩
theorem zc_X11_element : Cond.code mX11_element.1 mX11_element.2.1 mX11_element.2.2.1 mX11_element.2.2.2.1 ∈ ab_Tg ∧ Cond.initialized mX11_element.1.cls ∈ ab_Tg ∧ (mX11_element.1.cls ≠ "java/lang/invoke/MethodHandle" ∧ mX11_element.1.cls ≠ "java/lang/invoke/VarHandle" ∧ (parseMethodDescriptor mX11_element.1.desc).map (fun d => d.parameters.length) = some 2) := ⟨tw_1046, tw_45, by decide +kernel, by decide +kernel, by decide +kernel⟩
theorem zc_X11_copy : Cond.code mX11_copy.1 mX11_copy.2.1 mX11_copy.2.2.1 mX11_copy.2.2.2.1 ∈ ab_Tg ∧ Cond.initialized mX11_copy.1.cls ∈ ab_Tg ∧ (mX11_copy.1.cls ≠ "java/lang/invoke/MethodHandle" ∧ mX11_copy.1.cls ≠ "java/lang/invoke/VarHandle" ∧ (parseMethodDescriptor mX11_copy.1.desc).map (fun d => d.parameters.length) = some 5) := ⟨tw_914, tw_45, by decide +kernel, by decide +kernel, by decide +kernel⟩
theorem zc_X11_cost : Cond.code mX11_cost.1 mX11_cost.2.1 mX11_cost.2.2.1 mX11_cost.2.2.2.1 ∈ ab_Tg ∧ Cond.initialized mX11_cost.1.cls ∈ ab_Tg ∧ (mX11_cost.1.cls ≠ "java/lang/invoke/MethodHandle" ∧ mX11_cost.1.cls ≠ "java/lang/invoke/VarHandle" ∧ (parseMethodDescriptor mX11_cost.1.desc).map (fun d => d.parameters.length) = some 1) := ⟨tw_921, tw_45, by decide +kernel, by decide +kernel, by decide +kernel⟩
theorem zc_X11_isFact : Cond.code mX11_isFact.1 mX11_isFact.2.1 mX11_isFact.2.2.1 mX11_isFact.2.2.2.1 ∈ ab_Tg ∧ Cond.initialized mX11_isFact.1.cls ∈ ab_Tg ∧ (mX11_isFact.1.cls ≠ "java/lang/invoke/MethodHandle" ∧ mX11_isFact.1.cls ≠ "java/lang/invoke/VarHandle" ∧ (parseMethodDescriptor mX11_isFact.1.desc).map (fun d => d.parameters.length) = some 1) := ⟨tw_384, tw_45, by decide +kernel, by decide +kernel, by decide +kernel⟩
theorem zc_X11_areFacts : Cond.code mX11_areFacts.1 mX11_areFacts.2.1 mX11_areFacts.2.2.1 mX11_areFacts.2.2.2.1 ∈ ab_Tg ∧ Cond.initialized mX11_areFacts.1.cls ∈ ab_Tg ∧ (mX11_areFacts.1.cls ≠ "java/lang/invoke/MethodHandle" ∧ mX11_areFacts.1.cls ≠ "java/lang/invoke/VarHandle" ∧ (parseMethodDescriptor mX11_areFacts.1.desc).map (fun d => d.parameters.length) = some 1) := ⟨tw_469, tw_45, by decide +kernel, by decide +kernel, by decide +kernel⟩
theorem zc_X11_isWorld : Cond.code mX11_isWorld.1 mX11_isWorld.2.1 mX11_isWorld.2.2.1 mX11_isWorld.2.2.2.1 ∈ ab_Tg ∧ Cond.initialized mX11_isWorld.1.cls ∈ ab_Tg ∧ (mX11_isWorld.1.cls ≠ "java/lang/invoke/MethodHandle" ∧ mX11_isWorld.1.cls ≠ "java/lang/invoke/VarHandle" ∧ (parseMethodDescriptor mX11_isWorld.1.desc).map (fun d => d.parameters.length) = some 1) := ⟨tw_476, tw_45, by decide +kernel, by decide +kernel, by decide +kernel⟩
theorem zc_X11_isEitherOr : Cond.code mX11_isEitherOr.1 mX11_isEitherOr.2.1 mX11_isEitherOr.2.2.1 mX11_isEitherOr.2.2.2.1 ∈ ab_Tg ∧ Cond.initialized mX11_isEitherOr.1.cls ∈ ab_Tg ∧ (mX11_isEitherOr.1.cls ≠ "java/lang/invoke/MethodHandle" ∧ mX11_isEitherOr.1.cls ≠ "java/lang/invoke/VarHandle" ∧ (parseMethodDescriptor mX11_isEitherOr.1.desc).map (fun d => d.parameters.length) = some 1) := ⟨tw_626, tw_45, by decide +kernel, by decide +kernel, by decide +kernel⟩
theorem zc_X11_oneIf : Cond.code mX11_oneIf.1 mX11_oneIf.2.1 mX11_oneIf.2.2.1 mX11_oneIf.2.2.2.1 ∈ ab_Tg ∧ Cond.initialized mX11_oneIf.1.cls ∈ ab_Tg ∧ (mX11_oneIf.1.cls ≠ "java/lang/invoke/MethodHandle" ∧ mX11_oneIf.1.cls ≠ "java/lang/invoke/VarHandle" ∧ (parseMethodDescriptor mX11_oneIf.1.desc).map (fun d => d.parameters.length) = some 1) := ⟨tw_570, tw_45, by decide +kernel, by decide +kernel, by decide +kernel⟩
theorem zc_X11_refusedLong : Cond.code mX11_refusedLong.1 mX11_refusedLong.2.1 mX11_refusedLong.2.2.1 mX11_refusedLong.2.2.2.1 ∈ ab_Tg ∧ Cond.initialized mX11_refusedLong.1.cls ∈ ab_Tg ∧ (mX11_refusedLong.1.cls ≠ "java/lang/invoke/MethodHandle" ∧ mX11_refusedLong.1.cls ≠ "java/lang/invoke/VarHandle" ∧ (parseMethodDescriptor mX11_refusedLong.1.desc).map (fun d => d.parameters.length) = some 1) := ⟨tw_646, tw_45, by decide +kernel, by decide +kernel, by decide +kernel⟩
theorem zc_X11_shelfAt : Cond.code mX11_shelfAt.1 mX11_shelfAt.2.1 mX11_shelfAt.2.2.1 mX11_shelfAt.2.2.2.1 ∈ ab_Tg ∧ Cond.initialized mX11_shelfAt.1.cls ∈ ab_Tg ∧ (mX11_shelfAt.1.cls ≠ "java/lang/invoke/MethodHandle" ∧ mX11_shelfAt.1.cls ≠ "java/lang/invoke/VarHandle" ∧ (parseMethodDescriptor mX11_shelfAt.1.desc).map (fun d => d.parameters.length) = some 1) := ⟨tw_301, tw_45, by decide +kernel, by decide +kernel, by decide +kernel⟩
theorem zc_X11_kindNumbered : Cond.code mX11_kindNumbered.1 mX11_kindNumbered.2.1 mX11_kindNumbered.2.2.1 mX11_kindNumbered.2.2.2.1 ∈ ab_Tg ∧ Cond.initialized mX11_kindNumbered.1.cls ∈ ab_Tg ∧ (mX11_kindNumbered.1.cls ≠ "java/lang/invoke/MethodHandle" ∧ mX11_kindNumbered.1.cls ≠ "java/lang/invoke/VarHandle" ∧ (parseMethodDescriptor mX11_kindNumbered.1.desc).map (fun d => d.parameters.length) = some 1) := ⟨tw_379, tw_45, by decide +kernel, by decide +kernel, by decide +kernel⟩
theorem zc_X11_sayingIn : Cond.code mX11_sayingIn.1 mX11_sayingIn.2.1 mX11_sayingIn.2.2.1 mX11_sayingIn.2.2.2.1 ∈ ab_Tg ∧ Cond.initialized mX11_sayingIn.1.cls ∈ ab_Tg ∧ (mX11_sayingIn.1.cls ≠ "java/lang/invoke/MethodHandle" ∧ mX11_sayingIn.1.cls ≠ "java/lang/invoke/VarHandle" ∧ (parseMethodDescriptor mX11_sayingIn.1.desc).map (fun d => d.parameters.length) = some 2) := ⟨tw_491, tw_45, by decide +kernel, by decide +kernel, by decide +kernel⟩
theorem zc_X11_newSaying : Cond.code mX11_newSaying.1 mX11_newSaying.2.1 mX11_newSaying.2.2.1 mX11_newSaying.2.2.2.1 ∈ ab_Tg ∧ Cond.initialized mX11_newSaying.1.cls ∈ ab_Tg ∧ (mX11_newSaying.1.cls ≠ "java/lang/invoke/MethodHandle" ∧ mX11_newSaying.1.cls ≠ "java/lang/invoke/VarHandle" ∧ (parseMethodDescriptor mX11_newSaying.1.desc).map (fun d => d.parameters.length) = some 5) := ⟨tw_387, tw_45, by decide +kernel, by decide +kernel, by decide +kernel⟩
theorem zc_X11_worldsWith : Cond.code mX11_worldsWith.1 mX11_worldsWith.2.1 mX11_worldsWith.2.2.1 mX11_worldsWith.2.2.2.1 ∈ ab_Tg ∧ Cond.initialized mX11_worldsWith.1.cls ∈ ab_Tg ∧ (mX11_worldsWith.1.cls ≠ "java/lang/invoke/MethodHandle" ∧ mX11_worldsWith.1.cls ≠ "java/lang/invoke/VarHandle" ∧ (parseMethodDescriptor mX11_worldsWith.1.desc).map (fun d => d.parameters.length) = some 1) := ⟨tw_404, tw_45, by decide +kernel, by decide +kernel, by decide +kernel⟩
theorem zc_X11_factBit : Cond.code mX11_factBit.1 mX11_factBit.2.1 mX11_factBit.2.2.1 mX11_factBit.2.2.2.1 ∈ ab_Tg ∧ Cond.initialized mX11_factBit.1.cls ∈ ab_Tg ∧ (mX11_factBit.1.cls ≠ "java/lang/invoke/MethodHandle" ∧ mX11_factBit.1.cls ≠ "java/lang/invoke/VarHandle" ∧ (parseMethodDescriptor mX11_factBit.1.desc).map (fun d => d.parameters.length) = some 1) := ⟨tw_547, tw_45, by decide +kernel, by decide +kernel, by decide +kernel⟩
theorem zc_X11_hasWorld : Cond.code mX11_hasWorld.1 mX11_hasWorld.2.1 mX11_hasWorld.2.2.1 mX11_hasWorld.2.2.2.1 ∈ ab_Tg ∧ Cond.initialized mX11_hasWorld.1.cls ∈ ab_Tg ∧ (mX11_hasWorld.1.cls ≠ "java/lang/invoke/MethodHandle" ∧ mX11_hasWorld.1.cls ≠ "java/lang/invoke/VarHandle" ∧ (parseMethodDescriptor mX11_hasWorld.1.desc).map (fun d => d.parameters.length) = some 2) := ⟨tw_567, tw_45, by decide +kernel, by decide +kernel, by decide +kernel⟩
theorem zc_X11_factsOfAll : Cond.code mX11_factsOfAll.1 mX11_factsOfAll.2.1 mX11_factsOfAll.2.2.1 mX11_factsOfAll.2.2.2.1 ∈ ab_Tg ∧ Cond.initialized mX11_factsOfAll.1.cls ∈ ab_Tg ∧ (mX11_factsOfAll.1.cls ≠ "java/lang/invoke/MethodHandle" ∧ mX11_factsOfAll.1.cls ≠ "java/lang/invoke/VarHandle" ∧ (parseMethodDescriptor mX11_factsOfAll.1.desc).map (fun d => d.parameters.length) = some 1) := ⟨tw_665, tw_45, by decide +kernel, by decide +kernel, by decide +kernel⟩
theorem zc_X11_factsOfNone : Cond.code mX11_factsOfNone.1 mX11_factsOfNone.2.1 mX11_factsOfNone.2.2.1 mX11_factsOfNone.2.2.2.1 ∈ ab_Tg ∧ Cond.initialized mX11_factsOfNone.1.cls ∈ ab_Tg ∧ (mX11_factsOfNone.1.cls ≠ "java/lang/invoke/MethodHandle" ∧ mX11_factsOfNone.1.cls ≠ "java/lang/invoke/VarHandle" ∧ (parseMethodDescriptor mX11_factsOfNone.1.desc).map (fun d => d.parameters.length) = some 1) := ⟨tw_671, tw_45, by decide +kernel, by decide +kernel, by decide +kernel⟩
theorem zc_X11_factsAlike : Cond.code mX11_factsAlike.1 mX11_factsAlike.2.1 mX11_factsAlike.2.2.1 mX11_factsAlike.2.2.2.1 ∈ ab_Tg ∧ Cond.initialized mX11_factsAlike.1.cls ∈ ab_Tg ∧ (mX11_factsAlike.1.cls ≠ "java/lang/invoke/MethodHandle" ∧ mX11_factsAlike.1.cls ≠ "java/lang/invoke/VarHandle" ∧ (parseMethodDescriptor mX11_factsAlike.1.desc).map (fun d => d.parameters.length) = some 1) := ⟨tw_798, tw_45, by decide +kernel, by decide +kernel, by decide +kernel⟩
theorem zc_X11_isProvedBy : Cond.code mX11_isProvedBy.1 mX11_isProvedBy.2.1 mX11_isProvedBy.2.2.1 mX11_isProvedBy.2.2.2.1 ∈ ab_Tg ∧ Cond.initialized mX11_isProvedBy.1.cls ∈ ab_Tg ∧ (mX11_isProvedBy.1.cls ≠ "java/lang/invoke/MethodHandle" ∧ mX11_isProvedBy.1.cls ≠ "java/lang/invoke/VarHandle" ∧ (parseMethodDescriptor mX11_isProvedBy.1.desc).map (fun d => d.parameters.length) = some 2) := ⟨tw_707, tw_45, by decide +kernel, by decide +kernel, by decide +kernel⟩
theorem zc_X11_likeInKnown : Cond.code mX11_likeInKnown.1 mX11_likeInKnown.2.1 mX11_likeInKnown.2.2.1 mX11_likeInKnown.2.2.2.1 ∈ ab_Tg ∧ Cond.initialized mX11_likeInKnown.1.cls ∈ ab_Tg ∧ (mX11_likeInKnown.1.cls ≠ "java/lang/invoke/MethodHandle" ∧ mX11_likeInKnown.1.cls ≠ "java/lang/invoke/VarHandle" ∧ (parseMethodDescriptor mX11_likeInKnown.1.desc).map (fun d => d.parameters.length) = some 3) := ⟨tw_795, tw_45, by decide +kernel, by decide +kernel, by decide +kernel⟩
theorem zc_X11_brokenPlace : Cond.code mX11_brokenPlace.1 mX11_brokenPlace.2.1 mX11_brokenPlace.2.2.1 mX11_brokenPlace.2.2.2.1 ∈ ab_Tg ∧ Cond.initialized mX11_brokenPlace.1.cls ∈ ab_Tg ∧ (mX11_brokenPlace.1.cls ≠ "java/lang/invoke/MethodHandle" ∧ mX11_brokenPlace.1.cls ≠ "java/lang/invoke/VarHandle" ∧ (parseMethodDescriptor mX11_brokenPlace.1.desc).map (fun d => d.parameters.length) = some 1) := ⟨tw_315, tw_45, by decide +kernel, by decide +kernel, by decide +kernel⟩
theorem zc_X11_digitsBehind : Cond.code mX11_digitsBehind.1 mX11_digitsBehind.2.1 mX11_digitsBehind.2.2.1 mX11_digitsBehind.2.2.2.1 ∈ ab_Tg ∧ Cond.initialized mX11_digitsBehind.1.cls ∈ ab_Tg ∧ (mX11_digitsBehind.1.cls ≠ "java/lang/invoke/MethodHandle" ∧ mX11_digitsBehind.1.cls ≠ "java/lang/invoke/VarHandle" ∧ (parseMethodDescriptor mX11_digitsBehind.1.desc).map (fun d => d.parameters.length) = some 1) := ⟨tw_326, tw_45, by decide +kernel, by decide +kernel, by decide +kernel⟩
theorem zc_X11_isDigit : Cond.code mX11_isDigit.1 mX11_isDigit.2.1 mX11_isDigit.2.2.1 mX11_isDigit.2.2.2.1 ∈ ab_Tg ∧ Cond.initialized mX11_isDigit.1.cls ∈ ab_Tg ∧ (mX11_isDigit.1.cls ≠ "java/lang/invoke/MethodHandle" ∧ mX11_isDigit.1.cls ≠ "java/lang/invoke/VarHandle" ∧ (parseMethodDescriptor mX11_isDigit.1.desc).map (fun d => d.parameters.length) = some 1) := ⟨tw_329, tw_45, by decide +kernel, by decide +kernel, by decide +kernel⟩
theorem zc_X11_digitAt : Cond.code mX11_digitAt.1 mX11_digitAt.2.1 mX11_digitAt.2.2.1 mX11_digitAt.2.2.2.1 ∈ ab_Tg ∧ Cond.initialized mX11_digitAt.1.cls ∈ ab_Tg ∧ (mX11_digitAt.1.cls ≠ "java/lang/invoke/MethodHandle" ∧ mX11_digitAt.1.cls ≠ "java/lang/invoke/VarHandle" ∧ (parseMethodDescriptor mX11_digitAt.1.desc).map (fun d => d.parameters.length) = some 2) := ⟨tw_376, tw_45, by decide +kernel, by decide +kernel, by decide +kernel⟩
theorem zc_X11_twoDigitsAt : Cond.code mX11_twoDigitsAt.1 mX11_twoDigitsAt.2.1 mX11_twoDigitsAt.2.2.1 mX11_twoDigitsAt.2.2.2.1 ∈ ab_Tg ∧ Cond.initialized mX11_twoDigitsAt.1.cls ∈ ab_Tg ∧ (mX11_twoDigitsAt.1.cls ≠ "java/lang/invoke/MethodHandle" ∧ mX11_twoDigitsAt.1.cls ≠ "java/lang/invoke/VarHandle" ∧ (parseMethodDescriptor mX11_twoDigitsAt.1.desc).map (fun d => d.parameters.length) = some 2) := ⟨tw_462, tw_45, by decide +kernel, by decide +kernel, by decide +kernel⟩
theorem zc_X11_enact : Cond.code mX11_enact.1 mX11_enact.2.1 mX11_enact.2.2.1 mX11_enact.2.2.2.1 ∈ ab_Tg ∧ Cond.initialized mX11_enact.1.cls ∈ ab_Tg ∧ (mX11_enact.1.cls ≠ "java/lang/invoke/MethodHandle" ∧ mX11_enact.1.cls ≠ "java/lang/invoke/VarHandle" ∧ (parseMethodDescriptor mX11_enact.1.desc).map (fun d => d.parameters.length) = some 1) := ⟨tw_332, tw_45, by decide +kernel, by decide +kernel, by decide +kernel⟩
theorem zc_X11_isEnacted : Cond.code mX11_isEnacted.1 mX11_isEnacted.2.1 mX11_isEnacted.2.2.1 mX11_isEnacted.2.2.2.1 ∈ ab_Tg ∧ Cond.initialized mX11_isEnacted.1.cls ∈ ab_Tg ∧ (mX11_isEnacted.1.cls ≠ "java/lang/invoke/MethodHandle" ∧ mX11_isEnacted.1.cls ≠ "java/lang/invoke/VarHandle" ∧ (parseMethodDescriptor mX11_isEnacted.1.desc).map (fun d => d.parameters.length) = some 2) := ⟨tw_370, tw_45, by decide +kernel, by decide +kernel, by decide +kernel⟩
theorem zc_X11_sayingAt : Cond.code mX11_sayingAt.1 mX11_sayingAt.2.1 mX11_sayingAt.2.2.1 mX11_sayingAt.2.2.2.1 ∈ ab_Tg ∧ Cond.initialized mX11_sayingAt.1.cls ∈ ab_Tg ∧ (mX11_sayingAt.1.cls ≠ "java/lang/invoke/MethodHandle" ∧ mX11_sayingAt.1.cls ≠ "java/lang/invoke/VarHandle" ∧ (parseMethodDescriptor mX11_sayingAt.1.desc).map (fun d => d.parameters.length) = some 3) := ⟨tw_373, tw_45, by decide +kernel, by decide +kernel, by decide +kernel⟩
theorem zc_X11_leastOrder : Cond.code mX11_leastOrder.1 mX11_leastOrder.2.1 mX11_leastOrder.2.2.1 mX11_leastOrder.2.2.2.1 ∈ ab_Tg ∧ Cond.initialized mX11_leastOrder.1.cls ∈ ab_Tg ∧ (mX11_leastOrder.1.cls ≠ "java/lang/invoke/MethodHandle" ∧ mX11_leastOrder.1.cls ≠ "java/lang/invoke/VarHandle" ∧ (parseMethodDescriptor mX11_leastOrder.1.desc).map (fun d => d.parameters.length) = some 1) := ⟨tw_737, tw_45, by decide +kernel, by decide +kernel, by decide +kernel⟩
theorem zc_X11_digitsWithAhead : Cond.code mX11_digitsWithAhead.1 mX11_digitsWithAhead.2.1 mX11_digitsWithAhead.2.2.1 mX11_digitsWithAhead.2.2.2.1 ∈ ab_Tg ∧ Cond.initialized mX11_digitsWithAhead.1.cls ∈ ab_Tg ∧ (mX11_digitsWithAhead.1.cls ≠ "java/lang/invoke/MethodHandle" ∧ mX11_digitsWithAhead.1.cls ≠ "java/lang/invoke/VarHandle" ∧ (parseMethodDescriptor mX11_digitsWithAhead.1.desc).map (fun d => d.parameters.length) = some 1) := ⟨tw_740, tw_45, by decide +kernel, by decide +kernel, by decide +kernel⟩
theorem zc_X11_digitsOf : Cond.code mX11_digitsOf.1 mX11_digitsOf.2.1 mX11_digitsOf.2.2.1 mX11_digitsOf.2.2.2.1 ∈ ab_Tg ∧ Cond.initialized mX11_digitsOf.1.cls ∈ ab_Tg ∧ (mX11_digitsOf.1.cls ≠ "java/lang/invoke/MethodHandle" ∧ mX11_digitsOf.1.cls ≠ "java/lang/invoke/VarHandle" ∧ (parseMethodDescriptor mX11_digitsOf.1.desc).map (fun d => d.parameters.length) = some 2) := ⟨tw_743, tw_45, by decide +kernel, by decide +kernel, by decide +kernel⟩
theorem zc_X11_kindOfCode : Cond.code mX11_kindOfCode.1 mX11_kindOfCode.2.1 mX11_kindOfCode.2.2.1 mX11_kindOfCode.2.2.2.1 ∈ ab_Tg ∧ Cond.initialized mX11_kindOfCode.1.cls ∈ ab_Tg ∧ (mX11_kindOfCode.1.cls ≠ "java/lang/invoke/MethodHandle" ∧ mX11_kindOfCode.1.cls ≠ "java/lang/invoke/VarHandle" ∧ (parseMethodDescriptor mX11_kindOfCode.1.desc).map (fun d => d.parameters.length) = some 1) := ⟨tw_758, tw_45, by decide +kernel, by decide +kernel, by decide +kernel⟩
theorem zc_X11_firstOfCode : Cond.code mX11_firstOfCode.1 mX11_firstOfCode.2.1 mX11_firstOfCode.2.2.1 mX11_firstOfCode.2.2.2.1 ∈ ab_Tg ∧ Cond.initialized mX11_firstOfCode.1.cls ∈ ab_Tg ∧ (mX11_firstOfCode.1.cls ≠ "java/lang/invoke/MethodHandle" ∧ mX11_firstOfCode.1.cls ≠ "java/lang/invoke/VarHandle" ∧ (parseMethodDescriptor mX11_firstOfCode.1.desc).map (fun d => d.parameters.length) = some 1) := ⟨tw_761, tw_45, by decide +kernel, by decide +kernel, by decide +kernel⟩
theorem zc_X11_secondOfCode : Cond.code mX11_secondOfCode.1 mX11_secondOfCode.2.1 mX11_secondOfCode.2.2.1 mX11_secondOfCode.2.2.2.1 ∈ ab_Tg ∧ Cond.initialized mX11_secondOfCode.1.cls ∈ ab_Tg ∧ (mX11_secondOfCode.1.cls ≠ "java/lang/invoke/MethodHandle" ∧ mX11_secondOfCode.1.cls ≠ "java/lang/invoke/VarHandle" ∧ (parseMethodDescriptor mX11_secondOfCode.1.desc).map (fun d => d.parameters.length) = some 1) := ⟨tw_764, tw_45, by decide +kernel, by decide +kernel, by decide +kernel⟩
theorem zc_X11_worldsOfCode : Cond.code mX11_worldsOfCode.1 mX11_worldsOfCode.2.1 mX11_worldsOfCode.2.2.1 mX11_worldsOfCode.2.2.2.1 ∈ ab_Tg ∧ Cond.initialized mX11_worldsOfCode.1.cls ∈ ab_Tg ∧ (mX11_worldsOfCode.1.cls ≠ "java/lang/invoke/MethodHandle" ∧ mX11_worldsOfCode.1.cls ≠ "java/lang/invoke/VarHandle" ∧ (parseMethodDescriptor mX11_worldsOfCode.1.desc).map (fun d => d.parameters.length) = some 1) := ⟨tw_768, tw_45, by decide +kernel, by decide +kernel, by decide +kernel⟩
theorem zc_X11_isLie : Cond.code mX11_isLie.1 mX11_isLie.2.1 mX11_isLie.2.2.1 mX11_isLie.2.2.2.1 ∈ ab_Tg ∧ Cond.initialized mX11_isLie.1.cls ∈ ab_Tg ∧ (mX11_isLie.1.cls ≠ "java/lang/invoke/MethodHandle" ∧ mX11_isLie.1.cls ≠ "java/lang/invoke/VarHandle" ∧ (parseMethodDescriptor mX11_isLie.1.desc).map (fun d => d.parameters.length) = some 2) := ⟨tw_755, tw_45, by decide +kernel, by decide +kernel, by decide +kernel⟩
theorem zc_X11_fillLies : Cond.code mX11_fillLies.1 mX11_fillLies.2.1 mX11_fillLies.2.2.1 mX11_fillLies.2.2.2.1 ∈ ab_Tg ∧ Cond.initialized mX11_fillLies.1.cls ∈ ab_Tg ∧ (mX11_fillLies.1.cls ≠ "java/lang/invoke/MethodHandle" ∧ mX11_fillLies.1.cls ≠ "java/lang/invoke/VarHandle" ∧ (parseMethodDescriptor mX11_fillLies.1.desc).map (fun d => d.parameters.length) = some 2) := ⟨tw_775, tw_45, by decide +kernel, by decide +kernel, by decide +kernel⟩
theorem zc_X11_mostLeft : Cond.code mX11_mostLeft.1 mX11_mostLeft.2.1 mX11_mostLeft.2.2.1 mX11_mostLeft.2.2.2.1 ∈ ab_Tg ∧ Cond.initialized mX11_mostLeft.1.cls ∈ ab_Tg ∧ (mX11_mostLeft.1.cls ≠ "java/lang/invoke/MethodHandle" ∧ mX11_mostLeft.1.cls ≠ "java/lang/invoke/VarHandle" ∧ (parseMethodDescriptor mX11_mostLeft.1.desc).map (fun d => d.parameters.length) = some 2) := ⟨tw_778, tw_45, by decide +kernel, by decide +kernel, by decide +kernel⟩
theorem zc_X11_power : Cond.code mX11_power.1 mX11_power.2.1 mX11_power.2.2.1 mX11_power.2.2.2.1 ∈ ab_Tg ∧ Cond.initialized mX11_power.1.cls ∈ ab_Tg ∧ (mX11_power.1.cls ≠ "java/lang/invoke/MethodHandle" ∧ mX11_power.1.cls ≠ "java/lang/invoke/VarHandle" ∧ (parseMethodDescriptor mX11_power.1.desc).map (fun d => d.parameters.length) = some 2) := ⟨tw_821, tw_45, by decide +kernel, by decide +kernel, by decide +kernel⟩
theorem zc_X11_waysToChoose : Cond.code mX11_waysToChoose.1 mX11_waysToChoose.2.1 mX11_waysToChoose.2.2.1 mX11_waysToChoose.2.2.2.1 ∈ ab_Tg ∧ Cond.initialized mX11_waysToChoose.1.cls ∈ ab_Tg ∧ (mX11_waysToChoose.1.cls ≠ "java/lang/invoke/MethodHandle" ∧ mX11_waysToChoose.1.cls ≠ "java/lang/invoke/VarHandle" ∧ (parseMethodDescriptor mX11_waysToChoose.1.desc).map (fun d => d.parameters.length) = some 1) := ⟨tw_818, tw_45, by decide +kernel, by decide +kernel, by decide +kernel⟩
theorem zc_X11_greatestDivisor : Cond.code mX11_greatestDivisor.1 mX11_greatestDivisor.2.1 mX11_greatestDivisor.2.2.1 mX11_greatestDivisor.2.2.2.1 ∈ ab_Tg ∧ Cond.initialized mX11_greatestDivisor.1.cls ∈ ab_Tg ∧ (mX11_greatestDivisor.1.cls ≠ "java/lang/invoke/MethodHandle" ∧ mX11_greatestDivisor.1.cls ≠ "java/lang/invoke/VarHandle" ∧ (parseMethodDescriptor mX11_greatestDivisor.1.desc).map (fun d => d.parameters.length) = some 2) := ⟨tw_824, tw_45, by decide +kernel, by decide +kernel, by decide +kernel⟩
theorem zc_X11_nextSeed : Cond.code mX11_nextSeed.1 mX11_nextSeed.2.1 mX11_nextSeed.2.2.1 mX11_nextSeed.2.2.2.1 ∈ ab_Tg ∧ Cond.initialized mX11_nextSeed.1.cls ∈ ab_Tg ∧ (mX11_nextSeed.1.cls ≠ "java/lang/invoke/MethodHandle" ∧ mX11_nextSeed.1.cls ≠ "java/lang/invoke/VarHandle" ∧ (parseMethodDescriptor mX11_nextSeed.1.desc).map (fun d => d.parameters.length) = some 1) := ⟨tw_853, tw_45, by decide +kernel, by decide +kernel, by decide +kernel⟩
theorem zc_X11_drawnBelow : Cond.code mX11_drawnBelow.1 mX11_drawnBelow.2.1 mX11_drawnBelow.2.2.1 mX11_drawnBelow.2.2.2.1 ∈ ab_Tg ∧ Cond.initialized mX11_drawnBelow.1.cls ∈ ab_Tg ∧ (mX11_drawnBelow.1.cls ≠ "java/lang/invoke/MethodHandle" ∧ mX11_drawnBelow.1.cls ≠ "java/lang/invoke/VarHandle" ∧ (parseMethodDescriptor mX11_drawnBelow.1.desc).map (fun d => d.parameters.length) = some 2) := ⟨tw_857, tw_45, by decide +kernel, by decide +kernel, by decide +kernel⟩
theorem zc_X11_seedAfterDraws : Cond.code mX11_seedAfterDraws.1 mX11_seedAfterDraws.2.1 mX11_seedAfterDraws.2.2.1 mX11_seedAfterDraws.2.2.2.1 ∈ ab_Tg ∧ Cond.initialized mX11_seedAfterDraws.1.cls ∈ ab_Tg ∧ (mX11_seedAfterDraws.1.cls ≠ "java/lang/invoke/MethodHandle" ∧ mX11_seedAfterDraws.1.cls ≠ "java/lang/invoke/VarHandle" ∧ (parseMethodDescriptor mX11_seedAfterDraws.1.desc).map (fun d => d.parameters.length) = some 1) := ⟨tw_862, tw_45, by decide +kernel, by decide +kernel, by decide +kernel⟩
theorem zc_X11_worldsOfDraws : Cond.code mX11_worldsOfDraws.1 mX11_worldsOfDraws.2.1 mX11_worldsOfDraws.2.2.1 mX11_worldsOfDraws.2.2.2.1 ∈ ab_Tg ∧ Cond.initialized mX11_worldsOfDraws.1.cls ∈ ab_Tg ∧ (mX11_worldsOfDraws.1.cls ≠ "java/lang/invoke/MethodHandle" ∧ mX11_worldsOfDraws.1.cls ≠ "java/lang/invoke/VarHandle" ∧ (parseMethodDescriptor mX11_worldsOfDraws.1.desc).map (fun d => d.parameters.length) = some 1) := ⟨tw_850, tw_45, by decide +kernel, by decide +kernel, by decide +kernel⟩
theorem zc_X12_init : Cond.code mX12_init.1 mX12_init.2.1 mX12_init.2.2.1 mX12_init.2.2.2.1 ∈ ab_Tg ∧ Cond.initialized mX12_init.1.cls ∈ ab_Tg ∧ (mX12_init.1.cls ≠ "java/lang/invoke/MethodHandle" ∧ mX12_init.1.cls ≠ "java/lang/invoke/VarHandle" ∧ (parseMethodDescriptor mX12_init.1.desc).map (fun d => d.parameters.length) = some 0) := ⟨tw_1067, tw_63, by decide +kernel, by decide +kernel, by decide +kernel⟩
theorem zc_X12_within : Cond.code mX12_within.1 mX12_within.2.1 mX12_within.2.2.1 mX12_within.2.2.2.1 ∈ ab_Tg ∧ Cond.initialized mX12_within.1.cls ∈ ab_Tg ∧ (mX12_within.1.cls ≠ "java/lang/invoke/MethodHandle" ∧ mX12_within.1.cls ≠ "java/lang/invoke/VarHandle" ∧ (parseMethodDescriptor mX12_within.1.desc).map (fun d => d.parameters.length) = some 3) := ⟨tw_1122, tw_63, by decide +kernel, by decide +kernel, by decide +kernel⟩
theorem zc_X12_isFact : Cond.code mX12_isFact.1 mX12_isFact.2.1 mX12_isFact.2.2.1 mX12_isFact.2.2.2.1 ∈ ab_Tg ∧ Cond.initialized mX12_isFact.1.cls ∈ ab_Tg ∧ (mX12_isFact.1.cls ≠ "java/lang/invoke/MethodHandle" ∧ mX12_isFact.1.cls ≠ "java/lang/invoke/VarHandle" ∧ (parseMethodDescriptor mX12_isFact.1.desc).map (fun d => d.parameters.length) = some 1) := ⟨tw_1137, tw_63, by decide +kernel, by decide +kernel, by decide +kernel⟩
theorem zc_X12_isShelf : Cond.code mX12_isShelf.1 mX12_isShelf.2.1 mX12_isShelf.2.2.1 mX12_isShelf.2.2.2.1 ∈ ab_Tg ∧ Cond.initialized mX12_isShelf.1.cls ∈ ab_Tg ∧ (mX12_isShelf.1.cls ≠ "java/lang/invoke/MethodHandle" ∧ mX12_isShelf.1.cls ≠ "java/lang/invoke/VarHandle" ∧ (parseMethodDescriptor mX12_isShelf.1.desc).map (fun d => d.parameters.length) = some 1) := ⟨tw_1119, tw_63, by decide +kernel, by decide +kernel, by decide +kernel⟩
theorem zc_X12_isWitness : Cond.code mX12_isWitness.1 mX12_isWitness.2.1 mX12_isWitness.2.2.1 mX12_isWitness.2.2.2.1 ∈ ab_Tg ∧ Cond.initialized mX12_isWitness.1.cls ∈ ab_Tg ∧ (mX12_isWitness.1.cls ≠ "java/lang/invoke/MethodHandle" ∧ mX12_isWitness.1.cls ≠ "java/lang/invoke/VarHandle" ∧ (parseMethodDescriptor mX12_isWitness.1.desc).map (fun d => d.parameters.length) = some 1) := ⟨tw_1149, tw_63, by decide +kernel, by decide +kernel, by decide +kernel⟩
theorem zc_X12_isSaid : Cond.code mX12_isSaid.1 mX12_isSaid.2.1 mX12_isSaid.2.2.1 mX12_isSaid.2.2.2.1 ∈ ab_Tg ∧ Cond.initialized mX12_isSaid.1.cls ∈ ab_Tg ∧ (mX12_isSaid.1.cls ≠ "java/lang/invoke/MethodHandle" ∧ mX12_isSaid.1.cls ≠ "java/lang/invoke/VarHandle" ∧ (parseMethodDescriptor mX12_isSaid.1.desc).map (fun d => d.parameters.length) = some 1) := ⟨tw_1175, tw_63, by decide +kernel, by decide +kernel, by decide +kernel⟩
theorem zc_X12_made : Cond.code mX12_made.1 mX12_made.2.1 mX12_made.2.2.1 mX12_made.2.2.2.1 ∈ ab_Tg ∧ Cond.initialized mX12_made.1.cls ∈ ab_Tg ∧ (mX12_made.1.cls ≠ "java/lang/invoke/MethodHandle" ∧ mX12_made.1.cls ≠ "java/lang/invoke/VarHandle" ∧ (parseMethodDescriptor mX12_made.1.desc).map (fun d => d.parameters.length) = some 4) := ⟨tw_1143, tw_63, by decide +kernel, by decide +kernel, by decide +kernel⟩
theorem zc_X12_has : Cond.code mX12_has.1 mX12_has.2.1 mX12_has.2.2.1 mX12_has.2.2.2.1 ∈ ab_Tg ∧ Cond.initialized mX12_has.1.cls ∈ ab_Tg ∧ (mX12_has.1.cls ≠ "java/lang/invoke/MethodHandle" ∧ mX12_has.1.cls ≠ "java/lang/invoke/VarHandle" ∧ (parseMethodDescriptor mX12_has.1.desc).map (fun d => d.parameters.length) = some 2) := ⟨tw_1184, tw_63, by decide +kernel, by decide +kernel, by decide +kernel⟩
theorem zc_X12_isTrueIn : Cond.code mX12_isTrueIn.1 mX12_isTrueIn.2.1 mX12_isTrueIn.2.2.1 mX12_isTrueIn.2.2.2.1 ∈ ab_Tg ∧ Cond.initialized mX12_isTrueIn.1.cls ∈ ab_Tg ∧ (mX12_isTrueIn.1.cls ≠ "java/lang/invoke/MethodHandle" ∧ mX12_isTrueIn.1.cls ≠ "java/lang/invoke/VarHandle" ∧ (parseMethodDescriptor mX12_isTrueIn.1.desc).map (fun d => d.parameters.length) = some 2) := ⟨tw_1181, tw_63, by decide +kernel, by decide +kernel, by decide +kernel⟩
theorem zc_X12_sizeOf : Cond.code mX12_sizeOf.1 mX12_sizeOf.2.1 mX12_sizeOf.2.2.1 mX12_sizeOf.2.2.2.1 ∈ ab_Tg ∧ Cond.initialized mX12_sizeOf.1.cls ∈ ab_Tg ∧ (mX12_sizeOf.1.cls ≠ "java/lang/invoke/MethodHandle" ∧ mX12_sizeOf.1.cls ≠ "java/lang/invoke/VarHandle" ∧ (parseMethodDescriptor mX12_sizeOf.1.desc).map (fun d => d.parameters.length) = some 1) := ⟨tw_1165, tw_63, by decide +kernel, by decide +kernel, by decide +kernel⟩
theorem zc_X12_aboutOf : Cond.code mX12_aboutOf.1 mX12_aboutOf.2.1 mX12_aboutOf.2.2.1 mX12_aboutOf.2.2.2.1 ∈ ab_Tg ∧ Cond.initialized mX12_aboutOf.1.cls ∈ ab_Tg ∧ (mX12_aboutOf.1.cls ≠ "java/lang/invoke/MethodHandle" ∧ mX12_aboutOf.1.cls ≠ "java/lang/invoke/VarHandle" ∧ (parseMethodDescriptor mX12_aboutOf.1.desc).map (fun d => d.parameters.length) = some 1) := ⟨tw_1168, tw_63, by decide +kernel, by decide +kernel, by decide +kernel⟩
theorem zc_X12_worldsOf : Cond.code mX12_worldsOf.1 mX12_worldsOf.2.1 mX12_worldsOf.2.2.1 mX12_worldsOf.2.2.2.1 ∈ ab_Tg ∧ Cond.initialized mX12_worldsOf.1.cls ∈ ab_Tg ∧ (mX12_worldsOf.1.cls ≠ "java/lang/invoke/MethodHandle" ∧ mX12_worldsOf.1.cls ≠ "java/lang/invoke/VarHandle" ∧ (parseMethodDescriptor mX12_worldsOf.1.desc).map (fun d => d.parameters.length) = some 1) := ⟨tw_1230, tw_63, by decide +kernel, by decide +kernel, by decide +kernel⟩
theorem zc_X12_isSlip : Cond.code mX12_isSlip.1 mX12_isSlip.2.1 mX12_isSlip.2.2.1 mX12_isSlip.2.2.2.1 ∈ ab_Tg ∧ Cond.initialized mX12_isSlip.1.cls ∈ ab_Tg ∧ (mX12_isSlip.1.cls ≠ "java/lang/invoke/MethodHandle" ∧ mX12_isSlip.1.cls ≠ "java/lang/invoke/VarHandle" ∧ (parseMethodDescriptor mX12_isSlip.1.desc).map (fun d => d.parameters.length) = some 1) := ⟨tw_1178, tw_63, by decide +kernel, by decide +kernel, by decide +kernel⟩
theorem zc_X12_of : Cond.code mX12_of.1 mX12_of.2.1 mX12_of.2.2.1 mX12_of.2.2.2.1 ∈ ab_Tg ∧ Cond.initialized mX12_of.1.cls ∈ ab_Tg ∧ (mX12_of.1.cls ≠ "java/lang/invoke/MethodHandle" ∧ mX12_of.1.cls ≠ "java/lang/invoke/VarHandle" ∧ (parseMethodDescriptor mX12_of.1.desc).map (fun d => d.parameters.length) = some 2) := ⟨tw_1162, tw_63, by decide +kernel, by decide +kernel, by decide +kernel⟩
theorem zc_X12_is : Cond.code mX12_is.1 mX12_is.2.1 mX12_is.2.2.1 mX12_is.2.2.2.1 ∈ ab_Tg ∧ Cond.initialized mX12_is.1.cls ∈ ab_Tg ∧ (mX12_is.1.cls ≠ "java/lang/invoke/MethodHandle" ∧ mX12_is.1.cls ≠ "java/lang/invoke/VarHandle" ∧ (parseMethodDescriptor mX12_is.1.desc).map (fun d => d.parameters.length) = some 1) := ⟨tw_1128, tw_63, by decide +kernel, by decide +kernel, by decide +kernel⟩
theorem zc_X12_digits : Cond.code mX12_digits.1 mX12_digits.2.1 mX12_digits.2.2.1 mX12_digits.2.2.2.1 ∈ ab_Tg ∧ Cond.initialized mX12_digits.1.cls ∈ ab_Tg ∧ (mX12_digits.1.cls ≠ "java/lang/invoke/MethodHandle" ∧ mX12_digits.1.cls ≠ "java/lang/invoke/VarHandle" ∧ (parseMethodDescriptor mX12_digits.1.desc).map (fun d => d.parameters.length) = some 1) := ⟨tw_1131, tw_63, by decide +kernel, by decide +kernel, by decide +kernel⟩
theorem zc_X12_two : Cond.code mX12_two.1 mX12_two.2.1 mX12_two.2.2.1 mX12_two.2.2.2.1 ∈ ab_Tg ∧ Cond.initialized mX12_two.1.cls ∈ ab_Tg ∧ (mX12_two.1.cls ≠ "java/lang/invoke/MethodHandle" ∧ mX12_two.1.cls ≠ "java/lang/invoke/VarHandle" ∧ (parseMethodDescriptor mX12_two.1.desc).map (fun d => d.parameters.length) = some 0) := ⟨tw_1146, tw_63, by decide +kernel, by decide +kernel, by decide +kernel⟩
theorem zc_X12_isSaying : Cond.code mX12_isSaying.1 mX12_isSaying.2.1 mX12_isSaying.2.2.1 mX12_isSaying.2.2.2.1 ∈ ab_Tg ∧ Cond.initialized mX12_isSaying.1.cls ∈ ab_Tg ∧ (mX12_isSaying.1.cls ≠ "java/lang/invoke/MethodHandle" ∧ mX12_isSaying.1.cls ≠ "java/lang/invoke/VarHandle" ∧ (parseMethodDescriptor mX12_isSaying.1.desc).map (fun d => d.parameters.length) = some 1) := ⟨tw_1134, tw_63, by decide +kernel, by decide +kernel, by decide +kernel⟩
theorem zc_X12_readSaying : Cond.code mX12_readSaying.1 mX12_readSaying.2.1 mX12_readSaying.2.2.1 mX12_readSaying.2.2.2.1 ∈ ab_Tg ∧ Cond.initialized mX12_readSaying.1.cls ∈ ab_Tg ∧ (mX12_readSaying.1.cls ≠ "java/lang/invoke/MethodHandle" ∧ mX12_readSaying.1.cls ≠ "java/lang/invoke/VarHandle" ∧ (parseMethodDescriptor mX12_readSaying.1.desc).map (fun d => d.parameters.length) = some 1) := ⟨tw_1140, tw_63, by decide +kernel, by decide +kernel, by decide +kernel⟩
theorem zc_X12_statement : Cond.code mX12_statement.1 mX12_statement.2.1 mX12_statement.2.2.1 mX12_statement.2.2.2.1 ∈ ab_Tg ∧ Cond.initialized mX12_statement.1.cls ∈ ab_Tg ∧ (mX12_statement.1.cls ≠ "java/lang/invoke/MethodHandle" ∧ mX12_statement.1.cls ≠ "java/lang/invoke/VarHandle" ∧ (parseMethodDescriptor mX12_statement.1.desc).map (fun d => d.parameters.length) = some 1) := ⟨tw_1125, tw_63, by decide +kernel, by decide +kernel, by decide +kernel⟩
theorem zc_X12_trial : Cond.code mX12_trial.1 mX12_trial.2.1 mX12_trial.2.2.1 mX12_trial.2.2.2.1 ∈ ab_Tg ∧ Cond.initialized mX12_trial.1.cls ∈ ab_Tg ∧ (mX12_trial.1.cls ≠ "java/lang/invoke/MethodHandle" ∧ mX12_trial.1.cls ≠ "java/lang/invoke/VarHandle" ∧ (parseMethodDescriptor mX12_trial.1.desc).map (fun d => d.parameters.length) = some 1) := ⟨tw_1116, tw_63, by decide +kernel, by decide +kernel, by decide +kernel⟩
theorem zc_X12_law : Cond.code mX12_law.1 mX12_law.2.1 mX12_law.2.2.1 mX12_law.2.2.2.1 ∈ ab_Tg ∧ Cond.initialized mX12_law.1.cls ∈ ab_Tg ∧ (mX12_law.1.cls ≠ "java/lang/invoke/MethodHandle" ∧ mX12_law.1.cls ≠ "java/lang/invoke/VarHandle" ∧ (parseMethodDescriptor mX12_law.1.desc).map (fun d => d.parameters.length) = some 2) := ⟨tw_1159, tw_63, by decide +kernel, by decide +kernel, by decide +kernel⟩
theorem zc_X12_said : Cond.code mX12_said.1 mX12_said.2.1 mX12_said.2.2.1 mX12_said.2.2.2.1 ∈ ab_Tg ∧ Cond.initialized mX12_said.1.cls ∈ ab_Tg ∧ (mX12_said.1.cls ≠ "java/lang/invoke/MethodHandle" ∧ mX12_said.1.cls ≠ "java/lang/invoke/VarHandle" ∧ (parseMethodDescriptor mX12_said.1.desc).map (fun d => d.parameters.length) = some 2) := ⟨tw_1172, tw_63, by decide +kernel, by decide +kernel, by decide +kernel⟩
theorem zc_X12_knows : Cond.code mX12_knows.1 mX12_knows.2.1 mX12_knows.2.2.1 mX12_knows.2.2.2.1 ∈ ab_Tg ∧ Cond.initialized mX12_knows.1.cls ∈ ab_Tg ∧ (mX12_knows.1.cls ≠ "java/lang/invoke/MethodHandle" ∧ mX12_knows.1.cls ≠ "java/lang/invoke/VarHandle" ∧ (parseMethodDescriptor mX12_knows.1.desc).map (fun d => d.parameters.length) = some 1) := ⟨tw_1188, tw_63, by decide +kernel, by decide +kernel, by decide +kernel⟩
theorem zc_X12_noSaying : Cond.code mX12_noSaying.1 mX12_noSaying.2.1 mX12_noSaying.2.2.1 mX12_noSaying.2.2.2.1 ∈ ab_Tg ∧ Cond.initialized mX12_noSaying.1.cls ∈ ab_Tg ∧ (mX12_noSaying.1.cls ≠ "java/lang/invoke/MethodHandle" ∧ mX12_noSaying.1.cls ≠ "java/lang/invoke/VarHandle" ∧ (parseMethodDescriptor mX12_noSaying.1.desc).map (fun d => d.parameters.length) = some 1) := ⟨tw_1195, tw_63, by decide +kernel, by decide +kernel, by decide +kernel⟩
theorem zc_X12_onShelf : Cond.code mX12_onShelf.1 mX12_onShelf.2.1 mX12_onShelf.2.2.1 mX12_onShelf.2.2.2.1 ∈ ab_Tg ∧ Cond.initialized mX12_onShelf.1.cls ∈ ab_Tg ∧ (mX12_onShelf.1.cls ≠ "java/lang/invoke/MethodHandle" ∧ mX12_onShelf.1.cls ≠ "java/lang/invoke/VarHandle" ∧ (parseMethodDescriptor mX12_onShelf.1.desc).map (fun d => d.parameters.length) = some 3) := ⟨tw_1198, tw_63, by decide +kernel, by decide +kernel, by decide +kernel⟩
theorem zc_X12_isTrue : Cond.code mX12_isTrue.1 mX12_isTrue.2.1 mX12_isTrue.2.2.1 mX12_isTrue.2.2.2.1 ∈ ab_Tg ∧ Cond.initialized mX12_isTrue.1.cls ∈ ab_Tg ∧ (mX12_isTrue.1.cls ≠ "java/lang/invoke/MethodHandle" ∧ mX12_isTrue.1.cls ≠ "java/lang/invoke/VarHandle" ∧ (parseMethodDescriptor mX12_isTrue.1.desc).map (fun d => d.parameters.length) = some 4) := ⟨tw_1192, tw_63, by decide +kernel, by decide +kernel, by decide +kernel⟩
theorem zc_X12_rules : Cond.code mX12_rules.1 mX12_rules.2.1 mX12_rules.2.2.1 mX12_rules.2.2.2.1 ∈ ab_Tg ∧ Cond.initialized mX12_rules.1.cls ∈ ab_Tg ∧ (mX12_rules.1.cls ≠ "java/lang/invoke/MethodHandle" ∧ mX12_rules.1.cls ≠ "java/lang/invoke/VarHandle" ∧ (parseMethodDescriptor mX12_rules.1.desc).map (fun d => d.parameters.length) = some 3) := ⟨tw_1202, tw_63, by decide +kernel, by decide +kernel, by decide +kernel⟩
theorem zc_X12_says : Cond.code mX12_says.1 mX12_says.2.1 mX12_says.2.2.1 mX12_says.2.2.2.1 ∈ ab_Tg ∧ Cond.initialized mX12_says.1.cls ∈ ab_Tg ∧ (mX12_says.1.cls ≠ "java/lang/invoke/MethodHandle" ∧ mX12_says.1.cls ≠ "java/lang/invoke/VarHandle" ∧ (parseMethodDescriptor mX12_says.1.desc).map (fun d => d.parameters.length) = some 4) := ⟨tw_1206, tw_63, by decide +kernel, by decide +kernel, by decide +kernel⟩
theorem zc_X12_unsays : Cond.code mX12_unsays.1 mX12_unsays.2.1 mX12_unsays.2.2.1 mX12_unsays.2.2.2.1 ∈ ab_Tg ∧ Cond.initialized mX12_unsays.1.cls ∈ ab_Tg ∧ (mX12_unsays.1.cls ≠ "java/lang/invoke/MethodHandle" ∧ mX12_unsays.1.cls ≠ "java/lang/invoke/VarHandle" ∧ (parseMethodDescriptor mX12_unsays.1.desc).map (fun d => d.parameters.length) = some 0) := ⟨tw_1210, tw_63, by decide +kernel, by decide +kernel, by decide +kernel⟩
theorem zc_X12_witness : Cond.code mX12_witness.1 mX12_witness.2.1 mX12_witness.2.2.1 mX12_witness.2.2.2.1 ∈ ab_Tg ∧ Cond.initialized mX12_witness.1.cls ∈ ab_Tg ∧ (mX12_witness.1.cls ≠ "java/lang/invoke/MethodHandle" ∧ mX12_witness.1.cls ≠ "java/lang/invoke/VarHandle" ∧ (parseMethodDescriptor mX12_witness.1.desc).map (fun d => d.parameters.length) = some 1) := ⟨tw_1214, tw_63, by decide +kernel, by decide +kernel, by decide +kernel⟩
theorem zc_X12_truth : Cond.code mX12_truth.1 mX12_truth.2.1 mX12_truth.2.2.1 mX12_truth.2.2.2.1 ∈ ab_Tg ∧ Cond.initialized mX12_truth.1.cls ∈ ab_Tg ∧ (mX12_truth.1.cls ≠ "java/lang/invoke/MethodHandle" ∧ mX12_truth.1.cls ≠ "java/lang/invoke/VarHandle" ∧ (parseMethodDescriptor mX12_truth.1.desc).map (fun d => d.parameters.length) = some 1) := ⟨tw_1218, tw_63, by decide +kernel, by decide +kernel, by decide +kernel⟩
theorem zc_X12_mayBe : Cond.code mX12_mayBe.1 mX12_mayBe.2.1 mX12_mayBe.2.2.1 mX12_mayBe.2.2.2.1 ∈ ab_Tg ∧ Cond.initialized mX12_mayBe.1.cls ∈ ab_Tg ∧ (mX12_mayBe.1.cls ≠ "java/lang/invoke/MethodHandle" ∧ mX12_mayBe.1.cls ≠ "java/lang/invoke/VarHandle" ∧ (parseMethodDescriptor mX12_mayBe.1.desc).map (fun d => d.parameters.length) = some 0) := ⟨tw_1226, tw_63, by decide +kernel, by decide +kernel, by decide +kernel⟩
theorem zc_X12_leftBy : Cond.code mX12_leftBy.1 mX12_leftBy.2.1 mX12_leftBy.2.2.1 mX12_leftBy.2.2.2.1 ∈ ab_Tg ∧ Cond.initialized mX12_leftBy.1.cls ∈ ab_Tg ∧ (mX12_leftBy.1.cls ≠ "java/lang/invoke/MethodHandle" ∧ mX12_leftBy.1.cls ≠ "java/lang/invoke/VarHandle" ∧ (parseMethodDescriptor mX12_leftBy.1.desc).map (fun d => d.parameters.length) = some 1) := ⟨tw_1236, tw_63, by decide +kernel, by decide +kernel, by decide +kernel⟩
theorem zc_X12_left : Cond.code mX12_left.1 mX12_left.2.1 mX12_left.2.2.1 mX12_left.2.2.2.1 ∈ ab_Tg ∧ Cond.initialized mX12_left.1.cls ∈ ab_Tg ∧ (mX12_left.1.cls ≠ "java/lang/invoke/MethodHandle" ∧ mX12_left.1.cls ≠ "java/lang/invoke/VarHandle" ∧ (parseMethodDescriptor mX12_left.1.desc).map (fun d => d.parameters.length) = some 0) := ⟨tw_1233, tw_63, by decide +kernel, by decide +kernel, by decide +kernel⟩
theorem zc_X12_worlds : Cond.code mX12_worlds.1 mX12_worlds.2.1 mX12_worlds.2.2.1 mX12_worlds.2.2.2.1 ∈ ab_Tg ∧ Cond.initialized mX12_worlds.1.cls ∈ ab_Tg ∧ (mX12_worlds.1.cls ≠ "java/lang/invoke/MethodHandle" ∧ mX12_worlds.1.cls ≠ "java/lang/invoke/VarHandle" ∧ (parseMethodDescriptor mX12_worlds.1.desc).map (fun d => d.parameters.length) = some 1) := ⟨tw_1222, tw_63, by decide +kernel, by decide +kernel, by decide +kernel⟩
theorem zc_X12_many : Cond.code mX12_many.1 mX12_many.2.1 mX12_many.2.2.1 mX12_many.2.2.2.1 ∈ ab_Tg ∧ Cond.initialized mX12_many.1.cls ∈ ab_Tg ∧ (mX12_many.1.cls ≠ "java/lang/invoke/MethodHandle" ∧ mX12_many.1.cls ≠ "java/lang/invoke/VarHandle" ∧ (parseMethodDescriptor mX12_many.1.desc).map (fun d => d.parameters.length) = some 1) := ⟨tw_1240, tw_63, by decide +kernel, by decide +kernel, by decide +kernel⟩
theorem zc_X12_facts : Cond.code mX12_facts.1 mX12_facts.2.1 mX12_facts.2.2.1 mX12_facts.2.2.2.1 ∈ ab_Tg ∧ Cond.initialized mX12_facts.1.cls ∈ ab_Tg ∧ (mX12_facts.1.cls ≠ "java/lang/invoke/MethodHandle" ∧ mX12_facts.1.cls ≠ "java/lang/invoke/VarHandle" ∧ (parseMethodDescriptor mX12_facts.1.desc).map (fun d => d.parameters.length) = some 2) := ⟨tw_1248, tw_63, by decide +kernel, by decide +kernel, by decide +kernel⟩
theorem zc_X12_proved : Cond.code mX12_proved.1 mX12_proved.2.1 mX12_proved.2.2.1 mX12_proved.2.2.2.1 ∈ ab_Tg ∧ Cond.initialized mX12_proved.1.cls ∈ ab_Tg ∧ (mX12_proved.1.cls ≠ "java/lang/invoke/MethodHandle" ∧ mX12_proved.1.cls ≠ "java/lang/invoke/VarHandle" ∧ (parseMethodDescriptor mX12_proved.1.desc).map (fun d => d.parameters.length) = some 1) := ⟨tw_1245, tw_63, by decide +kernel, by decide +kernel, by decide +kernel⟩
theorem zc_X12_slips : Cond.code mX12_slips.1 mX12_slips.2.1 mX12_slips.2.2.1 mX12_slips.2.2.2.1 ∈ ab_Tg ∧ Cond.initialized mX12_slips.1.cls ∈ ab_Tg ∧ (mX12_slips.1.cls ≠ "java/lang/invoke/MethodHandle" ∧ mX12_slips.1.cls ≠ "java/lang/invoke/VarHandle" ∧ (parseMethodDescriptor mX12_slips.1.desc).map (fun d => d.parameters.length) = some 1) := ⟨tw_1252, tw_63, by decide +kernel, by decide +kernel, by decide +kernel⟩
theorem zc_X12_alone : Cond.code mX12_alone.1 mX12_alone.2.1 mX12_alone.2.2.1 mX12_alone.2.2.2.1 ∈ ab_Tg ∧ Cond.initialized mX12_alone.1.cls ∈ ab_Tg ∧ (mX12_alone.1.cls ≠ "java/lang/invoke/MethodHandle" ∧ mX12_alone.1.cls ≠ "java/lang/invoke/VarHandle" ∧ (parseMethodDescriptor mX12_alone.1.desc).map (fun d => d.parameters.length) = some 1) := ⟨tw_1257, tw_63, by decide +kernel, by decide +kernel, by decide +kernel⟩
theorem zc_X12_clash : Cond.code mX12_clash.1 mX12_clash.2.1 mX12_clash.2.2.1 mX12_clash.2.2.2.1 ∈ ab_Tg ∧ Cond.initialized mX12_clash.1.cls ∈ ab_Tg ∧ (mX12_clash.1.cls ≠ "java/lang/invoke/MethodHandle" ∧ mX12_clash.1.cls ≠ "java/lang/invoke/VarHandle" ∧ (parseMethodDescriptor mX12_clash.1.desc).map (fun d => d.parameters.length) = some 0) := ⟨tw_1261, tw_63, by decide +kernel, by decide +kernel, by decide +kernel⟩
theorem zc_X12_isBetter : Cond.code mX12_isBetter.1 mX12_isBetter.2.1 mX12_isBetter.2.2.1 mX12_isBetter.2.2.2.1 ∈ ab_Tg ∧ Cond.initialized mX12_isBetter.1.cls ∈ ab_Tg ∧ (mX12_isBetter.1.cls ≠ "java/lang/invoke/MethodHandle" ∧ mX12_isBetter.1.cls ≠ "java/lang/invoke/VarHandle" ∧ (parseMethodDescriptor mX12_isBetter.1.desc).map (fun d => d.parameters.length) = some 2) := ⟨tw_1268, tw_63, by decide +kernel, by decide +kernel, by decide +kernel⟩
theorem zc_X12_proof : Cond.code mX12_proof.1 mX12_proof.2.1 mX12_proof.2.2.1 mX12_proof.2.2.2.1 ∈ ab_Tg ∧ Cond.initialized mX12_proof.1.cls ∈ ab_Tg ∧ (mX12_proof.1.cls ≠ "java/lang/invoke/MethodHandle" ∧ mX12_proof.1.cls ≠ "java/lang/invoke/VarHandle" ∧ (parseMethodDescriptor mX12_proof.1.desc).map (fun d => d.parameters.length) = some 1) := ⟨tw_1265, tw_63, by decide +kernel, by decide +kernel, by decide +kernel⟩
theorem zc_X12_slipped : Cond.code mX12_slipped.1 mX12_slipped.2.1 mX12_slipped.2.2.1 mX12_slipped.2.2.2.1 ∈ ab_Tg ∧ Cond.initialized mX12_slipped.1.cls ∈ ab_Tg ∧ (mX12_slipped.1.cls ≠ "java/lang/invoke/MethodHandle" ∧ mX12_slipped.1.cls ≠ "java/lang/invoke/VarHandle" ∧ (parseMethodDescriptor mX12_slipped.1.desc).map (fun d => d.parameters.length) = some 0) := ⟨tw_1273, tw_63, by decide +kernel, by decide +kernel, by decide +kernel⟩
theorem zc_X12_ask : Cond.code mX12_ask.1 mX12_ask.2.1 mX12_ask.2.2.1 mX12_ask.2.2.2.1 ∈ ab_Tg ∧ Cond.initialized mX12_ask.1.cls ∈ ab_Tg ∧ (mX12_ask.1.cls ≠ "java/lang/invoke/MethodHandle" ∧ mX12_ask.1.cls ≠ "java/lang/invoke/VarHandle" ∧ (parseMethodDescriptor mX12_ask.1.desc).map (fun d => d.parameters.length) = some 0) := ⟨tw_1277, tw_63, by decide +kernel, by decide +kernel, by decide +kernel⟩
theorem zc_X12_saidBy : Cond.code mX12_saidBy.1 mX12_saidBy.2.1 mX12_saidBy.2.2.1 mX12_saidBy.2.2.2.1 ∈ ab_Tg ∧ Cond.initialized mX12_saidBy.1.cls ∈ ab_Tg ∧ (mX12_saidBy.1.cls ≠ "java/lang/invoke/MethodHandle" ∧ mX12_saidBy.1.cls ≠ "java/lang/invoke/VarHandle" ∧ (parseMethodDescriptor mX12_saidBy.1.desc).map (fun d => d.parameters.length) = some 1) := ⟨tw_1288, tw_63, by decide +kernel, by decide +kernel, by decide +kernel⟩
theorem zc_X12_isPlain : Cond.code mX12_isPlain.1 mX12_isPlain.2.1 mX12_isPlain.2.2.1 mX12_isPlain.2.2.2.1 ∈ ab_Tg ∧ Cond.initialized mX12_isPlain.1.cls ∈ ab_Tg ∧ (mX12_isPlain.1.cls ≠ "java/lang/invoke/MethodHandle" ∧ mX12_isPlain.1.cls ≠ "java/lang/invoke/VarHandle" ∧ (parseMethodDescriptor mX12_isPlain.1.desc).map (fun d => d.parameters.length) = some 1) := ⟨tw_1285, tw_63, by decide +kernel, by decide +kernel, by decide +kernel⟩
theorem zc_X12_plain : Cond.code mX12_plain.1 mX12_plain.2.1 mX12_plain.2.2.1 mX12_plain.2.2.2.1 ∈ ab_Tg ∧ Cond.initialized mX12_plain.1.cls ∈ ab_Tg ∧ (mX12_plain.1.cls ≠ "java/lang/invoke/MethodHandle" ∧ mX12_plain.1.cls ≠ "java/lang/invoke/VarHandle" ∧ (parseMethodDescriptor mX12_plain.1.desc).map (fun d => d.parameters.length) = some 0) := ⟨tw_1282, tw_63, by decide +kernel, by decide +kernel, by decide +kernel⟩
theorem zc_X12_order : Cond.code mX12_order.1 mX12_order.2.1 mX12_order.2.2.1 mX12_order.2.2.2.1 ∈ ab_Tg ∧ Cond.initialized mX12_order.1.cls ∈ ab_Tg ∧ (mX12_order.1.cls ≠ "java/lang/invoke/MethodHandle" ∧ mX12_order.1.cls ≠ "java/lang/invoke/VarHandle" ∧ (parseMethodDescriptor mX12_order.1.desc).map (fun d => d.parameters.length) = some 1) := ⟨tw_1292, tw_63, by decide +kernel, by decide +kernel, by decide +kernel⟩
theorem zc_X12_without : Cond.code mX12_without.1 mX12_without.2.1 mX12_without.2.2.1 mX12_without.2.2.2.1 ∈ ab_Tg ∧ Cond.initialized mX12_without.1.cls ∈ ab_Tg ∧ (mX12_without.1.cls ≠ "java/lang/invoke/MethodHandle" ∧ mX12_without.1.cls ≠ "java/lang/invoke/VarHandle" ∧ (parseMethodDescriptor mX12_without.1.desc).map (fun d => d.parameters.length) = some 1) := ⟨tw_1297, tw_63, by decide +kernel, by decide +kernel, by decide +kernel⟩
theorem zc_X12_isLie : Cond.code mX12_isLie.1 mX12_isLie.2.1 mX12_isLie.2.2.1 mX12_isLie.2.2.2.1 ∈ ab_Tg ∧ Cond.initialized mX12_isLie.1.cls ∈ ab_Tg ∧ (mX12_isLie.1.cls ≠ "java/lang/invoke/MethodHandle" ∧ mX12_isLie.1.cls ≠ "java/lang/invoke/VarHandle" ∧ (parseMethodDescriptor mX12_isLie.1.desc).map (fun d => d.parameters.length) = some 2) := ⟨tw_1307, tw_63, by decide +kernel, by decide +kernel, by decide +kernel⟩
theorem zc_X12_plainSaying : Cond.code mX12_plainSaying.1 mX12_plainSaying.2.1 mX12_plainSaying.2.2.1 mX12_plainSaying.2.2.2.1 ∈ ab_Tg ∧ Cond.initialized mX12_plainSaying.1.cls ∈ ab_Tg ∧ (mX12_plainSaying.1.cls ≠ "java/lang/invoke/MethodHandle" ∧ mX12_plainSaying.1.cls ≠ "java/lang/invoke/VarHandle" ∧ (parseMethodDescriptor mX12_plainSaying.1.desc).map (fun d => d.parameters.length) = some 1) := ⟨tw_1304, tw_63, by decide +kernel, by decide +kernel, by decide +kernel⟩
theorem zc_X12_lie : Cond.code mX12_lie.1 mX12_lie.2.1 mX12_lie.2.2.1 mX12_lie.2.2.2.1 ∈ ab_Tg ∧ Cond.initialized mX12_lie.1.cls ∈ ab_Tg ∧ (mX12_lie.1.cls ≠ "java/lang/invoke/MethodHandle" ∧ mX12_lie.1.cls ≠ "java/lang/invoke/VarHandle" ∧ (parseMethodDescriptor mX12_lie.1.desc).map (fun d => d.parameters.length) = some 2) := ⟨tw_1301, tw_63, by decide +kernel, by decide +kernel, by decide +kernel⟩
theorem zc_X12_twoLies : Cond.code mX12_twoLies.1 mX12_twoLies.2.1 mX12_twoLies.2.2.1 mX12_twoLies.2.2.2.1 ∈ ab_Tg ∧ Cond.initialized mX12_twoLies.1.cls ∈ ab_Tg ∧ (mX12_twoLies.1.cls ≠ "java/lang/invoke/MethodHandle" ∧ mX12_twoLies.1.cls ≠ "java/lang/invoke/VarHandle" ∧ (parseMethodDescriptor mX12_twoLies.1.desc).map (fun d => d.parameters.length) = some 2) := ⟨tw_1311, tw_63, by decide +kernel, by decide +kernel, by decide +kernel⟩
theorem zc_X12_tells : Cond.code mX12_tells.1 mX12_tells.2.1 mX12_tells.2.2.1 mX12_tells.2.2.2.1 ∈ ab_Tg ∧ Cond.initialized mX12_tells.1.cls ∈ ab_Tg ∧ (mX12_tells.1.cls ≠ "java/lang/invoke/MethodHandle" ∧ mX12_tells.1.cls ≠ "java/lang/invoke/VarHandle" ∧ (parseMethodDescriptor mX12_tells.1.desc).map (fun d => d.parameters.length) = some 3) := ⟨tw_1316, tw_63, by decide +kernel, by decide +kernel, by decide +kernel⟩
theorem zc_X12_verdict : Cond.code mX12_verdict.1 mX12_verdict.2.1 mX12_verdict.2.2.1 mX12_verdict.2.2.2.1 ∈ ab_Tg ∧ Cond.initialized mX12_verdict.1.cls ∈ ab_Tg ∧ (mX12_verdict.1.cls ≠ "java/lang/invoke/MethodHandle" ∧ mX12_verdict.1.cls ≠ "java/lang/invoke/VarHandle" ∧ (parseMethodDescriptor mX12_verdict.1.desc).map (fun d => d.parameters.length) = some 0) := ⟨tw_1320, tw_63, by decide +kernel, by decide +kernel, by decide +kernel⟩
theorem zc_X12_like : Cond.code mX12_like.1 mX12_like.2.1 mX12_like.2.2.1 mX12_like.2.2.2.1 ∈ ab_Tg ∧ Cond.initialized mX12_like.1.cls ∈ ab_Tg ∧ (mX12_like.1.cls ≠ "java/lang/invoke/MethodHandle" ∧ mX12_like.1.cls ≠ "java/lang/invoke/VarHandle" ∧ (parseMethodDescriptor mX12_like.1.desc).map (fun d => d.parameters.length) = some 3) := ⟨tw_1327, tw_63, by decide +kernel, by decide +kernel, by decide +kernel⟩
theorem zc_X12_alike : Cond.code mX12_alike.1 mX12_alike.2.1 mX12_alike.2.2.1 mX12_alike.2.2.2.1 ∈ ab_Tg ∧ Cond.initialized mX12_alike.1.cls ∈ ab_Tg ∧ (mX12_alike.1.cls ≠ "java/lang/invoke/MethodHandle" ∧ mX12_alike.1.cls ≠ "java/lang/invoke/VarHandle" ∧ (parseMethodDescriptor mX12_alike.1.desc).map (fun d => d.parameters.length) = some 1) := ⟨tw_1330, tw_63, by decide +kernel, by decide +kernel, by decide +kernel⟩
theorem zc_X12_certain : Cond.code mX12_certain.1 mX12_certain.2.1 mX12_certain.2.2.1 mX12_certain.2.2.2.1 ∈ ab_Tg ∧ Cond.initialized mX12_certain.1.cls ∈ ab_Tg ∧ (mX12_certain.1.cls ≠ "java/lang/invoke/MethodHandle" ∧ mX12_certain.1.cls ≠ "java/lang/invoke/VarHandle" ∧ (parseMethodDescriptor mX12_certain.1.desc).map (fun d => d.parameters.length) = some 1) := ⟨tw_1324, tw_63, by decide +kernel, by decide +kernel, by decide +kernel⟩
theorem zc_X12_knowsOf : Cond.code mX12_knowsOf.1 mX12_knowsOf.2.1 mX12_knowsOf.2.2.1 mX12_knowsOf.2.2.2.1 ∈ ab_Tg ∧ Cond.initialized mX12_knowsOf.1.cls ∈ ab_Tg ∧ (mX12_knowsOf.1.cls ≠ "java/lang/invoke/MethodHandle" ∧ mX12_knowsOf.1.cls ≠ "java/lang/invoke/VarHandle" ∧ (parseMethodDescriptor mX12_knowsOf.1.desc).map (fun d => d.parameters.length) = some 2) := ⟨tw_1334, tw_63, by decide +kernel, by decide +kernel, by decide +kernel⟩
theorem zc_X12_allKnow : Cond.code mX12_allKnow.1 mX12_allKnow.2.1 mX12_allKnow.2.2.1 mX12_allKnow.2.2.2.1 ∈ ab_Tg ∧ Cond.initialized mX12_allKnow.1.cls ∈ ab_Tg ∧ (mX12_allKnow.1.cls ≠ "java/lang/invoke/MethodHandle" ∧ mX12_allKnow.1.cls ≠ "java/lang/invoke/VarHandle" ∧ (parseMethodDescriptor mX12_allKnow.1.desc).map (fun d => d.parameters.length) = some 1) := ⟨tw_1338, tw_63, by decide +kernel, by decide +kernel, by decide +kernel⟩
theorem zc_X12_part : Cond.code mX12_part.1 mX12_part.2.1 mX12_part.2.2.1 mX12_part.2.2.2.1 ∈ ab_Tg ∧ Cond.initialized mX12_part.1.cls ∈ ab_Tg ∧ (mX12_part.1.cls ≠ "java/lang/invoke/MethodHandle" ∧ mX12_part.1.cls ≠ "java/lang/invoke/VarHandle" ∧ (parseMethodDescriptor mX12_part.1.desc).map (fun d => d.parameters.length) = some 1) := ⟨tw_1346, tw_63, by decide +kernel, by decide +kernel, by decide +kernel⟩
theorem zc_X12_pencils : Cond.code mX12_pencils.1 mX12_pencils.2.1 mX12_pencils.2.2.1 mX12_pencils.2.2.2.1 ∈ ab_Tg ∧ Cond.initialized mX12_pencils.1.cls ∈ ab_Tg ∧ (mX12_pencils.1.cls ≠ "java/lang/invoke/MethodHandle" ∧ mX12_pencils.1.cls ≠ "java/lang/invoke/VarHandle" ∧ (parseMethodDescriptor mX12_pencils.1.desc).map (fun d => d.parameters.length) = some 3) := ⟨tw_1342, tw_63, by decide +kernel, by decide +kernel, by decide +kernel⟩
theorem zc_X12_leastOf : Cond.code mX12_leastOf.1 mX12_leastOf.2.1 mX12_leastOf.2.2.1 mX12_leastOf.2.2.2.1 ∈ ab_Tg ∧ Cond.initialized mX12_leastOf.1.cls ∈ ab_Tg ∧ (mX12_leastOf.1.cls ≠ "java/lang/invoke/MethodHandle" ∧ mX12_leastOf.1.cls ≠ "java/lang/invoke/VarHandle" ∧ (parseMethodDescriptor mX12_leastOf.1.desc).map (fun d => d.parameters.length) = some 1) := ⟨tw_1358, tw_63, by decide +kernel, by decide +kernel, by decide +kernel⟩
theorem zc_X12_noRow : Cond.code mX12_noRow.1 mX12_noRow.2.1 mX12_noRow.2.2.1 mX12_noRow.2.2.2.1 ∈ ab_Tg ∧ Cond.initialized mX12_noRow.1.cls ∈ ab_Tg ∧ (mX12_noRow.1.cls ≠ "java/lang/invoke/MethodHandle" ∧ mX12_noRow.1.cls ≠ "java/lang/invoke/VarHandle" ∧ (parseMethodDescriptor mX12_noRow.1.desc).map (fun d => d.parameters.length) = some 1) := ⟨tw_1353, tw_63, by decide +kernel, by decide +kernel, by decide +kernel⟩
theorem zc_X12_fits : Cond.code mX12_fits.1 mX12_fits.2.1 mX12_fits.2.2.1 mX12_fits.2.2.2.1 ∈ ab_Tg ∧ Cond.initialized mX12_fits.1.cls ∈ ab_Tg ∧ (mX12_fits.1.cls ≠ "java/lang/invoke/MethodHandle" ∧ mX12_fits.1.cls ≠ "java/lang/invoke/VarHandle" ∧ (parseMethodDescriptor mX12_fits.1.desc).map (fun d => d.parameters.length) = some 1) := ⟨tw_1350, tw_63, by decide +kernel, by decide +kernel, by decide +kernel⟩
theorem zc_X12_judge : Cond.code mX12_judge.1 mX12_judge.2.1 mX12_judge.2.2.1 mX12_judge.2.2.2.1 ∈ ab_Tg ∧ Cond.initialized mX12_judge.1.cls ∈ ab_Tg ∧ (mX12_judge.1.cls ≠ "java/lang/invoke/MethodHandle" ∧ mX12_judge.1.cls ≠ "java/lang/invoke/VarHandle" ∧ (parseMethodDescriptor mX12_judge.1.desc).map (fun d => d.parameters.length) = some 1) := ⟨tw_1363, tw_63, by decide +kernel, by decide +kernel, by decide +kernel⟩
theorem zc_X12_seeds : Cond.code mX12_seeds.1 mX12_seeds.2.1 mX12_seeds.2.2.1 mX12_seeds.2.2.2.1 ∈ ab_Tg ∧ Cond.initialized mX12_seeds.1.cls ∈ ab_Tg ∧ (mX12_seeds.1.cls ≠ "java/lang/invoke/MethodHandle" ∧ mX12_seeds.1.cls ≠ "java/lang/invoke/VarHandle" ∧ (parseMethodDescriptor mX12_seeds.1.desc).map (fun d => d.parameters.length) = some 3) := ⟨tw_1367, tw_63, by decide +kernel, by decide +kernel, by decide +kernel⟩
theorem zc_X12_keep : Cond.code mX12_keep.1 mX12_keep.2.1 mX12_keep.2.2.1 mX12_keep.2.2.2.1 ∈ ab_Tg ∧ Cond.initialized mX12_keep.1.cls ∈ ab_Tg ∧ (mX12_keep.1.cls ≠ "java/lang/invoke/MethodHandle" ∧ mX12_keep.1.cls ≠ "java/lang/invoke/VarHandle" ∧ (parseMethodDescriptor mX12_keep.1.desc).map (fun d => d.parameters.length) = some 1) := ⟨tw_1152, tw_63, by decide +kernel, by decide +kernel, by decide +kernel⟩
theorem zc_X12_again : Cond.code mX12_again.1 mX12_again.2.1 mX12_again.2.2.1 mX12_again.2.2.2.1 ∈ ab_Tg ∧ Cond.initialized mX12_again.1.cls ∈ ab_Tg ∧ (mX12_again.1.cls ≠ "java/lang/invoke/MethodHandle" ∧ mX12_again.1.cls ≠ "java/lang/invoke/VarHandle" ∧ (parseMethodDescriptor mX12_again.1.desc).map (fun d => d.parameters.length) = some 1) := ⟨tw_1155, tw_63, by decide +kernel, by decide +kernel, by decide +kernel⟩
theorem zc_X12_image : Cond.code mX12_image.1 mX12_image.2.1 mX12_image.2.2.1 mX12_image.2.2.2.1 ∈ ab_Tg ∧ Cond.initialized mX12_image.1.cls ∈ ab_Tg ∧ (mX12_image.1.cls ≠ "java/lang/invoke/MethodHandle" ∧ mX12_image.1.cls ≠ "java/lang/invoke/VarHandle" ∧ (parseMethodDescriptor mX12_image.1.desc).map (fun d => d.parameters.length) = some 0) := ⟨tw_1374, tw_63, by decide +kernel, by decide +kernel, by decide +kernel⟩
theorem zc_X12_restore : Cond.code mX12_restore.1 mX12_restore.2.1 mX12_restore.2.2.1 mX12_restore.2.2.2.1 ∈ ab_Tg ∧ Cond.initialized mX12_restore.1.cls ∈ ab_Tg ∧ (mX12_restore.1.cls ≠ "java/lang/invoke/MethodHandle" ∧ mX12_restore.1.cls ≠ "java/lang/invoke/VarHandle" ∧ (parseMethodDescriptor mX12_restore.1.desc).map (fun d => d.parameters.length) = some 0) := ⟨tw_1378, tw_63, by decide +kernel, by decide +kernel, by decide +kernel⟩
theorem zc_X12_count : Cond.code mX12_count.1 mX12_count.2.1 mX12_count.2.2.1 mX12_count.2.2.2.1 ∈ ab_Tg ∧ Cond.initialized mX12_count.1.cls ∈ ab_Tg ∧ (mX12_count.1.cls ≠ "java/lang/invoke/MethodHandle" ∧ mX12_count.1.cls ≠ "java/lang/invoke/VarHandle" ∧ (parseMethodDescriptor mX12_count.1.desc).map (fun d => d.parameters.length) = some 1) := ⟨tw_1382, tw_63, by decide +kernel, by decide +kernel, by decide +kernel⟩
theorem zc_X12_keep_ : Cond.code mX12_keep_.1 mX12_keep_.2.1 mX12_keep_.2.2.1 mX12_keep_.2.2.2.1 ∈ ab_Tg ∧ Cond.initialized mX12_keep_.1.cls ∈ ab_Tg ∧ (mX12_keep_.1.cls ≠ "java/lang/invoke/MethodHandle" ∧ mX12_keep_.1.cls ≠ "java/lang/invoke/VarHandle" ∧ (parseMethodDescriptor mX12_keep_.1.desc).map (fun d => d.parameters.length) = some 4) := ⟨tw_1386, tw_63, by decide +kernel, by decide +kernel, by decide +kernel⟩
theorem zc_X12_row : Cond.code mX12_row.1 mX12_row.2.1 mX12_row.2.2.1 mX12_row.2.2.2.1 ∈ ab_Tg ∧ Cond.initialized mX12_row.1.cls ∈ ab_Tg ∧ (mX12_row.1.cls ≠ "java/lang/invoke/MethodHandle" ∧ mX12_row.1.cls ≠ "java/lang/invoke/VarHandle" ∧ (parseMethodDescriptor mX12_row.1.desc).map (fun d => d.parameters.length) = some 3) := ⟨tw_1390, tw_63, by decide +kernel, by decide +kernel, by decide +kernel⟩
theorem zc_X12_put : Cond.code mX12_put.1 mX12_put.2.1 mX12_put.2.2.1 mX12_put.2.2.2.1 ∈ ab_Tg ∧ Cond.initialized mX12_put.1.cls ∈ ab_Tg ∧ (mX12_put.1.cls ≠ "java/lang/invoke/MethodHandle" ∧ mX12_put.1.cls ≠ "java/lang/invoke/VarHandle" ∧ (parseMethodDescriptor mX12_put.1.desc).map (fun d => d.parameters.length) = some 3) := ⟨tw_1394, tw_63, by decide +kernel, by decide +kernel, by decide +kernel⟩
theorem zc_X12_thrown : Cond.code mX12_thrown.1 mX12_thrown.2.1 mX12_thrown.2.2.1 mX12_thrown.2.2.2.1 ∈ ab_Tg ∧ Cond.initialized mX12_thrown.1.cls ∈ ab_Tg ∧ (mX12_thrown.1.cls ≠ "java/lang/invoke/MethodHandle" ∧ mX12_thrown.1.cls ≠ "java/lang/invoke/VarHandle" ∧ (parseMethodDescriptor mX12_thrown.1.desc).map (fun d => d.parameters.length) = some 0) := ⟨tw_1398, tw_63, by decide +kernel, by decide +kernel, by decide +kernel⟩
theorem zc_X12_element : Cond.code mX12_element.1 mX12_element.2.1 mX12_element.2.2.1 mX12_element.2.2.2.1 ∈ ab_Tg ∧ Cond.initialized mX12_element.1.cls ∈ ab_Tg ∧ (mX12_element.1.cls ≠ "java/lang/invoke/MethodHandle" ∧ mX12_element.1.cls ≠ "java/lang/invoke/VarHandle" ∧ (parseMethodDescriptor mX12_element.1.desc).map (fun d => d.parameters.length) = some 2) := ⟨tw_1402, tw_63, by decide +kernel, by decide +kernel, by decide +kernel⟩
theorem zc_X12_copy : Cond.code mX12_copy.1 mX12_copy.2.1 mX12_copy.2.2.1 mX12_copy.2.2.2.1 ∈ ab_Tg ∧ Cond.initialized mX12_copy.1.cls ∈ ab_Tg ∧ (mX12_copy.1.cls ≠ "java/lang/invoke/MethodHandle" ∧ mX12_copy.1.cls ≠ "java/lang/invoke/VarHandle" ∧ (parseMethodDescriptor mX12_copy.1.desc).map (fun d => d.parameters.length) = some 5) := ⟨tw_1406, tw_63, by decide +kernel, by decide +kernel, by decide +kernel⟩
theorem zc_X12_costOf : Cond.code mX12_costOf.1 mX12_costOf.2.1 mX12_costOf.2.2.1 mX12_costOf.2.2.2.1 ∈ ab_Tg ∧ Cond.initialized mX12_costOf.1.cls ∈ ab_Tg ∧ (mX12_costOf.1.cls ≠ "java/lang/invoke/MethodHandle" ∧ mX12_costOf.1.cls ≠ "java/lang/invoke/VarHandle" ∧ (parseMethodDescriptor mX12_costOf.1.desc).map (fun d => d.parameters.length) = some 1) := ⟨tw_1413, tw_63, by decide +kernel, by decide +kernel, by decide +kernel⟩
theorem zc_X12_cost : Cond.code mX12_cost.1 mX12_cost.2.1 mX12_cost.2.2.1 mX12_cost.2.2.2.1 ∈ ab_Tg ∧ Cond.initialized mX12_cost.1.cls ∈ ab_Tg ∧ (mX12_cost.1.cls ≠ "java/lang/invoke/MethodHandle" ∧ mX12_cost.1.cls ≠ "java/lang/invoke/VarHandle" ∧ (parseMethodDescriptor mX12_cost.1.desc).map (fun d => d.parameters.length) = some 1) := ⟨tw_1410, tw_63, by decide +kernel, by decide +kernel, by decide +kernel⟩
theorem zc_X12_toss : Cond.code mX12_toss.1 mX12_toss.2.1 mX12_toss.2.2.1 mX12_toss.2.2.2.1 ∈ ab_Tg ∧ Cond.initialized mX12_toss.1.cls ∈ ab_Tg ∧ (mX12_toss.1.cls ≠ "java/lang/invoke/MethodHandle" ∧ mX12_toss.1.cls ≠ "java/lang/invoke/VarHandle" ∧ (parseMethodDescriptor mX12_toss.1.desc).map (fun d => d.parameters.length) = some 1) := ⟨tw_1417, tw_63, by decide +kernel, by decide +kernel, by decide +kernel⟩
theorem zc_J6_numberOfTrailingZeros_0f7a4 : Cond.code mJ6_numberOfTrailingZeros_0f7a4.1 mJ6_numberOfTrailingZeros_0f7a4.2.1 mJ6_numberOfTrailingZeros_0f7a4.2.2.1 mJ6_numberOfTrailingZeros_0f7a4.2.2.2.1 ∈ ab_Tg ∧ Cond.initialized mJ6_numberOfTrailingZeros_0f7a4.1.cls ∈ ab_Tg ∧ (mJ6_numberOfTrailingZeros_0f7a4.1.cls ≠ "java/lang/invoke/MethodHandle" ∧ mJ6_numberOfTrailingZeros_0f7a4.1.cls ≠ "java/lang/invoke/VarHandle" ∧ (parseMethodDescriptor mJ6_numberOfTrailingZeros_0f7a4.1.desc).map (fun d => d.parameters.length) = some 1) := ⟨tw_683, tw_68, by decide +kernel, by decide +kernel, by decide +kernel⟩
theorem zc_J6_bitCount_0f7a4 : Cond.code mJ6_bitCount_0f7a4.1 mJ6_bitCount_0f7a4.2.1 mJ6_bitCount_0f7a4.2.2.1 mJ6_bitCount_0f7a4.2.2.2.1 ∈ ab_Tg ∧ Cond.initialized mJ6_bitCount_0f7a4.1.cls ∈ ab_Tg ∧ (mJ6_bitCount_0f7a4.1.cls ≠ "java/lang/invoke/MethodHandle" ∧ mJ6_bitCount_0f7a4.1.cls ≠ "java/lang/invoke/VarHandle" ∧ (parseMethodDescriptor mJ6_bitCount_0f7a4.1.desc).map (fun d => d.parameters.length) = some 1) := ⟨tw_700, tw_68, by decide +kernel, by decide +kernel, by decide +kernel⟩
theorem zc_J13_bitCount_95d88 : Cond.code mJ13_bitCount_95d88.1 mJ13_bitCount_95d88.2.1 mJ13_bitCount_95d88.2.2.1 mJ13_bitCount_95d88.2.2.2.1 ∈ ab_Tg ∧ Cond.initialized mJ13_bitCount_95d88.1.cls ∈ ab_Tg ∧ (mJ13_bitCount_95d88.1.cls ≠ "java/lang/invoke/MethodHandle" ∧ mJ13_bitCount_95d88.1.cls ≠ "java/lang/invoke/VarHandle" ∧ (parseMethodDescriptor mJ13_bitCount_95d88.1.desc).map (fun d => d.parameters.length) = some 1) := ⟨tw_654, tw_67, by decide +kernel, by decide +kernel, by decide +kernel⟩
theorem zc_J9_max_7cf53 : Cond.code mJ9_max_7cf53.1 mJ9_max_7cf53.2.1 mJ9_max_7cf53.2.2.1 mJ9_max_7cf53.2.2.2.1 ∈ ab_Tg ∧ Cond.initialized mJ9_max_7cf53.1.cls ∈ ab_Tg ∧ (mJ9_max_7cf53.1.cls ≠ "java/lang/invoke/MethodHandle" ∧ mJ9_max_7cf53.1.cls ≠ "java/lang/invoke/VarHandle" ∧ (parseMethodDescriptor mJ9_max_7cf53.1.desc).map (fun d => d.parameters.length) = some 2) := ⟨tw_159, tw_52, by decide +kernel, by decide +kernel, by decide +kernel⟩
theorem zc_J9_min_7cf53 : Cond.code mJ9_min_7cf53.1 mJ9_min_7cf53.2.1 mJ9_min_7cf53.2.2.1 mJ9_min_7cf53.2.2.2.1 ∈ ab_Tg ∧ Cond.initialized mJ9_min_7cf53.1.cls ∈ ab_Tg ∧ (mJ9_min_7cf53.1.cls ≠ "java/lang/invoke/MethodHandle" ∧ mJ9_min_7cf53.1.cls ≠ "java/lang/invoke/VarHandle" ∧ (parseMethodDescriptor mJ9_min_7cf53.1.desc).map (fun d => d.parameters.length) = some 2) := ⟨tw_194, tw_52, by decide +kernel, by decide +kernel, by decide +kernel⟩
theorem zc_Jxa1e45_init_da8c8 : Cond.code mJxa1e45_init_da8c8.1 mJxa1e45_init_da8c8.2.1 mJxa1e45_init_da8c8.2.2.1 mJxa1e45_init_da8c8.2.2.2.1 ∈ ab_Tg ∧ Cond.initialized mJxa1e45_init_da8c8.1.cls ∈ ab_Tg ∧ (mJxa1e45_init_da8c8.1.cls ≠ "java/lang/invoke/MethodHandle" ∧ mJxa1e45_init_da8c8.1.cls ≠ "java/lang/invoke/VarHandle" ∧ (parseMethodDescriptor mJxa1e45_init_da8c8.1.desc).map (fun d => d.parameters.length) = some 0) := ⟨tw_92, tw_46, by decide +kernel, by decide +kernel, by decide +kernel⟩
theorem zc_Jxc12de_init_da8c8 : Cond.code mJxc12de_init_da8c8.1 mJxc12de_init_da8c8.2.1 mJxc12de_init_da8c8.2.2.1 mJxc12de_init_da8c8.2.2.2.1 ∈ ab_Tg ∧ Cond.initialized mJxc12de_init_da8c8.1.cls ∈ ab_Tg ∧ (mJxc12de_init_da8c8.1.cls ≠ "java/lang/invoke/MethodHandle" ∧ mJxc12de_init_da8c8.1.cls ≠ "java/lang/invoke/VarHandle" ∧ (parseMethodDescriptor mJxc12de_init_da8c8.1.desc).map (fun d => d.parameters.length) = some 0) := ⟨tw_89, tw_47, by decide +kernel, by decide +kernel, by decide +kernel⟩
theorem zc_Jx4a65c_init_da8c8 : Cond.code mJx4a65c_init_da8c8.1 mJx4a65c_init_da8c8.2.1 mJx4a65c_init_da8c8.2.2.1 mJx4a65c_init_da8c8.2.2.2.1 ∈ ab_Tg ∧ Cond.initialized mJx4a65c_init_da8c8.1.cls ∈ ab_Tg ∧ (mJx4a65c_init_da8c8.1.cls ≠ "java/lang/invoke/MethodHandle" ∧ mJx4a65c_init_da8c8.1.cls ≠ "java/lang/invoke/VarHandle" ∧ (parseMethodDescriptor mJx4a65c_init_da8c8.1.desc).map (fun d => d.parameters.length) = some 0) := ⟨tw_86, tw_48, by decide +kernel, by decide +kernel, by decide +kernel⟩
theorem zc_Jx4a65c_grow_92f84 : Cond.code mJx4a65c_grow_92f84.1 mJx4a65c_grow_92f84.2.1 mJx4a65c_grow_92f84.2.2.1 mJx4a65c_grow_92f84.2.2.2.1 ∈ ab_Tg ∧ Cond.initialized mJx4a65c_grow_92f84.1.cls ∈ ab_Tg ∧ (mJx4a65c_grow_92f84.1.cls ≠ "java/lang/invoke/MethodHandle" ∧ mJx4a65c_grow_92f84.1.cls ≠ "java/lang/invoke/VarHandle" ∧ (parseMethodDescriptor mJx4a65c_grow_92f84.1.desc).map (fun d => d.parameters.length) = some 1) := ⟨tw_153, tw_48, by decide +kernel, by decide +kernel, by decide +kernel⟩
theorem zc_Jx4a65c_grow_d5877 : Cond.code mJx4a65c_grow_d5877.1 mJx4a65c_grow_d5877.2.1 mJx4a65c_grow_d5877.2.2.1 mJx4a65c_grow_d5877.2.2.2.1 ∈ ab_Tg ∧ Cond.initialized mJx4a65c_grow_d5877.1.cls ∈ ab_Tg ∧ (mJx4a65c_grow_d5877.1.cls ≠ "java/lang/invoke/MethodHandle" ∧ mJx4a65c_grow_d5877.1.cls ≠ "java/lang/invoke/VarHandle" ∧ (parseMethodDescriptor mJx4a65c_grow_d5877.1.desc).map (fun d => d.parameters.length) = some 0) := ⟨tw_150, tw_48, by decide +kernel, by decide +kernel, by decide +kernel⟩
theorem zc_Jx4a65c_size_8abf5 : Cond.code mJx4a65c_size_8abf5.1 mJx4a65c_size_8abf5.2.1 mJx4a65c_size_8abf5.2.2.1 mJx4a65c_size_8abf5.2.2.2.1 ∈ ab_Tg ∧ Cond.initialized mJx4a65c_size_8abf5.1.cls ∈ ab_Tg ∧ (mJx4a65c_size_8abf5.1.cls ≠ "java/lang/invoke/MethodHandle" ∧ mJx4a65c_size_8abf5.1.cls ≠ "java/lang/invoke/VarHandle" ∧ (parseMethodDescriptor mJx4a65c_size_8abf5.1.desc).map (fun d => d.parameters.length) = some 0) := ⟨tw_347, tw_48, by decide +kernel, by decide +kernel, by decide +kernel⟩
theorem zc_Jx4a65c_elementData_915e3 : Cond.code mJx4a65c_elementData_915e3.1 mJx4a65c_elementData_915e3.2.1 mJx4a65c_elementData_915e3.2.2.1 mJx4a65c_elementData_915e3.2.2.2.1 ∈ ab_Tg ∧ Cond.initialized mJx4a65c_elementData_915e3.1.cls ∈ ab_Tg ∧ (mJx4a65c_elementData_915e3.1.cls ≠ "java/lang/invoke/MethodHandle" ∧ mJx4a65c_elementData_915e3.1.cls ≠ "java/lang/invoke/VarHandle" ∧ (parseMethodDescriptor mJx4a65c_elementData_915e3.1.desc).map (fun d => d.parameters.length) = some 1) := ⟨tw_361, tw_48, by decide +kernel, by decide +kernel, by decide +kernel⟩
theorem zc_Jx4a65c_get_915e3 : Cond.code mJx4a65c_get_915e3.1 mJx4a65c_get_915e3.2.1 mJx4a65c_get_915e3.2.2.1 mJx4a65c_get_915e3.2.2.2.1 ∈ ab_Tg ∧ Cond.initialized mJx4a65c_get_915e3.1.cls ∈ ab_Tg ∧ (mJx4a65c_get_915e3.1.cls ≠ "java/lang/invoke/MethodHandle" ∧ mJx4a65c_get_915e3.1.cls ≠ "java/lang/invoke/VarHandle" ∧ (parseMethodDescriptor mJx4a65c_get_915e3.1.desc).map (fun d => d.parameters.length) = some 1) := ⟨tw_351, tw_48, by decide +kernel, by decide +kernel, by decide +kernel⟩
theorem zc_Jx4a65c_add_72be8 : Cond.code mJx4a65c_add_72be8.1 mJx4a65c_add_72be8.2.1 mJx4a65c_add_72be8.2.2.1 mJx4a65c_add_72be8.2.2.2.1 ∈ ab_Tg ∧ Cond.initialized mJx4a65c_add_72be8.1.cls ∈ ab_Tg ∧ (mJx4a65c_add_72be8.1.cls ≠ "java/lang/invoke/MethodHandle" ∧ mJx4a65c_add_72be8.1.cls ≠ "java/lang/invoke/VarHandle" ∧ (parseMethodDescriptor mJx4a65c_add_72be8.1.desc).map (fun d => d.parameters.length) = some 3) := ⟨tw_147, tw_48, by decide +kernel, by decide +kernel, by decide +kernel⟩
theorem zc_Jx4a65c_add_9ea2d : Cond.code mJx4a65c_add_9ea2d.1 mJx4a65c_add_9ea2d.2.1 mJx4a65c_add_9ea2d.2.2.1 mJx4a65c_add_9ea2d.2.2.2.1 ∈ ab_Tg ∧ Cond.initialized mJx4a65c_add_9ea2d.1.cls ∈ ab_Tg ∧ (mJx4a65c_add_9ea2d.1.cls ≠ "java/lang/invoke/MethodHandle" ∧ mJx4a65c_add_9ea2d.1.cls ≠ "java/lang/invoke/VarHandle" ∧ (parseMethodDescriptor mJx4a65c_add_9ea2d.1.desc).map (fun d => d.parameters.length) = some 1) := ⟨tw_144, tw_48, by decide +kernel, by decide +kernel, by decide +kernel⟩
theorem zc_Jx4a65c_remove_915e3 : Cond.code mJx4a65c_remove_915e3.1 mJx4a65c_remove_915e3.2.1 mJx4a65c_remove_915e3.2.2.1 mJx4a65c_remove_915e3.2.2.2.1 ∈ ab_Tg ∧ Cond.initialized mJx4a65c_remove_915e3.1.cls ∈ ab_Tg ∧ (mJx4a65c_remove_915e3.1.cls ≠ "java/lang/invoke/MethodHandle" ∧ mJx4a65c_remove_915e3.1.cls ≠ "java/lang/invoke/VarHandle" ∧ (parseMethodDescriptor mJx4a65c_remove_915e3.1.desc).map (fun d => d.parameters.length) = some 1) := ⟨tw_606, tw_48, by decide +kernel, by decide +kernel, by decide +kernel⟩
theorem zc_Jx4a65c_fastRemove_b59b0 : Cond.code mJx4a65c_fastRemove_b59b0.1 mJx4a65c_fastRemove_b59b0.2.1 mJx4a65c_fastRemove_b59b0.2.2.1 mJx4a65c_fastRemove_b59b0.2.2.2.1 ∈ ab_Tg ∧ Cond.initialized mJx4a65c_fastRemove_b59b0.1.cls ∈ ab_Tg ∧ (mJx4a65c_fastRemove_b59b0.1.cls ≠ "java/lang/invoke/MethodHandle" ∧ mJx4a65c_fastRemove_b59b0.1.cls ≠ "java/lang/invoke/VarHandle" ∧ (parseMethodDescriptor mJx4a65c_fastRemove_b59b0.1.desc).map (fun d => d.parameters.length) = some 2) := ⟨tw_609, tw_48, by decide +kernel, by decide +kernel, by decide +kernel⟩
theorem zc_Jx4a65c_clear_da8c8 : Cond.code mJx4a65c_clear_da8c8.1 mJx4a65c_clear_da8c8.2.1 mJx4a65c_clear_da8c8.2.2.1 mJx4a65c_clear_da8c8.2.2.2.1 ∈ ab_Tg ∧ Cond.initialized mJx4a65c_clear_da8c8.1.cls ∈ ab_Tg ∧ (mJx4a65c_clear_da8c8.1.cls ≠ "java/lang/invoke/MethodHandle" ∧ mJx4a65c_clear_da8c8.1.cls ≠ "java/lang/invoke/VarHandle" ∧ (parseMethodDescriptor mJx4a65c_clear_da8c8.1.desc).map (fun d => d.parameters.length) = some 0) := ⟨tw_343, tw_48, by decide +kernel, by decide +kernel, by decide +kernel⟩
theorem zc_J15_checkIndex_7cf53 : Cond.code mJ15_checkIndex_7cf53.1 mJ15_checkIndex_7cf53.2.1 mJ15_checkIndex_7cf53.2.2.1 mJ15_checkIndex_7cf53.2.2.2.1 ∈ ab_Tg ∧ Cond.initialized mJ15_checkIndex_7cf53.1.cls ∈ ab_Tg ∧ (mJ15_checkIndex_7cf53.1.cls ≠ "java/lang/invoke/MethodHandle" ∧ mJ15_checkIndex_7cf53.1.cls ≠ "java/lang/invoke/VarHandle" ∧ (parseMethodDescriptor mJ15_checkIndex_7cf53.1.desc).map (fun d => d.parameters.length) = some 2) := ⟨tw_354, tw_64, by decide +kernel, by decide +kernel, by decide +kernel⟩
theorem zc_J3_checkIndex_8e157 : Cond.code mJ3_checkIndex_8e157.1 mJ3_checkIndex_8e157.2.1 mJ3_checkIndex_8e157.2.2.1 mJ3_checkIndex_8e157.2.2.2.1 ∈ ab_Tg ∧ Cond.initialized mJ3_checkIndex_8e157.1.cls ∈ ab_Tg ∧ (mJ3_checkIndex_8e157.1.cls ≠ "java/lang/invoke/MethodHandle" ∧ mJ3_checkIndex_8e157.1.cls ≠ "java/lang/invoke/VarHandle" ∧ (parseMethodDescriptor mJ3_checkIndex_8e157.1.desc).map (fun d => d.parameters.length) = some 3) := ⟨tw_357, tw_65, by decide +kernel, by decide +kernel, by decide +kernel⟩
theorem ss_X0_init_1 : ab_sI mX0_init 1 mX1_init 1 := ⟨⟨zc_X1_init.1, zc_X1_init.2.1, zc_X1_init.2.2, by decide, by decide⟩, tw_210, rfl, rfl, Or.inl tw_236⟩
theorem ss_X0_words_9 : ab_sP mX0_words 9 mX1_words 1 := ⟨⟨zc_X1_words.1, zc_X1_words.2.1, zc_X1_words.2.2, by decide, by decide⟩, tw_508, by decide, tw_507, tw_1418, tw_238⟩
theorem ss_X0_price_13 : ab_sP mX0_price 13 mX1_price 1 := ⟨⟨zc_X1_price.1, zc_X1_price.2.1, zc_X1_price.2.2, by decide, by decide⟩, tw_930, by decide, tw_929, tw_1421, tw_238⟩
theorem ss_X1_init_1 : ab_sI mX1_init 1 mX8_init 1 := ⟨⟨zc_X8_init.1, zc_X8_init.2.1, zc_X8_init.2.2, by decide, by decide⟩, tw_133, rfl, rfl, Or.inl tw_212⟩
theorem ss_X1_words_7 : ab_sP mX1_words 7 mX8_words 1 := ⟨⟨zc_X8_words.1, zc_X8_words.2.1, zc_X8_words.2.2, by decide, by decide⟩, tw_501, by decide, tw_510, tw_503, tw_214⟩
theorem ss_X1_facts_11 : ab_sP mX1_facts 11 mX8_facts 3 := ⟨⟨zc_X8_facts.1, zc_X8_facts.2.1, zc_X8_facts.2.2, by decide, by decide⟩, tw_538, by decide, tw_544, tw_540, tw_214⟩
theorem ss_X1_facts_15 : ab_sS mX1_facts 15 mX11_factBit 1 := ⟨⟨zc_X11_factBit.1, zc_X11_factBit.2.1, zc_X11_factBit.2.2, by decide, by decide⟩, tw_546, Or.inr ⟨_, tw_545⟩⟩
theorem ss_X1_price_20 : ab_sP mX1_price 20 mX8_price 1 := ⟨⟨zc_X8_price.1, zc_X8_price.2.1, zc_X8_price.2.2, by decide, by decide⟩, tw_923, by decide, tw_932, tw_925, tw_214⟩
theorem ss_X1_failure_23 : ab_sP mX1_failure 23 mX8_failure 1 := ⟨⟨zc_X8_failure.1, zc_X8_failure.2.1, zc_X8_failure.2.2, by decide, by decide⟩, tw_1022, by decide, tw_1028, tw_1024, tw_214⟩
theorem ss_X2_init_1 : ab_sI mX2_init 1 mX8_init 1 := ⟨⟨zc_X8_init.1, zc_X8_init.2.1, zc_X8_init.2.2, by decide, by decide⟩, tw_133, rfl, rfl, Or.inl tw_204⟩
theorem ss_X2_words_9 : ab_sP mX2_words 9 mX8_words 1 := ⟨⟨zc_X8_words.1, zc_X8_words.2.1, zc_X8_words.2.2, by decide, by decide⟩, tw_501, by decide, tw_515, tw_503, tw_206⟩
theorem ss_X2_price_13 : ab_sP mX2_price 13 mX8_price 1 := ⟨⟨zc_X8_price.1, zc_X8_price.2.1, zc_X8_price.2.2, by decide, by decide⟩, tw_923, by decide, tw_937, tw_925, tw_206⟩
theorem ss_X3_init_1 : ab_sI mX3_init 1 mX1_init 1 := ⟨⟨zc_X1_init.1, zc_X1_init.2.1, zc_X1_init.2.2, by decide, by decide⟩, tw_210, rfl, rfl, Or.inl tw_220⟩
theorem ss_X3_words_7 : ab_sP mX3_words 7 mX1_words 1 := ⟨⟨zc_X1_words.1, zc_X1_words.2.1, zc_X1_words.2.2, by decide, by decide⟩, tw_508, by decide, tw_519, tw_1418, tw_222⟩
theorem ss_X3_price_11 : ab_sP mX3_price 11 mX1_price 1 := ⟨⟨zc_X1_price.1, zc_X1_price.2.1, zc_X1_price.2.2, by decide, by decide⟩, tw_930, by decide, tw_941, tw_1421, tw_222⟩
theorem ss_X4_init_1 : ab_sI mX4_init 1 mX2_init 1 := ⟨⟨zc_X2_init.1, zc_X2_init.2.1, zc_X2_init.2.2, by decide, by decide⟩, tw_202, rfl, rfl, Or.inl tw_244⟩
theorem ss_X4_words_7 : ab_sP mX4_words 7 mX2_words 1 := ⟨⟨zc_X2_words.1, zc_X2_words.2.1, zc_X2_words.2.2, by decide, by decide⟩, tw_513, by decide, tw_523, tw_1419, tw_246⟩
theorem ss_X4_price_11 : ab_sP mX4_price 11 mX2_price 1 := ⟨⟨zc_X2_price.1, zc_X2_price.2.1, zc_X2_price.2.2, by decide, by decide⟩, tw_935, by decide, tw_945, tw_1422, tw_246⟩
theorem ss_X5_init_1 : ab_sI mX5_init 1 mX3_init 1 := ⟨⟨zc_X3_init.1, zc_X3_init.2.1, zc_X3_init.2.2, by decide, by decide⟩, tw_218, rfl, rfl, Or.inl tw_228⟩
theorem ss_X5_words_9 : ab_sP mX5_words 9 mX3_words 1 := ⟨⟨zc_X3_words.1, zc_X3_words.2.1, zc_X3_words.2.2, by decide, by decide⟩, tw_517, by decide, tw_527, tw_1420, tw_230⟩
theorem ss_X5_price_13 : ab_sP mX5_price 13 mX3_price 1 := ⟨⟨zc_X3_price.1, zc_X3_price.2.1, zc_X3_price.2.2, by decide, by decide⟩, tw_939, by decide, tw_949, tw_1423, tw_230⟩
theorem ss_X6_init_3 : ab_sI mX6_init 3 mX3_init 1 := ⟨⟨zc_X3_init.1, zc_X3_init.2.1, zc_X3_init.2.2, by decide, by decide⟩, tw_218, rfl, rfl, Or.inl tw_252⟩
theorem ss_X6_words_9 : ab_sP mX6_words 9 mX3_words 1 := ⟨⟨zc_X3_words.1, zc_X3_words.2.1, zc_X3_words.2.2, by decide, by decide⟩, tw_517, by decide, tw_531, tw_1420, tw_254⟩
theorem ss_X6_facts_17 : ab_sS mX6_facts 17 mX11_factBit 1 := ⟨⟨zc_X11_factBit.1, zc_X11_factBit.2.1, zc_X11_factBit.2.2, by decide, by decide⟩, tw_546, Or.inr ⟨_, tw_558⟩⟩
theorem ss_X6_price_20 : ab_sP mX6_price 20 mX3_price 1 := ⟨⟨zc_X3_price.1, zc_X3_price.2.1, zc_X3_price.2.2, by decide, by decide⟩, tw_939, by decide, tw_953, tw_1423, tw_254⟩
theorem ss_X6_failure_23_7 : ab_sV mX6_failure 23 7 mX6_price 1 := ⟨⟨zc_X6_price.1, zc_X6_price.2.1, zc_X6_price.2.2, by decide, by decide⟩, tw_951, _, _, _, rfl, Or.inl ⟨tw_1037, tw_1425⟩⟩
theorem so_X7_init_1 : Cond.methodLink mX7_init.1.cls 1 objectInit ∈ ab_Tg ∧ Cond.instanceMethod objectInit ∈ ab_Tg ∧ Cond.code objectInit ⟨#[0xb1]⟩ 1 none ∈ ab_Tg := ⟨tw_438, tw_80, tw_81⟩
theorem ss_X7_told_35 : ab_sV mX7_told 35 8 mX7_words 0 := ⟨⟨zc_X7_words.1, zc_X7_words.2.1, zc_X7_words.2.2, by decide, by decide⟩, tw_497, _, _, _, rfl, Or.inl ⟨tw_496, tw_498⟩⟩
theorem ss_X7_told_39 : ab_sV mX7_told 39 8 mX7_facts 0 := ⟨⟨zc_X7_facts.1, zc_X7_facts.2.1, zc_X7_facts.2.2, by decide, by decide⟩, tw_534, _, _, _, rfl, Or.inl ⟨tw_533, tw_535⟩⟩
theorem ss_X7_words_42_9 : ab_sV mX7_words 42 9 mX8_words 1 := ⟨⟨zc_X8_words.1, zc_X8_words.2.1, zc_X8_words.2.2, by decide, by decide⟩, tw_501, _, _, _, rfl, Or.inl ⟨tw_500, tw_502⟩⟩
theorem ss_X7_words_42_3 : ab_sV mX7_words 42 3 mX2_words 1 := ⟨⟨zc_X2_words.1, zc_X2_words.2.1, zc_X2_words.2.2, by decide, by decide⟩, tw_513, _, _, _, rfl, Or.inr (Or.inr ⟨⟨"WitnessesMustLie$Says", "words", "(I)I"⟩, "WitnessesMustLie$Says", _, _, _, tw_500, tw_503, tw_501, tw_532, tw_512, by decide +kernel, by decide +kernel, rfl⟩)⟩
theorem ss_X7_words_42_2 : ab_sV mX7_words 42 2 mX1_words 1 := ⟨⟨zc_X1_words.1, zc_X1_words.2.1, zc_X1_words.2.2, by decide, by decide⟩, tw_508, _, _, _, rfl, Or.inr (Or.inr ⟨⟨"WitnessesMustLie$Says", "words", "(I)I"⟩, "WitnessesMustLie$Says", _, _, _, tw_500, tw_503, tw_501, tw_532, tw_511, by decide +kernel, by decide +kernel, rfl⟩)⟩
theorem ss_X7_words_42_4 : ab_sV mX7_words 42 4 mX3_words 1 := ⟨⟨zc_X3_words.1, zc_X3_words.2.1, zc_X3_words.2.2, by decide, by decide⟩, tw_517, _, _, _, rfl, Or.inr (Or.inr ⟨⟨"WitnessesMustLie$Says", "words", "(I)I"⟩, "WitnessesMustLie$Says", _, _, _, tw_500, tw_503, tw_501, tw_532, tw_516, by decide +kernel, by decide +kernel, rfl⟩)⟩
theorem ss_X7_words_42_6 : ab_sV mX7_words 42 6 mX5_words 1 := ⟨⟨zc_X5_words.1, zc_X5_words.2.1, zc_X5_words.2.2, by decide, by decide⟩, tw_525, _, _, _, rfl, Or.inr (Or.inr ⟨⟨"WitnessesMustLie$Says", "words", "(I)I"⟩, "WitnessesMustLie$Says", _, _, _, tw_500, tw_503, tw_501, tw_532, tw_524, by decide +kernel, by decide +kernel, rfl⟩)⟩
theorem ss_X7_words_42_1 : ab_sV mX7_words 42 1 mX0_words 1 := ⟨⟨zc_X0_words.1, zc_X0_words.2.1, zc_X0_words.2.2, by decide, by decide⟩, tw_505, _, _, _, rfl, Or.inr (Or.inr ⟨⟨"WitnessesMustLie$Says", "words", "(I)I"⟩, "WitnessesMustLie$Says", _, _, _, tw_500, tw_503, tw_501, tw_532, tw_504, by decide +kernel, by decide +kernel, rfl⟩)⟩
theorem ss_X7_words_42_5 : ab_sV mX7_words 42 5 mX4_words 1 := ⟨⟨zc_X4_words.1, zc_X4_words.2.1, zc_X4_words.2.2, by decide, by decide⟩, tw_521, _, _, _, rfl, Or.inr (Or.inr ⟨⟨"WitnessesMustLie$Says", "words", "(I)I"⟩, "WitnessesMustLie$Says", _, _, _, tw_500, tw_503, tw_501, tw_532, tw_520, by decide +kernel, by decide +kernel, rfl⟩)⟩
theorem ss_X7_words_42_7 : ab_sV mX7_words 42 7 mX6_words 1 := ⟨⟨zc_X6_words.1, zc_X6_words.2.1, zc_X6_words.2.2, by decide, by decide⟩, tw_529, _, _, _, rfl, Or.inr (Or.inr ⟨⟨"WitnessesMustLie$Says", "words", "(I)I"⟩, "WitnessesMustLie$Says", _, _, _, tw_500, tw_503, tw_501, tw_532, tw_528, by decide +kernel, by decide +kernel, rfl⟩)⟩
theorem ss_X7_facts_45_9 : ab_sV mX7_facts 45 9 mX8_facts 3 := ⟨⟨zc_X8_facts.1, zc_X8_facts.2.1, zc_X8_facts.2.2, by decide, by decide⟩, tw_538, _, _, _, rfl, Or.inl ⟨tw_537, tw_539⟩⟩
theorem ss_X7_facts_45_3 : ab_sV mX7_facts 45 3 mX8_facts 3 := ⟨⟨zc_X8_facts.1, zc_X8_facts.2.1, zc_X8_facts.2.2, by decide, by decide⟩, tw_538, _, _, _, rfl, Or.inr (Or.inr ⟨⟨"WitnessesMustLie$Says", "facts", "(III)I"⟩, "WitnessesMustLie$Says", _, _, _, tw_537, tw_540, tw_538, tw_559, tw_549, by decide +kernel, by decide +kernel, rfl⟩)⟩
theorem ss_X7_facts_45_2 : ab_sV mX7_facts 45 2 mX1_facts 3 := ⟨⟨zc_X1_facts.1, zc_X1_facts.2.1, zc_X1_facts.2.2, by decide, by decide⟩, tw_542, _, _, _, rfl, Or.inr (Or.inr ⟨⟨"WitnessesMustLie$Says", "facts", "(III)I"⟩, "WitnessesMustLie$Says", _, _, _, tw_537, tw_540, tw_538, tw_559, tw_548, by decide +kernel, by decide +kernel, rfl⟩)⟩
theorem ss_X7_facts_45_4 : ab_sV mX7_facts 45 4 mX1_facts 3 := ⟨⟨zc_X1_facts.1, zc_X1_facts.2.1, zc_X1_facts.2.2, by decide, by decide⟩, tw_542, _, _, _, rfl, Or.inr (Or.inr ⟨⟨"WitnessesMustLie$Says", "facts", "(III)I"⟩, "WitnessesMustLie$Says", _, _, _, tw_537, tw_540, tw_538, tw_559, tw_550, by decide +kernel, by decide +kernel, rfl⟩)⟩
theorem ss_X7_facts_45_6 : ab_sV mX7_facts 45 6 mX1_facts 3 := ⟨⟨zc_X1_facts.1, zc_X1_facts.2.1, zc_X1_facts.2.2, by decide, by decide⟩, tw_542, _, _, _, rfl, Or.inr (Or.inr ⟨⟨"WitnessesMustLie$Says", "facts", "(III)I"⟩, "WitnessesMustLie$Says", _, _, _, tw_537, tw_540, tw_538, tw_559, tw_552, by decide +kernel, by decide +kernel, rfl⟩)⟩
theorem ss_X7_facts_45_1 : ab_sV mX7_facts 45 1 mX1_facts 3 := ⟨⟨zc_X1_facts.1, zc_X1_facts.2.1, zc_X1_facts.2.2, by decide, by decide⟩, tw_542, _, _, _, rfl, Or.inr (Or.inr ⟨⟨"WitnessesMustLie$Says", "facts", "(III)I"⟩, "WitnessesMustLie$Says", _, _, _, tw_537, tw_540, tw_538, tw_559, tw_541, by decide +kernel, by decide +kernel, rfl⟩)⟩
theorem ss_X7_facts_45_5 : ab_sV mX7_facts 45 5 mX8_facts 3 := ⟨⟨zc_X8_facts.1, zc_X8_facts.2.1, zc_X8_facts.2.2, by decide, by decide⟩, tw_538, _, _, _, rfl, Or.inr (Or.inr ⟨⟨"WitnessesMustLie$Says", "facts", "(III)I"⟩, "WitnessesMustLie$Says", _, _, _, tw_537, tw_540, tw_538, tw_559, tw_551, by decide +kernel, by decide +kernel, rfl⟩)⟩
theorem ss_X7_facts_45_7 : ab_sV mX7_facts 45 7 mX6_facts 3 := ⟨⟨zc_X6_facts.1, zc_X6_facts.2.1, zc_X6_facts.2.2, by decide, by decide⟩, tw_554, _, _, _, rfl, Or.inr (Or.inr ⟨⟨"WitnessesMustLie$Says", "facts", "(III)I"⟩, "WitnessesMustLie$Says", _, _, _, tw_537, tw_540, tw_538, tw_559, tw_553, by decide +kernel, by decide +kernel, rfl⟩)⟩
theorem so_X8_init_3 : Cond.methodLink mX8_init.1.cls 3 objectInit ∈ ab_Tg ∧ Cond.instanceMethod objectInit ∈ ab_Tg ∧ Cond.code objectInit ⟨#[0xb1]⟩ 1 none ∈ ab_Tg := ⟨tw_135, tw_80, tw_81⟩
theorem ss_X8_worldsOf_15 : ab_sS mX8_worldsOf 15 mX11_worldsWith 1 := ⟨⟨zc_X11_worldsWith.1, zc_X11_worldsWith.2.1, zc_X11_worldsWith.2.2, by decide, by decide⟩, tw_403, Or.inr ⟨_, tw_402⟩⟩
theorem ss_X8_worldsOf_19_9 : ab_sV mX8_worldsOf 19 9 mX8_trueWorlds 3 := ⟨⟨zc_X8_trueWorlds.1, zc_X8_trueWorlds.2.1, zc_X8_trueWorlds.2.2, by decide, by decide⟩, tw_407, _, _, _, rfl, Or.inl ⟨tw_406, tw_408⟩⟩
theorem ss_X8_worldsOf_19_3 : ab_sV mX8_worldsOf 19 3 mX2_trueWorlds 3 := ⟨⟨zc_X2_trueWorlds.1, zc_X2_trueWorlds.2.1, zc_X2_trueWorlds.2.2, by decide, by decide⟩, tw_418, _, _, _, rfl, Or.inr (Or.inr ⟨⟨"WitnessesMustLie$Says", "trueWorlds", "(JJJ)J"⟩, "WitnessesMustLie$Says", _, _, _, tw_406, tw_409, tw_407, tw_434, tw_417, by decide +kernel, by decide +kernel, rfl⟩)⟩
theorem ss_X8_worldsOf_19_2 : ab_sV mX8_worldsOf 19 2 mX1_trueWorlds 3 := ⟨⟨zc_X1_trueWorlds.1, zc_X1_trueWorlds.2.1, zc_X1_trueWorlds.2.2, by decide, by decide⟩, tw_415, _, _, _, rfl, Or.inr (Or.inr ⟨⟨"WitnessesMustLie$Says", "trueWorlds", "(JJJ)J"⟩, "WitnessesMustLie$Says", _, _, _, tw_406, tw_409, tw_407, tw_434, tw_414, by decide +kernel, by decide +kernel, rfl⟩)⟩
theorem ss_X8_worldsOf_19_4 : ab_sV mX8_worldsOf 19 4 mX3_trueWorlds 3 := ⟨⟨zc_X3_trueWorlds.1, zc_X3_trueWorlds.2.1, zc_X3_trueWorlds.2.2, by decide, by decide⟩, tw_422, _, _, _, rfl, Or.inr (Or.inr ⟨⟨"WitnessesMustLie$Says", "trueWorlds", "(JJJ)J"⟩, "WitnessesMustLie$Says", _, _, _, tw_406, tw_409, tw_407, tw_434, tw_421, by decide +kernel, by decide +kernel, rfl⟩)⟩
theorem ss_X8_worldsOf_19_6 : ab_sV mX8_worldsOf 19 6 mX5_trueWorlds 3 := ⟨⟨zc_X5_trueWorlds.1, zc_X5_trueWorlds.2.1, zc_X5_trueWorlds.2.2, by decide, by decide⟩, tw_428, _, _, _, rfl, Or.inr (Or.inr ⟨⟨"WitnessesMustLie$Says", "trueWorlds", "(JJJ)J"⟩, "WitnessesMustLie$Says", _, _, _, tw_406, tw_409, tw_407, tw_434, tw_427, by decide +kernel, by decide +kernel, rfl⟩)⟩
theorem ss_X8_worldsOf_19_1 : ab_sV mX8_worldsOf 19 1 mX0_trueWorlds 3 := ⟨⟨zc_X0_trueWorlds.1, zc_X0_trueWorlds.2.1, zc_X0_trueWorlds.2.2, by decide, by decide⟩, tw_411, _, _, _, rfl, Or.inr (Or.inr ⟨⟨"WitnessesMustLie$Says", "trueWorlds", "(JJJ)J"⟩, "WitnessesMustLie$Says", _, _, _, tw_406, tw_409, tw_407, tw_434, tw_410, by decide +kernel, by decide +kernel, rfl⟩)⟩
theorem ss_X8_worldsOf_19_5 : ab_sV mX8_worldsOf 19 5 mX4_trueWorlds 3 := ⟨⟨zc_X4_trueWorlds.1, zc_X4_trueWorlds.2.1, zc_X4_trueWorlds.2.2, by decide, by decide⟩, tw_425, _, _, _, rfl, Or.inr (Or.inr ⟨⟨"WitnessesMustLie$Says", "trueWorlds", "(JJJ)J"⟩, "WitnessesMustLie$Says", _, _, _, tw_406, tw_409, tw_407, tw_434, tw_424, by decide +kernel, by decide +kernel, rfl⟩)⟩
theorem ss_X8_worldsOf_19_7 : ab_sV mX8_worldsOf 19 7 mX6_trueWorlds 3 := ⟨⟨zc_X6_trueWorlds.1, zc_X6_trueWorlds.2.1, zc_X6_trueWorlds.2.2, by decide, by decide⟩, tw_432, _, _, _, rfl, Or.inr (Or.inr ⟨⟨"WitnessesMustLie$Says", "trueWorlds", "(JJJ)J"⟩, "WitnessesMustLie$Says", _, _, _, tw_406, tw_409, tw_407, tw_434, tw_431, by decide +kernel, by decide +kernel, rfl⟩)⟩
theorem ss_X8_facts_23 : ab_sS mX8_facts 23 mX11_factBit 1 := ⟨⟨zc_X11_factBit.1, zc_X11_factBit.2.1, zc_X11_factBit.2.2, by decide, by decide⟩, tw_546, Or.inr ⟨_, tw_560⟩⟩
theorem so_X9_init_3 : Cond.methodLink mX9_init.1.cls 3 objectInit ∈ ab_Tg ∧ Cond.instanceMethod objectInit ∈ ab_Tg ∧ Cond.code objectInit ⟨#[0xb1]⟩ 1 none ∈ ab_Tg := ⟨tw_259, tw_80, tw_81⟩
theorem ss_X9_refusalAsSaying_32 : ab_sV mX9_refusalAsSaying 32 10 mX9_refusalUnless 1 := ⟨⟨zc_X9_refusalUnless.1, zc_X9_refusalUnless.2.1, zc_X9_refusalUnless.2.2, by decide, by decide⟩, tw_307, _, _, _, rfl, Or.inl ⟨tw_306, tw_4⟩⟩
theorem ss_X9_refusalAsRow_32 : ab_sV mX9_refusalAsRow 32 10 mX9_refusalUnless 1 := ⟨⟨zc_X9_refusalUnless.1, zc_X9_refusalUnless.2.1, zc_X9_refusalUnless.2.2, by decide, by decide⟩, tw_307, _, _, _, rfl, Or.inl ⟨tw_306, tw_4⟩⟩
theorem ss_X9_refusalUnless_36 : ab_sV mX9_refusalUnless 36 10 mX9_isEmpty 0 := ⟨⟨zc_X9_isEmpty.1, zc_X9_isEmpty.2.1, zc_X9_isEmpty.2.2, by decide, by decide⟩, tw_310, _, _, _, rfl, Or.inl ⟨tw_309, tw_311⟩⟩
theorem ss_X9_worldsOf_40_9 : ab_sV mX9_worldsOf 40 9 mX8_worldsOf 3 := ⟨⟨zc_X8_worldsOf.1, zc_X8_worldsOf.2.1, zc_X8_worldsOf.2.2, by decide, by decide⟩, tw_391, _, _, _, rfl, Or.inl ⟨tw_590, tw_392⟩⟩
theorem ss_X9_worldsOf_40_3 : ab_sV mX9_worldsOf 40 3 mX8_worldsOf 3 := ⟨⟨zc_X8_worldsOf.1, zc_X8_worldsOf.2.1, zc_X8_worldsOf.2.2, by decide, by decide⟩, tw_391, _, _, _, rfl, Or.inr (Or.inr ⟨⟨"WitnessesMustLie$Says", "worldsOf", "(III)J"⟩, "WitnessesMustLie$Says", _, _, _, tw_590, tw_393, tw_391, tw_401, tw_396, by decide +kernel, by decide +kernel, rfl⟩)⟩
theorem ss_X9_worldsOf_40_2 : ab_sV mX9_worldsOf 40 2 mX8_worldsOf 3 := ⟨⟨zc_X8_worldsOf.1, zc_X8_worldsOf.2.1, zc_X8_worldsOf.2.2, by decide, by decide⟩, tw_391, _, _, _, rfl, Or.inr (Or.inr ⟨⟨"WitnessesMustLie$Says", "worldsOf", "(III)J"⟩, "WitnessesMustLie$Says", _, _, _, tw_590, tw_393, tw_391, tw_401, tw_395, by decide +kernel, by decide +kernel, rfl⟩)⟩
theorem ss_X9_worldsOf_40_4 : ab_sV mX9_worldsOf 40 4 mX8_worldsOf 3 := ⟨⟨zc_X8_worldsOf.1, zc_X8_worldsOf.2.1, zc_X8_worldsOf.2.2, by decide, by decide⟩, tw_391, _, _, _, rfl, Or.inr (Or.inr ⟨⟨"WitnessesMustLie$Says", "worldsOf", "(III)J"⟩, "WitnessesMustLie$Says", _, _, _, tw_590, tw_393, tw_391, tw_401, tw_397, by decide +kernel, by decide +kernel, rfl⟩)⟩
theorem ss_X9_worldsOf_40_6 : ab_sV mX9_worldsOf 40 6 mX8_worldsOf 3 := ⟨⟨zc_X8_worldsOf.1, zc_X8_worldsOf.2.1, zc_X8_worldsOf.2.2, by decide, by decide⟩, tw_391, _, _, _, rfl, Or.inr (Or.inr ⟨⟨"WitnessesMustLie$Says", "worldsOf", "(III)J"⟩, "WitnessesMustLie$Says", _, _, _, tw_590, tw_393, tw_391, tw_401, tw_399, by decide +kernel, by decide +kernel, rfl⟩)⟩
theorem ss_X9_worldsOf_40_1 : ab_sV mX9_worldsOf 40 1 mX8_worldsOf 3 := ⟨⟨zc_X8_worldsOf.1, zc_X8_worldsOf.2.1, zc_X8_worldsOf.2.2, by decide, by decide⟩, tw_391, _, _, _, rfl, Or.inr (Or.inr ⟨⟨"WitnessesMustLie$Says", "worldsOf", "(III)J"⟩, "WitnessesMustLie$Says", _, _, _, tw_590, tw_393, tw_391, tw_401, tw_394, by decide +kernel, by decide +kernel, rfl⟩)⟩
theorem ss_X9_worldsOf_40_5 : ab_sV mX9_worldsOf 40 5 mX8_worldsOf 3 := ⟨⟨zc_X8_worldsOf.1, zc_X8_worldsOf.2.1, zc_X8_worldsOf.2.2, by decide, by decide⟩, tw_391, _, _, _, rfl, Or.inr (Or.inr ⟨⟨"WitnessesMustLie$Says", "worldsOf", "(III)J"⟩, "WitnessesMustLie$Says", _, _, _, tw_590, tw_393, tw_391, tw_401, tw_398, by decide +kernel, by decide +kernel, rfl⟩)⟩
theorem ss_X9_worldsOf_40_7 : ab_sV mX9_worldsOf 40 7 mX8_worldsOf 3 := ⟨⟨zc_X8_worldsOf.1, zc_X8_worldsOf.2.1, zc_X8_worldsOf.2.2, by decide, by decide⟩, tw_391, _, _, _, rfl, Or.inr (Or.inr ⟨⟨"WitnessesMustLie$Says", "worldsOf", "(III)J"⟩, "WitnessesMustLie$Says", _, _, _, tw_590, tw_393, tw_391, tw_401, tw_400, by decide +kernel, by decide +kernel, rfl⟩)⟩
theorem ss_X9_numberAt_46 : ab_sV mX9_numberAt 46 10 mX9_hasPlaces 2 := ⟨⟨zc_X9_hasPlaces.1, zc_X9_hasPlaces.2.1, zc_X9_hasPlaces.2.2, by decide, by decide⟩, tw_321, _, _, _, rfl, Or.inl ⟨tw_320, tw_322⟩⟩
theorem ss_X9_setNumber_46 : ab_sV mX9_setNumber 46 10 mX9_hasPlaces 2 := ⟨⟨zc_X9_hasPlaces.1, zc_X9_hasPlaces.2.1, zc_X9_hasPlaces.2.2, by decide, by decide⟩, tw_321, _, _, _, rfl, Or.inl ⟨tw_320, tw_322⟩⟩
theorem ss_X9_setNumber_50 : ab_sV mX9_setNumber 50 10 mX9_lowestBits 1 := ⟨⟨zc_X9_lowestBits.1, zc_X9_lowestBits.2.1, zc_X9_lowestBits.2.2, by decide, by decide⟩, tw_909, _, _, _, rfl, Or.inl ⟨tw_908, tw_18⟩⟩
theorem ss_X9_isSkipped_53 : ab_sV mX9_isSkipped 53 10 mX9_numberAt 1 := ⟨⟨zc_X9_numberAt.1, zc_X9_numberAt.2.1, zc_X9_numberAt.2.2, by decide, by decide⟩, tw_317, _, _, _, rfl, Or.inl ⟨tw_833, tw_318⟩⟩
theorem ss_X9_tellsTrueOrFalse_53 : ab_sV mX9_tellsTrueOrFalse 53 10 mX9_numberAt 1 := ⟨⟨zc_X9_numberAt.1, zc_X9_numberAt.2.1, zc_X9_numberAt.2.2, by decide, by decide⟩, tw_317, _, _, _, rfl, Or.inl ⟨tw_833, tw_318⟩⟩
theorem ss_X9_tellsTrueOrFalse_57 : ab_sV mX9_tellsTrueOrFalse 57 10 mX9_isSkipped 1 := ⟨⟨zc_X9_isSkipped.1, zc_X9_isSkipped.2.1, zc_X9_isSkipped.2.2, by decide, by decide⟩, tw_835, _, _, _, rfl, Or.inl ⟨tw_834, tw_836⟩⟩
theorem so_X10_init_3 : Cond.methodLink mX10_init.1.cls 3 objectInit ∈ ab_Tg ∧ Cond.instanceMethod objectInit ∈ ab_Tg ∧ Cond.code objectInit ⟨#[0xb1]⟩ 1 none ∈ ab_Tg := ⟨tw_111, tw_80, tw_81⟩
theorem ss_X10_init_11 : ab_sI mX10_init 11 mJx4a65c_init_da8c8 0 := ⟨⟨zc_Jx4a65c_init_da8c8.1, zc_Jx4a65c_init_da8c8.2.1, zc_Jx4a65c_init_da8c8.2.2, by decide, by decide⟩, tw_85, rfl, rfl, Or.inl tw_113⟩
theorem ss_X10_becomes_25 : ab_sS mX10_becomes 25 mX10_refill 2 := ⟨⟨zc_X10_refill.1, zc_X10_refill.2.1, zc_X10_refill.2.2, by decide, by decide⟩, tw_338, Or.inl tw_337⟩
theorem ss_X10_becomes_29 : ab_sV mX10_becomes 29 11 mX10_knownBy 1 := ⟨⟨zc_X10_knownBy.1, zc_X10_knownBy.2.1, zc_X10_knownBy.2.2, by decide, by decide⟩, tw_365, _, _, _, rfl, Or.inl ⟨tw_364, tw_366⟩⟩
theorem ss_X10_refill_40 : ab_sV mX10_refill 40 0 mJx4a65c_clear_da8c8 0 := ⟨⟨zc_Jx4a65c_clear_da8c8.1, zc_Jx4a65c_clear_da8c8.2.1, zc_Jx4a65c_clear_da8c8.2.2, by decide, by decide⟩, tw_341, _, _, _, rfl, Or.inl ⟨tw_340, tw_342⟩⟩
theorem ss_X10_refill_43 : ab_sV mX10_refill 43 0 mJx4a65c_size_8abf5 0 := ⟨⟨zc_Jx4a65c_size_8abf5.1, zc_Jx4a65c_size_8abf5.2.1, zc_Jx4a65c_size_8abf5.2.2, by decide, by decide⟩, tw_345, _, _, _, rfl, Or.inl ⟨tw_344, tw_346⟩⟩
theorem ss_X10_refill_47 : ab_sV mX10_refill 47 0 mJx4a65c_get_915e3 1 := ⟨⟨zc_Jx4a65c_get_915e3.1, zc_Jx4a65c_get_915e3.2.1, zc_Jx4a65c_get_915e3.2.2, by decide, by decide⟩, tw_349, _, _, _, rfl, Or.inl ⟨tw_348, tw_350⟩⟩
theorem ss_X10_refill_53 : ab_sV mX10_refill 53 0 mJx4a65c_add_9ea2d 1 := ⟨⟨zc_Jx4a65c_add_9ea2d.1, zc_Jx4a65c_add_9ea2d.2.1, zc_Jx4a65c_add_9ea2d.2.2, by decide, by decide⟩, tw_142, _, _, _, rfl, Or.inl ⟨tw_363, tw_143⟩⟩
theorem ss_X10_addLaw_43 : ab_sV mX10_addLaw 43 0 mJx4a65c_size_8abf5 0 := ⟨⟨zc_Jx4a65c_size_8abf5.1, zc_Jx4a65c_size_8abf5.2.1, zc_Jx4a65c_size_8abf5.2.2, by decide, by decide⟩, tw_345, _, _, _, rfl, Or.inl ⟨tw_344, tw_346⟩⟩
theorem ss_X10_addLaw_53 : ab_sV mX10_addLaw 53 0 mJx4a65c_add_9ea2d 1 := ⟨⟨zc_Jx4a65c_add_9ea2d.1, zc_Jx4a65c_add_9ea2d.2.1, zc_Jx4a65c_add_9ea2d.2.2, by decide, by decide⟩, tw_142, _, _, _, rfl, Or.inl ⟨tw_363, tw_143⟩⟩
theorem ss_X10_addSaid_60 : ab_sV mX10_addSaid 60 11 mX10_hasWitness 1 := ⟨⟨zc_X10_hasWitness.1, zc_X10_hasWitness.2.1, zc_X10_hasWitness.2.2, by decide, by decide⟩, tw_482, _, _, _, rfl, Or.inl ⟨tw_481, tw_483⟩⟩
theorem ss_X10_addSaid_43 : ab_sV mX10_addSaid 43 0 mJx4a65c_size_8abf5 0 := ⟨⟨zc_Jx4a65c_size_8abf5.1, zc_Jx4a65c_size_8abf5.2.1, zc_Jx4a65c_size_8abf5.2.2, by decide, by decide⟩, tw_345, _, _, _, rfl, Or.inl ⟨tw_344, tw_346⟩⟩
theorem ss_X10_addSaid_53 : ab_sV mX10_addSaid 53 0 mJx4a65c_add_9ea2d 1 := ⟨⟨zc_Jx4a65c_add_9ea2d.1, zc_Jx4a65c_add_9ea2d.2.1, zc_Jx4a65c_add_9ea2d.2.2, by decide, by decide⟩, tw_142, _, _, _, rfl, Or.inl ⟨tw_363, tw_143⟩⟩
theorem ss_X10_addWitness_64 : ab_sS mX10_addWitness 64 mX11_areFacts 1 := ⟨⟨zc_X11_areFacts.1, zc_X11_areFacts.2.1, zc_X11_areFacts.2.2, by decide, by decide⟩, tw_468, Or.inr ⟨_, tw_467⟩⟩
theorem ss_X10_setTruth_67 : ab_sS mX10_setTruth 67 mX11_isWorld 1 := ⟨⟨zc_X11_isWorld.1, zc_X11_isWorld.2.1, zc_X11_isWorld.2.2, by decide, by decide⟩, tw_475, Or.inr ⟨_, tw_474⟩⟩
theorem ss_X10_mayBe_43 : ab_sV mX10_mayBe 43 0 mJx4a65c_size_8abf5 0 := ⟨⟨zc_Jx4a65c_size_8abf5.1, zc_Jx4a65c_size_8abf5.2.1, zc_Jx4a65c_size_8abf5.2.2, by decide, by decide⟩, tw_345, _, _, _, rfl, Or.inl ⟨tw_344, tw_346⟩⟩
theorem ss_X10_mayBe_47 : ab_sV mX10_mayBe 47 0 mJx4a65c_get_915e3 1 := ⟨⟨zc_Jx4a65c_get_915e3.1, zc_Jx4a65c_get_915e3.2.1, zc_Jx4a65c_get_915e3.2.2, by decide, by decide⟩, tw_349, _, _, _, rfl, Or.inl ⟨tw_348, tw_350⟩⟩
theorem ss_X10_left_76 : ab_sV mX10_left 76 11 mX10_mayBe 0 := ⟨⟨zc_X10_mayBe.1, zc_X10_mayBe.2.1, zc_X10_mayBe.2.2, by decide, by decide⟩, tw_632, _, _, _, rfl, Or.inl ⟨tw_631, tw_633⟩⟩
theorem ss_X10_left_80 : ab_sV mX10_left 80 11 mX10_leftBySaid 2 := ⟨⟨zc_X10_leftBySaid.1, zc_X10_leftBySaid.2.1, zc_X10_leftBySaid.2.2, by decide, by decide⟩, tw_641, _, _, _, rfl, Or.inl ⟨tw_640, tw_642⟩⟩
theorem ss_X10_mayBeOrLeft_76 : ab_sV mX10_mayBeOrLeft 76 11 mX10_mayBe 0 := ⟨⟨zc_X10_mayBe.1, zc_X10_mayBe.2.1, zc_X10_mayBe.2.2, by decide, by decide⟩, tw_632, _, _, _, rfl, Or.inl ⟨tw_631, tw_633⟩⟩
theorem ss_X10_mayBeOrLeft_84 : ab_sV mX10_mayBeOrLeft 84 11 mX10_left 0 := ⟨⟨zc_X10_left.1, zc_X10_left.2.1, zc_X10_left.2.2, by decide, by decide⟩, tw_637, _, _, _, rfl, Or.inl ⟨tw_636, tw_638⟩⟩
theorem ss_X10_leftBySaid_43 : ab_sV mX10_leftBySaid 43 0 mJx4a65c_size_8abf5 0 := ⟨⟨zc_Jx4a65c_size_8abf5.1, zc_Jx4a65c_size_8abf5.2.1, zc_Jx4a65c_size_8abf5.2.2, by decide, by decide⟩, tw_345, _, _, _, rfl, Or.inl ⟨tw_344, tw_346⟩⟩
theorem ss_X10_leftBySaid_47 : ab_sV mX10_leftBySaid 47 0 mJx4a65c_get_915e3 1 := ⟨⟨zc_Jx4a65c_get_915e3.1, zc_Jx4a65c_get_915e3.2.1, zc_Jx4a65c_get_915e3.2.2, by decide, by decide⟩, tw_349, _, _, _, rfl, Or.inl ⟨tw_348, tw_350⟩⟩
theorem ss_X10_leftByTellers_43 : ab_sV mX10_leftByTellers 43 0 mJx4a65c_size_8abf5 0 := ⟨⟨zc_Jx4a65c_size_8abf5.1, zc_Jx4a65c_size_8abf5.2.1, zc_Jx4a65c_size_8abf5.2.2, by decide, by decide⟩, tw_345, _, _, _, rfl, Or.inl ⟨tw_344, tw_346⟩⟩
theorem ss_X10_leftByTellers_47 : ab_sV mX10_leftByTellers 47 0 mJx4a65c_get_915e3 1 := ⟨⟨zc_Jx4a65c_get_915e3.1, zc_Jx4a65c_get_915e3.2.1, zc_Jx4a65c_get_915e3.2.2, by decide, by decide⟩, tw_349, _, _, _, rfl, Or.inl ⟨tw_348, tw_350⟩⟩
theorem ss_X10_leftByTellers_76 : ab_sV mX10_leftByTellers 76 11 mX10_mayBe 0 := ⟨⟨zc_X10_mayBe.1, zc_X10_mayBe.2.1, zc_X10_mayBe.2.2, by decide, by decide⟩, tw_632, _, _, _, rfl, Or.inl ⟨tw_631, tw_633⟩⟩
theorem ss_X10_leftByTellers_80 : ab_sV mX10_leftByTellers 80 11 mX10_leftBySaid 2 := ⟨⟨zc_X10_leftBySaid.1, zc_X10_leftBySaid.2.1, zc_X10_leftBySaid.2.2, by decide, by decide⟩, tw_641, _, _, _, rfl, Or.inl ⟨tw_640, tw_642⟩⟩
theorem ss_X10_isPlainBy_87 : ab_sV mX10_isPlainBy 87 11 mX10_leftByTellers 1 := ⟨⟨zc_X10_leftByTellers.1, zc_X10_leftByTellers.2.1, zc_X10_leftByTellers.2.2, by decide, by decide⟩, tw_726, _, _, _, rfl, Or.inl ⟨tw_725, tw_727⟩⟩
theorem ss_X10_isPlainBy_91 : ab_sS mX10_isPlainBy 91 mJ13_bitCount_95d88 1 := ⟨⟨zc_J13_bitCount_95d88.1, zc_J13_bitCount_95d88.2.1, zc_J13_bitCount_95d88.2.2, by decide, by decide⟩, tw_653, Or.inl tw_729⟩
theorem ss_X10_trueOnes_43 : ab_sV mX10_trueOnes 43 0 mJx4a65c_size_8abf5 0 := ⟨⟨zc_Jx4a65c_size_8abf5.1, zc_Jx4a65c_size_8abf5.2.1, zc_Jx4a65c_size_8abf5.2.2, by decide, by decide⟩, tw_345, _, _, _, rfl, Or.inl ⟨tw_344, tw_346⟩⟩
theorem ss_X10_trueOnes_47 : ab_sV mX10_trueOnes 47 0 mJx4a65c_get_915e3 1 := ⟨⟨zc_Jx4a65c_get_915e3.1, zc_Jx4a65c_get_915e3.2.1, zc_Jx4a65c_get_915e3.2.2, by decide, by decide⟩, tw_349, _, _, _, rfl, Or.inl ⟨tw_348, tw_350⟩⟩
theorem ss_X10_trueOnes_97 : ab_sS mX10_trueOnes 97 mX11_hasWorld 2 := ⟨⟨zc_X11_hasWorld.1, zc_X11_hasWorld.2.1, zc_X11_hasWorld.2.2, by decide, by decide⟩, tw_566, Or.inr ⟨_, tw_680⟩⟩
theorem ss_X10_wordsSaid_43 : ab_sV mX10_wordsSaid 43 0 mJx4a65c_size_8abf5 0 := ⟨⟨zc_Jx4a65c_size_8abf5.1, zc_Jx4a65c_size_8abf5.2.1, zc_Jx4a65c_size_8abf5.2.2, by decide, by decide⟩, tw_345, _, _, _, rfl, Or.inl ⟨tw_344, tw_346⟩⟩
theorem ss_X10_wordsSaid_47 : ab_sV mX10_wordsSaid 47 0 mJx4a65c_get_915e3 1 := ⟨⟨zc_Jx4a65c_get_915e3.1, zc_Jx4a65c_get_915e3.2.1, zc_Jx4a65c_get_915e3.2.2, by decide, by decide⟩, tw_349, _, _, _, rfl, Or.inl ⟨tw_348, tw_350⟩⟩
theorem ss_X10_wordsSaid_101 : ab_sV mX10_wordsSaid 101 8 mX7_words 0 := ⟨⟨zc_X7_words.1, zc_X7_words.2.1, zc_X7_words.2.2, by decide, by decide⟩, tw_497, _, _, _, rfl, Or.inl ⟨tw_879, tw_498⟩⟩
theorem ss_X10_reachedFrom_97 : ab_sS mX10_reachedFrom 97 mX11_hasWorld 2 := ⟨⟨zc_X11_hasWorld.1, zc_X11_hasWorld.2.1, zc_X11_hasWorld.2.2, by decide, by decide⟩, tw_566, Or.inr ⟨_, tw_680⟩⟩
theorem ss_X10_reachedFrom_29 : ab_sV mX10_reachedFrom 29 11 mX10_knownBy 1 := ⟨⟨zc_X10_knownBy.1, zc_X10_knownBy.2.1, zc_X10_knownBy.2.2, by decide, by decide⟩, tw_365, _, _, _, rfl, Or.inl ⟨tw_364, tw_366⟩⟩
theorem ss_X10_reachedFrom_104 : ab_sS mX10_reachedFrom 104 mX11_likeInKnown 3 := ⟨⟨zc_X11_likeInKnown.1, zc_X11_likeInKnown.2.1, zc_X11_likeInKnown.2.2, by decide, by decide⟩, tw_794, Or.inr ⟨_, tw_811⟩⟩
theorem so_X11_init_3 : Cond.methodLink mX11_init.1.cls 3 objectInit ∈ ab_Tg ∧ Cond.instanceMethod objectInit ∈ ab_Tg ∧ Cond.code objectInit ⟨#[0xb1]⟩ 1 none ∈ ab_Tg := ⟨tw_79, tw_80, tw_81⟩
theorem ss_X11_init_11 : ab_sI mX11_init 11 mJx4a65c_init_da8c8 0 := ⟨⟨zc_Jx4a65c_init_da8c8.1, zc_Jx4a65c_init_da8c8.2.1, zc_Jx4a65c_init_da8c8.2.2, by decide, by decide⟩, tw_85, rfl, rfl, Or.inl tw_84⟩
theorem ss_X11_init_24 : ab_sI mX11_init 24 mX10_init 0 := ⟨⟨zc_X10_init.1, zc_X10_init.2.1, zc_X10_init.2.2, by decide, by decide⟩, tw_109, rfl, rfl, Or.inr ⟨_, tw_108⟩⟩
theorem ss_X11_init_44 : ab_sI mX11_init 44 mX8_init 1 := ⟨⟨zc_X8_init.1, zc_X8_init.2.1, zc_X8_init.2.2, by decide, by decide⟩, tw_133, rfl, rfl, Or.inl tw_132⟩
theorem ss_X11_init_47 : ab_sV mX11_init 47 0 mJx4a65c_add_9ea2d 1 := ⟨⟨zc_Jx4a65c_add_9ea2d.1, zc_Jx4a65c_add_9ea2d.2.1, zc_Jx4a65c_add_9ea2d.2.2, by decide, by decide⟩, tw_142, _, _, _, rfl, Or.inl ⟨tw_141, tw_143⟩⟩
theorem ss_X11_init_53 : ab_sI mX11_init 53 mX2_init 1 := ⟨⟨zc_X2_init.1, zc_X2_init.2.1, zc_X2_init.2.2, by decide, by decide⟩, tw_202, rfl, rfl, Or.inl tw_201⟩
theorem ss_X11_init_56 : ab_sI mX11_init 56 mX1_init 1 := ⟨⟨zc_X1_init.1, zc_X1_init.2.1, zc_X1_init.2.2, by decide, by decide⟩, tw_210, rfl, rfl, Or.inl tw_209⟩
theorem ss_X11_init_59 : ab_sI mX11_init 59 mX3_init 1 := ⟨⟨zc_X3_init.1, zc_X3_init.2.1, zc_X3_init.2.2, by decide, by decide⟩, tw_218, rfl, rfl, Or.inl tw_217⟩
theorem ss_X11_init_62 : ab_sI mX11_init 62 mX5_init 1 := ⟨⟨zc_X5_init.1, zc_X5_init.2.1, zc_X5_init.2.2, by decide, by decide⟩, tw_226, rfl, rfl, Or.inl tw_225⟩
theorem ss_X11_init_65 : ab_sI mX11_init 65 mX0_init 1 := ⟨⟨zc_X0_init.1, zc_X0_init.2.1, zc_X0_init.2.2, by decide, by decide⟩, tw_234, rfl, rfl, Or.inl tw_233⟩
theorem ss_X11_init_68 : ab_sI mX11_init 68 mX4_init 1 := ⟨⟨zc_X4_init.1, zc_X4_init.2.1, zc_X4_init.2.2, by decide, by decide⟩, tw_242, rfl, rfl, Or.inl tw_241⟩
theorem ss_X11_init_71 : ab_sI mX11_init 71 mX6_init 1 := ⟨⟨zc_X6_init.1, zc_X6_init.2.1, zc_X6_init.2.2, by decide, by decide⟩, tw_250, rfl, rfl, Or.inl tw_249⟩
theorem ss_X11_init_72 : ab_sI mX11_init 72 mX9_init 1 := ⟨⟨zc_X9_init.1, zc_X9_init.2.1, zc_X9_init.2.2, by decide, by decide⟩, tw_257, rfl, rfl, Or.inl tw_256⟩
theorem ss_X11_trial_75 : ab_sV mX11_trial 75 12 mX11_shelfAt 1 := ⟨⟨zc_X11_shelfAt.1, zc_X11_shelfAt.2.1, zc_X11_shelfAt.2.2, by decide, by decide⟩, tw_300, _, _, _, rfl, Or.inl ⟨tw_299, tw_3⟩⟩
theorem ss_X11_trial_79 : ab_sV mX11_trial 79 10 mX9_refusalAsRow 0 := ⟨⟨zc_X9_refusalAsRow.1, zc_X9_refusalAsRow.2.1, zc_X9_refusalAsRow.2.2, by decide, by decide⟩, tw_303, _, _, _, rfl, Or.inl ⟨tw_302, tw_304⟩⟩
theorem ss_X11_trial_87 : ab_sS mX11_trial 87 mX11_brokenPlace 1 := ⟨⟨zc_X11_brokenPlace.1, zc_X11_brokenPlace.2.1, zc_X11_brokenPlace.2.2, by decide, by decide⟩, tw_314, Or.inl tw_313⟩
theorem ss_X11_trial_91 : ab_sV mX11_trial 91 12 mX11_enact 1 := ⟨⟨zc_X11_enact.1, zc_X11_enact.2.1, zc_X11_enact.2.2, by decide, by decide⟩, tw_331, _, _, _, rfl, Or.inl ⟨tw_330, tw_5⟩⟩
theorem ss_X11_law_97 : ab_sS mX11_law 97 mX11_sayingIn 2 := ⟨⟨zc_X11_sayingIn.1, zc_X11_sayingIn.2.1, zc_X11_sayingIn.2.2, by decide, by decide⟩, tw_490, Or.inl tw_489⟩
theorem ss_X11_law_101 : ab_sV mX11_law 101 8 mX7_told 1 := ⟨⟨zc_X7_told.1, zc_X7_told.2.1, zc_X7_told.2.2, by decide, by decide⟩, tw_493, _, _, _, rfl, Or.inl ⟨tw_492, tw_494⟩⟩
theorem ss_X11_said_97 : ab_sS mX11_said 97 mX11_sayingIn 2 := ⟨⟨zc_X11_sayingIn.1, zc_X11_sayingIn.2.1, zc_X11_sayingIn.2.2, by decide, by decide⟩, tw_490, Or.inl tw_489⟩
theorem ss_X11_said_117 : ab_sS mX11_said 117 mX11_hasWorld 2 := ⟨⟨zc_X11_hasWorld.1, zc_X11_hasWorld.2.1, zc_X11_hasWorld.2.2, by decide, by decide⟩, tw_566, Or.inl tw_565⟩
theorem ss_X11_said_121 : ab_sS mX11_said 121 mX11_oneIf 1 := ⟨⟨zc_X11_oneIf.1, zc_X11_oneIf.2.1, zc_X11_oneIf.2.2, by decide, by decide⟩, tw_569, Or.inl tw_568⟩
theorem ss_X11_said_101 : ab_sV mX11_said 101 8 mX7_told 1 := ⟨⟨zc_X7_told.1, zc_X7_told.2.1, zc_X7_told.2.2, by decide, by decide⟩, tw_493, _, _, _, rfl, Or.inl ⟨tw_492, tw_494⟩⟩
theorem ss_X11_knows_128 : ab_sV mX11_knows 128 11 mX10_hasWitness 1 := ⟨⟨zc_X10_hasWitness.1, zc_X10_hasWitness.2.1, zc_X10_hasWitness.2.2, by decide, by decide⟩, tw_482, _, _, _, rfl, Or.inl ⟨tw_575, tw_483⟩⟩
theorem ss_X11_knows_132 : ab_sV mX11_knows 132 11 mX10_knownBy 1 := ⟨⟨zc_X10_knownBy.1, zc_X10_knownBy.2.1, zc_X10_knownBy.2.2, by decide, by decide⟩, tw_365, _, _, _, rfl, Or.inl ⟨tw_576, tw_366⟩⟩
theorem ss_X11_isTrue_75 : ab_sV mX11_isTrue 75 12 mX11_shelfAt 1 := ⟨⟨zc_X11_shelfAt.1, zc_X11_shelfAt.2.1, zc_X11_shelfAt.2.2, by decide, by decide⟩, tw_300, _, _, _, rfl, Or.inl ⟨tw_299, tw_3⟩⟩
theorem ss_X11_isTrue_135 : ab_sS mX11_isTrue 135 mX11_isFact 1 := ⟨⟨zc_X11_isFact.1, zc_X11_isFact.2.1, zc_X11_isFact.2.2, by decide, by decide⟩, tw_383, Or.inl tw_382⟩
theorem ss_X11_isTrue_138 : ab_sS mX11_isTrue 138 mX11_isWorld 1 := ⟨⟨zc_X11_isWorld.1, zc_X11_isWorld.2.1, zc_X11_isWorld.2.2, by decide, by decide⟩, tw_475, Or.inl tw_581⟩
theorem ss_X11_isTrue_141 : ab_sV mX11_isTrue 141 10 mX9_refusalAsSaying 0 := ⟨⟨zc_X9_refusalAsSaying.1, zc_X9_refusalAsSaying.2.1, zc_X9_refusalAsSaying.2.2, by decide, by decide⟩, tw_583, _, _, _, rfl, Or.inl ⟨tw_582, tw_584⟩⟩
theorem ss_X11_isTrue_144 : ab_sV mX11_isTrue 144 10 mX9_worldsOf 2 := ⟨⟨zc_X9_worldsOf.1, zc_X9_worldsOf.2.1, zc_X9_worldsOf.2.2, by decide, by decide⟩, tw_587, _, _, _, rfl, Or.inl ⟨tw_586, tw_588⟩⟩
theorem ss_X11_isTrue_117 : ab_sS mX11_isTrue 117 mX11_hasWorld 2 := ⟨⟨zc_X11_hasWorld.1, zc_X11_hasWorld.2.1, zc_X11_hasWorld.2.2, by decide, by decide⟩, tw_566, Or.inl tw_565⟩
theorem ss_X11_isTrue_121 : ab_sS mX11_isTrue 121 mX11_oneIf 1 := ⟨⟨zc_X11_oneIf.1, zc_X11_oneIf.2.1, zc_X11_oneIf.2.2, by decide, by decide⟩, tw_569, Or.inl tw_568⟩
theorem ss_X11_rules_75 : ab_sV mX11_rules 75 12 mX11_shelfAt 1 := ⟨⟨zc_X11_shelfAt.1, zc_X11_shelfAt.2.1, zc_X11_shelfAt.2.2, by decide, by decide⟩, tw_300, _, _, _, rfl, Or.inl ⟨tw_299, tw_3⟩⟩
theorem ss_X11_rules_135 : ab_sS mX11_rules 135 mX11_isFact 1 := ⟨⟨zc_X11_isFact.1, zc_X11_isFact.2.1, zc_X11_isFact.2.2, by decide, by decide⟩, tw_383, Or.inl tw_382⟩
theorem ss_X11_rules_141 : ab_sV mX11_rules 141 10 mX9_refusalAsSaying 0 := ⟨⟨zc_X9_refusalAsSaying.1, zc_X9_refusalAsSaying.2.1, zc_X9_refusalAsSaying.2.2, by decide, by decide⟩, tw_583, _, _, _, rfl, Or.inl ⟨tw_582, tw_584⟩⟩
theorem ss_X11_rules_155 : ab_sS mX11_rules 155 mX11_newSaying 5 := ⟨⟨zc_X11_newSaying.1, zc_X11_newSaying.2.1, zc_X11_newSaying.2.2, by decide, by decide⟩, tw_386, Or.inl tw_385⟩
theorem ss_X11_rules_159 : ab_sV mX11_rules 159 11 mX10_addLaw 1 := ⟨⟨zc_X10_addLaw.1, zc_X10_addLaw.2.1, zc_X10_addLaw.2.2, by decide, by decide⟩, tw_457, _, _, _, rfl, Or.inl ⟨tw_456, tw_458⟩⟩
theorem ss_X11_rules_163 : ab_sV mX11_rules 163 0 mJx4a65c_size_8abf5 0 := ⟨⟨zc_Jx4a65c_size_8abf5.1, zc_Jx4a65c_size_8abf5.2.1, zc_Jx4a65c_size_8abf5.2.2, by decide, by decide⟩, tw_345, _, _, _, rfl, Or.inl ⟨tw_380, tw_346⟩⟩
theorem ss_X11_says_75 : ab_sV mX11_says 75 12 mX11_shelfAt 1 := ⟨⟨zc_X11_shelfAt.1, zc_X11_shelfAt.2.1, zc_X11_shelfAt.2.2, by decide, by decide⟩, tw_300, _, _, _, rfl, Or.inl ⟨tw_299, tw_3⟩⟩
theorem ss_X11_says_128 : ab_sV mX11_says 128 11 mX10_hasWitness 1 := ⟨⟨zc_X10_hasWitness.1, zc_X10_hasWitness.2.1, zc_X10_hasWitness.2.2, by decide, by decide⟩, tw_482, _, _, _, rfl, Or.inl ⟨tw_575, tw_483⟩⟩
theorem ss_X11_says_135 : ab_sS mX11_says 135 mX11_isFact 1 := ⟨⟨zc_X11_isFact.1, zc_X11_isFact.2.1, zc_X11_isFact.2.2, by decide, by decide⟩, tw_383, Or.inl tw_382⟩
theorem ss_X11_says_141 : ab_sV mX11_says 141 10 mX9_refusalAsSaying 0 := ⟨⟨zc_X9_refusalAsSaying.1, zc_X9_refusalAsSaying.2.1, zc_X9_refusalAsSaying.2.2, by decide, by decide⟩, tw_583, _, _, _, rfl, Or.inl ⟨tw_582, tw_584⟩⟩
theorem ss_X11_says_155 : ab_sS mX11_says 155 mX11_newSaying 5 := ⟨⟨zc_X11_newSaying.1, zc_X11_newSaying.2.1, zc_X11_newSaying.2.2, by decide, by decide⟩, tw_386, Or.inl tw_385⟩
theorem ss_X11_says_166 : ab_sV mX11_says 166 11 mX10_addSaid 1 := ⟨⟨zc_X10_addSaid.1, zc_X10_addSaid.2.1, zc_X10_addSaid.2.2, by decide, by decide⟩, tw_478, _, _, _, rfl, Or.inl ⟨tw_477, tw_479⟩⟩
theorem ss_X11_says_163 : ab_sV mX11_says 163 0 mJx4a65c_size_8abf5 0 := ⟨⟨zc_Jx4a65c_size_8abf5.1, zc_Jx4a65c_size_8abf5.2.1, zc_Jx4a65c_size_8abf5.2.2, by decide, by decide⟩, tw_345, _, _, _, rfl, Or.inl ⟨tw_380, tw_346⟩⟩
theorem ss_X11_unsays_163 : ab_sV mX11_unsays 163 0 mJx4a65c_size_8abf5 0 := ⟨⟨zc_Jx4a65c_size_8abf5.1, zc_Jx4a65c_size_8abf5.2.1, zc_Jx4a65c_size_8abf5.2.2, by decide, by decide⟩, tw_345, _, _, _, rfl, Or.inl ⟨tw_380, tw_346⟩⟩
theorem ss_X11_unsays_169 : ab_sV mX11_unsays 169 0 mJx4a65c_remove_915e3 1 := ⟨⟨zc_Jx4a65c_remove_915e3.1, zc_Jx4a65c_remove_915e3.2.1, zc_Jx4a65c_remove_915e3.2.2, by decide, by decide⟩, tw_604, _, _, _, rfl, Or.inl ⟨tw_603, tw_605⟩⟩
theorem ss_X11_witness_173 : ab_sS mX11_witness 173 mX11_areFacts 1 := ⟨⟨zc_X11_areFacts.1, zc_X11_areFacts.2.1, zc_X11_areFacts.2.2, by decide, by decide⟩, tw_468, Or.inl tw_615⟩
theorem ss_X11_witness_176 : ab_sV mX11_witness 176 11 mX10_addWitness 1 := ⟨⟨zc_X10_addWitness.1, zc_X10_addWitness.2.1, zc_X10_addWitness.2.2, by decide, by decide⟩, tw_464, _, _, _, rfl, Or.inl ⟨tw_463, tw_465⟩⟩
theorem ss_X11_truth_138 : ab_sS mX11_truth 138 mX11_isWorld 1 := ⟨⟨zc_X11_isWorld.1, zc_X11_isWorld.2.1, zc_X11_isWorld.2.2, by decide, by decide⟩, tw_475, Or.inl tw_581⟩
theorem ss_X11_worlds_182 : ab_sS mX11_worlds 182 mX11_isEitherOr 1 := ⟨⟨zc_X11_isEitherOr.1, zc_X11_isEitherOr.2.1, zc_X11_isEitherOr.2.2, by decide, by decide⟩, tw_625, Or.inl tw_624⟩
theorem ss_X11_worlds_185 : ab_sV mX11_worlds 185 11 mX10_mayBeOrLeft 1 := ⟨⟨zc_X10_mayBeOrLeft.1, zc_X10_mayBeOrLeft.2.1, zc_X10_mayBeOrLeft.2.2, by decide, by decide⟩, tw_628, _, _, _, rfl, Or.inl ⟨tw_627, tw_629⟩⟩
theorem ss_X11_worlds_189 : ab_sS mX11_worlds 189 mX11_refusedLong 1 := ⟨⟨zc_X11_refusedLong.1, zc_X11_refusedLong.2.1, zc_X11_refusedLong.2.2, by decide, by decide⟩, tw_645, Or.inl tw_644⟩
theorem ss_X11_many_182 : ab_sS mX11_many 182 mX11_isEitherOr 1 := ⟨⟨zc_X11_isEitherOr.1, zc_X11_isEitherOr.2.1, zc_X11_isEitherOr.2.2, by decide, by decide⟩, tw_625, Or.inl tw_624⟩
theorem ss_X11_many_185 : ab_sV mX11_many 185 11 mX10_mayBeOrLeft 1 := ⟨⟨zc_X10_mayBeOrLeft.1, zc_X10_mayBeOrLeft.2.1, zc_X10_mayBeOrLeft.2.2, by decide, by decide⟩, tw_628, _, _, _, rfl, Or.inl ⟨tw_627, tw_629⟩⟩
theorem ss_X11_many_192 : ab_sS mX11_many 192 mJ13_bitCount_95d88 1 := ⟨⟨zc_J13_bitCount_95d88.1, zc_J13_bitCount_95d88.2.1, zc_J13_bitCount_95d88.2.2, by decide, by decide⟩, tw_653, Or.inl tw_652⟩
theorem ss_X11_proved_182 : ab_sS mX11_proved 182 mX11_isEitherOr 1 := ⟨⟨zc_X11_isEitherOr.1, zc_X11_isEitherOr.2.1, zc_X11_isEitherOr.2.2, by decide, by decide⟩, tw_625, Or.inl tw_624⟩
theorem ss_X11_proved_198 : ab_sV mX11_proved 198 11 mX10_left 0 := ⟨⟨zc_X10_left.1, zc_X10_left.2.1, zc_X10_left.2.2, by decide, by decide⟩, tw_637, _, _, _, rfl, Or.inl ⟨tw_662, tw_638⟩⟩
theorem ss_X11_proved_202 : ab_sS mX11_proved 202 mX11_factsOfAll 1 := ⟨⟨zc_X11_factsOfAll.1, zc_X11_factsOfAll.2.1, zc_X11_factsOfAll.2.2, by decide, by decide⟩, tw_664, Or.inl tw_663⟩
theorem ss_X11_proved_205 : ab_sS mX11_proved 205 mX11_factsOfNone 1 := ⟨⟨zc_X11_factsOfNone.1, zc_X11_factsOfNone.2.1, zc_X11_factsOfNone.2.2, by decide, by decide⟩, tw_670, Or.inl tw_669⟩
theorem ss_X11_slips_182 : ab_sS mX11_slips 182 mX11_isEitherOr 1 := ⟨⟨zc_X11_isEitherOr.1, zc_X11_isEitherOr.2.1, zc_X11_isEitherOr.2.2, by decide, by decide⟩, tw_625, Or.inl tw_624⟩
theorem ss_X11_slips_208 : ab_sV mX11_slips 208 11 mX10_trueOnes 1 := ⟨⟨zc_X10_trueOnes.1, zc_X10_trueOnes.2.1, zc_X10_trueOnes.2.2, by decide, by decide⟩, tw_677, _, _, _, rfl, Or.inl ⟨tw_676, tw_678⟩⟩
theorem ss_X11_slips_211 : ab_sS mX11_slips 211 mJ6_numberOfTrailingZeros_0f7a4 1 := ⟨⟨zc_J6_numberOfTrailingZeros_0f7a4.1, zc_J6_numberOfTrailingZeros_0f7a4.2.1, zc_J6_numberOfTrailingZeros_0f7a4.2.2, by decide, by decide⟩, tw_682, Or.inl tw_681⟩
theorem ss_X11_alone_97 : ab_sS mX11_alone 97 mX11_sayingIn 2 := ⟨⟨zc_X11_sayingIn.1, zc_X11_sayingIn.2.1, zc_X11_sayingIn.2.2, by decide, by decide⟩, tw_490, Or.inl tw_489⟩
theorem ss_X11_alone_216 : ab_sV mX11_alone 216 11 mX10_mayBe 0 := ⟨⟨zc_X10_mayBe.1, zc_X10_mayBe.2.1, zc_X10_mayBe.2.2, by decide, by decide⟩, tw_632, _, _, _, rfl, Or.inl ⟨tw_689, tw_633⟩⟩
theorem ss_X11_alone_192 : ab_sS mX11_alone 192 mJ13_bitCount_95d88 1 := ⟨⟨zc_J13_bitCount_95d88.1, zc_J13_bitCount_95d88.2.1, zc_J13_bitCount_95d88.2.2, by decide, by decide⟩, tw_653, Or.inl tw_652⟩
theorem ss_X11_clash_216 : ab_sV mX11_clash 216 11 mX10_mayBe 0 := ⟨⟨zc_X10_mayBe.1, zc_X10_mayBe.2.1, zc_X10_mayBe.2.2, by decide, by decide⟩, tw_632, _, _, _, rfl, Or.inl ⟨tw_689, tw_633⟩⟩
theorem ss_X11_clash_163 : ab_sV mX11_clash 163 0 mJx4a65c_size_8abf5 0 := ⟨⟨zc_Jx4a65c_size_8abf5.1, zc_Jx4a65c_size_8abf5.2.1, zc_Jx4a65c_size_8abf5.2.2, by decide, by decide⟩, tw_345, _, _, _, rfl, Or.inl ⟨tw_380, tw_346⟩⟩
theorem ss_X11_clash_221 : ab_sV mX11_clash 221 0 mJx4a65c_get_915e3 1 := ⟨⟨zc_Jx4a65c_get_915e3.1, zc_Jx4a65c_get_915e3.2.1, zc_Jx4a65c_get_915e3.2.2, by decide, by decide⟩, tw_349, _, _, _, rfl, Or.inl ⟨tw_381, tw_350⟩⟩
theorem ss_X11_proof_135 : ab_sS mX11_proof 135 mX11_isFact 1 := ⟨⟨zc_X11_isFact.1, zc_X11_isFact.2.1, zc_X11_isFact.2.2, by decide, by decide⟩, tw_383, Or.inl tw_382⟩
theorem ss_X11_proof_216 : ab_sV mX11_proof 216 11 mX10_mayBe 0 := ⟨⟨zc_X10_mayBe.1, zc_X10_mayBe.2.1, zc_X10_mayBe.2.2, by decide, by decide⟩, tw_632, _, _, _, rfl, Or.inl ⟨tw_689, tw_633⟩⟩
theorem ss_X11_proof_163 : ab_sV mX11_proof 163 0 mJx4a65c_size_8abf5 0 := ⟨⟨zc_Jx4a65c_size_8abf5.1, zc_Jx4a65c_size_8abf5.2.1, zc_Jx4a65c_size_8abf5.2.2, by decide, by decide⟩, tw_345, _, _, _, rfl, Or.inl ⟨tw_380, tw_346⟩⟩
theorem ss_X11_proof_224 : ab_sS mX11_proof 224 mJ6_bitCount_0f7a4 1 := ⟨⟨zc_J6_bitCount_0f7a4.1, zc_J6_bitCount_0f7a4.2.1, zc_J6_bitCount_0f7a4.2.2, by decide, by decide⟩, tw_699, Or.inl tw_698⟩
theorem ss_X11_proof_226 : ab_sV mX11_proof 226 11 mX10_leftBySaid 2 := ⟨⟨zc_X10_leftBySaid.1, zc_X10_leftBySaid.2.1, zc_X10_leftBySaid.2.2, by decide, by decide⟩, tw_641, _, _, _, rfl, Or.inl ⟨tw_704, tw_642⟩⟩
theorem ss_X11_proof_230 : ab_sS mX11_proof 230 mX11_isProvedBy 2 := ⟨⟨zc_X11_isProvedBy.1, zc_X11_isProvedBy.2.1, zc_X11_isProvedBy.2.2, by decide, by decide⟩, tw_706, Or.inl tw_705⟩
theorem ss_X11_slipped_216 : ab_sV mX11_slipped 216 11 mX10_mayBe 0 := ⟨⟨zc_X10_mayBe.1, zc_X10_mayBe.2.1, zc_X10_mayBe.2.2, by decide, by decide⟩, tw_632, _, _, _, rfl, Or.inl ⟨tw_689, tw_633⟩⟩
theorem ss_X11_slipped_117 : ab_sS mX11_slipped 117 mX11_hasWorld 2 := ⟨⟨zc_X11_hasWorld.1, zc_X11_hasWorld.2.1, zc_X11_hasWorld.2.2, by decide, by decide⟩, tw_566, Or.inl tw_565⟩
theorem ss_X11_slipped_208 : ab_sV mX11_slipped 208 11 mX10_trueOnes 1 := ⟨⟨zc_X10_trueOnes.1, zc_X10_trueOnes.2.1, zc_X10_trueOnes.2.2, by decide, by decide⟩, tw_677, _, _, _, rfl, Or.inl ⟨tw_676, tw_678⟩⟩
theorem ss_X11_slipped_224 : ab_sS mX11_slipped 224 mJ6_bitCount_0f7a4 1 := ⟨⟨zc_J6_bitCount_0f7a4.1, zc_J6_bitCount_0f7a4.2.1, zc_J6_bitCount_0f7a4.2.2, by decide, by decide⟩, tw_699, Or.inl tw_698⟩
theorem ss_X11_ask_198 : ab_sV mX11_ask 198 11 mX10_left 0 := ⟨⟨zc_X10_left.1, zc_X10_left.2.1, zc_X10_left.2.2, by decide, by decide⟩, tw_637, _, _, _, rfl, Or.inl ⟨tw_662, tw_638⟩⟩
theorem ss_X11_ask_233 : ab_sS mX11_ask 233 mX11_worldsWith 1 := ⟨⟨zc_X11_worldsWith.1, zc_X11_worldsWith.2.1, zc_X11_worldsWith.2.2, by decide, by decide⟩, tw_403, Or.inl tw_666⟩
theorem ss_X11_ask_192 : ab_sS mX11_ask 192 mJ13_bitCount_95d88 1 := ⟨⟨zc_J13_bitCount_95d88.1, zc_J13_bitCount_95d88.2.1, zc_J13_bitCount_95d88.2.2, by decide, by decide⟩, tw_653, Or.inl tw_652⟩
theorem ss_X11_ask_236 : ab_sS mX11_ask 236 mJ9_min_7cf53 2 := ⟨⟨zc_J9_min_7cf53.1, zc_J9_min_7cf53.2.1, zc_J9_min_7cf53.2.2, by decide, by decide⟩, tw_193, Or.inl tw_716⟩
theorem ss_X11_plain_224 : ab_sS mX11_plain 224 mJ6_bitCount_0f7a4 1 := ⟨⟨zc_J6_bitCount_0f7a4.1, zc_J6_bitCount_0f7a4.2.1, zc_J6_bitCount_0f7a4.2.2, by decide, by decide⟩, tw_699, Or.inl tw_698⟩
theorem ss_X11_plain_242 : ab_sV mX11_plain 242 11 mX10_isPlainBy 1 := ⟨⟨zc_X10_isPlainBy.1, zc_X10_isPlainBy.2.1, zc_X10_isPlainBy.2.2, by decide, by decide⟩, tw_722, _, _, _, rfl, Or.inl ⟨tw_721, tw_723⟩⟩
theorem ss_X11_order_182 : ab_sS mX11_order 182 mX11_isEitherOr 1 := ⟨⟨zc_X11_isEitherOr.1, zc_X11_isEitherOr.2.1, zc_X11_isEitherOr.2.2, by decide, by decide⟩, tw_625, Or.inl tw_624⟩
theorem ss_X11_order_245 : ab_sV mX11_order 245 12 mX11_plain 0 := ⟨⟨zc_X11_plain.1, zc_X11_plain.2.1, zc_X11_plain.2.2, by decide, by decide⟩, tw_718, _, _, _, rfl, Or.inl ⟨tw_734, tw_719⟩⟩
theorem ss_X11_order_224 : ab_sS mX11_order 224 mJ6_bitCount_0f7a4 1 := ⟨⟨zc_J6_bitCount_0f7a4.1, zc_J6_bitCount_0f7a4.2.1, zc_J6_bitCount_0f7a4.2.2, by decide, by decide⟩, tw_699, Or.inl tw_698⟩
theorem ss_X11_order_248 : ab_sV mX11_order 248 12 mX11_leastOrder 1 := ⟨⟨zc_X11_leastOrder.1, zc_X11_leastOrder.2.1, zc_X11_leastOrder.2.2, by decide, by decide⟩, tw_736, _, _, _, rfl, Or.inl ⟨tw_735, tw_10⟩⟩
theorem ss_X11_without_128 : ab_sV mX11_without 128 11 mX10_hasWitness 1 := ⟨⟨zc_X10_hasWitness.1, zc_X10_hasWitness.2.1, zc_X10_hasWitness.2.2, by decide, by decide⟩, tw_482, _, _, _, rfl, Or.inl ⟨tw_575, tw_483⟩⟩
theorem ss_X11_without_251 : ab_sV mX11_without 251 11 mX10_leftByTellers 1 := ⟨⟨zc_X10_leftByTellers.1, zc_X10_leftByTellers.2.1, zc_X10_leftByTellers.2.2, by decide, by decide⟩, tw_726, _, _, _, rfl, Or.inl ⟨tw_748, tw_727⟩⟩
theorem ss_X11_without_192 : ab_sS mX11_without 192 mJ13_bitCount_95d88 1 := ⟨⟨zc_J13_bitCount_95d88.1, zc_J13_bitCount_95d88.2.1, zc_J13_bitCount_95d88.2.2, by decide, by decide⟩, tw_653, Or.inl tw_652⟩
theorem ss_X11_without_198 : ab_sV mX11_without 198 11 mX10_left 0 := ⟨⟨zc_X10_left.1, zc_X10_left.2.1, zc_X10_left.2.2, by decide, by decide⟩, tw_637, _, _, _, rfl, Or.inl ⟨tw_662, tw_638⟩⟩
theorem ss_X11_lie_128 : ab_sV mX11_lie 128 11 mX10_hasWitness 1 := ⟨⟨zc_X10_hasWitness.1, zc_X10_hasWitness.2.1, zc_X10_hasWitness.2.2, by decide, by decide⟩, tw_482, _, _, _, rfl, Or.inl ⟨tw_575, tw_483⟩⟩
theorem ss_X11_lie_198 : ab_sV mX11_lie 198 11 mX10_left 0 := ⟨⟨zc_X10_left.1, zc_X10_left.2.1, zc_X10_left.2.2, by decide, by decide⟩, tw_637, _, _, _, rfl, Or.inl ⟨tw_662, tw_638⟩⟩
theorem ss_X11_lie_254 : ab_sV mX11_lie 254 12 mX11_isLie 2 := ⟨⟨zc_X11_isLie.1, zc_X11_isLie.2.1, zc_X11_isLie.2.2, by decide, by decide⟩, tw_754, _, _, _, rfl, Or.inl ⟨tw_753, tw_13⟩⟩
theorem ss_X11_lie_258 : ab_sV mX11_lie 258 12 mX11_worldsOfCode 1 := ⟨⟨zc_X11_worldsOfCode.1, zc_X11_worldsOfCode.2.1, zc_X11_worldsOfCode.2.2, by decide, by decide⟩, tw_767, _, _, _, rfl, Or.inl ⟨tw_766, tw_14⟩⟩
theorem ss_X11_lie_192 : ab_sS mX11_lie 192 mJ13_bitCount_95d88 1 := ⟨⟨zc_J13_bitCount_95d88.1, zc_J13_bitCount_95d88.2.1, zc_J13_bitCount_95d88.2.2, by decide, by decide⟩, tw_653, Or.inl tw_652⟩
theorem ss_X11_lie_261 : ab_sS mX11_lie 261 mX11_kindOfCode 1 := ⟨⟨zc_X11_kindOfCode.1, zc_X11_kindOfCode.2.1, zc_X11_kindOfCode.2.2, by decide, by decide⟩, tw_757, Or.inl tw_756⟩
theorem ss_X11_lie_264 : ab_sS mX11_lie 264 mX11_firstOfCode 1 := ⟨⟨zc_X11_firstOfCode.1, zc_X11_firstOfCode.2.1, zc_X11_firstOfCode.2.2, by decide, by decide⟩, tw_760, Or.inl tw_759⟩
theorem ss_X11_lie_267 : ab_sS mX11_lie 267 mX11_secondOfCode 1 := ⟨⟨zc_X11_secondOfCode.1, zc_X11_secondOfCode.2.1, zc_X11_secondOfCode.2.2, by decide, by decide⟩, tw_763, Or.inl tw_762⟩
theorem ss_X11_twoLies_128 : ab_sV mX11_twoLies 128 11 mX10_hasWitness 1 := ⟨⟨zc_X10_hasWitness.1, zc_X10_hasWitness.2.1, zc_X10_hasWitness.2.2, by decide, by decide⟩, tw_482, _, _, _, rfl, Or.inl ⟨tw_575, tw_483⟩⟩
theorem ss_X11_twoLies_198 : ab_sV mX11_twoLies 198 11 mX10_left 0 := ⟨⟨zc_X10_left.1, zc_X10_left.2.1, zc_X10_left.2.2, by decide, by decide⟩, tw_637, _, _, _, rfl, Or.inl ⟨tw_662, tw_638⟩⟩
theorem ss_X11_twoLies_270 : ab_sV mX11_twoLies 270 12 mX11_fillLies 2 := ⟨⟨zc_X11_fillLies.1, zc_X11_fillLies.2.1, zc_X11_fillLies.2.2, by decide, by decide⟩, tw_774, _, _, _, rfl, Or.inl ⟨tw_773, tw_15⟩⟩
theorem ss_X11_twoLies_192 : ab_sS mX11_twoLies 192 mJ13_bitCount_95d88 1 := ⟨⟨zc_J13_bitCount_95d88.1, zc_J13_bitCount_95d88.2.1, zc_J13_bitCount_95d88.2.2, by decide, by decide⟩, tw_653, Or.inl tw_652⟩
theorem ss_X11_twoLies_274 : ab_sV mX11_twoLies 274 12 mX11_mostLeft 2 := ⟨⟨zc_X11_mostLeft.1, zc_X11_mostLeft.2.1, zc_X11_mostLeft.2.2, by decide, by decide⟩, tw_777, _, _, _, rfl, Or.inl ⟨tw_776, tw_16⟩⟩
theorem ss_X11_twoLies_278 : ab_sS mX11_twoLies 278 mJ9_max_7cf53 2 := ⟨⟨zc_J9_max_7cf53.1, zc_J9_max_7cf53.2.1, zc_J9_max_7cf53.2.2, by decide, by decide⟩, tw_158, Or.inl tw_779⟩
theorem ss_X11_tells_75 : ab_sV mX11_tells 75 12 mX11_shelfAt 1 := ⟨⟨zc_X11_shelfAt.1, zc_X11_shelfAt.2.1, zc_X11_shelfAt.2.2, by decide, by decide⟩, tw_300, _, _, _, rfl, Or.inl ⟨tw_299, tw_3⟩⟩
theorem ss_X11_tells_135 : ab_sS mX11_tells 135 mX11_isFact 1 := ⟨⟨zc_X11_isFact.1, zc_X11_isFact.2.1, zc_X11_isFact.2.2, by decide, by decide⟩, tw_383, Or.inl tw_382⟩
theorem ss_X11_tells_141 : ab_sV mX11_tells 141 10 mX9_refusalAsSaying 0 := ⟨⟨zc_X9_refusalAsSaying.1, zc_X9_refusalAsSaying.2.1, zc_X9_refusalAsSaying.2.2, by decide, by decide⟩, tw_583, _, _, _, rfl, Or.inl ⟨tw_582, tw_584⟩⟩
theorem ss_X11_tells_198 : ab_sV mX11_tells 198 11 mX10_left 0 := ⟨⟨zc_X10_left.1, zc_X10_left.2.1, zc_X10_left.2.2, by decide, by decide⟩, tw_637, _, _, _, rfl, Or.inl ⟨tw_662, tw_638⟩⟩
theorem ss_X11_tells_144 : ab_sV mX11_tells 144 10 mX9_worldsOf 2 := ⟨⟨zc_X9_worldsOf.1, zc_X9_worldsOf.2.1, zc_X9_worldsOf.2.2, by decide, by decide⟩, tw_587, _, _, _, rfl, Or.inl ⟨tw_586, tw_588⟩⟩
theorem ss_X11_tells_192 : ab_sS mX11_tells 192 mJ13_bitCount_95d88 1 := ⟨⟨zc_J13_bitCount_95d88.1, zc_J13_bitCount_95d88.2.1, zc_J13_bitCount_95d88.2.2, by decide, by decide⟩, tw_653, Or.inl tw_652⟩
theorem ss_X11_verdict_163 : ab_sV mX11_verdict 163 0 mJx4a65c_size_8abf5 0 := ⟨⟨zc_Jx4a65c_size_8abf5.1, zc_Jx4a65c_size_8abf5.2.1, zc_Jx4a65c_size_8abf5.2.2, by decide, by decide⟩, tw_345, _, _, _, rfl, Or.inl ⟨tw_380, tw_346⟩⟩
theorem ss_X11_verdict_221 : ab_sV mX11_verdict 221 0 mJx4a65c_get_915e3 1 := ⟨⟨zc_Jx4a65c_get_915e3.1, zc_Jx4a65c_get_915e3.2.1, zc_Jx4a65c_get_915e3.2.2, by decide, by decide⟩, tw_349, _, _, _, rfl, Or.inl ⟨tw_381, tw_350⟩⟩
theorem ss_X11_verdict_281 : ab_sV mX11_verdict 281 8 mX7_facts 0 := ⟨⟨zc_X7_facts.1, zc_X7_facts.2.1, zc_X7_facts.2.2, by decide, by decide⟩, tw_534, _, _, _, rfl, Or.inl ⟨tw_788, tw_535⟩⟩
theorem ss_X11_certain_128 : ab_sV mX11_certain 128 11 mX10_hasWitness 1 := ⟨⟨zc_X10_hasWitness.1, zc_X10_hasWitness.2.1, zc_X10_hasWitness.2.2, by decide, by decide⟩, tw_482, _, _, _, rfl, Or.inl ⟨tw_575, tw_483⟩⟩
theorem ss_X11_certain_198 : ab_sV mX11_certain 198 11 mX10_left 0 := ⟨⟨zc_X10_left.1, zc_X10_left.2.1, zc_X10_left.2.2, by decide, by decide⟩, tw_637, _, _, _, rfl, Or.inl ⟨tw_662, tw_638⟩⟩
theorem ss_X11_certain_132 : ab_sV mX11_certain 132 11 mX10_knownBy 1 := ⟨⟨zc_X10_knownBy.1, zc_X10_knownBy.2.1, zc_X10_knownBy.2.2, by decide, by decide⟩, tw_365, _, _, _, rfl, Or.inl ⟨tw_576, tw_366⟩⟩
theorem ss_X11_certain_284 : ab_sS mX11_certain 284 mX11_likeInKnown 3 := ⟨⟨zc_X11_likeInKnown.1, zc_X11_likeInKnown.2.1, zc_X11_likeInKnown.2.2, by decide, by decide⟩, tw_794, Or.inl tw_793⟩
theorem ss_X11_certain_288 : ab_sS mX11_certain 288 mX11_factsAlike 1 := ⟨⟨zc_X11_factsAlike.1, zc_X11_factsAlike.2.1, zc_X11_factsAlike.2.2, by decide, by decide⟩, tw_797, Or.inl tw_796⟩
theorem ss_X11_knowsOf_128 : ab_sV mX11_knowsOf 128 11 mX10_hasWitness 1 := ⟨⟨zc_X10_hasWitness.1, zc_X10_hasWitness.2.1, zc_X10_hasWitness.2.2, by decide, by decide⟩, tw_482, _, _, _, rfl, Or.inl ⟨tw_575, tw_483⟩⟩
theorem ss_X11_knowsOf_198 : ab_sV mX11_knowsOf 198 11 mX10_left 0 := ⟨⟨zc_X10_left.1, zc_X10_left.2.1, zc_X10_left.2.2, by decide, by decide⟩, tw_637, _, _, _, rfl, Or.inl ⟨tw_662, tw_638⟩⟩
theorem ss_X11_knowsOf_132 : ab_sV mX11_knowsOf 132 11 mX10_knownBy 1 := ⟨⟨zc_X10_knownBy.1, zc_X10_knownBy.2.1, zc_X10_knownBy.2.2, by decide, by decide⟩, tw_365, _, _, _, rfl, Or.inl ⟨tw_576, tw_366⟩⟩
theorem ss_X11_knowsOf_284 : ab_sS mX11_knowsOf 284 mX11_likeInKnown 3 := ⟨⟨zc_X11_likeInKnown.1, zc_X11_likeInKnown.2.1, zc_X11_likeInKnown.2.2, by decide, by decide⟩, tw_794, Or.inl tw_793⟩
theorem ss_X11_knowsOf_117 : ab_sS mX11_knowsOf 117 mX11_hasWorld 2 := ⟨⟨zc_X11_hasWorld.1, zc_X11_hasWorld.2.1, zc_X11_hasWorld.2.2, by decide, by decide⟩, tw_566, Or.inl tw_565⟩
theorem ss_X11_knowsOf_288 : ab_sS mX11_knowsOf 288 mX11_factsAlike 1 := ⟨⟨zc_X11_factsAlike.1, zc_X11_factsAlike.2.1, zc_X11_factsAlike.2.2, by decide, by decide⟩, tw_797, Or.inl tw_796⟩
theorem ss_X11_allKnow_198 : ab_sV mX11_allKnow 198 11 mX10_left 0 := ⟨⟨zc_X10_left.1, zc_X10_left.2.1, zc_X10_left.2.2, by decide, by decide⟩, tw_637, _, _, _, rfl, Or.inl ⟨tw_662, tw_638⟩⟩
theorem ss_X11_allKnow_291 : ab_sV mX11_allKnow 291 11 mX10_reachedFrom 2 := ⟨⟨zc_X10_reachedFrom.1, zc_X10_reachedFrom.2.1, zc_X10_reachedFrom.2.2, by decide, by decide⟩, tw_808, _, _, _, rfl, Or.inl ⟨tw_807, tw_809⟩⟩
theorem ss_X11_allKnow_288 : ab_sS mX11_allKnow 288 mX11_factsAlike 1 := ⟨⟨zc_X11_factsAlike.1, zc_X11_factsAlike.2.1, zc_X11_factsAlike.2.2, by decide, by decide⟩, tw_797, Or.inl tw_796⟩
theorem ss_X11_pencils_182 : ab_sS mX11_pencils 182 mX11_isEitherOr 1 := ⟨⟨zc_X11_isEitherOr.1, zc_X11_isEitherOr.2.1, zc_X11_isEitherOr.2.2, by decide, by decide⟩, tw_625, Or.inl tw_624⟩
theorem ss_X11_pencils_189 : ab_sS mX11_pencils 189 mX11_refusedLong 1 := ⟨⟨zc_X11_refusedLong.1, zc_X11_refusedLong.2.1, zc_X11_refusedLong.2.2, by decide, by decide⟩, tw_645, Or.inl tw_644⟩
theorem ss_X11_pencils_295 : ab_sS mX11_pencils 295 mX11_waysToChoose 1 := ⟨⟨zc_X11_waysToChoose.1, zc_X11_waysToChoose.2.1, zc_X11_waysToChoose.2.2, by decide, by decide⟩, tw_817, Or.inl tw_816⟩
theorem ss_X11_pencils_298 : ab_sS mX11_pencils 298 mX11_power 2 := ⟨⟨zc_X11_power.1, zc_X11_power.2.1, zc_X11_power.2.2, by decide, by decide⟩, tw_820, Or.inl tw_819⟩
theorem ss_X11_pencils_301 : ab_sS mX11_pencils 301 mX11_greatestDivisor 2 := ⟨⟨zc_X11_greatestDivisor.1, zc_X11_greatestDivisor.2.1, zc_X11_greatestDivisor.2.2, by decide, by decide⟩, tw_823, Or.inl tw_822⟩
theorem ss_X11_fits_75 : ab_sV mX11_fits 75 12 mX11_shelfAt 1 := ⟨⟨zc_X11_shelfAt.1, zc_X11_shelfAt.2.1, zc_X11_shelfAt.2.2, by decide, by decide⟩, tw_300, _, _, _, rfl, Or.inl ⟨tw_299, tw_3⟩⟩
theorem ss_X11_fits_189 : ab_sS mX11_fits 189 mX11_refusedLong 1 := ⟨⟨zc_X11_refusedLong.1, zc_X11_refusedLong.2.1, zc_X11_refusedLong.2.2, by decide, by decide⟩, tw_645, Or.inl tw_644⟩
theorem ss_X11_fits_79 : ab_sV mX11_fits 79 10 mX9_refusalAsRow 0 := ⟨⟨zc_X9_refusalAsRow.1, zc_X9_refusalAsRow.2.1, zc_X9_refusalAsRow.2.2, by decide, by decide⟩, tw_303, _, _, _, rfl, Or.inl ⟨tw_302, tw_304⟩⟩
theorem ss_X11_fits_163 : ab_sV mX11_fits 163 0 mJx4a65c_size_8abf5 0 := ⟨⟨zc_Jx4a65c_size_8abf5.1, zc_Jx4a65c_size_8abf5.2.1, zc_Jx4a65c_size_8abf5.2.2, by decide, by decide⟩, tw_345, _, _, _, rfl, Or.inl ⟨tw_380, tw_346⟩⟩
theorem ss_X11_fits_307 : ab_sV mX11_fits 307 10 mX9_tellsTrueOrFalse 0 := ⟨⟨zc_X9_tellsTrueOrFalse.1, zc_X9_tellsTrueOrFalse.2.1, zc_X9_tellsTrueOrFalse.2.2, by decide, by decide⟩, tw_830, _, _, _, rfl, Or.inl ⟨tw_829, tw_831⟩⟩
theorem ss_X11_fits_216 : ab_sV mX11_fits 216 11 mX10_mayBe 0 := ⟨⟨zc_X10_mayBe.1, zc_X10_mayBe.2.1, zc_X10_mayBe.2.2, by decide, by decide⟩, tw_632, _, _, _, rfl, Or.inl ⟨tw_689, tw_633⟩⟩
theorem ss_X11_fits_221 : ab_sV mX11_fits 221 0 mJx4a65c_get_915e3 1 := ⟨⟨zc_Jx4a65c_get_915e3.1, zc_Jx4a65c_get_915e3.2.1, zc_Jx4a65c_get_915e3.2.2, by decide, by decide⟩, tw_349, _, _, _, rfl, Or.inl ⟨tw_381, tw_350⟩⟩
theorem ss_X11_fits_311 : ab_sV mX11_fits 311 10 mX9_isSkipped 1 := ⟨⟨zc_X9_isSkipped.1, zc_X9_isSkipped.2.1, zc_X9_isSkipped.2.2, by decide, by decide⟩, tw_835, _, _, _, rfl, Or.inl ⟨tw_839, tw_836⟩⟩
theorem ss_X11_fits_314 : ab_sV mX11_fits 314 10 mX9_numberAt 1 := ⟨⟨zc_X9_numberAt.1, zc_X9_numberAt.2.1, zc_X9_numberAt.2.2, by decide, by decide⟩, tw_317, _, _, _, rfl, Or.inl ⟨tw_316, tw_318⟩⟩
theorem ss_X11_judge_75 : ab_sV mX11_judge 75 12 mX11_shelfAt 1 := ⟨⟨zc_X11_shelfAt.1, zc_X11_shelfAt.2.1, zc_X11_shelfAt.2.2, by decide, by decide⟩, tw_300, _, _, _, rfl, Or.inl ⟨tw_299, tw_3⟩⟩
theorem ss_X11_judge_79 : ab_sV mX11_judge 79 10 mX9_refusalAsRow 0 := ⟨⟨zc_X9_refusalAsRow.1, zc_X9_refusalAsRow.2.1, zc_X9_refusalAsRow.2.2, by decide, by decide⟩, tw_303, _, _, _, rfl, Or.inl ⟨tw_302, tw_304⟩⟩
theorem ss_X11_judge_216 : ab_sV mX11_judge 216 11 mX10_mayBe 0 := ⟨⟨zc_X10_mayBe.1, zc_X10_mayBe.2.1, zc_X10_mayBe.2.2, by decide, by decide⟩, tw_632, _, _, _, rfl, Or.inl ⟨tw_689, tw_633⟩⟩
theorem ss_X11_judge_97 : ab_sS mX11_judge 97 mX11_sayingIn 2 := ⟨⟨zc_X11_sayingIn.1, zc_X11_sayingIn.2.1, zc_X11_sayingIn.2.2, by decide, by decide⟩, tw_490, Or.inl tw_489⟩
theorem ss_X11_judge_163 : ab_sV mX11_judge 163 0 mJx4a65c_size_8abf5 0 := ⟨⟨zc_Jx4a65c_size_8abf5.1, zc_Jx4a65c_size_8abf5.2.1, zc_Jx4a65c_size_8abf5.2.2, by decide, by decide⟩, tw_345, _, _, _, rfl, Or.inl ⟨tw_380, tw_346⟩⟩
theorem ss_X11_judge_314 : ab_sV mX11_judge 314 10 mX9_numberAt 1 := ⟨⟨zc_X9_numberAt.1, zc_X9_numberAt.2.1, zc_X9_numberAt.2.2, by decide, by decide⟩, tw_317, _, _, _, rfl, Or.inl ⟨tw_316, tw_318⟩⟩
theorem ss_X11_judge_192 : ab_sS mX11_judge 192 mJ13_bitCount_95d88 1 := ⟨⟨zc_J13_bitCount_95d88.1, zc_J13_bitCount_95d88.2.1, zc_J13_bitCount_95d88.2.2, by decide, by decide⟩, tw_653, Or.inl tw_652⟩
theorem ss_X11_judge_311 : ab_sV mX11_judge 311 10 mX9_isSkipped 1 := ⟨⟨zc_X9_isSkipped.1, zc_X9_isSkipped.2.1, zc_X9_isSkipped.2.2, by decide, by decide⟩, tw_835, _, _, _, rfl, Or.inl ⟨tw_839, tw_836⟩⟩
theorem ss_X11_seeds_182 : ab_sS mX11_seeds 182 mX11_isEitherOr 1 := ⟨⟨zc_X11_isEitherOr.1, zc_X11_isEitherOr.2.1, zc_X11_isEitherOr.2.2, by decide, by decide⟩, tw_625, Or.inl tw_624⟩
theorem ss_X11_seeds_216 : ab_sV mX11_seeds 216 11 mX10_mayBe 0 := ⟨⟨zc_X10_mayBe.1, zc_X10_mayBe.2.1, zc_X10_mayBe.2.2, by decide, by decide⟩, tw_632, _, _, _, rfl, Or.inl ⟨tw_689, tw_633⟩⟩
theorem ss_X11_seeds_317 : ab_sV mX11_seeds 317 12 mX11_worldsOfDraws 1 := ⟨⟨zc_X11_worldsOfDraws.1, zc_X11_worldsOfDraws.2.1, zc_X11_worldsOfDraws.2.2, by decide, by decide⟩, tw_849, _, _, _, rfl, Or.inl ⟨tw_848, tw_17⟩⟩
theorem ss_X11_seeds_320 : ab_sS mX11_seeds 320 mX11_seedAfterDraws 1 := ⟨⟨zc_X11_seedAfterDraws.1, zc_X11_seedAfterDraws.2.1, zc_X11_seedAfterDraws.2.2, by decide, by decide⟩, tw_861, Or.inl tw_860⟩
theorem ss_X11_seeds_117 : ab_sS mX11_seeds 117 mX11_hasWorld 2 := ⟨⟨zc_X11_hasWorld.1, zc_X11_hasWorld.2.1, zc_X11_hasWorld.2.2, by decide, by decide⟩, tw_566, Or.inl tw_565⟩
theorem ss_X11_seeds_121 : ab_sS mX11_seeds 121 mX11_oneIf 1 := ⟨⟨zc_X11_oneIf.1, zc_X11_oneIf.2.1, zc_X11_oneIf.2.2, by decide, by decide⟩, tw_569, Or.inl tw_568⟩
theorem ss_X11_seeds_192 : ab_sS mX11_seeds 192 mJ13_bitCount_95d88 1 := ⟨⟨zc_J13_bitCount_95d88.1, zc_J13_bitCount_95d88.2.1, zc_J13_bitCount_95d88.2.2, by decide, by decide⟩, tw_653, Or.inl tw_652⟩
theorem ss_X11_image_323 : ab_sV mX11_image 323 11 mX10_becomes 1 := ⟨⟨zc_X10_becomes.1, zc_X10_becomes.2.1, zc_X10_becomes.2.2, by decide, by decide⟩, tw_334, _, _, _, rfl, Or.inl ⟨tw_333, tw_335⟩⟩
theorem ss_X11_image_163 : ab_sV mX11_image 163 0 mJx4a65c_size_8abf5 0 := ⟨⟨zc_Jx4a65c_size_8abf5.1, zc_Jx4a65c_size_8abf5.2.1, zc_Jx4a65c_size_8abf5.2.2, by decide, by decide⟩, tw_345, _, _, _, rfl, Or.inl ⟨tw_380, tw_346⟩⟩
theorem ss_X11_restore_323 : ab_sV mX11_restore 323 11 mX10_becomes 1 := ⟨⟨zc_X10_becomes.1, zc_X10_becomes.2.1, zc_X10_becomes.2.2, by decide, by decide⟩, tw_334, _, _, _, rfl, Or.inl ⟨tw_333, tw_335⟩⟩
theorem ss_X11_restore_163 : ab_sV mX11_restore 163 0 mJx4a65c_size_8abf5 0 := ⟨⟨zc_Jx4a65c_size_8abf5.1, zc_Jx4a65c_size_8abf5.2.1, zc_Jx4a65c_size_8abf5.2.2, by decide, by decide⟩, tw_345, _, _, _, rfl, Or.inl ⟨tw_380, tw_346⟩⟩
theorem ss_X11_count_163 : ab_sV mX11_count 163 0 mJx4a65c_size_8abf5 0 := ⟨⟨zc_Jx4a65c_size_8abf5.1, zc_Jx4a65c_size_8abf5.2.1, zc_Jx4a65c_size_8abf5.2.2, by decide, by decide⟩, tw_345, _, _, _, rfl, Or.inl ⟨tw_380, tw_346⟩⟩
theorem ss_X11_count_331 : ab_sV mX11_count 331 11 mX10_wordsSaid 0 := ⟨⟨zc_X10_wordsSaid.1, zc_X10_wordsSaid.2.1, zc_X10_wordsSaid.2.2, by decide, by decide⟩, tw_876, _, _, _, rfl, Or.inl ⟨tw_875, tw_877⟩⟩
theorem ss_X11_count_216 : ab_sV mX11_count 216 11 mX10_mayBe 0 := ⟨⟨zc_X10_mayBe.1, zc_X10_mayBe.2.1, zc_X10_mayBe.2.2, by decide, by decide⟩, tw_632, _, _, _, rfl, Or.inl ⟨tw_689, tw_633⟩⟩
theorem ss_X11_count_117 : ab_sS mX11_count 117 mX11_hasWorld 2 := ⟨⟨zc_X11_hasWorld.1, zc_X11_hasWorld.2.1, zc_X11_hasWorld.2.2, by decide, by decide⟩, tw_566, Or.inl tw_565⟩
theorem ss_X11_count_121 : ab_sS mX11_count 121 mX11_oneIf 1 := ⟨⟨zc_X11_oneIf.1, zc_X11_oneIf.2.1, zc_X11_oneIf.2.2, by decide, by decide⟩, tw_569, Or.inl tw_568⟩
theorem ss_X11_count_198 : ab_sV mX11_count 198 11 mX10_left 0 := ⟨⟨zc_X10_left.1, zc_X10_left.2.1, zc_X10_left.2.2, by decide, by decide⟩, tw_637, _, _, _, rfl, Or.inl ⟨tw_662, tw_638⟩⟩
theorem ss_X11_keep_75 : ab_sV mX11_keep 75 12 mX11_shelfAt 1 := ⟨⟨zc_X11_shelfAt.1, zc_X11_shelfAt.2.1, zc_X11_shelfAt.2.2, by decide, by decide⟩, tw_300, _, _, _, rfl, Or.inl ⟨tw_299, tw_3⟩⟩
theorem ss_X11_keep_182 : ab_sS mX11_keep 182 mX11_isEitherOr 1 := ⟨⟨zc_X11_isEitherOr.1, zc_X11_isEitherOr.2.1, zc_X11_isEitherOr.2.2, by decide, by decide⟩, tw_625, Or.inl tw_624⟩
theorem ss_X11_keep_334 : ab_sV mX11_keep 334 10 mX9_holdNothing 0 := ⟨⟨zc_X9_holdNothing.1, zc_X9_holdNothing.2.1, zc_X9_holdNothing.2.2, by decide, by decide⟩, tw_885, _, _, _, rfl, Or.inl ⟨tw_884, tw_886⟩⟩
theorem ss_X11_keep_337 : ab_sV mX11_keep 337 12 mX11_kindNumbered 1 := ⟨⟨zc_X11_kindNumbered.1, zc_X11_kindNumbered.2.1, zc_X11_kindNumbered.2.2, by decide, by decide⟩, tw_378, _, _, _, rfl, Or.inl ⟨tw_377, tw_8⟩⟩
theorem ss_X11_keep_341 : ab_sV mX11_keep 341 10 mX9_holdSaying 2 := ⟨⟨zc_X9_holdSaying.1, zc_X9_holdSaying.2.1, zc_X9_holdSaying.2.2, by decide, by decide⟩, tw_889, _, _, _, rfl, Or.inl ⟨tw_888, tw_890⟩⟩
theorem ss_X11_row_75 : ab_sV mX11_row 75 12 mX11_shelfAt 1 := ⟨⟨zc_X11_shelfAt.1, zc_X11_shelfAt.2.1, zc_X11_shelfAt.2.2, by decide, by decide⟩, tw_300, _, _, _, rfl, Or.inl ⟨tw_299, tw_3⟩⟩
theorem ss_X11_row_345 : ab_sV mX11_row 345 10 mX9_holdRow 2 := ⟨⟨zc_X9_holdRow.1, zc_X9_holdRow.2.1, zc_X9_holdRow.2.2, by decide, by decide⟩, tw_897, _, _, _, rfl, Or.inl ⟨tw_896, tw_898⟩⟩
theorem ss_X11_put_75 : ab_sV mX11_put 75 12 mX11_shelfAt 1 := ⟨⟨zc_X11_shelfAt.1, zc_X11_shelfAt.2.1, zc_X11_shelfAt.2.2, by decide, by decide⟩, tw_300, _, _, _, rfl, Or.inl ⟨tw_299, tw_3⟩⟩
theorem ss_X11_put_79 : ab_sV mX11_put 79 10 mX9_refusalAsRow 0 := ⟨⟨zc_X9_refusalAsRow.1, zc_X9_refusalAsRow.2.1, zc_X9_refusalAsRow.2.2, by decide, by decide⟩, tw_303, _, _, _, rfl, Or.inl ⟨tw_302, tw_304⟩⟩
theorem ss_X11_put_349 : ab_sV mX11_put 349 10 mX9_setNumber 2 := ⟨⟨zc_X9_setNumber.1, zc_X9_setNumber.2.1, zc_X9_setNumber.2.2, by decide, by decide⟩, tw_905, _, _, _, rfl, Or.inl ⟨tw_904, tw_906⟩⟩
theorem ss_X11_element_75 : ab_sV mX11_element 75 12 mX11_shelfAt 1 := ⟨⟨zc_X11_shelfAt.1, zc_X11_shelfAt.2.1, zc_X11_shelfAt.2.2, by decide, by decide⟩, tw_300, _, _, _, rfl, Or.inl ⟨tw_299, tw_3⟩⟩
theorem ss_X11_element_79 : ab_sV mX11_element 79 10 mX9_refusalAsRow 0 := ⟨⟨zc_X9_refusalAsRow.1, zc_X9_refusalAsRow.2.1, zc_X9_refusalAsRow.2.2, by decide, by decide⟩, tw_303, _, _, _, rfl, Or.inl ⟨tw_302, tw_304⟩⟩
theorem ss_X11_element_364 : ab_sV mX11_element 364 10 mX9_hasPlaces 2 := ⟨⟨zc_X9_hasPlaces.1, zc_X9_hasPlaces.2.1, zc_X9_hasPlaces.2.2, by decide, by decide⟩, tw_321, _, _, _, rfl, Or.inl ⟨tw_916, tw_322⟩⟩
theorem ss_X11_element_314 : ab_sV mX11_element 314 10 mX9_numberAt 1 := ⟨⟨zc_X9_numberAt.1, zc_X9_numberAt.2.1, zc_X9_numberAt.2.2, by decide, by decide⟩, tw_317, _, _, _, rfl, Or.inl ⟨tw_316, tw_318⟩⟩
theorem ss_X11_copy_75 : ab_sV mX11_copy 75 12 mX11_shelfAt 1 := ⟨⟨zc_X11_shelfAt.1, zc_X11_shelfAt.2.1, zc_X11_shelfAt.2.2, by decide, by decide⟩, tw_300, _, _, _, rfl, Or.inl ⟨tw_299, tw_3⟩⟩
theorem ss_X11_copy_369 : ab_sV mX11_copy 369 10 mX9_isEmpty 0 := ⟨⟨zc_X9_isEmpty.1, zc_X9_isEmpty.2.1, zc_X9_isEmpty.2.2, by decide, by decide⟩, tw_310, _, _, _, rfl, Or.inl ⟨tw_915, tw_311⟩⟩
theorem ss_X11_copy_79 : ab_sV mX11_copy 79 10 mX9_refusalAsRow 0 := ⟨⟨zc_X9_refusalAsRow.1, zc_X9_refusalAsRow.2.1, zc_X9_refusalAsRow.2.2, by decide, by decide⟩, tw_303, _, _, _, rfl, Or.inl ⟨tw_302, tw_304⟩⟩
theorem ss_X11_copy_364 : ab_sV mX11_copy 364 10 mX9_hasPlaces 2 := ⟨⟨zc_X9_hasPlaces.1, zc_X9_hasPlaces.2.1, zc_X9_hasPlaces.2.2, by decide, by decide⟩, tw_321, _, _, _, rfl, Or.inl ⟨tw_916, tw_322⟩⟩
theorem ss_X11_cost_75 : ab_sV mX11_cost 75 12 mX11_shelfAt 1 := ⟨⟨zc_X11_shelfAt.1, zc_X11_shelfAt.2.1, zc_X11_shelfAt.2.2, by decide, by decide⟩, tw_300, _, _, _, rfl, Or.inl ⟨tw_299, tw_3⟩⟩
theorem ss_X11_cost_141 : ab_sV mX11_cost 141 10 mX9_refusalAsSaying 0 := ⟨⟨zc_X9_refusalAsSaying.1, zc_X9_refusalAsSaying.2.1, zc_X9_refusalAsSaying.2.2, by decide, by decide⟩, tw_583, _, _, _, rfl, Or.inl ⟨tw_582, tw_584⟩⟩
theorem ss_X11_cost_382_9 : ab_sV mX11_cost 382 9 mX8_price 1 := ⟨⟨zc_X8_price.1, zc_X8_price.2.1, zc_X8_price.2.2, by decide, by decide⟩, tw_923, _, _, _, rfl, Or.inl ⟨tw_922, tw_924⟩⟩
theorem ss_X11_cost_382_3 : ab_sV mX11_cost 382 3 mX2_price 1 := ⟨⟨zc_X2_price.1, zc_X2_price.2.1, zc_X2_price.2.2, by decide, by decide⟩, tw_935, _, _, _, rfl, Or.inr (Or.inr ⟨⟨"WitnessesMustLie$Says", "price", "(I)I"⟩, "WitnessesMustLie$Says", _, _, _, tw_922, tw_925, tw_923, tw_954, tw_934, by decide +kernel, by decide +kernel, rfl⟩)⟩
theorem ss_X11_cost_382_2 : ab_sV mX11_cost 382 2 mX1_price 1 := ⟨⟨zc_X1_price.1, zc_X1_price.2.1, zc_X1_price.2.2, by decide, by decide⟩, tw_930, _, _, _, rfl, Or.inr (Or.inr ⟨⟨"WitnessesMustLie$Says", "price", "(I)I"⟩, "WitnessesMustLie$Says", _, _, _, tw_922, tw_925, tw_923, tw_954, tw_933, by decide +kernel, by decide +kernel, rfl⟩)⟩
theorem ss_X11_cost_382_4 : ab_sV mX11_cost 382 4 mX3_price 1 := ⟨⟨zc_X3_price.1, zc_X3_price.2.1, zc_X3_price.2.2, by decide, by decide⟩, tw_939, _, _, _, rfl, Or.inr (Or.inr ⟨⟨"WitnessesMustLie$Says", "price", "(I)I"⟩, "WitnessesMustLie$Says", _, _, _, tw_922, tw_925, tw_923, tw_954, tw_938, by decide +kernel, by decide +kernel, rfl⟩)⟩
theorem ss_X11_cost_382_6 : ab_sV mX11_cost 382 6 mX5_price 1 := ⟨⟨zc_X5_price.1, zc_X5_price.2.1, zc_X5_price.2.2, by decide, by decide⟩, tw_947, _, _, _, rfl, Or.inr (Or.inr ⟨⟨"WitnessesMustLie$Says", "price", "(I)I"⟩, "WitnessesMustLie$Says", _, _, _, tw_922, tw_925, tw_923, tw_954, tw_946, by decide +kernel, by decide +kernel, rfl⟩)⟩
theorem ss_X11_cost_382_1 : ab_sV mX11_cost 382 1 mX0_price 1 := ⟨⟨zc_X0_price.1, zc_X0_price.2.1, zc_X0_price.2.2, by decide, by decide⟩, tw_927, _, _, _, rfl, Or.inr (Or.inr ⟨⟨"WitnessesMustLie$Says", "price", "(I)I"⟩, "WitnessesMustLie$Says", _, _, _, tw_922, tw_925, tw_923, tw_954, tw_926, by decide +kernel, by decide +kernel, rfl⟩)⟩
theorem ss_X11_cost_382_5 : ab_sV mX11_cost 382 5 mX4_price 1 := ⟨⟨zc_X4_price.1, zc_X4_price.2.1, zc_X4_price.2.2, by decide, by decide⟩, tw_943, _, _, _, rfl, Or.inr (Or.inr ⟨⟨"WitnessesMustLie$Says", "price", "(I)I"⟩, "WitnessesMustLie$Says", _, _, _, tw_922, tw_925, tw_923, tw_954, tw_942, by decide +kernel, by decide +kernel, rfl⟩)⟩
theorem ss_X11_cost_382_7 : ab_sV mX11_cost 382 7 mX6_price 1 := ⟨⟨zc_X6_price.1, zc_X6_price.2.1, zc_X6_price.2.2, by decide, by decide⟩, tw_951, _, _, _, rfl, Or.inr (Or.inr ⟨⟨"WitnessesMustLie$Says", "price", "(I)I"⟩, "WitnessesMustLie$Says", _, _, _, tw_922, tw_925, tw_923, tw_954, tw_950, by decide +kernel, by decide +kernel, rfl⟩)⟩
theorem ss_X11_kindNumbered_163 : ab_sV mX11_kindNumbered 163 0 mJx4a65c_size_8abf5 0 := ⟨⟨zc_Jx4a65c_size_8abf5.1, zc_Jx4a65c_size_8abf5.2.1, zc_Jx4a65c_size_8abf5.2.2, by decide, by decide⟩, tw_345, _, _, _, rfl, Or.inl ⟨tw_380, tw_346⟩⟩
theorem ss_X11_kindNumbered_221 : ab_sV mX11_kindNumbered 221 0 mJx4a65c_get_915e3 1 := ⟨⟨zc_Jx4a65c_get_915e3.1, zc_Jx4a65c_get_915e3.2.1, zc_Jx4a65c_get_915e3.2.2, by decide, by decide⟩, tw_349, _, _, _, rfl, Or.inl ⟨tw_381, tw_350⟩⟩
theorem ss_X11_sayingIn_163 : ab_sV mX11_sayingIn 163 0 mJx4a65c_size_8abf5 0 := ⟨⟨zc_Jx4a65c_size_8abf5.1, zc_Jx4a65c_size_8abf5.2.1, zc_Jx4a65c_size_8abf5.2.2, by decide, by decide⟩, tw_345, _, _, _, rfl, Or.inl ⟨tw_380, tw_346⟩⟩
theorem ss_X11_sayingIn_221 : ab_sV mX11_sayingIn 221 0 mJx4a65c_get_915e3 1 := ⟨⟨zc_Jx4a65c_get_915e3.1, zc_Jx4a65c_get_915e3.2.1, zc_Jx4a65c_get_915e3.2.2, by decide, by decide⟩, tw_349, _, _, _, rfl, Or.inl ⟨tw_381, tw_350⟩⟩
theorem ss_X11_newSaying_393_9 : ab_sV mX11_newSaying 393 9 mX8_worldsOf 3 := ⟨⟨zc_X8_worldsOf.1, zc_X8_worldsOf.2.1, zc_X8_worldsOf.2.2, by decide, by decide⟩, tw_391, _, _, _, rfl, Or.inl ⟨tw_390, tw_392⟩⟩
theorem ss_X11_newSaying_393_3 : ab_sV mX11_newSaying 393 3 mX8_worldsOf 3 := ⟨⟨zc_X8_worldsOf.1, zc_X8_worldsOf.2.1, zc_X8_worldsOf.2.2, by decide, by decide⟩, tw_391, _, _, _, rfl, Or.inr (Or.inr ⟨⟨"WitnessesMustLie$Says", "worldsOf", "(III)J"⟩, "WitnessesMustLie$Says", _, _, _, tw_390, tw_393, tw_391, tw_401, tw_396, by decide +kernel, by decide +kernel, rfl⟩)⟩
theorem ss_X11_newSaying_393_2 : ab_sV mX11_newSaying 393 2 mX8_worldsOf 3 := ⟨⟨zc_X8_worldsOf.1, zc_X8_worldsOf.2.1, zc_X8_worldsOf.2.2, by decide, by decide⟩, tw_391, _, _, _, rfl, Or.inr (Or.inr ⟨⟨"WitnessesMustLie$Says", "worldsOf", "(III)J"⟩, "WitnessesMustLie$Says", _, _, _, tw_390, tw_393, tw_391, tw_401, tw_395, by decide +kernel, by decide +kernel, rfl⟩)⟩
theorem ss_X11_newSaying_393_4 : ab_sV mX11_newSaying 393 4 mX8_worldsOf 3 := ⟨⟨zc_X8_worldsOf.1, zc_X8_worldsOf.2.1, zc_X8_worldsOf.2.2, by decide, by decide⟩, tw_391, _, _, _, rfl, Or.inr (Or.inr ⟨⟨"WitnessesMustLie$Says", "worldsOf", "(III)J"⟩, "WitnessesMustLie$Says", _, _, _, tw_390, tw_393, tw_391, tw_401, tw_397, by decide +kernel, by decide +kernel, rfl⟩)⟩
theorem ss_X11_newSaying_393_6 : ab_sV mX11_newSaying 393 6 mX8_worldsOf 3 := ⟨⟨zc_X8_worldsOf.1, zc_X8_worldsOf.2.1, zc_X8_worldsOf.2.2, by decide, by decide⟩, tw_391, _, _, _, rfl, Or.inr (Or.inr ⟨⟨"WitnessesMustLie$Says", "worldsOf", "(III)J"⟩, "WitnessesMustLie$Says", _, _, _, tw_390, tw_393, tw_391, tw_401, tw_399, by decide +kernel, by decide +kernel, rfl⟩)⟩
theorem ss_X11_newSaying_393_1 : ab_sV mX11_newSaying 393 1 mX8_worldsOf 3 := ⟨⟨zc_X8_worldsOf.1, zc_X8_worldsOf.2.1, zc_X8_worldsOf.2.2, by decide, by decide⟩, tw_391, _, _, _, rfl, Or.inr (Or.inr ⟨⟨"WitnessesMustLie$Says", "worldsOf", "(III)J"⟩, "WitnessesMustLie$Says", _, _, _, tw_390, tw_393, tw_391, tw_401, tw_394, by decide +kernel, by decide +kernel, rfl⟩)⟩
theorem ss_X11_newSaying_393_5 : ab_sV mX11_newSaying 393 5 mX8_worldsOf 3 := ⟨⟨zc_X8_worldsOf.1, zc_X8_worldsOf.2.1, zc_X8_worldsOf.2.2, by decide, by decide⟩, tw_391, _, _, _, rfl, Or.inr (Or.inr ⟨⟨"WitnessesMustLie$Says", "worldsOf", "(III)J"⟩, "WitnessesMustLie$Says", _, _, _, tw_390, tw_393, tw_391, tw_401, tw_398, by decide +kernel, by decide +kernel, rfl⟩)⟩
theorem ss_X11_newSaying_393_7 : ab_sV mX11_newSaying 393 7 mX8_worldsOf 3 := ⟨⟨zc_X8_worldsOf.1, zc_X8_worldsOf.2.1, zc_X8_worldsOf.2.2, by decide, by decide⟩, tw_391, _, _, _, rfl, Or.inr (Or.inr ⟨⟨"WitnessesMustLie$Says", "worldsOf", "(III)J"⟩, "WitnessesMustLie$Says", _, _, _, tw_390, tw_393, tw_391, tw_401, tw_400, by decide +kernel, by decide +kernel, rfl⟩)⟩
theorem ss_X11_newSaying_396 : ab_sI mX11_newSaying 396 mX7_init 6 := ⟨⟨zc_X7_init.1, zc_X7_init.2.1, zc_X7_init.2.2, by decide, by decide⟩, tw_436, rfl, rfl, Or.inl tw_435⟩
theorem ss_X11_factsOfAll_233 : ab_sS mX11_factsOfAll 233 mX11_worldsWith 1 := ⟨⟨zc_X11_worldsWith.1, zc_X11_worldsWith.2.1, zc_X11_worldsWith.2.2, by decide, by decide⟩, tw_403, Or.inl tw_666⟩
theorem ss_X11_factsOfAll_402 : ab_sS mX11_factsOfAll 402 mX11_factBit 1 := ⟨⟨zc_X11_factBit.1, zc_X11_factBit.2.1, zc_X11_factBit.2.2, by decide, by decide⟩, tw_546, Or.inl tw_668⟩
theorem ss_X11_factsOfNone_233 : ab_sS mX11_factsOfNone 233 mX11_worldsWith 1 := ⟨⟨zc_X11_worldsWith.1, zc_X11_worldsWith.2.1, zc_X11_worldsWith.2.2, by decide, by decide⟩, tw_403, Or.inl tw_666⟩
theorem ss_X11_factsOfNone_402 : ab_sS mX11_factsOfNone 402 mX11_factBit 1 := ⟨⟨zc_X11_factBit.1, zc_X11_factBit.2.1, zc_X11_factBit.2.2, by decide, by decide⟩, tw_546, Or.inl tw_668⟩
theorem ss_X11_factsAlike_202 : ab_sS mX11_factsAlike 202 mX11_factsOfAll 1 := ⟨⟨zc_X11_factsOfAll.1, zc_X11_factsOfAll.2.1, zc_X11_factsOfAll.2.2, by decide, by decide⟩, tw_664, Or.inl tw_663⟩
theorem ss_X11_factsAlike_205 : ab_sS mX11_factsAlike 205 mX11_factsOfNone 1 := ⟨⟨zc_X11_factsOfNone.1, zc_X11_factsOfNone.2.1, zc_X11_factsOfNone.2.2, by decide, by decide⟩, tw_670, Or.inl tw_669⟩
theorem ss_X11_isProvedBy_233 : ab_sS mX11_isProvedBy 233 mX11_worldsWith 1 := ⟨⟨zc_X11_worldsWith.1, zc_X11_worldsWith.2.1, zc_X11_worldsWith.2.2, by decide, by decide⟩, tw_403, Or.inl tw_666⟩
theorem ss_X11_likeInKnown_402 : ab_sS mX11_likeInKnown 402 mX11_factBit 1 := ⟨⟨zc_X11_factBit.1, zc_X11_factBit.2.1, zc_X11_factBit.2.2, by decide, by decide⟩, tw_546, Or.inl tw_668⟩
theorem ss_X11_likeInKnown_233 : ab_sS mX11_likeInKnown 233 mX11_worldsWith 1 := ⟨⟨zc_X11_worldsWith.1, zc_X11_worldsWith.2.1, zc_X11_worldsWith.2.2, by decide, by decide⟩, tw_403, Or.inl tw_666⟩
theorem ss_X11_brokenPlace_314 : ab_sV mX11_brokenPlace 314 10 mX9_numberAt 1 := ⟨⟨zc_X9_numberAt.1, zc_X9_numberAt.2.1, zc_X9_numberAt.2.2, by decide, by decide⟩, tw_317, _, _, _, rfl, Or.inl ⟨tw_316, tw_318⟩⟩
theorem ss_X11_brokenPlace_405 : ab_sS mX11_brokenPlace 405 mX11_digitsBehind 1 := ⟨⟨zc_X11_digitsBehind.1, zc_X11_digitsBehind.2.1, zc_X11_digitsBehind.2.2, by decide, by decide⟩, tw_325, Or.inl tw_324⟩
theorem ss_X11_brokenPlace_408 : ab_sS mX11_brokenPlace 408 mX11_isDigit 1 := ⟨⟨zc_X11_isDigit.1, zc_X11_isDigit.2.1, zc_X11_isDigit.2.2, by decide, by decide⟩, tw_328, Or.inl tw_327⟩
theorem ss_X11_digitAt_314 : ab_sV mX11_digitAt 314 10 mX9_numberAt 1 := ⟨⟨zc_X9_numberAt.1, zc_X9_numberAt.2.1, zc_X9_numberAt.2.2, by decide, by decide⟩, tw_317, _, _, _, rfl, Or.inl ⟨tw_316, tw_318⟩⟩
theorem ss_X11_twoDigitsAt_411 : ab_sS mX11_twoDigitsAt 411 mX11_digitAt 2 := ⟨⟨zc_X11_digitAt.1, zc_X11_digitAt.2.1, zc_X11_digitAt.2.2, by decide, by decide⟩, tw_375, Or.inl tw_374⟩
theorem ss_X11_enact_323 : ab_sV mX11_enact 323 11 mX10_becomes 1 := ⟨⟨zc_X10_becomes.1, zc_X10_becomes.2.1, zc_X10_becomes.2.2, by decide, by decide⟩, tw_334, _, _, _, rfl, Or.inl ⟨tw_333, tw_335⟩⟩
theorem ss_X11_enact_415 : ab_sV mX11_enact 415 12 mX11_isEnacted 2 := ⟨⟨zc_X11_isEnacted.1, zc_X11_isEnacted.2.1, zc_X11_isEnacted.2.2, by decide, by decide⟩, tw_369, _, _, _, rfl, Or.inl ⟨tw_368, tw_6⟩⟩
theorem ss_X11_enact_314 : ab_sV mX11_enact 314 10 mX9_numberAt 1 := ⟨⟨zc_X9_numberAt.1, zc_X9_numberAt.2.1, zc_X9_numberAt.2.2, by decide, by decide⟩, tw_317, _, _, _, rfl, Or.inl ⟨tw_316, tw_318⟩⟩
theorem ss_X11_enact_405 : ab_sS mX11_enact 405 mX11_digitsBehind 1 := ⟨⟨zc_X11_digitsBehind.1, zc_X11_digitsBehind.2.1, zc_X11_digitsBehind.2.2, by decide, by decide⟩, tw_325, Or.inl tw_324⟩
theorem ss_X11_isEnacted_314 : ab_sV mX11_isEnacted 314 10 mX9_numberAt 1 := ⟨⟨zc_X9_numberAt.1, zc_X9_numberAt.2.1, zc_X9_numberAt.2.2, by decide, by decide⟩, tw_317, _, _, _, rfl, Or.inl ⟨tw_316, tw_318⟩⟩
theorem ss_X11_isEnacted_419 : ab_sV mX11_isEnacted 419 12 mX11_sayingAt 3 := ⟨⟨zc_X11_sayingAt.1, zc_X11_sayingAt.2.1, zc_X11_sayingAt.2.2, by decide, by decide⟩, tw_372, _, _, _, rfl, Or.inl ⟨tw_371, tw_7⟩⟩
theorem ss_X11_isEnacted_159 : ab_sV mX11_isEnacted 159 11 mX10_addLaw 1 := ⟨⟨zc_X10_addLaw.1, zc_X10_addLaw.2.1, zc_X10_addLaw.2.2, by decide, by decide⟩, tw_457, _, _, _, rfl, Or.inl ⟨tw_456, tw_458⟩⟩
theorem ss_X11_isEnacted_423 : ab_sS mX11_isEnacted 423 mX11_twoDigitsAt 2 := ⟨⟨zc_X11_twoDigitsAt.1, zc_X11_twoDigitsAt.2.1, zc_X11_twoDigitsAt.2.2, by decide, by decide⟩, tw_461, Or.inl tw_460⟩
theorem ss_X11_isEnacted_176 : ab_sV mX11_isEnacted 176 11 mX10_addWitness 1 := ⟨⟨zc_X10_addWitness.1, zc_X10_addWitness.2.1, zc_X10_addWitness.2.2, by decide, by decide⟩, tw_464, _, _, _, rfl, Or.inl ⟨tw_463, tw_465⟩⟩
theorem ss_X11_isEnacted_426 : ab_sV mX11_isEnacted 426 11 mX10_setTruth 1 := ⟨⟨zc_X10_setTruth.1, zc_X10_setTruth.2.1, zc_X10_setTruth.2.2, by decide, by decide⟩, tw_471, _, _, _, rfl, Or.inl ⟨tw_470, tw_472⟩⟩
theorem ss_X11_isEnacted_411 : ab_sS mX11_isEnacted 411 mX11_digitAt 2 := ⟨⟨zc_X11_digitAt.1, zc_X11_digitAt.2.1, zc_X11_digitAt.2.2, by decide, by decide⟩, tw_375, Or.inl tw_374⟩
theorem ss_X11_isEnacted_166 : ab_sV mX11_isEnacted 166 11 mX10_addSaid 1 := ⟨⟨zc_X10_addSaid.1, zc_X10_addSaid.2.1, zc_X10_addSaid.2.2, by decide, by decide⟩, tw_478, _, _, _, rfl, Or.inl ⟨tw_477, tw_479⟩⟩
theorem ss_X11_sayingAt_411 : ab_sS mX11_sayingAt 411 mX11_digitAt 2 := ⟨⟨zc_X11_digitAt.1, zc_X11_digitAt.2.1, zc_X11_digitAt.2.2, by decide, by decide⟩, tw_375, Or.inl tw_374⟩
theorem ss_X11_sayingAt_337 : ab_sV mX11_sayingAt 337 12 mX11_kindNumbered 1 := ⟨⟨zc_X11_kindNumbered.1, zc_X11_kindNumbered.2.1, zc_X11_kindNumbered.2.2, by decide, by decide⟩, tw_378, _, _, _, rfl, Or.inl ⟨tw_377, tw_8⟩⟩
theorem ss_X11_sayingAt_135 : ab_sS mX11_sayingAt 135 mX11_isFact 1 := ⟨⟨zc_X11_isFact.1, zc_X11_isFact.2.1, zc_X11_isFact.2.2, by decide, by decide⟩, tw_383, Or.inl tw_382⟩
theorem ss_X11_sayingAt_155 : ab_sS mX11_sayingAt 155 mX11_newSaying 5 := ⟨⟨zc_X11_newSaying.1, zc_X11_newSaying.2.1, zc_X11_newSaying.2.2, by decide, by decide⟩, tw_386, Or.inl tw_385⟩
theorem ss_X11_leastOrder_224 : ab_sS mX11_leastOrder 224 mJ6_bitCount_0f7a4 1 := ⟨⟨zc_J6_bitCount_0f7a4.1, zc_J6_bitCount_0f7a4.2.1, zc_J6_bitCount_0f7a4.2.2, by decide, by decide⟩, tw_699, Or.inl tw_698⟩
theorem ss_X11_leastOrder_242 : ab_sV mX11_leastOrder 242 11 mX10_isPlainBy 1 := ⟨⟨zc_X10_isPlainBy.1, zc_X10_isPlainBy.2.1, zc_X10_isPlainBy.2.2, by decide, by decide⟩, tw_722, _, _, _, rfl, Or.inl ⟨tw_721, tw_723⟩⟩
theorem ss_X11_leastOrder_429 : ab_sV mX11_leastOrder 429 12 mX11_digitsWithAhead 1 := ⟨⟨zc_X11_digitsWithAhead.1, zc_X11_digitsWithAhead.2.1, zc_X11_digitsWithAhead.2.2, by decide, by decide⟩, tw_739, _, _, _, rfl, Or.inl ⟨tw_738, tw_11⟩⟩
theorem ss_X11_leastOrder_236 : ab_sS mX11_leastOrder 236 mJ9_min_7cf53 2 := ⟨⟨zc_J9_min_7cf53.1, zc_J9_min_7cf53.2.1, zc_J9_min_7cf53.2.2, by decide, by decide⟩, tw_193, Or.inl tw_716⟩
theorem ss_X11_digitsWithAhead_432 : ab_sV mX11_digitsWithAhead 432 12 mX11_digitsOf 2 := ⟨⟨zc_X11_digitsOf.1, zc_X11_digitsOf.2.1, zc_X11_digitsOf.2.2, by decide, by decide⟩, tw_742, _, _, _, rfl, Or.inl ⟨tw_741, tw_12⟩⟩
theorem ss_X11_worldsOfCode_261 : ab_sS mX11_worldsOfCode 261 mX11_kindOfCode 1 := ⟨⟨zc_X11_kindOfCode.1, zc_X11_kindOfCode.2.1, zc_X11_kindOfCode.2.2, by decide, by decide⟩, tw_757, Or.inl tw_756⟩
theorem ss_X11_worldsOfCode_337 : ab_sV mX11_worldsOfCode 337 12 mX11_kindNumbered 1 := ⟨⟨zc_X11_kindNumbered.1, zc_X11_kindNumbered.2.1, zc_X11_kindNumbered.2.2, by decide, by decide⟩, tw_378, _, _, _, rfl, Or.inl ⟨tw_377, tw_8⟩⟩
theorem ss_X11_worldsOfCode_264 : ab_sS mX11_worldsOfCode 264 mX11_firstOfCode 1 := ⟨⟨zc_X11_firstOfCode.1, zc_X11_firstOfCode.2.1, zc_X11_firstOfCode.2.2, by decide, by decide⟩, tw_760, Or.inl tw_759⟩
theorem ss_X11_worldsOfCode_267 : ab_sS mX11_worldsOfCode 267 mX11_secondOfCode 1 := ⟨⟨zc_X11_secondOfCode.1, zc_X11_secondOfCode.2.1, zc_X11_secondOfCode.2.2, by decide, by decide⟩, tw_763, Or.inl tw_762⟩
theorem ss_X11_worldsOfCode_393_9 : ab_sV mX11_worldsOfCode 393 9 mX8_worldsOf 3 := ⟨⟨zc_X8_worldsOf.1, zc_X8_worldsOf.2.1, zc_X8_worldsOf.2.2, by decide, by decide⟩, tw_391, _, _, _, rfl, Or.inl ⟨tw_390, tw_392⟩⟩
theorem ss_X11_worldsOfCode_393_3 : ab_sV mX11_worldsOfCode 393 3 mX8_worldsOf 3 := ⟨⟨zc_X8_worldsOf.1, zc_X8_worldsOf.2.1, zc_X8_worldsOf.2.2, by decide, by decide⟩, tw_391, _, _, _, rfl, Or.inr (Or.inr ⟨⟨"WitnessesMustLie$Says", "worldsOf", "(III)J"⟩, "WitnessesMustLie$Says", _, _, _, tw_390, tw_393, tw_391, tw_401, tw_396, by decide +kernel, by decide +kernel, rfl⟩)⟩
theorem ss_X11_worldsOfCode_393_2 : ab_sV mX11_worldsOfCode 393 2 mX8_worldsOf 3 := ⟨⟨zc_X8_worldsOf.1, zc_X8_worldsOf.2.1, zc_X8_worldsOf.2.2, by decide, by decide⟩, tw_391, _, _, _, rfl, Or.inr (Or.inr ⟨⟨"WitnessesMustLie$Says", "worldsOf", "(III)J"⟩, "WitnessesMustLie$Says", _, _, _, tw_390, tw_393, tw_391, tw_401, tw_395, by decide +kernel, by decide +kernel, rfl⟩)⟩
theorem ss_X11_worldsOfCode_393_4 : ab_sV mX11_worldsOfCode 393 4 mX8_worldsOf 3 := ⟨⟨zc_X8_worldsOf.1, zc_X8_worldsOf.2.1, zc_X8_worldsOf.2.2, by decide, by decide⟩, tw_391, _, _, _, rfl, Or.inr (Or.inr ⟨⟨"WitnessesMustLie$Says", "worldsOf", "(III)J"⟩, "WitnessesMustLie$Says", _, _, _, tw_390, tw_393, tw_391, tw_401, tw_397, by decide +kernel, by decide +kernel, rfl⟩)⟩
theorem ss_X11_worldsOfCode_393_6 : ab_sV mX11_worldsOfCode 393 6 mX8_worldsOf 3 := ⟨⟨zc_X8_worldsOf.1, zc_X8_worldsOf.2.1, zc_X8_worldsOf.2.2, by decide, by decide⟩, tw_391, _, _, _, rfl, Or.inr (Or.inr ⟨⟨"WitnessesMustLie$Says", "worldsOf", "(III)J"⟩, "WitnessesMustLie$Says", _, _, _, tw_390, tw_393, tw_391, tw_401, tw_399, by decide +kernel, by decide +kernel, rfl⟩)⟩
theorem ss_X11_worldsOfCode_393_1 : ab_sV mX11_worldsOfCode 393 1 mX8_worldsOf 3 := ⟨⟨zc_X8_worldsOf.1, zc_X8_worldsOf.2.1, zc_X8_worldsOf.2.2, by decide, by decide⟩, tw_391, _, _, _, rfl, Or.inr (Or.inr ⟨⟨"WitnessesMustLie$Says", "worldsOf", "(III)J"⟩, "WitnessesMustLie$Says", _, _, _, tw_390, tw_393, tw_391, tw_401, tw_394, by decide +kernel, by decide +kernel, rfl⟩)⟩
theorem ss_X11_worldsOfCode_393_5 : ab_sV mX11_worldsOfCode 393 5 mX8_worldsOf 3 := ⟨⟨zc_X8_worldsOf.1, zc_X8_worldsOf.2.1, zc_X8_worldsOf.2.2, by decide, by decide⟩, tw_391, _, _, _, rfl, Or.inr (Or.inr ⟨⟨"WitnessesMustLie$Says", "worldsOf", "(III)J"⟩, "WitnessesMustLie$Says", _, _, _, tw_390, tw_393, tw_391, tw_401, tw_398, by decide +kernel, by decide +kernel, rfl⟩)⟩
theorem ss_X11_worldsOfCode_393_7 : ab_sV mX11_worldsOfCode 393 7 mX8_worldsOf 3 := ⟨⟨zc_X8_worldsOf.1, zc_X8_worldsOf.2.1, zc_X8_worldsOf.2.2, by decide, by decide⟩, tw_391, _, _, _, rfl, Or.inr (Or.inr ⟨⟨"WitnessesMustLie$Says", "worldsOf", "(III)J"⟩, "WitnessesMustLie$Says", _, _, _, tw_390, tw_393, tw_391, tw_401, tw_400, by decide +kernel, by decide +kernel, rfl⟩)⟩
theorem ss_X11_isLie_261 : ab_sS mX11_isLie 261 mX11_kindOfCode 1 := ⟨⟨zc_X11_kindOfCode.1, zc_X11_kindOfCode.2.1, zc_X11_kindOfCode.2.2, by decide, by decide⟩, tw_757, Or.inl tw_756⟩
theorem ss_X11_isLie_337 : ab_sV mX11_isLie 337 12 mX11_kindNumbered 1 := ⟨⟨zc_X11_kindNumbered.1, zc_X11_kindNumbered.2.1, zc_X11_kindNumbered.2.2, by decide, by decide⟩, tw_378, _, _, _, rfl, Or.inl ⟨tw_377, tw_8⟩⟩
theorem ss_X11_isLie_264 : ab_sS mX11_isLie 264 mX11_firstOfCode 1 := ⟨⟨zc_X11_firstOfCode.1, zc_X11_firstOfCode.2.1, zc_X11_firstOfCode.2.2, by decide, by decide⟩, tw_760, Or.inl tw_759⟩
theorem ss_X11_isLie_267 : ab_sS mX11_isLie 267 mX11_secondOfCode 1 := ⟨⟨zc_X11_secondOfCode.1, zc_X11_secondOfCode.2.1, zc_X11_secondOfCode.2.2, by decide, by decide⟩, tw_763, Or.inl tw_762⟩
theorem ss_X11_isLie_435_9 : ab_sV mX11_isLie 435 9 mX8_facts 3 := ⟨⟨zc_X8_facts.1, zc_X8_facts.2.1, zc_X8_facts.2.2, by decide, by decide⟩, tw_538, _, _, _, rfl, Or.inl ⟨tw_765, tw_539⟩⟩
theorem ss_X11_isLie_435_3 : ab_sV mX11_isLie 435 3 mX8_facts 3 := ⟨⟨zc_X8_facts.1, zc_X8_facts.2.1, zc_X8_facts.2.2, by decide, by decide⟩, tw_538, _, _, _, rfl, Or.inr (Or.inr ⟨⟨"WitnessesMustLie$Says", "facts", "(III)I"⟩, "WitnessesMustLie$Says", _, _, _, tw_765, tw_540, tw_538, tw_559, tw_549, by decide +kernel, by decide +kernel, rfl⟩)⟩
theorem ss_X11_isLie_435_2 : ab_sV mX11_isLie 435 2 mX1_facts 3 := ⟨⟨zc_X1_facts.1, zc_X1_facts.2.1, zc_X1_facts.2.2, by decide, by decide⟩, tw_542, _, _, _, rfl, Or.inr (Or.inr ⟨⟨"WitnessesMustLie$Says", "facts", "(III)I"⟩, "WitnessesMustLie$Says", _, _, _, tw_765, tw_540, tw_538, tw_559, tw_548, by decide +kernel, by decide +kernel, rfl⟩)⟩
theorem ss_X11_isLie_435_4 : ab_sV mX11_isLie 435 4 mX1_facts 3 := ⟨⟨zc_X1_facts.1, zc_X1_facts.2.1, zc_X1_facts.2.2, by decide, by decide⟩, tw_542, _, _, _, rfl, Or.inr (Or.inr ⟨⟨"WitnessesMustLie$Says", "facts", "(III)I"⟩, "WitnessesMustLie$Says", _, _, _, tw_765, tw_540, tw_538, tw_559, tw_550, by decide +kernel, by decide +kernel, rfl⟩)⟩
theorem ss_X11_isLie_435_6 : ab_sV mX11_isLie 435 6 mX1_facts 3 := ⟨⟨zc_X1_facts.1, zc_X1_facts.2.1, zc_X1_facts.2.2, by decide, by decide⟩, tw_542, _, _, _, rfl, Or.inr (Or.inr ⟨⟨"WitnessesMustLie$Says", "facts", "(III)I"⟩, "WitnessesMustLie$Says", _, _, _, tw_765, tw_540, tw_538, tw_559, tw_552, by decide +kernel, by decide +kernel, rfl⟩)⟩
theorem ss_X11_isLie_435_1 : ab_sV mX11_isLie 435 1 mX1_facts 3 := ⟨⟨zc_X1_facts.1, zc_X1_facts.2.1, zc_X1_facts.2.2, by decide, by decide⟩, tw_542, _, _, _, rfl, Or.inr (Or.inr ⟨⟨"WitnessesMustLie$Says", "facts", "(III)I"⟩, "WitnessesMustLie$Says", _, _, _, tw_765, tw_540, tw_538, tw_559, tw_541, by decide +kernel, by decide +kernel, rfl⟩)⟩
theorem ss_X11_isLie_435_5 : ab_sV mX11_isLie 435 5 mX8_facts 3 := ⟨⟨zc_X8_facts.1, zc_X8_facts.2.1, zc_X8_facts.2.2, by decide, by decide⟩, tw_538, _, _, _, rfl, Or.inr (Or.inr ⟨⟨"WitnessesMustLie$Says", "facts", "(III)I"⟩, "WitnessesMustLie$Says", _, _, _, tw_765, tw_540, tw_538, tw_559, tw_551, by decide +kernel, by decide +kernel, rfl⟩)⟩
theorem ss_X11_isLie_435_7 : ab_sV mX11_isLie 435 7 mX6_facts 3 := ⟨⟨zc_X6_facts.1, zc_X6_facts.2.1, zc_X6_facts.2.2, by decide, by decide⟩, tw_554, _, _, _, rfl, Or.inr (Or.inr ⟨⟨"WitnessesMustLie$Says", "facts", "(III)I"⟩, "WitnessesMustLie$Says", _, _, _, tw_765, tw_540, tw_538, tw_559, tw_553, by decide +kernel, by decide +kernel, rfl⟩)⟩
theorem ss_X11_isLie_132 : ab_sV mX11_isLie 132 11 mX10_knownBy 1 := ⟨⟨zc_X10_knownBy.1, zc_X10_knownBy.2.1, zc_X10_knownBy.2.2, by decide, by decide⟩, tw_365, _, _, _, rfl, Or.inl ⟨tw_576, tw_366⟩⟩
theorem ss_X11_isLie_258 : ab_sV mX11_isLie 258 12 mX11_worldsOfCode 1 := ⟨⟨zc_X11_worldsOfCode.1, zc_X11_worldsOfCode.2.1, zc_X11_worldsOfCode.2.2, by decide, by decide⟩, tw_767, _, _, _, rfl, Or.inl ⟨tw_766, tw_14⟩⟩
theorem ss_X11_isLie_117 : ab_sS mX11_isLie 117 mX11_hasWorld 2 := ⟨⟨zc_X11_hasWorld.1, zc_X11_hasWorld.2.1, zc_X11_hasWorld.2.2, by decide, by decide⟩, tw_566, Or.inl tw_565⟩
theorem ss_X11_fillLies_254 : ab_sV mX11_fillLies 254 12 mX11_isLie 2 := ⟨⟨zc_X11_isLie.1, zc_X11_isLie.2.1, zc_X11_isLie.2.2, by decide, by decide⟩, tw_754, _, _, _, rfl, Or.inl ⟨tw_753, tw_13⟩⟩
theorem ss_X11_fillLies_258 : ab_sV mX11_fillLies 258 12 mX11_worldsOfCode 1 := ⟨⟨zc_X11_worldsOfCode.1, zc_X11_worldsOfCode.2.1, zc_X11_worldsOfCode.2.2, by decide, by decide⟩, tw_767, _, _, _, rfl, Or.inl ⟨tw_766, tw_14⟩⟩
theorem ss_X11_mostLeft_192 : ab_sS mX11_mostLeft 192 mJ13_bitCount_95d88 1 := ⟨⟨zc_J13_bitCount_95d88.1, zc_J13_bitCount_95d88.2.1, zc_J13_bitCount_95d88.2.2, by decide, by decide⟩, tw_653, Or.inl tw_652⟩
theorem ss_X11_mostLeft_278 : ab_sS mX11_mostLeft 278 mJ9_max_7cf53 2 := ⟨⟨zc_J9_max_7cf53.1, zc_J9_max_7cf53.2.1, zc_J9_max_7cf53.2.2, by decide, by decide⟩, tw_158, Or.inl tw_779⟩
theorem ss_X11_seedAfterDraws_441 : ab_sS mX11_seedAfterDraws 441 mX11_nextSeed 1 := ⟨⟨zc_X11_nextSeed.1, zc_X11_nextSeed.2.1, zc_X11_nextSeed.2.2, by decide, by decide⟩, tw_852, Or.inl tw_851⟩
theorem ss_X11_worldsOfDraws_441 : ab_sS mX11_worldsOfDraws 441 mX11_nextSeed 1 := ⟨⟨zc_X11_nextSeed.1, zc_X11_nextSeed.2.1, zc_X11_nextSeed.2.2, by decide, by decide⟩, tw_852, Or.inl tw_851⟩
theorem ss_X11_worldsOfDraws_163 : ab_sV mX11_worldsOfDraws 163 0 mJx4a65c_size_8abf5 0 := ⟨⟨zc_Jx4a65c_size_8abf5.1, zc_Jx4a65c_size_8abf5.2.1, zc_Jx4a65c_size_8abf5.2.2, by decide, by decide⟩, tw_345, _, _, _, rfl, Or.inl ⟨tw_380, tw_346⟩⟩
theorem ss_X11_worldsOfDraws_444 : ab_sS mX11_worldsOfDraws 444 mX11_drawnBelow 2 := ⟨⟨zc_X11_drawnBelow.1, zc_X11_drawnBelow.2.1, zc_X11_drawnBelow.2.2, by decide, by decide⟩, tw_856, Or.inl tw_855⟩
theorem ss_X11_worldsOfDraws_337 : ab_sV mX11_worldsOfDraws 337 12 mX11_kindNumbered 1 := ⟨⟨zc_X11_kindNumbered.1, zc_X11_kindNumbered.2.1, zc_X11_kindNumbered.2.2, by decide, by decide⟩, tw_378, _, _, _, rfl, Or.inl ⟨tw_377, tw_8⟩⟩
theorem ss_X11_worldsOfDraws_393_9 : ab_sV mX11_worldsOfDraws 393 9 mX8_worldsOf 3 := ⟨⟨zc_X8_worldsOf.1, zc_X8_worldsOf.2.1, zc_X8_worldsOf.2.2, by decide, by decide⟩, tw_391, _, _, _, rfl, Or.inl ⟨tw_390, tw_392⟩⟩
theorem ss_X11_worldsOfDraws_393_3 : ab_sV mX11_worldsOfDraws 393 3 mX8_worldsOf 3 := ⟨⟨zc_X8_worldsOf.1, zc_X8_worldsOf.2.1, zc_X8_worldsOf.2.2, by decide, by decide⟩, tw_391, _, _, _, rfl, Or.inr (Or.inr ⟨⟨"WitnessesMustLie$Says", "worldsOf", "(III)J"⟩, "WitnessesMustLie$Says", _, _, _, tw_390, tw_393, tw_391, tw_401, tw_396, by decide +kernel, by decide +kernel, rfl⟩)⟩
theorem ss_X11_worldsOfDraws_393_2 : ab_sV mX11_worldsOfDraws 393 2 mX8_worldsOf 3 := ⟨⟨zc_X8_worldsOf.1, zc_X8_worldsOf.2.1, zc_X8_worldsOf.2.2, by decide, by decide⟩, tw_391, _, _, _, rfl, Or.inr (Or.inr ⟨⟨"WitnessesMustLie$Says", "worldsOf", "(III)J"⟩, "WitnessesMustLie$Says", _, _, _, tw_390, tw_393, tw_391, tw_401, tw_395, by decide +kernel, by decide +kernel, rfl⟩)⟩
theorem ss_X11_worldsOfDraws_393_4 : ab_sV mX11_worldsOfDraws 393 4 mX8_worldsOf 3 := ⟨⟨zc_X8_worldsOf.1, zc_X8_worldsOf.2.1, zc_X8_worldsOf.2.2, by decide, by decide⟩, tw_391, _, _, _, rfl, Or.inr (Or.inr ⟨⟨"WitnessesMustLie$Says", "worldsOf", "(III)J"⟩, "WitnessesMustLie$Says", _, _, _, tw_390, tw_393, tw_391, tw_401, tw_397, by decide +kernel, by decide +kernel, rfl⟩)⟩
theorem ss_X11_worldsOfDraws_393_6 : ab_sV mX11_worldsOfDraws 393 6 mX8_worldsOf 3 := ⟨⟨zc_X8_worldsOf.1, zc_X8_worldsOf.2.1, zc_X8_worldsOf.2.2, by decide, by decide⟩, tw_391, _, _, _, rfl, Or.inr (Or.inr ⟨⟨"WitnessesMustLie$Says", "worldsOf", "(III)J"⟩, "WitnessesMustLie$Says", _, _, _, tw_390, tw_393, tw_391, tw_401, tw_399, by decide +kernel, by decide +kernel, rfl⟩)⟩
theorem ss_X11_worldsOfDraws_393_1 : ab_sV mX11_worldsOfDraws 393 1 mX8_worldsOf 3 := ⟨⟨zc_X8_worldsOf.1, zc_X8_worldsOf.2.1, zc_X8_worldsOf.2.2, by decide, by decide⟩, tw_391, _, _, _, rfl, Or.inr (Or.inr ⟨⟨"WitnessesMustLie$Says", "worldsOf", "(III)J"⟩, "WitnessesMustLie$Says", _, _, _, tw_390, tw_393, tw_391, tw_401, tw_394, by decide +kernel, by decide +kernel, rfl⟩)⟩
theorem ss_X11_worldsOfDraws_393_5 : ab_sV mX11_worldsOfDraws 393 5 mX8_worldsOf 3 := ⟨⟨zc_X8_worldsOf.1, zc_X8_worldsOf.2.1, zc_X8_worldsOf.2.2, by decide, by decide⟩, tw_391, _, _, _, rfl, Or.inr (Or.inr ⟨⟨"WitnessesMustLie$Says", "worldsOf", "(III)J"⟩, "WitnessesMustLie$Says", _, _, _, tw_390, tw_393, tw_391, tw_401, tw_398, by decide +kernel, by decide +kernel, rfl⟩)⟩
theorem ss_X11_worldsOfDraws_393_7 : ab_sV mX11_worldsOfDraws 393 7 mX8_worldsOf 3 := ⟨⟨zc_X8_worldsOf.1, zc_X8_worldsOf.2.1, zc_X8_worldsOf.2.2, by decide, by decide⟩, tw_391, _, _, _, rfl, Or.inr (Or.inr ⟨⟨"WitnessesMustLie$Says", "worldsOf", "(III)J"⟩, "WitnessesMustLie$Says", _, _, _, tw_390, tw_393, tw_391, tw_401, tw_400, by decide +kernel, by decide +kernel, rfl⟩)⟩
theorem so_X12_init_1 : Cond.methodLink mX12_init.1.cls 1 objectInit ∈ ab_Tg ∧ Cond.instanceMethod objectInit ∈ ab_Tg ∧ Cond.code objectInit ⟨#[0xb1]⟩ 1 none ∈ ab_Tg := ⟨tw_1068, tw_80, tw_81⟩
theorem ss_X12_isFact_43 : ab_sS mX12_isFact 43 mX12_within 3 := ⟨⟨zc_X12_within.1, zc_X12_within.2.1, zc_X12_within.2.2, by decide, by decide⟩, tw_1121, Or.inl tw_1120⟩
theorem ss_X12_isShelf_43 : ab_sS mX12_isShelf 43 mX12_within 3 := ⟨⟨zc_X12_within.1, zc_X12_within.2.1, zc_X12_within.2.2, by decide, by decide⟩, tw_1121, Or.inl tw_1120⟩
theorem ss_X12_isWitness_43 : ab_sS mX12_isWitness 43 mX12_within 3 := ⟨⟨zc_X12_within.1, zc_X12_within.2.1, zc_X12_within.2.2, by decide, by decide⟩, tw_1121, Or.inl tw_1120⟩
theorem ss_X12_isSaid_43 : ab_sS mX12_isSaid 43 mX12_within 3 := ⟨⟨zc_X12_within.1, zc_X12_within.2.1, zc_X12_within.2.2, by decide, by decide⟩, tw_1121, Or.inl tw_1120⟩
theorem ss_X12_isTrueIn_54 : ab_sS mX12_isTrueIn 54 mX12_has 2 := ⟨⟨zc_X12_has.1, zc_X12_has.2.1, zc_X12_has.2.2, by decide, by decide⟩, tw_1183, Or.inl tw_1182⟩
theorem ss_X12_worldsOf_58 : ab_sS mX12_worldsOf 58 mX12_isTrueIn 2 := ⟨⟨zc_X12_isTrueIn.1, zc_X12_isTrueIn.2.1, zc_X12_isTrueIn.2.2, by decide, by decide⟩, tw_1180, Or.inl tw_1179⟩
theorem ss_X12_isSlip_58 : ab_sS mX12_isSlip 58 mX12_isTrueIn 2 := ⟨⟨zc_X12_isTrueIn.1, zc_X12_isTrueIn.2.1, zc_X12_isTrueIn.2.2, by decide, by decide⟩, tw_1180, Or.inl tw_1179⟩
theorem ss_X12_of_64 : ab_sS mX12_of 64 mX12_sizeOf 1 := ⟨⟨zc_X12_sizeOf.1, zc_X12_sizeOf.2.1, zc_X12_sizeOf.2.2, by decide, by decide⟩, tw_1164, Or.inl tw_1163⟩
theorem ss_X12_of_68 : ab_sS mX12_of 68 mX12_aboutOf 1 := ⟨⟨zc_X12_aboutOf.1, zc_X12_aboutOf.2.1, zc_X12_aboutOf.2.2, by decide, by decide⟩, tw_1167, Or.inl tw_1166⟩
theorem ss_X12_isSaying_77 : ab_sS mX12_isSaying 77 mX12_isFact 1 := ⟨⟨zc_X12_isFact.1, zc_X12_isFact.2.1, zc_X12_isFact.2.2, by decide, by decide⟩, tw_1136, Or.inl tw_1135⟩
theorem ss_X12_readSaying_81 : ab_sS mX12_readSaying 81 mX12_made 4 := ⟨⟨zc_X12_made.1, zc_X12_made.2.1, zc_X12_made.2.2, by decide, by decide⟩, tw_1142, Or.inl tw_1141⟩
theorem ss_X12_statement_85 : ab_sV mX12_statement 85 13 mX12_is 1 := ⟨⟨zc_X12_is.1, zc_X12_is.2.1, zc_X12_is.2.2, by decide, by decide⟩, tw_1127, _, _, _, rfl, Or.inl ⟨tw_1126, tw_21⟩⟩
theorem ss_X12_statement_88 : ab_sV mX12_statement 88 13 mX12_digits 1 := ⟨⟨zc_X12_digits.1, zc_X12_digits.2.1, zc_X12_digits.2.2, by decide, by decide⟩, tw_1130, _, _, _, rfl, Or.inl ⟨tw_1129, tw_22⟩⟩
theorem ss_X12_statement_91 : ab_sV mX12_statement 91 13 mX12_isSaying 1 := ⟨⟨zc_X12_isSaying.1, zc_X12_isSaying.2.1, zc_X12_isSaying.2.2, by decide, by decide⟩, tw_1133, _, _, _, rfl, Or.inl ⟨tw_1132, tw_23⟩⟩
theorem ss_X12_statement_97 : ab_sV mX12_statement 97 13 mX12_readSaying 1 := ⟨⟨zc_X12_readSaying.1, zc_X12_readSaying.2.1, zc_X12_readSaying.2.2, by decide, by decide⟩, tw_1139, _, _, _, rfl, Or.inl ⟨tw_1138, tw_24⟩⟩
theorem ss_X12_statement_100 : ab_sV mX12_statement 100 13 mX12_two 0 := ⟨⟨zc_X12_two.1, zc_X12_two.2.1, zc_X12_two.2.2, by decide, by decide⟩, tw_1145, _, _, _, rfl, Or.inl ⟨tw_1144, tw_25⟩⟩
theorem ss_X12_statement_104 : ab_sV mX12_statement 104 13 mX12_isWitness 1 := ⟨⟨zc_X12_isWitness.1, zc_X12_isWitness.2.1, zc_X12_isWitness.2.2, by decide, by decide⟩, tw_1148, _, _, _, rfl, Or.inl ⟨tw_1147, tw_26⟩⟩
theorem ss_X12_trial_107 : ab_sS mX12_trial 107 mX12_isShelf 1 := ⟨⟨zc_X12_isShelf.1, zc_X12_isShelf.2.1, zc_X12_isShelf.2.2, by decide, by decide⟩, tw_1118, Or.inl tw_1117⟩
theorem ss_X12_trial_110 : ab_sV mX12_trial 110 13 mX12_statement 1 := ⟨⟨zc_X12_statement.1, zc_X12_statement.2.1, zc_X12_statement.2.2, by decide, by decide⟩, tw_1124, _, _, _, rfl, Or.inl ⟨tw_1123, tw_20⟩⟩
theorem ss_X12_trial_85 : ab_sV mX12_trial 85 13 mX12_is 1 := ⟨⟨zc_X12_is.1, zc_X12_is.2.1, zc_X12_is.2.2, by decide, by decide⟩, tw_1127, _, _, _, rfl, Or.inl ⟨tw_1126, tw_21⟩⟩
theorem ss_X12_trial_114 : ab_sV mX12_trial 114 13 mX12_keep 1 := ⟨⟨zc_X12_keep.1, zc_X12_keep.2.1, zc_X12_keep.2.2, by decide, by decide⟩, tw_1151, _, _, _, rfl, Or.inl ⟨tw_1150, tw_27⟩⟩
theorem ss_X12_trial_118 : ab_sV mX12_trial 118 13 mX12_again 1 := ⟨⟨zc_X12_again.1, zc_X12_again.2.1, zc_X12_again.2.2, by decide, by decide⟩, tw_1154, _, _, _, rfl, Or.inl ⟨tw_1153, tw_28⟩⟩
theorem ss_X12_law_43 : ab_sS mX12_law 43 mX12_within 3 := ⟨⟨zc_X12_within.1, zc_X12_within.2.1, zc_X12_within.2.2, by decide, by decide⟩, tw_1121, Or.inl tw_1120⟩
theorem ss_X12_law_121 : ab_sS mX12_law 121 mX12_of 2 := ⟨⟨zc_X12_of.1, zc_X12_of.2.1, zc_X12_of.2.2, by decide, by decide⟩, tw_1161, Or.inl tw_1160⟩
theorem ss_X12_said_125 : ab_sV mX12_said 125 13 mX12_isSaid 1 := ⟨⟨zc_X12_isSaid.1, zc_X12_isSaid.2.1, zc_X12_isSaid.2.2, by decide, by decide⟩, tw_1174, _, _, _, rfl, Or.inl ⟨tw_1173, tw_29⟩⟩
theorem ss_X12_said_43 : ab_sS mX12_said 43 mX12_within 3 := ⟨⟨zc_X12_within.1, zc_X12_within.2.1, zc_X12_within.2.2, by decide, by decide⟩, tw_1121, Or.inl tw_1120⟩
theorem ss_X12_said_128 : ab_sV mX12_said 128 13 mX12_isSlip 1 := ⟨⟨zc_X12_isSlip.1, zc_X12_isSlip.2.1, zc_X12_isSlip.2.2, by decide, by decide⟩, tw_1177, _, _, _, rfl, Or.inl ⟨tw_1176, tw_30⟩⟩
theorem ss_X12_said_121 : ab_sS mX12_said 121 mX12_of 2 := ⟨⟨zc_X12_of.1, zc_X12_of.2.1, zc_X12_of.2.2, by decide, by decide⟩, tw_1161, Or.inl tw_1160⟩
theorem ss_X12_knows_104 : ab_sV mX12_knows 104 13 mX12_isWitness 1 := ⟨⟨zc_X12_isWitness.1, zc_X12_isWitness.2.1, zc_X12_isWitness.2.2, by decide, by decide⟩, tw_1148, _, _, _, rfl, Or.inl ⟨tw_1147, tw_26⟩⟩
theorem ss_X12_onShelf_81 : ab_sS mX12_onShelf 81 mX12_made 4 := ⟨⟨zc_X12_made.1, zc_X12_made.2.1, zc_X12_made.2.2, by decide, by decide⟩, tw_1142, Or.inl tw_1141⟩
theorem ss_X12_isTrue_107 : ab_sS mX12_isTrue 107 mX12_isShelf 1 := ⟨⟨zc_X12_isShelf.1, zc_X12_isShelf.2.1, zc_X12_isShelf.2.2, by decide, by decide⟩, tw_1118, Or.inl tw_1117⟩
theorem ss_X12_isTrue_77 : ab_sS mX12_isTrue 77 mX12_isFact 1 := ⟨⟨zc_X12_isFact.1, zc_X12_isFact.2.1, zc_X12_isFact.2.2, by decide, by decide⟩, tw_1136, Or.inl tw_1135⟩
theorem ss_X12_isTrue_43 : ab_sS mX12_isTrue 43 mX12_within 3 := ⟨⟨zc_X12_within.1, zc_X12_within.2.1, zc_X12_within.2.2, by decide, by decide⟩, tw_1121, Or.inl tw_1120⟩
theorem ss_X12_isTrue_131 : ab_sV mX12_isTrue 131 13 mX12_noSaying 1 := ⟨⟨zc_X12_noSaying.1, zc_X12_noSaying.2.1, zc_X12_noSaying.2.2, by decide, by decide⟩, tw_1194, _, _, _, rfl, Or.inl ⟨tw_1193, tw_31⟩⟩
theorem ss_X12_isTrue_134 : ab_sV mX12_isTrue 134 13 mX12_onShelf 3 := ⟨⟨zc_X12_onShelf.1, zc_X12_onShelf.2.1, zc_X12_onShelf.2.2, by decide, by decide⟩, tw_1197, _, _, _, rfl, Or.inl ⟨tw_1196, tw_32⟩⟩
theorem ss_X12_isTrue_58 : ab_sS mX12_isTrue 58 mX12_isTrueIn 2 := ⟨⟨zc_X12_isTrueIn.1, zc_X12_isTrueIn.2.1, zc_X12_isTrueIn.2.2, by decide, by decide⟩, tw_1180, Or.inl tw_1179⟩
theorem ss_X12_rules_107 : ab_sS mX12_rules 107 mX12_isShelf 1 := ⟨⟨zc_X12_isShelf.1, zc_X12_isShelf.2.1, zc_X12_isShelf.2.2, by decide, by decide⟩, tw_1118, Or.inl tw_1117⟩
theorem ss_X12_rules_77 : ab_sS mX12_rules 77 mX12_isFact 1 := ⟨⟨zc_X12_isFact.1, zc_X12_isFact.2.1, zc_X12_isFact.2.2, by decide, by decide⟩, tw_1136, Or.inl tw_1135⟩
theorem ss_X12_rules_131 : ab_sV mX12_rules 131 13 mX12_noSaying 1 := ⟨⟨zc_X12_noSaying.1, zc_X12_noSaying.2.1, zc_X12_noSaying.2.2, by decide, by decide⟩, tw_1194, _, _, _, rfl, Or.inl ⟨tw_1193, tw_31⟩⟩
theorem ss_X12_rules_134 : ab_sV mX12_rules 134 13 mX12_onShelf 3 := ⟨⟨zc_X12_onShelf.1, zc_X12_onShelf.2.1, zc_X12_onShelf.2.2, by decide, by decide⟩, tw_1197, _, _, _, rfl, Or.inl ⟨tw_1196, tw_32⟩⟩
theorem ss_X12_says_104 : ab_sV mX12_says 104 13 mX12_isWitness 1 := ⟨⟨zc_X12_isWitness.1, zc_X12_isWitness.2.1, zc_X12_isWitness.2.2, by decide, by decide⟩, tw_1148, _, _, _, rfl, Or.inl ⟨tw_1147, tw_26⟩⟩
theorem ss_X12_says_107 : ab_sS mX12_says 107 mX12_isShelf 1 := ⟨⟨zc_X12_isShelf.1, zc_X12_isShelf.2.1, zc_X12_isShelf.2.2, by decide, by decide⟩, tw_1118, Or.inl tw_1117⟩
theorem ss_X12_says_77 : ab_sS mX12_says 77 mX12_isFact 1 := ⟨⟨zc_X12_isFact.1, zc_X12_isFact.2.1, zc_X12_isFact.2.2, by decide, by decide⟩, tw_1136, Or.inl tw_1135⟩
theorem ss_X12_says_131 : ab_sV mX12_says 131 13 mX12_noSaying 1 := ⟨⟨zc_X12_noSaying.1, zc_X12_noSaying.2.1, zc_X12_noSaying.2.2, by decide, by decide⟩, tw_1194, _, _, _, rfl, Or.inl ⟨tw_1193, tw_31⟩⟩
theorem ss_X12_says_134 : ab_sV mX12_says 134 13 mX12_onShelf 3 := ⟨⟨zc_X12_onShelf.1, zc_X12_onShelf.2.1, zc_X12_onShelf.2.2, by decide, by decide⟩, tw_1197, _, _, _, rfl, Or.inl ⟨tw_1196, tw_32⟩⟩
theorem ss_X12_witness_43 : ab_sS mX12_witness 43 mX12_within 3 := ⟨⟨zc_X12_within.1, zc_X12_within.2.1, zc_X12_within.2.2, by decide, by decide⟩, tw_1121, Or.inl tw_1120⟩
theorem ss_X12_truth_43 : ab_sS mX12_truth 43 mX12_within 3 := ⟨⟨zc_X12_within.1, zc_X12_within.2.1, zc_X12_within.2.2, by decide, by decide⟩, tw_1121, Or.inl tw_1120⟩
theorem ss_X12_mayBe_140 : ab_sS mX12_mayBe 140 mX12_worldsOf 1 := ⟨⟨zc_X12_worldsOf.1, zc_X12_worldsOf.2.1, zc_X12_worldsOf.2.2, by decide, by decide⟩, tw_1229, Or.inl tw_1228⟩
theorem ss_X12_leftBy_144 : ab_sV mX12_leftBy 144 13 mX12_mayBe 0 := ⟨⟨zc_X12_mayBe.1, zc_X12_mayBe.2.1, zc_X12_mayBe.2.2, by decide, by decide⟩, tw_1225, _, _, _, rfl, Or.inl ⟨tw_1224, tw_33⟩⟩
theorem ss_X12_leftBy_54 : ab_sS mX12_leftBy 54 mX12_has 2 := ⟨⟨zc_X12_has.1, zc_X12_has.2.1, zc_X12_has.2.2, by decide, by decide⟩, tw_1183, Or.inl tw_1182⟩
theorem ss_X12_leftBy_140 : ab_sS mX12_leftBy 140 mX12_worldsOf 1 := ⟨⟨zc_X12_worldsOf.1, zc_X12_worldsOf.2.1, zc_X12_worldsOf.2.2, by decide, by decide⟩, tw_1229, Or.inl tw_1228⟩
theorem ss_X12_left_148 : ab_sV mX12_left 148 13 mX12_leftBy 1 := ⟨⟨zc_X12_leftBy.1, zc_X12_leftBy.2.1, zc_X12_leftBy.2.2, by decide, by decide⟩, tw_1235, _, _, _, rfl, Or.inl ⟨tw_1234, tw_35⟩⟩
theorem ss_X12_worlds_43 : ab_sS mX12_worlds 43 mX12_within 3 := ⟨⟨zc_X12_within.1, zc_X12_within.2.1, zc_X12_within.2.2, by decide, by decide⟩, tw_1121, Or.inl tw_1120⟩
theorem ss_X12_worlds_144 : ab_sV mX12_worlds 144 13 mX12_mayBe 0 := ⟨⟨zc_X12_mayBe.1, zc_X12_mayBe.2.1, zc_X12_mayBe.2.2, by decide, by decide⟩, tw_1225, _, _, _, rfl, Or.inl ⟨tw_1224, tw_33⟩⟩
theorem ss_X12_worlds_153 : ab_sV mX12_worlds 153 13 mX12_left 0 := ⟨⟨zc_X12_left.1, zc_X12_left.2.1, zc_X12_left.2.2, by decide, by decide⟩, tw_1232, _, _, _, rfl, Or.inl ⟨tw_1231, tw_34⟩⟩
theorem ss_X12_many_43 : ab_sS mX12_many 43 mX12_within 3 := ⟨⟨zc_X12_within.1, zc_X12_within.2.1, zc_X12_within.2.2, by decide, by decide⟩, tw_1121, Or.inl tw_1120⟩
theorem ss_X12_many_144 : ab_sV mX12_many 144 13 mX12_mayBe 0 := ⟨⟨zc_X12_mayBe.1, zc_X12_mayBe.2.1, zc_X12_mayBe.2.2, by decide, by decide⟩, tw_1225, _, _, _, rfl, Or.inl ⟨tw_1224, tw_33⟩⟩
theorem ss_X12_many_153 : ab_sV mX12_many 153 13 mX12_left 0 := ⟨⟨zc_X12_left.1, zc_X12_left.2.1, zc_X12_left.2.2, by decide, by decide⟩, tw_1232, _, _, _, rfl, Or.inl ⟨tw_1231, tw_34⟩⟩
theorem ss_X12_many_156 : ab_sS mX12_many 156 mJ13_bitCount_95d88 1 := ⟨⟨zc_J13_bitCount_95d88.1, zc_J13_bitCount_95d88.2.1, zc_J13_bitCount_95d88.2.2, by decide, by decide⟩, tw_653, Or.inl tw_1241⟩
theorem ss_X12_proved_43 : ab_sS mX12_proved 43 mX12_within 3 := ⟨⟨zc_X12_within.1, zc_X12_within.2.1, zc_X12_within.2.2, by decide, by decide⟩, tw_1121, Or.inl tw_1120⟩
theorem ss_X12_proved_153 : ab_sV mX12_proved 153 13 mX12_left 0 := ⟨⟨zc_X12_left.1, zc_X12_left.2.1, zc_X12_left.2.2, by decide, by decide⟩, tw_1232, _, _, _, rfl, Or.inl ⟨tw_1231, tw_34⟩⟩
theorem ss_X12_proved_162 : ab_sS mX12_proved 162 mX12_facts 2 := ⟨⟨zc_X12_facts.1, zc_X12_facts.2.1, zc_X12_facts.2.2, by decide, by decide⟩, tw_1247, Or.inl tw_1246⟩
theorem ss_X12_slips_43 : ab_sS mX12_slips 43 mX12_within 3 := ⟨⟨zc_X12_within.1, zc_X12_within.2.1, zc_X12_within.2.2, by decide, by decide⟩, tw_1121, Or.inl tw_1120⟩
theorem ss_X12_slips_128 : ab_sV mX12_slips 128 13 mX12_isSlip 1 := ⟨⟨zc_X12_isSlip.1, zc_X12_isSlip.2.1, zc_X12_isSlip.2.2, by decide, by decide⟩, tw_1177, _, _, _, rfl, Or.inl ⟨tw_1176, tw_30⟩⟩
theorem ss_X12_slips_166 : ab_sS mX12_slips 166 mJ6_numberOfTrailingZeros_0f7a4 1 := ⟨⟨zc_J6_numberOfTrailingZeros_0f7a4.1, zc_J6_numberOfTrailingZeros_0f7a4.2.1, zc_J6_numberOfTrailingZeros_0f7a4.2.2, by decide, by decide⟩, tw_682, Or.inl tw_1253⟩
theorem ss_X12_alone_125 : ab_sV mX12_alone 125 13 mX12_isSaid 1 := ⟨⟨zc_X12_isSaid.1, zc_X12_isSaid.2.1, zc_X12_isSaid.2.2, by decide, by decide⟩, tw_1174, _, _, _, rfl, Or.inl ⟨tw_1173, tw_29⟩⟩
theorem ss_X12_alone_148 : ab_sV mX12_alone 148 13 mX12_leftBy 1 := ⟨⟨zc_X12_leftBy.1, zc_X12_leftBy.2.1, zc_X12_leftBy.2.2, by decide, by decide⟩, tw_1235, _, _, _, rfl, Or.inl ⟨tw_1234, tw_35⟩⟩
theorem ss_X12_alone_156 : ab_sS mX12_alone 156 mJ13_bitCount_95d88 1 := ⟨⟨zc_J13_bitCount_95d88.1, zc_J13_bitCount_95d88.2.1, zc_J13_bitCount_95d88.2.2, by decide, by decide⟩, tw_653, Or.inl tw_1241⟩
theorem ss_X12_clash_148 : ab_sV mX12_clash 148 13 mX12_leftBy 1 := ⟨⟨zc_X12_leftBy.1, zc_X12_leftBy.2.1, zc_X12_leftBy.2.2, by decide, by decide⟩, tw_1235, _, _, _, rfl, Or.inl ⟨tw_1234, tw_35⟩⟩
theorem ss_X12_isBetter_171 : ab_sS mX12_isBetter 171 mJ6_bitCount_0f7a4 1 := ⟨⟨zc_J6_bitCount_0f7a4.1, zc_J6_bitCount_0f7a4.2.1, zc_J6_bitCount_0f7a4.2.2, by decide, by decide⟩, tw_699, Or.inl tw_1269⟩
theorem ss_X12_proof_77 : ab_sS mX12_proof 77 mX12_isFact 1 := ⟨⟨zc_X12_isFact.1, zc_X12_isFact.2.1, zc_X12_isFact.2.2, by decide, by decide⟩, tw_1136, Or.inl tw_1135⟩
theorem ss_X12_proof_173 : ab_sS mX12_proof 173 mX12_isBetter 2 := ⟨⟨zc_X12_isBetter.1, zc_X12_isBetter.2.1, zc_X12_isBetter.2.2, by decide, by decide⟩, tw_1267, Or.inl tw_1266⟩
theorem ss_X12_proof_148 : ab_sV mX12_proof 148 13 mX12_leftBy 1 := ⟨⟨zc_X12_leftBy.1, zc_X12_leftBy.2.1, zc_X12_leftBy.2.2, by decide, by decide⟩, tw_1235, _, _, _, rfl, Or.inl ⟨tw_1234, tw_35⟩⟩
theorem ss_X12_proof_162 : ab_sS mX12_proof 162 mX12_facts 2 := ⟨⟨zc_X12_facts.1, zc_X12_facts.2.1, zc_X12_facts.2.2, by decide, by decide⟩, tw_1247, Or.inl tw_1246⟩
theorem ss_X12_proof_54 : ab_sS mX12_proof 54 mX12_has 2 := ⟨⟨zc_X12_has.1, zc_X12_has.2.1, zc_X12_has.2.2, by decide, by decide⟩, tw_1183, Or.inl tw_1182⟩
theorem ss_X12_slipped_173 : ab_sS mX12_slipped 173 mX12_isBetter 2 := ⟨⟨zc_X12_isBetter.1, zc_X12_isBetter.2.1, zc_X12_isBetter.2.2, by decide, by decide⟩, tw_1267, Or.inl tw_1266⟩
theorem ss_X12_slipped_148 : ab_sV mX12_slipped 148 13 mX12_leftBy 1 := ⟨⟨zc_X12_leftBy.1, zc_X12_leftBy.2.1, zc_X12_leftBy.2.2, by decide, by decide⟩, tw_1235, _, _, _, rfl, Or.inl ⟨tw_1234, tw_35⟩⟩
theorem ss_X12_slipped_54 : ab_sS mX12_slipped 54 mX12_has 2 := ⟨⟨zc_X12_has.1, zc_X12_has.2.1, zc_X12_has.2.2, by decide, by decide⟩, tw_1183, Or.inl tw_1182⟩
theorem ss_X12_slipped_140 : ab_sS mX12_slipped 140 mX12_worldsOf 1 := ⟨⟨zc_X12_worldsOf.1, zc_X12_worldsOf.2.1, zc_X12_worldsOf.2.2, by decide, by decide⟩, tw_1229, Or.inl tw_1228⟩
theorem ss_X12_ask_153 : ab_sV mX12_ask 153 13 mX12_left 0 := ⟨⟨zc_X12_left.1, zc_X12_left.2.1, zc_X12_left.2.2, by decide, by decide⟩, tw_1232, _, _, _, rfl, Or.inl ⟨tw_1231, tw_34⟩⟩
theorem ss_X12_ask_54 : ab_sS mX12_ask 54 mX12_has 2 := ⟨⟨zc_X12_has.1, zc_X12_has.2.1, zc_X12_has.2.2, by decide, by decide⟩, tw_1183, Or.inl tw_1182⟩
theorem ss_X12_ask_156 : ab_sS mX12_ask 156 mJ13_bitCount_95d88 1 := ⟨⟨zc_J13_bitCount_95d88.1, zc_J13_bitCount_95d88.2.1, zc_J13_bitCount_95d88.2.2, by decide, by decide⟩, tw_653, Or.inl tw_1241⟩
theorem ss_X12_ask_176 : ab_sS mX12_ask 176 mJ9_min_7cf53 2 := ⟨⟨zc_J9_min_7cf53.1, zc_J9_min_7cf53.2.1, zc_J9_min_7cf53.2.2, by decide, by decide⟩, tw_193, Or.inl tw_1278⟩
theorem ss_X12_saidBy_54 : ab_sS mX12_saidBy 54 mX12_has 2 := ⟨⟨zc_X12_has.1, zc_X12_has.2.1, zc_X12_has.2.2, by decide, by decide⟩, tw_1183, Or.inl tw_1182⟩
theorem ss_X12_isPlain_181 : ab_sV mX12_isPlain 181 13 mX12_saidBy 1 := ⟨⟨zc_X12_saidBy.1, zc_X12_saidBy.2.1, zc_X12_saidBy.2.2, by decide, by decide⟩, tw_1287, _, _, _, rfl, Or.inl ⟨tw_1286, tw_37⟩⟩
theorem ss_X12_isPlain_148 : ab_sV mX12_isPlain 148 13 mX12_leftBy 1 := ⟨⟨zc_X12_leftBy.1, zc_X12_leftBy.2.1, zc_X12_leftBy.2.2, by decide, by decide⟩, tw_1235, _, _, _, rfl, Or.inl ⟨tw_1234, tw_35⟩⟩
theorem ss_X12_isPlain_156 : ab_sS mX12_isPlain 156 mJ13_bitCount_95d88 1 := ⟨⟨zc_J13_bitCount_95d88.1, zc_J13_bitCount_95d88.2.1, zc_J13_bitCount_95d88.2.2, by decide, by decide⟩, tw_653, Or.inl tw_1241⟩
theorem ss_X12_plain_173 : ab_sS mX12_plain 173 mX12_isBetter 2 := ⟨⟨zc_X12_isBetter.1, zc_X12_isBetter.2.1, zc_X12_isBetter.2.2, by decide, by decide⟩, tw_1267, Or.inl tw_1266⟩
theorem ss_X12_plain_184 : ab_sV mX12_plain 184 13 mX12_isPlain 1 := ⟨⟨zc_X12_isPlain.1, zc_X12_isPlain.2.1, zc_X12_isPlain.2.2, by decide, by decide⟩, tw_1284, _, _, _, rfl, Or.inl ⟨tw_1283, tw_36⟩⟩
theorem ss_X12_order_43 : ab_sS mX12_order 43 mX12_within 3 := ⟨⟨zc_X12_within.1, zc_X12_within.2.1, zc_X12_within.2.2, by decide, by decide⟩, tw_1121, Or.inl tw_1120⟩
theorem ss_X12_order_187 : ab_sV mX12_order 187 13 mX12_plain 0 := ⟨⟨zc_X12_plain.1, zc_X12_plain.2.1, zc_X12_plain.2.2, by decide, by decide⟩, tw_1280, _, _, _, rfl, Or.inl ⟨tw_1293, tw_1281⟩⟩
theorem ss_X12_order_171 : ab_sS mX12_order 171 mJ6_bitCount_0f7a4 1 := ⟨⟨zc_J6_bitCount_0f7a4.1, zc_J6_bitCount_0f7a4.2.1, zc_J6_bitCount_0f7a4.2.2, by decide, by decide⟩, tw_699, Or.inl tw_1269⟩
theorem ss_X12_order_184 : ab_sV mX12_order 184 13 mX12_isPlain 1 := ⟨⟨zc_X12_isPlain.1, zc_X12_isPlain.2.1, zc_X12_isPlain.2.2, by decide, by decide⟩, tw_1284, _, _, _, rfl, Or.inl ⟨tw_1283, tw_36⟩⟩
theorem ss_X12_order_54 : ab_sS mX12_order 54 mX12_has 2 := ⟨⟨zc_X12_has.1, zc_X12_has.2.1, zc_X12_has.2.2, by decide, by decide⟩, tw_1183, Or.inl tw_1182⟩
theorem ss_X12_without_104 : ab_sV mX12_without 104 13 mX12_isWitness 1 := ⟨⟨zc_X12_isWitness.1, zc_X12_isWitness.2.1, zc_X12_isWitness.2.2, by decide, by decide⟩, tw_1148, _, _, _, rfl, Or.inl ⟨tw_1147, tw_26⟩⟩
theorem ss_X12_without_181 : ab_sV mX12_without 181 13 mX12_saidBy 1 := ⟨⟨zc_X12_saidBy.1, zc_X12_saidBy.2.1, zc_X12_saidBy.2.2, by decide, by decide⟩, tw_1287, _, _, _, rfl, Or.inl ⟨tw_1286, tw_37⟩⟩
theorem ss_X12_without_148 : ab_sV mX12_without 148 13 mX12_leftBy 1 := ⟨⟨zc_X12_leftBy.1, zc_X12_leftBy.2.1, zc_X12_leftBy.2.2, by decide, by decide⟩, tw_1235, _, _, _, rfl, Or.inl ⟨tw_1234, tw_35⟩⟩
theorem ss_X12_without_156 : ab_sS mX12_without 156 mJ13_bitCount_95d88 1 := ⟨⟨zc_J13_bitCount_95d88.1, zc_J13_bitCount_95d88.2.1, zc_J13_bitCount_95d88.2.2, by decide, by decide⟩, tw_653, Or.inl tw_1241⟩
theorem ss_X12_without_153 : ab_sV mX12_without 153 13 mX12_left 0 := ⟨⟨zc_X12_left.1, zc_X12_left.2.1, zc_X12_left.2.2, by decide, by decide⟩, tw_1232, _, _, _, rfl, Or.inl ⟨tw_1231, tw_34⟩⟩
theorem ss_X12_isLie_68 : ab_sS mX12_isLie 68 mX12_aboutOf 1 := ⟨⟨zc_X12_aboutOf.1, zc_X12_aboutOf.2.1, zc_X12_aboutOf.2.2, by decide, by decide⟩, tw_1167, Or.inl tw_1166⟩
theorem ss_X12_isLie_58 : ab_sS mX12_isLie 58 mX12_isTrueIn 2 := ⟨⟨zc_X12_isTrueIn.1, zc_X12_isTrueIn.2.1, zc_X12_isTrueIn.2.2, by decide, by decide⟩, tw_1180, Or.inl tw_1179⟩
theorem ss_X12_plainSaying_81 : ab_sS mX12_plainSaying 81 mX12_made 4 := ⟨⟨zc_X12_made.1, zc_X12_made.2.1, zc_X12_made.2.2, by decide, by decide⟩, tw_1142, Or.inl tw_1141⟩
theorem ss_X12_lie_104 : ab_sV mX12_lie 104 13 mX12_isWitness 1 := ⟨⟨zc_X12_isWitness.1, zc_X12_isWitness.2.1, zc_X12_isWitness.2.2, by decide, by decide⟩, tw_1148, _, _, _, rfl, Or.inl ⟨tw_1147, tw_26⟩⟩
theorem ss_X12_lie_43 : ab_sS mX12_lie 43 mX12_within 3 := ⟨⟨zc_X12_within.1, zc_X12_within.2.1, zc_X12_within.2.2, by decide, by decide⟩, tw_1121, Or.inl tw_1120⟩
theorem ss_X12_lie_153 : ab_sV mX12_lie 153 13 mX12_left 0 := ⟨⟨zc_X12_left.1, zc_X12_left.2.1, zc_X12_left.2.2, by decide, by decide⟩, tw_1232, _, _, _, rfl, Or.inl ⟨tw_1231, tw_34⟩⟩
theorem ss_X12_lie_190 : ab_sS mX12_lie 190 mX12_plainSaying 1 := ⟨⟨zc_X12_plainSaying.1, zc_X12_plainSaying.2.1, zc_X12_plainSaying.2.2, by decide, by decide⟩, tw_1303, Or.inl tw_1302⟩
theorem ss_X12_lie_193 : ab_sV mX12_lie 193 13 mX12_isLie 2 := ⟨⟨zc_X12_isLie.1, zc_X12_isLie.2.1, zc_X12_isLie.2.2, by decide, by decide⟩, tw_1306, _, _, _, rfl, Or.inl ⟨tw_1305, tw_38⟩⟩
theorem ss_X12_lie_140 : ab_sS mX12_lie 140 mX12_worldsOf 1 := ⟨⟨zc_X12_worldsOf.1, zc_X12_worldsOf.2.1, zc_X12_worldsOf.2.2, by decide, by decide⟩, tw_1229, Or.inl tw_1228⟩
theorem ss_X12_lie_156 : ab_sS mX12_lie 156 mJ13_bitCount_95d88 1 := ⟨⟨zc_J13_bitCount_95d88.1, zc_J13_bitCount_95d88.2.1, zc_J13_bitCount_95d88.2.2, by decide, by decide⟩, tw_653, Or.inl tw_1241⟩
theorem ss_X12_twoLies_104 : ab_sV mX12_twoLies 104 13 mX12_isWitness 1 := ⟨⟨zc_X12_isWitness.1, zc_X12_isWitness.2.1, zc_X12_isWitness.2.2, by decide, by decide⟩, tw_1148, _, _, _, rfl, Or.inl ⟨tw_1147, tw_26⟩⟩
theorem ss_X12_twoLies_153 : ab_sV mX12_twoLies 153 13 mX12_left 0 := ⟨⟨zc_X12_left.1, zc_X12_left.2.1, zc_X12_left.2.2, by decide, by decide⟩, tw_1232, _, _, _, rfl, Or.inl ⟨tw_1231, tw_34⟩⟩
theorem ss_X12_twoLies_190 : ab_sS mX12_twoLies 190 mX12_plainSaying 1 := ⟨⟨zc_X12_plainSaying.1, zc_X12_plainSaying.2.1, zc_X12_plainSaying.2.2, by decide, by decide⟩, tw_1303, Or.inl tw_1302⟩
theorem ss_X12_twoLies_193 : ab_sV mX12_twoLies 193 13 mX12_isLie 2 := ⟨⟨zc_X12_isLie.1, zc_X12_isLie.2.1, zc_X12_isLie.2.2, by decide, by decide⟩, tw_1306, _, _, _, rfl, Or.inl ⟨tw_1305, tw_38⟩⟩
theorem ss_X12_twoLies_140 : ab_sS mX12_twoLies 140 mX12_worldsOf 1 := ⟨⟨zc_X12_worldsOf.1, zc_X12_worldsOf.2.1, zc_X12_worldsOf.2.2, by decide, by decide⟩, tw_1229, Or.inl tw_1228⟩
theorem ss_X12_twoLies_156 : ab_sS mX12_twoLies 156 mJ13_bitCount_95d88 1 := ⟨⟨zc_J13_bitCount_95d88.1, zc_J13_bitCount_95d88.2.1, zc_J13_bitCount_95d88.2.2, by decide, by decide⟩, tw_653, Or.inl tw_1241⟩
theorem ss_X12_twoLies_196 : ab_sS mX12_twoLies 196 mJ9_max_7cf53 2 := ⟨⟨zc_J9_max_7cf53.1, zc_J9_max_7cf53.2.1, zc_J9_max_7cf53.2.2, by decide, by decide⟩, tw_158, Or.inl tw_1312⟩
theorem ss_X12_tells_107 : ab_sS mX12_tells 107 mX12_isShelf 1 := ⟨⟨zc_X12_isShelf.1, zc_X12_isShelf.2.1, zc_X12_isShelf.2.2, by decide, by decide⟩, tw_1118, Or.inl tw_1117⟩
theorem ss_X12_tells_77 : ab_sS mX12_tells 77 mX12_isFact 1 := ⟨⟨zc_X12_isFact.1, zc_X12_isFact.2.1, zc_X12_isFact.2.2, by decide, by decide⟩, tw_1136, Or.inl tw_1135⟩
theorem ss_X12_tells_131 : ab_sV mX12_tells 131 13 mX12_noSaying 1 := ⟨⟨zc_X12_noSaying.1, zc_X12_noSaying.2.1, zc_X12_noSaying.2.2, by decide, by decide⟩, tw_1194, _, _, _, rfl, Or.inl ⟨tw_1193, tw_31⟩⟩
theorem ss_X12_tells_153 : ab_sV mX12_tells 153 13 mX12_left 0 := ⟨⟨zc_X12_left.1, zc_X12_left.2.1, zc_X12_left.2.2, by decide, by decide⟩, tw_1232, _, _, _, rfl, Or.inl ⟨tw_1231, tw_34⟩⟩
theorem ss_X12_tells_134 : ab_sV mX12_tells 134 13 mX12_onShelf 3 := ⟨⟨zc_X12_onShelf.1, zc_X12_onShelf.2.1, zc_X12_onShelf.2.2, by decide, by decide⟩, tw_1197, _, _, _, rfl, Or.inl ⟨tw_1196, tw_32⟩⟩
theorem ss_X12_tells_140 : ab_sS mX12_tells 140 mX12_worldsOf 1 := ⟨⟨zc_X12_worldsOf.1, zc_X12_worldsOf.2.1, zc_X12_worldsOf.2.2, by decide, by decide⟩, tw_1229, Or.inl tw_1228⟩
theorem ss_X12_tells_156 : ab_sS mX12_tells 156 mJ13_bitCount_95d88 1 := ⟨⟨zc_J13_bitCount_95d88.1, zc_J13_bitCount_95d88.2.1, zc_J13_bitCount_95d88.2.2, by decide, by decide⟩, tw_653, Or.inl tw_1241⟩
theorem ss_X12_verdict_68 : ab_sS mX12_verdict 68 mX12_aboutOf 1 := ⟨⟨zc_X12_aboutOf.1, zc_X12_aboutOf.2.1, zc_X12_aboutOf.2.2, by decide, by decide⟩, tw_1167, Or.inl tw_1166⟩
theorem ss_X12_alike_162 : ab_sS mX12_alike 162 mX12_facts 2 := ⟨⟨zc_X12_facts.1, zc_X12_facts.2.1, zc_X12_facts.2.2, by decide, by decide⟩, tw_1247, Or.inl tw_1246⟩
theorem ss_X12_certain_104 : ab_sV mX12_certain 104 13 mX12_isWitness 1 := ⟨⟨zc_X12_isWitness.1, zc_X12_isWitness.2.1, zc_X12_isWitness.2.2, by decide, by decide⟩, tw_1148, _, _, _, rfl, Or.inl ⟨tw_1147, tw_26⟩⟩
theorem ss_X12_certain_153 : ab_sV mX12_certain 153 13 mX12_left 0 := ⟨⟨zc_X12_left.1, zc_X12_left.2.1, zc_X12_left.2.2, by decide, by decide⟩, tw_1232, _, _, _, rfl, Or.inl ⟨tw_1231, tw_34⟩⟩
theorem ss_X12_certain_199 : ab_sV mX12_certain 199 13 mX12_like 3 := ⟨⟨zc_X12_like.1, zc_X12_like.2.1, zc_X12_like.2.2, by decide, by decide⟩, tw_1326, _, _, _, rfl, Or.inl ⟨tw_1325, tw_39⟩⟩
theorem ss_X12_certain_203 : ab_sS mX12_certain 203 mX12_alike 1 := ⟨⟨zc_X12_alike.1, zc_X12_alike.2.1, zc_X12_alike.2.2, by decide, by decide⟩, tw_1329, Or.inl tw_1328⟩
theorem ss_X12_knowsOf_104 : ab_sV mX12_knowsOf 104 13 mX12_isWitness 1 := ⟨⟨zc_X12_isWitness.1, zc_X12_isWitness.2.1, zc_X12_isWitness.2.2, by decide, by decide⟩, tw_1148, _, _, _, rfl, Or.inl ⟨tw_1147, tw_26⟩⟩
theorem ss_X12_knowsOf_153 : ab_sV mX12_knowsOf 153 13 mX12_left 0 := ⟨⟨zc_X12_left.1, zc_X12_left.2.1, zc_X12_left.2.2, by decide, by decide⟩, tw_1232, _, _, _, rfl, Or.inl ⟨tw_1231, tw_34⟩⟩
theorem ss_X12_knowsOf_199 : ab_sV mX12_knowsOf 199 13 mX12_like 3 := ⟨⟨zc_X12_like.1, zc_X12_like.2.1, zc_X12_like.2.2, by decide, by decide⟩, tw_1326, _, _, _, rfl, Or.inl ⟨tw_1325, tw_39⟩⟩
theorem ss_X12_knowsOf_203 : ab_sS mX12_knowsOf 203 mX12_alike 1 := ⟨⟨zc_X12_alike.1, zc_X12_alike.2.1, zc_X12_alike.2.2, by decide, by decide⟩, tw_1329, Or.inl tw_1328⟩
theorem ss_X12_allKnow_43 : ab_sS mX12_allKnow 43 mX12_within 3 := ⟨⟨zc_X12_within.1, zc_X12_within.2.1, zc_X12_within.2.2, by decide, by decide⟩, tw_1121, Or.inl tw_1120⟩
theorem ss_X12_allKnow_153 : ab_sV mX12_allKnow 153 13 mX12_left 0 := ⟨⟨zc_X12_left.1, zc_X12_left.2.1, zc_X12_left.2.2, by decide, by decide⟩, tw_1232, _, _, _, rfl, Or.inl ⟨tw_1231, tw_34⟩⟩
theorem ss_X12_allKnow_199 : ab_sV mX12_allKnow 199 13 mX12_like 3 := ⟨⟨zc_X12_like.1, zc_X12_like.2.1, zc_X12_like.2.2, by decide, by decide⟩, tw_1326, _, _, _, rfl, Or.inl ⟨tw_1325, tw_39⟩⟩
theorem ss_X12_pencils_43 : ab_sS mX12_pencils 43 mX12_within 3 := ⟨⟨zc_X12_within.1, zc_X12_within.2.1, zc_X12_within.2.2, by decide, by decide⟩, tw_1121, Or.inl tw_1120⟩
theorem ss_X12_pencils_215 : ab_sV mX12_pencils 215 13 mX12_part 1 := ⟨⟨zc_X12_part.1, zc_X12_part.2.1, zc_X12_part.2.2, by decide, by decide⟩, tw_1345, _, _, _, rfl, Or.inl ⟨tw_1344, tw_40⟩⟩
theorem ss_X12_fits_107 : ab_sS mX12_fits 107 mX12_isShelf 1 := ⟨⟨zc_X12_isShelf.1, zc_X12_isShelf.2.1, zc_X12_isShelf.2.2, by decide, by decide⟩, tw_1118, Or.inl tw_1117⟩
theorem ss_X12_fits_223 : ab_sV mX12_fits 223 13 mX12_noRow 1 := ⟨⟨zc_X12_noRow.1, zc_X12_noRow.2.1, zc_X12_noRow.2.2, by decide, by decide⟩, tw_1352, _, _, _, rfl, Or.inl ⟨tw_1351, tw_41⟩⟩
theorem ss_X12_fits_144 : ab_sV mX12_fits 144 13 mX12_mayBe 0 := ⟨⟨zc_X12_mayBe.1, zc_X12_mayBe.2.1, zc_X12_mayBe.2.2, by decide, by decide⟩, tw_1225, _, _, _, rfl, Or.inl ⟨tw_1224, tw_33⟩⟩
theorem ss_X12_fits_230 : ab_sV mX12_fits 230 13 mX12_leastOf 1 := ⟨⟨zc_X12_leastOf.1, zc_X12_leastOf.2.1, zc_X12_leastOf.2.2, by decide, by decide⟩, tw_1357, _, _, _, rfl, Or.inl ⟨tw_1356, tw_42⟩⟩
theorem ss_X12_fits_43 : ab_sS mX12_fits 43 mX12_within 3 := ⟨⟨zc_X12_within.1, zc_X12_within.2.1, zc_X12_within.2.2, by decide, by decide⟩, tw_1121, Or.inl tw_1120⟩
theorem ss_X12_fits_140 : ab_sS mX12_fits 140 mX12_worldsOf 1 := ⟨⟨zc_X12_worldsOf.1, zc_X12_worldsOf.2.1, zc_X12_worldsOf.2.2, by decide, by decide⟩, tw_1229, Or.inl tw_1228⟩
theorem ss_X12_judge_107 : ab_sS mX12_judge 107 mX12_isShelf 1 := ⟨⟨zc_X12_isShelf.1, zc_X12_isShelf.2.1, zc_X12_isShelf.2.2, by decide, by decide⟩, tw_1118, Or.inl tw_1117⟩
theorem ss_X12_judge_223 : ab_sV mX12_judge 223 13 mX12_noRow 1 := ⟨⟨zc_X12_noRow.1, zc_X12_noRow.2.1, zc_X12_noRow.2.2, by decide, by decide⟩, tw_1352, _, _, _, rfl, Or.inl ⟨tw_1351, tw_41⟩⟩
theorem ss_X12_judge_230 : ab_sV mX12_judge 230 13 mX12_leastOf 1 := ⟨⟨zc_X12_leastOf.1, zc_X12_leastOf.2.1, zc_X12_leastOf.2.2, by decide, by decide⟩, tw_1357, _, _, _, rfl, Or.inl ⟨tw_1356, tw_42⟩⟩
theorem ss_X12_judge_148 : ab_sV mX12_judge 148 13 mX12_leftBy 1 := ⟨⟨zc_X12_leftBy.1, zc_X12_leftBy.2.1, zc_X12_leftBy.2.2, by decide, by decide⟩, tw_1235, _, _, _, rfl, Or.inl ⟨tw_1234, tw_35⟩⟩
theorem ss_X12_judge_156 : ab_sS mX12_judge 156 mJ13_bitCount_95d88 1 := ⟨⟨zc_J13_bitCount_95d88.1, zc_J13_bitCount_95d88.2.1, zc_J13_bitCount_95d88.2.2, by decide, by decide⟩, tw_653, Or.inl tw_1241⟩
theorem ss_X12_seeds_43 : ab_sS mX12_seeds 43 mX12_within 3 := ⟨⟨zc_X12_within.1, zc_X12_within.2.1, zc_X12_within.2.2, by decide, by decide⟩, tw_1121, Or.inl tw_1120⟩
theorem ss_X12_seeds_114 : ab_sV mX12_seeds 114 13 mX12_keep 1 := ⟨⟨zc_X12_keep.1, zc_X12_keep.2.1, zc_X12_keep.2.2, by decide, by decide⟩, tw_1151, _, _, _, rfl, Or.inl ⟨tw_1150, tw_27⟩⟩
theorem ss_X12_seeds_97 : ab_sV mX12_seeds 97 13 mX12_readSaying 1 := ⟨⟨zc_X12_readSaying.1, zc_X12_readSaying.2.1, zc_X12_readSaying.2.2, by decide, by decide⟩, tw_1139, _, _, _, rfl, Or.inl ⟨tw_1138, tw_24⟩⟩
theorem ss_X12_seeds_128 : ab_sV mX12_seeds 128 13 mX12_isSlip 1 := ⟨⟨zc_X12_isSlip.1, zc_X12_isSlip.2.1, zc_X12_isSlip.2.2, by decide, by decide⟩, tw_1177, _, _, _, rfl, Or.inl ⟨tw_1176, tw_30⟩⟩
theorem ss_X12_seeds_153 : ab_sV mX12_seeds 153 13 mX12_left 0 := ⟨⟨zc_X12_left.1, zc_X12_left.2.1, zc_X12_left.2.2, by decide, by decide⟩, tw_1232, _, _, _, rfl, Or.inl ⟨tw_1231, tw_34⟩⟩
theorem ss_X12_seeds_156 : ab_sS mX12_seeds 156 mJ13_bitCount_95d88 1 := ⟨⟨zc_J13_bitCount_95d88.1, zc_J13_bitCount_95d88.2.1, zc_J13_bitCount_95d88.2.2, by decide, by decide⟩, tw_653, Or.inl tw_1241⟩
theorem ss_X12_seeds_118 : ab_sV mX12_seeds 118 13 mX12_again 1 := ⟨⟨zc_X12_again.1, zc_X12_again.2.1, zc_X12_again.2.2, by decide, by decide⟩, tw_1154, _, _, _, rfl, Or.inl ⟨tw_1153, tw_28⟩⟩
theorem ss_X12_image_114 : ab_sV mX12_image 114 13 mX12_keep 1 := ⟨⟨zc_X12_keep.1, zc_X12_keep.2.1, zc_X12_keep.2.2, by decide, by decide⟩, tw_1151, _, _, _, rfl, Or.inl ⟨tw_1150, tw_27⟩⟩
theorem ss_X12_restore_118 : ab_sV mX12_restore 118 13 mX12_again 1 := ⟨⟨zc_X12_again.1, zc_X12_again.2.1, zc_X12_again.2.2, by decide, by decide⟩, tw_1154, _, _, _, rfl, Or.inl ⟨tw_1153, tw_28⟩⟩
theorem ss_X12_count_64 : ab_sS mX12_count 64 mX12_sizeOf 1 := ⟨⟨zc_X12_sizeOf.1, zc_X12_sizeOf.2.1, zc_X12_sizeOf.2.2, by decide, by decide⟩, tw_1164, Or.inl tw_1163⟩
theorem ss_X12_count_144 : ab_sV mX12_count 144 13 mX12_mayBe 0 := ⟨⟨zc_X12_mayBe.1, zc_X12_mayBe.2.1, zc_X12_mayBe.2.2, by decide, by decide⟩, tw_1225, _, _, _, rfl, Or.inl ⟨tw_1224, tw_33⟩⟩
theorem ss_X12_count_153 : ab_sV mX12_count 153 13 mX12_left 0 := ⟨⟨zc_X12_left.1, zc_X12_left.2.1, zc_X12_left.2.2, by decide, by decide⟩, tw_1232, _, _, _, rfl, Or.inl ⟨tw_1231, tw_34⟩⟩
theorem ss_X12_keep__107 : ab_sS mX12_keep_ 107 mX12_isShelf 1 := ⟨⟨zc_X12_isShelf.1, zc_X12_isShelf.2.1, zc_X12_isShelf.2.2, by decide, by decide⟩, tw_1118, Or.inl tw_1117⟩
theorem ss_X12_keep__43 : ab_sS mX12_keep_ 43 mX12_within 3 := ⟨⟨zc_X12_within.1, zc_X12_within.2.1, zc_X12_within.2.2, by decide, by decide⟩, tw_1121, Or.inl tw_1120⟩
theorem ss_X12_row_107 : ab_sS mX12_row 107 mX12_isShelf 1 := ⟨⟨zc_X12_isShelf.1, zc_X12_isShelf.2.1, zc_X12_isShelf.2.2, by decide, by decide⟩, tw_1118, Or.inl tw_1117⟩
theorem ss_X12_row_43 : ab_sS mX12_row 43 mX12_within 3 := ⟨⟨zc_X12_within.1, zc_X12_within.2.1, zc_X12_within.2.2, by decide, by decide⟩, tw_1121, Or.inl tw_1120⟩
theorem ss_X12_put_107 : ab_sS mX12_put 107 mX12_isShelf 1 := ⟨⟨zc_X12_isShelf.1, zc_X12_isShelf.2.1, zc_X12_isShelf.2.2, by decide, by decide⟩, tw_1118, Or.inl tw_1117⟩
theorem ss_X12_put_223 : ab_sV mX12_put 223 13 mX12_noRow 1 := ⟨⟨zc_X12_noRow.1, zc_X12_noRow.2.1, zc_X12_noRow.2.2, by decide, by decide⟩, tw_1352, _, _, _, rfl, Or.inl ⟨tw_1351, tw_41⟩⟩
theorem ss_X12_put_43 : ab_sS mX12_put 43 mX12_within 3 := ⟨⟨zc_X12_within.1, zc_X12_within.2.1, zc_X12_within.2.2, by decide, by decide⟩, tw_1121, Or.inl tw_1120⟩
theorem ss_X12_element_107 : ab_sS mX12_element 107 mX12_isShelf 1 := ⟨⟨zc_X12_isShelf.1, zc_X12_isShelf.2.1, zc_X12_isShelf.2.2, by decide, by decide⟩, tw_1118, Or.inl tw_1117⟩
theorem ss_X12_element_43 : ab_sS mX12_element 43 mX12_within 3 := ⟨⟨zc_X12_within.1, zc_X12_within.2.1, zc_X12_within.2.2, by decide, by decide⟩, tw_1121, Or.inl tw_1120⟩
theorem ss_X12_copy_107 : ab_sS mX12_copy 107 mX12_isShelf 1 := ⟨⟨zc_X12_isShelf.1, zc_X12_isShelf.2.1, zc_X12_isShelf.2.2, by decide, by decide⟩, tw_1118, Or.inl tw_1117⟩
theorem ss_X12_cost_107 : ab_sS mX12_cost 107 mX12_isShelf 1 := ⟨⟨zc_X12_isShelf.1, zc_X12_isShelf.2.1, zc_X12_isShelf.2.2, by decide, by decide⟩, tw_1118, Or.inl tw_1117⟩
theorem ss_X12_cost_131 : ab_sV mX12_cost 131 13 mX12_noSaying 1 := ⟨⟨zc_X12_noSaying.1, zc_X12_noSaying.2.1, zc_X12_noSaying.2.2, by decide, by decide⟩, tw_1194, _, _, _, rfl, Or.inl ⟨tw_1193, tw_31⟩⟩
theorem ss_X12_cost_243 : ab_sV mX12_cost 243 13 mX12_costOf 1 := ⟨⟨zc_X12_costOf.1, zc_X12_costOf.2.1, zc_X12_costOf.2.2, by decide, by decide⟩, tw_1412, _, _, _, rfl, Or.inl ⟨tw_1411, tw_43⟩⟩
theorem ss_X12_toss_107 : ab_sS mX12_toss 107 mX12_isShelf 1 := ⟨⟨zc_X12_isShelf.1, zc_X12_isShelf.2.1, zc_X12_isShelf.2.2, by decide, by decide⟩, tw_1118, Or.inl tw_1117⟩
theorem ss_X12_toss_131 : ab_sV mX12_toss 131 13 mX12_noSaying 1 := ⟨⟨zc_X12_noSaying.1, zc_X12_noSaying.2.1, zc_X12_noSaying.2.2, by decide, by decide⟩, tw_1194, _, _, _, rfl, Or.inl ⟨tw_1193, tw_31⟩⟩
theorem ss_X12_toss_243 : ab_sV mX12_toss 243 13 mX12_costOf 1 := ⟨⟨zc_X12_costOf.1, zc_X12_costOf.2.1, zc_X12_costOf.2.2, by decide, by decide⟩, tw_1412, _, _, _, rfl, Or.inl ⟨tw_1411, tw_43⟩⟩
theorem so_Jxa1e45_init_da8c8_1 : Cond.methodLink mJxa1e45_init_da8c8.1.cls 1 objectInit ∈ ab_Tg ∧ Cond.instanceMethod objectInit ∈ ab_Tg ∧ Cond.code objectInit ⟨#[0xb1]⟩ 1 none ∈ ab_Tg := ⟨tw_93, tw_80, tw_81⟩
theorem ss_Jxc12de_init_da8c8_1 : ab_sI mJxc12de_init_da8c8 1 mJxa1e45_init_da8c8 0 := ⟨⟨zc_Jxa1e45_init_da8c8.1, zc_Jxa1e45_init_da8c8.2.1, zc_Jxa1e45_init_da8c8.2.2, by decide, by decide⟩, tw_91, rfl, rfl, Or.inl tw_90⟩
theorem ss_Jx4a65c_init_da8c8_1 : ab_sI mJx4a65c_init_da8c8 1 mJxc12de_init_da8c8 0 := ⟨⟨zc_Jxc12de_init_da8c8.1, zc_Jxc12de_init_da8c8.2.1, zc_Jxc12de_init_da8c8.2.2, by decide, by decide⟩, tw_88, rfl, rfl, Or.inl tw_87⟩
theorem ss_Jx4a65c_grow_92f84_79 : ab_sS mJx4a65c_grow_92f84 79 mJ9_max_7cf53 2 := ⟨⟨zc_J9_max_7cf53.1, zc_J9_max_7cf53.2.1, zc_J9_max_7cf53.2.2, by decide, by decide⟩, tw_158, Or.inl tw_197⟩
theorem ss_Jx4a65c_grow_d5877_69 : ab_sV mJx4a65c_grow_d5877 69 0 mJx4a65c_grow_92f84 1 := ⟨⟨zc_Jx4a65c_grow_92f84.1, zc_Jx4a65c_grow_92f84.2.1, zc_Jx4a65c_grow_92f84.2.2, by decide, by decide⟩, tw_152, _, _, _, rfl, Or.inl ⟨tw_151, tw_2⟩⟩
theorem ss_Jx4a65c_get_915e3_118 : ab_sS mJx4a65c_get_915e3 118 mJ15_checkIndex_7cf53 2 := ⟨⟨zc_J15_checkIndex_7cf53.1, zc_J15_checkIndex_7cf53.2.1, zc_J15_checkIndex_7cf53.2.2, by decide, by decide⟩, tw_353, Or.inl tw_352⟩
theorem ss_Jx4a65c_get_915e3_123 : ab_sV mJx4a65c_get_915e3 123 0 mJx4a65c_elementData_915e3 1 := ⟨⟨zc_Jx4a65c_elementData_915e3.1, zc_Jx4a65c_elementData_915e3.2.1, zc_Jx4a65c_elementData_915e3.2.2, by decide, by decide⟩, tw_359, _, _, _, rfl, Or.inl ⟨tw_358, tw_360⟩⟩
theorem ss_Jx4a65c_add_72be8_129 : ab_sV mJx4a65c_add_72be8 129 0 mJx4a65c_grow_d5877 0 := ⟨⟨zc_Jx4a65c_grow_d5877.1, zc_Jx4a65c_grow_d5877.2.1, zc_Jx4a65c_grow_d5877.2.2, by decide, by decide⟩, tw_149, _, _, _, rfl, Or.inl ⟨tw_148, tw_1⟩⟩
theorem ss_Jx4a65c_add_9ea2d_131 : ab_sV mJx4a65c_add_9ea2d 131 0 mJx4a65c_add_72be8 3 := ⟨⟨zc_Jx4a65c_add_72be8.1, zc_Jx4a65c_add_72be8.2.1, zc_Jx4a65c_add_72be8.2.2, by decide, by decide⟩, tw_146, _, _, _, rfl, Or.inl ⟨tw_145, tw_0⟩⟩
theorem ss_Jx4a65c_remove_915e3_118 : ab_sS mJx4a65c_remove_915e3 118 mJ15_checkIndex_7cf53 2 := ⟨⟨zc_J15_checkIndex_7cf53.1, zc_J15_checkIndex_7cf53.2.1, zc_J15_checkIndex_7cf53.2.2, by decide, by decide⟩, tw_353, Or.inl tw_352⟩
theorem ss_Jx4a65c_remove_915e3_144 : ab_sV mJx4a65c_remove_915e3 144 0 mJx4a65c_fastRemove_b59b0 2 := ⟨⟨zc_Jx4a65c_fastRemove_b59b0.1, zc_Jx4a65c_fastRemove_b59b0.2.1, zc_Jx4a65c_fastRemove_b59b0.2.2, by decide, by decide⟩, tw_608, _, _, _, rfl, Or.inl ⟨tw_607, tw_9⟩⟩
theorem ss_J15_checkIndex_7cf53_105 : ab_sS mJ15_checkIndex_7cf53 105 mJ3_checkIndex_8e157 3 := ⟨⟨zc_J3_checkIndex_8e157.1, zc_J3_checkIndex_8e157.2.1, zc_J3_checkIndex_8e157.2.2, by decide, by decide⟩, tw_356, Or.inl tw_355⟩
theorem ss_L_law_17 : ab_sI mL_law 17 mX11_init 0 := ⟨⟨zc_X11_init.1, zc_X11_init.2.1, zc_X11_init.2.2, by decide, by decide⟩, tw_77, rfl, rfl, Or.inl tw_76⟩
theorem ss_L_law_20 : ab_sI mL_law 20 mX12_init 0 := ⟨⟨zc_X12_init.1, zc_X12_init.2.1, zc_X12_init.2.2, by decide, by decide⟩, tw_1066, rfl, rfl, Or.inl tw_1065⟩
theorem ss_L_law_21 : ab_sV mL_law 21 12 mX11_trial 1 := ⟨⟨zc_X11_trial.1, zc_X11_trial.2.1, zc_X11_trial.2.2, by decide, by decide⟩, tw_296, _, _, _, rfl, Or.inl ⟨tw_295, tw_297⟩⟩
theorem ss_L_law_25 : ab_sV mL_law 25 13 mX12_trial 1 := ⟨⟨zc_X12_trial.1, zc_X12_trial.2.1, zc_X12_trial.2.2, by decide, by decide⟩, tw_1114, _, _, _, rfl, Or.inl ⟨tw_1113, tw_1115⟩⟩
theorem ss_L_law_26 : ab_sV mL_law 26 12 mX11_law 2 := ⟨⟨zc_X11_law.1, zc_X11_law.2.1, zc_X11_law.2.2, by decide, by decide⟩, tw_486, _, _, _, rfl, Or.inl ⟨tw_485, tw_487⟩⟩
theorem ss_L_law_30 : ab_sV mL_law 30 13 mX12_law 2 := ⟨⟨zc_X12_law.1, zc_X12_law.2.1, zc_X12_law.2.2, by decide, by decide⟩, tw_1157, _, _, _, rfl, Or.inl ⟨tw_1156, tw_1158⟩⟩
theorem ss_L_law_31 : ab_sV mL_law 31 12 mX11_said 2 := ⟨⟨zc_X11_said.1, zc_X11_said.2.1, zc_X11_said.2.2, by decide, by decide⟩, tw_562, _, _, _, rfl, Or.inl ⟨tw_561, tw_563⟩⟩
theorem ss_L_law_34 : ab_sV mL_law 34 13 mX12_said 2 := ⟨⟨zc_X12_said.1, zc_X12_said.2.1, zc_X12_said.2.2, by decide, by decide⟩, tw_1170, _, _, _, rfl, Or.inl ⟨tw_1169, tw_1171⟩⟩
theorem ss_L_law_35 : ab_sV mL_law 35 12 mX11_knows 1 := ⟨⟨zc_X11_knows.1, zc_X11_knows.2.1, zc_X11_knows.2.2, by decide, by decide⟩, tw_572, _, _, _, rfl, Or.inl ⟨tw_571, tw_573⟩⟩
theorem ss_L_law_38 : ab_sV mL_law 38 13 mX12_knows 1 := ⟨⟨zc_X12_knows.1, zc_X12_knows.2.1, zc_X12_knows.2.2, by decide, by decide⟩, tw_1186, _, _, _, rfl, Or.inl ⟨tw_1185, tw_1187⟩⟩
theorem ss_L_law_39 : ab_sV mL_law 39 12 mX11_isTrue 4 := ⟨⟨zc_X11_isTrue.1, zc_X11_isTrue.2.1, zc_X11_isTrue.2.2, by decide, by decide⟩, tw_578, _, _, _, rfl, Or.inl ⟨tw_577, tw_579⟩⟩
theorem ss_L_law_43 : ab_sV mL_law 43 13 mX12_isTrue 4 := ⟨⟨zc_X12_isTrue.1, zc_X12_isTrue.2.1, zc_X12_isTrue.2.2, by decide, by decide⟩, tw_1190, _, _, _, rfl, Or.inl ⟨tw_1189, tw_1191⟩⟩
theorem ss_L_law_44 : ab_sV mL_law 44 12 mX11_rules 3 := ⟨⟨zc_X11_rules.1, zc_X11_rules.2.1, zc_X11_rules.2.2, by decide, by decide⟩, tw_592, _, _, _, rfl, Or.inl ⟨tw_591, tw_593⟩⟩
theorem ss_L_law_48 : ab_sV mL_law 48 13 mX12_rules 3 := ⟨⟨zc_X12_rules.1, zc_X12_rules.2.1, zc_X12_rules.2.2, by decide, by decide⟩, tw_1200, _, _, _, rfl, Or.inl ⟨tw_1199, tw_1201⟩⟩
theorem ss_L_law_49 : ab_sV mL_law 49 12 mX11_says 4 := ⟨⟨zc_X11_says.1, zc_X11_says.2.1, zc_X11_says.2.2, by decide, by decide⟩, tw_596, _, _, _, rfl, Or.inl ⟨tw_595, tw_597⟩⟩
theorem ss_L_law_52 : ab_sV mL_law 52 13 mX12_says 4 := ⟨⟨zc_X12_says.1, zc_X12_says.2.1, zc_X12_says.2.2, by decide, by decide⟩, tw_1204, _, _, _, rfl, Or.inl ⟨tw_1203, tw_1205⟩⟩
theorem ss_L_law_53 : ab_sV mL_law 53 12 mX11_unsays 0 := ⟨⟨zc_X11_unsays.1, zc_X11_unsays.2.1, zc_X11_unsays.2.2, by decide, by decide⟩, tw_600, _, _, _, rfl, Or.inl ⟨tw_599, tw_601⟩⟩
theorem ss_L_law_57 : ab_sV mL_law 57 13 mX12_unsays 0 := ⟨⟨zc_X12_unsays.1, zc_X12_unsays.2.1, zc_X12_unsays.2.2, by decide, by decide⟩, tw_1208, _, _, _, rfl, Or.inl ⟨tw_1207, tw_1209⟩⟩
theorem ss_L_law_58 : ab_sV mL_law 58 12 mX11_witness 1 := ⟨⟨zc_X11_witness.1, zc_X11_witness.2.1, zc_X11_witness.2.2, by decide, by decide⟩, tw_612, _, _, _, rfl, Or.inl ⟨tw_611, tw_613⟩⟩
theorem ss_L_law_61 : ab_sV mL_law 61 13 mX12_witness 1 := ⟨⟨zc_X12_witness.1, zc_X12_witness.2.1, zc_X12_witness.2.2, by decide, by decide⟩, tw_1212, _, _, _, rfl, Or.inl ⟨tw_1211, tw_1213⟩⟩
theorem ss_L_law_62 : ab_sV mL_law 62 12 mX11_truth 1 := ⟨⟨zc_X11_truth.1, zc_X11_truth.2.1, zc_X11_truth.2.2, by decide, by decide⟩, tw_617, _, _, _, rfl, Or.inl ⟨tw_616, tw_618⟩⟩
theorem ss_L_law_65 : ab_sV mL_law 65 13 mX12_truth 1 := ⟨⟨zc_X12_truth.1, zc_X12_truth.2.1, zc_X12_truth.2.2, by decide, by decide⟩, tw_1216, _, _, _, rfl, Or.inl ⟨tw_1215, tw_1217⟩⟩
theorem ss_L_law_66 : ab_sV mL_law 66 12 mX11_worlds 1 := ⟨⟨zc_X11_worlds.1, zc_X11_worlds.2.1, zc_X11_worlds.2.2, by decide, by decide⟩, tw_621, _, _, _, rfl, Or.inl ⟨tw_620, tw_622⟩⟩
theorem ss_L_law_70 : ab_sV mL_law 70 13 mX12_worlds 1 := ⟨⟨zc_X12_worlds.1, zc_X12_worlds.2.1, zc_X12_worlds.2.2, by decide, by decide⟩, tw_1220, _, _, _, rfl, Or.inl ⟨tw_1219, tw_1221⟩⟩
theorem ss_L_law_71 : ab_sV mL_law 71 12 mX11_many 1 := ⟨⟨zc_X11_many.1, zc_X11_many.2.1, zc_X11_many.2.2, by decide, by decide⟩, tw_649, _, _, _, rfl, Or.inl ⟨tw_648, tw_650⟩⟩
theorem ss_L_law_74 : ab_sV mL_law 74 13 mX12_many 1 := ⟨⟨zc_X12_many.1, zc_X12_many.2.1, zc_X12_many.2.2, by decide, by decide⟩, tw_1238, _, _, _, rfl, Or.inl ⟨tw_1237, tw_1239⟩⟩
theorem ss_L_law_75 : ab_sV mL_law 75 12 mX11_proved 1 := ⟨⟨zc_X11_proved.1, zc_X11_proved.2.1, zc_X11_proved.2.2, by decide, by decide⟩, tw_659, _, _, _, rfl, Or.inl ⟨tw_658, tw_660⟩⟩
theorem ss_L_law_78 : ab_sV mL_law 78 13 mX12_proved 1 := ⟨⟨zc_X12_proved.1, zc_X12_proved.2.1, zc_X12_proved.2.2, by decide, by decide⟩, tw_1243, _, _, _, rfl, Or.inl ⟨tw_1242, tw_1244⟩⟩
theorem ss_L_law_79 : ab_sV mL_law 79 12 mX11_slips 1 := ⟨⟨zc_X11_slips.1, zc_X11_slips.2.1, zc_X11_slips.2.2, by decide, by decide⟩, tw_673, _, _, _, rfl, Or.inl ⟨tw_672, tw_674⟩⟩
theorem ss_L_law_82 : ab_sV mL_law 82 13 mX12_slips 1 := ⟨⟨zc_X12_slips.1, zc_X12_slips.2.1, zc_X12_slips.2.2, by decide, by decide⟩, tw_1250, _, _, _, rfl, Or.inl ⟨tw_1249, tw_1251⟩⟩
theorem ss_L_law_83 : ab_sV mL_law 83 12 mX11_alone 1 := ⟨⟨zc_X11_alone.1, zc_X11_alone.2.1, zc_X11_alone.2.2, by decide, by decide⟩, tw_686, _, _, _, rfl, Or.inl ⟨tw_685, tw_687⟩⟩
theorem ss_L_law_86 : ab_sV mL_law 86 13 mX12_alone 1 := ⟨⟨zc_X12_alone.1, zc_X12_alone.2.1, zc_X12_alone.2.2, by decide, by decide⟩, tw_1255, _, _, _, rfl, Or.inl ⟨tw_1254, tw_1256⟩⟩
theorem ss_L_law_87 : ab_sV mL_law 87 12 mX11_clash 0 := ⟨⟨zc_X11_clash.1, zc_X11_clash.2.1, zc_X11_clash.2.2, by decide, by decide⟩, tw_691, _, _, _, rfl, Or.inl ⟨tw_690, tw_692⟩⟩
theorem ss_L_law_90 : ab_sV mL_law 90 13 mX12_clash 0 := ⟨⟨zc_X12_clash.1, zc_X12_clash.2.1, zc_X12_clash.2.2, by decide, by decide⟩, tw_1259, _, _, _, rfl, Or.inl ⟨tw_1258, tw_1260⟩⟩
theorem ss_L_law_91 : ab_sV mL_law 91 12 mX11_proof 1 := ⟨⟨zc_X11_proof.1, zc_X11_proof.2.1, zc_X11_proof.2.2, by decide, by decide⟩, tw_695, _, _, _, rfl, Or.inl ⟨tw_694, tw_696⟩⟩
theorem ss_L_law_94 : ab_sV mL_law 94 13 mX12_proof 1 := ⟨⟨zc_X12_proof.1, zc_X12_proof.2.1, zc_X12_proof.2.2, by decide, by decide⟩, tw_1263, _, _, _, rfl, Or.inl ⟨tw_1262, tw_1264⟩⟩
theorem ss_L_law_95 : ab_sV mL_law 95 12 mX11_slipped 0 := ⟨⟨zc_X11_slipped.1, zc_X11_slipped.2.1, zc_X11_slipped.2.2, by decide, by decide⟩, tw_709, _, _, _, rfl, Or.inl ⟨tw_708, tw_710⟩⟩
theorem ss_L_law_98 : ab_sV mL_law 98 13 mX12_slipped 0 := ⟨⟨zc_X12_slipped.1, zc_X12_slipped.2.1, zc_X12_slipped.2.2, by decide, by decide⟩, tw_1271, _, _, _, rfl, Or.inl ⟨tw_1270, tw_1272⟩⟩
theorem ss_L_law_99 : ab_sV mL_law 99 12 mX11_ask 0 := ⟨⟨zc_X11_ask.1, zc_X11_ask.2.1, zc_X11_ask.2.2, by decide, by decide⟩, tw_713, _, _, _, rfl, Or.inl ⟨tw_712, tw_714⟩⟩
theorem ss_L_law_102 : ab_sV mL_law 102 13 mX12_ask 0 := ⟨⟨zc_X12_ask.1, zc_X12_ask.2.1, zc_X12_ask.2.2, by decide, by decide⟩, tw_1275, _, _, _, rfl, Or.inl ⟨tw_1274, tw_1276⟩⟩
theorem ss_L_law_103 : ab_sV mL_law 103 12 mX11_plain 0 := ⟨⟨zc_X11_plain.1, zc_X11_plain.2.1, zc_X11_plain.2.2, by decide, by decide⟩, tw_718, _, _, _, rfl, Or.inl ⟨tw_717, tw_719⟩⟩
theorem ss_L_law_106 : ab_sV mL_law 106 13 mX12_plain 0 := ⟨⟨zc_X12_plain.1, zc_X12_plain.2.1, zc_X12_plain.2.2, by decide, by decide⟩, tw_1280, _, _, _, rfl, Or.inl ⟨tw_1279, tw_1281⟩⟩
theorem ss_L_law_107 : ab_sV mL_law 107 12 mX11_order 1 := ⟨⟨zc_X11_order.1, zc_X11_order.2.1, zc_X11_order.2.2, by decide, by decide⟩, tw_731, _, _, _, rfl, Or.inl ⟨tw_730, tw_732⟩⟩
theorem ss_L_law_110 : ab_sV mL_law 110 13 mX12_order 1 := ⟨⟨zc_X12_order.1, zc_X12_order.2.1, zc_X12_order.2.2, by decide, by decide⟩, tw_1290, _, _, _, rfl, Or.inl ⟨tw_1289, tw_1291⟩⟩
theorem ss_L_law_111 : ab_sV mL_law 111 12 mX11_without 1 := ⟨⟨zc_X11_without.1, zc_X11_without.2.1, zc_X11_without.2.2, by decide, by decide⟩, tw_745, _, _, _, rfl, Or.inl ⟨tw_744, tw_746⟩⟩
theorem ss_L_law_114 : ab_sV mL_law 114 13 mX12_without 1 := ⟨⟨zc_X12_without.1, zc_X12_without.2.1, zc_X12_without.2.2, by decide, by decide⟩, tw_1295, _, _, _, rfl, Or.inl ⟨tw_1294, tw_1296⟩⟩
theorem ss_L_law_115 : ab_sV mL_law 115 12 mX11_lie 2 := ⟨⟨zc_X11_lie.1, zc_X11_lie.2.1, zc_X11_lie.2.2, by decide, by decide⟩, tw_750, _, _, _, rfl, Or.inl ⟨tw_749, tw_751⟩⟩
theorem ss_L_law_118 : ab_sV mL_law 118 13 mX12_lie 2 := ⟨⟨zc_X12_lie.1, zc_X12_lie.2.1, zc_X12_lie.2.2, by decide, by decide⟩, tw_1299, _, _, _, rfl, Or.inl ⟨tw_1298, tw_1300⟩⟩
theorem ss_L_law_119 : ab_sV mL_law 119 12 mX11_twoLies 2 := ⟨⟨zc_X11_twoLies.1, zc_X11_twoLies.2.1, zc_X11_twoLies.2.2, by decide, by decide⟩, tw_770, _, _, _, rfl, Or.inl ⟨tw_769, tw_771⟩⟩
theorem ss_L_law_122 : ab_sV mL_law 122 13 mX12_twoLies 2 := ⟨⟨zc_X12_twoLies.1, zc_X12_twoLies.2.1, zc_X12_twoLies.2.2, by decide, by decide⟩, tw_1309, _, _, _, rfl, Or.inl ⟨tw_1308, tw_1310⟩⟩
theorem ss_L_law_123 : ab_sV mL_law 123 12 mX11_tells 3 := ⟨⟨zc_X11_tells.1, zc_X11_tells.2.1, zc_X11_tells.2.2, by decide, by decide⟩, tw_781, _, _, _, rfl, Or.inl ⟨tw_780, tw_782⟩⟩
theorem ss_L_law_126 : ab_sV mL_law 126 13 mX12_tells 3 := ⟨⟨zc_X12_tells.1, zc_X12_tells.2.1, zc_X12_tells.2.2, by decide, by decide⟩, tw_1314, _, _, _, rfl, Or.inl ⟨tw_1313, tw_1315⟩⟩
theorem ss_L_law_127 : ab_sV mL_law 127 12 mX11_verdict 0 := ⟨⟨zc_X11_verdict.1, zc_X11_verdict.2.1, zc_X11_verdict.2.2, by decide, by decide⟩, tw_785, _, _, _, rfl, Or.inl ⟨tw_784, tw_786⟩⟩
theorem ss_L_law_130 : ab_sV mL_law 130 13 mX12_verdict 0 := ⟨⟨zc_X12_verdict.1, zc_X12_verdict.2.1, zc_X12_verdict.2.2, by decide, by decide⟩, tw_1318, _, _, _, rfl, Or.inl ⟨tw_1317, tw_1319⟩⟩
theorem ss_L_law_131 : ab_sV mL_law 131 12 mX11_certain 1 := ⟨⟨zc_X11_certain.1, zc_X11_certain.2.1, zc_X11_certain.2.2, by decide, by decide⟩, tw_790, _, _, _, rfl, Or.inl ⟨tw_789, tw_791⟩⟩
theorem ss_L_law_134 : ab_sV mL_law 134 13 mX12_certain 1 := ⟨⟨zc_X12_certain.1, zc_X12_certain.2.1, zc_X12_certain.2.2, by decide, by decide⟩, tw_1322, _, _, _, rfl, Or.inl ⟨tw_1321, tw_1323⟩⟩
theorem ss_L_law_135 : ab_sV mL_law 135 12 mX11_knowsOf 2 := ⟨⟨zc_X11_knowsOf.1, zc_X11_knowsOf.2.1, zc_X11_knowsOf.2.2, by decide, by decide⟩, tw_800, _, _, _, rfl, Or.inl ⟨tw_799, tw_801⟩⟩
theorem ss_L_law_138 : ab_sV mL_law 138 13 mX12_knowsOf 2 := ⟨⟨zc_X12_knowsOf.1, zc_X12_knowsOf.2.1, zc_X12_knowsOf.2.2, by decide, by decide⟩, tw_1332, _, _, _, rfl, Or.inl ⟨tw_1331, tw_1333⟩⟩
theorem ss_L_law_139 : ab_sV mL_law 139 12 mX11_allKnow 1 := ⟨⟨zc_X11_allKnow.1, zc_X11_allKnow.2.1, zc_X11_allKnow.2.2, by decide, by decide⟩, tw_804, _, _, _, rfl, Or.inl ⟨tw_803, tw_805⟩⟩
theorem ss_L_law_142 : ab_sV mL_law 142 13 mX12_allKnow 1 := ⟨⟨zc_X12_allKnow.1, zc_X12_allKnow.2.1, zc_X12_allKnow.2.2, by decide, by decide⟩, tw_1336, _, _, _, rfl, Or.inl ⟨tw_1335, tw_1337⟩⟩
theorem ss_L_law_143 : ab_sV mL_law 143 12 mX11_pencils 3 := ⟨⟨zc_X11_pencils.1, zc_X11_pencils.2.1, zc_X11_pencils.2.2, by decide, by decide⟩, tw_813, _, _, _, rfl, Or.inl ⟨tw_812, tw_814⟩⟩
theorem ss_L_law_147 : ab_sV mL_law 147 13 mX12_pencils 3 := ⟨⟨zc_X12_pencils.1, zc_X12_pencils.2.1, zc_X12_pencils.2.2, by decide, by decide⟩, tw_1340, _, _, _, rfl, Or.inl ⟨tw_1339, tw_1341⟩⟩
theorem ss_L_law_148 : ab_sV mL_law 148 12 mX11_fits 1 := ⟨⟨zc_X11_fits.1, zc_X11_fits.2.1, zc_X11_fits.2.2, by decide, by decide⟩, tw_826, _, _, _, rfl, Or.inl ⟨tw_825, tw_827⟩⟩
theorem ss_L_law_151 : ab_sV mL_law 151 13 mX12_fits 1 := ⟨⟨zc_X12_fits.1, zc_X12_fits.2.1, zc_X12_fits.2.2, by decide, by decide⟩, tw_1348, _, _, _, rfl, Or.inl ⟨tw_1347, tw_1349⟩⟩
theorem ss_L_law_152 : ab_sV mL_law 152 12 mX11_judge 1 := ⟨⟨zc_X11_judge.1, zc_X11_judge.2.1, zc_X11_judge.2.2, by decide, by decide⟩, tw_841, _, _, _, rfl, Or.inl ⟨tw_840, tw_842⟩⟩
theorem ss_L_law_155 : ab_sV mL_law 155 13 mX12_judge 1 := ⟨⟨zc_X12_judge.1, zc_X12_judge.2.1, zc_X12_judge.2.2, by decide, by decide⟩, tw_1361, _, _, _, rfl, Or.inl ⟨tw_1360, tw_1362⟩⟩
theorem ss_L_law_156 : ab_sV mL_law 156 12 mX11_seeds 3 := ⟨⟨zc_X11_seeds.1, zc_X11_seeds.2.1, zc_X11_seeds.2.2, by decide, by decide⟩, tw_845, _, _, _, rfl, Or.inl ⟨tw_844, tw_846⟩⟩
theorem ss_L_law_159 : ab_sV mL_law 159 13 mX12_seeds 3 := ⟨⟨zc_X12_seeds.1, zc_X12_seeds.2.1, zc_X12_seeds.2.2, by decide, by decide⟩, tw_1365, _, _, _, rfl, Or.inl ⟨tw_1364, tw_1366⟩⟩
theorem ss_L_law_160 : ab_sV mL_law 160 12 mX11_image 0 := ⟨⟨zc_X11_image.1, zc_X11_image.2.1, zc_X11_image.2.2, by decide, by decide⟩, tw_864, _, _, _, rfl, Or.inl ⟨tw_863, tw_865⟩⟩
theorem ss_L_law_163 : ab_sV mL_law 163 13 mX12_image 0 := ⟨⟨zc_X12_image.1, zc_X12_image.2.1, zc_X12_image.2.2, by decide, by decide⟩, tw_1372, _, _, _, rfl, Or.inl ⟨tw_1371, tw_1373⟩⟩
theorem ss_L_law_164 : ab_sV mL_law 164 12 mX11_restore 0 := ⟨⟨zc_X11_restore.1, zc_X11_restore.2.1, zc_X11_restore.2.2, by decide, by decide⟩, tw_868, _, _, _, rfl, Or.inl ⟨tw_867, tw_869⟩⟩
theorem ss_L_law_167 : ab_sV mL_law 167 13 mX12_restore 0 := ⟨⟨zc_X12_restore.1, zc_X12_restore.2.1, zc_X12_restore.2.2, by decide, by decide⟩, tw_1376, _, _, _, rfl, Or.inl ⟨tw_1375, tw_1377⟩⟩
theorem ss_L_law_168 : ab_sV mL_law 168 12 mX11_count 1 := ⟨⟨zc_X11_count.1, zc_X11_count.2.1, zc_X11_count.2.2, by decide, by decide⟩, tw_872, _, _, _, rfl, Or.inl ⟨tw_871, tw_873⟩⟩
theorem ss_L_law_171 : ab_sV mL_law 171 13 mX12_count 1 := ⟨⟨zc_X12_count.1, zc_X12_count.2.1, zc_X12_count.2.2, by decide, by decide⟩, tw_1380, _, _, _, rfl, Or.inl ⟨tw_1379, tw_1381⟩⟩
theorem ss_L_law_172 : ab_sV mL_law 172 12 mX11_keep 4 := ⟨⟨zc_X11_keep.1, zc_X11_keep.2.1, zc_X11_keep.2.2, by decide, by decide⟩, tw_881, _, _, _, rfl, Or.inl ⟨tw_880, tw_882⟩⟩
theorem ss_L_law_175 : ab_sV mL_law 175 13 mX12_keep_ 4 := ⟨⟨zc_X12_keep_.1, zc_X12_keep_.2.1, zc_X12_keep_.2.2, by decide, by decide⟩, tw_1384, _, _, _, rfl, Or.inl ⟨tw_1383, tw_1385⟩⟩
theorem ss_L_law_176 : ab_sV mL_law 176 12 mX11_row 3 := ⟨⟨zc_X11_row.1, zc_X11_row.2.1, zc_X11_row.2.2, by decide, by decide⟩, tw_893, _, _, _, rfl, Or.inl ⟨tw_892, tw_894⟩⟩
theorem ss_L_law_179 : ab_sV mL_law 179 13 mX12_row 3 := ⟨⟨zc_X12_row.1, zc_X12_row.2.1, zc_X12_row.2.2, by decide, by decide⟩, tw_1388, _, _, _, rfl, Or.inl ⟨tw_1387, tw_1389⟩⟩
theorem ss_L_law_180 : ab_sV mL_law 180 12 mX11_put 3 := ⟨⟨zc_X11_put.1, zc_X11_put.2.1, zc_X11_put.2.2, by decide, by decide⟩, tw_901, _, _, _, rfl, Or.inl ⟨tw_900, tw_902⟩⟩
theorem ss_L_law_183 : ab_sV mL_law 183 13 mX12_put 3 := ⟨⟨zc_X12_put.1, zc_X12_put.2.1, zc_X12_put.2.2, by decide, by decide⟩, tw_1392, _, _, _, rfl, Or.inl ⟨tw_1391, tw_1393⟩⟩
theorem ss_L_law_189 : ab_sV mL_law 189 13 mX12_element 2 := ⟨⟨zc_X12_element.1, zc_X12_element.2.1, zc_X12_element.2.2, by decide, by decide⟩, tw_1400, _, _, _, rfl, Or.inl ⟨tw_1399, tw_1401⟩⟩
theorem ss_L_law_190 : ab_sV mL_law 190 13 mX12_thrown 0 := ⟨⟨zc_X12_thrown.1, zc_X12_thrown.2.1, zc_X12_thrown.2.2, by decide, by decide⟩, tw_1396, _, _, _, rfl, Or.inl ⟨tw_1395, tw_1397⟩⟩
theorem ss_L_law_193 : ab_sV mL_law 193 12 mX11_copy 5 := ⟨⟨zc_X11_copy.1, zc_X11_copy.2.1, zc_X11_copy.2.2, by decide, by decide⟩, tw_912, _, _, _, rfl, Or.inl ⟨tw_911, tw_913⟩⟩
theorem ss_L_law_197 : ab_sV mL_law 197 13 mX12_copy 5 := ⟨⟨zc_X12_copy.1, zc_X12_copy.2.1, zc_X12_copy.2.2, by decide, by decide⟩, tw_1404, _, _, _, rfl, Or.inl ⟨tw_1403, tw_1405⟩⟩
theorem ss_L_law_198 : ab_sV mL_law 198 12 mX11_cost 1 := ⟨⟨zc_X11_cost.1, zc_X11_cost.2.1, zc_X11_cost.2.2, by decide, by decide⟩, tw_919, _, _, _, rfl, Or.inl ⟨tw_918, tw_920⟩⟩
theorem ss_L_law_201 : ab_sV mL_law 201 13 mX12_cost 1 := ⟨⟨zc_X12_cost.1, zc_X12_cost.2.1, zc_X12_cost.2.2, by decide, by decide⟩, tw_1408, _, _, _, rfl, Or.inl ⟨tw_1407, tw_1409⟩⟩
theorem ss_L_law_205 : ab_sV mL_law 205 13 mX12_toss 1 := ⟨⟨zc_X12_toss.1, zc_X12_toss.2.1, zc_X12_toss.2.2, by decide, by decide⟩, tw_1415, _, _, _, rfl, Or.inl ⟨tw_1414, tw_1416⟩⟩
theorem zf_X0 : ∀ w ∈ u_ws RX0 TX0 1, w ∈ ab_Tg := fun w hw => by
  have e : u_ws RX0 TX0 1 = [u_lay RX0 TX0 0] := rfl
  rw [e] at hw
  simp only [List.mem_cons, List.not_mem_nil, or_false] at hw
  rcases hw with rfl
  exact tw_237
theorem zf_X1 : ∀ w ∈ u_ws RX1 TX1 1, w ∈ ab_Tg := fun w hw => by
  have e : u_ws RX1 TX1 1 = [u_lay RX1 TX1 0] := rfl
  rw [e] at hw
  simp only [List.mem_cons, List.not_mem_nil, or_false] at hw
  rcases hw with rfl
  exact tw_213
theorem zf_X2 : ∀ w ∈ u_ws RX2 TX2 1, w ∈ ab_Tg := fun w hw => by
  have e : u_ws RX2 TX2 1 = [u_lay RX2 TX2 0] := rfl
  rw [e] at hw
  simp only [List.mem_cons, List.not_mem_nil, or_false] at hw
  rcases hw with rfl
  exact tw_205
theorem zf_X3 : ∀ w ∈ u_ws RX3 TX3 1, w ∈ ab_Tg := fun w hw => by
  have e : u_ws RX3 TX3 1 = [u_lay RX3 TX3 0] := rfl
  rw [e] at hw
  simp only [List.mem_cons, List.not_mem_nil, or_false] at hw
  rcases hw with rfl
  exact tw_221
theorem zf_X4 : ∀ w ∈ u_ws RX4 TX4 1, w ∈ ab_Tg := fun w hw => by
  have e : u_ws RX4 TX4 1 = [u_lay RX4 TX4 0] := rfl
  rw [e] at hw
  simp only [List.mem_cons, List.not_mem_nil, or_false] at hw
  rcases hw with rfl
  exact tw_245
theorem zf_X5 : ∀ w ∈ u_ws RX5 TX5 1, w ∈ ab_Tg := fun w hw => by
  have e : u_ws RX5 TX5 1 = [u_lay RX5 TX5 0] := rfl
  rw [e] at hw
  simp only [List.mem_cons, List.not_mem_nil, or_false] at hw
  rcases hw with rfl
  exact tw_229
theorem zf_X6 : ∀ w ∈ u_ws RX6 TX6 1, w ∈ ab_Tg := fun w hw => by
  have e : u_ws RX6 TX6 1 = [u_lay RX6 TX6 0] := rfl
  rw [e] at hw
  simp only [List.mem_cons, List.not_mem_nil, or_false] at hw
  rcases hw with rfl
  exact tw_253
theorem zf_X7 : ∀ w ∈ u_ws RX7 TX7 6, w ∈ ab_Tg := fun w hw => by
  have e : u_ws RX7 TX7 6 = [u_lay RX7 TX7 0, u_lay RX7 TX7 1, u_lay RX7 TX7 2, u_lay RX7 TX7 3, u_lay RX7 TX7 4, u_lay RX7 TX7 5] := rfl
  rw [e] at hw
  simp only [List.mem_cons, List.not_mem_nil, or_false] at hw
  rcases hw with rfl | rfl | rfl | rfl | rfl | rfl
  · exact tw_449
  · exact tw_450
  · exact tw_451
  · exact tw_452
  · exact tw_453
  · exact tw_454
theorem zf_X8 : ∀ w ∈ u_ws RX8 TX8 1, w ∈ ab_Tg := fun w hw => by
  have e : u_ws RX8 TX8 1 = [u_lay RX8 TX8 0] := rfl
  rw [e] at hw
  simp only [List.mem_cons, List.not_mem_nil, or_false] at hw
  rcases hw with rfl
  exact tw_138
theorem zf_X9 : ∀ w ∈ u_ws RX9 TX9 6, w ∈ ab_Tg := fun w hw => by
  have e : u_ws RX9 TX9 6 = [u_lay RX9 TX9 0, u_lay RX9 TX9 1, u_lay RX9 TX9 2, u_lay RX9 TX9 3, u_lay RX9 TX9 4, u_lay RX9 TX9 5] := rfl
  rw [e] at hw
  simp only [List.mem_cons, List.not_mem_nil, or_false] at hw
  rcases hw with rfl | rfl | rfl | rfl | rfl | rfl
  · exact tw_271
  · exact tw_272
  · exact tw_273
  · exact tw_274
  · exact tw_275
  · exact tw_276
theorem zf_X10 : ∀ w ∈ u_ws RX10 TX10 5, w ∈ ab_Tg := fun w hw => by
  have e : u_ws RX10 TX10 5 = [u_lay RX10 TX10 0, u_lay RX10 TX10 1, u_lay RX10 TX10 2, u_lay RX10 TX10 3, u_lay RX10 TX10 4] := rfl
  rw [e] at hw
  simp only [List.mem_cons, List.not_mem_nil, or_false] at hw
  rcases hw with rfl | rfl | rfl | rfl | rfl
  · exact tw_123
  · exact tw_124
  · exact tw_125
  · exact tw_126
  · exact tw_127
theorem zf_X11 : ∀ w ∈ u_ws RX11 TX11 8, w ∈ ab_Tg := fun w hw => by
  have e : u_ws RX11 TX11 8 = [u_lay RX11 TX11 0, u_lay RX11 TX11 1, u_lay RX11 TX11 2, u_lay RX11 TX11 3, u_lay RX11 TX11 4, u_lay RX11 TX11 5, u_lay RX11 TX11 6, u_lay RX11 TX11 7] := rfl
  rw [e] at hw
  simp only [List.mem_cons, List.not_mem_nil, or_false] at hw
  rcases hw with rfl | rfl | rfl | rfl | rfl | rfl | rfl | rfl
  · exact tw_286
  · exact tw_287
  · exact tw_288
  · exact tw_289
  · exact tw_290
  · exact tw_291
  · exact tw_292
  · exact tw_293
theorem zf_X12 : ∀ w ∈ u_ws RX12 TX12 22, w ∈ ab_Tg := fun w hw => by
  have e : u_ws RX12 TX12 22 = [u_lay RX12 TX12 0, u_lay RX12 TX12 1, u_lay RX12 TX12 2, u_lay RX12 TX12 3, u_lay RX12 TX12 4, u_lay RX12 TX12 5, u_lay RX12 TX12 6, u_lay RX12 TX12 7, u_lay RX12 TX12 8, u_lay RX12 TX12 9, u_lay RX12 TX12 10, u_lay RX12 TX12 11, u_lay RX12 TX12 12, u_lay RX12 TX12 13, u_lay RX12 TX12 14, u_lay RX12 TX12 15, u_lay RX12 TX12 16, u_lay RX12 TX12 17, u_lay RX12 TX12 18, u_lay RX12 TX12 19, u_lay RX12 TX12 20, u_lay RX12 TX12 21] := rfl
  rw [e] at hw
  simp only [List.mem_cons, List.not_mem_nil, or_false] at hw
  rcases hw with rfl | rfl | rfl | rfl | rfl | rfl | rfl | rfl | rfl | rfl | rfl | rfl | rfl | rfl | rfl | rfl | rfl | rfl | rfl | rfl | rfl | rfl
  · exact tw_1090
  · exact tw_1091
  · exact tw_1092
  · exact tw_1093
  · exact tw_1094
  · exact tw_1095
  · exact tw_1096
  · exact tw_1097
  · exact tw_1098
  · exact tw_1099
  · exact tw_1100
  · exact tw_1101
  · exact tw_1102
  · exact tw_1103
  · exact tw_1104
  · exact tw_1105
  · exact tw_1106
  · exact tw_1107
  · exact tw_1108
  · exact tw_1109
  · exact tw_1110
  · exact tw_1111
theorem zf_Jx4a65c : ∀ w ∈ u_ws RJx4a65c TJx4a65c 3, w ∈ ab_Tg := fun w hw => by
  have e : u_ws RJx4a65c TJx4a65c 3 = [u_lay RJx4a65c TJx4a65c 0, u_lay RJx4a65c TJx4a65c 1, u_lay RJx4a65c TJx4a65c 2] := rfl
  rw [e] at hw
  simp only [List.mem_cons, List.not_mem_nil, or_false] at hw
  rcases hw with rfl | rfl | rfl
  · exact tw_102
  · exact tw_100
  · exact tw_101
theorem ps_X7_init_7_8 : ab_ps mX7_init 7 8 0 .int := ⟨_, _, _, "WitnessesMustLie$Saying", tyX7, rfl, by decide, zf_X7, tyX7_ok, nmX7, rfl, Or.inl rfl, Or.inl ⟨tw_439, Or.inr ⟨rfl, rfl, rfl⟩⟩⟩
theorem ps_X7_init_13_8 : ab_ps mX7_init 13 8 1 (.object "WitnessesMustLie$Says") := ⟨_, _, _, "WitnessesMustLie$Saying", tyX7, rfl, by decide, zf_X7, tyX7_ok, nmX7, rfl, Or.inl rfl, Or.inl ⟨tw_442, Or.inr ⟨rfl, rfl, rfl⟩⟩⟩
theorem ps_X7_init_17_8 : ab_ps mX7_init 17 8 2 .int := ⟨_, _, _, "WitnessesMustLie$Saying", tyX7, rfl, by decide, zf_X7, tyX7_ok, nmX7, rfl, Or.inl rfl, Or.inl ⟨tw_443, Or.inr ⟨rfl, rfl, rfl⟩⟩⟩
theorem ps_X7_init_20_8 : ab_ps mX7_init 20 8 3 .int := ⟨_, _, _, "WitnessesMustLie$Saying", tyX7, rfl, by decide, zf_X7, tyX7_ok, nmX7, rfl, Or.inl rfl, Or.inl ⟨tw_444, Or.inr ⟨rfl, rfl, rfl⟩⟩⟩
theorem ps_X7_init_23_8 : ab_ps mX7_init 23 8 4 .int := ⟨_, _, _, "WitnessesMustLie$Saying", tyX7, rfl, by decide, zf_X7, tyX7_ok, nmX7, rfl, Or.inl rfl, Or.inl ⟨tw_445, Or.inr ⟨rfl, rfl, rfl⟩⟩⟩
theorem ps_X7_init_26_8 : ab_ps mX7_init 26 8 5 .long := ⟨_, _, _, "WitnessesMustLie$Saying", tyX7, rfl, by decide, zf_X7, tyX7_ok, nmX7, rfl, Or.inl rfl, Or.inl ⟨tw_446, Or.inr ⟨rfl, rfl, rfl⟩⟩⟩
theorem fs_X7_13_8 {M : ab_M} (hM : M.1.cls = RX7) : ab_fs M 13 8 1 := by
  unfold ab_fs
  rw [hM]
  exact ⟨_, _, _, "WitnessesMustLie$Saying", rfl, by decide, zf_X7, Or.inl tw_442, Or.inl rfl⟩
theorem fs_X7_30_1 {M : ab_M} (hM : M.1.cls = RX7) : ab_fs M 30 1 0 := by
  unfold ab_fs
  rw [hM]
  exact ⟨_, _, _, "WitnessesMustLie$Says", rfl, by decide, zf_X0, Or.inr ⟨_, tw_137⟩, Or.inl rfl⟩
theorem fs_X7_30_2 {M : ab_M} (hM : M.1.cls = RX7) : ab_fs M 30 2 0 := by
  unfold ab_fs
  rw [hM]
  exact ⟨_, _, _, "WitnessesMustLie$Says", rfl, by decide, zf_X1, Or.inr ⟨_, tw_137⟩, Or.inl rfl⟩
theorem fs_X7_30_3 {M : ab_M} (hM : M.1.cls = RX7) : ab_fs M 30 3 0 := by
  unfold ab_fs
  rw [hM]
  exact ⟨_, _, _, "WitnessesMustLie$Says", rfl, by decide, zf_X2, Or.inr ⟨_, tw_137⟩, Or.inl rfl⟩
theorem fs_X7_30_4 {M : ab_M} (hM : M.1.cls = RX7) : ab_fs M 30 4 0 := by
  unfold ab_fs
  rw [hM]
  exact ⟨_, _, _, "WitnessesMustLie$Says", rfl, by decide, zf_X3, Or.inr ⟨_, tw_137⟩, Or.inl rfl⟩
theorem fs_X7_30_5 {M : ab_M} (hM : M.1.cls = RX7) : ab_fs M 30 5 0 := by
  unfold ab_fs
  rw [hM]
  exact ⟨_, _, _, "WitnessesMustLie$Says", rfl, by decide, zf_X4, Or.inr ⟨_, tw_137⟩, Or.inl rfl⟩
theorem fs_X7_30_6 {M : ab_M} (hM : M.1.cls = RX7) : ab_fs M 30 6 0 := by
  unfold ab_fs
  rw [hM]
  exact ⟨_, _, _, "WitnessesMustLie$Says", rfl, by decide, zf_X5, Or.inr ⟨_, tw_137⟩, Or.inl rfl⟩
theorem fs_X7_30_7 {M : ab_M} (hM : M.1.cls = RX7) : ab_fs M 30 7 0 := by
  unfold ab_fs
  rw [hM]
  exact ⟨_, _, _, "WitnessesMustLie$Says", rfl, by decide, zf_X6, Or.inr ⟨_, tw_137⟩, Or.inl rfl⟩
theorem fs_X7_30_9 {M : ab_M} (hM : M.1.cls = RX7) : ab_fs M 30 9 0 := by
  unfold ab_fs
  rw [hM]
  exact ⟨_, _, _, "WitnessesMustLie$Says", rfl, by decide, zf_X8, Or.inr ⟨_, tw_137⟩, Or.inl rfl⟩
theorem fs_X7_17_8 {M : ab_M} (hM : M.1.cls = RX7) : ab_fs M 17 8 2 := by
  unfold ab_fs
  rw [hM]
  exact ⟨_, _, _, "WitnessesMustLie$Saying", rfl, by decide, zf_X7, Or.inl tw_443, Or.inl rfl⟩
theorem fs_X7_20_8 {M : ab_M} (hM : M.1.cls = RX7) : ab_fs M 20 8 3 := by
  unfold ab_fs
  rw [hM]
  exact ⟨_, _, _, "WitnessesMustLie$Saying", rfl, by decide, zf_X7, Or.inl tw_444, Or.inl rfl⟩
theorem fs_X7_23_8 {M : ab_M} (hM : M.1.cls = RX7) : ab_fs M 23 8 4 := by
  unfold ab_fs
  rw [hM]
  exact ⟨_, _, _, "WitnessesMustLie$Saying", rfl, by decide, zf_X7, Or.inl tw_445, Or.inl rfl⟩
theorem ps_X8_init_9_1 : ab_ps mX8_init 9 1 0 .int := ⟨_, _, _, "WitnessesMustLie$Says", tyX0, rfl, by decide, zf_X0, tyX0_ok, nmX0, rfl, Or.inl rfl, Or.inl ⟨tw_136, Or.inr ⟨rfl, rfl, rfl⟩⟩⟩
theorem ps_X8_init_9_2 : ab_ps mX8_init 9 2 0 .int := ⟨_, _, _, "WitnessesMustLie$Says", tyX1, rfl, by decide, zf_X1, tyX1_ok, nmX1, rfl, Or.inl rfl, Or.inl ⟨tw_136, Or.inr ⟨rfl, rfl, rfl⟩⟩⟩
theorem ps_X8_init_9_3 : ab_ps mX8_init 9 3 0 .int := ⟨_, _, _, "WitnessesMustLie$Says", tyX2, rfl, by decide, zf_X2, tyX2_ok, nmX2, rfl, Or.inl rfl, Or.inl ⟨tw_136, Or.inr ⟨rfl, rfl, rfl⟩⟩⟩
theorem ps_X8_init_9_4 : ab_ps mX8_init 9 4 0 .int := ⟨_, _, _, "WitnessesMustLie$Says", tyX3, rfl, by decide, zf_X3, tyX3_ok, nmX3, rfl, Or.inl rfl, Or.inl ⟨tw_136, Or.inr ⟨rfl, rfl, rfl⟩⟩⟩
theorem ps_X8_init_9_5 : ab_ps mX8_init 9 5 0 .int := ⟨_, _, _, "WitnessesMustLie$Says", tyX4, rfl, by decide, zf_X4, tyX4_ok, nmX4, rfl, Or.inl rfl, Or.inl ⟨tw_136, Or.inr ⟨rfl, rfl, rfl⟩⟩⟩
theorem ps_X8_init_9_6 : ab_ps mX8_init 9 6 0 .int := ⟨_, _, _, "WitnessesMustLie$Says", tyX5, rfl, by decide, zf_X5, tyX5_ok, nmX5, rfl, Or.inl rfl, Or.inl ⟨tw_136, Or.inr ⟨rfl, rfl, rfl⟩⟩⟩
theorem ps_X8_init_9_7 : ab_ps mX8_init 9 7 0 .int := ⟨_, _, _, "WitnessesMustLie$Says", tyX6, rfl, by decide, zf_X6, tyX6_ok, nmX6, rfl, Or.inl rfl, Or.inl ⟨tw_136, Or.inr ⟨rfl, rfl, rfl⟩⟩⟩
theorem ps_X8_init_9_9 : ab_ps mX8_init 9 9 0 .int := ⟨_, _, _, "WitnessesMustLie$Says", tyX8, rfl, by decide, zf_X8, tyX8_ok, nmX8, rfl, Or.inl rfl, Or.inl ⟨tw_136, Or.inr ⟨rfl, rfl, rfl⟩⟩⟩
theorem ps_X9_init_9_10 : ab_ps mX9_init 9 10 0 (.array .int) := ⟨_, _, _, "WitnessesMustLie$Shelf", tyX9, rfl, by decide, zf_X9, tyX9_ok, nmX9, rfl, Or.inl rfl, Or.inl ⟨tw_260, Or.inr ⟨rfl, rfl, rfl⟩⟩⟩
theorem ps_X9_init_15_10 : ab_ps mX9_init 15 10 2 (.object "WitnessesMustLie$Says") := ⟨_, _, _, "WitnessesMustLie$Shelf", tyX9, rfl, by decide, zf_X9, tyX9_ok, nmX9, rfl, Or.inl rfl, Or.inl ⟨tw_263, Or.inl rfl⟩⟩
theorem ps_X9_holdNothing_19_10 : ab_ps mX9_holdNothing 19 10 1 .int := ⟨_, _, _, "WitnessesMustLie$Shelf", tyX9, rfl, by decide, zf_X9, tyX9_ok, nmX9, rfl, Or.inl rfl, Or.inl ⟨tw_262, Or.inl rfl⟩⟩
theorem ps_X9_holdSaying_19_10 : ab_ps mX9_holdSaying 19 10 1 .int := ⟨_, _, _, "WitnessesMustLie$Shelf", tyX9, rfl, by decide, zf_X9, tyX9_ok, nmX9, rfl, Or.inl rfl, Or.inl ⟨tw_262, Or.inl rfl⟩⟩
theorem ps_X9_holdSaying_15_10 : ab_ps mX9_holdSaying 15 10 2 (.object "WitnessesMustLie$Says") := ⟨_, _, _, "WitnessesMustLie$Shelf", tyX9, rfl, by decide, zf_X9, tyX9_ok, nmX9, rfl, Or.inl rfl, Or.inl ⟨tw_263, Or.inl rfl⟩⟩
theorem ps_X9_holdSaying_23_10 : ab_ps mX9_holdSaying 23 10 3 .int := ⟨_, _, _, "WitnessesMustLie$Shelf", tyX9, rfl, by decide, zf_X9, tyX9_ok, nmX9, rfl, Or.inl rfl, Or.inl ⟨tw_265, Or.inl rfl⟩⟩
theorem ps_X9_holdRow_19_10 : ab_ps mX9_holdRow 19 10 1 .int := ⟨_, _, _, "WitnessesMustLie$Shelf", tyX9, rfl, by decide, zf_X9, tyX9_ok, nmX9, rfl, Or.inl rfl, Or.inl ⟨tw_262, Or.inl rfl⟩⟩
theorem ps_X9_holdRow_26_10 : ab_ps mX9_holdRow 26 10 4 .int := ⟨_, _, _, "WitnessesMustLie$Shelf", tyX9, rfl, by decide, zf_X9, tyX9_ok, nmX9, rfl, Or.inl rfl, Or.inl ⟨tw_268, Or.inl rfl⟩⟩
theorem ps_X9_holdRow_29_10 : ab_ps mX9_holdRow 29 10 5 .int := ⟨_, _, _, "WitnessesMustLie$Shelf", tyX9, rfl, by decide, zf_X9, tyX9_ok, nmX9, rfl, Or.inl rfl, Or.inl ⟨tw_269, Or.inl rfl⟩⟩
theorem fs_X9_9_10 {M : ab_M} (hM : M.1.cls = RX9) : ab_fs M 9 10 0 := by
  unfold ab_fs
  rw [hM]
  exact ⟨_, _, _, "WitnessesMustLie$Shelf", rfl, by decide, zf_X9, Or.inl tw_260, Or.inl rfl⟩
theorem fs_X9_19_10 {M : ab_M} (hM : M.1.cls = RX9) : ab_fs M 19 10 1 := by
  unfold ab_fs
  rw [hM]
  exact ⟨_, _, _, "WitnessesMustLie$Shelf", rfl, by decide, zf_X9, Or.inl tw_262, Or.inl rfl⟩
theorem fs_X9_15_10 {M : ab_M} (hM : M.1.cls = RX9) : ab_fs M 15 10 2 := by
  unfold ab_fs
  rw [hM]
  exact ⟨_, _, _, "WitnessesMustLie$Shelf", rfl, by decide, zf_X9, Or.inl tw_263, Or.inl rfl⟩
theorem fs_X9_23_10 {M : ab_M} (hM : M.1.cls = RX9) : ab_fs M 23 10 3 := by
  unfold ab_fs
  rw [hM]
  exact ⟨_, _, _, "WitnessesMustLie$Shelf", rfl, by decide, zf_X9, Or.inl tw_265, Or.inl rfl⟩
theorem fs_X9_29_10 {M : ab_M} (hM : M.1.cls = RX9) : ab_fs M 29 10 5 := by
  unfold ab_fs
  rw [hM]
  exact ⟨_, _, _, "WitnessesMustLie$Shelf", rfl, by decide, zf_X9, Or.inl tw_269, Or.inl rfl⟩
theorem fs_X9_26_10 {M : ab_M} (hM : M.1.cls = RX9) : ab_fs M 26 10 4 := by
  unfold ab_fs
  rw [hM]
  exact ⟨_, _, _, "WitnessesMustLie$Shelf", rfl, by decide, zf_X9, Or.inl tw_268, Or.inl rfl⟩
theorem ps_X10_init_12_11 : ab_ps mX10_init 12 11 0 (.object "java/util/ArrayList") := ⟨_, _, _, "WitnessesMustLie$Trial", tyX10, rfl, by decide, zf_X10, tyX10_ok, nmX10, rfl, Or.inl rfl, Or.inl ⟨tw_114, Or.inr ⟨rfl, rfl, rfl⟩⟩⟩
theorem ps_X10_init_18_11 : ab_ps mX10_init 18 11 1 (.object "java/util/ArrayList") := ⟨_, _, _, "WitnessesMustLie$Trial", tyX10, rfl, by decide, zf_X10, tyX10_ok, nmX10, rfl, Or.inl rfl, Or.inl ⟨tw_116, Or.inr ⟨rfl, rfl, rfl⟩⟩⟩
theorem ps_X10_init_21_11 : ab_ps mX10_init 21 11 2 (.array .int) := ⟨_, _, _, "WitnessesMustLie$Trial", tyX10, rfl, by decide, zf_X10, tyX10_ok, nmX10, rfl, Or.inl rfl, Or.inl ⟨tw_118, Or.inr ⟨rfl, rfl, rfl⟩⟩⟩
theorem fs_X10_12_11 {M : ab_M} (hM : M.1.cls = RX10) : ab_fs M 12 11 0 := by
  unfold ab_fs
  rw [hM]
  exact ⟨_, _, _, "WitnessesMustLie$Trial", rfl, by decide, zf_X10, Or.inl tw_114, Or.inl rfl⟩
theorem fs_X10_18_11 {M : ab_M} (hM : M.1.cls = RX10) : ab_fs M 18 11 1 := by
  unfold ab_fs
  rw [hM]
  exact ⟨_, _, _, "WitnessesMustLie$Trial", rfl, by decide, zf_X10, Or.inl tw_116, Or.inl rfl⟩
theorem fs_X10_21_11 {M : ab_M} (hM : M.1.cls = RX10) : ab_fs M 21 11 2 := by
  unfold ab_fs
  rw [hM]
  exact ⟨_, _, _, "WitnessesMustLie$Trial", rfl, by decide, zf_X10, Or.inl tw_118, Or.inl rfl⟩
theorem fs_X10_33_11 {M : ab_M} (hM : M.1.cls = RX10) : ab_fs M 33 11 3 := by
  unfold ab_fs
  rw [hM]
  exact ⟨_, _, _, "WitnessesMustLie$Trial", rfl, by decide, zf_X10, Or.inl tw_119, Or.inl rfl⟩
theorem ps_X10_becomes_33_11 : ab_ps mX10_becomes 33 11 3 .int := ⟨_, _, _, "WitnessesMustLie$Trial", tyX10, rfl, by decide, zf_X10, tyX10_ok, nmX10, rfl, Or.inl rfl, Or.inl ⟨tw_119, Or.inl rfl⟩⟩
theorem fs_X10_37_11 {M : ab_M} (hM : M.1.cls = RX10) : ab_fs M 37 11 4 := by
  unfold ab_fs
  rw [hM]
  exact ⟨_, _, _, "WitnessesMustLie$Trial", rfl, by decide, zf_X10, Or.inl tw_121, Or.inl rfl⟩
theorem ps_X10_becomes_37_11 : ab_ps mX10_becomes 37 11 4 .int := ⟨_, _, _, "WitnessesMustLie$Trial", tyX10, rfl, by decide, zf_X10, tyX10_ok, nmX10, rfl, Or.inl rfl, Or.inl ⟨tw_121, Or.inl rfl⟩⟩
theorem fs_X10_57_8 {M : ab_M} (hM : M.1.cls = RX10) : ab_fs M 57 8 0 := by
  unfold ab_fs
  rw [hM]
  exact ⟨_, _, _, "WitnessesMustLie$Saying", rfl, by decide, zf_X7, Or.inr ⟨_, tw_441⟩, Or.inl rfl⟩
theorem ps_X10_addWitness_33_11 : ab_ps mX10_addWitness 33 11 3 .int := ⟨_, _, _, "WitnessesMustLie$Trial", tyX10, rfl, by decide, zf_X10, tyX10_ok, nmX10, rfl, Or.inl rfl, Or.inl ⟨tw_119, Or.inl rfl⟩⟩
theorem ps_X10_setTruth_37_11 : ab_ps mX10_setTruth 37 11 4 .int := ⟨_, _, _, "WitnessesMustLie$Trial", tyX10, rfl, by decide, zf_X10, tyX10_ok, nmX10, rfl, Or.inl rfl, Or.inl ⟨tw_121, Or.inl rfl⟩⟩
theorem fs_X10_72_8 {M : ab_M} (hM : M.1.cls = RX10) : ab_fs M 72 8 5 := by
  unfold ab_fs
  rw [hM]
  exact ⟨_, _, _, "WitnessesMustLie$Saying", rfl, by decide, zf_X7, Or.inr ⟨_, tw_448⟩, Or.inl rfl⟩
theorem ps_X11_init_12_12 : ab_ps mX11_init 12 12 0 (.object "java/util/ArrayList") := ⟨_, _, _, "WitnessesMustLie", tyX11, rfl, by decide, zf_X11, tyX11_ok, nmX11, rfl, Or.inl rfl, Or.inl ⟨tw_278, Or.inr ⟨rfl, rfl, rfl⟩⟩⟩
theorem ps_X11_init_18_12 : ab_ps mX11_init 18 12 1 (.array (.object "WitnessesMustLie$Shelf")) := ⟨_, _, _, "WitnessesMustLie", tyX11, rfl, by decide, zf_X11, tyX11_ok, nmX11, rfl, Or.inl rfl, Or.inl ⟨tw_279, Or.inr ⟨rfl, rfl, rfl⟩⟩⟩
theorem ps_X11_init_25_12 : ab_ps mX11_init 25 12 2 (.object "WitnessesMustLie$Trial") := ⟨_, _, _, "WitnessesMustLie", tyX11, rfl, by decide, zf_X11, tyX11_ok, nmX11, rfl, Or.inl rfl, Or.inl ⟨tw_280, Or.inr ⟨rfl, rfl, rfl⟩⟩⟩
theorem ps_X11_init_29_12 : ab_ps mX11_init 29 12 3 (.object "WitnessesMustLie$Trial") := ⟨_, _, _, "WitnessesMustLie", tyX11, rfl, by decide, zf_X11, tyX11_ok, nmX11, rfl, Or.inl rfl, Or.inl ⟨tw_281, Or.inr ⟨rfl, rfl, rfl⟩⟩⟩
theorem ps_X11_init_32_12 : ab_ps mX11_init 32 12 4 (.object "WitnessesMustLie$Trial") := ⟨_, _, _, "WitnessesMustLie", tyX11, rfl, by decide, zf_X11, tyX11_ok, nmX11, rfl, Or.inl rfl, Or.inl ⟨tw_282, Or.inr ⟨rfl, rfl, rfl⟩⟩⟩
theorem ps_X11_init_35_12 : ab_ps mX11_init 35 12 6 (.array .long) := ⟨_, _, _, "WitnessesMustLie", tyX11, rfl, by decide, zf_X11, tyX11_ok, nmX11, rfl, Or.inl rfl, Or.inl ⟨tw_284, Or.inr ⟨rfl, rfl, rfl⟩⟩⟩
theorem ps_X11_init_39_12 : ab_ps mX11_init 39 12 7 (.array .long) := ⟨_, _, _, "WitnessesMustLie", tyX11, rfl, by decide, zf_X11, tyX11_ok, nmX11, rfl, Or.inl rfl, Or.inl ⟨tw_285, Or.inr ⟨rfl, rfl, rfl⟩⟩⟩
theorem fs_X11_12_12 {M : ab_M} (hM : M.1.cls = RX11) : ab_fs M 12 12 0 := by
  unfold ab_fs
  rw [hM]
  exact ⟨_, _, _, "WitnessesMustLie", rfl, by decide, zf_X11, Or.inl tw_278, Or.inl rfl⟩
theorem fs_X11_18_12 {M : ab_M} (hM : M.1.cls = RX11) : ab_fs M 18 12 1 := by
  unfold ab_fs
  rw [hM]
  exact ⟨_, _, _, "WitnessesMustLie", rfl, by decide, zf_X11, Or.inl tw_279, Or.inl rfl⟩
theorem fs_X11_83_10 {M : ab_M} (hM : M.1.cls = RX11) : ab_fs M 83 10 4 := by
  unfold ab_fs
  rw [hM]
  exact ⟨_, _, _, "WitnessesMustLie$Shelf", rfl, by decide, zf_X9, Or.inr ⟨_, tw_267⟩, Or.inl rfl⟩
theorem fs_X11_25_12 {M : ab_M} (hM : M.1.cls = RX11) : ab_fs M 25 12 2 := by
  unfold ab_fs
  rw [hM]
  exact ⟨_, _, _, "WitnessesMustLie", rfl, by decide, zf_X11, Or.inl tw_280, Or.inl rfl⟩
theorem fs_X11_94_11 {M : ab_M} (hM : M.1.cls = RX11) : ab_fs M 94 11 0 := by
  unfold ab_fs
  rw [hM]
  exact ⟨_, _, _, "WitnessesMustLie$Trial", rfl, by decide, zf_X10, Or.inr ⟨_, tw_115⟩, Or.inl rfl⟩
theorem fs_X11_107_11 {M : ab_M} (hM : M.1.cls = RX11) : ab_fs M 107 11 1 := by
  unfold ab_fs
  rw [hM]
  exact ⟨_, _, _, "WitnessesMustLie$Trial", rfl, by decide, zf_X10, Or.inr ⟨_, tw_117⟩, Or.inl rfl⟩
theorem fs_X11_110_8 {M : ab_M} (hM : M.1.cls = RX11) : ab_fs M 110 8 5 := by
  unfold ab_fs
  rw [hM]
  exact ⟨_, _, _, "WitnessesMustLie$Saying", rfl, by decide, zf_X7, Or.inr ⟨_, tw_447⟩, Or.inl rfl⟩
theorem fs_X11_114_11 {M : ab_M} (hM : M.1.cls = RX11) : ab_fs M 114 11 4 := by
  unfold ab_fs
  rw [hM]
  exact ⟨_, _, _, "WitnessesMustLie$Trial", rfl, by decide, zf_X10, Or.inr ⟨_, tw_122⟩, Or.inl rfl⟩
theorem fs_X11_125_8 {M : ab_M} (hM : M.1.cls = RX11) : ab_fs M 125 8 0 := by
  unfold ab_fs
  rw [hM]
  exact ⟨_, _, _, "WitnessesMustLie$Saying", rfl, by decide, zf_X7, Or.inr ⟨_, tw_440⟩, Or.inl rfl⟩
theorem fs_X11_148_10 {M : ab_M} (hM : M.1.cls = RX11) : ab_fs M 148 10 2 := by
  unfold ab_fs
  rw [hM]
  exact ⟨_, _, _, "WitnessesMustLie$Shelf", rfl, by decide, zf_X9, Or.inr ⟨_, tw_264⟩, Or.inl rfl⟩
theorem fs_X11_152_10 {M : ab_M} (hM : M.1.cls = RX11) : ab_fs M 152 10 3 := by
  unfold ab_fs
  rw [hM]
  exact ⟨_, _, _, "WitnessesMustLie$Shelf", rfl, by decide, zf_X9, Or.inr ⟨_, tw_266⟩, Or.inl rfl⟩
theorem fs_X11_179_11 {M : ab_M} (hM : M.1.cls = RX11) : ab_fs M 179 11 3 := by
  unfold ab_fs
  rw [hM]
  exact ⟨_, _, _, "WitnessesMustLie$Trial", rfl, by decide, zf_X10, Or.inr ⟨_, tw_120⟩, Or.inl rfl⟩
theorem ps_X11_truth_114_11 : ab_ps mX11_truth 114 11 4 .int := ⟨_, _, _, "WitnessesMustLie$Trial", tyX10, rfl, by decide, zf_X10, tyX10_ok, nmX10, rfl, Or.inl rfl, Or.inr ⟨⟨_, tw_122⟩, rfl⟩⟩
theorem fs_X11_35_12 {M : ab_M} (hM : M.1.cls = RX11) : ab_fs M 35 12 6 := by
  unfold ab_fs
  rw [hM]
  exact ⟨_, _, _, "WitnessesMustLie", rfl, by decide, zf_X11, Or.inl tw_284, Or.inl rfl⟩
theorem fs_X11_39_12 {M : ab_M} (hM : M.1.cls = RX11) : ab_fs M 39 12 7 := by
  unfold ab_fs
  rw [hM]
  exact ⟨_, _, _, "WitnessesMustLie", rfl, by decide, zf_X11, Or.inl tw_285, Or.inl rfl⟩
theorem fs_X11_304_10 {M : ab_M} (hM : M.1.cls = RX11) : ab_fs M 304 10 5 := by
  unfold ab_fs
  rw [hM]
  exact ⟨_, _, _, "WitnessesMustLie$Shelf", rfl, by decide, zf_X9, Or.inr ⟨_, tw_270⟩, Or.inl rfl⟩
theorem fs_X11_29_12 {M : ab_M} (hM : M.1.cls = RX11) : ab_fs M 29 12 3 := by
  unfold ab_fs
  rw [hM]
  exact ⟨_, _, _, "WitnessesMustLie", rfl, by decide, zf_X11, Or.inl tw_281, Or.inl rfl⟩
theorem ps_X11_image_327_12 : ab_ps mX11_image 327 12 5 .boolean := ⟨_, _, _, "WitnessesMustLie", tyX11, rfl, by decide, zf_X11, tyX11_ok, nmX11, rfl, Or.inl rfl, Or.inl ⟨tw_283, Or.inl rfl⟩⟩
theorem fs_X11_327_12 {M : ab_M} (hM : M.1.cls = RX11) : ab_fs M 327 12 5 := by
  unfold ab_fs
  rw [hM]
  exact ⟨_, _, _, "WitnessesMustLie", rfl, by decide, zf_X11, Or.inl tw_283, Or.inl rfl⟩
theorem fs_X11_372_10 {M : ab_M} (hM : M.1.cls = RX11) : ab_fs M 372 10 0 := by
  unfold ab_fs
  rw [hM]
  exact ⟨_, _, _, "WitnessesMustLie$Shelf", rfl, by decide, zf_X9, Or.inr ⟨_, tw_261⟩, Or.inl rfl⟩
theorem fs_X11_32_12 {M : ab_M} (hM : M.1.cls = RX11) : ab_fs M 32 12 4 := by
  unfold ab_fs
  rw [hM]
  exact ⟨_, _, _, "WitnessesMustLie", rfl, by decide, zf_X11, Or.inl tw_282, Or.inl rfl⟩
theorem ps_X12_init_7_13 : ab_ps mX12_init 7 13 2 (.array .int) := ⟨_, _, _, "WitnessesMustLieModel", tyX12, rfl, by decide, zf_X12, tyX12_ok, nmX12, rfl, Or.inl rfl, Or.inl ⟨tw_1071, Or.inr ⟨rfl, rfl, rfl⟩⟩⟩
theorem ps_X12_init_13_13 : ab_ps mX12_init 13 13 4 (.array .int) := ⟨_, _, _, "WitnessesMustLieModel", tyX12, rfl, by decide, zf_X12, tyX12_ok, nmX12, rfl, Or.inl rfl, Or.inl ⟨tw_1073, Or.inr ⟨rfl, rfl, rfl⟩⟩⟩
theorem ps_X12_init_16_13 : ab_ps mX12_init 16 13 6 (.array .int) := ⟨_, _, _, "WitnessesMustLieModel", tyX12, rfl, by decide, zf_X12, tyX12_ok, nmX12, rfl, Or.inl rfl, Or.inl ⟨tw_1075, Or.inr ⟨rfl, rfl, rfl⟩⟩⟩
theorem ps_X12_init_19_13 : ab_ps mX12_init 19 13 7 (.array .int) := ⟨_, _, _, "WitnessesMustLieModel", tyX12, rfl, by decide, zf_X12, tyX12_ok, nmX12, rfl, Or.inl rfl, Or.inl ⟨tw_1076, Or.inr ⟨rfl, rfl, rfl⟩⟩⟩
theorem ps_X12_init_22_13 : ab_ps mX12_init 22 13 8 (.array .int) := ⟨_, _, _, "WitnessesMustLieModel", tyX12, rfl, by decide, zf_X12, tyX12_ok, nmX12, rfl, Or.inl rfl, Or.inl ⟨tw_1077, Or.inr ⟨rfl, rfl, rfl⟩⟩⟩
theorem ps_X12_init_25_13 : ab_ps mX12_init 25 13 9 (.array .int) := ⟨_, _, _, "WitnessesMustLieModel", tyX12, rfl, by decide, zf_X12, tyX12_ok, nmX12, rfl, Or.inl rfl, Or.inl ⟨tw_1078, Or.inr ⟨rfl, rfl, rfl⟩⟩⟩
theorem ps_X12_init_28_13 : ab_ps mX12_init 28 13 10 (.array .int) := ⟨_, _, _, "WitnessesMustLieModel", tyX12, rfl, by decide, zf_X12, tyX12_ok, nmX12, rfl, Or.inl rfl, Or.inl ⟨tw_1079, Or.inr ⟨rfl, rfl, rfl⟩⟩⟩
theorem ps_X12_init_31_13 : ab_ps mX12_init 31 13 11 (.array .int) := ⟨_, _, _, "WitnessesMustLieModel", tyX12, rfl, by decide, zf_X12, tyX12_ok, nmX12, rfl, Or.inl rfl, Or.inl ⟨tw_1080, Or.inr ⟨rfl, rfl, rfl⟩⟩⟩
theorem ps_X12_init_34_13 : ab_ps mX12_init 34 13 14 (.array .int) := ⟨_, _, _, "WitnessesMustLieModel", tyX12, rfl, by decide, zf_X12, tyX12_ok, nmX12, rfl, Or.inl rfl, Or.inl ⟨tw_1083, Or.inr ⟨rfl, rfl, rfl⟩⟩⟩
theorem ps_X12_init_37_13 : ab_ps mX12_init 37 13 16 (.array .int) := ⟨_, _, _, "WitnessesMustLieModel", tyX12, rfl, by decide, zf_X12, tyX12_ok, nmX12, rfl, Or.inl rfl, Or.inl ⟨tw_1085, Or.inr ⟨rfl, rfl, rfl⟩⟩⟩
theorem ps_X12_init_40_13 : ab_ps mX12_init 40 13 17 (.array .int) := ⟨_, _, _, "WitnessesMustLieModel", tyX12, rfl, by decide, zf_X12, tyX12_ok, nmX12, rfl, Or.inl rfl, Or.inl ⟨tw_1086, Or.inr ⟨rfl, rfl, rfl⟩⟩⟩
theorem fs_X12_47_13 {M : ab_M} (hM : M.1.cls = RX12) : ab_fs M 47 13 3 := by
  unfold ab_fs
  rw [hM]
  exact ⟨_, _, _, "WitnessesMustLieModel", rfl, by decide, zf_X12, Or.inl tw_1072, Or.inl rfl⟩
theorem fs_X12_51_13 {M : ab_M} (hM : M.1.cls = RX12) : ab_fs M 51 13 5 := by
  unfold ab_fs
  rw [hM]
  exact ⟨_, _, _, "WitnessesMustLieModel", rfl, by decide, zf_X12, Or.inl tw_1074, Or.inl rfl⟩
theorem fs_X12_16_13 {M : ab_M} (hM : M.1.cls = RX12) : ab_fs M 16 13 6 := by
  unfold ab_fs
  rw [hM]
  exact ⟨_, _, _, "WitnessesMustLieModel", rfl, by decide, zf_X12, Or.inl tw_1075, Or.inl rfl⟩
theorem fs_X12_61_13 {M : ab_M} (hM : M.1.cls = RX12) : ab_fs M 61 13 0 := by
  unfold ab_fs
  rw [hM]
  exact ⟨_, _, _, "WitnessesMustLieModel", rfl, by decide, zf_X12, Or.inl tw_1069, Or.inl rfl⟩
theorem fs_X12_71_13 {M : ab_M} (hM : M.1.cls = RX12) : ab_fs M 71 13 13 := by
  unfold ab_fs
  rw [hM]
  exact ⟨_, _, _, "WitnessesMustLieModel", rfl, by decide, zf_X12, Or.inl tw_1082, Or.inl rfl⟩
theorem fs_X12_28_13 {M : ab_M} (hM : M.1.cls = RX12) : ab_fs M 28 13 10 := by
  unfold ab_fs
  rw [hM]
  exact ⟨_, _, _, "WitnessesMustLieModel", rfl, by decide, zf_X12, Or.inl tw_1079, Or.inl rfl⟩
theorem fs_X12_74_13 {M : ab_M} (hM : M.1.cls = RX12) : ab_fs M 74 13 12 := by
  unfold ab_fs
  rw [hM]
  exact ⟨_, _, _, "WitnessesMustLieModel", rfl, by decide, zf_X12, Or.inl tw_1081, Or.inl rfl⟩
theorem fs_X12_31_13 {M : ab_M} (hM : M.1.cls = RX12) : ab_fs M 31 13 11 := by
  unfold ab_fs
  rw [hM]
  exact ⟨_, _, _, "WitnessesMustLieModel", rfl, by decide, zf_X12, Or.inl tw_1080, Or.inl rfl⟩
theorem ps_X12_is_71_13 : ab_ps mX12_is 71 13 13 .int := ⟨_, _, _, "WitnessesMustLieModel", tyX12, rfl, by decide, zf_X12, tyX12_ok, nmX12, rfl, Or.inl rfl, Or.inl ⟨tw_1082, Or.inl rfl⟩⟩
theorem fs_X12_34_13 {M : ab_M} (hM : M.1.cls = RX12) : ab_fs M 34 13 14 := by
  unfold ab_fs
  rw [hM]
  exact ⟨_, _, _, "WitnessesMustLieModel", rfl, by decide, zf_X12, Or.inl tw_1083, Or.inl rfl⟩
theorem ps_X12_digits_71_13 : ab_ps mX12_digits 71 13 13 .int := ⟨_, _, _, "WitnessesMustLieModel", tyX12, rfl, by decide, zf_X12, tyX12_ok, nmX12, rfl, Or.inl rfl, Or.inl ⟨tw_1082, Or.inl rfl⟩⟩
theorem fs_X12_94_13 {M : ab_M} (hM : M.1.cls = RX12) : ab_fs M 94 13 1 := by
  unfold ab_fs
  rw [hM]
  exact ⟨_, _, _, "WitnessesMustLieModel", rfl, by decide, zf_X12, Or.inl tw_1070, Or.inl rfl⟩
theorem fs_X12_7_13 {M : ab_M} (hM : M.1.cls = RX12) : ab_fs M 7 13 2 := by
  unfold ab_fs
  rw [hM]
  exact ⟨_, _, _, "WitnessesMustLieModel", rfl, by decide, zf_X12, Or.inl tw_1071, Or.inl rfl⟩
theorem ps_X12_statement_94_13 : ab_ps mX12_statement 94 13 1 .int := ⟨_, _, _, "WitnessesMustLieModel", tyX12, rfl, by decide, zf_X12, tyX12_ok, nmX12, rfl, Or.inl rfl, Or.inl ⟨tw_1070, Or.inl rfl⟩⟩
theorem fs_X12_13_13 {M : ab_M} (hM : M.1.cls = RX12) : ab_fs M 13 13 4 := by
  unfold ab_fs
  rw [hM]
  exact ⟨_, _, _, "WitnessesMustLieModel", rfl, by decide, zf_X12, Or.inl tw_1073, Or.inl rfl⟩
theorem ps_X12_statement_47_13 : ab_ps mX12_statement 47 13 3 .int := ⟨_, _, _, "WitnessesMustLieModel", tyX12, rfl, by decide, zf_X12, tyX12_ok, nmX12, rfl, Or.inl rfl, Or.inl ⟨tw_1072, Or.inl rfl⟩⟩
theorem ps_X12_statement_61_13 : ab_ps mX12_statement 61 13 0 .int := ⟨_, _, _, "WitnessesMustLieModel", tyX12, rfl, by decide, zf_X12, tyX12_ok, nmX12, rfl, Or.inl rfl, Or.inl ⟨tw_1069, Or.inl rfl⟩⟩
theorem fs_X12_19_13 {M : ab_M} (hM : M.1.cls = RX12) : ab_fs M 19 13 7 := by
  unfold ab_fs
  rw [hM]
  exact ⟨_, _, _, "WitnessesMustLieModel", rfl, by decide, zf_X12, Or.inl tw_1076, Or.inl rfl⟩
theorem ps_X12_statement_51_13 : ab_ps mX12_statement 51 13 5 .int := ⟨_, _, _, "WitnessesMustLieModel", tyX12, rfl, by decide, zf_X12, tyX12_ok, nmX12, rfl, Or.inl rfl, Or.inl ⟨tw_1074, Or.inl rfl⟩⟩
theorem fs_X12_22_13 {M : ab_M} (hM : M.1.cls = RX12) : ab_fs M 22 13 8 := by
  unfold ab_fs
  rw [hM]
  exact ⟨_, _, _, "WitnessesMustLieModel", rfl, by decide, zf_X12, Or.inl tw_1077, Or.inl rfl⟩
theorem fs_X12_25_13 {M : ab_M} (hM : M.1.cls = RX12) : ab_fs M 25 13 9 := by
  unfold ab_fs
  rw [hM]
  exact ⟨_, _, _, "WitnessesMustLieModel", rfl, by decide, zf_X12, Or.inl tw_1078, Or.inl rfl⟩
theorem ps_X12_trial_74_13 : ab_ps mX12_trial 74 13 12 .int := ⟨_, _, _, "WitnessesMustLieModel", tyX12, rfl, by decide, zf_X12, tyX12_ok, nmX12, rfl, Or.inl rfl, Or.inl ⟨tw_1081, Or.inl rfl⟩⟩
theorem ps_X12_trial_71_13 : ab_ps mX12_trial 71 13 13 .int := ⟨_, _, _, "WitnessesMustLieModel", tyX12, rfl, by decide, zf_X12, tyX12_ok, nmX12, rfl, Or.inl rfl, Or.inl ⟨tw_1082, Or.inl rfl⟩⟩
theorem fs_X12_40_13 {M : ab_M} (hM : M.1.cls = RX12) : ab_fs M 40 13 17 := by
  unfold ab_fs
  rw [hM]
  exact ⟨_, _, _, "WitnessesMustLieModel", rfl, by decide, zf_X12, Or.inl tw_1086, Or.inl rfl⟩
theorem ps_X12_rules_94_13 : ab_ps mX12_rules 94 13 1 .int := ⟨_, _, _, "WitnessesMustLieModel", tyX12, rfl, by decide, zf_X12, tyX12_ok, nmX12, rfl, Or.inl rfl, Or.inl ⟨tw_1070, Or.inl rfl⟩⟩
theorem ps_X12_says_51_13 : ab_ps mX12_says 51 13 5 .int := ⟨_, _, _, "WitnessesMustLieModel", tyX12, rfl, by decide, zf_X12, tyX12_ok, nmX12, rfl, Or.inl rfl, Or.inl ⟨tw_1074, Or.inl rfl⟩⟩
theorem ps_X12_unsays_51_13 : ab_ps mX12_unsays 51 13 5 .int := ⟨_, _, _, "WitnessesMustLieModel", tyX12, rfl, by decide, zf_X12, tyX12_ok, nmX12, rfl, Or.inl rfl, Or.inl ⟨tw_1074, Or.inl rfl⟩⟩
theorem ps_X12_witness_47_13 : ab_ps mX12_witness 47 13 3 .int := ⟨_, _, _, "WitnessesMustLieModel", tyX12, rfl, by decide, zf_X12, tyX12_ok, nmX12, rfl, Or.inl rfl, Or.inl ⟨tw_1072, Or.inl rfl⟩⟩
theorem ps_X12_truth_61_13 : ab_ps mX12_truth 61 13 0 .int := ⟨_, _, _, "WitnessesMustLieModel", tyX12, rfl, by decide, zf_X12, tyX12_ok, nmX12, rfl, Or.inl rfl, Or.inl ⟨tw_1069, Or.inl rfl⟩⟩
theorem fs_X12_206_13 {M : ab_M} (hM : M.1.cls = RX12) : ab_fs M 206 13 18 := by
  unfold ab_fs
  rw [hM]
  exact ⟨_, _, _, "WitnessesMustLieModel", rfl, by decide, zf_X12, Or.inl tw_1087, Or.inl rfl⟩
theorem fs_X12_210_13 {M : ab_M} (hM : M.1.cls = RX12) : ab_fs M 210 13 19 := by
  unfold ab_fs
  rw [hM]
  exact ⟨_, _, _, "WitnessesMustLieModel", rfl, by decide, zf_X12, Or.inl tw_1088, Or.inl rfl⟩
theorem ps_X12_pencils_206_13 : ab_ps mX12_pencils 206 13 18 .long := ⟨_, _, _, "WitnessesMustLieModel", tyX12, rfl, by decide, zf_X12, tyX12_ok, nmX12, rfl, Or.inl rfl, Or.inl ⟨tw_1087, Or.inl rfl⟩⟩
theorem ps_X12_pencils_210_13 : ab_ps mX12_pencils 210 13 19 .long := ⟨_, _, _, "WitnessesMustLieModel", tyX12, rfl, by decide, zf_X12, tyX12_ok, nmX12, rfl, Or.inl rfl, Or.inl ⟨tw_1088, Or.inl rfl⟩⟩
theorem ps_X12_seeds_51_13 : ab_ps mX12_seeds 51 13 5 .int := ⟨_, _, _, "WitnessesMustLieModel", tyX12, rfl, by decide, zf_X12, tyX12_ok, nmX12, rfl, Or.inl rfl, Or.inl ⟨tw_1074, Or.inl rfl⟩⟩
theorem ps_X12_again_94_13 : ab_ps mX12_again 94 13 1 .int := ⟨_, _, _, "WitnessesMustLieModel", tyX12, rfl, by decide, zf_X12, tyX12_ok, nmX12, rfl, Or.inl rfl, Or.inl ⟨tw_1070, Or.inl rfl⟩⟩
theorem ps_X12_again_47_13 : ab_ps mX12_again 47 13 3 .int := ⟨_, _, _, "WitnessesMustLieModel", tyX12, rfl, by decide, zf_X12, tyX12_ok, nmX12, rfl, Or.inl rfl, Or.inl ⟨tw_1072, Or.inl rfl⟩⟩
theorem ps_X12_again_51_13 : ab_ps mX12_again 51 13 5 .int := ⟨_, _, _, "WitnessesMustLieModel", tyX12, rfl, by decide, zf_X12, tyX12_ok, nmX12, rfl, Or.inl rfl, Or.inl ⟨tw_1074, Or.inl rfl⟩⟩
theorem ps_X12_again_61_13 : ab_ps mX12_again 61 13 0 .int := ⟨_, _, _, "WitnessesMustLieModel", tyX12, rfl, by decide, zf_X12, tyX12_ok, nmX12, rfl, Or.inl rfl, Or.inl ⟨tw_1069, Or.inl rfl⟩⟩
theorem ps_X12_image_236_13 : ab_ps mX12_image 236 13 15 .boolean := ⟨_, _, _, "WitnessesMustLieModel", tyX12, rfl, by decide, zf_X12, tyX12_ok, nmX12, rfl, Or.inl rfl, Or.inl ⟨tw_1084, Or.inl rfl⟩⟩
theorem fs_X12_37_13 {M : ab_M} (hM : M.1.cls = RX12) : ab_fs M 37 13 16 := by
  unfold ab_fs
  rw [hM]
  exact ⟨_, _, _, "WitnessesMustLieModel", rfl, by decide, zf_X12, Or.inl tw_1085, Or.inl rfl⟩
theorem fs_X12_236_13 {M : ab_M} (hM : M.1.cls = RX12) : ab_fs M 236 13 15 := by
  unfold ab_fs
  rw [hM]
  exact ⟨_, _, _, "WitnessesMustLieModel", rfl, by decide, zf_X12, Or.inl tw_1084, Or.inl rfl⟩
theorem fs_X12_240_13 {M : ab_M} (hM : M.1.cls = RX12) : ab_fs M 240 13 21 := by
  unfold ab_fs
  rw [hM]
  exact ⟨_, _, _, "WitnessesMustLieModel", rfl, by decide, zf_X12, Or.inl tw_1089, Or.inl rfl⟩
theorem ps_X12_element_240_13 : ab_ps mX12_element 240 13 21 .int := ⟨_, _, _, "WitnessesMustLieModel", tyX12, rfl, by decide, zf_X12, tyX12_ok, nmX12, rfl, Or.inl rfl, Or.inl ⟨tw_1089, Or.inl rfl⟩⟩
theorem ps_Jx4a65c_init_da8c8_9_0 : ab_ps mJx4a65c_init_da8c8 9 0 1 (.array (.object "java/lang/Object")) := ⟨_, _, _, "java/util/ArrayList", tyJx4a65c, rfl, by decide, zf_Jx4a65c, tyJx4a65c_ok, nmJx4a65c, rfl, Or.inl rfl, Or.inl ⟨tw_95, Or.inl rfl⟩⟩
theorem fs_Jx4a65c_9_0 {M : ab_M} (hM : M.1.cls = RJx4a65c) : ab_fs M 9 0 1 := by
  unfold ab_fs
  rw [hM]
  exact ⟨_, _, _, "java/util/ArrayList", rfl, by decide, zf_Jx4a65c, Or.inl tw_95, Or.inl rfl⟩
theorem ps_Jx4a65c_grow_92f84_9_0 : ab_ps mJx4a65c_grow_92f84 9 0 1 (.array (.object "java/lang/Object")) := ⟨_, _, _, "java/util/ArrayList", tyJx4a65c, rfl, by decide, zf_Jx4a65c, tyJx4a65c_ok, nmJx4a65c, rfl, Or.inl rfl, Or.inl ⟨tw_95, Or.inl rfl⟩⟩
theorem fs_Jx4a65c_48_0 {M : ab_M} (hM : M.1.cls = RJx4a65c) : ab_fs M 48 0 2 := by
  unfold ab_fs
  rw [hM]
  exact ⟨_, _, _, "java/util/ArrayList", rfl, by decide, zf_Jx4a65c, Or.inl tw_96, Or.inl rfl⟩
theorem ps_Jx4a65c_add_72be8_48_0 : ab_ps mJx4a65c_add_72be8 48 0 2 .int := ⟨_, _, _, "java/util/ArrayList", tyJx4a65c, rfl, by decide, zf_Jx4a65c, tyJx4a65c_ok, nmJx4a65c, rfl, Or.inl rfl, Or.inl ⟨tw_96, Or.inl rfl⟩⟩
theorem fs_Jx4a65c_63_0 {M : ab_M} (hM : M.1.cls = RJx4a65c) : ab_fs M 63 0 0 := by
  unfold ab_fs
  rw [hM]
  exact ⟨_, _, _, "java/util/ArrayList", rfl, by decide, zf_Jx4a65c, Or.inl tw_98, Or.inr tw_99⟩
theorem ps_Jx4a65c_add_9ea2d_63_0 : ab_ps mJx4a65c_add_9ea2d 63 0 0 .int := ⟨_, _, _, "java/util/ArrayList", tyJx4a65c, rfl, by decide, zf_Jx4a65c, tyJx4a65c_ok, nmJx4a65c, rfl, Or.inr tw_99, Or.inl ⟨tw_98, Or.inl rfl⟩⟩
theorem ps_Jx4a65c_fastRemove_b59b0_63_0 : ab_ps mJx4a65c_fastRemove_b59b0 63 0 0 .int := ⟨_, _, _, "java/util/ArrayList", tyJx4a65c, rfl, by decide, zf_Jx4a65c, tyJx4a65c_ok, nmJx4a65c, rfl, Or.inr tw_99, Or.inl ⟨tw_98, Or.inl rfl⟩⟩
theorem ps_Jx4a65c_fastRemove_b59b0_48_0 : ab_ps mJx4a65c_fastRemove_b59b0 48 0 2 .int := ⟨_, _, _, "java/util/ArrayList", tyJx4a65c, rfl, by decide, zf_Jx4a65c, tyJx4a65c_ok, nmJx4a65c, rfl, Or.inl rfl, Or.inl ⟨tw_96, Or.inl rfl⟩⟩
theorem ps_Jx4a65c_clear_da8c8_63_0 : ab_ps mJx4a65c_clear_da8c8 63 0 0 .int := ⟨_, _, _, "java/util/ArrayList", tyJx4a65c, rfl, by decide, zf_Jx4a65c, tyJx4a65c_ok, nmJx4a65c, rfl, Or.inr tw_99, Or.inl ⟨tw_98, Or.inl rfl⟩⟩
theorem ps_Jx4a65c_clear_da8c8_48_0 : ab_ps mJx4a65c_clear_da8c8 48 0 2 .int := ⟨_, _, _, "java/util/ArrayList", tyJx4a65c, rfl, by decide, zf_Jx4a65c, tyJx4a65c_ok, nmJx4a65c, rfl, Or.inl rfl, Or.inl ⟨tw_96, Or.inl rfl⟩⟩
