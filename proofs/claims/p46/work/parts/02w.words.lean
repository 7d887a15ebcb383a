/-! the words of the tables, one by one -/
theorem ab_t1 {w : Cond} (i : Nat) (h : tables_1_1[i]? = some w) (hg : goodWord w = true) : w ∈ ab_Tg := List.mem_filter.mpr ⟨List.mem_append_right _ (List.mem_append_left _ (List.mem_of_getElem? h)), hg⟩
theorem ab_t2 {w : Cond} (i : Nat) (h : tables_1_2[i]? = some w) (hg : goodWord w = true) : w ∈ ab_Tg := List.mem_filter.mpr ⟨List.mem_append_right _ (List.mem_append_right _ (List.mem_append_left _ (List.mem_of_getElem? h))), hg⟩
theorem ab_t3 {w : Cond} (i : Nat) (h : tables_1_3[i]? = some w) (hg : goodWord w = true) : w ∈ ab_Tg := List.mem_filter.mpr ⟨List.mem_append_right _ (List.mem_append_right _ (List.mem_append_right _ (List.mem_append_left _ (List.mem_of_getElem? h)))), hg⟩
theorem ab_t4 {w : Cond} (i : Nat) (h : tables_1_4[i]? = some w) (hg : goodWord w = true) : w ∈ ab_Tg := List.mem_filter.mpr ⟨List.mem_append_right _ (List.mem_append_right _ (List.mem_append_right _ (List.mem_append_right _ (List.mem_append_left _ (List.mem_of_getElem? h))))), hg⟩
theorem ab_t5 {w : Cond} (i : Nat) (h : tables_1_5[i]? = some w) (hg : goodWord w = true) : w ∈ ab_Tg := List.mem_filter.mpr ⟨List.mem_append_right _ (List.mem_append_right _ (List.mem_append_right _ (List.mem_append_right _ (List.mem_append_right _ (List.mem_of_getElem? h))))), hg⟩
theorem ab_t0 {w : Cond} (i : Nat) (h : (k2_sels lw_privs)[i]? = some w) (hg : goodWord w = true) : w ∈ ab_Tg := List.mem_filter.mpr ⟨List.mem_append_left _ (List.mem_of_getElem? h), hg⟩
theorem ab_n1 {w : Cond} (i : Nat) (h : tables_1_1[i]? = some w) (hg : ab_isN w = true) : w ∈ ab_Tn := List.mem_filter.mpr ⟨List.mem_append_right _ (List.mem_append_left _ (List.mem_of_getElem? h)), hg⟩
theorem ab_n2 {w : Cond} (i : Nat) (h : tables_1_2[i]? = some w) (hg : ab_isN w = true) : w ∈ ab_Tn := List.mem_filter.mpr ⟨List.mem_append_right _ (List.mem_append_right _ (List.mem_append_left _ (List.mem_of_getElem? h))), hg⟩
theorem ab_n3 {w : Cond} (i : Nat) (h : tables_1_3[i]? = some w) (hg : ab_isN w = true) : w ∈ ab_Tn := List.mem_filter.mpr ⟨List.mem_append_right _ (List.mem_append_right _ (List.mem_append_right _ (List.mem_append_left _ (List.mem_of_getElem? h)))), hg⟩
theorem ab_n4 {w : Cond} (i : Nat) (h : tables_1_4[i]? = some w) (hg : ab_isN w = true) : w ∈ ab_Tn := List.mem_filter.mpr ⟨List.mem_append_right _ (List.mem_append_right _ (List.mem_append_right _ (List.mem_append_right _ (List.mem_append_left _ (List.mem_of_getElem? h))))), hg⟩
theorem ab_n5 {w : Cond} (i : Nat) (h : tables_1_5[i]? = some w) (hg : ab_isN w = true) : w ∈ ab_Tn := List.mem_filter.mpr ⟨List.mem_append_right _ (List.mem_append_right _ (List.mem_append_right _ (List.mem_append_right _ (List.mem_append_right _ (List.mem_of_getElem? h))))), hg⟩
theorem tw_0 : (Jvm.Cond.selects "java/util/ArrayList" ({ cls := "java/util/ArrayList", name := "add", desc := "(Ljava/lang/Object;[Ljava/lang/Object;I)V" } : Jvm.MethodName) ({ cls := "java/util/ArrayList", name := "add", desc := "(Ljava/lang/Object;[Ljava/lang/Object;I)V" } : Jvm.MethodName)) ∈ ab_Tg := ab_t0 0 rfl rfl
theorem tw_1 : (Jvm.Cond.selects "java/util/ArrayList" ({ cls := "java/util/ArrayList", name := "grow", desc := "()[Ljava/lang/Object;" } : Jvm.MethodName) ({ cls := "java/util/ArrayList", name := "grow", desc := "()[Ljava/lang/Object;" } : Jvm.MethodName)) ∈ ab_Tg := ab_t0 1 rfl rfl
theorem tw_2 : (Jvm.Cond.selects "java/util/ArrayList" ({ cls := "java/util/ArrayList", name := "grow", desc := "(I)[Ljava/lang/Object;" } : Jvm.MethodName) ({ cls := "java/util/ArrayList", name := "grow", desc := "(I)[Ljava/lang/Object;" } : Jvm.MethodName)) ∈ ab_Tg := ab_t0 2 rfl rfl
theorem tw_3 : (Jvm.Cond.selects "WitnessesMustLie" ({ cls := "WitnessesMustLie", name := "shelfAt", desc := "(I)LWitnessesMustLie$Shelf;" } : Jvm.MethodName) ({ cls := "WitnessesMustLie", name := "shelfAt", desc := "(I)LWitnessesMustLie$Shelf;" } : Jvm.MethodName)) ∈ ab_Tg := ab_t0 3 rfl rfl
theorem tw_4 : (Jvm.Cond.selects "WitnessesMustLie$Shelf" ({ cls := "WitnessesMustLie$Shelf", name := "refusalUnless", desc := "(I)I" } : Jvm.MethodName) ({ cls := "WitnessesMustLie$Shelf", name := "refusalUnless", desc := "(I)I" } : Jvm.MethodName)) ∈ ab_Tg := ab_t0 4 rfl rfl
theorem tw_5 : (Jvm.Cond.selects "WitnessesMustLie" ({ cls := "WitnessesMustLie", name := "enact", desc := "(LWitnessesMustLie$Shelf;)I" } : Jvm.MethodName) ({ cls := "WitnessesMustLie", name := "enact", desc := "(LWitnessesMustLie$Shelf;)I" } : Jvm.MethodName)) ∈ ab_Tg := ab_t0 5 rfl rfl
theorem tw_6 : (Jvm.Cond.selects "WitnessesMustLie" ({ cls := "WitnessesMustLie", name := "isEnacted", desc := "(LWitnessesMustLie$Shelf;I)Z" } : Jvm.MethodName) ({ cls := "WitnessesMustLie", name := "isEnacted", desc := "(LWitnessesMustLie$Shelf;I)Z" } : Jvm.MethodName)) ∈ ab_Tg := ab_t0 6 rfl rfl
theorem tw_7 : (Jvm.Cond.selects "WitnessesMustLie" ({ cls := "WitnessesMustLie", name := "sayingAt", desc := "(LWitnessesMustLie$Shelf;II)LWitnessesMustLie$Saying;" } : Jvm.MethodName) ({ cls := "WitnessesMustLie", name := "sayingAt", desc := "(LWitnessesMustLie$Shelf;II)LWitnessesMustLie$Saying;" } : Jvm.MethodName)) ∈ ab_Tg := ab_t0 7 rfl rfl
theorem tw_8 : (Jvm.Cond.selects "WitnessesMustLie" ({ cls := "WitnessesMustLie", name := "kindNumbered", desc := "(I)LWitnessesMustLie$Says;" } : Jvm.MethodName) ({ cls := "WitnessesMustLie", name := "kindNumbered", desc := "(I)LWitnessesMustLie$Says;" } : Jvm.MethodName)) ∈ ab_Tg := ab_t0 8 rfl rfl
theorem tw_9 : (Jvm.Cond.selects "java/util/ArrayList" ({ cls := "java/util/ArrayList", name := "fastRemove", desc := "([Ljava/lang/Object;I)V" } : Jvm.MethodName) ({ cls := "java/util/ArrayList", name := "fastRemove", desc := "([Ljava/lang/Object;I)V" } : Jvm.MethodName)) ∈ ab_Tg := ab_t0 9 rfl rfl
theorem tw_10 : (Jvm.Cond.selects "WitnessesMustLie" ({ cls := "WitnessesMustLie", name := "isLie", desc := "(II)Z" } : Jvm.MethodName) ({ cls := "WitnessesMustLie", name := "isLie", desc := "(II)Z" } : Jvm.MethodName)) ∈ ab_Tg := ab_t0 10 rfl rfl
theorem tw_11 : (Jvm.Cond.selects "WitnessesMustLie" ({ cls := "WitnessesMustLie", name := "worldsOfCode", desc := "(I)J" } : Jvm.MethodName) ({ cls := "WitnessesMustLie", name := "worldsOfCode", desc := "(I)J" } : Jvm.MethodName)) ∈ ab_Tg := ab_t0 11 rfl rfl
theorem tw_12 : (Jvm.Cond.selects "WitnessesMustLie" ({ cls := "WitnessesMustLie", name := "worldsOfDraws", desc := "(I)J" } : Jvm.MethodName) ({ cls := "WitnessesMustLie", name := "worldsOfDraws", desc := "(I)J" } : Jvm.MethodName)) ∈ ab_Tg := ab_t0 12 rfl rfl
theorem tw_13 : (Jvm.Cond.selects "WitnessesMustLie$Shelf" ({ cls := "WitnessesMustLie$Shelf", name := "lowestBits", desc := "(I)I" } : Jvm.MethodName) ({ cls := "WitnessesMustLie$Shelf", name := "lowestBits", desc := "(I)I" } : Jvm.MethodName)) ∈ ab_Tg := ab_t0 13 rfl rfl
theorem tw_14 : (Jvm.Cond.selects "java/lang/Throwable" ({ cls := "java/lang/Throwable", name := "fillInStackTrace", desc := "(I)Ljava/lang/Throwable;" } : Jvm.MethodName) ({ cls := "java/lang/Throwable", name := "fillInStackTrace", desc := "(I)Ljava/lang/Throwable;" } : Jvm.MethodName)) ∈ ab_Tg := ab_t0 14 rfl rfl
theorem tw_15 : (Jvm.Cond.selects "WitnessesMustLie" ({ cls := "WitnessesMustLie", name := "leastOrder", desc := "(I)I" } : Jvm.MethodName) ({ cls := "WitnessesMustLie", name := "leastOrder", desc := "(I)I" } : Jvm.MethodName)) ∈ ab_Tg := ab_t0 15 rfl rfl
theorem tw_16 : (Jvm.Cond.selects "WitnessesMustLie" ({ cls := "WitnessesMustLie", name := "digitsWithAhead", desc := "(I)I" } : Jvm.MethodName) ({ cls := "WitnessesMustLie", name := "digitsWithAhead", desc := "(I)I" } : Jvm.MethodName)) ∈ ab_Tg := ab_t0 16 rfl rfl
theorem tw_17 : (Jvm.Cond.selects "WitnessesMustLie" ({ cls := "WitnessesMustLie", name := "digitsOf", desc := "(II)I" } : Jvm.MethodName) ({ cls := "WitnessesMustLie", name := "digitsOf", desc := "(II)I" } : Jvm.MethodName)) ∈ ab_Tg := ab_t0 17 rfl rfl
theorem tw_18 : (Jvm.Cond.initialized "WitnessesMustLieLaw") ∈ ab_Tg := ab_t1 0 rfl rfl
theorem tw_19 : (Jvm.Cond.initialized "WitnessesMustLie") ∈ ab_Tg := ab_t1 1 rfl rfl
theorem tw_20 : (Jvm.Cond.initialized "java/util/AbstractCollection") ∈ ab_Tg := ab_t1 2 rfl rfl
theorem tw_21 : (Jvm.Cond.initialized "java/util/AbstractList") ∈ ab_Tg := ab_t1 3 rfl rfl
theorem tw_22 : (Jvm.Cond.initialized "java/util/ArrayList") ∈ ab_Tg := ab_t1 4 rfl rfl
theorem tw_23 : (Jvm.Cond.initialized "WitnessesMustLie$Trial") ∈ ab_Tg := ab_t1 5 rfl rfl
theorem tw_24 : (Jvm.Cond.initialized "WitnessesMustLie$Says") ∈ ab_Tg := ab_t1 6 rfl rfl
theorem tw_25 : (Jvm.Cond.initialized "jdk/internal/util/ArraysSupport") ∈ ab_Tg := ab_t1 7 rfl rfl
theorem tw_26 : (Jvm.Cond.initialized "java/lang/Math") ∈ ab_Tg := ab_t1 8 rfl rfl
theorem tw_27 : (Jvm.Cond.initialized "java/util/Arrays") ∈ ab_Tg := ab_t1 9 rfl rfl
theorem tw_28 : (Jvm.Cond.initialized "java/lang/System") ∈ ab_Tg := ab_t1 10 rfl rfl
theorem tw_29 : (Jvm.Cond.initialized "WitnessesMustLie$Denies") ∈ ab_Tg := ab_t1 11 rfl rfl
theorem tw_30 : (Jvm.Cond.initialized "WitnessesMustLie$Both") ∈ ab_Tg := ab_t1 12 rfl rfl
theorem tw_31 : (Jvm.Cond.initialized "WitnessesMustLie$Either") ∈ ab_Tg := ab_t1 13 rfl rfl
theorem tw_32 : (Jvm.Cond.initialized "WitnessesMustLie$If") ∈ ab_Tg := ab_t1 14 rfl rfl
theorem tw_33 : (Jvm.Cond.initialized "WitnessesMustLie$Alike") ∈ ab_Tg := ab_t1 15 rfl rfl
theorem tw_34 : (Jvm.Cond.initialized "WitnessesMustLie$Expert") ∈ ab_Tg := ab_t1 16 rfl rfl
theorem tw_35 : (Jvm.Cond.initialized "WitnessesMustLie$Poet") ∈ ab_Tg := ab_t1 17 rfl rfl
theorem tw_36 : (Jvm.Cond.initialized "WitnessesMustLie$Shelf") ∈ ab_Tg := ab_t1 18 rfl rfl
theorem tw_37 : (Jvm.Cond.initialized "java/util/Objects") ∈ ab_Tg := ab_t1 19 rfl rfl
theorem tw_38 : (Jvm.Cond.initialized "jdk/internal/util/Preconditions") ∈ ab_Tg := ab_t1 20 rfl rfl
theorem tw_39 : (Jvm.Cond.initialized "java/lang/Integer") ∈ ab_Tg := ab_t1 21 rfl rfl
theorem tw_40 : (Jvm.Cond.initialized "java/lang/Long") ∈ ab_Tg := ab_t1 22 rfl rfl
theorem tw_41 : (Jvm.Cond.initialized "WitnessesMustLie$Saying") ∈ ab_Tg := ab_t1 23 rfl rfl
theorem tw_42 : (Jvm.Cond.initialized "java/lang/Throwable") ∈ ab_Tg := ab_t1 24 rfl rfl
theorem tw_43 : (Jvm.Cond.initialized "java/lang/Exception") ∈ ab_Tg := ab_t1 25 rfl rfl
theorem tw_44 : (Jvm.Cond.initialized "java/lang/RuntimeException") ∈ ab_Tg := ab_t1 26 rfl rfl
theorem tw_45 : (Jvm.Cond.initialized "java/lang/IllegalArgumentException") ∈ ab_Tg := ab_t1 27 rfl rfl
theorem tw_46 : (Jvm.Cond.initialized "java/lang/IllegalStateException") ∈ ab_Tg := ab_t1 28 rfl rfl
theorem tw_47 : (Jvm.Cond.classLink "WitnessesMustLieLaw" (18 : Nat) "WitnessesMustLie") ∈ ab_Tg := ab_t1 29 rfl rfl
theorem tw_48 : (Jvm.Cond.instantiable "WitnessesMustLie" (8 : Nat)) ∈ ab_Tg := ab_t1 30 rfl rfl
theorem tw_49 : (Jvm.Cond.methodLink "WitnessesMustLieLaw" (116 : Nat) ({ cls := "WitnessesMustLie", name := "<init>", desc := "()V" } : Jvm.MethodName)) ∈ ab_Tg := ab_t1 31 rfl rfl
theorem tw_50 : (Jvm.Cond.instanceMethod ({ cls := "WitnessesMustLie", name := "<init>", desc := "()V" } : Jvm.MethodName)) ∈ ab_Tg := ab_t1 32 rfl rfl
theorem tw_51 : (Jvm.Cond.code ({ cls := "WitnessesMustLie", name := "<init>", desc := "()V" } : Jvm.MethodName) prog_1_method_1_code (3 : Nat) (Option.none : Option Jvm.ClassFile.FieldType)) ∈ ab_Tg := ab_t1 33 rfl rfl
theorem tw_52 : (Jvm.Cond.methodLink "WitnessesMustLie" (3 : Nat) ({ cls := "java/lang/Object", name := "<init>", desc := "()V" } : Jvm.MethodName)) ∈ ab_Tg := ab_t1 34 rfl rfl
theorem tw_53 : (Jvm.Cond.instanceMethod ({ cls := "java/lang/Object", name := "<init>", desc := "()V" } : Jvm.MethodName)) ∈ ab_Tg := ab_t1 35 rfl rfl
theorem tw_54 : (Jvm.Cond.code ({ cls := "java/lang/Object", name := "<init>", desc := "()V" } : Jvm.MethodName) object_method_1_code (1 : Nat) (Option.none : Option Jvm.ClassFile.FieldType)) ∈ ab_Tg := ab_t1 36 rfl rfl
theorem tw_55 : (Jvm.Cond.classLink "WitnessesMustLie" (9 : Nat) "java/util/ArrayList") ∈ ab_Tg := ab_t1 37 rfl rfl
theorem tw_56 : (Jvm.Cond.instantiable "java/util/ArrayList" (3 : Nat)) ∈ ab_Tg := ab_t1 38 rfl rfl
theorem tw_57 : (Jvm.Cond.methodLink "WitnessesMustLie" (11 : Nat) ({ cls := "java/util/ArrayList", name := "<init>", desc := "()V" } : Jvm.MethodName)) ∈ ab_Tg := ab_t1 39 rfl rfl
theorem tw_58 : (Jvm.Cond.instanceMethod ({ cls := "java/util/ArrayList", name := "<init>", desc := "()V" } : Jvm.MethodName)) ∈ ab_Tg := ab_t1 40 rfl rfl
theorem tw_59 : (Jvm.Cond.code ({ cls := "java/util/ArrayList", name := "<init>", desc := "()V" } : Jvm.MethodName) prog_30_method_2_code (1 : Nat) (Option.none : Option Jvm.ClassFile.FieldType)) ∈ ab_Tg := ab_t1 41 rfl rfl
theorem tw_60 : (Jvm.Cond.methodLink "java/util/ArrayList" (1 : Nat) ({ cls := "java/util/AbstractList", name := "<init>", desc := "()V" } : Jvm.MethodName)) ∈ ab_Tg := ab_t1 42 rfl rfl
theorem tw_61 : (Jvm.Cond.instanceMethod ({ cls := "java/util/AbstractList", name := "<init>", desc := "()V" } : Jvm.MethodName)) ∈ ab_Tg := ab_t1 43 rfl rfl
theorem tw_62 : (Jvm.Cond.code ({ cls := "java/util/AbstractList", name := "<init>", desc := "()V" } : Jvm.MethodName) prog_29_method_1_code (1 : Nat) (Option.none : Option Jvm.ClassFile.FieldType)) ∈ ab_Tg := ab_t1 44 rfl rfl
theorem tw_63 : (Jvm.Cond.methodLink "java/util/AbstractList" (1 : Nat) ({ cls := "java/util/AbstractCollection", name := "<init>", desc := "()V" } : Jvm.MethodName)) ∈ ab_Tg := ab_t1 45 rfl rfl
theorem tw_64 : (Jvm.Cond.instanceMethod ({ cls := "java/util/AbstractCollection", name := "<init>", desc := "()V" } : Jvm.MethodName)) ∈ ab_Tg := ab_t1 46 rfl rfl
theorem tw_65 : (Jvm.Cond.code ({ cls := "java/util/AbstractCollection", name := "<init>", desc := "()V" } : Jvm.MethodName) prog_28_method_1_code (1 : Nat) (Option.none : Option Jvm.ClassFile.FieldType)) ∈ ab_Tg := ab_t1 47 rfl rfl
theorem tw_66 : (Jvm.Cond.methodLink "java/util/AbstractCollection" (1 : Nat) ({ cls := "java/lang/Object", name := "<init>", desc := "()V" } : Jvm.MethodName)) ∈ ab_Tg := ab_t1 48 rfl rfl
theorem tw_67 : (Jvm.Cond.fieldLink "java/util/ArrayList" (39 : Nat) "java/util/ArrayList" "DEFAULTCAPACITY_EMPTY_ELEMENTDATA" "[Ljava/lang/Object;") ∈ ab_Tg := ab_t1 49 rfl rfl
theorem tw_68 : (Jvm.Cond.fieldLink "java/util/ArrayList" (9 : Nat) "java/util/ArrayList" "elementData" "[Ljava/lang/Object;") ∈ ab_Tg := ab_t1 51 rfl rfl
theorem tw_69 : (Jvm.Cond.fieldLink "java/util/ArrayList" (48 : Nat) "java/util/ArrayList" "size" "I") ∈ ab_Tg := ab_t1 52 rfl rfl
theorem tw_70 : (Jvm.Cond.fieldLink "java/util/AbstractList" (7 : Nat) "java/util/AbstractList" "modCount" "I") ∈ ab_Tg := ab_t1 53 rfl rfl
theorem tw_71 : (Jvm.Cond.fieldLink "java/util/ArrayList" (63 : Nat) "java/util/ArrayList" "modCount" "I") ∈ ab_Tg := ab_t1 54 rfl rfl
theorem tw_72 : (Jvm.Cond.sameField "java/util/ArrayList" "java/util/AbstractList" "modCount" "I") ∈ ab_Tg := ab_t1 55 rfl rfl
theorem tw_73 : (Jvm.Cond.lays "java/util/ArrayList" "java/util/ArrayList" "elementData" "[Ljava/lang/Object;") ∈ ab_Tg := ab_t1 56 rfl rfl
theorem tw_74 : (Jvm.Cond.lays "java/util/ArrayList" "java/util/ArrayList" "size" "I") ∈ ab_Tg := ab_t1 58 rfl rfl
theorem tw_75 : (Jvm.Cond.lays "java/util/ArrayList" "java/util/AbstractList" "modCount" "I") ∈ ab_Tg := ab_t1 60 rfl rfl
theorem tw_76 : (Jvm.Cond.superclass "java/util/ArrayList" "java/util/AbstractList") ∈ ab_Tg := ab_t1 62 rfl rfl
theorem tw_77 : (Jvm.Cond.classLink "WitnessesMustLie" (16 : Nat) "WitnessesMustLie$Shelf") ∈ ab_Tg := ab_t1 63 rfl rfl
theorem tw_78 : (Jvm.Cond.arrayOver (Jvm.ClassFile.FieldType.object "WitnessesMustLie$Shelf")) ∈ ab_Tn := ab_n1 64 rfl rfl
theorem tw_79 : (Jvm.Cond.classLink "WitnessesMustLie" (22 : Nat) "WitnessesMustLie$Trial") ∈ ab_Tg := ab_t1 65 rfl rfl
theorem tw_80 : (Jvm.Cond.instantiable "WitnessesMustLie$Trial" (5 : Nat)) ∈ ab_Tg := ab_t1 66 rfl rfl
theorem tw_81 : (Jvm.Cond.methodLinkNest "WitnessesMustLie" (24 : Nat) ({ cls := "WitnessesMustLie$Trial", name := "<init>", desc := "()V" } : Jvm.MethodName) "WitnessesMustLie") ∈ ab_Tn := ab_n1 67 rfl rfl
theorem tw_82 : (Jvm.Cond.instanceMethod ({ cls := "WitnessesMustLie$Trial", name := "<init>", desc := "()V" } : Jvm.MethodName)) ∈ ab_Tg := ab_t1 68 rfl rfl
theorem tw_83 : (Jvm.Cond.code ({ cls := "WitnessesMustLie$Trial", name := "<init>", desc := "()V" } : Jvm.MethodName) prog_12_method_1_code (1 : Nat) (Option.none : Option Jvm.ClassFile.FieldType)) ∈ ab_Tg := ab_t1 69 rfl rfl
theorem tw_84 : (Jvm.Cond.methodLink "WitnessesMustLie$Trial" (3 : Nat) ({ cls := "java/lang/Object", name := "<init>", desc := "()V" } : Jvm.MethodName)) ∈ ab_Tg := ab_t1 70 rfl rfl
theorem tw_85 : (Jvm.Cond.classLink "WitnessesMustLie$Trial" (9 : Nat) "java/util/ArrayList") ∈ ab_Tg := ab_t1 71 rfl rfl
theorem tw_86 : (Jvm.Cond.methodLink "WitnessesMustLie$Trial" (11 : Nat) ({ cls := "java/util/ArrayList", name := "<init>", desc := "()V" } : Jvm.MethodName)) ∈ ab_Tg := ab_t1 72 rfl rfl
theorem tw_87 : (Jvm.Cond.fieldLink "WitnessesMustLie$Trial" (12 : Nat) "WitnessesMustLie$Trial" "laws" "Ljava/util/ArrayList;") ∈ ab_Tg := ab_t1 73 rfl rfl
theorem tw_88 : (Jvm.Cond.fieldLinkNest "WitnessesMustLie" (94 : Nat) "WitnessesMustLie$Trial" "laws" "Ljava/util/ArrayList;" "WitnessesMustLie") ∈ ab_Tn := ab_n1 74 rfl rfl
theorem tw_89 : (Jvm.Cond.fieldLink "WitnessesMustLie$Trial" (18 : Nat) "WitnessesMustLie$Trial" "said" "Ljava/util/ArrayList;") ∈ ab_Tg := ab_t1 75 rfl rfl
theorem tw_90 : (Jvm.Cond.fieldLinkNest "WitnessesMustLie" (107 : Nat) "WitnessesMustLie$Trial" "said" "Ljava/util/ArrayList;" "WitnessesMustLie") ∈ ab_Tn := ab_n1 76 rfl rfl
theorem tw_91 : (Jvm.Cond.fieldLink "WitnessesMustLie$Trial" (21 : Nat) "WitnessesMustLie$Trial" "known" "[I") ∈ ab_Tg := ab_t1 77 rfl rfl
theorem tw_92 : (Jvm.Cond.fieldLink "WitnessesMustLie$Trial" (33 : Nat) "WitnessesMustLie$Trial" "witnesses" "I") ∈ ab_Tg := ab_t1 78 rfl rfl
theorem tw_93 : (Jvm.Cond.fieldLinkNest "WitnessesMustLie" (179 : Nat) "WitnessesMustLie$Trial" "witnesses" "I" "WitnessesMustLie") ∈ ab_Tn := ab_n1 79 rfl rfl
theorem tw_94 : (Jvm.Cond.fieldLink "WitnessesMustLie$Trial" (37 : Nat) "WitnessesMustLie$Trial" "truthWorld" "I") ∈ ab_Tg := ab_t1 80 rfl rfl
theorem tw_95 : (Jvm.Cond.fieldLinkNest "WitnessesMustLie" (114 : Nat) "WitnessesMustLie$Trial" "truthWorld" "I" "WitnessesMustLie") ∈ ab_Tn := ab_n1 81 rfl rfl
theorem tw_96 : (Jvm.Cond.laysFinal "WitnessesMustLie$Trial" "WitnessesMustLie$Trial" "laws" "Ljava/util/ArrayList;") ∈ ab_Tg := ab_t1 82 rfl rfl
theorem tw_97 : (Jvm.Cond.laysFinal "WitnessesMustLie$Trial" "WitnessesMustLie$Trial" "said" "Ljava/util/ArrayList;") ∈ ab_Tg := ab_t1 84 rfl rfl
theorem tw_98 : (Jvm.Cond.laysFinal "WitnessesMustLie$Trial" "WitnessesMustLie$Trial" "known" "[I") ∈ ab_Tg := ab_t1 86 rfl rfl
theorem tw_99 : (Jvm.Cond.lays "WitnessesMustLie$Trial" "WitnessesMustLie$Trial" "witnesses" "I") ∈ ab_Tg := ab_t1 88 rfl rfl
theorem tw_100 : (Jvm.Cond.lays "WitnessesMustLie$Trial" "WitnessesMustLie$Trial" "truthWorld" "I") ∈ ab_Tg := ab_t1 90 rfl rfl
theorem tw_101 : (Jvm.Cond.superclass "WitnessesMustLie$Trial" "java/lang/Object") ∈ ab_Tg := ab_t1 92 rfl rfl
theorem tw_102 : (Jvm.Cond.arrayClass Jvm.ClassFile.FieldType.int) ∈ ab_Tg := ab_t1 93 rfl rfl
theorem tw_103 : (Jvm.Cond.classLink "WitnessesMustLie" (42 : Nat) "WitnessesMustLie$Says") ∈ ab_Tg := ab_t1 94 rfl rfl
theorem tw_104 : (Jvm.Cond.instantiable "WitnessesMustLie$Says" (1 : Nat)) ∈ ab_Tg := ab_t1 95 rfl rfl
theorem tw_105 : (Jvm.Cond.methodLink "WitnessesMustLie" (44 : Nat) ({ cls := "WitnessesMustLie$Says", name := "<init>", desc := "(I)V" } : Jvm.MethodName)) ∈ ab_Tg := ab_t1 96 rfl rfl
theorem tw_106 : (Jvm.Cond.instanceMethod ({ cls := "WitnessesMustLie$Says", name := "<init>", desc := "(I)V" } : Jvm.MethodName)) ∈ ab_Tg := ab_t1 97 rfl rfl
theorem tw_107 : (Jvm.Cond.code ({ cls := "WitnessesMustLie$Says", name := "<init>", desc := "(I)V" } : Jvm.MethodName) prog_10_method_1_code (2 : Nat) (Option.none : Option Jvm.ClassFile.FieldType)) ∈ ab_Tg := ab_t1 98 rfl rfl
theorem tw_108 : (Jvm.Cond.methodLink "WitnessesMustLie$Says" (3 : Nat) ({ cls := "java/lang/Object", name := "<init>", desc := "()V" } : Jvm.MethodName)) ∈ ab_Tg := ab_t1 99 rfl rfl
theorem tw_109 : (Jvm.Cond.fieldLink "WitnessesMustLie$Says" (9 : Nat) "WitnessesMustLie$Says" "number" "I") ∈ ab_Tg := ab_t1 100 rfl rfl
theorem tw_110 : (Jvm.Cond.fieldLinkNest "WitnessesMustLie$Saying" (30 : Nat) "WitnessesMustLie$Says" "number" "I" "WitnessesMustLie") ∈ ab_Tn := ab_n1 101 rfl rfl
theorem tw_111 : (Jvm.Cond.laysFinal "WitnessesMustLie$Says" "WitnessesMustLie$Says" "number" "I") ∈ ab_Tg := ab_t1 102 rfl rfl
theorem tw_112 : (Jvm.Cond.superclass "WitnessesMustLie$Says" "java/lang/Object") ∈ ab_Tg := ab_t1 104 rfl rfl
theorem tw_113 : (Jvm.Cond.arrayClass Jvm.ClassFile.FieldType.long) ∈ ab_Tg := ab_t1 105 rfl rfl
theorem tw_114 : (Jvm.Cond.methodLink "WitnessesMustLie" (47 : Nat) ({ cls := "java/util/ArrayList", name := "add", desc := "(Ljava/lang/Object;)Z" } : Jvm.MethodName)) ∈ ab_Tg := ab_t1 106 rfl rfl
theorem tw_115 : (Jvm.Cond.instanceMethod ({ cls := "java/util/ArrayList", name := "add", desc := "(Ljava/lang/Object;)Z" } : Jvm.MethodName)) ∈ ab_Tg := ab_t1 107 rfl rfl
theorem tw_116 : (Jvm.Cond.selects "java/util/ArrayList" ({ cls := "java/util/ArrayList", name := "add", desc := "(Ljava/lang/Object;)Z" } : Jvm.MethodName) ({ cls := "java/util/ArrayList", name := "add", desc := "(Ljava/lang/Object;)Z" } : Jvm.MethodName)) ∈ ab_Tg := ab_t1 108 rfl rfl
theorem tw_117 : (Jvm.Cond.code ({ cls := "java/util/ArrayList", name := "add", desc := "(Ljava/lang/Object;)Z" } : Jvm.MethodName) prog_30_method_25_code (2 : Nat) (Option.some Jvm.ClassFile.FieldType.boolean)) ∈ ab_Tg := ab_t1 109 rfl rfl
theorem tw_118 : (Jvm.Cond.methodLink "java/util/ArrayList" (131 : Nat) ({ cls := "java/util/ArrayList", name := "add", desc := "(Ljava/lang/Object;[Ljava/lang/Object;I)V" } : Jvm.MethodName)) ∈ ab_Tg := ab_t1 110 rfl rfl
theorem tw_119 : (Jvm.Cond.instanceMethod ({ cls := "java/util/ArrayList", name := "add", desc := "(Ljava/lang/Object;[Ljava/lang/Object;I)V" } : Jvm.MethodName)) ∈ ab_Tg := ab_t1 112 rfl rfl
theorem tw_120 : (Jvm.Cond.code ({ cls := "java/util/ArrayList", name := "add", desc := "(Ljava/lang/Object;[Ljava/lang/Object;I)V" } : Jvm.MethodName) prog_30_method_24_code (4 : Nat) (Option.none : Option Jvm.ClassFile.FieldType)) ∈ ab_Tg := ab_t1 113 rfl rfl
theorem tw_121 : (Jvm.Cond.methodLink "java/util/ArrayList" (129 : Nat) ({ cls := "java/util/ArrayList", name := "grow", desc := "()[Ljava/lang/Object;" } : Jvm.MethodName)) ∈ ab_Tg := ab_t1 114 rfl rfl
theorem tw_122 : (Jvm.Cond.instanceMethod ({ cls := "java/util/ArrayList", name := "grow", desc := "()[Ljava/lang/Object;" } : Jvm.MethodName)) ∈ ab_Tg := ab_t1 116 rfl rfl
theorem tw_123 : (Jvm.Cond.code ({ cls := "java/util/ArrayList", name := "grow", desc := "()[Ljava/lang/Object;" } : Jvm.MethodName) prog_30_method_7_code (1 : Nat) (Option.some (Jvm.ClassFile.FieldType.array (Jvm.ClassFile.FieldType.object "java/lang/Object")))) ∈ ab_Tg := ab_t1 117 rfl rfl
theorem tw_124 : (Jvm.Cond.methodLink "java/util/ArrayList" (69 : Nat) ({ cls := "java/util/ArrayList", name := "grow", desc := "(I)[Ljava/lang/Object;" } : Jvm.MethodName)) ∈ ab_Tg := ab_t1 118 rfl rfl
theorem tw_125 : (Jvm.Cond.instanceMethod ({ cls := "java/util/ArrayList", name := "grow", desc := "(I)[Ljava/lang/Object;" } : Jvm.MethodName)) ∈ ab_Tg := ab_t1 120 rfl rfl
theorem tw_126 : (Jvm.Cond.code ({ cls := "java/util/ArrayList", name := "grow", desc := "(I)[Ljava/lang/Object;" } : Jvm.MethodName) prog_30_method_6_code (4 : Nat) (Option.some (Jvm.ClassFile.FieldType.array (Jvm.ClassFile.FieldType.object "java/lang/Object")))) ∈ ab_Tg := ab_t1 121 rfl rfl
theorem tw_127 : (Jvm.Cond.methodLink "java/util/ArrayList" (73 : Nat) ({ cls := "jdk/internal/util/ArraysSupport", name := "newLength", desc := "(III)I" } : Jvm.MethodName)) ∈ ab_Tg := ab_t1 122 rfl rfl
theorem tw_128 : (Jvm.Cond.static ({ cls := "jdk/internal/util/ArraysSupport", name := "newLength", desc := "(III)I" } : Jvm.MethodName)) ∈ ab_Tg := ab_t1 123 rfl rfl
theorem tw_129 : (Jvm.Cond.code ({ cls := "jdk/internal/util/ArraysSupport", name := "newLength", desc := "(III)I" } : Jvm.MethodName) prog_37_method_27_code (4 : Nat) (Option.some Jvm.ClassFile.FieldType.int)) ∈ ab_Tg := ab_t1 124 rfl rfl
theorem tw_130 : (Jvm.Cond.methodLink "jdk/internal/util/ArraysSupport" (194 : Nat) ({ cls := "java/lang/Math", name := "max", desc := "(II)I" } : Jvm.MethodName)) ∈ ab_Tg := ab_t1 125 rfl rfl
theorem tw_131 : (Jvm.Cond.static ({ cls := "java/lang/Math", name := "max", desc := "(II)I" } : Jvm.MethodName)) ∈ ab_Tg := ab_t1 126 rfl rfl
theorem tw_132 : (Jvm.Cond.code ({ cls := "java/lang/Math", name := "max", desc := "(II)I" } : Jvm.MethodName) prog_23_method_65_code (2 : Nat) (Option.some Jvm.ClassFile.FieldType.int)) ∈ ab_Tg := ab_t1 127 rfl rfl
theorem tw_133 : (Jvm.Cond.constant "jdk/internal/util/ArraysSupport" (200 : Nat) (2147483639 : Int32)) ∈ ab_Tg := ab_t1 128 rfl rfl
theorem tw_134 : (Jvm.Cond.methodLink "jdk/internal/util/ArraysSupport" (201 : Nat) ({ cls := "jdk/internal/util/ArraysSupport", name := "hugeLength", desc := "(II)I" } : Jvm.MethodName)) ∈ ab_Tg := ab_t1 129 rfl rfl
theorem tw_135 : (Jvm.Cond.static ({ cls := "jdk/internal/util/ArraysSupport", name := "hugeLength", desc := "(II)I" } : Jvm.MethodName)) ∈ ab_Tg := ab_t1 130 rfl rfl
theorem tw_136 : (Jvm.Cond.code ({ cls := "jdk/internal/util/ArraysSupport", name := "hugeLength", desc := "(II)I" } : Jvm.MethodName) prog_37_method_28_code (3 : Nat) (Option.some Jvm.ClassFile.FieldType.int)) ∈ ab_Tg := ab_t1 131 rfl rfl
theorem tw_137 : (Jvm.Cond.methodLink "java/util/ArrayList" (66 : Nat) ({ cls := "java/util/Arrays", name := "copyOf", desc := "([Ljava/lang/Object;I)[Ljava/lang/Object;" } : Jvm.MethodName)) ∈ ab_Tg := ab_t1 132 rfl rfl
theorem tw_138 : (Jvm.Cond.static ({ cls := "java/util/Arrays", name := "copyOf", desc := "([Ljava/lang/Object;I)[Ljava/lang/Object;" } : Jvm.MethodName)) ∈ ab_Tg := ab_t1 133 rfl rfl
theorem tw_139 : (Jvm.Cond.code ({ cls := "java/util/Arrays", name := "copyOf", desc := "([Ljava/lang/Object;I)[Ljava/lang/Object;" } : Jvm.MethodName) prog_31_method_119_code (2 : Nat) (Option.some (Jvm.ClassFile.FieldType.array (Jvm.ClassFile.FieldType.object "java/lang/Object")))) ∈ ab_Tg := ab_t1 134 rfl rfl
theorem tw_140 : (Jvm.Cond.methodLink "java/util/Arrays" (86 : Nat) ({ cls := "java/lang/Object", name := "getClass", desc := "()Ljava/lang/Class;" } : Jvm.MethodName)) ∈ ab_Tg := ab_t1 135 rfl rfl
theorem tw_141 : (Jvm.Cond.instanceMethod ({ cls := "java/lang/Object", name := "getClass", desc := "()Ljava/lang/Class;" } : Jvm.MethodName)) ∈ ab_Tg := ab_t1 136 rfl rfl
theorem tw_142 : (Jvm.Cond.sameMethod "java/lang/Object" "java/lang/Object" "getClass" "()Ljava/lang/Class;") ∈ ab_Tg := ab_t1 137 rfl rfl
theorem tw_143 : (Jvm.Cond.selects "WitnessesMustLie" ({ cls := "java/lang/Object", name := "getClass", desc := "()Ljava/lang/Class;" } : Jvm.MethodName) ({ cls := "java/lang/Object", name := "getClass", desc := "()Ljava/lang/Class;" } : Jvm.MethodName)) ∈ ab_Tg := ab_t1 138 rfl rfl
theorem tw_144 : (Jvm.Cond.selects "WitnessesMustLie$Alike" ({ cls := "java/lang/Object", name := "getClass", desc := "()Ljava/lang/Class;" } : Jvm.MethodName) ({ cls := "java/lang/Object", name := "getClass", desc := "()Ljava/lang/Class;" } : Jvm.MethodName)) ∈ ab_Tg := ab_t1 139 rfl rfl
theorem tw_145 : (Jvm.Cond.selects "WitnessesMustLie$Both" ({ cls := "java/lang/Object", name := "getClass", desc := "()Ljava/lang/Class;" } : Jvm.MethodName) ({ cls := "java/lang/Object", name := "getClass", desc := "()Ljava/lang/Class;" } : Jvm.MethodName)) ∈ ab_Tg := ab_t1 140 rfl rfl
theorem tw_146 : (Jvm.Cond.selects "WitnessesMustLie$Denies" ({ cls := "java/lang/Object", name := "getClass", desc := "()Ljava/lang/Class;" } : Jvm.MethodName) ({ cls := "java/lang/Object", name := "getClass", desc := "()Ljava/lang/Class;" } : Jvm.MethodName)) ∈ ab_Tg := ab_t1 141 rfl rfl
theorem tw_147 : (Jvm.Cond.selects "WitnessesMustLie$Either" ({ cls := "java/lang/Object", name := "getClass", desc := "()Ljava/lang/Class;" } : Jvm.MethodName) ({ cls := "java/lang/Object", name := "getClass", desc := "()Ljava/lang/Class;" } : Jvm.MethodName)) ∈ ab_Tg := ab_t1 142 rfl rfl
theorem tw_148 : (Jvm.Cond.selects "WitnessesMustLie$Expert" ({ cls := "java/lang/Object", name := "getClass", desc := "()Ljava/lang/Class;" } : Jvm.MethodName) ({ cls := "java/lang/Object", name := "getClass", desc := "()Ljava/lang/Class;" } : Jvm.MethodName)) ∈ ab_Tg := ab_t1 143 rfl rfl
theorem tw_149 : (Jvm.Cond.selects "WitnessesMustLie$If" ({ cls := "java/lang/Object", name := "getClass", desc := "()Ljava/lang/Class;" } : Jvm.MethodName) ({ cls := "java/lang/Object", name := "getClass", desc := "()Ljava/lang/Class;" } : Jvm.MethodName)) ∈ ab_Tg := ab_t1 144 rfl rfl
theorem tw_150 : (Jvm.Cond.selects "WitnessesMustLie$Poet" ({ cls := "java/lang/Object", name := "getClass", desc := "()Ljava/lang/Class;" } : Jvm.MethodName) ({ cls := "java/lang/Object", name := "getClass", desc := "()Ljava/lang/Class;" } : Jvm.MethodName)) ∈ ab_Tg := ab_t1 145 rfl rfl
theorem tw_151 : (Jvm.Cond.selects "WitnessesMustLie$Saying" ({ cls := "java/lang/Object", name := "getClass", desc := "()Ljava/lang/Class;" } : Jvm.MethodName) ({ cls := "java/lang/Object", name := "getClass", desc := "()Ljava/lang/Class;" } : Jvm.MethodName)) ∈ ab_Tg := ab_t1 146 rfl rfl
theorem tw_152 : (Jvm.Cond.selects "WitnessesMustLie$Says" ({ cls := "java/lang/Object", name := "getClass", desc := "()Ljava/lang/Class;" } : Jvm.MethodName) ({ cls := "java/lang/Object", name := "getClass", desc := "()Ljava/lang/Class;" } : Jvm.MethodName)) ∈ ab_Tg := ab_t1 147 rfl rfl
theorem tw_153 : (Jvm.Cond.selects "WitnessesMustLie$Shelf" ({ cls := "java/lang/Object", name := "getClass", desc := "()Ljava/lang/Class;" } : Jvm.MethodName) ({ cls := "java/lang/Object", name := "getClass", desc := "()Ljava/lang/Class;" } : Jvm.MethodName)) ∈ ab_Tg := ab_t1 148 rfl rfl
theorem tw_154 : (Jvm.Cond.selects "WitnessesMustLie$Trial" ({ cls := "java/lang/Object", name := "getClass", desc := "()Ljava/lang/Class;" } : Jvm.MethodName) ({ cls := "java/lang/Object", name := "getClass", desc := "()Ljava/lang/Class;" } : Jvm.MethodName)) ∈ ab_Tg := ab_t1 149 rfl rfl
theorem tw_155 : (Jvm.Cond.selects "java/lang/IllegalArgumentException" ({ cls := "java/lang/Object", name := "getClass", desc := "()Ljava/lang/Class;" } : Jvm.MethodName) ({ cls := "java/lang/Object", name := "getClass", desc := "()Ljava/lang/Class;" } : Jvm.MethodName)) ∈ ab_Tg := ab_t1 150 rfl rfl
theorem tw_156 : (Jvm.Cond.selects "java/lang/IllegalStateException" ({ cls := "java/lang/Object", name := "getClass", desc := "()Ljava/lang/Class;" } : Jvm.MethodName) ({ cls := "java/lang/Object", name := "getClass", desc := "()Ljava/lang/Class;" } : Jvm.MethodName)) ∈ ab_Tg := ab_t1 151 rfl rfl
theorem tw_157 : (Jvm.Cond.selects "java/util/ArrayList" ({ cls := "java/lang/Object", name := "getClass", desc := "()Ljava/lang/Class;" } : Jvm.MethodName) ({ cls := "java/lang/Object", name := "getClass", desc := "()Ljava/lang/Class;" } : Jvm.MethodName)) ∈ ab_Tg := ab_t1 152 rfl rfl
theorem tw_158 : (Jvm.Cond.methodLink "java/util/Arrays" (300 : Nat) ({ cls := "java/util/Arrays", name := "copyOf", desc := "([Ljava/lang/Object;ILjava/lang/Class;)[Ljava/lang/Object;" } : Jvm.MethodName)) ∈ ab_Tg := ab_t1 154 rfl rfl
theorem tw_159 : (Jvm.Cond.static ({ cls := "java/util/Arrays", name := "copyOf", desc := "([Ljava/lang/Object;ILjava/lang/Class;)[Ljava/lang/Object;" } : Jvm.MethodName)) ∈ ab_Tg := ab_t1 155 rfl rfl
theorem tw_160 : (Jvm.Cond.code ({ cls := "java/util/Arrays", name := "copyOf", desc := "([Ljava/lang/Object;ILjava/lang/Class;)[Ljava/lang/Object;" } : Jvm.MethodName) prog_31_method_120_code (4 : Nat) (Option.some (Jvm.ClassFile.FieldType.array (Jvm.ClassFile.FieldType.object "java/lang/Object")))) ∈ ab_Tg := ab_t1 156 rfl rfl
theorem tw_161 : (Jvm.Cond.classLink "java/util/Arrays" (110 : Nat) "[Ljava/lang/Object;") ∈ ab_Tg := ab_t1 157 rfl rfl
theorem tw_162 : (Jvm.Cond.arrayOver (Jvm.ClassFile.FieldType.object "java/lang/Object")) ∈ ab_Tn := ab_n1 158 rfl rfl
theorem tw_163 : (Jvm.Cond.classLink "java/util/Arrays" (2 : Nat) "java/lang/Object") ∈ ab_Tg := ab_t1 159 rfl rfl
theorem tw_164 : (Jvm.Cond.methodLink "java/util/Arrays" (304 : Nat) ({ cls := "java/lang/Math", name := "min", desc := "(II)I" } : Jvm.MethodName)) ∈ ab_Tg := ab_t1 160 rfl rfl
theorem tw_165 : (Jvm.Cond.static ({ cls := "java/lang/Math", name := "min", desc := "(II)I" } : Jvm.MethodName)) ∈ ab_Tg := ab_t1 161 rfl rfl
theorem tw_166 : (Jvm.Cond.code ({ cls := "java/lang/Math", name := "min", desc := "(II)I" } : Jvm.MethodName) prog_23_method_69_code (2 : Nat) (Option.some Jvm.ClassFile.FieldType.int)) ∈ ab_Tg := ab_t1 162 rfl rfl
theorem tw_167 : (Jvm.Cond.methodLink "java/util/Arrays" (150 : Nat) ({ cls := "java/lang/System", name := "arraycopy", desc := "(Ljava/lang/Object;ILjava/lang/Object;II)V" } : Jvm.MethodName)) ∈ ab_Tg := ab_t1 163 rfl rfl
theorem tw_168 : (Jvm.Cond.static ({ cls := "java/lang/System", name := "arraycopy", desc := "(Ljava/lang/Object;ILjava/lang/Object;II)V" } : Jvm.MethodName)) ∈ ab_Tg := ab_t1 164 rfl rfl
theorem tw_169 : (Jvm.Cond.methodLink "java/util/ArrayList" (79 : Nat) ({ cls := "java/lang/Math", name := "max", desc := "(II)I" } : Jvm.MethodName)) ∈ ab_Tg := ab_t1 166 rfl rfl
theorem tw_170 : (Jvm.Cond.classLink "java/util/ArrayList" (7 : Nat) "java/lang/Object") ∈ ab_Tg := ab_t1 167 rfl rfl
theorem tw_171 : (Jvm.Cond.classLink "WitnessesMustLie" (51 : Nat) "WitnessesMustLie$Denies") ∈ ab_Tg := ab_t1 168 rfl rfl
theorem tw_172 : (Jvm.Cond.instantiable "WitnessesMustLie$Denies" (1 : Nat)) ∈ ab_Tg := ab_t1 169 rfl rfl
theorem tw_173 : (Jvm.Cond.methodLink "WitnessesMustLie" (53 : Nat) ({ cls := "WitnessesMustLie$Denies", name := "<init>", desc := "(I)V" } : Jvm.MethodName)) ∈ ab_Tg := ab_t1 170 rfl rfl
theorem tw_174 : (Jvm.Cond.instanceMethod ({ cls := "WitnessesMustLie$Denies", name := "<init>", desc := "(I)V" } : Jvm.MethodName)) ∈ ab_Tg := ab_t1 171 rfl rfl
theorem tw_175 : (Jvm.Cond.code ({ cls := "WitnessesMustLie$Denies", name := "<init>", desc := "(I)V" } : Jvm.MethodName) prog_4_method_1_code (2 : Nat) (Option.none : Option Jvm.ClassFile.FieldType)) ∈ ab_Tg := ab_t1 172 rfl rfl
theorem tw_176 : (Jvm.Cond.methodLink "WitnessesMustLie$Denies" (1 : Nat) ({ cls := "WitnessesMustLie$Says", name := "<init>", desc := "(I)V" } : Jvm.MethodName)) ∈ ab_Tg := ab_t1 173 rfl rfl
theorem tw_177 : (Jvm.Cond.laysFinal "WitnessesMustLie$Denies" "WitnessesMustLie$Says" "number" "I") ∈ ab_Tg := ab_t1 174 rfl rfl
theorem tw_178 : (Jvm.Cond.superclass "WitnessesMustLie$Denies" "WitnessesMustLie$Says") ∈ ab_Tg := ab_t1 175 rfl rfl
theorem tw_179 : (Jvm.Cond.classLink "WitnessesMustLie" (54 : Nat) "WitnessesMustLie$Both") ∈ ab_Tg := ab_t1 176 rfl rfl
theorem tw_180 : (Jvm.Cond.instantiable "WitnessesMustLie$Both" (1 : Nat)) ∈ ab_Tg := ab_t1 177 rfl rfl
theorem tw_181 : (Jvm.Cond.methodLink "WitnessesMustLie" (56 : Nat) ({ cls := "WitnessesMustLie$Both", name := "<init>", desc := "(I)V" } : Jvm.MethodName)) ∈ ab_Tg := ab_t1 178 rfl rfl
theorem tw_182 : (Jvm.Cond.instanceMethod ({ cls := "WitnessesMustLie$Both", name := "<init>", desc := "(I)V" } : Jvm.MethodName)) ∈ ab_Tg := ab_t1 179 rfl rfl
theorem tw_183 : (Jvm.Cond.code ({ cls := "WitnessesMustLie$Both", name := "<init>", desc := "(I)V" } : Jvm.MethodName) prog_3_method_1_code (2 : Nat) (Option.none : Option Jvm.ClassFile.FieldType)) ∈ ab_Tg := ab_t1 180 rfl rfl
theorem tw_184 : (Jvm.Cond.methodLink "WitnessesMustLie$Both" (1 : Nat) ({ cls := "WitnessesMustLie$Says", name := "<init>", desc := "(I)V" } : Jvm.MethodName)) ∈ ab_Tg := ab_t1 181 rfl rfl
theorem tw_185 : (Jvm.Cond.laysFinal "WitnessesMustLie$Both" "WitnessesMustLie$Says" "number" "I") ∈ ab_Tg := ab_t1 182 rfl rfl
theorem tw_186 : (Jvm.Cond.superclass "WitnessesMustLie$Both" "WitnessesMustLie$Says") ∈ ab_Tg := ab_t1 183 rfl rfl
theorem tw_187 : (Jvm.Cond.classLink "WitnessesMustLie" (57 : Nat) "WitnessesMustLie$Either") ∈ ab_Tg := ab_t1 184 rfl rfl
theorem tw_188 : (Jvm.Cond.instantiable "WitnessesMustLie$Either" (1 : Nat)) ∈ ab_Tg := ab_t1 185 rfl rfl
theorem tw_189 : (Jvm.Cond.methodLink "WitnessesMustLie" (59 : Nat) ({ cls := "WitnessesMustLie$Either", name := "<init>", desc := "(I)V" } : Jvm.MethodName)) ∈ ab_Tg := ab_t1 186 rfl rfl
theorem tw_190 : (Jvm.Cond.instanceMethod ({ cls := "WitnessesMustLie$Either", name := "<init>", desc := "(I)V" } : Jvm.MethodName)) ∈ ab_Tg := ab_t1 187 rfl rfl
theorem tw_191 : (Jvm.Cond.code ({ cls := "WitnessesMustLie$Either", name := "<init>", desc := "(I)V" } : Jvm.MethodName) prog_5_method_1_code (2 : Nat) (Option.none : Option Jvm.ClassFile.FieldType)) ∈ ab_Tg := ab_t1 188 rfl rfl
theorem tw_192 : (Jvm.Cond.methodLink "WitnessesMustLie$Either" (1 : Nat) ({ cls := "WitnessesMustLie$Both", name := "<init>", desc := "(I)V" } : Jvm.MethodName)) ∈ ab_Tg := ab_t1 189 rfl rfl
theorem tw_193 : (Jvm.Cond.laysFinal "WitnessesMustLie$Either" "WitnessesMustLie$Says" "number" "I") ∈ ab_Tg := ab_t1 190 rfl rfl
theorem tw_194 : (Jvm.Cond.superclass "WitnessesMustLie$Either" "WitnessesMustLie$Both") ∈ ab_Tg := ab_t1 191 rfl rfl
theorem tw_195 : (Jvm.Cond.classLink "WitnessesMustLie" (60 : Nat) "WitnessesMustLie$If") ∈ ab_Tg := ab_t1 192 rfl rfl
theorem tw_196 : (Jvm.Cond.instantiable "WitnessesMustLie$If" (1 : Nat)) ∈ ab_Tg := ab_t1 193 rfl rfl
theorem tw_197 : (Jvm.Cond.methodLink "WitnessesMustLie" (62 : Nat) ({ cls := "WitnessesMustLie$If", name := "<init>", desc := "(I)V" } : Jvm.MethodName)) ∈ ab_Tg := ab_t1 194 rfl rfl
theorem tw_198 : (Jvm.Cond.instanceMethod ({ cls := "WitnessesMustLie$If", name := "<init>", desc := "(I)V" } : Jvm.MethodName)) ∈ ab_Tg := ab_t1 195 rfl rfl
theorem tw_199 : (Jvm.Cond.code ({ cls := "WitnessesMustLie$If", name := "<init>", desc := "(I)V" } : Jvm.MethodName) prog_7_method_1_code (2 : Nat) (Option.none : Option Jvm.ClassFile.FieldType)) ∈ ab_Tg := ab_t1 196 rfl rfl
theorem tw_200 : (Jvm.Cond.methodLink "WitnessesMustLie$If" (1 : Nat) ({ cls := "WitnessesMustLie$Either", name := "<init>", desc := "(I)V" } : Jvm.MethodName)) ∈ ab_Tg := ab_t1 197 rfl rfl
theorem tw_201 : (Jvm.Cond.laysFinal "WitnessesMustLie$If" "WitnessesMustLie$Says" "number" "I") ∈ ab_Tg := ab_t1 198 rfl rfl
theorem tw_202 : (Jvm.Cond.superclass "WitnessesMustLie$If" "WitnessesMustLie$Either") ∈ ab_Tg := ab_t1 199 rfl rfl
theorem tw_203 : (Jvm.Cond.classLink "WitnessesMustLie" (63 : Nat) "WitnessesMustLie$Alike") ∈ ab_Tg := ab_t1 200 rfl rfl
theorem tw_204 : (Jvm.Cond.instantiable "WitnessesMustLie$Alike" (1 : Nat)) ∈ ab_Tg := ab_t1 201 rfl rfl
theorem tw_205 : (Jvm.Cond.methodLink "WitnessesMustLie" (65 : Nat) ({ cls := "WitnessesMustLie$Alike", name := "<init>", desc := "(I)V" } : Jvm.MethodName)) ∈ ab_Tg := ab_t1 202 rfl rfl
theorem tw_206 : (Jvm.Cond.instanceMethod ({ cls := "WitnessesMustLie$Alike", name := "<init>", desc := "(I)V" } : Jvm.MethodName)) ∈ ab_Tg := ab_t1 203 rfl rfl
theorem tw_207 : (Jvm.Cond.code ({ cls := "WitnessesMustLie$Alike", name := "<init>", desc := "(I)V" } : Jvm.MethodName) prog_2_method_1_code (2 : Nat) (Option.none : Option Jvm.ClassFile.FieldType)) ∈ ab_Tg := ab_t1 204 rfl rfl
theorem tw_208 : (Jvm.Cond.methodLink "WitnessesMustLie$Alike" (1 : Nat) ({ cls := "WitnessesMustLie$Both", name := "<init>", desc := "(I)V" } : Jvm.MethodName)) ∈ ab_Tg := ab_t1 205 rfl rfl
theorem tw_209 : (Jvm.Cond.laysFinal "WitnessesMustLie$Alike" "WitnessesMustLie$Says" "number" "I") ∈ ab_Tg := ab_t1 206 rfl rfl
theorem tw_210 : (Jvm.Cond.superclass "WitnessesMustLie$Alike" "WitnessesMustLie$Both") ∈ ab_Tg := ab_t1 207 rfl rfl
theorem tw_211 : (Jvm.Cond.classLink "WitnessesMustLie" (66 : Nat) "WitnessesMustLie$Expert") ∈ ab_Tg := ab_t1 208 rfl rfl
theorem tw_212 : (Jvm.Cond.instantiable "WitnessesMustLie$Expert" (1 : Nat)) ∈ ab_Tg := ab_t1 209 rfl rfl
theorem tw_213 : (Jvm.Cond.methodLink "WitnessesMustLie" (68 : Nat) ({ cls := "WitnessesMustLie$Expert", name := "<init>", desc := "(I)V" } : Jvm.MethodName)) ∈ ab_Tg := ab_t1 210 rfl rfl
theorem tw_214 : (Jvm.Cond.instanceMethod ({ cls := "WitnessesMustLie$Expert", name := "<init>", desc := "(I)V" } : Jvm.MethodName)) ∈ ab_Tg := ab_t1 211 rfl rfl
theorem tw_215 : (Jvm.Cond.code ({ cls := "WitnessesMustLie$Expert", name := "<init>", desc := "(I)V" } : Jvm.MethodName) prog_6_method_1_code (2 : Nat) (Option.none : Option Jvm.ClassFile.FieldType)) ∈ ab_Tg := ab_t1 212 rfl rfl
theorem tw_216 : (Jvm.Cond.methodLink "WitnessesMustLie$Expert" (1 : Nat) ({ cls := "WitnessesMustLie$Denies", name := "<init>", desc := "(I)V" } : Jvm.MethodName)) ∈ ab_Tg := ab_t1 213 rfl rfl
theorem tw_217 : (Jvm.Cond.laysFinal "WitnessesMustLie$Expert" "WitnessesMustLie$Says" "number" "I") ∈ ab_Tg := ab_t1 214 rfl rfl
theorem tw_218 : (Jvm.Cond.superclass "WitnessesMustLie$Expert" "WitnessesMustLie$Denies") ∈ ab_Tg := ab_t1 215 rfl rfl
theorem tw_219 : (Jvm.Cond.classLink "WitnessesMustLie" (69 : Nat) "WitnessesMustLie$Poet") ∈ ab_Tg := ab_t1 216 rfl rfl
theorem tw_220 : (Jvm.Cond.instantiable "WitnessesMustLie$Poet" (1 : Nat)) ∈ ab_Tg := ab_t1 217 rfl rfl
theorem tw_221 : (Jvm.Cond.methodLink "WitnessesMustLie" (71 : Nat) ({ cls := "WitnessesMustLie$Poet", name := "<init>", desc := "(I)V" } : Jvm.MethodName)) ∈ ab_Tg := ab_t1 218 rfl rfl
theorem tw_222 : (Jvm.Cond.instanceMethod ({ cls := "WitnessesMustLie$Poet", name := "<init>", desc := "(I)V" } : Jvm.MethodName)) ∈ ab_Tg := ab_t1 219 rfl rfl
theorem tw_223 : (Jvm.Cond.code ({ cls := "WitnessesMustLie$Poet", name := "<init>", desc := "(I)V" } : Jvm.MethodName) prog_8_method_1_code (2 : Nat) (Option.none : Option Jvm.ClassFile.FieldType)) ∈ ab_Tg := ab_t1 220 rfl rfl
theorem tw_224 : (Jvm.Cond.methodLink "WitnessesMustLie$Poet" (3 : Nat) ({ cls := "WitnessesMustLie$Either", name := "<init>", desc := "(I)V" } : Jvm.MethodName)) ∈ ab_Tg := ab_t1 221 rfl rfl
theorem tw_225 : (Jvm.Cond.laysFinal "WitnessesMustLie$Poet" "WitnessesMustLie$Says" "number" "I") ∈ ab_Tg := ab_t1 222 rfl rfl
theorem tw_226 : (Jvm.Cond.superclass "WitnessesMustLie$Poet" "WitnessesMustLie$Either") ∈ ab_Tg := ab_t1 223 rfl rfl
theorem tw_227 : (Jvm.Cond.instantiable "WitnessesMustLie$Shelf" (6 : Nat)) ∈ ab_Tg := ab_t1 224 rfl rfl
theorem tw_228 : (Jvm.Cond.methodLink "WitnessesMustLie" (72 : Nat) ({ cls := "WitnessesMustLie$Shelf", name := "<init>", desc := "(LWitnessesMustLie$Says;)V" } : Jvm.MethodName)) ∈ ab_Tg := ab_t1 225 rfl rfl
theorem tw_229 : (Jvm.Cond.instanceMethod ({ cls := "WitnessesMustLie$Shelf", name := "<init>", desc := "(LWitnessesMustLie$Says;)V" } : Jvm.MethodName)) ∈ ab_Tg := ab_t1 226 rfl rfl
theorem tw_230 : (Jvm.Cond.code ({ cls := "WitnessesMustLie$Shelf", name := "<init>", desc := "(LWitnessesMustLie$Says;)V" } : Jvm.MethodName) prog_11_method_1_code (2 : Nat) (Option.none : Option Jvm.ClassFile.FieldType)) ∈ ab_Tg := ab_t1 227 rfl rfl
theorem tw_231 : (Jvm.Cond.methodLink "WitnessesMustLie$Shelf" (3 : Nat) ({ cls := "java/lang/Object", name := "<init>", desc := "()V" } : Jvm.MethodName)) ∈ ab_Tg := ab_t1 228 rfl rfl
theorem tw_232 : (Jvm.Cond.fieldLink "WitnessesMustLie$Shelf" (9 : Nat) "WitnessesMustLie$Shelf" "numbers" "[I") ∈ ab_Tg := ab_t1 229 rfl rfl
theorem tw_233 : (Jvm.Cond.fieldLink "WitnessesMustLie$Shelf" (19 : Nat) "WitnessesMustLie$Shelf" "holds" "I") ∈ ab_Tg := ab_t1 230 rfl rfl
theorem tw_234 : (Jvm.Cond.fieldLink "WitnessesMustLie$Shelf" (15 : Nat) "WitnessesMustLie$Shelf" "kind" "LWitnessesMustLie$Says;") ∈ ab_Tg := ab_t1 231 rfl rfl
theorem tw_235 : (Jvm.Cond.fieldLinkNest "WitnessesMustLie" (148 : Nat) "WitnessesMustLie$Shelf" "kind" "LWitnessesMustLie$Says;" "WitnessesMustLie") ∈ ab_Tn := ab_n1 232 rfl rfl
theorem tw_236 : (Jvm.Cond.fieldLink "WitnessesMustLie$Shelf" (23 : Nat) "WitnessesMustLie$Shelf" "figure" "I") ∈ ab_Tg := ab_t1 233 rfl rfl
theorem tw_237 : (Jvm.Cond.fieldLinkNest "WitnessesMustLie" (152 : Nat) "WitnessesMustLie$Shelf" "figure" "I" "WitnessesMustLie") ∈ ab_Tn := ab_n1 234 rfl rfl
theorem tw_238 : (Jvm.Cond.fieldLinkNest "WitnessesMustLie" (83 : Nat) "WitnessesMustLie$Shelf" "sort" "I" "WitnessesMustLie") ∈ ab_Tn := ab_n1 235 rfl rfl
theorem tw_239 : (Jvm.Cond.fieldLink "WitnessesMustLie$Shelf" (26 : Nat) "WitnessesMustLie$Shelf" "sort" "I") ∈ ab_Tg := ab_t1 236 rfl rfl
theorem tw_240 : (Jvm.Cond.fieldLink "WitnessesMustLie$Shelf" (29 : Nat) "WitnessesMustLie$Shelf" "length" "I") ∈ ab_Tg := ab_t1 237 rfl rfl
theorem tw_241 : (Jvm.Cond.fieldLinkNest "WitnessesMustLie" (304 : Nat) "WitnessesMustLie$Shelf" "length" "I" "WitnessesMustLie") ∈ ab_Tn := ab_n1 238 rfl rfl
theorem tw_242 : (Jvm.Cond.laysFinal "WitnessesMustLie$Shelf" "WitnessesMustLie$Shelf" "numbers" "[I") ∈ ab_Tg := ab_t1 239 rfl rfl
theorem tw_243 : (Jvm.Cond.lays "WitnessesMustLie$Shelf" "WitnessesMustLie$Shelf" "holds" "I") ∈ ab_Tg := ab_t2 1 rfl rfl
theorem tw_244 : (Jvm.Cond.lays "WitnessesMustLie$Shelf" "WitnessesMustLie$Shelf" "kind" "LWitnessesMustLie$Says;") ∈ ab_Tg := ab_t2 3 rfl rfl
theorem tw_245 : (Jvm.Cond.lays "WitnessesMustLie$Shelf" "WitnessesMustLie$Shelf" "figure" "I") ∈ ab_Tg := ab_t2 5 rfl rfl
theorem tw_246 : (Jvm.Cond.lays "WitnessesMustLie$Shelf" "WitnessesMustLie$Shelf" "sort" "I") ∈ ab_Tg := ab_t2 7 rfl rfl
theorem tw_247 : (Jvm.Cond.lays "WitnessesMustLie$Shelf" "WitnessesMustLie$Shelf" "length" "I") ∈ ab_Tg := ab_t2 9 rfl rfl
theorem tw_248 : (Jvm.Cond.superclass "WitnessesMustLie$Shelf" "java/lang/Object") ∈ ab_Tg := ab_t2 11 rfl rfl
theorem tw_249 : (Jvm.Cond.fieldLink "WitnessesMustLie" (12 : Nat) "WitnessesMustLie" "kinds" "Ljava/util/ArrayList;") ∈ ab_Tg := ab_t2 12 rfl rfl
theorem tw_250 : (Jvm.Cond.fieldLink "WitnessesMustLie" (18 : Nat) "WitnessesMustLie" "shelves" "[LWitnessesMustLie$Shelf;") ∈ ab_Tg := ab_t2 13 rfl rfl
theorem tw_251 : (Jvm.Cond.fieldLink "WitnessesMustLie" (25 : Nat) "WitnessesMustLie" "court" "LWitnessesMustLie$Trial;") ∈ ab_Tg := ab_t2 14 rfl rfl
theorem tw_252 : (Jvm.Cond.fieldLink "WitnessesMustLie" (29 : Nat) "WitnessesMustLie" "kept" "LWitnessesMustLie$Trial;") ∈ ab_Tg := ab_t2 15 rfl rfl
theorem tw_253 : (Jvm.Cond.fieldLink "WitnessesMustLie" (32 : Nat) "WitnessesMustLie" "tried" "LWitnessesMustLie$Trial;") ∈ ab_Tg := ab_t2 16 rfl rfl
theorem tw_254 : (Jvm.Cond.fieldLink "WitnessesMustLie" (327 : Nat) "WitnessesMustLie" "isKept" "Z") ∈ ab_Tg := ab_t2 17 rfl rfl
theorem tw_255 : (Jvm.Cond.fieldLink "WitnessesMustLie" (35 : Nat) "WitnessesMustLie" "oneLies" "[J") ∈ ab_Tg := ab_t2 18 rfl rfl
theorem tw_256 : (Jvm.Cond.fieldLink "WitnessesMustLie" (39 : Nat) "WitnessesMustLie" "otherLies" "[J") ∈ ab_Tg := ab_t2 19 rfl rfl
theorem tw_257 : (Jvm.Cond.laysFinal "WitnessesMustLie" "WitnessesMustLie" "kinds" "Ljava/util/ArrayList;") ∈ ab_Tg := ab_t2 20 rfl rfl
theorem tw_258 : (Jvm.Cond.laysFinal "WitnessesMustLie" "WitnessesMustLie" "shelves" "[LWitnessesMustLie$Shelf;") ∈ ab_Tg := ab_t2 22 rfl rfl
theorem tw_259 : (Jvm.Cond.laysFinal "WitnessesMustLie" "WitnessesMustLie" "court" "LWitnessesMustLie$Trial;") ∈ ab_Tg := ab_t2 24 rfl rfl
theorem tw_260 : (Jvm.Cond.laysFinal "WitnessesMustLie" "WitnessesMustLie" "kept" "LWitnessesMustLie$Trial;") ∈ ab_Tg := ab_t2 26 rfl rfl
theorem tw_261 : (Jvm.Cond.laysFinal "WitnessesMustLie" "WitnessesMustLie" "tried" "LWitnessesMustLie$Trial;") ∈ ab_Tg := ab_t2 28 rfl rfl
theorem tw_262 : (Jvm.Cond.lays "WitnessesMustLie" "WitnessesMustLie" "isKept" "Z") ∈ ab_Tg := ab_t2 30 rfl rfl
theorem tw_263 : (Jvm.Cond.laysFinal "WitnessesMustLie" "WitnessesMustLie" "oneLies" "[J") ∈ ab_Tg := ab_t2 32 rfl rfl
theorem tw_264 : (Jvm.Cond.laysFinal "WitnessesMustLie" "WitnessesMustLie" "otherLies" "[J") ∈ ab_Tg := ab_t2 34 rfl rfl
theorem tw_265 : (Jvm.Cond.superclass "WitnessesMustLie" "java/lang/Object") ∈ ab_Tg := ab_t2 36 rfl rfl
theorem tw_266 : (Jvm.Cond.methodLink "WitnessesMustLieLaw" (137 : Nat) ({ cls := "WitnessesMustLie", name := "trial", desc := "(I)I" } : Jvm.MethodName)) ∈ ab_Tg := ab_t2 37 rfl rfl
theorem tw_267 : (Jvm.Cond.instanceMethod ({ cls := "WitnessesMustLie", name := "trial", desc := "(I)I" } : Jvm.MethodName)) ∈ ab_Tg := ab_t2 38 rfl rfl
theorem tw_268 : (Jvm.Cond.selects "WitnessesMustLie" ({ cls := "WitnessesMustLie", name := "trial", desc := "(I)I" } : Jvm.MethodName) ({ cls := "WitnessesMustLie", name := "trial", desc := "(I)I" } : Jvm.MethodName)) ∈ ab_Tg := ab_t2 39 rfl rfl
theorem tw_269 : (Jvm.Cond.code ({ cls := "WitnessesMustLie", name := "trial", desc := "(I)I" } : Jvm.MethodName) prog_1_method_2_code (5 : Nat) (Option.some Jvm.ClassFile.FieldType.int)) ∈ ab_Tg := ab_t2 40 rfl rfl
theorem tw_270 : (Jvm.Cond.methodLink "WitnessesMustLie" (75 : Nat) ({ cls := "WitnessesMustLie", name := "shelfAt", desc := "(I)LWitnessesMustLie$Shelf;" } : Jvm.MethodName)) ∈ ab_Tg := ab_t2 41 rfl rfl
theorem tw_271 : (Jvm.Cond.instanceMethod ({ cls := "WitnessesMustLie", name := "shelfAt", desc := "(I)LWitnessesMustLie$Shelf;" } : Jvm.MethodName)) ∈ ab_Tg := ab_t2 43 rfl rfl
theorem tw_272 : (Jvm.Cond.code ({ cls := "WitnessesMustLie", name := "shelfAt", desc := "(I)LWitnessesMustLie$Shelf;" } : Jvm.MethodName) prog_1_method_51_code (2 : Nat) (Option.some (Jvm.ClassFile.FieldType.object "WitnessesMustLie$Shelf"))) ∈ ab_Tg := ab_t2 44 rfl rfl
theorem tw_273 : (Jvm.Cond.methodLink "WitnessesMustLie" (79 : Nat) ({ cls := "WitnessesMustLie$Shelf", name := "refusalAsRow", desc := "()I" } : Jvm.MethodName)) ∈ ab_Tg := ab_t2 45 rfl rfl
theorem tw_274 : (Jvm.Cond.instanceMethod ({ cls := "WitnessesMustLie$Shelf", name := "refusalAsRow", desc := "()I" } : Jvm.MethodName)) ∈ ab_Tg := ab_t2 46 rfl rfl
theorem tw_275 : (Jvm.Cond.selects "WitnessesMustLie$Shelf" ({ cls := "WitnessesMustLie$Shelf", name := "refusalAsRow", desc := "()I" } : Jvm.MethodName) ({ cls := "WitnessesMustLie$Shelf", name := "refusalAsRow", desc := "()I" } : Jvm.MethodName)) ∈ ab_Tg := ab_t2 47 rfl rfl
theorem tw_276 : (Jvm.Cond.code ({ cls := "WitnessesMustLie$Shelf", name := "refusalAsRow", desc := "()I" } : Jvm.MethodName) prog_11_method_7_code (1 : Nat) (Option.some Jvm.ClassFile.FieldType.int)) ∈ ab_Tg := ab_t2 48 rfl rfl
theorem tw_277 : (Jvm.Cond.methodLink "WitnessesMustLie$Shelf" (32 : Nat) ({ cls := "WitnessesMustLie$Shelf", name := "refusalUnless", desc := "(I)I" } : Jvm.MethodName)) ∈ ab_Tg := ab_t2 49 rfl rfl
theorem tw_278 : (Jvm.Cond.instanceMethod ({ cls := "WitnessesMustLie$Shelf", name := "refusalUnless", desc := "(I)I" } : Jvm.MethodName)) ∈ ab_Tg := ab_t2 51 rfl rfl
theorem tw_279 : (Jvm.Cond.code ({ cls := "WitnessesMustLie$Shelf", name := "refusalUnless", desc := "(I)I" } : Jvm.MethodName) prog_11_method_8_code (2 : Nat) (Option.some Jvm.ClassFile.FieldType.int)) ∈ ab_Tg := ab_t2 52 rfl rfl
theorem tw_280 : (Jvm.Cond.methodLink "WitnessesMustLie$Shelf" (36 : Nat) ({ cls := "WitnessesMustLie$Shelf", name := "isEmpty", desc := "()Z" } : Jvm.MethodName)) ∈ ab_Tg := ab_t2 53 rfl rfl
theorem tw_281 : (Jvm.Cond.instanceMethod ({ cls := "WitnessesMustLie$Shelf", name := "isEmpty", desc := "()Z" } : Jvm.MethodName)) ∈ ab_Tg := ab_t2 54 rfl rfl
theorem tw_282 : (Jvm.Cond.selects "WitnessesMustLie$Shelf" ({ cls := "WitnessesMustLie$Shelf", name := "isEmpty", desc := "()Z" } : Jvm.MethodName) ({ cls := "WitnessesMustLie$Shelf", name := "isEmpty", desc := "()Z" } : Jvm.MethodName)) ∈ ab_Tg := ab_t2 55 rfl rfl
theorem tw_283 : (Jvm.Cond.code ({ cls := "WitnessesMustLie$Shelf", name := "isEmpty", desc := "()Z" } : Jvm.MethodName) prog_11_method_5_code (1 : Nat) (Option.some Jvm.ClassFile.FieldType.boolean)) ∈ ab_Tg := ab_t2 56 rfl rfl
theorem tw_284 : (Jvm.Cond.methodLink "WitnessesMustLie" (87 : Nat) ({ cls := "WitnessesMustLie", name := "brokenPlace", desc := "(LWitnessesMustLie$Shelf;)I" } : Jvm.MethodName)) ∈ ab_Tg := ab_t2 57 rfl rfl
theorem tw_285 : (Jvm.Cond.static ({ cls := "WitnessesMustLie", name := "brokenPlace", desc := "(LWitnessesMustLie$Shelf;)I" } : Jvm.MethodName)) ∈ ab_Tg := ab_t2 58 rfl rfl
theorem tw_286 : (Jvm.Cond.code ({ cls := "WitnessesMustLie", name := "brokenPlace", desc := "(LWitnessesMustLie$Shelf;)I" } : Jvm.MethodName) prog_1_method_63_code (4 : Nat) (Option.some Jvm.ClassFile.FieldType.int)) ∈ ab_Tg := ab_t2 59 rfl rfl
theorem tw_287 : (Jvm.Cond.methodLink "WitnessesMustLie" (314 : Nat) ({ cls := "WitnessesMustLie$Shelf", name := "numberAt", desc := "(I)I" } : Jvm.MethodName)) ∈ ab_Tg := ab_t2 60 rfl rfl
theorem tw_288 : (Jvm.Cond.instanceMethod ({ cls := "WitnessesMustLie$Shelf", name := "numberAt", desc := "(I)I" } : Jvm.MethodName)) ∈ ab_Tg := ab_t2 61 rfl rfl
theorem tw_289 : (Jvm.Cond.selects "WitnessesMustLie$Shelf" ({ cls := "WitnessesMustLie$Shelf", name := "numberAt", desc := "(I)I" } : Jvm.MethodName) ({ cls := "WitnessesMustLie$Shelf", name := "numberAt", desc := "(I)I" } : Jvm.MethodName)) ∈ ab_Tg := ab_t2 62 rfl rfl
theorem tw_290 : (Jvm.Cond.code ({ cls := "WitnessesMustLie$Shelf", name := "numberAt", desc := "(I)I" } : Jvm.MethodName) prog_11_method_11_code (2 : Nat) (Option.some Jvm.ClassFile.FieldType.int)) ∈ ab_Tg := ab_t2 63 rfl rfl
theorem tw_291 : (Jvm.Cond.methodLink "WitnessesMustLie$Shelf" (46 : Nat) ({ cls := "WitnessesMustLie$Shelf", name := "hasPlaces", desc := "(II)Z" } : Jvm.MethodName)) ∈ ab_Tg := ab_t2 64 rfl rfl
theorem tw_292 : (Jvm.Cond.instanceMethod ({ cls := "WitnessesMustLie$Shelf", name := "hasPlaces", desc := "(II)Z" } : Jvm.MethodName)) ∈ ab_Tg := ab_t2 65 rfl rfl
theorem tw_293 : (Jvm.Cond.selects "WitnessesMustLie$Shelf" ({ cls := "WitnessesMustLie$Shelf", name := "hasPlaces", desc := "(II)Z" } : Jvm.MethodName) ({ cls := "WitnessesMustLie$Shelf", name := "hasPlaces", desc := "(II)Z" } : Jvm.MethodName)) ∈ ab_Tg := ab_t2 66 rfl rfl
theorem tw_294 : (Jvm.Cond.code ({ cls := "WitnessesMustLie$Shelf", name := "hasPlaces", desc := "(II)Z" } : Jvm.MethodName) prog_11_method_10_code (3 : Nat) (Option.some Jvm.ClassFile.FieldType.boolean)) ∈ ab_Tg := ab_t2 67 rfl rfl
theorem tw_295 : (Jvm.Cond.methodLink "WitnessesMustLie" (405 : Nat) ({ cls := "WitnessesMustLie", name := "digitsBehind", desc := "(I)I" } : Jvm.MethodName)) ∈ ab_Tg := ab_t2 68 rfl rfl
theorem tw_296 : (Jvm.Cond.static ({ cls := "WitnessesMustLie", name := "digitsBehind", desc := "(I)I" } : Jvm.MethodName)) ∈ ab_Tg := ab_t2 69 rfl rfl
theorem tw_297 : (Jvm.Cond.code ({ cls := "WitnessesMustLie", name := "digitsBehind", desc := "(I)I" } : Jvm.MethodName) prog_1_method_64_code (1 : Nat) (Option.some Jvm.ClassFile.FieldType.int)) ∈ ab_Tg := ab_t2 70 rfl rfl
theorem tw_298 : (Jvm.Cond.methodLink "WitnessesMustLie" (408 : Nat) ({ cls := "WitnessesMustLie", name := "isDigit", desc := "(I)Z" } : Jvm.MethodName)) ∈ ab_Tg := ab_t2 71 rfl rfl
theorem tw_299 : (Jvm.Cond.static ({ cls := "WitnessesMustLie", name := "isDigit", desc := "(I)Z" } : Jvm.MethodName)) ∈ ab_Tg := ab_t2 72 rfl rfl
theorem tw_300 : (Jvm.Cond.code ({ cls := "WitnessesMustLie", name := "isDigit", desc := "(I)Z" } : Jvm.MethodName) prog_1_method_65_code (1 : Nat) (Option.some Jvm.ClassFile.FieldType.boolean)) ∈ ab_Tg := ab_t2 73 rfl rfl
theorem tw_301 : (Jvm.Cond.methodLink "WitnessesMustLie" (91 : Nat) ({ cls := "WitnessesMustLie", name := "enact", desc := "(LWitnessesMustLie$Shelf;)I" } : Jvm.MethodName)) ∈ ab_Tg := ab_t2 74 rfl rfl
theorem tw_302 : (Jvm.Cond.instanceMethod ({ cls := "WitnessesMustLie", name := "enact", desc := "(LWitnessesMustLie$Shelf;)I" } : Jvm.MethodName)) ∈ ab_Tg := ab_t2 76 rfl rfl
theorem tw_303 : (Jvm.Cond.code ({ cls := "WitnessesMustLie", name := "enact", desc := "(LWitnessesMustLie$Shelf;)I" } : Jvm.MethodName) prog_1_method_68_code (4 : Nat) (Option.some Jvm.ClassFile.FieldType.int)) ∈ ab_Tg := ab_t2 77 rfl rfl
theorem tw_304 : (Jvm.Cond.methodLink "WitnessesMustLie" (323 : Nat) ({ cls := "WitnessesMustLie$Trial", name := "becomes", desc := "(LWitnessesMustLie$Trial;)V" } : Jvm.MethodName)) ∈ ab_Tg := ab_t2 78 rfl rfl
theorem tw_305 : (Jvm.Cond.instanceMethod ({ cls := "WitnessesMustLie$Trial", name := "becomes", desc := "(LWitnessesMustLie$Trial;)V" } : Jvm.MethodName)) ∈ ab_Tg := ab_t2 79 rfl rfl
theorem tw_306 : (Jvm.Cond.selects "WitnessesMustLie$Trial" ({ cls := "WitnessesMustLie$Trial", name := "becomes", desc := "(LWitnessesMustLie$Trial;)V" } : Jvm.MethodName) ({ cls := "WitnessesMustLie$Trial", name := "becomes", desc := "(LWitnessesMustLie$Trial;)V" } : Jvm.MethodName)) ∈ ab_Tg := ab_t2 80 rfl rfl
theorem tw_307 : (Jvm.Cond.code ({ cls := "WitnessesMustLie$Trial", name := "becomes", desc := "(LWitnessesMustLie$Trial;)V" } : Jvm.MethodName) prog_12_method_2_code (3 : Nat) (Option.none : Option Jvm.ClassFile.FieldType)) ∈ ab_Tg := ab_t2 81 rfl rfl
theorem tw_308 : (Jvm.Cond.methodLink "WitnessesMustLie$Trial" (25 : Nat) ({ cls := "WitnessesMustLie$Trial", name := "refill", desc := "(Ljava/util/ArrayList;Ljava/util/ArrayList;)V" } : Jvm.MethodName)) ∈ ab_Tg := ab_t2 82 rfl rfl
theorem tw_309 : (Jvm.Cond.static ({ cls := "WitnessesMustLie$Trial", name := "refill", desc := "(Ljava/util/ArrayList;Ljava/util/ArrayList;)V" } : Jvm.MethodName)) ∈ ab_Tg := ab_t2 83 rfl rfl
theorem tw_310 : (Jvm.Cond.code ({ cls := "WitnessesMustLie$Trial", name := "refill", desc := "(Ljava/util/ArrayList;Ljava/util/ArrayList;)V" } : Jvm.MethodName) prog_12_method_3_code (3 : Nat) (Option.none : Option Jvm.ClassFile.FieldType)) ∈ ab_Tg := ab_t2 84 rfl rfl
theorem tw_311 : (Jvm.Cond.methodLink "WitnessesMustLie$Trial" (40 : Nat) ({ cls := "java/util/ArrayList", name := "clear", desc := "()V" } : Jvm.MethodName)) ∈ ab_Tg := ab_t2 85 rfl rfl
theorem tw_312 : (Jvm.Cond.instanceMethod ({ cls := "java/util/ArrayList", name := "clear", desc := "()V" } : Jvm.MethodName)) ∈ ab_Tg := ab_t2 86 rfl rfl
theorem tw_313 : (Jvm.Cond.selects "java/util/ArrayList" ({ cls := "java/util/ArrayList", name := "clear", desc := "()V" } : Jvm.MethodName) ({ cls := "java/util/ArrayList", name := "clear", desc := "()V" } : Jvm.MethodName)) ∈ ab_Tg := ab_t2 87 rfl rfl
theorem tw_314 : (Jvm.Cond.code ({ cls := "java/util/ArrayList", name := "clear", desc := "()V" } : Jvm.MethodName) prog_30_method_40_code (4 : Nat) (Option.none : Option Jvm.ClassFile.FieldType)) ∈ ab_Tg := ab_t2 88 rfl rfl
theorem tw_315 : (Jvm.Cond.methodLink "WitnessesMustLie$Trial" (43 : Nat) ({ cls := "java/util/ArrayList", name := "size", desc := "()I" } : Jvm.MethodName)) ∈ ab_Tg := ab_t2 89 rfl rfl
theorem tw_316 : (Jvm.Cond.instanceMethod ({ cls := "java/util/ArrayList", name := "size", desc := "()I" } : Jvm.MethodName)) ∈ ab_Tg := ab_t2 90 rfl rfl
theorem tw_317 : (Jvm.Cond.selects "java/util/ArrayList" ({ cls := "java/util/ArrayList", name := "size", desc := "()I" } : Jvm.MethodName) ({ cls := "java/util/ArrayList", name := "size", desc := "()I" } : Jvm.MethodName)) ∈ ab_Tg := ab_t2 91 rfl rfl
theorem tw_318 : (Jvm.Cond.code ({ cls := "java/util/ArrayList", name := "size", desc := "()I" } : Jvm.MethodName) prog_30_method_8_code (1 : Nat) (Option.some Jvm.ClassFile.FieldType.int)) ∈ ab_Tg := ab_t2 92 rfl rfl
theorem tw_319 : (Jvm.Cond.methodLink "WitnessesMustLie$Trial" (47 : Nat) ({ cls := "java/util/ArrayList", name := "get", desc := "(I)Ljava/lang/Object;" } : Jvm.MethodName)) ∈ ab_Tg := ab_t2 93 rfl rfl
theorem tw_320 : (Jvm.Cond.instanceMethod ({ cls := "java/util/ArrayList", name := "get", desc := "(I)Ljava/lang/Object;" } : Jvm.MethodName)) ∈ ab_Tg := ab_t2 94 rfl rfl
theorem tw_321 : (Jvm.Cond.selects "java/util/ArrayList" ({ cls := "java/util/ArrayList", name := "get", desc := "(I)Ljava/lang/Object;" } : Jvm.MethodName) ({ cls := "java/util/ArrayList", name := "get", desc := "(I)Ljava/lang/Object;" } : Jvm.MethodName)) ∈ ab_Tg := ab_t2 95 rfl rfl
theorem tw_322 : (Jvm.Cond.code ({ cls := "java/util/ArrayList", name := "get", desc := "(I)Ljava/lang/Object;" } : Jvm.MethodName) prog_30_method_20_code (2 : Nat) (Option.some (Jvm.ClassFile.FieldType.object "java/lang/Object"))) ∈ ab_Tg := ab_t2 96 rfl rfl
theorem tw_323 : (Jvm.Cond.methodLink "java/util/ArrayList" (118 : Nat) ({ cls := "java/util/Objects", name := "checkIndex", desc := "(II)I" } : Jvm.MethodName)) ∈ ab_Tg := ab_t2 97 rfl rfl
theorem tw_324 : (Jvm.Cond.static ({ cls := "java/util/Objects", name := "checkIndex", desc := "(II)I" } : Jvm.MethodName)) ∈ ab_Tg := ab_t2 98 rfl rfl
theorem tw_325 : (Jvm.Cond.code ({ cls := "java/util/Objects", name := "checkIndex", desc := "(II)I" } : Jvm.MethodName) prog_34_method_17_code (2 : Nat) (Option.some Jvm.ClassFile.FieldType.int)) ∈ ab_Tg := ab_t2 99 rfl rfl
theorem tw_326 : (Jvm.Cond.methodLink "java/util/Objects" (105 : Nat) ({ cls := "jdk/internal/util/Preconditions", name := "checkIndex", desc := "(IILjava/util/function/BiFunction;)I" } : Jvm.MethodName)) ∈ ab_Tg := ab_t2 100 rfl rfl
theorem tw_327 : (Jvm.Cond.static ({ cls := "jdk/internal/util/Preconditions", name := "checkIndex", desc := "(IILjava/util/function/BiFunction;)I" } : Jvm.MethodName)) ∈ ab_Tg := ab_t2 101 rfl rfl
theorem tw_328 : (Jvm.Cond.code ({ cls := "jdk/internal/util/Preconditions", name := "checkIndex", desc := "(IILjava/util/function/BiFunction;)I" } : Jvm.MethodName) prog_38_method_11_code (3 : Nat) (Option.some Jvm.ClassFile.FieldType.int)) ∈ ab_Tg := ab_t2 102 rfl rfl
theorem tw_329 : (Jvm.Cond.methodLink "java/util/ArrayList" (123 : Nat) ({ cls := "java/util/ArrayList", name := "elementData", desc := "(I)Ljava/lang/Object;" } : Jvm.MethodName)) ∈ ab_Tg := ab_t2 103 rfl rfl
theorem tw_330 : (Jvm.Cond.instanceMethod ({ cls := "java/util/ArrayList", name := "elementData", desc := "(I)Ljava/lang/Object;" } : Jvm.MethodName)) ∈ ab_Tg := ab_t2 104 rfl rfl
theorem tw_331 : (Jvm.Cond.selects "java/util/ArrayList" ({ cls := "java/util/ArrayList", name := "elementData", desc := "(I)Ljava/lang/Object;" } : Jvm.MethodName) ({ cls := "java/util/ArrayList", name := "elementData", desc := "(I)Ljava/lang/Object;" } : Jvm.MethodName)) ∈ ab_Tg := ab_t2 105 rfl rfl
theorem tw_332 : (Jvm.Cond.code ({ cls := "java/util/ArrayList", name := "elementData", desc := "(I)Ljava/lang/Object;" } : Jvm.MethodName) prog_30_method_18_code (2 : Nat) (Option.some (Jvm.ClassFile.FieldType.object "java/lang/Object"))) ∈ ab_Tg := ab_t2 106 rfl rfl
theorem tw_333 : (Jvm.Cond.classLink "WitnessesMustLie$Trial" (51 : Nat) "WitnessesMustLie$Saying") ∈ ab_Tg := ab_t2 107 rfl rfl
theorem tw_334 : (Jvm.Cond.methodLink "WitnessesMustLie$Trial" (53 : Nat) ({ cls := "java/util/ArrayList", name := "add", desc := "(Ljava/lang/Object;)Z" } : Jvm.MethodName)) ∈ ab_Tg := ab_t2 108 rfl rfl
theorem tw_335 : (Jvm.Cond.methodLink "WitnessesMustLie$Trial" (29 : Nat) ({ cls := "WitnessesMustLie$Trial", name := "knownBy", desc := "(I)I" } : Jvm.MethodName)) ∈ ab_Tg := ab_t2 109 rfl rfl
theorem tw_336 : (Jvm.Cond.instanceMethod ({ cls := "WitnessesMustLie$Trial", name := "knownBy", desc := "(I)I" } : Jvm.MethodName)) ∈ ab_Tg := ab_t2 110 rfl rfl
theorem tw_337 : (Jvm.Cond.selects "WitnessesMustLie$Trial" ({ cls := "WitnessesMustLie$Trial", name := "knownBy", desc := "(I)I" } : Jvm.MethodName) ({ cls := "WitnessesMustLie$Trial", name := "knownBy", desc := "(I)I" } : Jvm.MethodName)) ∈ ab_Tg := ab_t2 111 rfl rfl
theorem tw_338 : (Jvm.Cond.code ({ cls := "WitnessesMustLie$Trial", name := "knownBy", desc := "(I)I" } : Jvm.MethodName) prog_12_method_5_code (2 : Nat) (Option.some Jvm.ClassFile.FieldType.int)) ∈ ab_Tg := ab_t2 112 rfl rfl
theorem tw_339 : (Jvm.Cond.methodLink "WitnessesMustLie" (415 : Nat) ({ cls := "WitnessesMustLie", name := "isEnacted", desc := "(LWitnessesMustLie$Shelf;I)Z" } : Jvm.MethodName)) ∈ ab_Tg := ab_t2 113 rfl rfl
theorem tw_340 : (Jvm.Cond.instanceMethod ({ cls := "WitnessesMustLie", name := "isEnacted", desc := "(LWitnessesMustLie$Shelf;I)Z" } : Jvm.MethodName)) ∈ ab_Tg := ab_t2 115 rfl rfl
theorem tw_341 : (Jvm.Cond.code ({ cls := "WitnessesMustLie", name := "isEnacted", desc := "(LWitnessesMustLie$Shelf;I)Z" } : Jvm.MethodName) prog_1_method_69_code (3 : Nat) (Option.some Jvm.ClassFile.FieldType.boolean)) ∈ ab_Tg := ab_t2 116 rfl rfl
theorem tw_342 : (Jvm.Cond.methodLink "WitnessesMustLie" (419 : Nat) ({ cls := "WitnessesMustLie", name := "sayingAt", desc := "(LWitnessesMustLie$Shelf;II)LWitnessesMustLie$Saying;" } : Jvm.MethodName)) ∈ ab_Tg := ab_t2 117 rfl rfl
theorem tw_343 : (Jvm.Cond.instanceMethod ({ cls := "WitnessesMustLie", name := "sayingAt", desc := "(LWitnessesMustLie$Shelf;II)LWitnessesMustLie$Saying;" } : Jvm.MethodName)) ∈ ab_Tg := ab_t2 119 rfl rfl
theorem tw_344 : (Jvm.Cond.code ({ cls := "WitnessesMustLie", name := "sayingAt", desc := "(LWitnessesMustLie$Shelf;II)LWitnessesMustLie$Saying;" } : Jvm.MethodName) prog_1_method_70_code (7 : Nat) (Option.some (Jvm.ClassFile.FieldType.object "WitnessesMustLie$Saying"))) ∈ ab_Tg := ab_t2 120 rfl rfl
theorem tw_345 : (Jvm.Cond.methodLink "WitnessesMustLie" (411 : Nat) ({ cls := "WitnessesMustLie", name := "digitAt", desc := "(LWitnessesMustLie$Shelf;I)I" } : Jvm.MethodName)) ∈ ab_Tg := ab_t2 121 rfl rfl
theorem tw_346 : (Jvm.Cond.static ({ cls := "WitnessesMustLie", name := "digitAt", desc := "(LWitnessesMustLie$Shelf;I)I" } : Jvm.MethodName)) ∈ ab_Tg := ab_t2 122 rfl rfl
theorem tw_347 : (Jvm.Cond.code ({ cls := "WitnessesMustLie", name := "digitAt", desc := "(LWitnessesMustLie$Shelf;I)I" } : Jvm.MethodName) prog_1_method_66_code (2 : Nat) (Option.some Jvm.ClassFile.FieldType.int)) ∈ ab_Tg := ab_t2 123 rfl rfl
theorem tw_348 : (Jvm.Cond.methodLink "WitnessesMustLie" (337 : Nat) ({ cls := "WitnessesMustLie", name := "kindNumbered", desc := "(I)LWitnessesMustLie$Says;" } : Jvm.MethodName)) ∈ ab_Tg := ab_t2 124 rfl rfl
theorem tw_349 : (Jvm.Cond.instanceMethod ({ cls := "WitnessesMustLie", name := "kindNumbered", desc := "(I)LWitnessesMustLie$Says;" } : Jvm.MethodName)) ∈ ab_Tg := ab_t2 126 rfl rfl
theorem tw_350 : (Jvm.Cond.code ({ cls := "WitnessesMustLie", name := "kindNumbered", desc := "(I)LWitnessesMustLie$Says;" } : Jvm.MethodName) prog_1_method_52_code (2 : Nat) (Option.some (Jvm.ClassFile.FieldType.object "WitnessesMustLie$Says"))) ∈ ab_Tg := ab_t2 127 rfl rfl
theorem tw_351 : (Jvm.Cond.methodLink "WitnessesMustLie" (163 : Nat) ({ cls := "java/util/ArrayList", name := "size", desc := "()I" } : Jvm.MethodName)) ∈ ab_Tg := ab_t2 128 rfl rfl
theorem tw_352 : (Jvm.Cond.methodLink "WitnessesMustLie" (221 : Nat) ({ cls := "java/util/ArrayList", name := "get", desc := "(I)Ljava/lang/Object;" } : Jvm.MethodName)) ∈ ab_Tg := ab_t2 129 rfl rfl
theorem tw_353 : (Jvm.Cond.methodLink "WitnessesMustLie" (135 : Nat) ({ cls := "WitnessesMustLie", name := "isFact", desc := "(I)Z" } : Jvm.MethodName)) ∈ ab_Tg := ab_t2 130 rfl rfl
theorem tw_354 : (Jvm.Cond.static ({ cls := "WitnessesMustLie", name := "isFact", desc := "(I)Z" } : Jvm.MethodName)) ∈ ab_Tg := ab_t2 131 rfl rfl
theorem tw_355 : (Jvm.Cond.code ({ cls := "WitnessesMustLie", name := "isFact", desc := "(I)Z" } : Jvm.MethodName) prog_1_method_45_code (1 : Nat) (Option.some Jvm.ClassFile.FieldType.boolean)) ∈ ab_Tg := ab_t2 132 rfl rfl
theorem tw_356 : (Jvm.Cond.methodLink "WitnessesMustLie" (155 : Nat) ({ cls := "WitnessesMustLie", name := "newSaying", desc := "(ILWitnessesMustLie$Says;III)LWitnessesMustLie$Saying;" } : Jvm.MethodName)) ∈ ab_Tg := ab_t2 133 rfl rfl
theorem tw_357 : (Jvm.Cond.static ({ cls := "WitnessesMustLie", name := "newSaying", desc := "(ILWitnessesMustLie$Says;III)LWitnessesMustLie$Saying;" } : Jvm.MethodName)) ∈ ab_Tg := ab_t2 134 rfl rfl
theorem tw_358 : (Jvm.Cond.code ({ cls := "WitnessesMustLie", name := "newSaying", desc := "(ILWitnessesMustLie$Says;III)LWitnessesMustLie$Saying;" } : Jvm.MethodName) prog_1_method_54_code (5 : Nat) (Option.some (Jvm.ClassFile.FieldType.object "WitnessesMustLie$Saying"))) ∈ ab_Tg := ab_t2 135 rfl rfl
theorem tw_359 : (Jvm.Cond.classLink "WitnessesMustLie" (102 : Nat) "WitnessesMustLie$Saying") ∈ ab_Tg := ab_t2 136 rfl rfl
theorem tw_360 : (Jvm.Cond.instantiable "WitnessesMustLie$Saying" (6 : Nat)) ∈ ab_Tg := ab_t2 137 rfl rfl
theorem tw_361 : (Jvm.Cond.methodLink "WitnessesMustLie" (393 : Nat) ({ cls := "WitnessesMustLie$Says", name := "worldsOf", desc := "(III)J" } : Jvm.MethodName)) ∈ ab_Tg := ab_t2 138 rfl rfl
theorem tw_362 : (Jvm.Cond.instanceMethod ({ cls := "WitnessesMustLie$Says", name := "worldsOf", desc := "(III)J" } : Jvm.MethodName)) ∈ ab_Tg := ab_t2 139 rfl rfl
theorem tw_363 : (Jvm.Cond.selects "WitnessesMustLie$Says" ({ cls := "WitnessesMustLie$Says", name := "worldsOf", desc := "(III)J" } : Jvm.MethodName) ({ cls := "WitnessesMustLie$Says", name := "worldsOf", desc := "(III)J" } : Jvm.MethodName)) ∈ ab_Tg := ab_t2 140 rfl rfl
theorem tw_364 : (Jvm.Cond.sameMethod "WitnessesMustLie$Says" "WitnessesMustLie$Says" "worldsOf" "(III)J") ∈ ab_Tg := ab_t2 141 rfl rfl
theorem tw_365 : (Jvm.Cond.selects "WitnessesMustLie$Alike" ({ cls := "WitnessesMustLie$Says", name := "worldsOf", desc := "(III)J" } : Jvm.MethodName) ({ cls := "WitnessesMustLie$Says", name := "worldsOf", desc := "(III)J" } : Jvm.MethodName)) ∈ ab_Tg := ab_t2 142 rfl rfl
theorem tw_366 : (Jvm.Cond.selects "WitnessesMustLie$Both" ({ cls := "WitnessesMustLie$Says", name := "worldsOf", desc := "(III)J" } : Jvm.MethodName) ({ cls := "WitnessesMustLie$Says", name := "worldsOf", desc := "(III)J" } : Jvm.MethodName)) ∈ ab_Tg := ab_t2 143 rfl rfl
theorem tw_367 : (Jvm.Cond.selects "WitnessesMustLie$Denies" ({ cls := "WitnessesMustLie$Says", name := "worldsOf", desc := "(III)J" } : Jvm.MethodName) ({ cls := "WitnessesMustLie$Says", name := "worldsOf", desc := "(III)J" } : Jvm.MethodName)) ∈ ab_Tg := ab_t2 144 rfl rfl
theorem tw_368 : (Jvm.Cond.selects "WitnessesMustLie$Either" ({ cls := "WitnessesMustLie$Says", name := "worldsOf", desc := "(III)J" } : Jvm.MethodName) ({ cls := "WitnessesMustLie$Says", name := "worldsOf", desc := "(III)J" } : Jvm.MethodName)) ∈ ab_Tg := ab_t2 145 rfl rfl
theorem tw_369 : (Jvm.Cond.selects "WitnessesMustLie$Expert" ({ cls := "WitnessesMustLie$Says", name := "worldsOf", desc := "(III)J" } : Jvm.MethodName) ({ cls := "WitnessesMustLie$Says", name := "worldsOf", desc := "(III)J" } : Jvm.MethodName)) ∈ ab_Tg := ab_t2 146 rfl rfl
theorem tw_370 : (Jvm.Cond.selects "WitnessesMustLie$If" ({ cls := "WitnessesMustLie$Says", name := "worldsOf", desc := "(III)J" } : Jvm.MethodName) ({ cls := "WitnessesMustLie$Says", name := "worldsOf", desc := "(III)J" } : Jvm.MethodName)) ∈ ab_Tg := ab_t2 147 rfl rfl
theorem tw_371 : (Jvm.Cond.selects "WitnessesMustLie$Poet" ({ cls := "WitnessesMustLie$Says", name := "worldsOf", desc := "(III)J" } : Jvm.MethodName) ({ cls := "WitnessesMustLie$Says", name := "worldsOf", desc := "(III)J" } : Jvm.MethodName)) ∈ ab_Tg := ab_t2 148 rfl rfl
theorem tw_372 : (Jvm.Cond.code ({ cls := "WitnessesMustLie$Says", name := "worldsOf", desc := "(III)J" } : Jvm.MethodName) prog_10_method_2_code (4 : Nat) (Option.some Jvm.ClassFile.FieldType.long)) ∈ ab_Tg := ab_t2 149 rfl rfl
theorem tw_373 : (Jvm.Cond.methodLinkNest "WitnessesMustLie$Says" (15 : Nat) ({ cls := "WitnessesMustLie", name := "worldsWith", desc := "(I)J" } : Jvm.MethodName) "WitnessesMustLie") ∈ ab_Tn := ab_n2 150 rfl rfl
theorem tw_374 : (Jvm.Cond.static ({ cls := "WitnessesMustLie", name := "worldsWith", desc := "(I)J" } : Jvm.MethodName)) ∈ ab_Tg := ab_t2 151 rfl rfl
theorem tw_375 : (Jvm.Cond.code ({ cls := "WitnessesMustLie", name := "worldsWith", desc := "(I)J" } : Jvm.MethodName) prog_1_method_55_code (1 : Nat) (Option.some Jvm.ClassFile.FieldType.long)) ∈ ab_Tg := ab_t2 152 rfl rfl
theorem tw_376 : (Jvm.Cond.fieldLink "WitnessesMustLie" (399 : Nat) "WitnessesMustLie" "WORLDS_WITH" "[J") ∈ ab_Tg := ab_t2 153 rfl rfl
theorem tw_377 : (Jvm.Cond.methodLink "WitnessesMustLie$Says" (19 : Nat) ({ cls := "WitnessesMustLie$Says", name := "trueWorlds", desc := "(JJJ)J" } : Jvm.MethodName)) ∈ ab_Tg := ab_t2 155 rfl rfl
theorem tw_378 : (Jvm.Cond.instanceMethod ({ cls := "WitnessesMustLie$Says", name := "trueWorlds", desc := "(JJJ)J" } : Jvm.MethodName)) ∈ ab_Tg := ab_t2 156 rfl rfl
theorem tw_379 : (Jvm.Cond.selects "WitnessesMustLie$Says" ({ cls := "WitnessesMustLie$Says", name := "trueWorlds", desc := "(JJJ)J" } : Jvm.MethodName) ({ cls := "WitnessesMustLie$Says", name := "trueWorlds", desc := "(JJJ)J" } : Jvm.MethodName)) ∈ ab_Tg := ab_t2 157 rfl rfl
theorem tw_380 : (Jvm.Cond.sameMethod "WitnessesMustLie$Says" "WitnessesMustLie$Says" "trueWorlds" "(JJJ)J") ∈ ab_Tg := ab_t2 158 rfl rfl
theorem tw_381 : (Jvm.Cond.selects "WitnessesMustLie$Alike" ({ cls := "WitnessesMustLie$Says", name := "trueWorlds", desc := "(JJJ)J" } : Jvm.MethodName) ({ cls := "WitnessesMustLie$Alike", name := "trueWorlds", desc := "(JJJ)J" } : Jvm.MethodName)) ∈ ab_Tg := ab_t2 159 rfl rfl
theorem tw_382 : (Jvm.Cond.instanceMethod ({ cls := "WitnessesMustLie$Alike", name := "trueWorlds", desc := "(JJJ)J" } : Jvm.MethodName)) ∈ ab_Tg := ab_t2 160 rfl rfl
theorem tw_383 : (Jvm.Cond.code ({ cls := "WitnessesMustLie$Alike", name := "trueWorlds", desc := "(JJJ)J" } : Jvm.MethodName) prog_2_method_2_code (7 : Nat) (Option.some Jvm.ClassFile.FieldType.long)) ∈ ab_Tg := ab_t2 161 rfl rfl
theorem tw_384 : (Jvm.Cond.constantLong "WitnessesMustLie$Alike" (7 : Nat) (-1 : Int64)) ∈ ab_Tg := ab_t2 162 rfl rfl
theorem tw_385 : (Jvm.Cond.selects "WitnessesMustLie$Both" ({ cls := "WitnessesMustLie$Says", name := "trueWorlds", desc := "(JJJ)J" } : Jvm.MethodName) ({ cls := "WitnessesMustLie$Both", name := "trueWorlds", desc := "(JJJ)J" } : Jvm.MethodName)) ∈ ab_Tg := ab_t2 163 rfl rfl
theorem tw_386 : (Jvm.Cond.instanceMethod ({ cls := "WitnessesMustLie$Both", name := "trueWorlds", desc := "(JJJ)J" } : Jvm.MethodName)) ∈ ab_Tg := ab_t2 164 rfl rfl
theorem tw_387 : (Jvm.Cond.code ({ cls := "WitnessesMustLie$Both", name := "trueWorlds", desc := "(JJJ)J" } : Jvm.MethodName) prog_3_method_2_code (7 : Nat) (Option.some Jvm.ClassFile.FieldType.long)) ∈ ab_Tg := ab_t2 165 rfl rfl
theorem tw_388 : (Jvm.Cond.selects "WitnessesMustLie$Denies" ({ cls := "WitnessesMustLie$Says", name := "trueWorlds", desc := "(JJJ)J" } : Jvm.MethodName) ({ cls := "WitnessesMustLie$Denies", name := "trueWorlds", desc := "(JJJ)J" } : Jvm.MethodName)) ∈ ab_Tg := ab_t2 166 rfl rfl
theorem tw_389 : (Jvm.Cond.instanceMethod ({ cls := "WitnessesMustLie$Denies", name := "trueWorlds", desc := "(JJJ)J" } : Jvm.MethodName)) ∈ ab_Tg := ab_t2 167 rfl rfl
theorem tw_390 : (Jvm.Cond.code ({ cls := "WitnessesMustLie$Denies", name := "trueWorlds", desc := "(JJJ)J" } : Jvm.MethodName) prog_4_method_2_code (7 : Nat) (Option.some Jvm.ClassFile.FieldType.long)) ∈ ab_Tg := ab_t2 168 rfl rfl
theorem tw_391 : (Jvm.Cond.constantLong "WitnessesMustLie$Denies" (7 : Nat) (-1 : Int64)) ∈ ab_Tg := ab_t2 169 rfl rfl
theorem tw_392 : (Jvm.Cond.selects "WitnessesMustLie$Either" ({ cls := "WitnessesMustLie$Says", name := "trueWorlds", desc := "(JJJ)J" } : Jvm.MethodName) ({ cls := "WitnessesMustLie$Either", name := "trueWorlds", desc := "(JJJ)J" } : Jvm.MethodName)) ∈ ab_Tg := ab_t2 170 rfl rfl
theorem tw_393 : (Jvm.Cond.instanceMethod ({ cls := "WitnessesMustLie$Either", name := "trueWorlds", desc := "(JJJ)J" } : Jvm.MethodName)) ∈ ab_Tg := ab_t2 171 rfl rfl
theorem tw_394 : (Jvm.Cond.code ({ cls := "WitnessesMustLie$Either", name := "trueWorlds", desc := "(JJJ)J" } : Jvm.MethodName) prog_5_method_2_code (7 : Nat) (Option.some Jvm.ClassFile.FieldType.long)) ∈ ab_Tg := ab_t2 172 rfl rfl
theorem tw_395 : (Jvm.Cond.selects "WitnessesMustLie$Expert" ({ cls := "WitnessesMustLie$Says", name := "trueWorlds", desc := "(JJJ)J" } : Jvm.MethodName) ({ cls := "WitnessesMustLie$Expert", name := "trueWorlds", desc := "(JJJ)J" } : Jvm.MethodName)) ∈ ab_Tg := ab_t2 173 rfl rfl
theorem tw_396 : (Jvm.Cond.instanceMethod ({ cls := "WitnessesMustLie$Expert", name := "trueWorlds", desc := "(JJJ)J" } : Jvm.MethodName)) ∈ ab_Tg := ab_t2 174 rfl rfl
theorem tw_397 : (Jvm.Cond.code ({ cls := "WitnessesMustLie$Expert", name := "trueWorlds", desc := "(JJJ)J" } : Jvm.MethodName) prog_6_method_2_code (7 : Nat) (Option.some Jvm.ClassFile.FieldType.long)) ∈ ab_Tg := ab_t2 175 rfl rfl
theorem tw_398 : (Jvm.Cond.selects "WitnessesMustLie$If" ({ cls := "WitnessesMustLie$Says", name := "trueWorlds", desc := "(JJJ)J" } : Jvm.MethodName) ({ cls := "WitnessesMustLie$If", name := "trueWorlds", desc := "(JJJ)J" } : Jvm.MethodName)) ∈ ab_Tg := ab_t2 176 rfl rfl
theorem tw_399 : (Jvm.Cond.instanceMethod ({ cls := "WitnessesMustLie$If", name := "trueWorlds", desc := "(JJJ)J" } : Jvm.MethodName)) ∈ ab_Tg := ab_t2 177 rfl rfl
theorem tw_400 : (Jvm.Cond.code ({ cls := "WitnessesMustLie$If", name := "trueWorlds", desc := "(JJJ)J" } : Jvm.MethodName) prog_7_method_2_code (7 : Nat) (Option.some Jvm.ClassFile.FieldType.long)) ∈ ab_Tg := ab_t2 178 rfl rfl
theorem tw_401 : (Jvm.Cond.constantLong "WitnessesMustLie$If" (7 : Nat) (-1 : Int64)) ∈ ab_Tg := ab_t2 179 rfl rfl
theorem tw_402 : (Jvm.Cond.selects "WitnessesMustLie$Poet" ({ cls := "WitnessesMustLie$Says", name := "trueWorlds", desc := "(JJJ)J" } : Jvm.MethodName) ({ cls := "WitnessesMustLie$Poet", name := "trueWorlds", desc := "(JJJ)J" } : Jvm.MethodName)) ∈ ab_Tg := ab_t2 180 rfl rfl
theorem tw_403 : (Jvm.Cond.instanceMethod ({ cls := "WitnessesMustLie$Poet", name := "trueWorlds", desc := "(JJJ)J" } : Jvm.MethodName)) ∈ ab_Tg := ab_t2 181 rfl rfl
theorem tw_404 : (Jvm.Cond.code ({ cls := "WitnessesMustLie$Poet", name := "trueWorlds", desc := "(JJJ)J" } : Jvm.MethodName) prog_8_method_2_code (7 : Nat) (Option.some Jvm.ClassFile.FieldType.long)) ∈ ab_Tg := ab_t2 182 rfl rfl
theorem tw_405 : (Jvm.Cond.code ({ cls := "WitnessesMustLie$Says", name := "trueWorlds", desc := "(JJJ)J" } : Jvm.MethodName) prog_10_method_3_code (7 : Nat) (Option.some Jvm.ClassFile.FieldType.long)) ∈ ab_Tg := ab_t2 183 rfl rfl
theorem tw_406 : (Jvm.Cond.methodLink "WitnessesMustLie" (396 : Nat) ({ cls := "WitnessesMustLie$Saying", name := "<init>", desc := "(ILWitnessesMustLie$Says;IIIJ)V" } : Jvm.MethodName)) ∈ ab_Tg := ab_t2 184 rfl rfl
theorem tw_407 : (Jvm.Cond.instanceMethod ({ cls := "WitnessesMustLie$Saying", name := "<init>", desc := "(ILWitnessesMustLie$Says;IIIJ)V" } : Jvm.MethodName)) ∈ ab_Tg := ab_t2 185 rfl rfl
theorem tw_408 : (Jvm.Cond.code ({ cls := "WitnessesMustLie$Saying", name := "<init>", desc := "(ILWitnessesMustLie$Says;IIIJ)V" } : Jvm.MethodName) prog_9_method_1_code (8 : Nat) (Option.none : Option Jvm.ClassFile.FieldType)) ∈ ab_Tg := ab_t2 186 rfl rfl
theorem tw_409 : (Jvm.Cond.methodLink "WitnessesMustLie$Saying" (1 : Nat) ({ cls := "java/lang/Object", name := "<init>", desc := "()V" } : Jvm.MethodName)) ∈ ab_Tg := ab_t2 187 rfl rfl
theorem tw_410 : (Jvm.Cond.fieldLink "WitnessesMustLie$Saying" (7 : Nat) "WitnessesMustLie$Saying" "teller" "I") ∈ ab_Tg := ab_t2 188 rfl rfl
theorem tw_411 : (Jvm.Cond.fieldLinkNest "WitnessesMustLie" (125 : Nat) "WitnessesMustLie$Saying" "teller" "I" "WitnessesMustLie") ∈ ab_Tn := ab_n2 189 rfl rfl
theorem tw_412 : (Jvm.Cond.fieldLinkNest "WitnessesMustLie$Trial" (57 : Nat) "WitnessesMustLie$Saying" "teller" "I" "WitnessesMustLie") ∈ ab_Tn := ab_n2 190 rfl rfl
theorem tw_413 : (Jvm.Cond.fieldLink "WitnessesMustLie$Saying" (13 : Nat) "WitnessesMustLie$Saying" "kind" "LWitnessesMustLie$Says;") ∈ ab_Tg := ab_t2 191 rfl rfl
theorem tw_414 : (Jvm.Cond.fieldLink "WitnessesMustLie$Saying" (17 : Nat) "WitnessesMustLie$Saying" "figure" "I") ∈ ab_Tg := ab_t2 192 rfl rfl
theorem tw_415 : (Jvm.Cond.fieldLink "WitnessesMustLie$Saying" (20 : Nat) "WitnessesMustLie$Saying" "a" "I") ∈ ab_Tg := ab_t2 193 rfl rfl
theorem tw_416 : (Jvm.Cond.fieldLink "WitnessesMustLie$Saying" (23 : Nat) "WitnessesMustLie$Saying" "b" "I") ∈ ab_Tg := ab_t2 194 rfl rfl
theorem tw_417 : (Jvm.Cond.fieldLink "WitnessesMustLie$Saying" (26 : Nat) "WitnessesMustLie$Saying" "trueWorlds" "J") ∈ ab_Tg := ab_t2 195 rfl rfl
theorem tw_418 : (Jvm.Cond.fieldLinkNest "WitnessesMustLie" (110 : Nat) "WitnessesMustLie$Saying" "trueWorlds" "J" "WitnessesMustLie") ∈ ab_Tn := ab_n2 196 rfl rfl
theorem tw_419 : (Jvm.Cond.fieldLinkNest "WitnessesMustLie$Trial" (72 : Nat) "WitnessesMustLie$Saying" "trueWorlds" "J" "WitnessesMustLie") ∈ ab_Tn := ab_n2 197 rfl rfl
theorem tw_420 : (Jvm.Cond.laysFinal "WitnessesMustLie$Saying" "WitnessesMustLie$Saying" "teller" "I") ∈ ab_Tg := ab_t2 198 rfl rfl
theorem tw_421 : (Jvm.Cond.laysFinal "WitnessesMustLie$Saying" "WitnessesMustLie$Saying" "kind" "LWitnessesMustLie$Says;") ∈ ab_Tg := ab_t2 200 rfl rfl
theorem tw_422 : (Jvm.Cond.laysFinal "WitnessesMustLie$Saying" "WitnessesMustLie$Saying" "figure" "I") ∈ ab_Tg := ab_t2 202 rfl rfl
theorem tw_423 : (Jvm.Cond.laysFinal "WitnessesMustLie$Saying" "WitnessesMustLie$Saying" "a" "I") ∈ ab_Tg := ab_t2 204 rfl rfl
theorem tw_424 : (Jvm.Cond.laysFinal "WitnessesMustLie$Saying" "WitnessesMustLie$Saying" "b" "I") ∈ ab_Tg := ab_t2 206 rfl rfl
theorem tw_425 : (Jvm.Cond.laysFinal "WitnessesMustLie$Saying" "WitnessesMustLie$Saying" "trueWorlds" "J") ∈ ab_Tg := ab_t2 208 rfl rfl
theorem tw_426 : (Jvm.Cond.superclass "WitnessesMustLie$Saying" "java/lang/Object") ∈ ab_Tg := ab_t2 210 rfl rfl
theorem tw_427 : (Jvm.Cond.methodLink "WitnessesMustLie" (159 : Nat) ({ cls := "WitnessesMustLie$Trial", name := "addLaw", desc := "(LWitnessesMustLie$Saying;)Z" } : Jvm.MethodName)) ∈ ab_Tg := ab_t2 211 rfl rfl
theorem tw_428 : (Jvm.Cond.instanceMethod ({ cls := "WitnessesMustLie$Trial", name := "addLaw", desc := "(LWitnessesMustLie$Saying;)Z" } : Jvm.MethodName)) ∈ ab_Tg := ab_t2 212 rfl rfl
theorem tw_429 : (Jvm.Cond.selects "WitnessesMustLie$Trial" ({ cls := "WitnessesMustLie$Trial", name := "addLaw", desc := "(LWitnessesMustLie$Saying;)Z" } : Jvm.MethodName) ({ cls := "WitnessesMustLie$Trial", name := "addLaw", desc := "(LWitnessesMustLie$Saying;)Z" } : Jvm.MethodName)) ∈ ab_Tg := ab_t2 213 rfl rfl
theorem tw_430 : (Jvm.Cond.code ({ cls := "WitnessesMustLie$Trial", name := "addLaw", desc := "(LWitnessesMustLie$Saying;)Z" } : Jvm.MethodName) prog_12_method_6_code (2 : Nat) (Option.some Jvm.ClassFile.FieldType.boolean)) ∈ ab_Tg := ab_t2 214 rfl rfl
theorem tw_431 : (Jvm.Cond.methodLink "WitnessesMustLie" (423 : Nat) ({ cls := "WitnessesMustLie", name := "twoDigitsAt", desc := "(LWitnessesMustLie$Shelf;I)I" } : Jvm.MethodName)) ∈ ab_Tg := ab_t2 215 rfl rfl
theorem tw_432 : (Jvm.Cond.static ({ cls := "WitnessesMustLie", name := "twoDigitsAt", desc := "(LWitnessesMustLie$Shelf;I)I" } : Jvm.MethodName)) ∈ ab_Tg := ab_t2 216 rfl rfl
theorem tw_433 : (Jvm.Cond.code ({ cls := "WitnessesMustLie", name := "twoDigitsAt", desc := "(LWitnessesMustLie$Shelf;I)I" } : Jvm.MethodName) prog_1_method_67_code (2 : Nat) (Option.some Jvm.ClassFile.FieldType.int)) ∈ ab_Tg := ab_t2 217 rfl rfl
theorem tw_434 : (Jvm.Cond.methodLink "WitnessesMustLie" (176 : Nat) ({ cls := "WitnessesMustLie$Trial", name := "addWitness", desc := "(I)Z" } : Jvm.MethodName)) ∈ ab_Tg := ab_t2 218 rfl rfl
theorem tw_435 : (Jvm.Cond.instanceMethod ({ cls := "WitnessesMustLie$Trial", name := "addWitness", desc := "(I)Z" } : Jvm.MethodName)) ∈ ab_Tg := ab_t2 219 rfl rfl
theorem tw_436 : (Jvm.Cond.selects "WitnessesMustLie$Trial" ({ cls := "WitnessesMustLie$Trial", name := "addWitness", desc := "(I)Z" } : Jvm.MethodName) ({ cls := "WitnessesMustLie$Trial", name := "addWitness", desc := "(I)Z" } : Jvm.MethodName)) ∈ ab_Tg := ab_t2 220 rfl rfl
theorem tw_437 : (Jvm.Cond.code ({ cls := "WitnessesMustLie$Trial", name := "addWitness", desc := "(I)Z" } : Jvm.MethodName) prog_12_method_8_code (2 : Nat) (Option.some Jvm.ClassFile.FieldType.boolean)) ∈ ab_Tg := ab_t2 221 rfl rfl
theorem tw_438 : (Jvm.Cond.methodLinkNest "WitnessesMustLie$Trial" (64 : Nat) ({ cls := "WitnessesMustLie", name := "areFacts", desc := "(I)Z" } : Jvm.MethodName) "WitnessesMustLie") ∈ ab_Tn := ab_n2 222 rfl rfl
theorem tw_439 : (Jvm.Cond.static ({ cls := "WitnessesMustLie", name := "areFacts", desc := "(I)Z" } : Jvm.MethodName)) ∈ ab_Tg := ab_t2 223 rfl rfl
theorem tw_440 : (Jvm.Cond.code ({ cls := "WitnessesMustLie", name := "areFacts", desc := "(I)Z" } : Jvm.MethodName) prog_1_method_46_code (1 : Nat) (Option.some Jvm.ClassFile.FieldType.boolean)) ∈ ab_Tg := ab_t2 224 rfl rfl
theorem tw_441 : (Jvm.Cond.methodLink "WitnessesMustLie" (426 : Nat) ({ cls := "WitnessesMustLie$Trial", name := "setTruth", desc := "(I)Z" } : Jvm.MethodName)) ∈ ab_Tg := ab_t2 225 rfl rfl
theorem tw_442 : (Jvm.Cond.instanceMethod ({ cls := "WitnessesMustLie$Trial", name := "setTruth", desc := "(I)Z" } : Jvm.MethodName)) ∈ ab_Tg := ab_t2 226 rfl rfl
theorem tw_443 : (Jvm.Cond.selects "WitnessesMustLie$Trial" ({ cls := "WitnessesMustLie$Trial", name := "setTruth", desc := "(I)Z" } : Jvm.MethodName) ({ cls := "WitnessesMustLie$Trial", name := "setTruth", desc := "(I)Z" } : Jvm.MethodName)) ∈ ab_Tg := ab_t2 227 rfl rfl
theorem tw_444 : (Jvm.Cond.code ({ cls := "WitnessesMustLie$Trial", name := "setTruth", desc := "(I)Z" } : Jvm.MethodName) prog_12_method_9_code (2 : Nat) (Option.some Jvm.ClassFile.FieldType.boolean)) ∈ ab_Tg := ab_t2 228 rfl rfl
theorem tw_445 : (Jvm.Cond.methodLinkNest "WitnessesMustLie$Trial" (67 : Nat) ({ cls := "WitnessesMustLie", name := "isWorld", desc := "(I)Z" } : Jvm.MethodName) "WitnessesMustLie") ∈ ab_Tn := ab_n2 229 rfl rfl
theorem tw_446 : (Jvm.Cond.static ({ cls := "WitnessesMustLie", name := "isWorld", desc := "(I)Z" } : Jvm.MethodName)) ∈ ab_Tg := ab_t2 230 rfl rfl
theorem tw_447 : (Jvm.Cond.code ({ cls := "WitnessesMustLie", name := "isWorld", desc := "(I)Z" } : Jvm.MethodName) prog_1_method_47_code (1 : Nat) (Option.some Jvm.ClassFile.FieldType.boolean)) ∈ ab_Tg := ab_t2 231 rfl rfl
theorem tw_448 : (Jvm.Cond.methodLink "WitnessesMustLie" (166 : Nat) ({ cls := "WitnessesMustLie$Trial", name := "addSaid", desc := "(LWitnessesMustLie$Saying;)Z" } : Jvm.MethodName)) ∈ ab_Tg := ab_t2 232 rfl rfl
theorem tw_449 : (Jvm.Cond.instanceMethod ({ cls := "WitnessesMustLie$Trial", name := "addSaid", desc := "(LWitnessesMustLie$Saying;)Z" } : Jvm.MethodName)) ∈ ab_Tg := ab_t2 233 rfl rfl
theorem tw_450 : (Jvm.Cond.selects "WitnessesMustLie$Trial" ({ cls := "WitnessesMustLie$Trial", name := "addSaid", desc := "(LWitnessesMustLie$Saying;)Z" } : Jvm.MethodName) ({ cls := "WitnessesMustLie$Trial", name := "addSaid", desc := "(LWitnessesMustLie$Saying;)Z" } : Jvm.MethodName)) ∈ ab_Tg := ab_t2 234 rfl rfl
theorem tw_451 : (Jvm.Cond.code ({ cls := "WitnessesMustLie$Trial", name := "addSaid", desc := "(LWitnessesMustLie$Saying;)Z" } : Jvm.MethodName) prog_12_method_7_code (2 : Nat) (Option.some Jvm.ClassFile.FieldType.boolean)) ∈ ab_Tg := ab_t2 235 rfl rfl
theorem tw_452 : (Jvm.Cond.methodLink "WitnessesMustLie$Trial" (60 : Nat) ({ cls := "WitnessesMustLie$Trial", name := "hasWitness", desc := "(I)Z" } : Jvm.MethodName)) ∈ ab_Tg := ab_t2 236 rfl rfl
theorem tw_453 : (Jvm.Cond.instanceMethod ({ cls := "WitnessesMustLie$Trial", name := "hasWitness", desc := "(I)Z" } : Jvm.MethodName)) ∈ ab_Tg := ab_t2 237 rfl rfl
theorem tw_454 : (Jvm.Cond.selects "WitnessesMustLie$Trial" ({ cls := "WitnessesMustLie$Trial", name := "hasWitness", desc := "(I)Z" } : Jvm.MethodName) ({ cls := "WitnessesMustLie$Trial", name := "hasWitness", desc := "(I)Z" } : Jvm.MethodName)) ∈ ab_Tg := ab_t2 238 rfl rfl
theorem tw_455 : (Jvm.Cond.code ({ cls := "WitnessesMustLie$Trial", name := "hasWitness", desc := "(I)Z" } : Jvm.MethodName) prog_12_method_4_code (2 : Nat) (Option.some Jvm.ClassFile.FieldType.boolean)) ∈ ab_Tg := ab_t2 239 rfl rfl
theorem tw_456 : (Jvm.Cond.methodLink "WitnessesMustLieLaw" (54 : Nat) ({ cls := "WitnessesMustLie", name := "said", desc := "(II)I" } : Jvm.MethodName)) ∈ ab_Tg := ab_t3 0 rfl rfl
theorem tw_457 : (Jvm.Cond.instanceMethod ({ cls := "WitnessesMustLie", name := "said", desc := "(II)I" } : Jvm.MethodName)) ∈ ab_Tg := ab_t3 1 rfl rfl
theorem tw_458 : (Jvm.Cond.selects "WitnessesMustLie" ({ cls := "WitnessesMustLie", name := "said", desc := "(II)I" } : Jvm.MethodName) ({ cls := "WitnessesMustLie", name := "said", desc := "(II)I" } : Jvm.MethodName)) ∈ ab_Tg := ab_t3 2 rfl rfl
theorem tw_459 : (Jvm.Cond.code ({ cls := "WitnessesMustLie", name := "said", desc := "(II)I" } : Jvm.MethodName) prog_1_method_4_code (4 : Nat) (Option.some Jvm.ClassFile.FieldType.int)) ∈ ab_Tg := ab_t3 3 rfl rfl
theorem tw_460 : (Jvm.Cond.methodLink "WitnessesMustLie" (97 : Nat) ({ cls := "WitnessesMustLie", name := "sayingIn", desc := "(Ljava/util/ArrayList;I)LWitnessesMustLie$Saying;" } : Jvm.MethodName)) ∈ ab_Tg := ab_t3 4 rfl rfl
theorem tw_461 : (Jvm.Cond.static ({ cls := "WitnessesMustLie", name := "sayingIn", desc := "(Ljava/util/ArrayList;I)LWitnessesMustLie$Saying;" } : Jvm.MethodName)) ∈ ab_Tg := ab_t3 5 rfl rfl
theorem tw_462 : (Jvm.Cond.code ({ cls := "WitnessesMustLie", name := "sayingIn", desc := "(Ljava/util/ArrayList;I)LWitnessesMustLie$Saying;" } : Jvm.MethodName) prog_1_method_53_code (2 : Nat) (Option.some (Jvm.ClassFile.FieldType.object "WitnessesMustLie$Saying"))) ∈ ab_Tg := ab_t3 6 rfl rfl
theorem tw_463 : (Jvm.Cond.methodLink "WitnessesMustLie" (117 : Nat) ({ cls := "WitnessesMustLie", name := "hasWorld", desc := "(JI)Z" } : Jvm.MethodName)) ∈ ab_Tg := ab_t3 7 rfl rfl
theorem tw_464 : (Jvm.Cond.static ({ cls := "WitnessesMustLie", name := "hasWorld", desc := "(JI)Z" } : Jvm.MethodName)) ∈ ab_Tg := ab_t3 8 rfl rfl
theorem tw_465 : (Jvm.Cond.code ({ cls := "WitnessesMustLie", name := "hasWorld", desc := "(JI)Z" } : Jvm.MethodName) prog_1_method_57_code (3 : Nat) (Option.some Jvm.ClassFile.FieldType.boolean)) ∈ ab_Tg := ab_t3 9 rfl rfl
theorem tw_466 : (Jvm.Cond.methodLink "WitnessesMustLie" (121 : Nat) ({ cls := "WitnessesMustLie", name := "oneIf", desc := "(Z)I" } : Jvm.MethodName)) ∈ ab_Tg := ab_t3 10 rfl rfl
theorem tw_467 : (Jvm.Cond.static ({ cls := "WitnessesMustLie", name := "oneIf", desc := "(Z)I" } : Jvm.MethodName)) ∈ ab_Tg := ab_t3 11 rfl rfl
theorem tw_468 : (Jvm.Cond.code ({ cls := "WitnessesMustLie", name := "oneIf", desc := "(Z)I" } : Jvm.MethodName) prog_1_method_49_code (1 : Nat) (Option.some Jvm.ClassFile.FieldType.int)) ∈ ab_Tg := ab_t3 12 rfl rfl
theorem tw_469 : (Jvm.Cond.methodLink "WitnessesMustLie" (101 : Nat) ({ cls := "WitnessesMustLie$Saying", name := "told", desc := "(I)I" } : Jvm.MethodName)) ∈ ab_Tg := ab_t3 13 rfl rfl
theorem tw_470 : (Jvm.Cond.instanceMethod ({ cls := "WitnessesMustLie$Saying", name := "told", desc := "(I)I" } : Jvm.MethodName)) ∈ ab_Tg := ab_t3 14 rfl rfl
theorem tw_471 : (Jvm.Cond.selects "WitnessesMustLie$Saying" ({ cls := "WitnessesMustLie$Saying", name := "told", desc := "(I)I" } : Jvm.MethodName) ({ cls := "WitnessesMustLie$Saying", name := "told", desc := "(I)I" } : Jvm.MethodName)) ∈ ab_Tg := ab_t3 15 rfl rfl
theorem tw_472 : (Jvm.Cond.code ({ cls := "WitnessesMustLie$Saying", name := "told", desc := "(I)I" } : Jvm.MethodName) prog_9_method_2_code (2 : Nat) (Option.some Jvm.ClassFile.FieldType.int)) ∈ ab_Tg := ab_t3 16 rfl rfl
theorem tw_473 : (Jvm.Cond.methodLink "WitnessesMustLie$Saying" (35 : Nat) ({ cls := "WitnessesMustLie$Saying", name := "words", desc := "()I" } : Jvm.MethodName)) ∈ ab_Tg := ab_t3 17 rfl rfl
theorem tw_474 : (Jvm.Cond.instanceMethod ({ cls := "WitnessesMustLie$Saying", name := "words", desc := "()I" } : Jvm.MethodName)) ∈ ab_Tg := ab_t3 18 rfl rfl
theorem tw_475 : (Jvm.Cond.selects "WitnessesMustLie$Saying" ({ cls := "WitnessesMustLie$Saying", name := "words", desc := "()I" } : Jvm.MethodName) ({ cls := "WitnessesMustLie$Saying", name := "words", desc := "()I" } : Jvm.MethodName)) ∈ ab_Tg := ab_t3 19 rfl rfl
theorem tw_476 : (Jvm.Cond.code ({ cls := "WitnessesMustLie$Saying", name := "words", desc := "()I" } : Jvm.MethodName) prog_9_method_3_code (1 : Nat) (Option.some Jvm.ClassFile.FieldType.int)) ∈ ab_Tg := ab_t3 20 rfl rfl
theorem tw_477 : (Jvm.Cond.methodLink "WitnessesMustLie$Saying" (42 : Nat) ({ cls := "WitnessesMustLie$Says", name := "words", desc := "(I)I" } : Jvm.MethodName)) ∈ ab_Tg := ab_t3 21 rfl rfl
theorem tw_478 : (Jvm.Cond.instanceMethod ({ cls := "WitnessesMustLie$Says", name := "words", desc := "(I)I" } : Jvm.MethodName)) ∈ ab_Tg := ab_t3 22 rfl rfl
theorem tw_479 : (Jvm.Cond.selects "WitnessesMustLie$Says" ({ cls := "WitnessesMustLie$Says", name := "words", desc := "(I)I" } : Jvm.MethodName) ({ cls := "WitnessesMustLie$Says", name := "words", desc := "(I)I" } : Jvm.MethodName)) ∈ ab_Tg := ab_t3 23 rfl rfl
theorem tw_480 : (Jvm.Cond.sameMethod "WitnessesMustLie$Says" "WitnessesMustLie$Says" "words" "(I)I") ∈ ab_Tg := ab_t3 24 rfl rfl
theorem tw_481 : (Jvm.Cond.selects "WitnessesMustLie$Alike" ({ cls := "WitnessesMustLie$Says", name := "words", desc := "(I)I" } : Jvm.MethodName) ({ cls := "WitnessesMustLie$Alike", name := "words", desc := "(I)I" } : Jvm.MethodName)) ∈ ab_Tg := ab_t3 25 rfl rfl
theorem tw_482 : (Jvm.Cond.instanceMethod ({ cls := "WitnessesMustLie$Alike", name := "words", desc := "(I)I" } : Jvm.MethodName)) ∈ ab_Tg := ab_t3 26 rfl rfl
theorem tw_483 : (Jvm.Cond.code ({ cls := "WitnessesMustLie$Alike", name := "words", desc := "(I)I" } : Jvm.MethodName) prog_2_method_3_code (2 : Nat) (Option.some Jvm.ClassFile.FieldType.int)) ∈ ab_Tg := ab_t3 27 rfl rfl
theorem tw_484 : (Jvm.Cond.methodLink "WitnessesMustLie$Alike" (9 : Nat) ({ cls := "WitnessesMustLie$Both", name := "words", desc := "(I)I" } : Jvm.MethodName)) ∈ ab_Tg := ab_t3 28 rfl rfl
theorem tw_485 : (Jvm.Cond.instanceMethod ({ cls := "WitnessesMustLie$Both", name := "words", desc := "(I)I" } : Jvm.MethodName)) ∈ ab_Tg := ab_t3 29 rfl rfl
theorem tw_486 : (Jvm.Cond.code ({ cls := "WitnessesMustLie$Both", name := "words", desc := "(I)I" } : Jvm.MethodName) prog_3_method_3_code (2 : Nat) (Option.some Jvm.ClassFile.FieldType.int)) ∈ ab_Tg := ab_t3 30 rfl rfl
theorem tw_487 : (Jvm.Cond.methodLink "WitnessesMustLie$Both" (7 : Nat) ({ cls := "WitnessesMustLie$Says", name := "words", desc := "(I)I" } : Jvm.MethodName)) ∈ ab_Tg := ab_t3 31 rfl rfl
theorem tw_488 : (Jvm.Cond.selects "WitnessesMustLie$Both" ({ cls := "WitnessesMustLie$Says", name := "words", desc := "(I)I" } : Jvm.MethodName) ({ cls := "WitnessesMustLie$Both", name := "words", desc := "(I)I" } : Jvm.MethodName)) ∈ ab_Tg := ab_t3 32 rfl rfl
theorem tw_489 : (Jvm.Cond.selects "WitnessesMustLie$Denies" ({ cls := "WitnessesMustLie$Says", name := "words", desc := "(I)I" } : Jvm.MethodName) ({ cls := "WitnessesMustLie$Denies", name := "words", desc := "(I)I" } : Jvm.MethodName)) ∈ ab_Tg := ab_t3 33 rfl rfl
theorem tw_490 : (Jvm.Cond.instanceMethod ({ cls := "WitnessesMustLie$Denies", name := "words", desc := "(I)I" } : Jvm.MethodName)) ∈ ab_Tg := ab_t3 34 rfl rfl
theorem tw_491 : (Jvm.Cond.code ({ cls := "WitnessesMustLie$Denies", name := "words", desc := "(I)I" } : Jvm.MethodName) prog_4_method_3_code (2 : Nat) (Option.some Jvm.ClassFile.FieldType.int)) ∈ ab_Tg := ab_t3 35 rfl rfl
theorem tw_492 : (Jvm.Cond.methodLink "WitnessesMustLie$Denies" (9 : Nat) ({ cls := "WitnessesMustLie$Says", name := "words", desc := "(I)I" } : Jvm.MethodName)) ∈ ab_Tg := ab_t3 36 rfl rfl
theorem tw_493 : (Jvm.Cond.selects "WitnessesMustLie$Either" ({ cls := "WitnessesMustLie$Says", name := "words", desc := "(I)I" } : Jvm.MethodName) ({ cls := "WitnessesMustLie$Either", name := "words", desc := "(I)I" } : Jvm.MethodName)) ∈ ab_Tg := ab_t3 37 rfl rfl
theorem tw_494 : (Jvm.Cond.instanceMethod ({ cls := "WitnessesMustLie$Either", name := "words", desc := "(I)I" } : Jvm.MethodName)) ∈ ab_Tg := ab_t3 38 rfl rfl
theorem tw_495 : (Jvm.Cond.code ({ cls := "WitnessesMustLie$Either", name := "words", desc := "(I)I" } : Jvm.MethodName) prog_5_method_3_code (2 : Nat) (Option.some Jvm.ClassFile.FieldType.int)) ∈ ab_Tg := ab_t3 39 rfl rfl
theorem tw_496 : (Jvm.Cond.methodLink "WitnessesMustLie$Either" (7 : Nat) ({ cls := "WitnessesMustLie$Both", name := "words", desc := "(I)I" } : Jvm.MethodName)) ∈ ab_Tg := ab_t3 40 rfl rfl
theorem tw_497 : (Jvm.Cond.selects "WitnessesMustLie$Expert" ({ cls := "WitnessesMustLie$Says", name := "words", desc := "(I)I" } : Jvm.MethodName) ({ cls := "WitnessesMustLie$Expert", name := "words", desc := "(I)I" } : Jvm.MethodName)) ∈ ab_Tg := ab_t3 41 rfl rfl
theorem tw_498 : (Jvm.Cond.instanceMethod ({ cls := "WitnessesMustLie$Expert", name := "words", desc := "(I)I" } : Jvm.MethodName)) ∈ ab_Tg := ab_t3 42 rfl rfl
theorem tw_499 : (Jvm.Cond.code ({ cls := "WitnessesMustLie$Expert", name := "words", desc := "(I)I" } : Jvm.MethodName) prog_6_method_3_code (2 : Nat) (Option.some Jvm.ClassFile.FieldType.int)) ∈ ab_Tg := ab_t3 43 rfl rfl
theorem tw_500 : (Jvm.Cond.methodLink "WitnessesMustLie$Expert" (7 : Nat) ({ cls := "WitnessesMustLie$Denies", name := "words", desc := "(I)I" } : Jvm.MethodName)) ∈ ab_Tg := ab_t3 44 rfl rfl
theorem tw_501 : (Jvm.Cond.selects "WitnessesMustLie$If" ({ cls := "WitnessesMustLie$Says", name := "words", desc := "(I)I" } : Jvm.MethodName) ({ cls := "WitnessesMustLie$If", name := "words", desc := "(I)I" } : Jvm.MethodName)) ∈ ab_Tg := ab_t3 45 rfl rfl
theorem tw_502 : (Jvm.Cond.instanceMethod ({ cls := "WitnessesMustLie$If", name := "words", desc := "(I)I" } : Jvm.MethodName)) ∈ ab_Tg := ab_t3 46 rfl rfl
theorem tw_503 : (Jvm.Cond.code ({ cls := "WitnessesMustLie$If", name := "words", desc := "(I)I" } : Jvm.MethodName) prog_7_method_3_code (2 : Nat) (Option.some Jvm.ClassFile.FieldType.int)) ∈ ab_Tg := ab_t3 47 rfl rfl
theorem tw_504 : (Jvm.Cond.methodLink "WitnessesMustLie$If" (9 : Nat) ({ cls := "WitnessesMustLie$Either", name := "words", desc := "(I)I" } : Jvm.MethodName)) ∈ ab_Tg := ab_t3 48 rfl rfl
theorem tw_505 : (Jvm.Cond.selects "WitnessesMustLie$Poet" ({ cls := "WitnessesMustLie$Says", name := "words", desc := "(I)I" } : Jvm.MethodName) ({ cls := "WitnessesMustLie$Poet", name := "words", desc := "(I)I" } : Jvm.MethodName)) ∈ ab_Tg := ab_t3 49 rfl rfl
theorem tw_506 : (Jvm.Cond.instanceMethod ({ cls := "WitnessesMustLie$Poet", name := "words", desc := "(I)I" } : Jvm.MethodName)) ∈ ab_Tg := ab_t3 50 rfl rfl
theorem tw_507 : (Jvm.Cond.code ({ cls := "WitnessesMustLie$Poet", name := "words", desc := "(I)I" } : Jvm.MethodName) prog_8_method_3_code (2 : Nat) (Option.some Jvm.ClassFile.FieldType.int)) ∈ ab_Tg := ab_t3 51 rfl rfl
theorem tw_508 : (Jvm.Cond.methodLink "WitnessesMustLie$Poet" (9 : Nat) ({ cls := "WitnessesMustLie$Either", name := "words", desc := "(I)I" } : Jvm.MethodName)) ∈ ab_Tg := ab_t3 52 rfl rfl
theorem tw_509 : (Jvm.Cond.code ({ cls := "WitnessesMustLie$Says", name := "words", desc := "(I)I" } : Jvm.MethodName) prog_10_method_4_code (2 : Nat) (Option.some Jvm.ClassFile.FieldType.int)) ∈ ab_Tg := ab_t3 53 rfl rfl
theorem tw_510 : (Jvm.Cond.methodLink "WitnessesMustLie$Saying" (39 : Nat) ({ cls := "WitnessesMustLie$Saying", name := "facts", desc := "()I" } : Jvm.MethodName)) ∈ ab_Tg := ab_t3 54 rfl rfl
theorem tw_511 : (Jvm.Cond.instanceMethod ({ cls := "WitnessesMustLie$Saying", name := "facts", desc := "()I" } : Jvm.MethodName)) ∈ ab_Tg := ab_t3 55 rfl rfl
theorem tw_512 : (Jvm.Cond.selects "WitnessesMustLie$Saying" ({ cls := "WitnessesMustLie$Saying", name := "facts", desc := "()I" } : Jvm.MethodName) ({ cls := "WitnessesMustLie$Saying", name := "facts", desc := "()I" } : Jvm.MethodName)) ∈ ab_Tg := ab_t3 56 rfl rfl
theorem tw_513 : (Jvm.Cond.code ({ cls := "WitnessesMustLie$Saying", name := "facts", desc := "()I" } : Jvm.MethodName) prog_9_method_4_code (1 : Nat) (Option.some Jvm.ClassFile.FieldType.int)) ∈ ab_Tg := ab_t3 57 rfl rfl
theorem tw_514 : (Jvm.Cond.methodLink "WitnessesMustLie$Saying" (45 : Nat) ({ cls := "WitnessesMustLie$Says", name := "facts", desc := "(III)I" } : Jvm.MethodName)) ∈ ab_Tg := ab_t3 58 rfl rfl
theorem tw_515 : (Jvm.Cond.instanceMethod ({ cls := "WitnessesMustLie$Says", name := "facts", desc := "(III)I" } : Jvm.MethodName)) ∈ ab_Tg := ab_t3 59 rfl rfl
theorem tw_516 : (Jvm.Cond.selects "WitnessesMustLie$Says" ({ cls := "WitnessesMustLie$Says", name := "facts", desc := "(III)I" } : Jvm.MethodName) ({ cls := "WitnessesMustLie$Says", name := "facts", desc := "(III)I" } : Jvm.MethodName)) ∈ ab_Tg := ab_t3 60 rfl rfl
theorem tw_517 : (Jvm.Cond.sameMethod "WitnessesMustLie$Says" "WitnessesMustLie$Says" "facts" "(III)I") ∈ ab_Tg := ab_t3 61 rfl rfl
theorem tw_518 : (Jvm.Cond.selects "WitnessesMustLie$Alike" ({ cls := "WitnessesMustLie$Says", name := "facts", desc := "(III)I" } : Jvm.MethodName) ({ cls := "WitnessesMustLie$Both", name := "facts", desc := "(III)I" } : Jvm.MethodName)) ∈ ab_Tg := ab_t3 62 rfl rfl
theorem tw_519 : (Jvm.Cond.instanceMethod ({ cls := "WitnessesMustLie$Both", name := "facts", desc := "(III)I" } : Jvm.MethodName)) ∈ ab_Tg := ab_t3 63 rfl rfl
theorem tw_520 : (Jvm.Cond.code ({ cls := "WitnessesMustLie$Both", name := "facts", desc := "(III)I" } : Jvm.MethodName) prog_3_method_4_code (4 : Nat) (Option.some Jvm.ClassFile.FieldType.int)) ∈ ab_Tg := ab_t3 64 rfl rfl
theorem tw_521 : (Jvm.Cond.methodLink "WitnessesMustLie$Both" (11 : Nat) ({ cls := "WitnessesMustLie$Says", name := "facts", desc := "(III)I" } : Jvm.MethodName)) ∈ ab_Tg := ab_t3 65 rfl rfl
theorem tw_522 : (Jvm.Cond.methodLinkNest "WitnessesMustLie$Both" (15 : Nat) ({ cls := "WitnessesMustLie", name := "factBit", desc := "(I)I" } : Jvm.MethodName) "WitnessesMustLie") ∈ ab_Tn := ab_n3 66 rfl rfl
theorem tw_523 : (Jvm.Cond.static ({ cls := "WitnessesMustLie", name := "factBit", desc := "(I)I" } : Jvm.MethodName)) ∈ ab_Tg := ab_t3 67 rfl rfl
theorem tw_524 : (Jvm.Cond.code ({ cls := "WitnessesMustLie", name := "factBit", desc := "(I)I" } : Jvm.MethodName) prog_1_method_56_code (1 : Nat) (Option.some Jvm.ClassFile.FieldType.int)) ∈ ab_Tg := ab_t3 68 rfl rfl
theorem tw_525 : (Jvm.Cond.selects "WitnessesMustLie$Both" ({ cls := "WitnessesMustLie$Says", name := "facts", desc := "(III)I" } : Jvm.MethodName) ({ cls := "WitnessesMustLie$Both", name := "facts", desc := "(III)I" } : Jvm.MethodName)) ∈ ab_Tg := ab_t3 69 rfl rfl
theorem tw_526 : (Jvm.Cond.selects "WitnessesMustLie$Denies" ({ cls := "WitnessesMustLie$Says", name := "facts", desc := "(III)I" } : Jvm.MethodName) ({ cls := "WitnessesMustLie$Says", name := "facts", desc := "(III)I" } : Jvm.MethodName)) ∈ ab_Tg := ab_t3 70 rfl rfl
theorem tw_527 : (Jvm.Cond.selects "WitnessesMustLie$Either" ({ cls := "WitnessesMustLie$Says", name := "facts", desc := "(III)I" } : Jvm.MethodName) ({ cls := "WitnessesMustLie$Both", name := "facts", desc := "(III)I" } : Jvm.MethodName)) ∈ ab_Tg := ab_t3 71 rfl rfl
theorem tw_528 : (Jvm.Cond.selects "WitnessesMustLie$Expert" ({ cls := "WitnessesMustLie$Says", name := "facts", desc := "(III)I" } : Jvm.MethodName) ({ cls := "WitnessesMustLie$Says", name := "facts", desc := "(III)I" } : Jvm.MethodName)) ∈ ab_Tg := ab_t3 72 rfl rfl
theorem tw_529 : (Jvm.Cond.selects "WitnessesMustLie$If" ({ cls := "WitnessesMustLie$Says", name := "facts", desc := "(III)I" } : Jvm.MethodName) ({ cls := "WitnessesMustLie$Both", name := "facts", desc := "(III)I" } : Jvm.MethodName)) ∈ ab_Tg := ab_t3 73 rfl rfl
theorem tw_530 : (Jvm.Cond.selects "WitnessesMustLie$Poet" ({ cls := "WitnessesMustLie$Says", name := "facts", desc := "(III)I" } : Jvm.MethodName) ({ cls := "WitnessesMustLie$Poet", name := "facts", desc := "(III)I" } : Jvm.MethodName)) ∈ ab_Tg := ab_t3 74 rfl rfl
theorem tw_531 : (Jvm.Cond.instanceMethod ({ cls := "WitnessesMustLie$Poet", name := "facts", desc := "(III)I" } : Jvm.MethodName)) ∈ ab_Tg := ab_t3 75 rfl rfl
theorem tw_532 : (Jvm.Cond.code ({ cls := "WitnessesMustLie$Poet", name := "facts", desc := "(III)I" } : Jvm.MethodName) prog_8_method_4_code (4 : Nat) (Option.some Jvm.ClassFile.FieldType.int)) ∈ ab_Tg := ab_t3 76 rfl rfl
theorem tw_533 : (Jvm.Cond.methodLink "WitnessesMustLie$Poet" (13 : Nat) ({ cls := "WitnessesMustLie$Either", name := "facts", desc := "(III)I" } : Jvm.MethodName)) ∈ ab_Tg := ab_t3 77 rfl rfl
theorem tw_534 : (Jvm.Cond.sameMethod "WitnessesMustLie$Either" "WitnessesMustLie$Both" "facts" "(III)I") ∈ ab_Tg := ab_t3 78 rfl rfl
theorem tw_535 : (Jvm.Cond.methodLinkNest "WitnessesMustLie$Poet" (17 : Nat) ({ cls := "WitnessesMustLie", name := "factBit", desc := "(I)I" } : Jvm.MethodName) "WitnessesMustLie") ∈ ab_Tn := ab_n3 80 rfl rfl
theorem tw_536 : (Jvm.Cond.code ({ cls := "WitnessesMustLie$Says", name := "facts", desc := "(III)I" } : Jvm.MethodName) prog_10_method_5_code (4 : Nat) (Option.some Jvm.ClassFile.FieldType.int)) ∈ ab_Tg := ab_t3 81 rfl rfl
theorem tw_537 : (Jvm.Cond.methodLinkNest "WitnessesMustLie$Says" (23 : Nat) ({ cls := "WitnessesMustLie", name := "factBit", desc := "(I)I" } : Jvm.MethodName) "WitnessesMustLie") ∈ ab_Tn := ab_n3 82 rfl rfl
theorem tw_538 : (Jvm.Cond.methodLink "WitnessesMustLieLaw" (37 : Nat) ({ cls := "WitnessesMustLie", name := "rules", desc := "(III)I" } : Jvm.MethodName)) ∈ ab_Tg := ab_t3 83 rfl rfl
theorem tw_539 : (Jvm.Cond.instanceMethod ({ cls := "WitnessesMustLie", name := "rules", desc := "(III)I" } : Jvm.MethodName)) ∈ ab_Tg := ab_t3 84 rfl rfl
theorem tw_540 : (Jvm.Cond.selects "WitnessesMustLie" ({ cls := "WitnessesMustLie", name := "rules", desc := "(III)I" } : Jvm.MethodName) ({ cls := "WitnessesMustLie", name := "rules", desc := "(III)I" } : Jvm.MethodName)) ∈ ab_Tg := ab_t3 85 rfl rfl
theorem tw_541 : (Jvm.Cond.code ({ cls := "WitnessesMustLie", name := "rules", desc := "(III)I" } : Jvm.MethodName) prog_1_method_7_code (7 : Nat) (Option.some Jvm.ClassFile.FieldType.int)) ∈ ab_Tg := ab_t3 86 rfl rfl
theorem tw_542 : (Jvm.Cond.methodLink "WitnessesMustLie" (141 : Nat) ({ cls := "WitnessesMustLie$Shelf", name := "refusalAsSaying", desc := "()I" } : Jvm.MethodName)) ∈ ab_Tg := ab_t3 87 rfl rfl
theorem tw_543 : (Jvm.Cond.instanceMethod ({ cls := "WitnessesMustLie$Shelf", name := "refusalAsSaying", desc := "()I" } : Jvm.MethodName)) ∈ ab_Tg := ab_t3 88 rfl rfl
theorem tw_544 : (Jvm.Cond.selects "WitnessesMustLie$Shelf" ({ cls := "WitnessesMustLie$Shelf", name := "refusalAsSaying", desc := "()I" } : Jvm.MethodName) ({ cls := "WitnessesMustLie$Shelf", name := "refusalAsSaying", desc := "()I" } : Jvm.MethodName)) ∈ ab_Tg := ab_t3 89 rfl rfl
theorem tw_545 : (Jvm.Cond.code ({ cls := "WitnessesMustLie$Shelf", name := "refusalAsSaying", desc := "()I" } : Jvm.MethodName) prog_11_method_6_code (1 : Nat) (Option.some Jvm.ClassFile.FieldType.int)) ∈ ab_Tg := ab_t3 90 rfl rfl
theorem tw_546 : (Jvm.Cond.methodLink "WitnessesMustLieLaw" (41 : Nat) ({ cls := "WitnessesMustLie", name := "says", desc := "(IIII)I" } : Jvm.MethodName)) ∈ ab_Tg := ab_t3 91 rfl rfl
theorem tw_547 : (Jvm.Cond.instanceMethod ({ cls := "WitnessesMustLie", name := "says", desc := "(IIII)I" } : Jvm.MethodName)) ∈ ab_Tg := ab_t3 92 rfl rfl
theorem tw_548 : (Jvm.Cond.selects "WitnessesMustLie" ({ cls := "WitnessesMustLie", name := "says", desc := "(IIII)I" } : Jvm.MethodName) ({ cls := "WitnessesMustLie", name := "says", desc := "(IIII)I" } : Jvm.MethodName)) ∈ ab_Tg := ab_t3 93 rfl rfl
theorem tw_549 : (Jvm.Cond.code ({ cls := "WitnessesMustLie", name := "says", desc := "(IIII)I" } : Jvm.MethodName) prog_1_method_8_code (8 : Nat) (Option.some Jvm.ClassFile.FieldType.int)) ∈ ab_Tg := ab_t3 94 rfl rfl
theorem tw_550 : (Jvm.Cond.methodLink "WitnessesMustLie" (128 : Nat) ({ cls := "WitnessesMustLie$Trial", name := "hasWitness", desc := "(I)Z" } : Jvm.MethodName)) ∈ ab_Tg := ab_t3 95 rfl rfl
theorem tw_551 : (Jvm.Cond.methodLink "WitnessesMustLieLaw" (151 : Nat) ({ cls := "WitnessesMustLie", name := "unsays", desc := "()I" } : Jvm.MethodName)) ∈ ab_Tg := ab_t3 96 rfl rfl
theorem tw_552 : (Jvm.Cond.instanceMethod ({ cls := "WitnessesMustLie", name := "unsays", desc := "()I" } : Jvm.MethodName)) ∈ ab_Tg := ab_t3 97 rfl rfl
theorem tw_553 : (Jvm.Cond.selects "WitnessesMustLie" ({ cls := "WitnessesMustLie", name := "unsays", desc := "()I" } : Jvm.MethodName) ({ cls := "WitnessesMustLie", name := "unsays", desc := "()I" } : Jvm.MethodName)) ∈ ab_Tg := ab_t3 98 rfl rfl
theorem tw_554 : (Jvm.Cond.code ({ cls := "WitnessesMustLie", name := "unsays", desc := "()I" } : Jvm.MethodName) prog_1_method_9_code (2 : Nat) (Option.some Jvm.ClassFile.FieldType.int)) ∈ ab_Tg := ab_t3 99 rfl rfl
theorem tw_555 : (Jvm.Cond.methodLink "WitnessesMustLie" (169 : Nat) ({ cls := "java/util/ArrayList", name := "remove", desc := "(I)Ljava/lang/Object;" } : Jvm.MethodName)) ∈ ab_Tg := ab_t3 100 rfl rfl
theorem tw_556 : (Jvm.Cond.instanceMethod ({ cls := "java/util/ArrayList", name := "remove", desc := "(I)Ljava/lang/Object;" } : Jvm.MethodName)) ∈ ab_Tg := ab_t3 101 rfl rfl
theorem tw_557 : (Jvm.Cond.selects "java/util/ArrayList" ({ cls := "java/util/ArrayList", name := "remove", desc := "(I)Ljava/lang/Object;" } : Jvm.MethodName) ({ cls := "java/util/ArrayList", name := "remove", desc := "(I)Ljava/lang/Object;" } : Jvm.MethodName)) ∈ ab_Tg := ab_t3 102 rfl rfl
theorem tw_558 : (Jvm.Cond.code ({ cls := "java/util/ArrayList", name := "remove", desc := "(I)Ljava/lang/Object;" } : Jvm.MethodName) prog_30_method_29_code (4 : Nat) (Option.some (Jvm.ClassFile.FieldType.object "java/lang/Object"))) ∈ ab_Tg := ab_t3 103 rfl rfl
theorem tw_559 : (Jvm.Cond.methodLink "java/util/ArrayList" (144 : Nat) ({ cls := "java/util/ArrayList", name := "fastRemove", desc := "([Ljava/lang/Object;I)V" } : Jvm.MethodName)) ∈ ab_Tg := ab_t3 104 rfl rfl
theorem tw_560 : (Jvm.Cond.instanceMethod ({ cls := "java/util/ArrayList", name := "fastRemove", desc := "([Ljava/lang/Object;I)V" } : Jvm.MethodName)) ∈ ab_Tg := ab_t3 106 rfl rfl
theorem tw_561 : (Jvm.Cond.code ({ cls := "java/util/ArrayList", name := "fastRemove", desc := "([Ljava/lang/Object;I)V" } : Jvm.MethodName) prog_30_method_39_code (4 : Nat) (Option.none : Option Jvm.ClassFile.FieldType)) ∈ ab_Tg := ab_t3 107 rfl rfl
theorem tw_562 : (Jvm.Cond.methodLink "java/util/ArrayList" (112 : Nat) ({ cls := "java/lang/System", name := "arraycopy", desc := "(Ljava/lang/Object;ILjava/lang/Object;II)V" } : Jvm.MethodName)) ∈ ab_Tg := ab_t3 108 rfl rfl
theorem tw_563 : (Jvm.Cond.methodLink "WitnessesMustLieLaw" (23 : Nat) ({ cls := "WitnessesMustLie", name := "witness", desc := "(I)I" } : Jvm.MethodName)) ∈ ab_Tg := ab_t3 109 rfl rfl
theorem tw_564 : (Jvm.Cond.instanceMethod ({ cls := "WitnessesMustLie", name := "witness", desc := "(I)I" } : Jvm.MethodName)) ∈ ab_Tg := ab_t3 110 rfl rfl
theorem tw_565 : (Jvm.Cond.selects "WitnessesMustLie" ({ cls := "WitnessesMustLie", name := "witness", desc := "(I)I" } : Jvm.MethodName) ({ cls := "WitnessesMustLie", name := "witness", desc := "(I)I" } : Jvm.MethodName)) ∈ ab_Tg := ab_t3 111 rfl rfl
theorem tw_566 : (Jvm.Cond.code ({ cls := "WitnessesMustLie", name := "witness", desc := "(I)I" } : Jvm.MethodName) prog_1_method_10_code (2 : Nat) (Option.some Jvm.ClassFile.FieldType.int)) ∈ ab_Tg := ab_t3 112 rfl rfl
theorem tw_567 : (Jvm.Cond.methodLink "WitnessesMustLie" (173 : Nat) ({ cls := "WitnessesMustLie", name := "areFacts", desc := "(I)Z" } : Jvm.MethodName)) ∈ ab_Tg := ab_t3 113 rfl rfl
theorem tw_568 : (Jvm.Cond.methodLink "WitnessesMustLieLaw" (17 : Nat) ({ cls := "WitnessesMustLie", name := "truth", desc := "(I)I" } : Jvm.MethodName)) ∈ ab_Tg := ab_t3 114 rfl rfl
theorem tw_569 : (Jvm.Cond.instanceMethod ({ cls := "WitnessesMustLie", name := "truth", desc := "(I)I" } : Jvm.MethodName)) ∈ ab_Tg := ab_t3 115 rfl rfl
theorem tw_570 : (Jvm.Cond.selects "WitnessesMustLie" ({ cls := "WitnessesMustLie", name := "truth", desc := "(I)I" } : Jvm.MethodName) ({ cls := "WitnessesMustLie", name := "truth", desc := "(I)I" } : Jvm.MethodName)) ∈ ab_Tg := ab_t3 116 rfl rfl
theorem tw_571 : (Jvm.Cond.code ({ cls := "WitnessesMustLie", name := "truth", desc := "(I)I" } : Jvm.MethodName) prog_1_method_11_code (3 : Nat) (Option.some Jvm.ClassFile.FieldType.int)) ∈ ab_Tg := ab_t3 117 rfl rfl
theorem tw_572 : (Jvm.Cond.methodLink "WitnessesMustLie" (138 : Nat) ({ cls := "WitnessesMustLie", name := "isWorld", desc := "(I)Z" } : Jvm.MethodName)) ∈ ab_Tg := ab_t3 118 rfl rfl
theorem tw_573 : (Jvm.Cond.methodLink "WitnessesMustLieLaw" (75 : Nat) ({ cls := "WitnessesMustLie", name := "worlds", desc := "(I)J" } : Jvm.MethodName)) ∈ ab_Tg := ab_t3 119 rfl rfl
theorem tw_574 : (Jvm.Cond.instanceMethod ({ cls := "WitnessesMustLie", name := "worlds", desc := "(I)J" } : Jvm.MethodName)) ∈ ab_Tg := ab_t3 120 rfl rfl
theorem tw_575 : (Jvm.Cond.selects "WitnessesMustLie" ({ cls := "WitnessesMustLie", name := "worlds", desc := "(I)J" } : Jvm.MethodName) ({ cls := "WitnessesMustLie", name := "worlds", desc := "(I)J" } : Jvm.MethodName)) ∈ ab_Tg := ab_t3 121 rfl rfl
theorem tw_576 : (Jvm.Cond.code ({ cls := "WitnessesMustLie", name := "worlds", desc := "(I)J" } : Jvm.MethodName) prog_1_method_12_code (2 : Nat) (Option.some Jvm.ClassFile.FieldType.long)) ∈ ab_Tg := ab_t3 122 rfl rfl
theorem tw_577 : (Jvm.Cond.methodLink "WitnessesMustLie" (182 : Nat) ({ cls := "WitnessesMustLie", name := "isEitherOr", desc := "(I)Z" } : Jvm.MethodName)) ∈ ab_Tg := ab_t3 123 rfl rfl
theorem tw_578 : (Jvm.Cond.static ({ cls := "WitnessesMustLie", name := "isEitherOr", desc := "(I)Z" } : Jvm.MethodName)) ∈ ab_Tg := ab_t3 124 rfl rfl
theorem tw_579 : (Jvm.Cond.code ({ cls := "WitnessesMustLie", name := "isEitherOr", desc := "(I)Z" } : Jvm.MethodName) prog_1_method_48_code (1 : Nat) (Option.some Jvm.ClassFile.FieldType.boolean)) ∈ ab_Tg := ab_t3 125 rfl rfl
theorem tw_580 : (Jvm.Cond.methodLink "WitnessesMustLie" (185 : Nat) ({ cls := "WitnessesMustLie$Trial", name := "mayBeOrLeft", desc := "(I)J" } : Jvm.MethodName)) ∈ ab_Tg := ab_t3 126 rfl rfl
theorem tw_581 : (Jvm.Cond.instanceMethod ({ cls := "WitnessesMustLie$Trial", name := "mayBeOrLeft", desc := "(I)J" } : Jvm.MethodName)) ∈ ab_Tg := ab_t3 127 rfl rfl
theorem tw_582 : (Jvm.Cond.selects "WitnessesMustLie$Trial" ({ cls := "WitnessesMustLie$Trial", name := "mayBeOrLeft", desc := "(I)J" } : Jvm.MethodName) ({ cls := "WitnessesMustLie$Trial", name := "mayBeOrLeft", desc := "(I)J" } : Jvm.MethodName)) ∈ ab_Tg := ab_t3 128 rfl rfl
theorem tw_583 : (Jvm.Cond.code ({ cls := "WitnessesMustLie$Trial", name := "mayBeOrLeft", desc := "(I)J" } : Jvm.MethodName) prog_12_method_12_code (2 : Nat) (Option.some Jvm.ClassFile.FieldType.long)) ∈ ab_Tg := ab_t3 129 rfl rfl
theorem tw_584 : (Jvm.Cond.methodLink "WitnessesMustLie$Trial" (76 : Nat) ({ cls := "WitnessesMustLie$Trial", name := "mayBe", desc := "()J" } : Jvm.MethodName)) ∈ ab_Tg := ab_t3 130 rfl rfl
theorem tw_585 : (Jvm.Cond.instanceMethod ({ cls := "WitnessesMustLie$Trial", name := "mayBe", desc := "()J" } : Jvm.MethodName)) ∈ ab_Tg := ab_t3 131 rfl rfl
theorem tw_586 : (Jvm.Cond.selects "WitnessesMustLie$Trial" ({ cls := "WitnessesMustLie$Trial", name := "mayBe", desc := "()J" } : Jvm.MethodName) ({ cls := "WitnessesMustLie$Trial", name := "mayBe", desc := "()J" } : Jvm.MethodName)) ∈ ab_Tg := ab_t3 132 rfl rfl
theorem tw_587 : (Jvm.Cond.code ({ cls := "WitnessesMustLie$Trial", name := "mayBe", desc := "()J" } : Jvm.MethodName) prog_12_method_10_code (4 : Nat) (Option.some Jvm.ClassFile.FieldType.long)) ∈ ab_Tg := ab_t3 133 rfl rfl
theorem tw_588 : (Jvm.Cond.constantLong "WitnessesMustLie$Trial" (70 : Nat) (-1 : Int64)) ∈ ab_Tg := ab_t3 134 rfl rfl
theorem tw_589 : (Jvm.Cond.methodLink "WitnessesMustLie$Trial" (84 : Nat) ({ cls := "WitnessesMustLie$Trial", name := "left", desc := "()J" } : Jvm.MethodName)) ∈ ab_Tg := ab_t3 135 rfl rfl
theorem tw_590 : (Jvm.Cond.instanceMethod ({ cls := "WitnessesMustLie$Trial", name := "left", desc := "()J" } : Jvm.MethodName)) ∈ ab_Tg := ab_t3 136 rfl rfl
theorem tw_591 : (Jvm.Cond.selects "WitnessesMustLie$Trial" ({ cls := "WitnessesMustLie$Trial", name := "left", desc := "()J" } : Jvm.MethodName) ({ cls := "WitnessesMustLie$Trial", name := "left", desc := "()J" } : Jvm.MethodName)) ∈ ab_Tg := ab_t3 137 rfl rfl
theorem tw_592 : (Jvm.Cond.code ({ cls := "WitnessesMustLie$Trial", name := "left", desc := "()J" } : Jvm.MethodName) prog_12_method_11_code (1 : Nat) (Option.some Jvm.ClassFile.FieldType.long)) ∈ ab_Tg := ab_t3 138 rfl rfl
theorem tw_593 : (Jvm.Cond.methodLink "WitnessesMustLie$Trial" (80 : Nat) ({ cls := "WitnessesMustLie$Trial", name := "leftBySaid", desc := "(JI)J" } : Jvm.MethodName)) ∈ ab_Tg := ab_t3 139 rfl rfl
theorem tw_594 : (Jvm.Cond.instanceMethod ({ cls := "WitnessesMustLie$Trial", name := "leftBySaid", desc := "(JI)J" } : Jvm.MethodName)) ∈ ab_Tg := ab_t3 140 rfl rfl
theorem tw_595 : (Jvm.Cond.selects "WitnessesMustLie$Trial" ({ cls := "WitnessesMustLie$Trial", name := "leftBySaid", desc := "(JI)J" } : Jvm.MethodName) ({ cls := "WitnessesMustLie$Trial", name := "leftBySaid", desc := "(JI)J" } : Jvm.MethodName)) ∈ ab_Tg := ab_t3 141 rfl rfl
theorem tw_596 : (Jvm.Cond.code ({ cls := "WitnessesMustLie$Trial", name := "leftBySaid", desc := "(JI)J" } : Jvm.MethodName) prog_12_method_13_code (7 : Nat) (Option.some Jvm.ClassFile.FieldType.long)) ∈ ab_Tg := ab_t3 142 rfl rfl
theorem tw_597 : (Jvm.Cond.methodLink "WitnessesMustLie" (189 : Nat) ({ cls := "WitnessesMustLie", name := "refusedLong", desc := "(I)J" } : Jvm.MethodName)) ∈ ab_Tg := ab_t3 143 rfl rfl
theorem tw_598 : (Jvm.Cond.static ({ cls := "WitnessesMustLie", name := "refusedLong", desc := "(I)J" } : Jvm.MethodName)) ∈ ab_Tg := ab_t3 144 rfl rfl
theorem tw_599 : (Jvm.Cond.code ({ cls := "WitnessesMustLie", name := "refusedLong", desc := "(I)J" } : Jvm.MethodName) prog_1_method_50_code (1 : Nat) (Option.some Jvm.ClassFile.FieldType.long)) ∈ ab_Tg := ab_t3 145 rfl rfl
theorem tw_600 : (Jvm.Cond.constantLong "WitnessesMustLie" (391 : Nat) (4000000000000000000 : Int64)) ∈ ab_Tg := ab_t3 146 rfl rfl
theorem tw_601 : (Jvm.Cond.methodLink "WitnessesMustLieLaw" (79 : Nat) ({ cls := "WitnessesMustLie", name := "many", desc := "(I)I" } : Jvm.MethodName)) ∈ ab_Tg := ab_t3 147 rfl rfl
theorem tw_602 : (Jvm.Cond.instanceMethod ({ cls := "WitnessesMustLie", name := "many", desc := "(I)I" } : Jvm.MethodName)) ∈ ab_Tg := ab_t3 148 rfl rfl
theorem tw_603 : (Jvm.Cond.selects "WitnessesMustLie" ({ cls := "WitnessesMustLie", name := "many", desc := "(I)I" } : Jvm.MethodName) ({ cls := "WitnessesMustLie", name := "many", desc := "(I)I" } : Jvm.MethodName)) ∈ ab_Tg := ab_t3 149 rfl rfl
theorem tw_604 : (Jvm.Cond.code ({ cls := "WitnessesMustLie", name := "many", desc := "(I)I" } : Jvm.MethodName) prog_1_method_13_code (2 : Nat) (Option.some Jvm.ClassFile.FieldType.int)) ∈ ab_Tg := ab_t3 150 rfl rfl
theorem tw_605 : (Jvm.Cond.methodLink "WitnessesMustLie" (192 : Nat) ({ cls := "java/lang/Long", name := "bitCount", desc := "(J)I" } : Jvm.MethodName)) ∈ ab_Tg := ab_t3 151 rfl rfl
theorem tw_606 : (Jvm.Cond.static ({ cls := "java/lang/Long", name := "bitCount", desc := "(J)I" } : Jvm.MethodName)) ∈ ab_Tg := ab_t3 152 rfl rfl
theorem tw_607 : (Jvm.Cond.code ({ cls := "java/lang/Long", name := "bitCount", desc := "(J)I" } : Jvm.MethodName) prog_22_method_50_code (2 : Nat) (Option.some Jvm.ClassFile.FieldType.int)) ∈ ab_Tg := ab_t3 153 rfl rfl
theorem tw_608 : (Jvm.Cond.constantLong "java/lang/Long" (314 : Nat) (6148914691236517205 : Int64)) ∈ ab_Tg := ab_t3 154 rfl rfl
theorem tw_609 : (Jvm.Cond.constantLong "java/lang/Long" (316 : Nat) (3689348814741910323 : Int64)) ∈ ab_Tg := ab_t3 155 rfl rfl
theorem tw_610 : (Jvm.Cond.constantLong "java/lang/Long" (318 : Nat) (1085102592571150095 : Int64)) ∈ ab_Tg := ab_t3 156 rfl rfl
theorem tw_611 : (Jvm.Cond.methodLink "WitnessesMustLieLaw" (82 : Nat) ({ cls := "WitnessesMustLie", name := "proved", desc := "(I)I" } : Jvm.MethodName)) ∈ ab_Tg := ab_t3 157 rfl rfl
theorem tw_612 : (Jvm.Cond.instanceMethod ({ cls := "WitnessesMustLie", name := "proved", desc := "(I)I" } : Jvm.MethodName)) ∈ ab_Tg := ab_t3 158 rfl rfl
theorem tw_613 : (Jvm.Cond.selects "WitnessesMustLie" ({ cls := "WitnessesMustLie", name := "proved", desc := "(I)I" } : Jvm.MethodName) ({ cls := "WitnessesMustLie", name := "proved", desc := "(I)I" } : Jvm.MethodName)) ∈ ab_Tg := ab_t3 159 rfl rfl
theorem tw_614 : (Jvm.Cond.code ({ cls := "WitnessesMustLie", name := "proved", desc := "(I)I" } : Jvm.MethodName) prog_1_method_14_code (2 : Nat) (Option.some Jvm.ClassFile.FieldType.int)) ∈ ab_Tg := ab_t3 160 rfl rfl
theorem tw_615 : (Jvm.Cond.methodLink "WitnessesMustLie" (198 : Nat) ({ cls := "WitnessesMustLie$Trial", name := "left", desc := "()J" } : Jvm.MethodName)) ∈ ab_Tg := ab_t3 161 rfl rfl
theorem tw_616 : (Jvm.Cond.methodLink "WitnessesMustLie" (202 : Nat) ({ cls := "WitnessesMustLie", name := "factsOfAll", desc := "(J)I" } : Jvm.MethodName)) ∈ ab_Tg := ab_t3 162 rfl rfl
theorem tw_617 : (Jvm.Cond.static ({ cls := "WitnessesMustLie", name := "factsOfAll", desc := "(J)I" } : Jvm.MethodName)) ∈ ab_Tg := ab_t3 163 rfl rfl
theorem tw_618 : (Jvm.Cond.code ({ cls := "WitnessesMustLie", name := "factsOfAll", desc := "(J)I" } : Jvm.MethodName) prog_1_method_58_code (4 : Nat) (Option.some Jvm.ClassFile.FieldType.int)) ∈ ab_Tg := ab_t3 164 rfl rfl
theorem tw_619 : (Jvm.Cond.methodLink "WitnessesMustLie" (233 : Nat) ({ cls := "WitnessesMustLie", name := "worldsWith", desc := "(I)J" } : Jvm.MethodName)) ∈ ab_Tg := ab_t3 165 rfl rfl
theorem tw_620 : (Jvm.Cond.constantLong "WitnessesMustLie" (219 : Nat) (-1 : Int64)) ∈ ab_Tg := ab_t3 166 rfl rfl
theorem tw_621 : (Jvm.Cond.methodLink "WitnessesMustLie" (402 : Nat) ({ cls := "WitnessesMustLie", name := "factBit", desc := "(I)I" } : Jvm.MethodName)) ∈ ab_Tg := ab_t3 167 rfl rfl
theorem tw_622 : (Jvm.Cond.methodLink "WitnessesMustLie" (205 : Nat) ({ cls := "WitnessesMustLie", name := "factsOfNone", desc := "(J)I" } : Jvm.MethodName)) ∈ ab_Tg := ab_t3 168 rfl rfl
theorem tw_623 : (Jvm.Cond.static ({ cls := "WitnessesMustLie", name := "factsOfNone", desc := "(J)I" } : Jvm.MethodName)) ∈ ab_Tg := ab_t3 169 rfl rfl
theorem tw_624 : (Jvm.Cond.code ({ cls := "WitnessesMustLie", name := "factsOfNone", desc := "(J)I" } : Jvm.MethodName) prog_1_method_59_code (4 : Nat) (Option.some Jvm.ClassFile.FieldType.int)) ∈ ab_Tg := ab_t3 170 rfl rfl
theorem tw_625 : (Jvm.Cond.methodLink "WitnessesMustLieLaw" (85 : Nat) ({ cls := "WitnessesMustLie", name := "slips", desc := "(I)I" } : Jvm.MethodName)) ∈ ab_Tg := ab_t3 171 rfl rfl
theorem tw_626 : (Jvm.Cond.instanceMethod ({ cls := "WitnessesMustLie", name := "slips", desc := "(I)I" } : Jvm.MethodName)) ∈ ab_Tg := ab_t3 172 rfl rfl
theorem tw_627 : (Jvm.Cond.selects "WitnessesMustLie" ({ cls := "WitnessesMustLie", name := "slips", desc := "(I)I" } : Jvm.MethodName) ({ cls := "WitnessesMustLie", name := "slips", desc := "(I)I" } : Jvm.MethodName)) ∈ ab_Tg := ab_t3 173 rfl rfl
theorem tw_628 : (Jvm.Cond.code ({ cls := "WitnessesMustLie", name := "slips", desc := "(I)I" } : Jvm.MethodName) prog_1_method_15_code (3 : Nat) (Option.some Jvm.ClassFile.FieldType.int)) ∈ ab_Tg := ab_t3 174 rfl rfl
theorem tw_629 : (Jvm.Cond.methodLink "WitnessesMustLie" (208 : Nat) ({ cls := "WitnessesMustLie$Trial", name := "trueOnes", desc := "(I)I" } : Jvm.MethodName)) ∈ ab_Tg := ab_t3 175 rfl rfl
theorem tw_630 : (Jvm.Cond.instanceMethod ({ cls := "WitnessesMustLie$Trial", name := "trueOnes", desc := "(I)I" } : Jvm.MethodName)) ∈ ab_Tg := ab_t3 176 rfl rfl
theorem tw_631 : (Jvm.Cond.selects "WitnessesMustLie$Trial" ({ cls := "WitnessesMustLie$Trial", name := "trueOnes", desc := "(I)I" } : Jvm.MethodName) ({ cls := "WitnessesMustLie$Trial", name := "trueOnes", desc := "(I)I" } : Jvm.MethodName)) ∈ ab_Tg := ab_t3 177 rfl rfl
theorem tw_632 : (Jvm.Cond.code ({ cls := "WitnessesMustLie$Trial", name := "trueOnes", desc := "(I)I" } : Jvm.MethodName) prog_12_method_16_code (4 : Nat) (Option.some Jvm.ClassFile.FieldType.int)) ∈ ab_Tg := ab_t3 178 rfl rfl
theorem tw_633 : (Jvm.Cond.methodLinkNest "WitnessesMustLie$Trial" (97 : Nat) ({ cls := "WitnessesMustLie", name := "hasWorld", desc := "(JI)Z" } : Jvm.MethodName) "WitnessesMustLie") ∈ ab_Tn := ab_n3 179 rfl rfl
theorem tw_634 : (Jvm.Cond.methodLink "WitnessesMustLie" (211 : Nat) ({ cls := "java/lang/Integer", name := "numberOfTrailingZeros", desc := "(I)I" } : Jvm.MethodName)) ∈ ab_Tg := ab_t3 180 rfl rfl
theorem tw_635 : (Jvm.Cond.static ({ cls := "java/lang/Integer", name := "numberOfTrailingZeros", desc := "(I)I" } : Jvm.MethodName)) ∈ ab_Tg := ab_t3 181 rfl rfl
theorem tw_636 : (Jvm.Cond.code ({ cls := "java/lang/Integer", name := "numberOfTrailingZeros", desc := "(I)I" } : Jvm.MethodName) prog_20_method_48_code (2 : Nat) (Option.some Jvm.ClassFile.FieldType.int)) ∈ ab_Tg := ab_t3 182 rfl rfl
theorem tw_637 : (Jvm.Cond.constant "java/lang/Integer" (264 : Nat) (65536 : Int32)) ∈ ab_Tg := ab_t3 183 rfl rfl
theorem tw_638 : (Jvm.Cond.methodLink "WitnessesMustLieLaw" (57 : Nat) ({ cls := "WitnessesMustLie", name := "alone", desc := "(I)I" } : Jvm.MethodName)) ∈ ab_Tg := ab_t3 184 rfl rfl
theorem tw_639 : (Jvm.Cond.instanceMethod ({ cls := "WitnessesMustLie", name := "alone", desc := "(I)I" } : Jvm.MethodName)) ∈ ab_Tg := ab_t3 185 rfl rfl
theorem tw_640 : (Jvm.Cond.selects "WitnessesMustLie" ({ cls := "WitnessesMustLie", name := "alone", desc := "(I)I" } : Jvm.MethodName) ({ cls := "WitnessesMustLie", name := "alone", desc := "(I)I" } : Jvm.MethodName)) ∈ ab_Tg := ab_t3 186 rfl rfl
theorem tw_641 : (Jvm.Cond.code ({ cls := "WitnessesMustLie", name := "alone", desc := "(I)I" } : Jvm.MethodName) prog_1_method_16_code (3 : Nat) (Option.some Jvm.ClassFile.FieldType.int)) ∈ ab_Tg := ab_t3 187 rfl rfl
theorem tw_642 : (Jvm.Cond.methodLink "WitnessesMustLie" (216 : Nat) ({ cls := "WitnessesMustLie$Trial", name := "mayBe", desc := "()J" } : Jvm.MethodName)) ∈ ab_Tg := ab_t3 188 rfl rfl
theorem tw_643 : (Jvm.Cond.methodLink "WitnessesMustLieLaw" (88 : Nat) ({ cls := "WitnessesMustLie", name := "clash", desc := "()I" } : Jvm.MethodName)) ∈ ab_Tg := ab_t3 189 rfl rfl
theorem tw_644 : (Jvm.Cond.instanceMethod ({ cls := "WitnessesMustLie", name := "clash", desc := "()I" } : Jvm.MethodName)) ∈ ab_Tg := ab_t3 190 rfl rfl
theorem tw_645 : (Jvm.Cond.selects "WitnessesMustLie" ({ cls := "WitnessesMustLie", name := "clash", desc := "()I" } : Jvm.MethodName) ({ cls := "WitnessesMustLie", name := "clash", desc := "()I" } : Jvm.MethodName)) ∈ ab_Tg := ab_t3 191 rfl rfl
theorem tw_646 : (Jvm.Cond.code ({ cls := "WitnessesMustLie", name := "clash", desc := "()I" } : Jvm.MethodName) prog_1_method_17_code (9 : Nat) (Option.some Jvm.ClassFile.FieldType.int)) ∈ ab_Tg := ab_t3 192 rfl rfl
theorem tw_647 : (Jvm.Cond.methodLink "WitnessesMustLieLaw" (92 : Nat) ({ cls := "WitnessesMustLie", name := "slipped", desc := "()I" } : Jvm.MethodName)) ∈ ab_Tg := ab_t3 193 rfl rfl
theorem tw_648 : (Jvm.Cond.instanceMethod ({ cls := "WitnessesMustLie", name := "slipped", desc := "()I" } : Jvm.MethodName)) ∈ ab_Tg := ab_t3 194 rfl rfl
theorem tw_649 : (Jvm.Cond.selects "WitnessesMustLie" ({ cls := "WitnessesMustLie", name := "slipped", desc := "()I" } : Jvm.MethodName) ({ cls := "WitnessesMustLie", name := "slipped", desc := "()I" } : Jvm.MethodName)) ∈ ab_Tg := ab_t3 195 rfl rfl
theorem tw_650 : (Jvm.Cond.code ({ cls := "WitnessesMustLie", name := "slipped", desc := "()I" } : Jvm.MethodName) prog_1_method_19_code (8 : Nat) (Option.some Jvm.ClassFile.FieldType.int)) ∈ ab_Tg := ab_t3 196 rfl rfl
theorem tw_651 : (Jvm.Cond.methodLink "WitnessesMustLie" (224 : Nat) ({ cls := "java/lang/Integer", name := "bitCount", desc := "(I)I" } : Jvm.MethodName)) ∈ ab_Tg := ab_t3 197 rfl rfl
theorem tw_652 : (Jvm.Cond.static ({ cls := "java/lang/Integer", name := "bitCount", desc := "(I)I" } : Jvm.MethodName)) ∈ ab_Tg := ab_t3 198 rfl rfl
theorem tw_653 : (Jvm.Cond.code ({ cls := "java/lang/Integer", name := "bitCount", desc := "(I)I" } : Jvm.MethodName) prog_20_method_49_code (1 : Nat) (Option.some Jvm.ClassFile.FieldType.int)) ∈ ab_Tg := ab_t3 199 rfl rfl
theorem tw_654 : (Jvm.Cond.constant "java/lang/Integer" (265 : Nat) (1431655765 : Int32)) ∈ ab_Tg := ab_t3 200 rfl rfl
theorem tw_655 : (Jvm.Cond.constant "java/lang/Integer" (266 : Nat) (858993459 : Int32)) ∈ ab_Tg := ab_t3 201 rfl rfl
theorem tw_656 : (Jvm.Cond.constant "java/lang/Integer" (267 : Nat) (252645135 : Int32)) ∈ ab_Tg := ab_t3 202 rfl rfl
theorem tw_657 : (Jvm.Cond.methodLink "WitnessesMustLieLaw" (95 : Nat) ({ cls := "WitnessesMustLie", name := "ask", desc := "()I" } : Jvm.MethodName)) ∈ ab_Tg := ab_t3 203 rfl rfl
theorem tw_658 : (Jvm.Cond.instanceMethod ({ cls := "WitnessesMustLie", name := "ask", desc := "()I" } : Jvm.MethodName)) ∈ ab_Tg := ab_t3 204 rfl rfl
theorem tw_659 : (Jvm.Cond.selects "WitnessesMustLie" ({ cls := "WitnessesMustLie", name := "ask", desc := "()I" } : Jvm.MethodName) ({ cls := "WitnessesMustLie", name := "ask", desc := "()I" } : Jvm.MethodName)) ∈ ab_Tg := ab_t3 205 rfl rfl
theorem tw_660 : (Jvm.Cond.code ({ cls := "WitnessesMustLie", name := "ask", desc := "()I" } : Jvm.MethodName) prog_1_method_20_code (8 : Nat) (Option.some Jvm.ClassFile.FieldType.int)) ∈ ab_Tg := ab_t3 206 rfl rfl
theorem tw_661 : (Jvm.Cond.methodLink "WitnessesMustLie" (236 : Nat) ({ cls := "java/lang/Math", name := "min", desc := "(II)I" } : Jvm.MethodName)) ∈ ab_Tg := ab_t3 207 rfl rfl
theorem tw_662 : (Jvm.Cond.methodLink "WitnessesMustLieLaw" (98 : Nat) ({ cls := "WitnessesMustLie", name := "plain", desc := "()I" } : Jvm.MethodName)) ∈ ab_Tg := ab_t3 208 rfl rfl
theorem tw_663 : (Jvm.Cond.instanceMethod ({ cls := "WitnessesMustLie", name := "plain", desc := "()I" } : Jvm.MethodName)) ∈ ab_Tg := ab_t3 209 rfl rfl
theorem tw_664 : (Jvm.Cond.selects "WitnessesMustLie" ({ cls := "WitnessesMustLie", name := "plain", desc := "()I" } : Jvm.MethodName) ({ cls := "WitnessesMustLie", name := "plain", desc := "()I" } : Jvm.MethodName)) ∈ ab_Tg := ab_t3 210 rfl rfl
theorem tw_665 : (Jvm.Cond.code ({ cls := "WitnessesMustLie", name := "plain", desc := "()I" } : Jvm.MethodName) prog_1_method_21_code (5 : Nat) (Option.some Jvm.ClassFile.FieldType.int)) ∈ ab_Tg := ab_t3 211 rfl rfl
theorem tw_666 : (Jvm.Cond.methodLink "WitnessesMustLie" (242 : Nat) ({ cls := "WitnessesMustLie$Trial", name := "isPlainBy", desc := "(I)Z" } : Jvm.MethodName)) ∈ ab_Tg := ab_t3 212 rfl rfl
theorem tw_667 : (Jvm.Cond.instanceMethod ({ cls := "WitnessesMustLie$Trial", name := "isPlainBy", desc := "(I)Z" } : Jvm.MethodName)) ∈ ab_Tg := ab_t3 213 rfl rfl
theorem tw_668 : (Jvm.Cond.selects "WitnessesMustLie$Trial" ({ cls := "WitnessesMustLie$Trial", name := "isPlainBy", desc := "(I)Z" } : Jvm.MethodName) ({ cls := "WitnessesMustLie$Trial", name := "isPlainBy", desc := "(I)Z" } : Jvm.MethodName)) ∈ ab_Tg := ab_t3 214 rfl rfl
theorem tw_669 : (Jvm.Cond.code ({ cls := "WitnessesMustLie$Trial", name := "isPlainBy", desc := "(I)Z" } : Jvm.MethodName) prog_12_method_15_code (2 : Nat) (Option.some Jvm.ClassFile.FieldType.boolean)) ∈ ab_Tg := ab_t3 215 rfl rfl
theorem tw_670 : (Jvm.Cond.methodLink "WitnessesMustLie$Trial" (87 : Nat) ({ cls := "WitnessesMustLie$Trial", name := "leftByTellers", desc := "(I)J" } : Jvm.MethodName)) ∈ ab_Tg := ab_t3 216 rfl rfl
theorem tw_671 : (Jvm.Cond.instanceMethod ({ cls := "WitnessesMustLie$Trial", name := "leftByTellers", desc := "(I)J" } : Jvm.MethodName)) ∈ ab_Tg := ab_t3 217 rfl rfl
theorem tw_672 : (Jvm.Cond.selects "WitnessesMustLie$Trial" ({ cls := "WitnessesMustLie$Trial", name := "leftByTellers", desc := "(I)J" } : Jvm.MethodName) ({ cls := "WitnessesMustLie$Trial", name := "leftByTellers", desc := "(I)J" } : Jvm.MethodName)) ∈ ab_Tg := ab_t3 218 rfl rfl
theorem tw_673 : (Jvm.Cond.code ({ cls := "WitnessesMustLie$Trial", name := "leftByTellers", desc := "(I)J" } : Jvm.MethodName) prog_12_method_14_code (4 : Nat) (Option.some Jvm.ClassFile.FieldType.long)) ∈ ab_Tg := ab_t3 219 rfl rfl
theorem tw_674 : (Jvm.Cond.methodLink "WitnessesMustLie$Trial" (91 : Nat) ({ cls := "java/lang/Long", name := "bitCount", desc := "(J)I" } : Jvm.MethodName)) ∈ ab_Tg := ab_t3 220 rfl rfl
theorem tw_675 : (Jvm.Cond.methodLink "WitnessesMustLieLaw" (63 : Nat) ({ cls := "WitnessesMustLie", name := "without", desc := "(I)I" } : Jvm.MethodName)) ∈ ab_Tg := ab_t3 221 rfl rfl
theorem tw_676 : (Jvm.Cond.instanceMethod ({ cls := "WitnessesMustLie", name := "without", desc := "(I)I" } : Jvm.MethodName)) ∈ ab_Tg := ab_t3 222 rfl rfl
theorem tw_677 : (Jvm.Cond.selects "WitnessesMustLie" ({ cls := "WitnessesMustLie", name := "without", desc := "(I)I" } : Jvm.MethodName) ({ cls := "WitnessesMustLie", name := "without", desc := "(I)I" } : Jvm.MethodName)) ∈ ab_Tg := ab_t3 223 rfl rfl
theorem tw_678 : (Jvm.Cond.code ({ cls := "WitnessesMustLie", name := "without", desc := "(I)I" } : Jvm.MethodName) prog_1_method_23_code (4 : Nat) (Option.some Jvm.ClassFile.FieldType.int)) ∈ ab_Tg := ab_t3 224 rfl rfl
theorem tw_679 : (Jvm.Cond.methodLink "WitnessesMustLie" (251 : Nat) ({ cls := "WitnessesMustLie$Trial", name := "leftByTellers", desc := "(I)J" } : Jvm.MethodName)) ∈ ab_Tg := ab_t3 225 rfl rfl
theorem tw_680 : (Jvm.Cond.methodLink "WitnessesMustLieLaw" (66 : Nat) ({ cls := "WitnessesMustLie", name := "lie", desc := "(II)I" } : Jvm.MethodName)) ∈ ab_Tg := ab_t3 226 rfl rfl
theorem tw_681 : (Jvm.Cond.instanceMethod ({ cls := "WitnessesMustLie", name := "lie", desc := "(II)I" } : Jvm.MethodName)) ∈ ab_Tg := ab_t3 227 rfl rfl
theorem tw_682 : (Jvm.Cond.selects "WitnessesMustLie" ({ cls := "WitnessesMustLie", name := "lie", desc := "(II)I" } : Jvm.MethodName) ({ cls := "WitnessesMustLie", name := "lie", desc := "(II)I" } : Jvm.MethodName)) ∈ ab_Tg := ab_t3 228 rfl rfl
theorem tw_683 : (Jvm.Cond.code ({ cls := "WitnessesMustLie", name := "lie", desc := "(II)I" } : Jvm.MethodName) prog_1_method_24_code (10 : Nat) (Option.some Jvm.ClassFile.FieldType.int)) ∈ ab_Tg := ab_t3 229 rfl rfl
theorem tw_684 : (Jvm.Cond.methodLink "WitnessesMustLie" (254 : Nat) ({ cls := "WitnessesMustLie", name := "isLie", desc := "(II)Z" } : Jvm.MethodName)) ∈ ab_Tg := ab_t3 230 rfl rfl
theorem tw_685 : (Jvm.Cond.instanceMethod ({ cls := "WitnessesMustLie", name := "isLie", desc := "(II)Z" } : Jvm.MethodName)) ∈ ab_Tg := ab_t3 232 rfl rfl
theorem tw_686 : (Jvm.Cond.code ({ cls := "WitnessesMustLie", name := "isLie", desc := "(II)Z" } : Jvm.MethodName) prog_1_method_78_code (5 : Nat) (Option.some Jvm.ClassFile.FieldType.boolean)) ∈ ab_Tg := ab_t3 233 rfl rfl
theorem tw_687 : (Jvm.Cond.methodLink "WitnessesMustLie" (261 : Nat) ({ cls := "WitnessesMustLie", name := "kindOfCode", desc := "(I)I" } : Jvm.MethodName)) ∈ ab_Tg := ab_t3 234 rfl rfl
theorem tw_688 : (Jvm.Cond.static ({ cls := "WitnessesMustLie", name := "kindOfCode", desc := "(I)I" } : Jvm.MethodName)) ∈ ab_Tg := ab_t3 235 rfl rfl
theorem tw_689 : (Jvm.Cond.code ({ cls := "WitnessesMustLie", name := "kindOfCode", desc := "(I)I" } : Jvm.MethodName) prog_1_method_74_code (1 : Nat) (Option.some Jvm.ClassFile.FieldType.int)) ∈ ab_Tg := ab_t3 236 rfl rfl
theorem tw_690 : (Jvm.Cond.methodLink "WitnessesMustLie" (264 : Nat) ({ cls := "WitnessesMustLie", name := "firstOfCode", desc := "(I)I" } : Jvm.MethodName)) ∈ ab_Tg := ab_t3 237 rfl rfl
theorem tw_691 : (Jvm.Cond.static ({ cls := "WitnessesMustLie", name := "firstOfCode", desc := "(I)I" } : Jvm.MethodName)) ∈ ab_Tg := ab_t3 238 rfl rfl
theorem tw_692 : (Jvm.Cond.code ({ cls := "WitnessesMustLie", name := "firstOfCode", desc := "(I)I" } : Jvm.MethodName) prog_1_method_75_code (1 : Nat) (Option.some Jvm.ClassFile.FieldType.int)) ∈ ab_Tg := ab_t3 239 rfl rfl
theorem tw_693 : (Jvm.Cond.methodLink "WitnessesMustLie" (267 : Nat) ({ cls := "WitnessesMustLie", name := "secondOfCode", desc := "(I)I" } : Jvm.MethodName)) ∈ ab_Tg := ab_t4 0 rfl rfl
theorem tw_694 : (Jvm.Cond.static ({ cls := "WitnessesMustLie", name := "secondOfCode", desc := "(I)I" } : Jvm.MethodName)) ∈ ab_Tg := ab_t4 1 rfl rfl
theorem tw_695 : (Jvm.Cond.code ({ cls := "WitnessesMustLie", name := "secondOfCode", desc := "(I)I" } : Jvm.MethodName) prog_1_method_76_code (1 : Nat) (Option.some Jvm.ClassFile.FieldType.int)) ∈ ab_Tg := ab_t4 2 rfl rfl
theorem tw_696 : (Jvm.Cond.methodLink "WitnessesMustLie" (435 : Nat) ({ cls := "WitnessesMustLie$Says", name := "facts", desc := "(III)I" } : Jvm.MethodName)) ∈ ab_Tg := ab_t4 3 rfl rfl
theorem tw_697 : (Jvm.Cond.methodLink "WitnessesMustLie" (132 : Nat) ({ cls := "WitnessesMustLie$Trial", name := "knownBy", desc := "(I)I" } : Jvm.MethodName)) ∈ ab_Tg := ab_t4 4 rfl rfl
theorem tw_698 : (Jvm.Cond.methodLink "WitnessesMustLie" (258 : Nat) ({ cls := "WitnessesMustLie", name := "worldsOfCode", desc := "(I)J" } : Jvm.MethodName)) ∈ ab_Tg := ab_t4 5 rfl rfl
theorem tw_699 : (Jvm.Cond.instanceMethod ({ cls := "WitnessesMustLie", name := "worldsOfCode", desc := "(I)J" } : Jvm.MethodName)) ∈ ab_Tg := ab_t4 7 rfl rfl
theorem tw_700 : (Jvm.Cond.code ({ cls := "WitnessesMustLie", name := "worldsOfCode", desc := "(I)J" } : Jvm.MethodName) prog_1_method_77_code (3 : Nat) (Option.some Jvm.ClassFile.FieldType.long)) ∈ ab_Tg := ab_t4 8 rfl rfl
theorem tw_701 : (Jvm.Cond.methodLink "WitnessesMustLieLaw" (148 : Nat) ({ cls := "WitnessesMustLie", name := "tells", desc := "(III)I" } : Jvm.MethodName)) ∈ ab_Tg := ab_t4 9 rfl rfl
theorem tw_702 : (Jvm.Cond.instanceMethod ({ cls := "WitnessesMustLie", name := "tells", desc := "(III)I" } : Jvm.MethodName)) ∈ ab_Tg := ab_t4 10 rfl rfl
theorem tw_703 : (Jvm.Cond.selects "WitnessesMustLie" ({ cls := "WitnessesMustLie", name := "tells", desc := "(III)I" } : Jvm.MethodName) ({ cls := "WitnessesMustLie", name := "tells", desc := "(III)I" } : Jvm.MethodName)) ∈ ab_Tg := ab_t4 11 rfl rfl
theorem tw_704 : (Jvm.Cond.code ({ cls := "WitnessesMustLie", name := "tells", desc := "(III)I" } : Jvm.MethodName) prog_1_method_26_code (6 : Nat) (Option.some Jvm.ClassFile.FieldType.int)) ∈ ab_Tg := ab_t4 12 rfl rfl
theorem tw_705 : (Jvm.Cond.methodLink "WitnessesMustLie" (144 : Nat) ({ cls := "WitnessesMustLie$Shelf", name := "worldsOf", desc := "(II)J" } : Jvm.MethodName)) ∈ ab_Tg := ab_t4 13 rfl rfl
theorem tw_706 : (Jvm.Cond.instanceMethod ({ cls := "WitnessesMustLie$Shelf", name := "worldsOf", desc := "(II)J" } : Jvm.MethodName)) ∈ ab_Tg := ab_t4 14 rfl rfl
theorem tw_707 : (Jvm.Cond.selects "WitnessesMustLie$Shelf" ({ cls := "WitnessesMustLie$Shelf", name := "worldsOf", desc := "(II)J" } : Jvm.MethodName) ({ cls := "WitnessesMustLie$Shelf", name := "worldsOf", desc := "(II)J" } : Jvm.MethodName)) ∈ ab_Tg := ab_t4 15 rfl rfl
theorem tw_708 : (Jvm.Cond.code ({ cls := "WitnessesMustLie$Shelf", name := "worldsOf", desc := "(II)J" } : Jvm.MethodName) prog_11_method_9_code (3 : Nat) (Option.some Jvm.ClassFile.FieldType.long)) ∈ ab_Tg := ab_t4 16 rfl rfl
theorem tw_709 : (Jvm.Cond.methodLink "WitnessesMustLie$Shelf" (40 : Nat) ({ cls := "WitnessesMustLie$Says", name := "worldsOf", desc := "(III)J" } : Jvm.MethodName)) ∈ ab_Tg := ab_t4 17 rfl rfl
theorem tw_710 : (Jvm.Cond.methodLink "WitnessesMustLieLaw" (69 : Nat) ({ cls := "WitnessesMustLie", name := "certain", desc := "(I)I" } : Jvm.MethodName)) ∈ ab_Tg := ab_t4 18 rfl rfl
theorem tw_711 : (Jvm.Cond.instanceMethod ({ cls := "WitnessesMustLie", name := "certain", desc := "(I)I" } : Jvm.MethodName)) ∈ ab_Tg := ab_t4 19 rfl rfl
theorem tw_712 : (Jvm.Cond.selects "WitnessesMustLie" ({ cls := "WitnessesMustLie", name := "certain", desc := "(I)I" } : Jvm.MethodName) ({ cls := "WitnessesMustLie", name := "certain", desc := "(I)I" } : Jvm.MethodName)) ∈ ab_Tg := ab_t4 20 rfl rfl
theorem tw_713 : (Jvm.Cond.code ({ cls := "WitnessesMustLie", name := "certain", desc := "(I)I" } : Jvm.MethodName) prog_1_method_28_code (2 : Nat) (Option.some Jvm.ClassFile.FieldType.int)) ∈ ab_Tg := ab_t4 21 rfl rfl
theorem tw_714 : (Jvm.Cond.methodLink "WitnessesMustLie" (284 : Nat) ({ cls := "WitnessesMustLie", name := "likeInKnown", desc := "(JII)J" } : Jvm.MethodName)) ∈ ab_Tg := ab_t4 22 rfl rfl
theorem tw_715 : (Jvm.Cond.static ({ cls := "WitnessesMustLie", name := "likeInKnown", desc := "(JII)J" } : Jvm.MethodName)) ∈ ab_Tg := ab_t4 23 rfl rfl
theorem tw_716 : (Jvm.Cond.code ({ cls := "WitnessesMustLie", name := "likeInKnown", desc := "(JII)J" } : Jvm.MethodName) prog_1_method_62_code (7 : Nat) (Option.some Jvm.ClassFile.FieldType.long)) ∈ ab_Tg := ab_t4 24 rfl rfl
theorem tw_717 : (Jvm.Cond.methodLink "WitnessesMustLie" (288 : Nat) ({ cls := "WitnessesMustLie", name := "factsAlike", desc := "(J)I" } : Jvm.MethodName)) ∈ ab_Tg := ab_t4 25 rfl rfl
theorem tw_718 : (Jvm.Cond.static ({ cls := "WitnessesMustLie", name := "factsAlike", desc := "(J)I" } : Jvm.MethodName)) ∈ ab_Tg := ab_t4 26 rfl rfl
theorem tw_719 : (Jvm.Cond.code ({ cls := "WitnessesMustLie", name := "factsAlike", desc := "(J)I" } : Jvm.MethodName) prog_1_method_60_code (2 : Nat) (Option.some Jvm.ClassFile.FieldType.int)) ∈ ab_Tg := ab_t4 27 rfl rfl
theorem tw_720 : (Jvm.Cond.methodLink "WitnessesMustLieLaw" (72 : Nat) ({ cls := "WitnessesMustLie", name := "knowsOf", desc := "(II)I" } : Jvm.MethodName)) ∈ ab_Tg := ab_t4 28 rfl rfl
theorem tw_721 : (Jvm.Cond.instanceMethod ({ cls := "WitnessesMustLie", name := "knowsOf", desc := "(II)I" } : Jvm.MethodName)) ∈ ab_Tg := ab_t4 29 rfl rfl
theorem tw_722 : (Jvm.Cond.selects "WitnessesMustLie" ({ cls := "WitnessesMustLie", name := "knowsOf", desc := "(II)I" } : Jvm.MethodName) ({ cls := "WitnessesMustLie", name := "knowsOf", desc := "(II)I" } : Jvm.MethodName)) ∈ ab_Tg := ab_t4 30 rfl rfl
theorem tw_723 : (Jvm.Cond.code ({ cls := "WitnessesMustLie", name := "knowsOf", desc := "(II)I" } : Jvm.MethodName) prog_1_method_29_code (9 : Nat) (Option.some Jvm.ClassFile.FieldType.int)) ∈ ab_Tg := ab_t4 31 rfl rfl
theorem tw_724 : (Jvm.Cond.methodLink "WitnessesMustLieLaw" (110 : Nat) ({ cls := "WitnessesMustLie", name := "allKnow", desc := "(I)I" } : Jvm.MethodName)) ∈ ab_Tg := ab_t4 32 rfl rfl
theorem tw_725 : (Jvm.Cond.instanceMethod ({ cls := "WitnessesMustLie", name := "allKnow", desc := "(I)I" } : Jvm.MethodName)) ∈ ab_Tg := ab_t4 33 rfl rfl
theorem tw_726 : (Jvm.Cond.selects "WitnessesMustLie" ({ cls := "WitnessesMustLie", name := "allKnow", desc := "(I)I" } : Jvm.MethodName) ({ cls := "WitnessesMustLie", name := "allKnow", desc := "(I)I" } : Jvm.MethodName)) ∈ ab_Tg := ab_t4 34 rfl rfl
theorem tw_727 : (Jvm.Cond.code ({ cls := "WitnessesMustLie", name := "allKnow", desc := "(I)I" } : Jvm.MethodName) prog_1_method_30_code (7 : Nat) (Option.some Jvm.ClassFile.FieldType.int)) ∈ ab_Tg := ab_t4 35 rfl rfl
theorem tw_728 : (Jvm.Cond.methodLink "WitnessesMustLie" (291 : Nat) ({ cls := "WitnessesMustLie$Trial", name := "reachedFrom", desc := "(JJ)J" } : Jvm.MethodName)) ∈ ab_Tg := ab_t4 36 rfl rfl
theorem tw_729 : (Jvm.Cond.instanceMethod ({ cls := "WitnessesMustLie$Trial", name := "reachedFrom", desc := "(JJ)J" } : Jvm.MethodName)) ∈ ab_Tg := ab_t4 37 rfl rfl
theorem tw_730 : (Jvm.Cond.selects "WitnessesMustLie$Trial" ({ cls := "WitnessesMustLie$Trial", name := "reachedFrom", desc := "(JJ)J" } : Jvm.MethodName) ({ cls := "WitnessesMustLie$Trial", name := "reachedFrom", desc := "(JJ)J" } : Jvm.MethodName)) ∈ ab_Tg := ab_t4 38 rfl rfl
theorem tw_731 : (Jvm.Cond.code ({ cls := "WitnessesMustLie$Trial", name := "reachedFrom", desc := "(JJ)J" } : Jvm.MethodName) prog_12_method_18_code (9 : Nat) (Option.some Jvm.ClassFile.FieldType.long)) ∈ ab_Tg := ab_t4 39 rfl rfl
theorem tw_732 : (Jvm.Cond.methodLinkNest "WitnessesMustLie$Trial" (104 : Nat) ({ cls := "WitnessesMustLie", name := "likeInKnown", desc := "(JII)J" } : Jvm.MethodName) "WitnessesMustLie") ∈ ab_Tn := ab_n4 40 rfl rfl
theorem tw_733 : (Jvm.Cond.methodLink "WitnessesMustLieLaw" (113 : Nat) ({ cls := "WitnessesMustLie", name := "seeds", desc := "(III)I" } : Jvm.MethodName)) ∈ ab_Tg := ab_t4 41 rfl rfl
theorem tw_734 : (Jvm.Cond.instanceMethod ({ cls := "WitnessesMustLie", name := "seeds", desc := "(III)I" } : Jvm.MethodName)) ∈ ab_Tg := ab_t4 42 rfl rfl
theorem tw_735 : (Jvm.Cond.selects "WitnessesMustLie" ({ cls := "WitnessesMustLie", name := "seeds", desc := "(III)I" } : Jvm.MethodName) ({ cls := "WitnessesMustLie", name := "seeds", desc := "(III)I" } : Jvm.MethodName)) ∈ ab_Tg := ab_t4 43 rfl rfl
theorem tw_736 : (Jvm.Cond.code ({ cls := "WitnessesMustLie", name := "seeds", desc := "(III)I" } : Jvm.MethodName) prog_1_method_34_code (15 : Nat) (Option.some Jvm.ClassFile.FieldType.int)) ∈ ab_Tg := ab_t4 44 rfl rfl
theorem tw_737 : (Jvm.Cond.methodLink "WitnessesMustLie" (317 : Nat) ({ cls := "WitnessesMustLie", name := "worldsOfDraws", desc := "(I)J" } : Jvm.MethodName)) ∈ ab_Tg := ab_t4 45 rfl rfl
theorem tw_738 : (Jvm.Cond.instanceMethod ({ cls := "WitnessesMustLie", name := "worldsOfDraws", desc := "(I)J" } : Jvm.MethodName)) ∈ ab_Tg := ab_t4 47 rfl rfl
theorem tw_739 : (Jvm.Cond.code ({ cls := "WitnessesMustLie", name := "worldsOfDraws", desc := "(I)J" } : Jvm.MethodName) prog_1_method_87_code (7 : Nat) (Option.some Jvm.ClassFile.FieldType.long)) ∈ ab_Tg := ab_t4 48 rfl rfl
theorem tw_740 : (Jvm.Cond.methodLink "WitnessesMustLie" (441 : Nat) ({ cls := "WitnessesMustLie", name := "nextSeed", desc := "(I)I" } : Jvm.MethodName)) ∈ ab_Tg := ab_t4 49 rfl rfl
theorem tw_741 : (Jvm.Cond.static ({ cls := "WitnessesMustLie", name := "nextSeed", desc := "(I)I" } : Jvm.MethodName)) ∈ ab_Tg := ab_t4 50 rfl rfl
theorem tw_742 : (Jvm.Cond.code ({ cls := "WitnessesMustLie", name := "nextSeed", desc := "(I)I" } : Jvm.MethodName) prog_1_method_84_code (1 : Nat) (Option.some Jvm.ClassFile.FieldType.int)) ∈ ab_Tg := ab_t4 51 rfl rfl
theorem tw_743 : (Jvm.Cond.constant "WitnessesMustLie" (438 : Nat) (1103515245 : Int32)) ∈ ab_Tg := ab_t4 52 rfl rfl
theorem tw_744 : (Jvm.Cond.methodLink "WitnessesMustLie" (444 : Nat) ({ cls := "WitnessesMustLie", name := "drawnBelow", desc := "(II)I" } : Jvm.MethodName)) ∈ ab_Tg := ab_t4 53 rfl rfl
theorem tw_745 : (Jvm.Cond.static ({ cls := "WitnessesMustLie", name := "drawnBelow", desc := "(II)I" } : Jvm.MethodName)) ∈ ab_Tg := ab_t4 54 rfl rfl
theorem tw_746 : (Jvm.Cond.code ({ cls := "WitnessesMustLie", name := "drawnBelow", desc := "(II)I" } : Jvm.MethodName) prog_1_method_85_code (2 : Nat) (Option.some Jvm.ClassFile.FieldType.int)) ∈ ab_Tg := ab_t4 55 rfl rfl
theorem tw_747 : (Jvm.Cond.constant "WitnessesMustLie" (439 : Nat) (2147483647 : Int32)) ∈ ab_Tg := ab_t4 56 rfl rfl
theorem tw_748 : (Jvm.Cond.constant "WitnessesMustLie" (440 : Nat) (65536 : Int32)) ∈ ab_Tg := ab_t4 57 rfl rfl
theorem tw_749 : (Jvm.Cond.methodLink "WitnessesMustLie" (320 : Nat) ({ cls := "WitnessesMustLie", name := "seedAfterDraws", desc := "(I)I" } : Jvm.MethodName)) ∈ ab_Tg := ab_t4 58 rfl rfl
theorem tw_750 : (Jvm.Cond.static ({ cls := "WitnessesMustLie", name := "seedAfterDraws", desc := "(I)I" } : Jvm.MethodName)) ∈ ab_Tg := ab_t4 59 rfl rfl
theorem tw_751 : (Jvm.Cond.code ({ cls := "WitnessesMustLie", name := "seedAfterDraws", desc := "(I)I" } : Jvm.MethodName) prog_1_method_86_code (1 : Nat) (Option.some Jvm.ClassFile.FieldType.int)) ∈ ab_Tg := ab_t4 60 rfl rfl
theorem tw_752 : (Jvm.Cond.methodLink "WitnessesMustLieLaw" (120 : Nat) ({ cls := "WitnessesMustLie", name := "image", desc := "()I" } : Jvm.MethodName)) ∈ ab_Tg := ab_t4 61 rfl rfl
theorem tw_753 : (Jvm.Cond.instanceMethod ({ cls := "WitnessesMustLie", name := "image", desc := "()I" } : Jvm.MethodName)) ∈ ab_Tg := ab_t4 62 rfl rfl
theorem tw_754 : (Jvm.Cond.selects "WitnessesMustLie" ({ cls := "WitnessesMustLie", name := "image", desc := "()I" } : Jvm.MethodName) ({ cls := "WitnessesMustLie", name := "image", desc := "()I" } : Jvm.MethodName)) ∈ ab_Tg := ab_t4 63 rfl rfl
theorem tw_755 : (Jvm.Cond.code ({ cls := "WitnessesMustLie", name := "image", desc := "()I" } : Jvm.MethodName) prog_1_method_35_code (1 : Nat) (Option.some Jvm.ClassFile.FieldType.int)) ∈ ab_Tg := ab_t4 64 rfl rfl
theorem tw_756 : (Jvm.Cond.methodLink "WitnessesMustLieLaw" (117 : Nat) ({ cls := "WitnessesMustLie", name := "restore", desc := "()I" } : Jvm.MethodName)) ∈ ab_Tg := ab_t4 65 rfl rfl
theorem tw_757 : (Jvm.Cond.instanceMethod ({ cls := "WitnessesMustLie", name := "restore", desc := "()I" } : Jvm.MethodName)) ∈ ab_Tg := ab_t4 66 rfl rfl
theorem tw_758 : (Jvm.Cond.selects "WitnessesMustLie" ({ cls := "WitnessesMustLie", name := "restore", desc := "()I" } : Jvm.MethodName) ({ cls := "WitnessesMustLie", name := "restore", desc := "()I" } : Jvm.MethodName)) ∈ ab_Tg := ab_t4 67 rfl rfl
theorem tw_759 : (Jvm.Cond.code ({ cls := "WitnessesMustLie", name := "restore", desc := "()I" } : Jvm.MethodName) prog_1_method_36_code (1 : Nat) (Option.some Jvm.ClassFile.FieldType.int)) ∈ ab_Tg := ab_t4 68 rfl rfl
theorem tw_760 : (Jvm.Cond.methodLink "WitnessesMustLieLaw" (48 : Nat) ({ cls := "WitnessesMustLie", name := "count", desc := "(I)I" } : Jvm.MethodName)) ∈ ab_Tg := ab_t4 69 rfl rfl
theorem tw_761 : (Jvm.Cond.instanceMethod ({ cls := "WitnessesMustLie", name := "count", desc := "(I)I" } : Jvm.MethodName)) ∈ ab_Tg := ab_t4 70 rfl rfl
theorem tw_762 : (Jvm.Cond.selects "WitnessesMustLie" ({ cls := "WitnessesMustLie", name := "count", desc := "(I)I" } : Jvm.MethodName) ({ cls := "WitnessesMustLie", name := "count", desc := "(I)I" } : Jvm.MethodName)) ∈ ab_Tg := ab_t4 71 rfl rfl
theorem tw_763 : (Jvm.Cond.code ({ cls := "WitnessesMustLie", name := "count", desc := "(I)I" } : Jvm.MethodName) prog_1_method_37_code (2 : Nat) (Option.some Jvm.ClassFile.FieldType.int)) ∈ ab_Tg := ab_t4 72 rfl rfl
theorem tw_764 : (Jvm.Cond.methodLink "WitnessesMustLie" (331 : Nat) ({ cls := "WitnessesMustLie$Trial", name := "wordsSaid", desc := "()I" } : Jvm.MethodName)) ∈ ab_Tg := ab_t4 73 rfl rfl
theorem tw_765 : (Jvm.Cond.instanceMethod ({ cls := "WitnessesMustLie$Trial", name := "wordsSaid", desc := "()I" } : Jvm.MethodName)) ∈ ab_Tg := ab_t4 74 rfl rfl
theorem tw_766 : (Jvm.Cond.selects "WitnessesMustLie$Trial" ({ cls := "WitnessesMustLie$Trial", name := "wordsSaid", desc := "()I" } : Jvm.MethodName) ({ cls := "WitnessesMustLie$Trial", name := "wordsSaid", desc := "()I" } : Jvm.MethodName)) ∈ ab_Tg := ab_t4 75 rfl rfl
theorem tw_767 : (Jvm.Cond.code ({ cls := "WitnessesMustLie$Trial", name := "wordsSaid", desc := "()I" } : Jvm.MethodName) prog_12_method_17_code (3 : Nat) (Option.some Jvm.ClassFile.FieldType.int)) ∈ ab_Tg := ab_t4 76 rfl rfl
theorem tw_768 : (Jvm.Cond.methodLink "WitnessesMustLie$Trial" (101 : Nat) ({ cls := "WitnessesMustLie$Saying", name := "words", desc := "()I" } : Jvm.MethodName)) ∈ ab_Tg := ab_t4 77 rfl rfl
theorem tw_769 : (Jvm.Cond.methodLink "WitnessesMustLieLaw" (33 : Nat) ({ cls := "WitnessesMustLie", name := "keep", desc := "(IIII)I" } : Jvm.MethodName)) ∈ ab_Tg := ab_t4 78 rfl rfl
theorem tw_770 : (Jvm.Cond.instanceMethod ({ cls := "WitnessesMustLie", name := "keep", desc := "(IIII)I" } : Jvm.MethodName)) ∈ ab_Tg := ab_t4 79 rfl rfl
theorem tw_771 : (Jvm.Cond.selects "WitnessesMustLie" ({ cls := "WitnessesMustLie", name := "keep", desc := "(IIII)I" } : Jvm.MethodName) ({ cls := "WitnessesMustLie", name := "keep", desc := "(IIII)I" } : Jvm.MethodName)) ∈ ab_Tg := ab_t4 80 rfl rfl
theorem tw_772 : (Jvm.Cond.code ({ cls := "WitnessesMustLie", name := "keep", desc := "(IIII)I" } : Jvm.MethodName) prog_1_method_38_code (7 : Nat) (Option.some Jvm.ClassFile.FieldType.int)) ∈ ab_Tg := ab_t4 81 rfl rfl
theorem tw_773 : (Jvm.Cond.methodLink "WitnessesMustLie" (334 : Nat) ({ cls := "WitnessesMustLie$Shelf", name := "holdNothing", desc := "()V" } : Jvm.MethodName)) ∈ ab_Tg := ab_t4 82 rfl rfl
theorem tw_774 : (Jvm.Cond.instanceMethod ({ cls := "WitnessesMustLie$Shelf", name := "holdNothing", desc := "()V" } : Jvm.MethodName)) ∈ ab_Tg := ab_t4 83 rfl rfl
theorem tw_775 : (Jvm.Cond.selects "WitnessesMustLie$Shelf" ({ cls := "WitnessesMustLie$Shelf", name := "holdNothing", desc := "()V" } : Jvm.MethodName) ({ cls := "WitnessesMustLie$Shelf", name := "holdNothing", desc := "()V" } : Jvm.MethodName)) ∈ ab_Tg := ab_t4 84 rfl rfl
theorem tw_776 : (Jvm.Cond.code ({ cls := "WitnessesMustLie$Shelf", name := "holdNothing", desc := "()V" } : Jvm.MethodName) prog_11_method_2_code (1 : Nat) (Option.none : Option Jvm.ClassFile.FieldType)) ∈ ab_Tg := ab_t4 85 rfl rfl
theorem tw_777 : (Jvm.Cond.methodLink "WitnessesMustLie" (341 : Nat) ({ cls := "WitnessesMustLie$Shelf", name := "holdSaying", desc := "(LWitnessesMustLie$Says;I)V" } : Jvm.MethodName)) ∈ ab_Tg := ab_t4 86 rfl rfl
theorem tw_778 : (Jvm.Cond.instanceMethod ({ cls := "WitnessesMustLie$Shelf", name := "holdSaying", desc := "(LWitnessesMustLie$Says;I)V" } : Jvm.MethodName)) ∈ ab_Tg := ab_t4 87 rfl rfl
theorem tw_779 : (Jvm.Cond.selects "WitnessesMustLie$Shelf" ({ cls := "WitnessesMustLie$Shelf", name := "holdSaying", desc := "(LWitnessesMustLie$Says;I)V" } : Jvm.MethodName) ({ cls := "WitnessesMustLie$Shelf", name := "holdSaying", desc := "(LWitnessesMustLie$Says;I)V" } : Jvm.MethodName)) ∈ ab_Tg := ab_t4 88 rfl rfl
theorem tw_780 : (Jvm.Cond.code ({ cls := "WitnessesMustLie$Shelf", name := "holdSaying", desc := "(LWitnessesMustLie$Says;I)V" } : Jvm.MethodName) prog_11_method_3_code (3 : Nat) (Option.none : Option Jvm.ClassFile.FieldType)) ∈ ab_Tg := ab_t4 89 rfl rfl
theorem tw_781 : (Jvm.Cond.methodLink "WitnessesMustLieLaw" (131 : Nat) ({ cls := "WitnessesMustLie", name := "row", desc := "(III)I" } : Jvm.MethodName)) ∈ ab_Tg := ab_t4 90 rfl rfl
theorem tw_782 : (Jvm.Cond.instanceMethod ({ cls := "WitnessesMustLie", name := "row", desc := "(III)I" } : Jvm.MethodName)) ∈ ab_Tg := ab_t4 91 rfl rfl
theorem tw_783 : (Jvm.Cond.selects "WitnessesMustLie" ({ cls := "WitnessesMustLie", name := "row", desc := "(III)I" } : Jvm.MethodName) ({ cls := "WitnessesMustLie", name := "row", desc := "(III)I" } : Jvm.MethodName)) ∈ ab_Tg := ab_t4 92 rfl rfl
theorem tw_784 : (Jvm.Cond.code ({ cls := "WitnessesMustLie", name := "row", desc := "(III)I" } : Jvm.MethodName) prog_1_method_39_code (5 : Nat) (Option.some Jvm.ClassFile.FieldType.int)) ∈ ab_Tg := ab_t4 93 rfl rfl
theorem tw_785 : (Jvm.Cond.methodLink "WitnessesMustLie" (345 : Nat) ({ cls := "WitnessesMustLie$Shelf", name := "holdRow", desc := "(II)V" } : Jvm.MethodName)) ∈ ab_Tg := ab_t4 94 rfl rfl
theorem tw_786 : (Jvm.Cond.instanceMethod ({ cls := "WitnessesMustLie$Shelf", name := "holdRow", desc := "(II)V" } : Jvm.MethodName)) ∈ ab_Tg := ab_t4 95 rfl rfl
theorem tw_787 : (Jvm.Cond.selects "WitnessesMustLie$Shelf" ({ cls := "WitnessesMustLie$Shelf", name := "holdRow", desc := "(II)V" } : Jvm.MethodName) ({ cls := "WitnessesMustLie$Shelf", name := "holdRow", desc := "(II)V" } : Jvm.MethodName)) ∈ ab_Tg := ab_t4 96 rfl rfl
theorem tw_788 : (Jvm.Cond.code ({ cls := "WitnessesMustLie$Shelf", name := "holdRow", desc := "(II)V" } : Jvm.MethodName) prog_11_method_4_code (4 : Nat) (Option.none : Option Jvm.ClassFile.FieldType)) ∈ ab_Tg := ab_t4 97 rfl rfl
theorem tw_789 : (Jvm.Cond.methodLink "WitnessesMustLieLaw" (134 : Nat) ({ cls := "WitnessesMustLie", name := "put", desc := "(III)I" } : Jvm.MethodName)) ∈ ab_Tg := ab_t4 98 rfl rfl
theorem tw_790 : (Jvm.Cond.instanceMethod ({ cls := "WitnessesMustLie", name := "put", desc := "(III)I" } : Jvm.MethodName)) ∈ ab_Tg := ab_t4 99 rfl rfl
theorem tw_791 : (Jvm.Cond.selects "WitnessesMustLie" ({ cls := "WitnessesMustLie", name := "put", desc := "(III)I" } : Jvm.MethodName) ({ cls := "WitnessesMustLie", name := "put", desc := "(III)I" } : Jvm.MethodName)) ∈ ab_Tg := ab_t4 100 rfl rfl
theorem tw_792 : (Jvm.Cond.code ({ cls := "WitnessesMustLie", name := "put", desc := "(III)I" } : Jvm.MethodName) prog_1_method_40_code (6 : Nat) (Option.some Jvm.ClassFile.FieldType.int)) ∈ ab_Tg := ab_t4 101 rfl rfl
theorem tw_793 : (Jvm.Cond.methodLink "WitnessesMustLie" (349 : Nat) ({ cls := "WitnessesMustLie$Shelf", name := "setNumber", desc := "(II)Z" } : Jvm.MethodName)) ∈ ab_Tg := ab_t4 102 rfl rfl
theorem tw_794 : (Jvm.Cond.instanceMethod ({ cls := "WitnessesMustLie$Shelf", name := "setNumber", desc := "(II)Z" } : Jvm.MethodName)) ∈ ab_Tg := ab_t4 103 rfl rfl
theorem tw_795 : (Jvm.Cond.selects "WitnessesMustLie$Shelf" ({ cls := "WitnessesMustLie$Shelf", name := "setNumber", desc := "(II)Z" } : Jvm.MethodName) ({ cls := "WitnessesMustLie$Shelf", name := "setNumber", desc := "(II)Z" } : Jvm.MethodName)) ∈ ab_Tg := ab_t4 104 rfl rfl
theorem tw_796 : (Jvm.Cond.code ({ cls := "WitnessesMustLie$Shelf", name := "setNumber", desc := "(II)Z" } : Jvm.MethodName) prog_11_method_12_code (3 : Nat) (Option.some Jvm.ClassFile.FieldType.boolean)) ∈ ab_Tg := ab_t4 105 rfl rfl
theorem tw_797 : (Jvm.Cond.methodLink "WitnessesMustLie$Shelf" (50 : Nat) ({ cls := "WitnessesMustLie$Shelf", name := "lowestBits", desc := "(I)I" } : Jvm.MethodName)) ∈ ab_Tg := ab_t4 106 rfl rfl
theorem tw_798 : (Jvm.Cond.instanceMethod ({ cls := "WitnessesMustLie$Shelf", name := "lowestBits", desc := "(I)I" } : Jvm.MethodName)) ∈ ab_Tg := ab_t4 108 rfl rfl
theorem tw_799 : (Jvm.Cond.code ({ cls := "WitnessesMustLie$Shelf", name := "lowestBits", desc := "(I)I" } : Jvm.MethodName) prog_11_method_13_code (2 : Nat) (Option.some Jvm.ClassFile.FieldType.int)) ∈ ab_Tg := ab_t4 109 rfl rfl
theorem tw_800 : (Jvm.Cond.methodLink "WitnessesMustLieLaw" (154 : Nat) ({ cls := "WitnessesMustLie", name := "element", desc := "(II)J" } : Jvm.MethodName)) ∈ ab_Tg := ab_t4 110 rfl rfl
theorem tw_801 : (Jvm.Cond.instanceMethod ({ cls := "WitnessesMustLie", name := "element", desc := "(II)J" } : Jvm.MethodName)) ∈ ab_Tg := ab_t4 111 rfl rfl
theorem tw_802 : (Jvm.Cond.selects "WitnessesMustLie" ({ cls := "WitnessesMustLie", name := "element", desc := "(II)J" } : Jvm.MethodName) ({ cls := "WitnessesMustLie", name := "element", desc := "(II)J" } : Jvm.MethodName)) ∈ ab_Tg := ab_t4 112 rfl rfl
theorem tw_803 : (Jvm.Cond.code ({ cls := "WitnessesMustLie", name := "element", desc := "(II)J" } : Jvm.MethodName) prog_1_method_41_code (4 : Nat) (Option.some Jvm.ClassFile.FieldType.long)) ∈ ab_Tg := ab_t4 113 rfl rfl
theorem tw_804 : (Jvm.Cond.classLink "WitnessesMustLie" (352 : Nat) "java/lang/IllegalArgumentException") ∈ ab_Tg := ab_t4 114 rfl rfl
theorem tw_805 : (Jvm.Cond.instantiable "java/lang/IllegalArgumentException" (6 : Nat)) ∈ ab_Tg := ab_t4 115 rfl rfl
theorem tw_806 : (Jvm.Cond.castable "java/lang/IllegalArgumentException" "java/lang/IllegalArgumentException") ∈ ab_Tn := ab_n4 116 rfl rfl
theorem tw_807 : (Jvm.Cond.selects "java/lang/IllegalArgumentException" ({ cls := "java/lang/Throwable", name := "fillInStackTrace", desc := "(I)Ljava/lang/Throwable;" } : Jvm.MethodName) ({ cls := "java/lang/Throwable", name := "fillInStackTrace", desc := "(I)Ljava/lang/Throwable;" } : Jvm.MethodName)) ∈ ab_Tg := ab_t4 123 rfl rfl
theorem tw_808 : (Jvm.Cond.selects "java/lang/IllegalArgumentException" ({ cls := "java/lang/Throwable", name := "fillInStackTrace", desc := "()Ljava/lang/Throwable;" } : Jvm.MethodName) ({ cls := "java/lang/Throwable", name := "fillInStackTrace", desc := "()Ljava/lang/Throwable;" } : Jvm.MethodName)) ∈ ab_Tg := ab_t4 124 rfl rfl
theorem tw_809 : (Jvm.Cond.lays "java/lang/IllegalArgumentException" "java/lang/Throwable" "cause" "Ljava/lang/Throwable;") ∈ ab_Tg := ab_t4 125 rfl rfl
theorem tw_810 : (Jvm.Cond.lays "java/lang/Throwable" "java/lang/Throwable" "cause" "Ljava/lang/Throwable;") ∈ ab_Tg := ab_t4 126 rfl rfl
theorem tw_811 : (Jvm.Cond.lays "java/lang/IllegalArgumentException" "java/lang/Throwable" "stackTrace" "[Ljava/lang/StackTraceElement;") ∈ ab_Tg := ab_t4 127 rfl rfl
theorem tw_812 : (Jvm.Cond.lays "java/lang/Throwable" "java/lang/Throwable" "stackTrace" "[Ljava/lang/StackTraceElement;") ∈ ab_Tg := ab_t4 128 rfl rfl
theorem tw_813 : (Jvm.Cond.lays "java/lang/IllegalArgumentException" "java/lang/Throwable" "suppressedExceptions" "Ljava/util/List;") ∈ ab_Tg := ab_t4 129 rfl rfl
theorem tw_814 : (Jvm.Cond.lays "java/lang/Throwable" "java/lang/Throwable" "suppressedExceptions" "Ljava/util/List;") ∈ ab_Tg := ab_t4 130 rfl rfl
theorem tw_815 : (Jvm.Cond.lays "java/lang/IllegalArgumentException" "java/lang/Throwable" "detailMessage" "Ljava/lang/String;") ∈ ab_Tg := ab_t4 131 rfl rfl
theorem tw_816 : (Jvm.Cond.lays "java/lang/Throwable" "java/lang/Throwable" "detailMessage" "Ljava/lang/String;") ∈ ab_Tg := ab_t4 132 rfl rfl
theorem tw_817 : (Jvm.Cond.lays "java/lang/IllegalArgumentException" "java/lang/Throwable" "backtrace" "Ljava/lang/Object;") ∈ ab_Tg := ab_t4 133 rfl rfl
theorem tw_818 : (Jvm.Cond.lays "java/lang/Throwable" "java/lang/Throwable" "backtrace" "Ljava/lang/Object;") ∈ ab_Tg := ab_t4 134 rfl rfl
theorem tw_819 : (Jvm.Cond.fieldLink "java/lang/Throwable" (198 : Nat) "java/lang/Throwable" "backtrace" "Ljava/lang/Object;") ∈ ab_Tg := ab_t4 135 rfl rfl
theorem tw_820 : (Jvm.Cond.superclass "java/lang/Throwable" "java/lang/Object") ∈ ab_Tg := ab_t4 136 rfl rfl
theorem tw_821 : (Jvm.Cond.instanceMethod ({ cls := "java/lang/Throwable", name := "<init>", desc := "()V" } : Jvm.MethodName)) ∈ ab_Tg := ab_t4 137 rfl rfl
theorem tw_822 : (Jvm.Cond.code ({ cls := "java/lang/Throwable", name := "<init>", desc := "()V" } : Jvm.MethodName) prog_27_method_1_code (1 : Nat) (Option.none : Option Jvm.ClassFile.FieldType)) ∈ ab_Tg := ab_t4 138 rfl rfl
theorem tw_823 : (Jvm.Cond.methodLink "java/lang/Throwable" (1 : Nat) ({ cls := "java/lang/Object", name := "<init>", desc := "()V" } : Jvm.MethodName)) ∈ ab_Tg := ab_t4 139 rfl rfl
theorem tw_824 : (Jvm.Cond.fieldLink "java/lang/Throwable" (13 : Nat) "java/lang/Throwable" "UNASSIGNED_STACK" "[Ljava/lang/StackTraceElement;") ∈ ab_Tg := ab_t4 140 rfl rfl
theorem tw_825 : (Jvm.Cond.fieldLink "java/lang/Throwable" (20 : Nat) "java/lang/Throwable" "SUPPRESSED_SENTINEL" "Ljava/util/List;") ∈ ab_Tg := ab_t4 142 rfl rfl
theorem tw_826 : (Jvm.Cond.methodLink "java/lang/Throwable" (27 : Nat) ({ cls := "java/lang/Throwable", name := "fillInStackTrace", desc := "()Ljava/lang/Throwable;" } : Jvm.MethodName)) ∈ ab_Tg := ab_t4 144 rfl rfl
theorem tw_827 : (Jvm.Cond.instanceMethod ({ cls := "java/lang/Throwable", name := "fillInStackTrace", desc := "()Ljava/lang/Throwable;" } : Jvm.MethodName)) ∈ ab_Tg := ab_t4 145 rfl rfl
theorem tw_828 : (Jvm.Cond.sameMethod "java/lang/Throwable" "java/lang/Throwable" "fillInStackTrace" "()Ljava/lang/Throwable;") ∈ ab_Tg := ab_t4 146 rfl rfl
theorem tw_829 : (Jvm.Cond.selects "java/lang/IllegalStateException" ({ cls := "java/lang/Throwable", name := "fillInStackTrace", desc := "()Ljava/lang/Throwable;" } : Jvm.MethodName) ({ cls := "java/lang/Throwable", name := "fillInStackTrace", desc := "()Ljava/lang/Throwable;" } : Jvm.MethodName)) ∈ ab_Tg := ab_t4 147 rfl rfl
theorem tw_830 : (Jvm.Cond.methodLink "java/lang/Throwable" (202 : Nat) ({ cls := "java/lang/Throwable", name := "fillInStackTrace", desc := "(I)Ljava/lang/Throwable;" } : Jvm.MethodName)) ∈ ab_Tg := ab_t4 149 rfl rfl
theorem tw_831 : (Jvm.Cond.instanceMethod ({ cls := "java/lang/Throwable", name := "fillInStackTrace", desc := "(I)Ljava/lang/Throwable;" } : Jvm.MethodName)) ∈ ab_Tg := ab_t4 151 rfl rfl
theorem tw_832 : (Jvm.Cond.instantiable "java/lang/Throwable" (6 : Nat)) ∈ ab_Tg := ab_t4 152 rfl rfl
theorem tw_833 : (Jvm.Cond.methodLink "WitnessesMustLie" (356 : Nat) ({ cls := "java/lang/IllegalArgumentException", name := "<init>", desc := "(Ljava/lang/String;)V" } : Jvm.MethodName)) ∈ ab_Tg := ab_t4 155 rfl rfl
theorem tw_834 : (Jvm.Cond.instanceMethod ({ cls := "java/lang/IllegalArgumentException", name := "<init>", desc := "(Ljava/lang/String;)V" } : Jvm.MethodName)) ∈ ab_Tg := ab_t4 156 rfl rfl
theorem tw_835 : (Jvm.Cond.code ({ cls := "java/lang/IllegalArgumentException", name := "<init>", desc := "(Ljava/lang/String;)V" } : Jvm.MethodName) prog_18_method_2_code (2 : Nat) (Option.none : Option Jvm.ClassFile.FieldType)) ∈ ab_Tg := ab_t4 157 rfl rfl
theorem tw_836 : (Jvm.Cond.methodLink "java/lang/IllegalArgumentException" (7 : Nat) ({ cls := "java/lang/RuntimeException", name := "<init>", desc := "(Ljava/lang/String;)V" } : Jvm.MethodName)) ∈ ab_Tg := ab_t4 158 rfl rfl
theorem tw_837 : (Jvm.Cond.instanceMethod ({ cls := "java/lang/RuntimeException", name := "<init>", desc := "(Ljava/lang/String;)V" } : Jvm.MethodName)) ∈ ab_Tg := ab_t4 159 rfl rfl
theorem tw_838 : (Jvm.Cond.code ({ cls := "java/lang/RuntimeException", name := "<init>", desc := "(Ljava/lang/String;)V" } : Jvm.MethodName) prog_24_method_2_code (2 : Nat) (Option.none : Option Jvm.ClassFile.FieldType)) ∈ ab_Tg := ab_t4 160 rfl rfl
theorem tw_839 : (Jvm.Cond.methodLink "java/lang/RuntimeException" (7 : Nat) ({ cls := "java/lang/Exception", name := "<init>", desc := "(Ljava/lang/String;)V" } : Jvm.MethodName)) ∈ ab_Tg := ab_t4 161 rfl rfl
theorem tw_840 : (Jvm.Cond.instanceMethod ({ cls := "java/lang/Exception", name := "<init>", desc := "(Ljava/lang/String;)V" } : Jvm.MethodName)) ∈ ab_Tg := ab_t4 162 rfl rfl
theorem tw_841 : (Jvm.Cond.code ({ cls := "java/lang/Exception", name := "<init>", desc := "(Ljava/lang/String;)V" } : Jvm.MethodName) prog_17_method_2_code (2 : Nat) (Option.none : Option Jvm.ClassFile.FieldType)) ∈ ab_Tg := ab_t4 163 rfl rfl
theorem tw_842 : (Jvm.Cond.methodLink "java/lang/Exception" (7 : Nat) ({ cls := "java/lang/Throwable", name := "<init>", desc := "(Ljava/lang/String;)V" } : Jvm.MethodName)) ∈ ab_Tg := ab_t4 164 rfl rfl
theorem tw_843 : (Jvm.Cond.instanceMethod ({ cls := "java/lang/Throwable", name := "<init>", desc := "(Ljava/lang/String;)V" } : Jvm.MethodName)) ∈ ab_Tg := ab_t4 165 rfl rfl
theorem tw_844 : (Jvm.Cond.code ({ cls := "java/lang/Throwable", name := "<init>", desc := "(Ljava/lang/String;)V" } : Jvm.MethodName) prog_27_method_2_code (2 : Nat) (Option.none : Option Jvm.ClassFile.FieldType)) ∈ ab_Tg := ab_t4 166 rfl rfl
theorem tw_845 : (Jvm.Cond.fieldLink "java/lang/Throwable" (31 : Nat) "java/lang/Throwable" "detailMessage" "Ljava/lang/String;") ∈ ab_Tg := ab_t4 168 rfl rfl
theorem tw_846 : (Jvm.Cond.fieldLink "java/lang/Throwable" (7 : Nat) "java/lang/Throwable" "cause" "Ljava/lang/Throwable;") ∈ ab_Tg := ab_t4 169 rfl rfl
theorem tw_847 : (Jvm.Cond.fieldLink "java/lang/Throwable" (17 : Nat) "java/lang/Throwable" "stackTrace" "[Ljava/lang/StackTraceElement;") ∈ ab_Tg := ab_t4 170 rfl rfl
theorem tw_848 : (Jvm.Cond.fieldLink "java/lang/Throwable" (24 : Nat) "java/lang/Throwable" "suppressedExceptions" "Ljava/util/List;") ∈ ab_Tg := ab_t4 171 rfl rfl
theorem tw_849 : (Jvm.Cond.lays "java/lang/IllegalArgumentException" "java/lang/Throwable" "depth" "I") ∈ ab_Tg := ab_t4 176 rfl rfl
theorem tw_850 : (Jvm.Cond.superclass "java/lang/IllegalArgumentException" "java/lang/RuntimeException") ∈ ab_Tg := ab_t4 179 rfl rfl
theorem tw_851 : (Jvm.Cond.arrayClass Jvm.ClassFile.FieldType.byte) ∈ ab_Tg := ab_t4 180 rfl rfl
theorem tw_852 : (Jvm.Cond.classLink "WitnessesMustLie" (359 : Nat) "java/lang/IllegalStateException") ∈ ab_Tg := ab_t4 181 rfl rfl
theorem tw_853 : (Jvm.Cond.instantiable "java/lang/IllegalStateException" (6 : Nat)) ∈ ab_Tg := ab_t4 182 rfl rfl
theorem tw_854 : (Jvm.Cond.castable "java/lang/IllegalStateException" "java/lang/IllegalStateException") ∈ ab_Tn := ab_n4 183 rfl rfl
theorem tw_855 : (Jvm.Cond.selects "java/lang/IllegalStateException" ({ cls := "java/lang/Throwable", name := "fillInStackTrace", desc := "(I)Ljava/lang/Throwable;" } : Jvm.MethodName) ({ cls := "java/lang/Throwable", name := "fillInStackTrace", desc := "(I)Ljava/lang/Throwable;" } : Jvm.MethodName)) ∈ ab_Tg := ab_t4 184 rfl rfl
theorem tw_856 : (Jvm.Cond.lays "java/lang/IllegalStateException" "java/lang/Throwable" "cause" "Ljava/lang/Throwable;") ∈ ab_Tg := ab_t4 185 rfl rfl
theorem tw_857 : (Jvm.Cond.lays "java/lang/IllegalStateException" "java/lang/Throwable" "stackTrace" "[Ljava/lang/StackTraceElement;") ∈ ab_Tg := ab_t4 186 rfl rfl
theorem tw_858 : (Jvm.Cond.lays "java/lang/IllegalStateException" "java/lang/Throwable" "suppressedExceptions" "Ljava/util/List;") ∈ ab_Tg := ab_t4 187 rfl rfl
theorem tw_859 : (Jvm.Cond.lays "java/lang/IllegalStateException" "java/lang/Throwable" "detailMessage" "Ljava/lang/String;") ∈ ab_Tg := ab_t4 188 rfl rfl
theorem tw_860 : (Jvm.Cond.lays "java/lang/IllegalStateException" "java/lang/Throwable" "backtrace" "Ljava/lang/Object;") ∈ ab_Tg := ab_t4 189 rfl rfl
theorem tw_861 : (Jvm.Cond.methodLink "WitnessesMustLie" (363 : Nat) ({ cls := "java/lang/IllegalStateException", name := "<init>", desc := "(Ljava/lang/String;)V" } : Jvm.MethodName)) ∈ ab_Tg := ab_t4 191 rfl rfl
theorem tw_862 : (Jvm.Cond.instanceMethod ({ cls := "java/lang/IllegalStateException", name := "<init>", desc := "(Ljava/lang/String;)V" } : Jvm.MethodName)) ∈ ab_Tg := ab_t4 192 rfl rfl
theorem tw_863 : (Jvm.Cond.code ({ cls := "java/lang/IllegalStateException", name := "<init>", desc := "(Ljava/lang/String;)V" } : Jvm.MethodName) prog_19_method_2_code (2 : Nat) (Option.none : Option Jvm.ClassFile.FieldType)) ∈ ab_Tg := ab_t4 193 rfl rfl
theorem tw_864 : (Jvm.Cond.methodLink "java/lang/IllegalStateException" (7 : Nat) ({ cls := "java/lang/RuntimeException", name := "<init>", desc := "(Ljava/lang/String;)V" } : Jvm.MethodName)) ∈ ab_Tg := ab_t4 194 rfl rfl
theorem tw_865 : (Jvm.Cond.lays "java/lang/IllegalStateException" "java/lang/Throwable" "depth" "I") ∈ ab_Tg := ab_t4 195 rfl rfl
theorem tw_866 : (Jvm.Cond.superclass "java/lang/IllegalStateException" "java/lang/RuntimeException") ∈ ab_Tg := ab_t4 196 rfl rfl
theorem tw_867 : (Jvm.Cond.methodLink "WitnessesMustLie" (364 : Nat) ({ cls := "WitnessesMustLie$Shelf", name := "hasPlaces", desc := "(II)Z" } : Jvm.MethodName)) ∈ ab_Tg := ab_t4 197 rfl rfl
theorem tw_868 : (Jvm.Cond.methodLink "WitnessesMustLieLaw" (7 : Nat) ({ cls := "WitnessesMustLieLaw", name := "at", desc := "([II)I" } : Jvm.MethodName)) ∈ ab_Tg := ab_t4 199 rfl rfl
theorem tw_869 : (Jvm.Cond.static ({ cls := "WitnessesMustLieLaw", name := "at", desc := "([II)I" } : Jvm.MethodName)) ∈ ab_Tg := ab_t4 200 rfl rfl
theorem tw_870 : (Jvm.Cond.code ({ cls := "WitnessesMustLieLaw", name := "at", desc := "([II)I" } : Jvm.MethodName) method_2_code (2 : Nat) (Option.some Jvm.ClassFile.FieldType.int)) ∈ ab_Tg := ab_t4 201 rfl rfl
theorem tw_871 : (Jvm.Cond.methodLink "WitnessesMustLieLaw" (13 : Nat) ({ cls := "WitnessesMustLieLaw", name := "some", desc := "(II)I" } : Jvm.MethodName)) ∈ ab_Tg := ab_t4 202 rfl rfl
theorem tw_872 : (Jvm.Cond.static ({ cls := "WitnessesMustLieLaw", name := "some", desc := "(II)I" } : Jvm.MethodName)) ∈ ab_Tg := ab_t4 203 rfl rfl
theorem tw_873 : (Jvm.Cond.code ({ cls := "WitnessesMustLieLaw", name := "some", desc := "(II)I" } : Jvm.MethodName) method_3_code (3 : Nat) (Option.some Jvm.ClassFile.FieldType.int)) ∈ ab_Tg := ab_t4 204 rfl rfl
theorem tw_874 : (Jvm.Cond.methodLink "WitnessesMustLieLaw" (29 : Nat) ({ cls := "WitnessesMustLieLaw", name := "holds", desc := "(II)Z" } : Jvm.MethodName)) ∈ ab_Tg := ab_t4 205 rfl rfl
theorem tw_875 : (Jvm.Cond.static ({ cls := "WitnessesMustLieLaw", name := "holds", desc := "(II)Z" } : Jvm.MethodName)) ∈ ab_Tg := ab_t4 206 rfl rfl
theorem tw_876 : (Jvm.Cond.code ({ cls := "WitnessesMustLieLaw", name := "holds", desc := "(II)Z" } : Jvm.MethodName) method_4_code (5 : Nat) (Option.some Jvm.ClassFile.FieldType.boolean)) ∈ ab_Tg := ab_t4 207 rfl rfl
theorem tw_877 : (Jvm.Cond.methodLink "WitnessesMustLieLaw" (123 : Nat) ({ cls := "WitnessesMustLieLaw", name := "world", desc := "(LWitnessesMustLie;[I[I)V" } : Jvm.MethodName)) ∈ ab_Tg := ab_t4 208 rfl rfl
theorem tw_878 : (Jvm.Cond.static ({ cls := "WitnessesMustLieLaw", name := "world", desc := "(LWitnessesMustLie;[I[I)V" } : Jvm.MethodName)) ∈ ab_Tg := ab_t4 209 rfl rfl
theorem tw_879 : (Jvm.Cond.code ({ cls := "WitnessesMustLieLaw", name := "world", desc := "(LWitnessesMustLie;[I[I)V" } : Jvm.MethodName) method_5_code (8 : Nat) (Option.none : Option Jvm.ClassFile.FieldType)) ∈ ab_Tg := ab_t4 210 rfl rfl
theorem tw_880 : (Jvm.Cond.methodLink "WitnessesMustLieLaw" (26 : Nat) ({ cls := "WitnessesMustLieLaw", name := "saying", desc := "(I)I" } : Jvm.MethodName)) ∈ ab_Tg := ab_t4 211 rfl rfl
theorem tw_881 : (Jvm.Cond.static ({ cls := "WitnessesMustLieLaw", name := "saying", desc := "(I)I" } : Jvm.MethodName)) ∈ ab_Tg := ab_t4 212 rfl rfl
theorem tw_882 : (Jvm.Cond.code ({ cls := "WitnessesMustLieLaw", name := "saying", desc := "(I)I" } : Jvm.MethodName) method_6_code (1 : Nat) (Option.some Jvm.ClassFile.FieldType.int)) ∈ ab_Tg := ab_t4 213 rfl rfl
theorem tw_883 : (Jvm.Cond.methodLink "WitnessesMustLieLaw" (127 : Nat) ({ cls := "WitnessesMustLieLaw", name := "told", desc := "(LWitnessesMustLie;)J" } : Jvm.MethodName)) ∈ ab_Tg := ab_t4 214 rfl rfl
theorem tw_884 : (Jvm.Cond.static ({ cls := "WitnessesMustLieLaw", name := "told", desc := "(LWitnessesMustLie;)J" } : Jvm.MethodName)) ∈ ab_Tg := ab_t4 215 rfl rfl
theorem tw_885 : (Jvm.Cond.code ({ cls := "WitnessesMustLieLaw", name := "told", desc := "(LWitnessesMustLie;)J" } : Jvm.MethodName) method_7_code (5 : Nat) (Option.some Jvm.ClassFile.FieldType.long)) ∈ ab_Tg := ab_t4 216 rfl rfl
theorem tw_886 : (Jvm.Cond.constantLong "WitnessesMustLieLaw" (44 : Nat) (7 : Int64)) ∈ ab_Tg := ab_t4 217 rfl rfl
theorem tw_887 : (Jvm.Cond.constantLong "WitnessesMustLieLaw" (46 : Nat) (31 : Int64)) ∈ ab_Tg := ab_t4 218 rfl rfl
theorem tw_888 : (Jvm.Cond.methodLink "WitnessesMustLieLaw" (51 : Nat) ({ cls := "WitnessesMustLie", name := "law", desc := "(II)I" } : Jvm.MethodName)) ∈ ab_Tg := ab_t4 219 rfl rfl
theorem tw_889 : (Jvm.Cond.instanceMethod ({ cls := "WitnessesMustLie", name := "law", desc := "(II)I" } : Jvm.MethodName)) ∈ ab_Tg := ab_t4 220 rfl rfl
theorem tw_890 : (Jvm.Cond.selects "WitnessesMustLie" ({ cls := "WitnessesMustLie", name := "law", desc := "(II)I" } : Jvm.MethodName) ({ cls := "WitnessesMustLie", name := "law", desc := "(II)I" } : Jvm.MethodName)) ∈ ab_Tg := ab_t4 221 rfl rfl
theorem tw_891 : (Jvm.Cond.code ({ cls := "WitnessesMustLie", name := "law", desc := "(II)I" } : Jvm.MethodName) prog_1_method_3_code (4 : Nat) (Option.some Jvm.ClassFile.FieldType.int)) ∈ ab_Tg := ab_t4 222 rfl rfl
theorem tw_892 : (Jvm.Cond.methodLink "WitnessesMustLieLaw" (60 : Nat) ({ cls := "WitnessesMustLie", name := "knows", desc := "(I)I" } : Jvm.MethodName)) ∈ ab_Tg := ab_t4 223 rfl rfl
theorem tw_893 : (Jvm.Cond.instanceMethod ({ cls := "WitnessesMustLie", name := "knows", desc := "(I)I" } : Jvm.MethodName)) ∈ ab_Tg := ab_t4 224 rfl rfl
theorem tw_894 : (Jvm.Cond.selects "WitnessesMustLie" ({ cls := "WitnessesMustLie", name := "knows", desc := "(I)I" } : Jvm.MethodName) ({ cls := "WitnessesMustLie", name := "knows", desc := "(I)I" } : Jvm.MethodName)) ∈ ab_Tg := ab_t4 225 rfl rfl
theorem tw_895 : (Jvm.Cond.code ({ cls := "WitnessesMustLie", name := "knows", desc := "(I)I" } : Jvm.MethodName) prog_1_method_5_code (2 : Nat) (Option.some Jvm.ClassFile.FieldType.int)) ∈ ab_Tg := ab_t4 226 rfl rfl
theorem tw_896 : (Jvm.Cond.methodLink "WitnessesMustLieLaw" (101 : Nat) ({ cls := "WitnessesMustLie", name := "verdict", desc := "()I" } : Jvm.MethodName)) ∈ ab_Tg := ab_t4 227 rfl rfl
theorem tw_897 : (Jvm.Cond.instanceMethod ({ cls := "WitnessesMustLie", name := "verdict", desc := "()I" } : Jvm.MethodName)) ∈ ab_Tg := ab_t4 228 rfl rfl
theorem tw_898 : (Jvm.Cond.selects "WitnessesMustLie" ({ cls := "WitnessesMustLie", name := "verdict", desc := "()I" } : Jvm.MethodName) ({ cls := "WitnessesMustLie", name := "verdict", desc := "()I" } : Jvm.MethodName)) ∈ ab_Tg := ab_t4 229 rfl rfl
theorem tw_899 : (Jvm.Cond.code ({ cls := "WitnessesMustLie", name := "verdict", desc := "()I" } : Jvm.MethodName) prog_1_method_27_code (3 : Nat) (Option.some Jvm.ClassFile.FieldType.int)) ∈ ab_Tg := ab_t4 230 rfl rfl
theorem tw_900 : (Jvm.Cond.methodLink "WitnessesMustLie" (281 : Nat) ({ cls := "WitnessesMustLie$Saying", name := "facts", desc := "()I" } : Jvm.MethodName)) ∈ ab_Tg := ab_t4 231 rfl rfl
theorem tw_901 : (Jvm.Cond.methodLink "WitnessesMustLieLaw" (104 : Nat) ({ cls := "WitnessesMustLie", name := "proof", desc := "(I)I" } : Jvm.MethodName)) ∈ ab_Tg := ab_t4 232 rfl rfl
theorem tw_902 : (Jvm.Cond.instanceMethod ({ cls := "WitnessesMustLie", name := "proof", desc := "(I)I" } : Jvm.MethodName)) ∈ ab_Tg := ab_t4 233 rfl rfl
theorem tw_903 : (Jvm.Cond.selects "WitnessesMustLie" ({ cls := "WitnessesMustLie", name := "proof", desc := "(I)I" } : Jvm.MethodName) ({ cls := "WitnessesMustLie", name := "proof", desc := "(I)I" } : Jvm.MethodName)) ∈ ab_Tg := ab_t4 234 rfl rfl
theorem tw_904 : (Jvm.Cond.code ({ cls := "WitnessesMustLie", name := "proof", desc := "(I)I" } : Jvm.MethodName) prog_1_method_18_code (8 : Nat) (Option.some Jvm.ClassFile.FieldType.int)) ∈ ab_Tg := ab_t4 235 rfl rfl
theorem tw_905 : (Jvm.Cond.methodLink "WitnessesMustLie" (226 : Nat) ({ cls := "WitnessesMustLie$Trial", name := "leftBySaid", desc := "(JI)J" } : Jvm.MethodName)) ∈ ab_Tg := ab_t4 236 rfl rfl
theorem tw_906 : (Jvm.Cond.methodLink "WitnessesMustLie" (230 : Nat) ({ cls := "WitnessesMustLie", name := "isProvedBy", desc := "(JI)Z" } : Jvm.MethodName)) ∈ ab_Tg := ab_t4 237 rfl rfl
theorem tw_907 : (Jvm.Cond.static ({ cls := "WitnessesMustLie", name := "isProvedBy", desc := "(JI)Z" } : Jvm.MethodName)) ∈ ab_Tg := ab_t4 238 rfl rfl
theorem tw_908 : (Jvm.Cond.code ({ cls := "WitnessesMustLie", name := "isProvedBy", desc := "(JI)Z" } : Jvm.MethodName) prog_1_method_61_code (3 : Nat) (Option.some Jvm.ClassFile.FieldType.boolean)) ∈ ab_Tg := ab_t4 239 rfl rfl
theorem tw_909 : (Jvm.Cond.methodLink "WitnessesMustLieLaw" (107 : Nat) ({ cls := "WitnessesMustLie", name := "order", desc := "(I)I" } : Jvm.MethodName)) ∈ ab_Tg := ab_t5 0 rfl rfl
theorem tw_910 : (Jvm.Cond.instanceMethod ({ cls := "WitnessesMustLie", name := "order", desc := "(I)I" } : Jvm.MethodName)) ∈ ab_Tg := ab_t5 1 rfl rfl
theorem tw_911 : (Jvm.Cond.selects "WitnessesMustLie" ({ cls := "WitnessesMustLie", name := "order", desc := "(I)I" } : Jvm.MethodName) ({ cls := "WitnessesMustLie", name := "order", desc := "(I)I" } : Jvm.MethodName)) ∈ ab_Tg := ab_t5 2 rfl rfl
theorem tw_912 : (Jvm.Cond.code ({ cls := "WitnessesMustLie", name := "order", desc := "(I)I" } : Jvm.MethodName) prog_1_method_22_code (3 : Nat) (Option.some Jvm.ClassFile.FieldType.int)) ∈ ab_Tg := ab_t5 3 rfl rfl
theorem tw_913 : (Jvm.Cond.methodLink "WitnessesMustLie" (245 : Nat) ({ cls := "WitnessesMustLie", name := "plain", desc := "()I" } : Jvm.MethodName)) ∈ ab_Tg := ab_t5 4 rfl rfl
theorem tw_914 : (Jvm.Cond.methodLink "WitnessesMustLie" (248 : Nat) ({ cls := "WitnessesMustLie", name := "leastOrder", desc := "(I)I" } : Jvm.MethodName)) ∈ ab_Tg := ab_t5 5 rfl rfl
theorem tw_915 : (Jvm.Cond.instanceMethod ({ cls := "WitnessesMustLie", name := "leastOrder", desc := "(I)I" } : Jvm.MethodName)) ∈ ab_Tg := ab_t5 7 rfl rfl
theorem tw_916 : (Jvm.Cond.code ({ cls := "WitnessesMustLie", name := "leastOrder", desc := "(I)I" } : Jvm.MethodName) prog_1_method_71_code (5 : Nat) (Option.some Jvm.ClassFile.FieldType.int)) ∈ ab_Tg := ab_t5 8 rfl rfl
theorem tw_917 : (Jvm.Cond.methodLink "WitnessesMustLie" (429 : Nat) ({ cls := "WitnessesMustLie", name := "digitsWithAhead", desc := "(I)I" } : Jvm.MethodName)) ∈ ab_Tg := ab_t5 9 rfl rfl
theorem tw_918 : (Jvm.Cond.instanceMethod ({ cls := "WitnessesMustLie", name := "digitsWithAhead", desc := "(I)I" } : Jvm.MethodName)) ∈ ab_Tg := ab_t5 11 rfl rfl
theorem tw_919 : (Jvm.Cond.code ({ cls := "WitnessesMustLie", name := "digitsWithAhead", desc := "(I)I" } : Jvm.MethodName) prog_1_method_72_code (2 : Nat) (Option.some Jvm.ClassFile.FieldType.int)) ∈ ab_Tg := ab_t5 12 rfl rfl
theorem tw_920 : (Jvm.Cond.methodLink "WitnessesMustLie" (432 : Nat) ({ cls := "WitnessesMustLie", name := "digitsOf", desc := "(II)I" } : Jvm.MethodName)) ∈ ab_Tg := ab_t5 13 rfl rfl
theorem tw_921 : (Jvm.Cond.instanceMethod ({ cls := "WitnessesMustLie", name := "digitsOf", desc := "(II)I" } : Jvm.MethodName)) ∈ ab_Tg := ab_t5 15 rfl rfl
theorem tw_922 : (Jvm.Cond.code ({ cls := "WitnessesMustLie", name := "digitsOf", desc := "(II)I" } : Jvm.MethodName) prog_1_method_73_code (5 : Nat) (Option.some Jvm.ClassFile.FieldType.int)) ∈ ab_Tg := ab_t5 16 rfl rfl
theorem tw_923 : (Jvm.Cond.methodLink "WitnessesMustLieLaw" (142 : Nat) ({ cls := "java/lang/Long", name := "bitCount", desc := "(J)I" } : Jvm.MethodName)) ∈ ab_Tg := ab_t5 17 rfl rfl
theorem tw_924 : (Jvm.Cond.constantLong "WitnessesMustLieLaw" (140 : Nat) (-1 : Int64)) ∈ ab_Tg := ab_t5 18 rfl rfl
theorem tw_925 : (Jvm.Cond.constantLong "WitnessesMustLieLaw" (158 : Nat) (57 : Int64)) ∈ ab_Tg := ab_t5 19 rfl rfl
theorem tw_926 : (Jvm.Cond.sameMethod "WitnessesMustLie$Both" "WitnessesMustLie$Both" "words" "(I)I") ∈ ab_Tg := ab_t5 20 rfl rfl
theorem tw_927 : (Jvm.Cond.sameMethod "WitnessesMustLie$Denies" "WitnessesMustLie$Denies" "words" "(I)I") ∈ ab_Tg := ab_t5 21 rfl rfl
theorem tw_928 : (Jvm.Cond.sameMethod "WitnessesMustLie$Either" "WitnessesMustLie$Either" "words" "(I)I") ∈ ab_Tg := ab_t5 22 rfl rfl
theorem tw_929 : (Jvm.Cond.sameMethod "java/lang/Throwable" "java/lang/Throwable" "fillInStackTrace" "(I)Ljava/lang/Throwable;") ∈ ab_Tg := ab_t5 23 rfl rfl
theorem tw_930 : (Jvm.Cond.castable "WitnessesMustLie$Alike" "WitnessesMustLie$Says") ∈ ab_Tn := ab_n5 24 rfl rfl
theorem tw_931 : (Jvm.Cond.castable "WitnessesMustLie$Both" "WitnessesMustLie$Says") ∈ ab_Tn := ab_n5 25 rfl rfl
theorem tw_932 : (Jvm.Cond.castable "WitnessesMustLie$Denies" "WitnessesMustLie$Says") ∈ ab_Tn := ab_n5 26 rfl rfl
theorem tw_933 : (Jvm.Cond.castable "WitnessesMustLie$Either" "WitnessesMustLie$Says") ∈ ab_Tn := ab_n5 27 rfl rfl
theorem tw_934 : (Jvm.Cond.castable "WitnessesMustLie$Expert" "WitnessesMustLie$Says") ∈ ab_Tn := ab_n5 28 rfl rfl
theorem tw_935 : (Jvm.Cond.castable "WitnessesMustLie$If" "WitnessesMustLie$Says") ∈ ab_Tn := ab_n5 29 rfl rfl
theorem tw_936 : (Jvm.Cond.castable "WitnessesMustLie$Poet" "WitnessesMustLie$Says") ∈ ab_Tn := ab_n5 30 rfl rfl
theorem tw_937 : (Jvm.Cond.castable "WitnessesMustLie$Shelf" "java/lang/Object") ∈ ab_Tn := ab_n5 31 rfl rfl
theorem tw_938 : (Jvm.Cond.castable "WitnessesMustLie" "java/lang/Object") ∈ ab_Tn := ab_n5 32 rfl rfl
theorem tw_939 : (Jvm.Cond.castable "java/util/ArrayList" "java/lang/Object") ∈ ab_Tn := ab_n5 33 rfl rfl
theorem tw_940 : (Jvm.Cond.castable "WitnessesMustLie$Trial" "java/lang/Object") ∈ ab_Tn := ab_n5 34 rfl rfl
theorem tw_941 : (Jvm.Cond.castable "WitnessesMustLie$Says" "java/lang/Object") ∈ ab_Tn := ab_n5 35 rfl rfl
theorem tw_942 : (Jvm.Cond.castable "WitnessesMustLie$Denies" "java/lang/Object") ∈ ab_Tn := ab_n5 36 rfl rfl
theorem tw_943 : (Jvm.Cond.castable "WitnessesMustLie$Both" "java/lang/Object") ∈ ab_Tn := ab_n5 37 rfl rfl
theorem tw_944 : (Jvm.Cond.castable "WitnessesMustLie$Either" "java/lang/Object") ∈ ab_Tn := ab_n5 38 rfl rfl
theorem tw_945 : (Jvm.Cond.castable "WitnessesMustLie$If" "java/lang/Object") ∈ ab_Tn := ab_n5 39 rfl rfl
theorem tw_946 : (Jvm.Cond.castable "WitnessesMustLie$Alike" "java/lang/Object") ∈ ab_Tn := ab_n5 40 rfl rfl
theorem tw_947 : (Jvm.Cond.castable "WitnessesMustLie$Expert" "java/lang/Object") ∈ ab_Tn := ab_n5 41 rfl rfl
theorem tw_948 : (Jvm.Cond.castable "WitnessesMustLie$Poet" "java/lang/Object") ∈ ab_Tn := ab_n5 42 rfl rfl
theorem tw_949 : (Jvm.Cond.castable "WitnessesMustLie$Saying" "java/lang/Object") ∈ ab_Tn := ab_n5 43 rfl rfl
theorem tw_950 : (Jvm.Cond.castable "java/lang/IllegalArgumentException" "java/lang/Object") ∈ ab_Tn := ab_n5 44 rfl rfl
theorem tw_951 : (Jvm.Cond.castable "java/lang/IllegalStateException" "java/lang/Object") ∈ ab_Tn := ab_n5 45 rfl rfl
theorem tw_952 : (Jvm.Cond.castable "java/lang/Throwable" "java/lang/Object") ∈ ab_Tn := ab_n5 46 rfl rfl
theorem tw_953 : (Jvm.Cond.castable "java/lang/String" "java/lang/Object") ∈ ab_Tn := ab_n5 47 rfl rfl
theorem tw_954 : (Jvm.Cond.sameMethod "[Ljava/lang/Object;" "java/lang/Object" "getClass" "()Ljava/lang/Class;") ∈ ab_Tg := ab_t5 48 rfl rfl
theorem tw_955 : (Jvm.Cond.selects "[Ljava/lang/Object;" ({ cls := "java/lang/Object", name := "getClass", desc := "()Ljava/lang/Class;" } : Jvm.MethodName) ({ cls := "java/lang/Object", name := "getClass", desc := "()Ljava/lang/Class;" } : Jvm.MethodName)) ∈ ab_Tg := ab_t5 49 rfl rfl
theorem tw_956 : (Jvm.Cond.castable "[LWitnessesMustLie$Shelf;" "java/lang/Object") ∈ ab_Tn := ab_n5 51 rfl rfl
theorem tw_957 : (Jvm.Cond.castable "[I" "java/lang/Object") ∈ ab_Tn := ab_n5 52 rfl rfl
theorem tw_958 : (Jvm.Cond.castable "[J" "java/lang/Object") ∈ ab_Tn := ab_n5 53 rfl rfl
theorem tw_959 : (Jvm.Cond.castable "[Ljava/lang/Object;" "java/lang/Object") ∈ ab_Tn := ab_n5 54 rfl rfl
theorem tw_960 : (Jvm.Cond.castable "[B" "java/lang/Object") ∈ ab_Tn := ab_n5 55 rfl rfl
