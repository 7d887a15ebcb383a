theorem dX12_init_0 : decode cX12_init 0 = .ok (.aload_n 0, 1) := by decide +kernel
theorem dX12_init_1 : decode cX12_init 1 = .ok (.invokespecial 1, 3) := by decide +kernel
theorem dX12_init_4 : decode cX12_init 4 = .ok (.aload_n 0, 1) := by decide +kernel
theorem dX12_init_5 : decode cX12_init 5 = .ok (.bipush 6, 2) := by decide +kernel
theorem dX12_init_7 : decode cX12_init 7 = .ok (.newarray .int, 2) := by decide +kernel
theorem dX12_init_9 : decode cX12_init 9 = .ok (.putfield 7, 3) := by decide +kernel
theorem dX12_init_12 : decode cX12_init 12 = .ok (.aload_n 0, 1) := by decide +kernel
theorem dX12_init_13 : decode cX12_init 13 = .ok (.iconst 5, 1) := by decide +kernel
theorem dX12_init_14 : decode cX12_init 14 = .ok (.newarray .int, 2) := by decide +kernel
theorem dX12_init_16 : decode cX12_init 16 = .ok (.putfield 13, 3) := by decide +kernel
theorem dX12_init_19 : decode cX12_init 19 = .ok (.aload_n 0, 1) := by decide +kernel
theorem dX12_init_20 : decode cX12_init 20 = .ok (.bipush 10, 2) := by decide +kernel
theorem dX12_init_22 : decode cX12_init 22 = .ok (.newarray .int, 2) := by decide +kernel
theorem dX12_init_24 : decode cX12_init 24 = .ok (.putfield 16, 3) := by decide +kernel
theorem dX12_init_27 : decode cX12_init 27 = .ok (.aload_n 0, 1) := by decide +kernel
theorem dX12_init_28 : decode cX12_init 28 = .ok (.bipush 10, 2) := by decide +kernel
theorem dX12_init_30 : decode cX12_init 30 = .ok (.newarray .int, 2) := by decide +kernel
theorem dX12_init_32 : decode cX12_init 32 = .ok (.putfield 19, 3) := by decide +kernel
theorem dX12_init_35 : decode cX12_init 35 = .ok (.aload_n 0, 1) := by decide +kernel
theorem dX12_init_36 : decode cX12_init 36 = .ok (.bipush 8, 2) := by decide +kernel
theorem dX12_init_38 : decode cX12_init 38 = .ok (.newarray .int, 2) := by decide +kernel
theorem dX12_init_40 : decode cX12_init 40 = .ok (.putfield 22, 3) := by decide +kernel
theorem dX12_init_43 : decode cX12_init 43 = .ok (.aload_n 0, 1) := by decide +kernel
theorem dX12_init_44 : decode cX12_init 44 = .ok (.bipush 8, 2) := by decide +kernel
theorem dX12_init_46 : decode cX12_init 46 = .ok (.newarray .int, 2) := by decide +kernel
theorem dX12_init_48 : decode cX12_init 48 = .ok (.putfield 25, 3) := by decide +kernel
theorem dX12_init_51 : decode cX12_init 51 = .ok (.aload_n 0, 1) := by decide +kernel
theorem dX12_init_52 : decode cX12_init 52 = .ok (.bipush 8, 2) := by decide +kernel
theorem dX12_init_54 : decode cX12_init 54 = .ok (.newarray .int, 2) := by decide +kernel
theorem dX12_init_56 : decode cX12_init 56 = .ok (.putfield 28, 3) := by decide +kernel
theorem dX12_init_59 : decode cX12_init 59 = .ok (.aload_n 0, 1) := by decide +kernel
theorem dX12_init_60 : decode cX12_init 60 = .ok (.sipush 800, 3) := by decide +kernel
theorem dX12_init_63 : decode cX12_init 63 = .ok (.newarray .int, 2) := by decide +kernel
theorem dX12_init_65 : decode cX12_init 65 = .ok (.putfield 31, 3) := by decide +kernel
theorem dX12_init_68 : decode cX12_init 68 = .ok (.aload_n 0, 1) := by decide +kernel
theorem dX12_init_69 : decode cX12_init 69 = .ok (.iconst 5, 1) := by decide +kernel
theorem dX12_init_70 : decode cX12_init 70 = .ok (.newarray .int, 2) := by decide +kernel
theorem dX12_init_72 : decode cX12_init 72 = .ok (.putfield 34, 3) := by decide +kernel
theorem dX12_init_75 : decode cX12_init 75 = .ok (.aload_n 0, 1) := by decide +kernel
theorem dX12_init_76 : decode cX12_init 76 = .ok (.bipush 35, 2) := by decide +kernel
theorem dX12_init_78 : decode cX12_init 78 = .ok (.newarray .int, 2) := by decide +kernel
theorem dX12_init_80 : decode cX12_init 80 = .ok (.putfield 37, 3) := by decide +kernel
theorem dX12_init_83 : decode cX12_init 83 = .ok (.aload_n 0, 1) := by decide +kernel
theorem dX12_init_84 : decode cX12_init 84 = .ok (.bipush 35, 2) := by decide +kernel
theorem dX12_init_86 : decode cX12_init 86 = .ok (.newarray .int, 2) := by decide +kernel
theorem dX12_init_88 : decode cX12_init 88 = .ok (.putfield 40, 3) := by decide +kernel
theorem dX12_init_91 : decode cX12_init 91 = .ok (.return_, 1) := by decide +kernel
theorem dX12_within_0 : decode cX12_within 0 = .ok (.iload_n 0, 1) := by decide +kernel
theorem dX12_within_1 : decode cX12_within 1 = .ok (.iload_n 1, 1) := by decide +kernel
theorem dX12_within_2 : decode cX12_within 2 = .ok (.if_icmp .lt 12, 3) := by decide +kernel
theorem dX12_within_5 : decode cX12_within 5 = .ok (.iload_n 0, 1) := by decide +kernel
theorem dX12_within_6 : decode cX12_within 6 = .ok (.iload_n 2, 1) := by decide +kernel
theorem dX12_within_7 : decode cX12_within 7 = .ok (.if_icmp .gt 7, 3) := by decide +kernel
theorem dX12_within_10 : decode cX12_within 10 = .ok (.iconst 1, 1) := by decide +kernel
theorem dX12_within_11 : decode cX12_within 11 = .ok (.goto 4, 3) := by decide +kernel
theorem dX12_within_14 : decode cX12_within 14 = .ok (.iconst 0, 1) := by decide +kernel
theorem dX12_within_15 : decode cX12_within 15 = .ok (.ireturn, 1) := by decide +kernel
theorem dX12_isFact_0 : decode cX12_isFact 0 = .ok (.iload_n 0, 1) := by decide +kernel
theorem dX12_isFact_1 : decode cX12_isFact 1 = .ok (.iconst 0, 1) := by decide +kernel
theorem dX12_isFact_2 : decode cX12_isFact 2 = .ok (.iconst 5, 1) := by decide +kernel
theorem dX12_isFact_3 : decode cX12_isFact 3 = .ok (.invokestatic 43, 3) := by decide +kernel
theorem dX12_isFact_6 : decode cX12_isFact 6 = .ok (.ireturn, 1) := by decide +kernel
theorem dX12_isShelf_0 : decode cX12_isShelf 0 = .ok (.iload_n 0, 1) := by decide +kernel
theorem dX12_isShelf_1 : decode cX12_isShelf 1 = .ok (.iconst 0, 1) := by decide +kernel
theorem dX12_isShelf_2 : decode cX12_isShelf 2 = .ok (.bipush 7, 2) := by decide +kernel
theorem dX12_isShelf_4 : decode cX12_isShelf 4 = .ok (.invokestatic 43, 3) := by decide +kernel
theorem dX12_isShelf_7 : decode cX12_isShelf 7 = .ok (.ireturn, 1) := by decide +kernel
theorem dX12_isWitness_0 : decode cX12_isWitness 0 = .ok (.iload_n 1, 1) := by decide +kernel
theorem dX12_isWitness_1 : decode cX12_isWitness 1 = .ok (.iconst 0, 1) := by decide +kernel
theorem dX12_isWitness_2 : decode cX12_isWitness 2 = .ok (.aload_n 0, 1) := by decide +kernel
theorem dX12_isWitness_3 : decode cX12_isWitness 3 = .ok (.getfield 47, 3) := by decide +kernel
theorem dX12_isWitness_6 : decode cX12_isWitness 6 = .ok (.iconst 1, 1) := by decide +kernel
theorem dX12_isWitness_7 : decode cX12_isWitness 7 = .ok (.isub, 1) := by decide +kernel
theorem dX12_isWitness_8 : decode cX12_isWitness 8 = .ok (.invokestatic 43, 3) := by decide +kernel
theorem dX12_isWitness_11 : decode cX12_isWitness 11 = .ok (.ireturn, 1) := by decide +kernel
theorem dX12_isSaid_0 : decode cX12_isSaid 0 = .ok (.iload_n 1, 1) := by decide +kernel
theorem dX12_isSaid_1 : decode cX12_isSaid 1 = .ok (.iconst 0, 1) := by decide +kernel
theorem dX12_isSaid_2 : decode cX12_isSaid 2 = .ok (.aload_n 0, 1) := by decide +kernel
theorem dX12_isSaid_3 : decode cX12_isSaid 3 = .ok (.getfield 51, 3) := by decide +kernel
theorem dX12_isSaid_6 : decode cX12_isSaid 6 = .ok (.iconst 1, 1) := by decide +kernel
theorem dX12_isSaid_7 : decode cX12_isSaid 7 = .ok (.isub, 1) := by decide +kernel
theorem dX12_isSaid_8 : decode cX12_isSaid 8 = .ok (.invokestatic 43, 3) := by decide +kernel
theorem dX12_isSaid_11 : decode cX12_isSaid 11 = .ok (.ireturn, 1) := by decide +kernel
theorem dX12_made_0 : decode cX12_made 0 = .ok (.sipush 1000, 3) := by decide +kernel
theorem dX12_made_3 : decode cX12_made 3 = .ok (.iload_n 0, 1) := by decide +kernel
theorem dX12_made_4 : decode cX12_made 4 = .ok (.imul, 1) := by decide +kernel
theorem dX12_made_5 : decode cX12_made 5 = .ok (.bipush 100, 2) := by decide +kernel
theorem dX12_made_7 : decode cX12_made 7 = .ok (.iload_n 1, 1) := by decide +kernel
theorem dX12_made_8 : decode cX12_made 8 = .ok (.imul, 1) := by decide +kernel
theorem dX12_made_9 : decode cX12_made 9 = .ok (.iadd, 1) := by decide +kernel
theorem dX12_made_10 : decode cX12_made 10 = .ok (.bipush 10, 2) := by decide +kernel
theorem dX12_made_12 : decode cX12_made 12 = .ok (.iload_n 2, 1) := by decide +kernel
theorem dX12_made_13 : decode cX12_made 13 = .ok (.imul, 1) := by decide +kernel
theorem dX12_made_14 : decode cX12_made 14 = .ok (.iadd, 1) := by decide +kernel
theorem dX12_made_15 : decode cX12_made 15 = .ok (.iload_n 3, 1) := by decide +kernel
theorem dX12_made_16 : decode cX12_made 16 = .ok (.iadd, 1) := by decide +kernel
theorem dX12_made_17 : decode cX12_made 17 = .ok (.ireturn, 1) := by decide +kernel
theorem dX12_has_0 : decode cX12_has 0 = .ok (.iload_n 0, 1) := by decide +kernel
theorem dX12_has_1 : decode cX12_has 1 = .ok (.iload_n 1, 1) := by decide +kernel
theorem dX12_has_2 : decode cX12_has 2 = .ok (.ishr, 1) := by decide +kernel
theorem dX12_has_3 : decode cX12_has 3 = .ok (.iconst 1, 1) := by decide +kernel
theorem dX12_has_4 : decode cX12_has 4 = .ok (.iand, 1) := by decide +kernel
theorem dX12_has_5 : decode cX12_has 5 = .ok (.iconst 1, 1) := by decide +kernel
theorem dX12_has_6 : decode cX12_has 6 = .ok (.if_icmp .ne 7, 3) := by decide +kernel
theorem dX12_has_9 : decode cX12_has 9 = .ok (.iconst 1, 1) := by decide +kernel
theorem dX12_has_10 : decode cX12_has 10 = .ok (.goto 4, 3) := by decide +kernel
theorem dX12_has_13 : decode cX12_has 13 = .ok (.iconst 0, 1) := by decide +kernel
theorem dX12_has_14 : decode cX12_has 14 = .ok (.ireturn, 1) := by decide +kernel
theorem dX12_isTrueIn_0 : decode cX12_isTrueIn 0 = .ok (.iload_n 1, 1) := by decide +kernel
theorem dX12_isTrueIn_1 : decode cX12_isTrueIn 1 = .ok (.iload_n 0, 1) := by decide +kernel
theorem dX12_isTrueIn_2 : decode cX12_isTrueIn 2 = .ok (.bipush 10, 2) := by decide +kernel
theorem dX12_isTrueIn_4 : decode cX12_isTrueIn 4 = .ok (.idiv, 1) := by decide +kernel
theorem dX12_isTrueIn_5 : decode cX12_isTrueIn 5 = .ok (.bipush 10, 2) := by decide +kernel
theorem dX12_isTrueIn_7 : decode cX12_isTrueIn 7 = .ok (.irem, 1) := by decide +kernel
theorem dX12_isTrueIn_8 : decode cX12_isTrueIn 8 = .ok (.invokestatic 54, 3) := by decide +kernel
theorem dX12_isTrueIn_11 : decode cX12_isTrueIn 11 = .ok (.istore_n 2, 1) := by decide +kernel
theorem dX12_isTrueIn_12 : decode cX12_isTrueIn 12 = .ok (.iload_n 1, 1) := by decide +kernel
theorem dX12_isTrueIn_13 : decode cX12_isTrueIn 13 = .ok (.iload_n 0, 1) := by decide +kernel
theorem dX12_isTrueIn_14 : decode cX12_isTrueIn 14 = .ok (.bipush 10, 2) := by decide +kernel
theorem dX12_isTrueIn_16 : decode cX12_isTrueIn 16 = .ok (.irem, 1) := by decide +kernel
theorem dX12_isTrueIn_17 : decode cX12_isTrueIn 17 = .ok (.invokestatic 54, 3) := by decide +kernel
theorem dX12_isTrueIn_20 : decode cX12_isTrueIn 20 = .ok (.istore_n 3, 1) := by decide +kernel
theorem dX12_isTrueIn_21 : decode cX12_isTrueIn 21 = .ok (.iload_n 0, 1) := by decide +kernel
theorem dX12_isTrueIn_22 : decode cX12_isTrueIn 22 = .ok (.sipush 1000, 3) := by decide +kernel
theorem dX12_isTrueIn_25 : decode cX12_isTrueIn 25 = .ok (.idiv, 1) := by decide +kernel
theorem dX12_isTrueIn_26 : decode cX12_isTrueIn 26 = .ok (.tableswitch 109 0 6 #[42, 44, 54, 68, 82, 96, 107], 42) := by decide +kernel
theorem dX12_isTrueIn_68 : decode cX12_isTrueIn 68 = .ok (.iload_n 2, 1) := by decide +kernel
theorem dX12_isTrueIn_69 : decode cX12_isTrueIn 69 = .ok (.ireturn, 1) := by decide +kernel
theorem dX12_isTrueIn_70 : decode cX12_isTrueIn 70 = .ok (.iload_n 2, 1) := by decide +kernel
theorem dX12_isTrueIn_71 : decode cX12_isTrueIn 71 = .ok (.ifCond .ne 7, 3) := by decide +kernel
theorem dX12_isTrueIn_74 : decode cX12_isTrueIn 74 = .ok (.iconst 1, 1) := by decide +kernel
theorem dX12_isTrueIn_75 : decode cX12_isTrueIn 75 = .ok (.goto 4, 3) := by decide +kernel
theorem dX12_isTrueIn_78 : decode cX12_isTrueIn 78 = .ok (.iconst 0, 1) := by decide +kernel
theorem dX12_isTrueIn_79 : decode cX12_isTrueIn 79 = .ok (.ireturn, 1) := by decide +kernel
theorem dX12_isTrueIn_80 : decode cX12_isTrueIn 80 = .ok (.iload_n 2, 1) := by decide +kernel
theorem dX12_isTrueIn_81 : decode cX12_isTrueIn 81 = .ok (.ifCond .eq 11, 3) := by decide +kernel
theorem dX12_isTrueIn_84 : decode cX12_isTrueIn 84 = .ok (.iload_n 3, 1) := by decide +kernel
theorem dX12_isTrueIn_85 : decode cX12_isTrueIn 85 = .ok (.ifCond .eq 7, 3) := by decide +kernel
theorem dX12_isTrueIn_88 : decode cX12_isTrueIn 88 = .ok (.iconst 1, 1) := by decide +kernel
theorem dX12_isTrueIn_89 : decode cX12_isTrueIn 89 = .ok (.goto 4, 3) := by decide +kernel
theorem dX12_isTrueIn_92 : decode cX12_isTrueIn 92 = .ok (.iconst 0, 1) := by decide +kernel
theorem dX12_isTrueIn_93 : decode cX12_isTrueIn 93 = .ok (.ireturn, 1) := by decide +kernel
theorem dX12_isTrueIn_94 : decode cX12_isTrueIn 94 = .ok (.iload_n 2, 1) := by decide +kernel
theorem dX12_isTrueIn_95 : decode cX12_isTrueIn 95 = .ok (.ifCond .ne 7, 3) := by decide +kernel
theorem dX12_isTrueIn_98 : decode cX12_isTrueIn 98 = .ok (.iload_n 3, 1) := by decide +kernel
theorem dX12_isTrueIn_99 : decode cX12_isTrueIn 99 = .ok (.ifCond .eq 7, 3) := by decide +kernel
theorem dX12_isTrueIn_102 : decode cX12_isTrueIn 102 = .ok (.iconst 1, 1) := by decide +kernel
theorem dX12_isTrueIn_103 : decode cX12_isTrueIn 103 = .ok (.goto 4, 3) := by decide +kernel
theorem dX12_isTrueIn_106 : decode cX12_isTrueIn 106 = .ok (.iconst 0, 1) := by decide +kernel
theorem dX12_isTrueIn_107 : decode cX12_isTrueIn 107 = .ok (.ireturn, 1) := by decide +kernel
theorem dX12_isTrueIn_108 : decode cX12_isTrueIn 108 = .ok (.iload_n 2, 1) := by decide +kernel
theorem dX12_isTrueIn_109 : decode cX12_isTrueIn 109 = .ok (.ifCond .eq 7, 3) := by decide +kernel
theorem dX12_isTrueIn_112 : decode cX12_isTrueIn 112 = .ok (.iload_n 3, 1) := by decide +kernel
theorem dX12_isTrueIn_113 : decode cX12_isTrueIn 113 = .ok (.ifCond .eq 7, 3) := by decide +kernel
theorem dX12_isTrueIn_116 : decode cX12_isTrueIn 116 = .ok (.iconst 1, 1) := by decide +kernel
theorem dX12_isTrueIn_117 : decode cX12_isTrueIn 117 = .ok (.goto 4, 3) := by decide +kernel
theorem dX12_isTrueIn_120 : decode cX12_isTrueIn 120 = .ok (.iconst 0, 1) := by decide +kernel
theorem dX12_isTrueIn_121 : decode cX12_isTrueIn 121 = .ok (.ireturn, 1) := by decide +kernel
theorem dX12_isTrueIn_122 : decode cX12_isTrueIn 122 = .ok (.iload_n 2, 1) := by decide +kernel
theorem dX12_isTrueIn_123 : decode cX12_isTrueIn 123 = .ok (.iload_n 3, 1) := by decide +kernel
theorem dX12_isTrueIn_124 : decode cX12_isTrueIn 124 = .ok (.if_icmp .ne 7, 3) := by decide +kernel
theorem dX12_isTrueIn_127 : decode cX12_isTrueIn 127 = .ok (.iconst 1, 1) := by decide +kernel
theorem dX12_isTrueIn_128 : decode cX12_isTrueIn 128 = .ok (.goto 4, 3) := by decide +kernel
theorem dX12_isTrueIn_131 : decode cX12_isTrueIn 131 = .ok (.iconst 0, 1) := by decide +kernel
theorem dX12_isTrueIn_132 : decode cX12_isTrueIn 132 = .ok (.ireturn, 1) := by decide +kernel
theorem dX12_isTrueIn_133 : decode cX12_isTrueIn 133 = .ok (.iconst 0, 1) := by decide +kernel
theorem dX12_isTrueIn_134 : decode cX12_isTrueIn 134 = .ok (.ireturn, 1) := by decide +kernel
theorem dX12_isTrueIn_135 : decode cX12_isTrueIn 135 = .ok (.iload_n 2, 1) := by decide +kernel
theorem dX12_isTrueIn_136 : decode cX12_isTrueIn 136 = .ok (.ifCond .ne 24, 3) := by decide +kernel
theorem dX12_isTrueIn_139 : decode cX12_isTrueIn 139 = .ok (.iload_n 3, 1) := by decide +kernel
theorem dX12_isTrueIn_140 : decode cX12_isTrueIn 140 = .ok (.ifCond .ne 20, 3) := by decide +kernel
theorem dX12_isTrueIn_143 : decode cX12_isTrueIn 143 = .ok (.iload_n 1, 1) := by decide +kernel
theorem dX12_isTrueIn_144 : decode cX12_isTrueIn 144 = .ok (.iload_n 0, 1) := by decide +kernel
theorem dX12_isTrueIn_145 : decode cX12_isTrueIn 145 = .ok (.bipush 100, 2) := by decide +kernel
theorem dX12_isTrueIn_147 : decode cX12_isTrueIn 147 = .ok (.idiv, 1) := by decide +kernel
theorem dX12_isTrueIn_148 : decode cX12_isTrueIn 148 = .ok (.bipush 10, 2) := by decide +kernel
theorem dX12_isTrueIn_150 : decode cX12_isTrueIn 150 = .ok (.irem, 1) := by decide +kernel
theorem dX12_isTrueIn_151 : decode cX12_isTrueIn 151 = .ok (.bipush 6, 2) := by decide +kernel
theorem dX12_isTrueIn_153 : decode cX12_isTrueIn 153 = .ok (.irem, 1) := by decide +kernel
theorem dX12_isTrueIn_154 : decode cX12_isTrueIn 154 = .ok (.invokestatic 54, 3) := by decide +kernel
theorem dX12_isTrueIn_157 : decode cX12_isTrueIn 157 = .ok (.ifCond .eq 7, 3) := by decide +kernel
theorem dX12_isTrueIn_160 : decode cX12_isTrueIn 160 = .ok (.iconst 1, 1) := by decide +kernel
theorem dX12_isTrueIn_161 : decode cX12_isTrueIn 161 = .ok (.goto 4, 3) := by decide +kernel
theorem dX12_isTrueIn_164 : decode cX12_isTrueIn 164 = .ok (.iconst 0, 1) := by decide +kernel
theorem dX12_isTrueIn_165 : decode cX12_isTrueIn 165 = .ok (.ireturn, 1) := by decide +kernel
theorem dX12_sizeOf_0 : decode cX12_sizeOf 0 = .ok (.iload_n 0, 1) := by decide +kernel
theorem dX12_sizeOf_1 : decode cX12_sizeOf 1 = .ok (.bipush 100, 2) := by decide +kernel
theorem dX12_sizeOf_3 : decode cX12_sizeOf 3 = .ok (.idiv, 1) := by decide +kernel
theorem dX12_sizeOf_4 : decode cX12_sizeOf 4 = .ok (.bipush 10, 2) := by decide +kernel
theorem dX12_sizeOf_6 : decode cX12_sizeOf 6 = .ok (.irem, 1) := by decide +kernel
theorem dX12_sizeOf_7 : decode cX12_sizeOf 7 = .ok (.istore_n 1, 1) := by decide +kernel
theorem dX12_sizeOf_8 : decode cX12_sizeOf 8 = .ok (.iload_n 0, 1) := by decide +kernel
theorem dX12_sizeOf_9 : decode cX12_sizeOf 9 = .ok (.sipush 1000, 3) := by decide +kernel
theorem dX12_sizeOf_12 : decode cX12_sizeOf 12 = .ok (.idiv, 1) := by decide +kernel
theorem dX12_sizeOf_13 : decode cX12_sizeOf 13 = .ok (.tableswitch 62 0 6 #[43, 45, 47, 49, 52, 55, 58], 43) := by decide +kernel
theorem dX12_sizeOf_56 : decode cX12_sizeOf 56 = .ok (.iconst 3, 1) := by decide +kernel
theorem dX12_sizeOf_57 : decode cX12_sizeOf 57 = .ok (.ireturn, 1) := by decide +kernel
theorem dX12_sizeOf_58 : decode cX12_sizeOf 58 = .ok (.iconst 4, 1) := by decide +kernel
theorem dX12_sizeOf_59 : decode cX12_sizeOf 59 = .ok (.ireturn, 1) := by decide +kernel
theorem dX12_sizeOf_60 : decode cX12_sizeOf 60 = .ok (.iconst 5, 1) := by decide +kernel
theorem dX12_sizeOf_61 : decode cX12_sizeOf 61 = .ok (.ireturn, 1) := by decide +kernel
theorem dX12_sizeOf_62 : decode cX12_sizeOf 62 = .ok (.bipush 6, 2) := by decide +kernel
theorem dX12_sizeOf_64 : decode cX12_sizeOf 64 = .ok (.ireturn, 1) := by decide +kernel
theorem dX12_sizeOf_65 : decode cX12_sizeOf 65 = .ok (.bipush 12, 2) := by decide +kernel
theorem dX12_sizeOf_67 : decode cX12_sizeOf 67 = .ok (.ireturn, 1) := by decide +kernel
theorem dX12_sizeOf_68 : decode cX12_sizeOf 68 = .ok (.bipush 8, 2) := by decide +kernel
theorem dX12_sizeOf_70 : decode cX12_sizeOf 70 = .ok (.ireturn, 1) := by decide +kernel
theorem dX12_sizeOf_71 : decode cX12_sizeOf 71 = .ok (.iconst 4, 1) := by decide +kernel
theorem dX12_sizeOf_72 : decode cX12_sizeOf 72 = .ok (.iload_n 1, 1) := by decide +kernel
theorem dX12_sizeOf_73 : decode cX12_sizeOf 73 = .ok (.iadd, 1) := by decide +kernel
theorem dX12_sizeOf_74 : decode cX12_sizeOf 74 = .ok (.ireturn, 1) := by decide +kernel
theorem dX12_sizeOf_75 : decode cX12_sizeOf 75 = .ok (.bipush 6, 2) := by decide +kernel
theorem dX12_sizeOf_77 : decode cX12_sizeOf 77 = .ok (.iload_n 1, 1) := by decide +kernel
theorem dX12_sizeOf_78 : decode cX12_sizeOf 78 = .ok (.iadd, 1) := by decide +kernel
theorem dX12_sizeOf_79 : decode cX12_sizeOf 79 = .ok (.ireturn, 1) := by decide +kernel
theorem dX12_aboutOf_0 : decode cX12_aboutOf 0 = .ok (.iload_n 0, 1) := by decide +kernel
theorem dX12_aboutOf_1 : decode cX12_aboutOf 1 = .ok (.sipush 1000, 3) := by decide +kernel
theorem dX12_aboutOf_4 : decode cX12_aboutOf 4 = .ok (.idiv, 1) := by decide +kernel
theorem dX12_aboutOf_5 : decode cX12_aboutOf 5 = .ok (.istore_n 1, 1) := by decide +kernel
theorem dX12_aboutOf_6 : decode cX12_aboutOf 6 = .ok (.iconst 1, 1) := by decide +kernel
theorem dX12_aboutOf_7 : decode cX12_aboutOf 7 = .ok (.iload_n 0, 1) := by decide +kernel
theorem dX12_aboutOf_8 : decode cX12_aboutOf 8 = .ok (.bipush 10, 2) := by decide +kernel
theorem dX12_aboutOf_10 : decode cX12_aboutOf 10 = .ok (.idiv, 1) := by decide +kernel
theorem dX12_aboutOf_11 : decode cX12_aboutOf 11 = .ok (.bipush 10, 2) := by decide +kernel
theorem dX12_aboutOf_13 : decode cX12_aboutOf 13 = .ok (.irem, 1) := by decide +kernel
theorem dX12_aboutOf_14 : decode cX12_aboutOf 14 = .ok (.ishl, 1) := by decide +kernel
theorem dX12_aboutOf_15 : decode cX12_aboutOf 15 = .ok (.istore_n 2, 1) := by decide +kernel
theorem dX12_aboutOf_16 : decode cX12_aboutOf 16 = .ok (.iload_n 1, 1) := by decide +kernel
theorem dX12_aboutOf_17 : decode cX12_aboutOf 17 = .ok (.iconst 1, 1) := by decide +kernel
theorem dX12_aboutOf_18 : decode cX12_aboutOf 18 = .ok (.if_icmp .le 18, 3) := by decide +kernel
theorem dX12_aboutOf_21 : decode cX12_aboutOf 21 = .ok (.iload_n 1, 1) := by decide +kernel
theorem dX12_aboutOf_22 : decode cX12_aboutOf 22 = .ok (.bipush 6, 2) := by decide +kernel
theorem dX12_aboutOf_24 : decode cX12_aboutOf 24 = .ok (.if_icmp .eq 12, 3) := by decide +kernel
theorem dX12_aboutOf_27 : decode cX12_aboutOf 27 = .ok (.iload_n 2, 1) := by decide +kernel
theorem dX12_aboutOf_28 : decode cX12_aboutOf 28 = .ok (.iconst 1, 1) := by decide +kernel
theorem dX12_aboutOf_29 : decode cX12_aboutOf 29 = .ok (.iload_n 0, 1) := by decide +kernel
theorem dX12_aboutOf_30 : decode cX12_aboutOf 30 = .ok (.bipush 10, 2) := by decide +kernel
theorem dX12_aboutOf_32 : decode cX12_aboutOf 32 = .ok (.irem, 1) := by decide +kernel
theorem dX12_aboutOf_33 : decode cX12_aboutOf 33 = .ok (.ishl, 1) := by decide +kernel
theorem dX12_aboutOf_34 : decode cX12_aboutOf 34 = .ok (.ior, 1) := by decide +kernel
theorem dX12_aboutOf_35 : decode cX12_aboutOf 35 = .ok (.istore_n 2, 1) := by decide +kernel
theorem dX12_aboutOf_36 : decode cX12_aboutOf 36 = .ok (.iload_n 1, 1) := by decide +kernel
theorem dX12_aboutOf_37 : decode cX12_aboutOf 37 = .ok (.bipush 7, 2) := by decide +kernel
theorem dX12_aboutOf_39 : decode cX12_aboutOf 39 = .ok (.if_icmp .ne 18, 3) := by decide +kernel
theorem dX12_aboutOf_42 : decode cX12_aboutOf 42 = .ok (.iload_n 2, 1) := by decide +kernel
theorem dX12_aboutOf_43 : decode cX12_aboutOf 43 = .ok (.iconst 1, 1) := by decide +kernel
theorem dX12_aboutOf_44 : decode cX12_aboutOf 44 = .ok (.iload_n 0, 1) := by decide +kernel
theorem dX12_aboutOf_45 : decode cX12_aboutOf 45 = .ok (.bipush 100, 2) := by decide +kernel
theorem dX12_aboutOf_47 : decode cX12_aboutOf 47 = .ok (.idiv, 1) := by decide +kernel
theorem dX12_aboutOf_48 : decode cX12_aboutOf 48 = .ok (.bipush 10, 2) := by decide +kernel
theorem dX12_aboutOf_50 : decode cX12_aboutOf 50 = .ok (.irem, 1) := by decide +kernel
theorem dX12_aboutOf_51 : decode cX12_aboutOf 51 = .ok (.bipush 6, 2) := by decide +kernel
theorem dX12_aboutOf_53 : decode cX12_aboutOf 53 = .ok (.irem, 1) := by decide +kernel
theorem dX12_aboutOf_54 : decode cX12_aboutOf 54 = .ok (.ishl, 1) := by decide +kernel
theorem dX12_aboutOf_55 : decode cX12_aboutOf 55 = .ok (.ior, 1) := by decide +kernel
theorem dX12_aboutOf_56 : decode cX12_aboutOf 56 = .ok (.istore_n 2, 1) := by decide +kernel
theorem dX12_aboutOf_57 : decode cX12_aboutOf 57 = .ok (.iload_n 2, 1) := by decide +kernel
theorem dX12_aboutOf_58 : decode cX12_aboutOf 58 = .ok (.ireturn, 1) := by decide +kernel
theorem dX12_worldsOf_0 : decode cX12_worldsOf 0 = .ok (.lconst 0, 1) := by decide +kernel
theorem dX12_worldsOf_1 : decode cX12_worldsOf 1 = .ok (.lstore_n 1, 1) := by decide +kernel
theorem dX12_worldsOf_2 : decode cX12_worldsOf 2 = .ok (.iconst 0, 1) := by decide +kernel
theorem dX12_worldsOf_3 : decode cX12_worldsOf 3 = .ok (.istore_n 3, 1) := by decide +kernel
theorem dX12_worldsOf_4 : decode cX12_worldsOf 4 = .ok (.iload_n 3, 1) := by decide +kernel
theorem dX12_worldsOf_5 : decode cX12_worldsOf 5 = .ok (.bipush 64, 2) := by decide +kernel
theorem dX12_worldsOf_7 : decode cX12_worldsOf 7 = .ok (.if_icmp .ge 23, 3) := by decide +kernel
theorem dX12_worldsOf_10 : decode cX12_worldsOf 10 = .ok (.iload_n 0, 1) := by decide +kernel
theorem dX12_worldsOf_11 : decode cX12_worldsOf 11 = .ok (.iload_n 3, 1) := by decide +kernel
theorem dX12_worldsOf_12 : decode cX12_worldsOf 12 = .ok (.invokestatic 58, 3) := by decide +kernel
theorem dX12_worldsOf_15 : decode cX12_worldsOf 15 = .ok (.ifCond .eq 9, 3) := by decide +kernel
theorem dX12_worldsOf_18 : decode cX12_worldsOf 18 = .ok (.lload_n 1, 1) := by decide +kernel
theorem dX12_worldsOf_19 : decode cX12_worldsOf 19 = .ok (.lconst 1, 1) := by decide +kernel
theorem dX12_worldsOf_20 : decode cX12_worldsOf 20 = .ok (.iload_n 3, 1) := by decide +kernel
theorem dX12_worldsOf_21 : decode cX12_worldsOf 21 = .ok (.lshl, 1) := by decide +kernel
theorem dX12_worldsOf_22 : decode cX12_worldsOf 22 = .ok (.lor, 1) := by decide +kernel
theorem dX12_worldsOf_23 : decode cX12_worldsOf 23 = .ok (.lstore_n 1, 1) := by decide +kernel
theorem dX12_worldsOf_24 : decode cX12_worldsOf 24 = .ok (.iinc 3 1, 3) := by decide +kernel
theorem dX12_worldsOf_27 : decode cX12_worldsOf 27 = .ok (.goto (-23), 3) := by decide +kernel
theorem dX12_worldsOf_30 : decode cX12_worldsOf 30 = .ok (.lload_n 1, 1) := by decide +kernel
theorem dX12_worldsOf_31 : decode cX12_worldsOf 31 = .ok (.lreturn, 1) := by decide +kernel
theorem dX12_isSlip_0 : decode cX12_isSlip 0 = .ok (.aload_n 0, 1) := by decide +kernel
theorem dX12_isSlip_1 : decode cX12_isSlip 1 = .ok (.getfield 16, 3) := by decide +kernel
theorem dX12_isSlip_4 : decode cX12_isSlip 4 = .ok (.iload_n 1, 1) := by decide +kernel
theorem dX12_isSlip_5 : decode cX12_isSlip 5 = .ok (.iaload, 1) := by decide +kernel
theorem dX12_isSlip_6 : decode cX12_isSlip 6 = .ok (.aload_n 0, 1) := by decide +kernel
theorem dX12_isSlip_7 : decode cX12_isSlip 7 = .ok (.getfield 61, 3) := by decide +kernel
theorem dX12_isSlip_10 : decode cX12_isSlip 10 = .ok (.invokestatic 58, 3) := by decide +kernel
theorem dX12_isSlip_13 : decode cX12_isSlip 13 = .ok (.ireturn, 1) := by decide +kernel
theorem dX12_of_0 : decode cX12_of 0 = .ok (.iload_n 1, 1) := by decide +kernel
theorem dX12_of_1 : decode cX12_of 1 = .ok (.tableswitch 67 0 4 #[35, 41, 49, 57, 62], 35) := by decide +kernel
theorem dX12_of_36 : decode cX12_of 36 = .ok (.iload_n 0, 1) := by decide +kernel
theorem dX12_of_37 : decode cX12_of 37 = .ok (.sipush 1000, 3) := by decide +kernel
theorem dX12_of_40 : decode cX12_of 40 = .ok (.idiv, 1) := by decide +kernel
theorem dX12_of_41 : decode cX12_of 41 = .ok (.ireturn, 1) := by decide +kernel
theorem dX12_of_42 : decode cX12_of 42 = .ok (.iload_n 0, 1) := by decide +kernel
theorem dX12_of_43 : decode cX12_of 43 = .ok (.bipush 100, 2) := by decide +kernel
theorem dX12_of_45 : decode cX12_of 45 = .ok (.idiv, 1) := by decide +kernel
theorem dX12_of_46 : decode cX12_of 46 = .ok (.bipush 10, 2) := by decide +kernel
theorem dX12_of_48 : decode cX12_of 48 = .ok (.irem, 1) := by decide +kernel
theorem dX12_of_49 : decode cX12_of 49 = .ok (.ireturn, 1) := by decide +kernel
theorem dX12_of_50 : decode cX12_of 50 = .ok (.iload_n 0, 1) := by decide +kernel
theorem dX12_of_51 : decode cX12_of 51 = .ok (.bipush 10, 2) := by decide +kernel
theorem dX12_of_53 : decode cX12_of 53 = .ok (.idiv, 1) := by decide +kernel
theorem dX12_of_54 : decode cX12_of 54 = .ok (.bipush 10, 2) := by decide +kernel
theorem dX12_of_56 : decode cX12_of 56 = .ok (.irem, 1) := by decide +kernel
theorem dX12_of_57 : decode cX12_of 57 = .ok (.ireturn, 1) := by decide +kernel
theorem dX12_of_58 : decode cX12_of 58 = .ok (.iload_n 0, 1) := by decide +kernel
theorem dX12_of_59 : decode cX12_of 59 = .ok (.bipush 10, 2) := by decide +kernel
theorem dX12_of_61 : decode cX12_of 61 = .ok (.irem, 1) := by decide +kernel
theorem dX12_of_62 : decode cX12_of 62 = .ok (.ireturn, 1) := by decide +kernel
theorem dX12_of_63 : decode cX12_of 63 = .ok (.iload_n 0, 1) := by decide +kernel
theorem dX12_of_64 : decode cX12_of 64 = .ok (.invokestatic 64, 3) := by decide +kernel
theorem dX12_of_67 : decode cX12_of 67 = .ok (.ireturn, 1) := by decide +kernel
theorem dX12_of_68 : decode cX12_of 68 = .ok (.iload_n 0, 1) := by decide +kernel
theorem dX12_of_69 : decode cX12_of 69 = .ok (.invokestatic 68, 3) := by decide +kernel
theorem dX12_of_72 : decode cX12_of 72 = .ok (.ireturn, 1) := by decide +kernel
theorem dX12_is_0 : decode cX12_is 0 = .ok (.aload_n 0, 1) := by decide +kernel
theorem dX12_is_1 : decode cX12_is 1 = .ok (.getfield 71, 3) := by decide +kernel
theorem dX12_is_4 : decode cX12_is 4 = .ok (.aload_n 0, 1) := by decide +kernel
theorem dX12_is_5 : decode cX12_is 5 = .ok (.getfield 28, 3) := by decide +kernel
theorem dX12_is_8 : decode cX12_is 8 = .ok (.aload_n 0, 1) := by decide +kernel
theorem dX12_is_9 : decode cX12_is 9 = .ok (.getfield 74, 3) := by decide +kernel
theorem dX12_is_12 : decode cX12_is 12 = .ok (.iaload, 1) := by decide +kernel
theorem dX12_is_13 : decode cX12_is 13 = .ok (.if_icmp .eq 24, 3) := by decide +kernel
theorem dX12_is_16 : decode cX12_is 16 = .ok (.aload_n 0, 1) := by decide +kernel
theorem dX12_is_17 : decode cX12_is 17 = .ok (.getfield 31, 3) := by decide +kernel
theorem dX12_is_20 : decode cX12_is 20 = .ok (.bipush 100, 2) := by decide +kernel
theorem dX12_is_22 : decode cX12_is 22 = .ok (.aload_n 0, 1) := by decide +kernel
theorem dX12_is_23 : decode cX12_is 23 = .ok (.getfield 74, 3) := by decide +kernel
theorem dX12_is_26 : decode cX12_is 26 = .ok (.imul, 1) := by decide +kernel
theorem dX12_is_27 : decode cX12_is 27 = .ok (.aload_n 0, 1) := by decide +kernel
theorem dX12_is_28 : decode cX12_is 28 = .ok (.getfield 71, 3) := by decide +kernel
theorem dX12_is_31 : decode cX12_is 31 = .ok (.iadd, 1) := by decide +kernel
theorem dX12_is_32 : decode cX12_is 32 = .ok (.iaload, 1) := by decide +kernel
theorem dX12_is_33 : decode cX12_is 33 = .ok (.iload_n 1, 1) := by decide +kernel
theorem dX12_is_34 : decode cX12_is 34 = .ok (.if_icmp .eq 5, 3) := by decide +kernel
theorem dX12_is_37 : decode cX12_is 37 = .ok (.iconst 0, 1) := by decide +kernel
theorem dX12_is_38 : decode cX12_is 38 = .ok (.ireturn, 1) := by decide +kernel
theorem dX12_is_39 : decode cX12_is 39 = .ok (.aload_n 0, 1) := by decide +kernel
theorem dX12_is_40 : decode cX12_is 40 = .ok (.dup, 1) := by decide +kernel
theorem dX12_is_41 : decode cX12_is 41 = .ok (.getfield 71, 3) := by decide +kernel
theorem dX12_is_44 : decode cX12_is 44 = .ok (.iconst 1, 1) := by decide +kernel
theorem dX12_is_45 : decode cX12_is 45 = .ok (.iadd, 1) := by decide +kernel
theorem dX12_is_46 : decode cX12_is 46 = .ok (.putfield 71, 3) := by decide +kernel
theorem dX12_is_49 : decode cX12_is 49 = .ok (.iconst 1, 1) := by decide +kernel
theorem dX12_is_50 : decode cX12_is 50 = .ok (.ireturn, 1) := by decide +kernel
theorem dX12_digits_0 : decode cX12_digits 0 = .ok (.iconst 0, 1) := by decide +kernel
theorem dX12_digits_1 : decode cX12_digits 1 = .ok (.istore_n 2, 1) := by decide +kernel
theorem dX12_digits_2 : decode cX12_digits 2 = .ok (.iload_n 2, 1) := by decide +kernel
theorem dX12_digits_3 : decode cX12_digits 3 = .ok (.iload_n 1, 1) := by decide +kernel
theorem dX12_digits_4 : decode cX12_digits 4 = .ok (.if_icmp .ge 79, 3) := by decide +kernel
theorem dX12_digits_7 : decode cX12_digits 7 = .ok (.aload_n 0, 1) := by decide +kernel
theorem dX12_digits_8 : decode cX12_digits 8 = .ok (.getfield 71, 3) := by decide +kernel
theorem dX12_digits_11 : decode cX12_digits 11 = .ok (.aload_n 0, 1) := by decide +kernel
theorem dX12_digits_12 : decode cX12_digits 12 = .ok (.getfield 28, 3) := by decide +kernel
theorem dX12_digits_15 : decode cX12_digits 15 = .ok (.aload_n 0, 1) := by decide +kernel
theorem dX12_digits_16 : decode cX12_digits 16 = .ok (.getfield 74, 3) := by decide +kernel
theorem dX12_digits_19 : decode cX12_digits 19 = .ok (.iaload, 1) := by decide +kernel
theorem dX12_digits_20 : decode cX12_digits 20 = .ok (.if_icmp .ne 5, 3) := by decide +kernel
theorem dX12_digits_23 : decode cX12_digits 23 = .ok (.iconst 0, 1) := by decide +kernel
theorem dX12_digits_24 : decode cX12_digits 24 = .ok (.ireturn, 1) := by decide +kernel
theorem dX12_digits_25 : decode cX12_digits 25 = .ok (.aload_n 0, 1) := by decide +kernel
theorem dX12_digits_26 : decode cX12_digits 26 = .ok (.getfield 31, 3) := by decide +kernel
theorem dX12_digits_29 : decode cX12_digits 29 = .ok (.bipush 100, 2) := by decide +kernel
theorem dX12_digits_31 : decode cX12_digits 31 = .ok (.aload_n 0, 1) := by decide +kernel
theorem dX12_digits_32 : decode cX12_digits 32 = .ok (.getfield 74, 3) := by decide +kernel
theorem dX12_digits_35 : decode cX12_digits 35 = .ok (.imul, 1) := by decide +kernel
theorem dX12_digits_36 : decode cX12_digits 36 = .ok (.aload_n 0, 1) := by decide +kernel
theorem dX12_digits_37 : decode cX12_digits 37 = .ok (.getfield 71, 3) := by decide +kernel
theorem dX12_digits_40 : decode cX12_digits 40 = .ok (.iadd, 1) := by decide +kernel
theorem dX12_digits_41 : decode cX12_digits 41 = .ok (.iaload, 1) := by decide +kernel
theorem dX12_digits_42 : decode cX12_digits 42 = .ok (.istore_n 3, 1) := by decide +kernel
theorem dX12_digits_43 : decode cX12_digits 43 = .ok (.iload_n 3, 1) := by decide +kernel
theorem dX12_digits_44 : decode cX12_digits 44 = .ok (.bipush 48, 2) := by decide +kernel
theorem dX12_digits_46 : decode cX12_digits 46 = .ok (.if_icmp .lt 9, 3) := by decide +kernel
theorem dX12_digits_49 : decode cX12_digits 49 = .ok (.iload_n 3, 1) := by decide +kernel
theorem dX12_digits_50 : decode cX12_digits 50 = .ok (.bipush 57, 2) := by decide +kernel
theorem dX12_digits_52 : decode cX12_digits 52 = .ok (.if_icmp .le 5, 3) := by decide +kernel
theorem dX12_digits_55 : decode cX12_digits 55 = .ok (.iconst 0, 1) := by decide +kernel
theorem dX12_digits_56 : decode cX12_digits 56 = .ok (.ireturn, 1) := by decide +kernel
theorem dX12_digits_57 : decode cX12_digits 57 = .ok (.aload_n 0, 1) := by decide +kernel
theorem dX12_digits_58 : decode cX12_digits 58 = .ok (.getfield 34, 3) := by decide +kernel
theorem dX12_digits_61 : decode cX12_digits 61 = .ok (.iload_n 2, 1) := by decide +kernel
theorem dX12_digits_62 : decode cX12_digits 62 = .ok (.iload_n 3, 1) := by decide +kernel
theorem dX12_digits_63 : decode cX12_digits 63 = .ok (.bipush 48, 2) := by decide +kernel
theorem dX12_digits_65 : decode cX12_digits 65 = .ok (.isub, 1) := by decide +kernel
theorem dX12_digits_66 : decode cX12_digits 66 = .ok (.iastore, 1) := by decide +kernel
theorem dX12_digits_67 : decode cX12_digits 67 = .ok (.aload_n 0, 1) := by decide +kernel
theorem dX12_digits_68 : decode cX12_digits 68 = .ok (.dup, 1) := by decide +kernel
theorem dX12_digits_69 : decode cX12_digits 69 = .ok (.getfield 71, 3) := by decide +kernel
theorem dX12_digits_72 : decode cX12_digits 72 = .ok (.iconst 1, 1) := by decide +kernel
theorem dX12_digits_73 : decode cX12_digits 73 = .ok (.iadd, 1) := by decide +kernel
theorem dX12_digits_74 : decode cX12_digits 74 = .ok (.putfield 71, 3) := by decide +kernel
theorem dX12_digits_77 : decode cX12_digits 77 = .ok (.iinc 2 1, 3) := by decide +kernel
theorem dX12_digits_80 : decode cX12_digits 80 = .ok (.goto (-78), 3) := by decide +kernel
theorem dX12_digits_83 : decode cX12_digits 83 = .ok (.iconst 1, 1) := by decide +kernel
theorem dX12_digits_84 : decode cX12_digits 84 = .ok (.ireturn, 1) := by decide +kernel
theorem dX12_two_0 : decode cX12_two 0 = .ok (.bipush 10, 2) := by decide +kernel
theorem dX12_two_2 : decode cX12_two 2 = .ok (.aload_n 0, 1) := by decide +kernel
theorem dX12_two_3 : decode cX12_two 3 = .ok (.getfield 34, 3) := by decide +kernel
theorem dX12_two_6 : decode cX12_two 6 = .ok (.iconst 0, 1) := by decide +kernel
theorem dX12_two_7 : decode cX12_two 7 = .ok (.iaload, 1) := by decide +kernel
theorem dX12_two_8 : decode cX12_two 8 = .ok (.imul, 1) := by decide +kernel
theorem dX12_two_9 : decode cX12_two 9 = .ok (.aload_n 0, 1) := by decide +kernel
theorem dX12_two_10 : decode cX12_two 10 = .ok (.getfield 34, 3) := by decide +kernel
theorem dX12_two_13 : decode cX12_two 13 = .ok (.iconst 1, 1) := by decide +kernel
theorem dX12_two_14 : decode cX12_two 14 = .ok (.iaload, 1) := by decide +kernel
theorem dX12_two_15 : decode cX12_two 15 = .ok (.iadd, 1) := by decide +kernel
theorem dX12_two_16 : decode cX12_two 16 = .ok (.ireturn, 1) := by decide +kernel
theorem dX12_isSaying_0 : decode cX12_isSaying 0 = .ok (.aload_n 0, 1) := by decide +kernel
theorem dX12_isSaying_1 : decode cX12_isSaying 1 = .ok (.getfield 34, 3) := by decide +kernel
theorem dX12_isSaying_4 : decode cX12_isSaying 4 = .ok (.iload_n 1, 1) := by decide +kernel
theorem dX12_isSaying_5 : decode cX12_isSaying 5 = .ok (.iaload, 1) := by decide +kernel
theorem dX12_isSaying_6 : decode cX12_isSaying 6 = .ok (.bipush 8, 2) := by decide +kernel
theorem dX12_isSaying_8 : decode cX12_isSaying 8 = .ok (.if_icmp .ge 35, 3) := by decide +kernel
theorem dX12_isSaying_11 : decode cX12_isSaying 11 = .ok (.aload_n 0, 1) := by decide +kernel
theorem dX12_isSaying_12 : decode cX12_isSaying 12 = .ok (.getfield 34, 3) := by decide +kernel
theorem dX12_isSaying_15 : decode cX12_isSaying 15 = .ok (.iload_n 1, 1) := by decide +kernel
theorem dX12_isSaying_16 : decode cX12_isSaying 16 = .ok (.iconst 2, 1) := by decide +kernel
theorem dX12_isSaying_17 : decode cX12_isSaying 17 = .ok (.iadd, 1) := by decide +kernel
theorem dX12_isSaying_18 : decode cX12_isSaying 18 = .ok (.iaload, 1) := by decide +kernel
theorem dX12_isSaying_19 : decode cX12_isSaying 19 = .ok (.invokestatic 77, 3) := by decide +kernel
theorem dX12_isSaying_22 : decode cX12_isSaying 22 = .ok (.ifCond .eq 21, 3) := by decide +kernel
theorem dX12_isSaying_25 : decode cX12_isSaying 25 = .ok (.aload_n 0, 1) := by decide +kernel
theorem dX12_isSaying_26 : decode cX12_isSaying 26 = .ok (.getfield 34, 3) := by decide +kernel
theorem dX12_isSaying_29 : decode cX12_isSaying 29 = .ok (.iload_n 1, 1) := by decide +kernel
theorem dX12_isSaying_30 : decode cX12_isSaying 30 = .ok (.iconst 3, 1) := by decide +kernel
theorem dX12_isSaying_31 : decode cX12_isSaying 31 = .ok (.iadd, 1) := by decide +kernel
theorem dX12_isSaying_32 : decode cX12_isSaying 32 = .ok (.iaload, 1) := by decide +kernel
theorem dX12_isSaying_33 : decode cX12_isSaying 33 = .ok (.invokestatic 77, 3) := by decide +kernel
theorem dX12_isSaying_36 : decode cX12_isSaying 36 = .ok (.ifCond .eq 7, 3) := by decide +kernel
theorem dX12_isSaying_39 : decode cX12_isSaying 39 = .ok (.iconst 1, 1) := by decide +kernel
theorem dX12_isSaying_40 : decode cX12_isSaying 40 = .ok (.goto 4, 3) := by decide +kernel
theorem dX12_isSaying_43 : decode cX12_isSaying 43 = .ok (.iconst 0, 1) := by decide +kernel
theorem dX12_isSaying_44 : decode cX12_isSaying 44 = .ok (.ireturn, 1) := by decide +kernel
theorem dX12_readSaying_0 : decode cX12_readSaying 0 = .ok (.aload_n 0, 1) := by decide +kernel
theorem dX12_readSaying_1 : decode cX12_readSaying 1 = .ok (.getfield 34, 3) := by decide +kernel
theorem dX12_readSaying_4 : decode cX12_readSaying 4 = .ok (.iload_n 1, 1) := by decide +kernel
theorem dX12_readSaying_5 : decode cX12_readSaying 5 = .ok (.iaload, 1) := by decide +kernel
theorem dX12_readSaying_6 : decode cX12_readSaying 6 = .ok (.aload_n 0, 1) := by decide +kernel
theorem dX12_readSaying_7 : decode cX12_readSaying 7 = .ok (.getfield 34, 3) := by decide +kernel
theorem dX12_readSaying_10 : decode cX12_readSaying 10 = .ok (.iload_n 1, 1) := by decide +kernel
theorem dX12_readSaying_11 : decode cX12_readSaying 11 = .ok (.iconst 1, 1) := by decide +kernel
theorem dX12_readSaying_12 : decode cX12_readSaying 12 = .ok (.iadd, 1) := by decide +kernel
theorem dX12_readSaying_13 : decode cX12_readSaying 13 = .ok (.iaload, 1) := by decide +kernel
theorem dX12_readSaying_14 : decode cX12_readSaying 14 = .ok (.aload_n 0, 1) := by decide +kernel
theorem dX12_readSaying_15 : decode cX12_readSaying 15 = .ok (.getfield 34, 3) := by decide +kernel
theorem dX12_readSaying_18 : decode cX12_readSaying 18 = .ok (.iload_n 1, 1) := by decide +kernel
theorem dX12_readSaying_19 : decode cX12_readSaying 19 = .ok (.iconst 2, 1) := by decide +kernel
theorem dX12_readSaying_20 : decode cX12_readSaying 20 = .ok (.iadd, 1) := by decide +kernel
theorem dX12_readSaying_21 : decode cX12_readSaying 21 = .ok (.iaload, 1) := by decide +kernel
theorem dX12_readSaying_22 : decode cX12_readSaying 22 = .ok (.aload_n 0, 1) := by decide +kernel
theorem dX12_readSaying_23 : decode cX12_readSaying 23 = .ok (.getfield 34, 3) := by decide +kernel
theorem dX12_readSaying_26 : decode cX12_readSaying 26 = .ok (.iload_n 1, 1) := by decide +kernel
theorem dX12_readSaying_27 : decode cX12_readSaying 27 = .ok (.iconst 3, 1) := by decide +kernel
theorem dX12_readSaying_28 : decode cX12_readSaying 28 = .ok (.iadd, 1) := by decide +kernel
theorem dX12_readSaying_29 : decode cX12_readSaying 29 = .ok (.iaload, 1) := by decide +kernel
theorem dX12_readSaying_30 : decode cX12_readSaying 30 = .ok (.invokestatic 81, 3) := by decide +kernel
theorem dX12_readSaying_33 : decode cX12_readSaying 33 = .ok (.ireturn, 1) := by decide +kernel
theorem dX12_statement_0 : decode cX12_statement 0 = .ok (.aload_n 0, 1) := by decide +kernel
theorem dX12_statement_1 : decode cX12_statement 1 = .ok (.bipush 108, 2) := by decide +kernel
theorem dX12_statement_3 : decode cX12_statement 3 = .ok (.invokevirtual 85, 3) := by decide +kernel
theorem dX12_statement_6 : decode cX12_statement 6 = .ok (.ifCond .eq 61, 3) := by decide +kernel
theorem dX12_statement_9 : decode cX12_statement 9 = .ok (.aload_n 0, 1) := by decide +kernel
theorem dX12_statement_10 : decode cX12_statement 10 = .ok (.iconst 4, 1) := by decide +kernel
theorem dX12_statement_11 : decode cX12_statement 11 = .ok (.invokevirtual 88, 3) := by decide +kernel
theorem dX12_statement_14 : decode cX12_statement 14 = .ok (.ifCond .ne 5, 3) := by decide +kernel
theorem dX12_statement_17 : decode cX12_statement 17 = .ok (.iconst (-1), 1) := by decide +kernel
theorem dX12_statement_18 : decode cX12_statement 18 = .ok (.ireturn, 1) := by decide +kernel
theorem dX12_statement_19 : decode cX12_statement 19 = .ok (.iload_n 1, 1) := by decide +kernel
theorem dX12_statement_20 : decode cX12_statement 20 = .ok (.ifCond .ne 5, 3) := by decide +kernel
theorem dX12_statement_23 : decode cX12_statement 23 = .ok (.iconst 1, 1) := by decide +kernel
theorem dX12_statement_24 : decode cX12_statement 24 = .ok (.ireturn, 1) := by decide +kernel
theorem dX12_statement_25 : decode cX12_statement 25 = .ok (.aload_n 0, 1) := by decide +kernel
theorem dX12_statement_26 : decode cX12_statement 26 = .ok (.iconst 0, 1) := by decide +kernel
theorem dX12_statement_27 : decode cX12_statement 27 = .ok (.invokevirtual 91, 3) := by decide +kernel
theorem dX12_statement_30 : decode cX12_statement 30 = .ok (.ifCond .eq 12, 3) := by decide +kernel
theorem dX12_statement_33 : decode cX12_statement 33 = .ok (.aload_n 0, 1) := by decide +kernel
theorem dX12_statement_34 : decode cX12_statement 34 = .ok (.getfield 94, 3) := by decide +kernel
theorem dX12_statement_37 : decode cX12_statement 37 = .ok (.bipush 6, 2) := by decide +kernel
theorem dX12_statement_39 : decode cX12_statement 39 = .ok (.if_icmp .ne 5, 3) := by decide +kernel
theorem dX12_statement_42 : decode cX12_statement 42 = .ok (.iconst 0, 1) := by decide +kernel
theorem dX12_statement_43 : decode cX12_statement 43 = .ok (.ireturn, 1) := by decide +kernel
theorem dX12_statement_44 : decode cX12_statement 44 = .ok (.aload_n 0, 1) := by decide +kernel
theorem dX12_statement_45 : decode cX12_statement 45 = .ok (.getfield 7, 3) := by decide +kernel
theorem dX12_statement_48 : decode cX12_statement 48 = .ok (.aload_n 0, 1) := by decide +kernel
theorem dX12_statement_49 : decode cX12_statement 49 = .ok (.dup, 1) := by decide +kernel
theorem dX12_statement_50 : decode cX12_statement 50 = .ok (.getfield 94, 3) := by decide +kernel
theorem dX12_statement_53 : decode cX12_statement 53 = .ok (.dup_x1, 1) := by decide +kernel
theorem dX12_statement_54 : decode cX12_statement 54 = .ok (.iconst 1, 1) := by decide +kernel
theorem dX12_statement_55 : decode cX12_statement 55 = .ok (.iadd, 1) := by decide +kernel
theorem dX12_statement_56 : decode cX12_statement 56 = .ok (.putfield 94, 3) := by decide +kernel
theorem dX12_statement_59 : decode cX12_statement 59 = .ok (.aload_n 0, 1) := by decide +kernel
theorem dX12_statement_60 : decode cX12_statement 60 = .ok (.iconst 0, 1) := by decide +kernel
theorem dX12_statement_61 : decode cX12_statement 61 = .ok (.invokevirtual 97, 3) := by decide +kernel
theorem dX12_statement_64 : decode cX12_statement 64 = .ok (.iastore, 1) := by decide +kernel
theorem dX12_statement_65 : decode cX12_statement 65 = .ok (.iconst 1, 1) := by decide +kernel
theorem dX12_statement_66 : decode cX12_statement 66 = .ok (.ireturn, 1) := by decide +kernel
theorem dX12_statement_67 : decode cX12_statement 67 = .ok (.aload_n 0, 1) := by decide +kernel
theorem dX12_statement_68 : decode cX12_statement 68 = .ok (.bipush 119, 2) := by decide +kernel
theorem dX12_statement_70 : decode cX12_statement 70 = .ok (.invokevirtual 85, 3) := by decide +kernel
theorem dX12_statement_73 : decode cX12_statement 73 = .ok (.ifCond .eq 60, 3) := by decide +kernel
theorem dX12_statement_76 : decode cX12_statement 76 = .ok (.aload_n 0, 1) := by decide +kernel
theorem dX12_statement_77 : decode cX12_statement 77 = .ok (.iconst 2, 1) := by decide +kernel
theorem dX12_statement_78 : decode cX12_statement 78 = .ok (.invokevirtual 88, 3) := by decide +kernel
theorem dX12_statement_81 : decode cX12_statement 81 = .ok (.ifCond .ne 5, 3) := by decide +kernel
theorem dX12_statement_84 : decode cX12_statement 84 = .ok (.iconst (-1), 1) := by decide +kernel
theorem dX12_statement_85 : decode cX12_statement 85 = .ok (.ireturn, 1) := by decide +kernel
theorem dX12_statement_86 : decode cX12_statement 86 = .ok (.iload_n 1, 1) := by decide +kernel
theorem dX12_statement_87 : decode cX12_statement 87 = .ok (.ifCond .ne 5, 3) := by decide +kernel
theorem dX12_statement_90 : decode cX12_statement 90 = .ok (.iconst 1, 1) := by decide +kernel
theorem dX12_statement_91 : decode cX12_statement 91 = .ok (.ireturn, 1) := by decide +kernel
theorem dX12_statement_92 : decode cX12_statement 92 = .ok (.aload_n 0, 1) := by decide +kernel
theorem dX12_statement_93 : decode cX12_statement 93 = .ok (.invokevirtual 100, 3) := by decide +kernel
theorem dX12_statement_96 : decode cX12_statement 96 = .ok (.bipush 63, 2) := by decide +kernel
theorem dX12_statement_98 : decode cX12_statement 98 = .ok (.if_icmp .gt 11, 3) := by decide +kernel
theorem dX12_statement_101 : decode cX12_statement 101 = .ok (.aload_n 0, 1) := by decide +kernel
theorem dX12_statement_102 : decode cX12_statement 102 = .ok (.getfield 47, 3) := by decide +kernel
theorem dX12_statement_105 : decode cX12_statement 105 = .ok (.iconst 5, 1) := by decide +kernel
theorem dX12_statement_106 : decode cX12_statement 106 = .ok (.if_icmp .ne 5, 3) := by decide +kernel
theorem dX12_statement_109 : decode cX12_statement 109 = .ok (.iconst 0, 1) := by decide +kernel
theorem dX12_statement_110 : decode cX12_statement 110 = .ok (.ireturn, 1) := by decide +kernel
theorem dX12_statement_111 : decode cX12_statement 111 = .ok (.aload_n 0, 1) := by decide +kernel
theorem dX12_statement_112 : decode cX12_statement 112 = .ok (.getfield 13, 3) := by decide +kernel
theorem dX12_statement_115 : decode cX12_statement 115 = .ok (.aload_n 0, 1) := by decide +kernel
theorem dX12_statement_116 : decode cX12_statement 116 = .ok (.dup, 1) := by decide +kernel
theorem dX12_statement_117 : decode cX12_statement 117 = .ok (.getfield 47, 3) := by decide +kernel
theorem dX12_statement_120 : decode cX12_statement 120 = .ok (.dup_x1, 1) := by decide +kernel
theorem dX12_statement_121 : decode cX12_statement 121 = .ok (.iconst 1, 1) := by decide +kernel
theorem dX12_statement_122 : decode cX12_statement 122 = .ok (.iadd, 1) := by decide +kernel
theorem dX12_statement_123 : decode cX12_statement 123 = .ok (.putfield 47, 3) := by decide +kernel
theorem dX12_statement_126 : decode cX12_statement 126 = .ok (.aload_n 0, 1) := by decide +kernel
theorem dX12_statement_127 : decode cX12_statement 127 = .ok (.invokevirtual 100, 3) := by decide +kernel
theorem dX12_statement_130 : decode cX12_statement 130 = .ok (.iastore, 1) := by decide +kernel
theorem dX12_statement_131 : decode cX12_statement 131 = .ok (.iconst 1, 1) := by decide +kernel
theorem dX12_statement_132 : decode cX12_statement 132 = .ok (.ireturn, 1) := by decide +kernel
theorem dX12_statement_133 : decode cX12_statement 133 = .ok (.aload_n 0, 1) := by decide +kernel
theorem dX12_statement_134 : decode cX12_statement 134 = .ok (.bipush 116, 2) := by decide +kernel
theorem dX12_statement_136 : decode cX12_statement 136 = .ok (.invokevirtual 85, 3) := by decide +kernel
theorem dX12_statement_139 : decode cX12_statement 139 = .ok (.ifCond .eq 40, 3) := by decide +kernel
theorem dX12_statement_142 : decode cX12_statement 142 = .ok (.aload_n 0, 1) := by decide +kernel
theorem dX12_statement_143 : decode cX12_statement 143 = .ok (.iconst 2, 1) := by decide +kernel
theorem dX12_statement_144 : decode cX12_statement 144 = .ok (.invokevirtual 88, 3) := by decide +kernel
theorem dX12_statement_147 : decode cX12_statement 147 = .ok (.ifCond .ne 5, 3) := by decide +kernel
theorem dX12_statement_150 : decode cX12_statement 150 = .ok (.iconst (-1), 1) := by decide +kernel
theorem dX12_statement_151 : decode cX12_statement 151 = .ok (.ireturn, 1) := by decide +kernel
theorem dX12_statement_152 : decode cX12_statement 152 = .ok (.iload_n 1, 1) := by decide +kernel
theorem dX12_statement_153 : decode cX12_statement 153 = .ok (.ifCond .ne 5, 3) := by decide +kernel
theorem dX12_statement_156 : decode cX12_statement 156 = .ok (.iconst 1, 1) := by decide +kernel
theorem dX12_statement_157 : decode cX12_statement 157 = .ok (.ireturn, 1) := by decide +kernel
theorem dX12_statement_158 : decode cX12_statement 158 = .ok (.aload_n 0, 1) := by decide +kernel
theorem dX12_statement_159 : decode cX12_statement 159 = .ok (.invokevirtual 100, 3) := by decide +kernel
theorem dX12_statement_162 : decode cX12_statement 162 = .ok (.bipush 63, 2) := by decide +kernel
theorem dX12_statement_164 : decode cX12_statement 164 = .ok (.if_icmp .le 5, 3) := by decide +kernel
theorem dX12_statement_167 : decode cX12_statement 167 = .ok (.iconst 0, 1) := by decide +kernel
theorem dX12_statement_168 : decode cX12_statement 168 = .ok (.ireturn, 1) := by decide +kernel
theorem dX12_statement_169 : decode cX12_statement 169 = .ok (.aload_n 0, 1) := by decide +kernel
theorem dX12_statement_170 : decode cX12_statement 170 = .ok (.aload_n 0, 1) := by decide +kernel
theorem dX12_statement_171 : decode cX12_statement 171 = .ok (.invokevirtual 100, 3) := by decide +kernel
theorem dX12_statement_174 : decode cX12_statement 174 = .ok (.putfield 61, 3) := by decide +kernel
theorem dX12_statement_177 : decode cX12_statement 177 = .ok (.iconst 1, 1) := by decide +kernel
theorem dX12_statement_178 : decode cX12_statement 178 = .ok (.ireturn, 1) := by decide +kernel
theorem dX12_statement_179 : decode cX12_statement 179 = .ok (.aload_n 0, 1) := by decide +kernel
theorem dX12_statement_180 : decode cX12_statement 180 = .ok (.bipush 115, 2) := by decide +kernel
theorem dX12_statement_182 : decode cX12_statement 182 = .ok (.invokevirtual 85, 3) := by decide +kernel
theorem dX12_statement_185 : decode cX12_statement 185 = .ok (.ifCond .eq 11, 3) := by decide +kernel
theorem dX12_statement_188 : decode cX12_statement 188 = .ok (.aload_n 0, 1) := by decide +kernel
theorem dX12_statement_189 : decode cX12_statement 189 = .ok (.iconst 5, 1) := by decide +kernel
theorem dX12_statement_190 : decode cX12_statement 190 = .ok (.invokevirtual 88, 3) := by decide +kernel
theorem dX12_statement_193 : decode cX12_statement 193 = .ok (.ifCond .ne 5, 3) := by decide +kernel
theorem dX12_statement_196 : decode cX12_statement 196 = .ok (.iconst (-1), 1) := by decide +kernel
theorem dX12_statement_197 : decode cX12_statement 197 = .ok (.ireturn, 1) := by decide +kernel
theorem dX12_statement_198 : decode cX12_statement 198 = .ok (.iload_n 1, 1) := by decide +kernel
theorem dX12_statement_199 : decode cX12_statement 199 = .ok (.ifCond .ne 5, 3) := by decide +kernel
theorem dX12_statement_202 : decode cX12_statement 202 = .ok (.iconst 1, 1) := by decide +kernel
theorem dX12_statement_203 : decode cX12_statement 203 = .ok (.ireturn, 1) := by decide +kernel
theorem dX12_statement_204 : decode cX12_statement 204 = .ok (.aload_n 0, 1) := by decide +kernel
theorem dX12_statement_205 : decode cX12_statement 205 = .ok (.aload_n 0, 1) := by decide +kernel
theorem dX12_statement_206 : decode cX12_statement 206 = .ok (.getfield 34, 3) := by decide +kernel
theorem dX12_statement_209 : decode cX12_statement 209 = .ok (.iconst 0, 1) := by decide +kernel
theorem dX12_statement_210 : decode cX12_statement 210 = .ok (.iaload, 1) := by decide +kernel
theorem dX12_statement_211 : decode cX12_statement 211 = .ok (.invokevirtual 104, 3) := by decide +kernel
theorem dX12_statement_214 : decode cX12_statement 214 = .ok (.ifCond .eq 20, 3) := by decide +kernel
theorem dX12_statement_217 : decode cX12_statement 217 = .ok (.aload_n 0, 1) := by decide +kernel
theorem dX12_statement_218 : decode cX12_statement 218 = .ok (.iconst 1, 1) := by decide +kernel
theorem dX12_statement_219 : decode cX12_statement 219 = .ok (.invokevirtual 91, 3) := by decide +kernel
theorem dX12_statement_222 : decode cX12_statement 222 = .ok (.ifCond .eq 12, 3) := by decide +kernel
theorem dX12_statement_225 : decode cX12_statement 225 = .ok (.aload_n 0, 1) := by decide +kernel
theorem dX12_statement_226 : decode cX12_statement 226 = .ok (.getfield 51, 3) := by decide +kernel
theorem dX12_statement_229 : decode cX12_statement 229 = .ok (.bipush 10, 2) := by decide +kernel
theorem dX12_statement_231 : decode cX12_statement 231 = .ok (.if_icmp .ne 5, 3) := by decide +kernel
theorem dX12_statement_234 : decode cX12_statement 234 = .ok (.iconst 0, 1) := by decide +kernel
theorem dX12_statement_235 : decode cX12_statement 235 = .ok (.ireturn, 1) := by decide +kernel
theorem dX12_statement_236 : decode cX12_statement 236 = .ok (.aload_n 0, 1) := by decide +kernel
theorem dX12_statement_237 : decode cX12_statement 237 = .ok (.getfield 19, 3) := by decide +kernel
theorem dX12_statement_240 : decode cX12_statement 240 = .ok (.aload_n 0, 1) := by decide +kernel
theorem dX12_statement_241 : decode cX12_statement 241 = .ok (.getfield 51, 3) := by decide +kernel
theorem dX12_statement_244 : decode cX12_statement 244 = .ok (.aload_n 0, 1) := by decide +kernel
theorem dX12_statement_245 : decode cX12_statement 245 = .ok (.getfield 34, 3) := by decide +kernel
theorem dX12_statement_248 : decode cX12_statement 248 = .ok (.iconst 0, 1) := by decide +kernel
theorem dX12_statement_249 : decode cX12_statement 249 = .ok (.iaload, 1) := by decide +kernel
theorem dX12_statement_250 : decode cX12_statement 250 = .ok (.iastore, 1) := by decide +kernel
theorem dX12_statement_251 : decode cX12_statement 251 = .ok (.aload_n 0, 1) := by decide +kernel
theorem dX12_statement_252 : decode cX12_statement 252 = .ok (.getfield 16, 3) := by decide +kernel
theorem dX12_statement_255 : decode cX12_statement 255 = .ok (.aload_n 0, 1) := by decide +kernel
theorem dX12_statement_256 : decode cX12_statement 256 = .ok (.dup, 1) := by decide +kernel
theorem dX12_statement_257 : decode cX12_statement 257 = .ok (.getfield 51, 3) := by decide +kernel
theorem dX12_statement_260 : decode cX12_statement 260 = .ok (.dup_x1, 1) := by decide +kernel
theorem dX12_statement_261 : decode cX12_statement 261 = .ok (.iconst 1, 1) := by decide +kernel
theorem dX12_statement_262 : decode cX12_statement 262 = .ok (.iadd, 1) := by decide +kernel
theorem dX12_statement_263 : decode cX12_statement 263 = .ok (.putfield 51, 3) := by decide +kernel
theorem dX12_statement_266 : decode cX12_statement 266 = .ok (.aload_n 0, 1) := by decide +kernel
theorem dX12_statement_267 : decode cX12_statement 267 = .ok (.iconst 1, 1) := by decide +kernel
theorem dX12_statement_268 : decode cX12_statement 268 = .ok (.invokevirtual 97, 3) := by decide +kernel
theorem dX12_statement_271 : decode cX12_statement 271 = .ok (.iastore, 1) := by decide +kernel
theorem dX12_statement_272 : decode cX12_statement 272 = .ok (.iconst 1, 1) := by decide +kernel
theorem dX12_statement_273 : decode cX12_statement 273 = .ok (.ireturn, 1) := by decide +kernel
theorem dX12_trial_0 : decode cX12_trial 0 = .ok (.iload_n 1, 1) := by decide +kernel
theorem dX12_trial_1 : decode cX12_trial 1 = .ok (.invokestatic 107, 3) := by decide +kernel
theorem dX12_trial_4 : decode cX12_trial 4 = .ok (.ifCond .ne 5, 3) := by decide +kernel
theorem dX12_trial_7 : decode cX12_trial 7 = .ok (.iconst (-1), 1) := by decide +kernel
theorem dX12_trial_8 : decode cX12_trial 8 = .ok (.ireturn, 1) := by decide +kernel
theorem dX12_trial_9 : decode cX12_trial 9 = .ok (.aload_n 0, 1) := by decide +kernel
theorem dX12_trial_10 : decode cX12_trial 10 = .ok (.getfield 22, 3) := by decide +kernel
theorem dX12_trial_13 : decode cX12_trial 13 = .ok (.iload_n 1, 1) := by decide +kernel
theorem dX12_trial_14 : decode cX12_trial 14 = .ok (.iaload, 1) := by decide +kernel
theorem dX12_trial_15 : decode cX12_trial 15 = .ok (.ifCond .ne 6, 3) := by decide +kernel
theorem dX12_trial_18 : decode cX12_trial 18 = .ok (.bipush (-11), 2) := by decide +kernel
theorem dX12_trial_20 : decode cX12_trial 20 = .ok (.ireturn, 1) := by decide +kernel
theorem dX12_trial_21 : decode cX12_trial 21 = .ok (.aload_n 0, 1) := by decide +kernel
theorem dX12_trial_22 : decode cX12_trial 22 = .ok (.getfield 22, 3) := by decide +kernel
theorem dX12_trial_25 : decode cX12_trial 25 = .ok (.iload_n 1, 1) := by decide +kernel
theorem dX12_trial_26 : decode cX12_trial 26 = .ok (.iaload, 1) := by decide +kernel
theorem dX12_trial_27 : decode cX12_trial 27 = .ok (.iconst 2, 1) := by decide +kernel
theorem dX12_trial_28 : decode cX12_trial 28 = .ok (.if_icmp .ne 12, 3) := by decide +kernel
theorem dX12_trial_31 : decode cX12_trial 31 = .ok (.aload_n 0, 1) := by decide +kernel
theorem dX12_trial_32 : decode cX12_trial 32 = .ok (.getfield 25, 3) := by decide +kernel
theorem dX12_trial_35 : decode cX12_trial 35 = .ok (.iload_n 1, 1) := by decide +kernel
theorem dX12_trial_36 : decode cX12_trial 36 = .ok (.iaload, 1) := by decide +kernel
theorem dX12_trial_37 : decode cX12_trial 37 = .ok (.ifCond .eq 6, 3) := by decide +kernel
theorem dX12_trial_40 : decode cX12_trial 40 = .ok (.bipush (-12), 2) := by decide +kernel
theorem dX12_trial_42 : decode cX12_trial 42 = .ok (.ireturn, 1) := by decide +kernel
theorem dX12_trial_43 : decode cX12_trial 43 = .ok (.aload_n 0, 1) := by decide +kernel
theorem dX12_trial_44 : decode cX12_trial 44 = .ok (.iload_n 1, 1) := by decide +kernel
theorem dX12_trial_45 : decode cX12_trial 45 = .ok (.putfield 74, 3) := by decide +kernel
theorem dX12_trial_48 : decode cX12_trial 48 = .ok (.aload_n 0, 1) := by decide +kernel
theorem dX12_trial_49 : decode cX12_trial 49 = .ok (.iconst 0, 1) := by decide +kernel
theorem dX12_trial_50 : decode cX12_trial 50 = .ok (.putfield 71, 3) := by decide +kernel
theorem dX12_trial_53 : decode cX12_trial 53 = .ok (.iconst 1, 1) := by decide +kernel
theorem dX12_trial_54 : decode cX12_trial 54 = .ok (.istore_n 2, 1) := by decide +kernel
theorem dX12_trial_55 : decode cX12_trial 55 = .ok (.iload_n 2, 1) := by decide +kernel
theorem dX12_trial_56 : decode cX12_trial 56 = .ok (.ifCond .eq 47, 3) := by decide +kernel
theorem dX12_trial_59 : decode cX12_trial 59 = .ok (.aload_n 0, 1) := by decide +kernel
theorem dX12_trial_60 : decode cX12_trial 60 = .ok (.iconst 0, 1) := by decide +kernel
theorem dX12_trial_61 : decode cX12_trial 61 = .ok (.invokevirtual 110, 3) := by decide +kernel
theorem dX12_trial_64 : decode cX12_trial 64 = .ok (.iconst 1, 1) := by decide +kernel
theorem dX12_trial_65 : decode cX12_trial 65 = .ok (.if_icmp .ne 16, 3) := by decide +kernel
theorem dX12_trial_68 : decode cX12_trial 68 = .ok (.aload_n 0, 1) := by decide +kernel
theorem dX12_trial_69 : decode cX12_trial 69 = .ok (.bipush 59, 2) := by decide +kernel
theorem dX12_trial_71 : decode cX12_trial 71 = .ok (.invokevirtual 85, 3) := by decide +kernel
theorem dX12_trial_74 : decode cX12_trial 74 = .ok (.ifCond .eq 7, 3) := by decide +kernel
theorem dX12_trial_77 : decode cX12_trial 77 = .ok (.iconst 1, 1) := by decide +kernel
theorem dX12_trial_78 : decode cX12_trial 78 = .ok (.goto 4, 3) := by decide +kernel
theorem dX12_trial_81 : decode cX12_trial 81 = .ok (.iconst 0, 1) := by decide +kernel
theorem dX12_trial_82 : decode cX12_trial 82 = .ok (.istore_n 2, 1) := by decide +kernel
theorem dX12_trial_83 : decode cX12_trial 83 = .ok (.iload_n 2, 1) := by decide +kernel
theorem dX12_trial_84 : decode cX12_trial 84 = .ok (.ifCond .eq (-29), 3) := by decide +kernel
theorem dX12_trial_87 : decode cX12_trial 87 = .ok (.aload_n 0, 1) := by decide +kernel
theorem dX12_trial_88 : decode cX12_trial 88 = .ok (.getfield 71, 3) := by decide +kernel
theorem dX12_trial_91 : decode cX12_trial 91 = .ok (.aload_n 0, 1) := by decide +kernel
theorem dX12_trial_92 : decode cX12_trial 92 = .ok (.getfield 28, 3) := by decide +kernel
theorem dX12_trial_95 : decode cX12_trial 95 = .ok (.iload_n 1, 1) := by decide +kernel
theorem dX12_trial_96 : decode cX12_trial 96 = .ok (.iaload, 1) := by decide +kernel
theorem dX12_trial_97 : decode cX12_trial 97 = .ok (.if_icmp .ne (-42), 3) := by decide +kernel
theorem dX12_trial_100 : decode cX12_trial 100 = .ok (.goto 3, 3) := by decide +kernel
theorem dX12_trial_103 : decode cX12_trial 103 = .ok (.iload_n 2, 1) := by decide +kernel
theorem dX12_trial_104 : decode cX12_trial 104 = .ok (.ifCond .ne 12, 3) := by decide +kernel
theorem dX12_trial_107 : decode cX12_trial 107 = .ok (.sipush (-1000), 3) := by decide +kernel
theorem dX12_trial_110 : decode cX12_trial 110 = .ok (.aload_n 0, 1) := by decide +kernel
theorem dX12_trial_111 : decode cX12_trial 111 = .ok (.getfield 71, 3) := by decide +kernel
theorem dX12_trial_114 : decode cX12_trial 114 = .ok (.isub, 1) := by decide +kernel
theorem dX12_trial_115 : decode cX12_trial 115 = .ok (.ireturn, 1) := by decide +kernel
theorem dX12_trial_116 : decode cX12_trial 116 = .ok (.aload_n 0, 1) := by decide +kernel
theorem dX12_trial_117 : decode cX12_trial 117 = .ok (.aload_n 0, 1) := by decide +kernel
theorem dX12_trial_118 : decode cX12_trial 118 = .ok (.getfield 40, 3) := by decide +kernel
theorem dX12_trial_121 : decode cX12_trial 121 = .ok (.invokevirtual 114, 3) := by decide +kernel
theorem dX12_trial_124 : decode cX12_trial 124 = .ok (.aload_n 0, 1) := by decide +kernel
theorem dX12_trial_125 : decode cX12_trial 125 = .ok (.iconst 0, 1) := by decide +kernel
theorem dX12_trial_126 : decode cX12_trial 126 = .ok (.putfield 71, 3) := by decide +kernel
theorem dX12_trial_129 : decode cX12_trial 129 = .ok (.iconst 0, 1) := by decide +kernel
theorem dX12_trial_130 : decode cX12_trial 130 = .ok (.istore_n 3, 1) := by decide +kernel
theorem dX12_trial_131 : decode cX12_trial 131 = .ok (.aload_n 0, 1) := by decide +kernel
theorem dX12_trial_132 : decode cX12_trial 132 = .ok (.getfield 71, 3) := by decide +kernel
theorem dX12_trial_135 : decode cX12_trial 135 = .ok (.aload_n 0, 1) := by decide +kernel
theorem dX12_trial_136 : decode cX12_trial 136 = .ok (.getfield 28, 3) := by decide +kernel
theorem dX12_trial_139 : decode cX12_trial 139 = .ok (.iload_n 1, 1) := by decide +kernel
theorem dX12_trial_140 : decode cX12_trial 140 = .ok (.iaload, 1) := by decide +kernel
theorem dX12_trial_141 : decode cX12_trial 141 = .ok (.if_icmp .ge 45, 3) := by decide +kernel
theorem dX12_trial_144 : decode cX12_trial 144 = .ok (.aload_n 0, 1) := by decide +kernel
theorem dX12_trial_145 : decode cX12_trial 145 = .ok (.getfield 71, 3) := by decide +kernel
theorem dX12_trial_148 : decode cX12_trial 148 = .ok (.istore 4, 2) := by decide +kernel
theorem dX12_trial_150 : decode cX12_trial 150 = .ok (.aload_n 0, 1) := by decide +kernel
theorem dX12_trial_151 : decode cX12_trial 151 = .ok (.iconst 1, 1) := by decide +kernel
theorem dX12_trial_152 : decode cX12_trial 152 = .ok (.invokevirtual 110, 3) := by decide +kernel
theorem dX12_trial_155 : decode cX12_trial 155 = .ok (.ifCond .ne 18, 3) := by decide +kernel
theorem dX12_trial_158 : decode cX12_trial 158 = .ok (.aload_n 0, 1) := by decide +kernel
theorem dX12_trial_159 : decode cX12_trial 159 = .ok (.aload_n 0, 1) := by decide +kernel
theorem dX12_trial_160 : decode cX12_trial 160 = .ok (.getfield 40, 3) := by decide +kernel
theorem dX12_trial_163 : decode cX12_trial 163 = .ok (.invokevirtual 118, 3) := by decide +kernel
theorem dX12_trial_166 : decode cX12_trial 166 = .ok (.sipush (-2000), 3) := by decide +kernel
theorem dX12_trial_169 : decode cX12_trial 169 = .ok (.iload 4, 2) := by decide +kernel
theorem dX12_trial_171 : decode cX12_trial 171 = .ok (.isub, 1) := by decide +kernel
theorem dX12_trial_172 : decode cX12_trial 172 = .ok (.ireturn, 1) := by decide +kernel
theorem dX12_trial_173 : decode cX12_trial 173 = .ok (.aload_n 0, 1) := by decide +kernel
theorem dX12_trial_174 : decode cX12_trial 174 = .ok (.bipush 59, 2) := by decide +kernel
theorem dX12_trial_176 : decode cX12_trial 176 = .ok (.invokevirtual 85, 3) := by decide +kernel
theorem dX12_trial_179 : decode cX12_trial 179 = .ok (.pop, 1) := by decide +kernel
theorem dX12_trial_180 : decode cX12_trial 180 = .ok (.iinc 3 1, 3) := by decide +kernel
theorem dX12_trial_183 : decode cX12_trial 183 = .ok (.goto (-52), 3) := by decide +kernel
theorem dX12_trial_186 : decode cX12_trial 186 = .ok (.iload_n 3, 1) := by decide +kernel
theorem dX12_trial_187 : decode cX12_trial 187 = .ok (.ireturn, 1) := by decide +kernel
theorem dX12_law_0 : decode cX12_law 0 = .ok (.iload_n 1, 1) := by decide +kernel
theorem dX12_law_1 : decode cX12_law 1 = .ok (.iconst 0, 1) := by decide +kernel
theorem dX12_law_2 : decode cX12_law 2 = .ok (.aload_n 0, 1) := by decide +kernel
theorem dX12_law_3 : decode cX12_law 3 = .ok (.getfield 94, 3) := by decide +kernel
theorem dX12_law_6 : decode cX12_law 6 = .ok (.iconst 1, 1) := by decide +kernel
theorem dX12_law_7 : decode cX12_law 7 = .ok (.isub, 1) := by decide +kernel
theorem dX12_law_8 : decode cX12_law 8 = .ok (.invokestatic 43, 3) := by decide +kernel
theorem dX12_law_11 : decode cX12_law 11 = .ok (.ifCond .eq 25, 3) := by decide +kernel
theorem dX12_law_14 : decode cX12_law 14 = .ok (.iload_n 2, 1) := by decide +kernel
theorem dX12_law_15 : decode cX12_law 15 = .ok (.iconst 0, 1) := by decide +kernel
theorem dX12_law_16 : decode cX12_law 16 = .ok (.iconst 5, 1) := by decide +kernel
theorem dX12_law_17 : decode cX12_law 17 = .ok (.invokestatic 43, 3) := by decide +kernel
theorem dX12_law_20 : decode cX12_law 20 = .ok (.ifCond .eq 16, 3) := by decide +kernel
theorem dX12_law_23 : decode cX12_law 23 = .ok (.aload_n 0, 1) := by decide +kernel
theorem dX12_law_24 : decode cX12_law 24 = .ok (.getfield 7, 3) := by decide +kernel
theorem dX12_law_27 : decode cX12_law 27 = .ok (.iload_n 1, 1) := by decide +kernel
theorem dX12_law_28 : decode cX12_law 28 = .ok (.iaload, 1) := by decide +kernel
theorem dX12_law_29 : decode cX12_law 29 = .ok (.iload_n 2, 1) := by decide +kernel
theorem dX12_law_30 : decode cX12_law 30 = .ok (.invokestatic 121, 3) := by decide +kernel
theorem dX12_law_33 : decode cX12_law 33 = .ok (.goto 4, 3) := by decide +kernel
theorem dX12_law_36 : decode cX12_law 36 = .ok (.iconst (-1), 1) := by decide +kernel
theorem dX12_law_37 : decode cX12_law 37 = .ok (.ireturn, 1) := by decide +kernel
theorem dX12_said_0 : decode cX12_said 0 = .ok (.aload_n 0, 1) := by decide +kernel
theorem dX12_said_1 : decode cX12_said 1 = .ok (.iload_n 1, 1) := by decide +kernel
theorem dX12_said_2 : decode cX12_said 2 = .ok (.invokevirtual 125, 3) := by decide +kernel
theorem dX12_said_5 : decode cX12_said 5 = .ok (.ifCond .eq 13, 3) := by decide +kernel
theorem dX12_said_8 : decode cX12_said 8 = .ok (.iload_n 2, 1) := by decide +kernel
theorem dX12_said_9 : decode cX12_said 9 = .ok (.iconst 0, 1) := by decide +kernel
theorem dX12_said_10 : decode cX12_said 10 = .ok (.bipush 7, 2) := by decide +kernel
theorem dX12_said_12 : decode cX12_said 12 = .ok (.invokestatic 43, 3) := by decide +kernel
theorem dX12_said_15 : decode cX12_said 15 = .ok (.ifCond .ne 5, 3) := by decide +kernel
theorem dX12_said_18 : decode cX12_said 18 = .ok (.iconst (-1), 1) := by decide +kernel
theorem dX12_said_19 : decode cX12_said 19 = .ok (.ireturn, 1) := by decide +kernel
theorem dX12_said_20 : decode cX12_said 20 = .ok (.iload_n 2, 1) := by decide +kernel
theorem dX12_said_21 : decode cX12_said 21 = .ok (.bipush 6, 2) := by decide +kernel
theorem dX12_said_23 : decode cX12_said 23 = .ok (.if_icmp .ne 12, 3) := by decide +kernel
theorem dX12_said_26 : decode cX12_said 26 = .ok (.aload_n 0, 1) := by decide +kernel
theorem dX12_said_27 : decode cX12_said 27 = .ok (.getfield 19, 3) := by decide +kernel
theorem dX12_said_30 : decode cX12_said 30 = .ok (.iload_n 1, 1) := by decide +kernel
theorem dX12_said_31 : decode cX12_said 31 = .ok (.iaload, 1) := by decide +kernel
theorem dX12_said_32 : decode cX12_said 32 = .ok (.goto 35, 3) := by decide +kernel
theorem dX12_said_35 : decode cX12_said 35 = .ok (.iload_n 2, 1) := by decide +kernel
theorem dX12_said_36 : decode cX12_said 36 = .ok (.bipush 7, 2) := by decide +kernel
theorem dX12_said_38 : decode cX12_said 38 = .ok (.if_icmp .ne 19, 3) := by decide +kernel
theorem dX12_said_41 : decode cX12_said 41 = .ok (.aload_n 0, 1) := by decide +kernel
theorem dX12_said_42 : decode cX12_said 42 = .ok (.iload_n 1, 1) := by decide +kernel
theorem dX12_said_43 : decode cX12_said 43 = .ok (.invokevirtual 128, 3) := by decide +kernel
theorem dX12_said_46 : decode cX12_said 46 = .ok (.ifCond .eq 7, 3) := by decide +kernel
theorem dX12_said_49 : decode cX12_said 49 = .ok (.iconst 1, 1) := by decide +kernel
theorem dX12_said_50 : decode cX12_said 50 = .ok (.goto 17, 3) := by decide +kernel
theorem dX12_said_53 : decode cX12_said 53 = .ok (.iconst 0, 1) := by decide +kernel
theorem dX12_said_54 : decode cX12_said 54 = .ok (.goto 13, 3) := by decide +kernel
theorem dX12_said_57 : decode cX12_said 57 = .ok (.aload_n 0, 1) := by decide +kernel
theorem dX12_said_58 : decode cX12_said 58 = .ok (.getfield 16, 3) := by decide +kernel
theorem dX12_said_61 : decode cX12_said 61 = .ok (.iload_n 1, 1) := by decide +kernel
theorem dX12_said_62 : decode cX12_said 62 = .ok (.iaload, 1) := by decide +kernel
theorem dX12_said_63 : decode cX12_said 63 = .ok (.iload_n 2, 1) := by decide +kernel
theorem dX12_said_64 : decode cX12_said 64 = .ok (.invokestatic 121, 3) := by decide +kernel
theorem dX12_said_67 : decode cX12_said 67 = .ok (.ireturn, 1) := by decide +kernel
theorem dX12_knows_0 : decode cX12_knows 0 = .ok (.aload_n 0, 1) := by decide +kernel
theorem dX12_knows_1 : decode cX12_knows 1 = .ok (.iload_n 1, 1) := by decide +kernel
theorem dX12_knows_2 : decode cX12_knows 2 = .ok (.invokevirtual 104, 3) := by decide +kernel
theorem dX12_knows_5 : decode cX12_knows 5 = .ok (.ifCond .eq 12, 3) := by decide +kernel
theorem dX12_knows_8 : decode cX12_knows 8 = .ok (.aload_n 0, 1) := by decide +kernel
theorem dX12_knows_9 : decode cX12_knows 9 = .ok (.getfield 13, 3) := by decide +kernel
theorem dX12_knows_12 : decode cX12_knows 12 = .ok (.iload_n 1, 1) := by decide +kernel
theorem dX12_knows_13 : decode cX12_knows 13 = .ok (.iaload, 1) := by decide +kernel
theorem dX12_knows_14 : decode cX12_knows 14 = .ok (.goto 4, 3) := by decide +kernel
theorem dX12_knows_17 : decode cX12_knows 17 = .ok (.iconst (-1), 1) := by decide +kernel
theorem dX12_knows_18 : decode cX12_knows 18 = .ok (.ireturn, 1) := by decide +kernel
theorem dX12_noSaying_0 : decode cX12_noSaying 0 = .ok (.aload_n 0, 1) := by decide +kernel
theorem dX12_noSaying_1 : decode cX12_noSaying 1 = .ok (.getfield 22, 3) := by decide +kernel
theorem dX12_noSaying_4 : decode cX12_noSaying 4 = .ok (.iload_n 1, 1) := by decide +kernel
theorem dX12_noSaying_5 : decode cX12_noSaying 5 = .ok (.iaload, 1) := by decide +kernel
theorem dX12_noSaying_6 : decode cX12_noSaying 6 = .ok (.ifCond .ne 8, 3) := by decide +kernel
theorem dX12_noSaying_9 : decode cX12_noSaying 9 = .ok (.bipush (-11), 2) := by decide +kernel
theorem dX12_noSaying_11 : decode cX12_noSaying 11 = .ok (.goto 19, 3) := by decide +kernel
theorem dX12_noSaying_14 : decode cX12_noSaying 14 = .ok (.aload_n 0, 1) := by decide +kernel
theorem dX12_noSaying_15 : decode cX12_noSaying 15 = .ok (.getfield 22, 3) := by decide +kernel
theorem dX12_noSaying_18 : decode cX12_noSaying 18 = .ok (.iload_n 1, 1) := by decide +kernel
theorem dX12_noSaying_19 : decode cX12_noSaying 19 = .ok (.iaload, 1) := by decide +kernel
theorem dX12_noSaying_20 : decode cX12_noSaying 20 = .ok (.iconst 2, 1) := by decide +kernel
theorem dX12_noSaying_21 : decode cX12_noSaying 21 = .ok (.if_icmp .ne 8, 3) := by decide +kernel
theorem dX12_noSaying_24 : decode cX12_noSaying 24 = .ok (.bipush (-12), 2) := by decide +kernel
theorem dX12_noSaying_26 : decode cX12_noSaying 26 = .ok (.goto 4, 3) := by decide +kernel
theorem dX12_noSaying_29 : decode cX12_noSaying 29 = .ok (.iconst 0, 1) := by decide +kernel
theorem dX12_noSaying_30 : decode cX12_noSaying 30 = .ok (.ireturn, 1) := by decide +kernel
theorem dX12_onShelf_0 : decode cX12_onShelf 0 = .ok (.aload_n 0, 1) := by decide +kernel
theorem dX12_onShelf_1 : decode cX12_onShelf 1 = .ok (.getfield 25, 3) := by decide +kernel
theorem dX12_onShelf_4 : decode cX12_onShelf 4 = .ok (.iload_n 1, 1) := by decide +kernel
theorem dX12_onShelf_5 : decode cX12_onShelf 5 = .ok (.iaload, 1) := by decide +kernel
theorem dX12_onShelf_6 : decode cX12_onShelf 6 = .ok (.aload_n 0, 1) := by decide +kernel
theorem dX12_onShelf_7 : decode cX12_onShelf 7 = .ok (.getfield 28, 3) := by decide +kernel
theorem dX12_onShelf_10 : decode cX12_onShelf 10 = .ok (.iload_n 1, 1) := by decide +kernel
theorem dX12_onShelf_11 : decode cX12_onShelf 11 = .ok (.iaload, 1) := by decide +kernel
theorem dX12_onShelf_12 : decode cX12_onShelf 12 = .ok (.iload_n 2, 1) := by decide +kernel
theorem dX12_onShelf_13 : decode cX12_onShelf 13 = .ok (.iload_n 3, 1) := by decide +kernel
theorem dX12_onShelf_14 : decode cX12_onShelf 14 = .ok (.invokestatic 81, 3) := by decide +kernel
theorem dX12_onShelf_17 : decode cX12_onShelf 17 = .ok (.ireturn, 1) := by decide +kernel
theorem dX12_isTrue_0 : decode cX12_isTrue 0 = .ok (.iload_n 1, 1) := by decide +kernel
theorem dX12_isTrue_1 : decode cX12_isTrue 1 = .ok (.invokestatic 107, 3) := by decide +kernel
theorem dX12_isTrue_4 : decode cX12_isTrue 4 = .ok (.ifCond .eq 28, 3) := by decide +kernel
theorem dX12_isTrue_7 : decode cX12_isTrue 7 = .ok (.iload_n 2, 1) := by decide +kernel
theorem dX12_isTrue_8 : decode cX12_isTrue 8 = .ok (.invokestatic 77, 3) := by decide +kernel
theorem dX12_isTrue_11 : decode cX12_isTrue 11 = .ok (.ifCond .eq 21, 3) := by decide +kernel
theorem dX12_isTrue_14 : decode cX12_isTrue 14 = .ok (.iload_n 3, 1) := by decide +kernel
theorem dX12_isTrue_15 : decode cX12_isTrue 15 = .ok (.invokestatic 77, 3) := by decide +kernel
theorem dX12_isTrue_18 : decode cX12_isTrue 18 = .ok (.ifCond .eq 14, 3) := by decide +kernel
theorem dX12_isTrue_21 : decode cX12_isTrue 21 = .ok (.iload 4, 2) := by decide +kernel
theorem dX12_isTrue_23 : decode cX12_isTrue 23 = .ok (.iconst 0, 1) := by decide +kernel
theorem dX12_isTrue_24 : decode cX12_isTrue 24 = .ok (.bipush 63, 2) := by decide +kernel
theorem dX12_isTrue_26 : decode cX12_isTrue 26 = .ok (.invokestatic 43, 3) := by decide +kernel
theorem dX12_isTrue_29 : decode cX12_isTrue 29 = .ok (.ifCond .ne 5, 3) := by decide +kernel
theorem dX12_isTrue_32 : decode cX12_isTrue 32 = .ok (.iconst (-1), 1) := by decide +kernel
theorem dX12_isTrue_33 : decode cX12_isTrue 33 = .ok (.ireturn, 1) := by decide +kernel
theorem dX12_isTrue_34 : decode cX12_isTrue 34 = .ok (.aload_n 0, 1) := by decide +kernel
theorem dX12_isTrue_35 : decode cX12_isTrue 35 = .ok (.iload_n 1, 1) := by decide +kernel
theorem dX12_isTrue_36 : decode cX12_isTrue 36 = .ok (.invokevirtual 131, 3) := by decide +kernel
theorem dX12_isTrue_39 : decode cX12_isTrue 39 = .ok (.istore 5, 2) := by decide +kernel
theorem dX12_isTrue_41 : decode cX12_isTrue 41 = .ok (.iload 5, 2) := by decide +kernel
theorem dX12_isTrue_43 : decode cX12_isTrue 43 = .ok (.ifCond .ge 8, 3) := by decide +kernel
theorem dX12_isTrue_46 : decode cX12_isTrue 46 = .ok (.iload 5, 2) := by decide +kernel
theorem dX12_isTrue_48 : decode cX12_isTrue 48 = .ok (.goto 23, 3) := by decide +kernel
theorem dX12_isTrue_51 : decode cX12_isTrue 51 = .ok (.aload_n 0, 1) := by decide +kernel
theorem dX12_isTrue_52 : decode cX12_isTrue 52 = .ok (.iload_n 1, 1) := by decide +kernel
theorem dX12_isTrue_53 : decode cX12_isTrue 53 = .ok (.iload_n 2, 1) := by decide +kernel
theorem dX12_isTrue_54 : decode cX12_isTrue 54 = .ok (.iload_n 3, 1) := by decide +kernel
theorem dX12_isTrue_55 : decode cX12_isTrue 55 = .ok (.invokevirtual 134, 3) := by decide +kernel
theorem dX12_isTrue_58 : decode cX12_isTrue 58 = .ok (.iload 4, 2) := by decide +kernel
theorem dX12_isTrue_60 : decode cX12_isTrue 60 = .ok (.invokestatic 58, 3) := by decide +kernel
theorem dX12_isTrue_63 : decode cX12_isTrue 63 = .ok (.ifCond .eq 7, 3) := by decide +kernel
theorem dX12_isTrue_66 : decode cX12_isTrue 66 = .ok (.iconst 1, 1) := by decide +kernel
theorem dX12_isTrue_67 : decode cX12_isTrue 67 = .ok (.goto 4, 3) := by decide +kernel
theorem dX12_isTrue_70 : decode cX12_isTrue 70 = .ok (.iconst 0, 1) := by decide +kernel
theorem dX12_isTrue_71 : decode cX12_isTrue 71 = .ok (.ireturn, 1) := by decide +kernel
theorem dX12_rules_0 : decode cX12_rules 0 = .ok (.iload_n 1, 1) := by decide +kernel
theorem dX12_rules_1 : decode cX12_rules 1 = .ok (.invokestatic 107, 3) := by decide +kernel
theorem dX12_rules_4 : decode cX12_rules 4 = .ok (.ifCond .eq 17, 3) := by decide +kernel
theorem dX12_rules_7 : decode cX12_rules 7 = .ok (.iload_n 2, 1) := by decide +kernel
theorem dX12_rules_8 : decode cX12_rules 8 = .ok (.invokestatic 77, 3) := by decide +kernel
theorem dX12_rules_11 : decode cX12_rules 11 = .ok (.ifCond .eq 10, 3) := by decide +kernel
theorem dX12_rules_14 : decode cX12_rules 14 = .ok (.iload_n 3, 1) := by decide +kernel
theorem dX12_rules_15 : decode cX12_rules 15 = .ok (.invokestatic 77, 3) := by decide +kernel
theorem dX12_rules_18 : decode cX12_rules 18 = .ok (.ifCond .ne 5, 3) := by decide +kernel
theorem dX12_rules_21 : decode cX12_rules 21 = .ok (.iconst (-1), 1) := by decide +kernel
theorem dX12_rules_22 : decode cX12_rules 22 = .ok (.ireturn, 1) := by decide +kernel
theorem dX12_rules_23 : decode cX12_rules 23 = .ok (.aload_n 0, 1) := by decide +kernel
theorem dX12_rules_24 : decode cX12_rules 24 = .ok (.iload_n 1, 1) := by decide +kernel
theorem dX12_rules_25 : decode cX12_rules 25 = .ok (.invokevirtual 131, 3) := by decide +kernel
theorem dX12_rules_28 : decode cX12_rules 28 = .ok (.istore 4, 2) := by decide +kernel
theorem dX12_rules_30 : decode cX12_rules 30 = .ok (.iload 4, 2) := by decide +kernel
theorem dX12_rules_32 : decode cX12_rules 32 = .ok (.ifCond .ge 6, 3) := by decide +kernel
theorem dX12_rules_35 : decode cX12_rules 35 = .ok (.iload 4, 2) := by decide +kernel
theorem dX12_rules_37 : decode cX12_rules 37 = .ok (.ireturn, 1) := by decide +kernel
theorem dX12_rules_38 : decode cX12_rules 38 = .ok (.aload_n 0, 1) := by decide +kernel
theorem dX12_rules_39 : decode cX12_rules 39 = .ok (.getfield 94, 3) := by decide +kernel
theorem dX12_rules_42 : decode cX12_rules 42 = .ok (.bipush 6, 2) := by decide +kernel
theorem dX12_rules_44 : decode cX12_rules 44 = .ok (.if_icmp .ne 6, 3) := by decide +kernel
theorem dX12_rules_47 : decode cX12_rules 47 = .ok (.bipush (-2), 2) := by decide +kernel
theorem dX12_rules_49 : decode cX12_rules 49 = .ok (.ireturn, 1) := by decide +kernel
theorem dX12_rules_50 : decode cX12_rules 50 = .ok (.aload_n 0, 1) := by decide +kernel
theorem dX12_rules_51 : decode cX12_rules 51 = .ok (.getfield 7, 3) := by decide +kernel
theorem dX12_rules_54 : decode cX12_rules 54 = .ok (.aload_n 0, 1) := by decide +kernel
theorem dX12_rules_55 : decode cX12_rules 55 = .ok (.getfield 94, 3) := by decide +kernel
theorem dX12_rules_58 : decode cX12_rules 58 = .ok (.aload_n 0, 1) := by decide +kernel
theorem dX12_rules_59 : decode cX12_rules 59 = .ok (.iload_n 1, 1) := by decide +kernel
theorem dX12_rules_60 : decode cX12_rules 60 = .ok (.iload_n 2, 1) := by decide +kernel
theorem dX12_rules_61 : decode cX12_rules 61 = .ok (.iload_n 3, 1) := by decide +kernel
theorem dX12_rules_62 : decode cX12_rules 62 = .ok (.invokevirtual 134, 3) := by decide +kernel
theorem dX12_rules_65 : decode cX12_rules 65 = .ok (.iastore, 1) := by decide +kernel
theorem dX12_rules_66 : decode cX12_rules 66 = .ok (.aload_n 0, 1) := by decide +kernel
theorem dX12_rules_67 : decode cX12_rules 67 = .ok (.dup, 1) := by decide +kernel
theorem dX12_rules_68 : decode cX12_rules 68 = .ok (.getfield 94, 3) := by decide +kernel
theorem dX12_rules_71 : decode cX12_rules 71 = .ok (.dup_x1, 1) := by decide +kernel
theorem dX12_rules_72 : decode cX12_rules 72 = .ok (.iconst 1, 1) := by decide +kernel
theorem dX12_rules_73 : decode cX12_rules 73 = .ok (.iadd, 1) := by decide +kernel
theorem dX12_rules_74 : decode cX12_rules 74 = .ok (.putfield 94, 3) := by decide +kernel
theorem dX12_rules_77 : decode cX12_rules 77 = .ok (.ireturn, 1) := by decide +kernel
theorem dX12_says_0 : decode cX12_says 0 = .ok (.aload_n 0, 1) := by decide +kernel
theorem dX12_says_1 : decode cX12_says 1 = .ok (.iload_n 1, 1) := by decide +kernel
theorem dX12_says_2 : decode cX12_says 2 = .ok (.invokevirtual 104, 3) := by decide +kernel
theorem dX12_says_5 : decode cX12_says 5 = .ok (.ifCond .eq 25, 3) := by decide +kernel
theorem dX12_says_8 : decode cX12_says 8 = .ok (.iload_n 2, 1) := by decide +kernel
theorem dX12_says_9 : decode cX12_says 9 = .ok (.invokestatic 107, 3) := by decide +kernel
theorem dX12_says_12 : decode cX12_says 12 = .ok (.ifCond .eq 18, 3) := by decide +kernel
theorem dX12_says_15 : decode cX12_says 15 = .ok (.iload_n 3, 1) := by decide +kernel
theorem dX12_says_16 : decode cX12_says 16 = .ok (.invokestatic 77, 3) := by decide +kernel
theorem dX12_says_19 : decode cX12_says 19 = .ok (.ifCond .eq 11, 3) := by decide +kernel
theorem dX12_says_22 : decode cX12_says 22 = .ok (.iload 4, 2) := by decide +kernel
theorem dX12_says_24 : decode cX12_says 24 = .ok (.invokestatic 77, 3) := by decide +kernel
theorem dX12_says_27 : decode cX12_says 27 = .ok (.ifCond .ne 5, 3) := by decide +kernel
theorem dX12_says_30 : decode cX12_says 30 = .ok (.iconst (-1), 1) := by decide +kernel
theorem dX12_says_31 : decode cX12_says 31 = .ok (.ireturn, 1) := by decide +kernel
theorem dX12_says_32 : decode cX12_says 32 = .ok (.aload_n 0, 1) := by decide +kernel
theorem dX12_says_33 : decode cX12_says 33 = .ok (.iload_n 2, 1) := by decide +kernel
theorem dX12_says_34 : decode cX12_says 34 = .ok (.invokevirtual 131, 3) := by decide +kernel
theorem dX12_says_37 : decode cX12_says 37 = .ok (.istore 5, 2) := by decide +kernel
theorem dX12_says_39 : decode cX12_says 39 = .ok (.iload 5, 2) := by decide +kernel
theorem dX12_says_41 : decode cX12_says 41 = .ok (.ifCond .ge 6, 3) := by decide +kernel
theorem dX12_says_44 : decode cX12_says 44 = .ok (.iload 5, 2) := by decide +kernel
theorem dX12_says_46 : decode cX12_says 46 = .ok (.ireturn, 1) := by decide +kernel
theorem dX12_says_47 : decode cX12_says 47 = .ok (.aload_n 0, 1) := by decide +kernel
theorem dX12_says_48 : decode cX12_says 48 = .ok (.getfield 51, 3) := by decide +kernel
theorem dX12_says_51 : decode cX12_says 51 = .ok (.bipush 10, 2) := by decide +kernel
theorem dX12_says_53 : decode cX12_says 53 = .ok (.if_icmp .ne 6, 3) := by decide +kernel
theorem dX12_says_56 : decode cX12_says 56 = .ok (.bipush (-2), 2) := by decide +kernel
theorem dX12_says_58 : decode cX12_says 58 = .ok (.ireturn, 1) := by decide +kernel
theorem dX12_says_59 : decode cX12_says 59 = .ok (.aload_n 0, 1) := by decide +kernel
theorem dX12_says_60 : decode cX12_says 60 = .ok (.getfield 19, 3) := by decide +kernel
theorem dX12_says_63 : decode cX12_says 63 = .ok (.aload_n 0, 1) := by decide +kernel
theorem dX12_says_64 : decode cX12_says 64 = .ok (.getfield 51, 3) := by decide +kernel
theorem dX12_says_67 : decode cX12_says 67 = .ok (.iload_n 1, 1) := by decide +kernel
theorem dX12_says_68 : decode cX12_says 68 = .ok (.iastore, 1) := by decide +kernel
theorem dX12_says_69 : decode cX12_says 69 = .ok (.aload_n 0, 1) := by decide +kernel
theorem dX12_says_70 : decode cX12_says 70 = .ok (.getfield 16, 3) := by decide +kernel
theorem dX12_says_73 : decode cX12_says 73 = .ok (.aload_n 0, 1) := by decide +kernel
theorem dX12_says_74 : decode cX12_says 74 = .ok (.getfield 51, 3) := by decide +kernel
theorem dX12_says_77 : decode cX12_says 77 = .ok (.aload_n 0, 1) := by decide +kernel
theorem dX12_says_78 : decode cX12_says 78 = .ok (.iload_n 2, 1) := by decide +kernel
theorem dX12_says_79 : decode cX12_says 79 = .ok (.iload_n 3, 1) := by decide +kernel
theorem dX12_says_80 : decode cX12_says 80 = .ok (.iload 4, 2) := by decide +kernel
theorem dX12_says_82 : decode cX12_says 82 = .ok (.invokevirtual 134, 3) := by decide +kernel
theorem dX12_says_85 : decode cX12_says 85 = .ok (.iastore, 1) := by decide +kernel
theorem dX12_says_86 : decode cX12_says 86 = .ok (.aload_n 0, 1) := by decide +kernel
theorem dX12_says_87 : decode cX12_says 87 = .ok (.dup, 1) := by decide +kernel
theorem dX12_says_88 : decode cX12_says 88 = .ok (.getfield 51, 3) := by decide +kernel
theorem dX12_says_91 : decode cX12_says 91 = .ok (.dup_x1, 1) := by decide +kernel
theorem dX12_says_92 : decode cX12_says 92 = .ok (.iconst 1, 1) := by decide +kernel
theorem dX12_says_93 : decode cX12_says 93 = .ok (.iadd, 1) := by decide +kernel
theorem dX12_says_94 : decode cX12_says 94 = .ok (.putfield 51, 3) := by decide +kernel
theorem dX12_says_97 : decode cX12_says 97 = .ok (.ireturn, 1) := by decide +kernel
theorem dX12_unsays_0 : decode cX12_unsays 0 = .ok (.aload_n 0, 1) := by decide +kernel
theorem dX12_unsays_1 : decode cX12_unsays 1 = .ok (.getfield 51, 3) := by decide +kernel
theorem dX12_unsays_4 : decode cX12_unsays 4 = .ok (.ifCond .ne 8, 3) := by decide +kernel
theorem dX12_unsays_7 : decode cX12_unsays 7 = .ok (.bipush (-3), 2) := by decide +kernel
theorem dX12_unsays_9 : decode cX12_unsays 9 = .ok (.goto 14, 3) := by decide +kernel
theorem dX12_unsays_12 : decode cX12_unsays 12 = .ok (.aload_n 0, 1) := by decide +kernel
theorem dX12_unsays_13 : decode cX12_unsays 13 = .ok (.dup, 1) := by decide +kernel
theorem dX12_unsays_14 : decode cX12_unsays 14 = .ok (.getfield 51, 3) := by decide +kernel
theorem dX12_unsays_17 : decode cX12_unsays 17 = .ok (.iconst 1, 1) := by decide +kernel
theorem dX12_unsays_18 : decode cX12_unsays 18 = .ok (.isub, 1) := by decide +kernel
theorem dX12_unsays_19 : decode cX12_unsays 19 = .ok (.dup_x1, 1) := by decide +kernel
theorem dX12_unsays_20 : decode cX12_unsays 20 = .ok (.putfield 51, 3) := by decide +kernel
theorem dX12_unsays_23 : decode cX12_unsays 23 = .ok (.ireturn, 1) := by decide +kernel
theorem dX12_witness_0 : decode cX12_witness 0 = .ok (.iload_n 1, 1) := by decide +kernel
theorem dX12_witness_1 : decode cX12_witness 1 = .ok (.iconst 0, 1) := by decide +kernel
theorem dX12_witness_2 : decode cX12_witness 2 = .ok (.bipush 63, 2) := by decide +kernel
theorem dX12_witness_4 : decode cX12_witness 4 = .ok (.invokestatic 43, 3) := by decide +kernel
theorem dX12_witness_7 : decode cX12_witness 7 = .ok (.ifCond .ne 5, 3) := by decide +kernel
theorem dX12_witness_10 : decode cX12_witness 10 = .ok (.iconst (-1), 1) := by decide +kernel
theorem dX12_witness_11 : decode cX12_witness 11 = .ok (.ireturn, 1) := by decide +kernel
theorem dX12_witness_12 : decode cX12_witness 12 = .ok (.aload_n 0, 1) := by decide +kernel
theorem dX12_witness_13 : decode cX12_witness 13 = .ok (.getfield 47, 3) := by decide +kernel
theorem dX12_witness_16 : decode cX12_witness 16 = .ok (.iconst 5, 1) := by decide +kernel
theorem dX12_witness_17 : decode cX12_witness 17 = .ok (.if_icmp .ne 6, 3) := by decide +kernel
theorem dX12_witness_20 : decode cX12_witness 20 = .ok (.bipush (-2), 2) := by decide +kernel
theorem dX12_witness_22 : decode cX12_witness 22 = .ok (.ireturn, 1) := by decide +kernel
theorem dX12_witness_23 : decode cX12_witness 23 = .ok (.aload_n 0, 1) := by decide +kernel
theorem dX12_witness_24 : decode cX12_witness 24 = .ok (.getfield 13, 3) := by decide +kernel
theorem dX12_witness_27 : decode cX12_witness 27 = .ok (.aload_n 0, 1) := by decide +kernel
theorem dX12_witness_28 : decode cX12_witness 28 = .ok (.getfield 47, 3) := by decide +kernel
theorem dX12_witness_31 : decode cX12_witness 31 = .ok (.iload_n 1, 1) := by decide +kernel
theorem dX12_witness_32 : decode cX12_witness 32 = .ok (.iastore, 1) := by decide +kernel
theorem dX12_witness_33 : decode cX12_witness 33 = .ok (.aload_n 0, 1) := by decide +kernel
theorem dX12_witness_34 : decode cX12_witness 34 = .ok (.dup, 1) := by decide +kernel
theorem dX12_witness_35 : decode cX12_witness 35 = .ok (.getfield 47, 3) := by decide +kernel
theorem dX12_witness_38 : decode cX12_witness 38 = .ok (.dup_x1, 1) := by decide +kernel
theorem dX12_witness_39 : decode cX12_witness 39 = .ok (.iconst 1, 1) := by decide +kernel
theorem dX12_witness_40 : decode cX12_witness 40 = .ok (.iadd, 1) := by decide +kernel
theorem dX12_witness_41 : decode cX12_witness 41 = .ok (.putfield 47, 3) := by decide +kernel
theorem dX12_witness_44 : decode cX12_witness 44 = .ok (.ireturn, 1) := by decide +kernel
theorem dX12_truth_0 : decode cX12_truth 0 = .ok (.iload_n 1, 1) := by decide +kernel
theorem dX12_truth_1 : decode cX12_truth 1 = .ok (.iconst 0, 1) := by decide +kernel
theorem dX12_truth_2 : decode cX12_truth 2 = .ok (.bipush 63, 2) := by decide +kernel
theorem dX12_truth_4 : decode cX12_truth 4 = .ok (.invokestatic 43, 3) := by decide +kernel
theorem dX12_truth_7 : decode cX12_truth 7 = .ok (.ifCond .ne 5, 3) := by decide +kernel
theorem dX12_truth_10 : decode cX12_truth 10 = .ok (.iconst (-1), 1) := by decide +kernel
theorem dX12_truth_11 : decode cX12_truth 11 = .ok (.ireturn, 1) := by decide +kernel
theorem dX12_truth_12 : decode cX12_truth 12 = .ok (.aload_n 0, 1) := by decide +kernel
theorem dX12_truth_13 : decode cX12_truth 13 = .ok (.getfield 61, 3) := by decide +kernel
theorem dX12_truth_16 : decode cX12_truth 16 = .ok (.istore_n 2, 1) := by decide +kernel
theorem dX12_truth_17 : decode cX12_truth 17 = .ok (.aload_n 0, 1) := by decide +kernel
theorem dX12_truth_18 : decode cX12_truth 18 = .ok (.iload_n 1, 1) := by decide +kernel
theorem dX12_truth_19 : decode cX12_truth 19 = .ok (.putfield 61, 3) := by decide +kernel
theorem dX12_truth_22 : decode cX12_truth 22 = .ok (.iload_n 2, 1) := by decide +kernel
theorem dX12_truth_23 : decode cX12_truth 23 = .ok (.ireturn, 1) := by decide +kernel
theorem dX12_mayBe_0 : decode cX12_mayBe 0 = .ok (.ldc2_w 138, 3) := by decide +kernel
theorem dX12_mayBe_3 : decode cX12_mayBe 3 = .ok (.lstore_n 1, 1) := by decide +kernel
theorem dX12_mayBe_4 : decode cX12_mayBe 4 = .ok (.iconst 0, 1) := by decide +kernel
theorem dX12_mayBe_5 : decode cX12_mayBe 5 = .ok (.istore_n 3, 1) := by decide +kernel
theorem dX12_mayBe_6 : decode cX12_mayBe 6 = .ok (.iload_n 3, 1) := by decide +kernel
theorem dX12_mayBe_7 : decode cX12_mayBe 7 = .ok (.aload_n 0, 1) := by decide +kernel
theorem dX12_mayBe_8 : decode cX12_mayBe 8 = .ok (.getfield 94, 3) := by decide +kernel
theorem dX12_mayBe_11 : decode cX12_mayBe 11 = .ok (.if_icmp .ge 21, 3) := by decide +kernel
theorem dX12_mayBe_14 : decode cX12_mayBe 14 = .ok (.lload_n 1, 1) := by decide +kernel
theorem dX12_mayBe_15 : decode cX12_mayBe 15 = .ok (.aload_n 0, 1) := by decide +kernel
theorem dX12_mayBe_16 : decode cX12_mayBe 16 = .ok (.getfield 7, 3) := by decide +kernel
theorem dX12_mayBe_19 : decode cX12_mayBe 19 = .ok (.iload_n 3, 1) := by decide +kernel
theorem dX12_mayBe_20 : decode cX12_mayBe 20 = .ok (.iaload, 1) := by decide +kernel
theorem dX12_mayBe_21 : decode cX12_mayBe 21 = .ok (.invokestatic 140, 3) := by decide +kernel
theorem dX12_mayBe_24 : decode cX12_mayBe 24 = .ok (.land, 1) := by decide +kernel
theorem dX12_mayBe_25 : decode cX12_mayBe 25 = .ok (.lstore_n 1, 1) := by decide +kernel
theorem dX12_mayBe_26 : decode cX12_mayBe 26 = .ok (.iinc 3 1, 3) := by decide +kernel
theorem dX12_mayBe_29 : decode cX12_mayBe 29 = .ok (.goto (-23), 3) := by decide +kernel
theorem dX12_mayBe_32 : decode cX12_mayBe 32 = .ok (.lload_n 1, 1) := by decide +kernel
theorem dX12_mayBe_33 : decode cX12_mayBe 33 = .ok (.lreturn, 1) := by decide +kernel
theorem dX12_leftBy_0 : decode cX12_leftBy 0 = .ok (.aload_n 0, 1) := by decide +kernel
theorem dX12_leftBy_1 : decode cX12_leftBy 1 = .ok (.invokevirtual 144, 3) := by decide +kernel
theorem dX12_leftBy_4 : decode cX12_leftBy 4 = .ok (.lstore_n 2, 1) := by decide +kernel
theorem dX12_leftBy_5 : decode cX12_leftBy 5 = .ok (.iconst 0, 1) := by decide +kernel
theorem dX12_leftBy_6 : decode cX12_leftBy 6 = .ok (.istore 4, 2) := by decide +kernel
theorem dX12_leftBy_8 : decode cX12_leftBy 8 = .ok (.iload 4, 2) := by decide +kernel
theorem dX12_leftBy_10 : decode cX12_leftBy 10 = .ok (.aload_n 0, 1) := by decide +kernel
theorem dX12_leftBy_11 : decode cX12_leftBy 11 = .ok (.getfield 51, 3) := by decide +kernel
theorem dX12_leftBy_14 : decode cX12_leftBy 14 = .ok (.if_icmp .ge 35, 3) := by decide +kernel
theorem dX12_leftBy_17 : decode cX12_leftBy 17 = .ok (.iload_n 1, 1) := by decide +kernel
theorem dX12_leftBy_18 : decode cX12_leftBy 18 = .ok (.iload 4, 2) := by decide +kernel
theorem dX12_leftBy_20 : decode cX12_leftBy 20 = .ok (.invokestatic 54, 3) := by decide +kernel
theorem dX12_leftBy_23 : decode cX12_leftBy 23 = .ok (.ifCond .eq 20, 3) := by decide +kernel
theorem dX12_leftBy_26 : decode cX12_leftBy 26 = .ok (.lload_n 2, 1) := by decide +kernel
theorem dX12_leftBy_27 : decode cX12_leftBy 27 = .ok (.aload_n 0, 1) := by decide +kernel
theorem dX12_leftBy_28 : decode cX12_leftBy 28 = .ok (.getfield 16, 3) := by decide +kernel
theorem dX12_leftBy_31 : decode cX12_leftBy 31 = .ok (.iload 4, 2) := by decide +kernel
theorem dX12_leftBy_33 : decode cX12_leftBy 33 = .ok (.iaload, 1) := by decide +kernel
theorem dX12_leftBy_34 : decode cX12_leftBy 34 = .ok (.invokestatic 140, 3) := by decide +kernel
theorem dX12_leftBy_37 : decode cX12_leftBy 37 = .ok (.ldc2_w 138, 3) := by decide +kernel
theorem dX12_leftBy_40 : decode cX12_leftBy 40 = .ok (.lxor, 1) := by decide +kernel
theorem dX12_leftBy_41 : decode cX12_leftBy 41 = .ok (.land, 1) := by decide +kernel
theorem dX12_leftBy_42 : decode cX12_leftBy 42 = .ok (.lstore_n 2, 1) := by decide +kernel
theorem dX12_leftBy_43 : decode cX12_leftBy 43 = .ok (.iinc 4 1, 3) := by decide +kernel
theorem dX12_leftBy_46 : decode cX12_leftBy 46 = .ok (.goto (-38), 3) := by decide +kernel
theorem dX12_leftBy_49 : decode cX12_leftBy 49 = .ok (.lload_n 2, 1) := by decide +kernel
theorem dX12_leftBy_50 : decode cX12_leftBy 50 = .ok (.lreturn, 1) := by decide +kernel
theorem dX12_left_0 : decode cX12_left 0 = .ok (.aload_n 0, 1) := by decide +kernel
theorem dX12_left_1 : decode cX12_left 1 = .ok (.iconst 1, 1) := by decide +kernel
theorem dX12_left_2 : decode cX12_left 2 = .ok (.aload_n 0, 1) := by decide +kernel
theorem dX12_left_3 : decode cX12_left 3 = .ok (.getfield 51, 3) := by decide +kernel
theorem dX12_left_6 : decode cX12_left 6 = .ok (.ishl, 1) := by decide +kernel
theorem dX12_left_7 : decode cX12_left 7 = .ok (.iconst 1, 1) := by decide +kernel
theorem dX12_left_8 : decode cX12_left 8 = .ok (.isub, 1) := by decide +kernel
theorem dX12_left_9 : decode cX12_left 9 = .ok (.invokevirtual 148, 3) := by decide +kernel
theorem dX12_left_12 : decode cX12_left 12 = .ok (.lreturn, 1) := by decide +kernel
theorem dX12_worlds_0 : decode cX12_worlds 0 = .ok (.iload_n 1, 1) := by decide +kernel
theorem dX12_worlds_1 : decode cX12_worlds 1 = .ok (.iconst 0, 1) := by decide +kernel
theorem dX12_worlds_2 : decode cX12_worlds 2 = .ok (.iconst 1, 1) := by decide +kernel
theorem dX12_worlds_3 : decode cX12_worlds 3 = .ok (.invokestatic 43, 3) := by decide +kernel
theorem dX12_worlds_6 : decode cX12_worlds 6 = .ok (.ifCond .ne 7, 3) := by decide +kernel
theorem dX12_worlds_9 : decode cX12_worlds 9 = .ok (.ldc2_w 151, 3) := by decide +kernel
theorem dX12_worlds_12 : decode cX12_worlds 12 = .ok (.lreturn, 1) := by decide +kernel
theorem dX12_worlds_13 : decode cX12_worlds 13 = .ok (.iload_n 1, 1) := by decide +kernel
theorem dX12_worlds_14 : decode cX12_worlds 14 = .ok (.ifCond .ne 10, 3) := by decide +kernel
theorem dX12_worlds_17 : decode cX12_worlds 17 = .ok (.aload_n 0, 1) := by decide +kernel
theorem dX12_worlds_18 : decode cX12_worlds 18 = .ok (.invokevirtual 144, 3) := by decide +kernel
theorem dX12_worlds_21 : decode cX12_worlds 21 = .ok (.goto 7, 3) := by decide +kernel
theorem dX12_worlds_24 : decode cX12_worlds 24 = .ok (.aload_n 0, 1) := by decide +kernel
theorem dX12_worlds_25 : decode cX12_worlds 25 = .ok (.invokevirtual 153, 3) := by decide +kernel
theorem dX12_worlds_28 : decode cX12_worlds 28 = .ok (.lreturn, 1) := by decide +kernel
theorem dX12_many_0 : decode cX12_many 0 = .ok (.iload_n 1, 1) := by decide +kernel
theorem dX12_many_1 : decode cX12_many 1 = .ok (.iconst 0, 1) := by decide +kernel
theorem dX12_many_2 : decode cX12_many 2 = .ok (.iconst 1, 1) := by decide +kernel
theorem dX12_many_3 : decode cX12_many 3 = .ok (.invokestatic 43, 3) := by decide +kernel
theorem dX12_many_6 : decode cX12_many 6 = .ok (.ifCond .ne 5, 3) := by decide +kernel
theorem dX12_many_9 : decode cX12_many 9 = .ok (.iconst (-1), 1) := by decide +kernel
theorem dX12_many_10 : decode cX12_many 10 = .ok (.ireturn, 1) := by decide +kernel
theorem dX12_many_11 : decode cX12_many 11 = .ok (.iload_n 1, 1) := by decide +kernel
theorem dX12_many_12 : decode cX12_many 12 = .ok (.ifCond .ne 10, 3) := by decide +kernel
theorem dX12_many_15 : decode cX12_many 15 = .ok (.aload_n 0, 1) := by decide +kernel
theorem dX12_many_16 : decode cX12_many 16 = .ok (.invokevirtual 144, 3) := by decide +kernel
theorem dX12_many_19 : decode cX12_many 19 = .ok (.goto 7, 3) := by decide +kernel
theorem dX12_many_22 : decode cX12_many 22 = .ok (.aload_n 0, 1) := by decide +kernel
theorem dX12_many_23 : decode cX12_many 23 = .ok (.invokevirtual 153, 3) := by decide +kernel
theorem dX12_many_26 : decode cX12_many 26 = .ok (.invokestatic 156, 3) := by decide +kernel
theorem dX12_many_29 : decode cX12_many 29 = .ok (.ireturn, 1) := by decide +kernel
theorem dX12_facts_0 : decode cX12_facts 0 = .ok (.bipush 63, 2) := by decide +kernel
theorem dX12_facts_2 : decode cX12_facts 2 = .ok (.istore_n 3, 1) := by decide +kernel
theorem dX12_facts_3 : decode cX12_facts 3 = .ok (.iconst 0, 1) := by decide +kernel
theorem dX12_facts_4 : decode cX12_facts 4 = .ok (.istore 4, 2) := by decide +kernel
theorem dX12_facts_6 : decode cX12_facts 6 = .ok (.iload 4, 2) := by decide +kernel
theorem dX12_facts_8 : decode cX12_facts 8 = .ok (.bipush 64, 2) := by decide +kernel
theorem dX12_facts_10 : decode cX12_facts 10 = .ok (.if_icmp .ge 37, 3) := by decide +kernel
theorem dX12_facts_13 : decode cX12_facts 13 = .ok (.lload_n 0, 1) := by decide +kernel
theorem dX12_facts_14 : decode cX12_facts 14 = .ok (.iload 4, 2) := by decide +kernel
theorem dX12_facts_16 : decode cX12_facts 16 = .ok (.lshr, 1) := by decide +kernel
theorem dX12_facts_17 : decode cX12_facts 17 = .ok (.lconst 1, 1) := by decide +kernel
theorem dX12_facts_18 : decode cX12_facts 18 = .ok (.land, 1) := by decide +kernel
theorem dX12_facts_19 : decode cX12_facts 19 = .ok (.lconst 1, 1) := by decide +kernel
theorem dX12_facts_20 : decode cX12_facts 20 = .ok (.lcmp, 1) := by decide +kernel
theorem dX12_facts_21 : decode cX12_facts 21 = .ok (.ifCond .ne 20, 3) := by decide +kernel
theorem dX12_facts_24 : decode cX12_facts 24 = .ok (.iload_n 3, 1) := by decide +kernel
theorem dX12_facts_25 : decode cX12_facts 25 = .ok (.iload_n 2, 1) := by decide +kernel
theorem dX12_facts_26 : decode cX12_facts 26 = .ok (.iconst 1, 1) := by decide +kernel
theorem dX12_facts_27 : decode cX12_facts 27 = .ok (.if_icmp .ne 8, 3) := by decide +kernel
theorem dX12_facts_30 : decode cX12_facts 30 = .ok (.iload 4, 2) := by decide +kernel
theorem dX12_facts_32 : decode cX12_facts 32 = .ok (.goto 7, 3) := by decide +kernel
theorem dX12_facts_35 : decode cX12_facts 35 = .ok (.iload 4, 2) := by decide +kernel
theorem dX12_facts_37 : decode cX12_facts 37 = .ok (.iconst (-1), 1) := by decide +kernel
theorem dX12_facts_38 : decode cX12_facts 38 = .ok (.ixor, 1) := by decide +kernel
theorem dX12_facts_39 : decode cX12_facts 39 = .ok (.iand, 1) := by decide +kernel
theorem dX12_facts_40 : decode cX12_facts 40 = .ok (.istore_n 3, 1) := by decide +kernel
theorem dX12_facts_41 : decode cX12_facts 41 = .ok (.iinc 4 1, 3) := by decide +kernel
theorem dX12_facts_44 : decode cX12_facts 44 = .ok (.goto (-38), 3) := by decide +kernel
theorem dX12_facts_47 : decode cX12_facts 47 = .ok (.iload_n 3, 1) := by decide +kernel
theorem dX12_facts_48 : decode cX12_facts 48 = .ok (.bipush 63, 2) := by decide +kernel
theorem dX12_facts_50 : decode cX12_facts 50 = .ok (.iand, 1) := by decide +kernel
theorem dX12_facts_51 : decode cX12_facts 51 = .ok (.ireturn, 1) := by decide +kernel
theorem dX12_proved_0 : decode cX12_proved 0 = .ok (.iload_n 1, 1) := by decide +kernel
theorem dX12_proved_1 : decode cX12_proved 1 = .ok (.iconst 0, 1) := by decide +kernel
theorem dX12_proved_2 : decode cX12_proved 2 = .ok (.iconst 1, 1) := by decide +kernel
theorem dX12_proved_3 : decode cX12_proved 3 = .ok (.invokestatic 43, 3) := by decide +kernel
theorem dX12_proved_6 : decode cX12_proved 6 = .ok (.ifCond .eq 16, 3) := by decide +kernel
theorem dX12_proved_9 : decode cX12_proved 9 = .ok (.aload_n 0, 1) := by decide +kernel
theorem dX12_proved_10 : decode cX12_proved 10 = .ok (.invokevirtual 153, 3) := by decide +kernel
theorem dX12_proved_13 : decode cX12_proved 13 = .ok (.iconst 1, 1) := by decide +kernel
theorem dX12_proved_14 : decode cX12_proved 14 = .ok (.iload_n 1, 1) := by decide +kernel
theorem dX12_proved_15 : decode cX12_proved 15 = .ok (.isub, 1) := by decide +kernel
theorem dX12_proved_16 : decode cX12_proved 16 = .ok (.invokestatic 162, 3) := by decide +kernel
theorem dX12_proved_19 : decode cX12_proved 19 = .ok (.goto 4, 3) := by decide +kernel
theorem dX12_proved_22 : decode cX12_proved 22 = .ok (.iconst (-1), 1) := by decide +kernel
theorem dX12_proved_23 : decode cX12_proved 23 = .ok (.ireturn, 1) := by decide +kernel
theorem dX12_slips_0 : decode cX12_slips 0 = .ok (.iload_n 1, 1) := by decide +kernel
theorem dX12_slips_1 : decode cX12_slips 1 = .ok (.iconst 0, 1) := by decide +kernel
theorem dX12_slips_2 : decode cX12_slips 2 = .ok (.iconst 1, 1) := by decide +kernel
theorem dX12_slips_3 : decode cX12_slips 3 = .ok (.invokestatic 43, 3) := by decide +kernel
theorem dX12_slips_6 : decode cX12_slips 6 = .ok (.ifCond .ne 5, 3) := by decide +kernel
theorem dX12_slips_9 : decode cX12_slips 9 = .ok (.iconst (-1), 1) := by decide +kernel
theorem dX12_slips_10 : decode cX12_slips 10 = .ok (.ireturn, 1) := by decide +kernel
theorem dX12_slips_11 : decode cX12_slips 11 = .ok (.iconst 0, 1) := by decide +kernel
theorem dX12_slips_12 : decode cX12_slips 12 = .ok (.istore_n 2, 1) := by decide +kernel
theorem dX12_slips_13 : decode cX12_slips 13 = .ok (.iconst 0, 1) := by decide +kernel
theorem dX12_slips_14 : decode cX12_slips 14 = .ok (.istore_n 3, 1) := by decide +kernel
theorem dX12_slips_15 : decode cX12_slips 15 = .ok (.iload_n 3, 1) := by decide +kernel
theorem dX12_slips_16 : decode cX12_slips 16 = .ok (.aload_n 0, 1) := by decide +kernel
theorem dX12_slips_17 : decode cX12_slips 17 = .ok (.getfield 51, 3) := by decide +kernel
theorem dX12_slips_20 : decode cX12_slips 20 = .ok (.if_icmp .ge 23, 3) := by decide +kernel
theorem dX12_slips_23 : decode cX12_slips 23 = .ok (.aload_n 0, 1) := by decide +kernel
theorem dX12_slips_24 : decode cX12_slips 24 = .ok (.iload_n 3, 1) := by decide +kernel
theorem dX12_slips_25 : decode cX12_slips 25 = .ok (.invokevirtual 128, 3) := by decide +kernel
theorem dX12_slips_28 : decode cX12_slips 28 = .ok (.ifCond .eq 9, 3) := by decide +kernel
theorem dX12_slips_31 : decode cX12_slips 31 = .ok (.iload_n 2, 1) := by decide +kernel
theorem dX12_slips_32 : decode cX12_slips 32 = .ok (.iconst 1, 1) := by decide +kernel
theorem dX12_slips_33 : decode cX12_slips 33 = .ok (.iload_n 3, 1) := by decide +kernel
theorem dX12_slips_34 : decode cX12_slips 34 = .ok (.ishl, 1) := by decide +kernel
theorem dX12_slips_35 : decode cX12_slips 35 = .ok (.ior, 1) := by decide +kernel
theorem dX12_slips_36 : decode cX12_slips 36 = .ok (.istore_n 2, 1) := by decide +kernel
theorem dX12_slips_37 : decode cX12_slips 37 = .ok (.iinc 3 1, 3) := by decide +kernel
theorem dX12_slips_40 : decode cX12_slips 40 = .ok (.goto (-25), 3) := by decide +kernel
theorem dX12_slips_43 : decode cX12_slips 43 = .ok (.iload_n 1, 1) := by decide +kernel
theorem dX12_slips_44 : decode cX12_slips 44 = .ok (.ifCond .ne 7, 3) := by decide +kernel
theorem dX12_slips_47 : decode cX12_slips 47 = .ok (.iload_n 2, 1) := by decide +kernel
theorem dX12_slips_48 : decode cX12_slips 48 = .ok (.goto 16, 3) := by decide +kernel
theorem dX12_slips_51 : decode cX12_slips 51 = .ok (.iload_n 2, 1) := by decide +kernel
theorem dX12_slips_52 : decode cX12_slips 52 = .ok (.ifCond .ne 8, 3) := by decide +kernel
theorem dX12_slips_55 : decode cX12_slips 55 = .ok (.bipush (-4), 2) := by decide +kernel
theorem dX12_slips_57 : decode cX12_slips 57 = .ok (.goto 7, 3) := by decide +kernel
theorem dX12_slips_60 : decode cX12_slips 60 = .ok (.iload_n 2, 1) := by decide +kernel
theorem dX12_slips_61 : decode cX12_slips 61 = .ok (.invokestatic 166, 3) := by decide +kernel
theorem dX12_slips_64 : decode cX12_slips 64 = .ok (.ireturn, 1) := by decide +kernel
theorem dX12_alone_0 : decode cX12_alone 0 = .ok (.aload_n 0, 1) := by decide +kernel
theorem dX12_alone_1 : decode cX12_alone 1 = .ok (.iload_n 1, 1) := by decide +kernel
theorem dX12_alone_2 : decode cX12_alone 2 = .ok (.invokevirtual 125, 3) := by decide +kernel
theorem dX12_alone_5 : decode cX12_alone 5 = .ok (.ifCond .eq 16, 3) := by decide +kernel
theorem dX12_alone_8 : decode cX12_alone 8 = .ok (.aload_n 0, 1) := by decide +kernel
theorem dX12_alone_9 : decode cX12_alone 9 = .ok (.iconst 1, 1) := by decide +kernel
theorem dX12_alone_10 : decode cX12_alone 10 = .ok (.iload_n 1, 1) := by decide +kernel
theorem dX12_alone_11 : decode cX12_alone 11 = .ok (.ishl, 1) := by decide +kernel
theorem dX12_alone_12 : decode cX12_alone 12 = .ok (.invokevirtual 148, 3) := by decide +kernel
theorem dX12_alone_15 : decode cX12_alone 15 = .ok (.invokestatic 156, 3) := by decide +kernel
theorem dX12_alone_18 : decode cX12_alone 18 = .ok (.goto 4, 3) := by decide +kernel
theorem dX12_alone_21 : decode cX12_alone 21 = .ok (.iconst (-1), 1) := by decide +kernel
theorem dX12_alone_22 : decode cX12_alone 22 = .ok (.ireturn, 1) := by decide +kernel
theorem dX12_clash_0 : decode cX12_clash 0 = .ok (.iconst 0, 1) := by decide +kernel
theorem dX12_clash_1 : decode cX12_clash 1 = .ok (.istore_n 1, 1) := by decide +kernel
theorem dX12_clash_2 : decode cX12_clash 2 = .ok (.iload_n 1, 1) := by decide +kernel
theorem dX12_clash_3 : decode cX12_clash 3 = .ok (.aload_n 0, 1) := by decide +kernel
theorem dX12_clash_4 : decode cX12_clash 4 = .ok (.getfield 51, 3) := by decide +kernel
theorem dX12_clash_7 : decode cX12_clash 7 = .ok (.if_icmp .ge 74, 3) := by decide +kernel
theorem dX12_clash_10 : decode cX12_clash 10 = .ok (.iload_n 1, 1) := by decide +kernel
theorem dX12_clash_11 : decode cX12_clash 11 = .ok (.iconst 1, 1) := by decide +kernel
theorem dX12_clash_12 : decode cX12_clash 12 = .ok (.iadd, 1) := by decide +kernel
theorem dX12_clash_13 : decode cX12_clash 13 = .ok (.istore_n 2, 1) := by decide +kernel
theorem dX12_clash_14 : decode cX12_clash 14 = .ok (.iload_n 2, 1) := by decide +kernel
theorem dX12_clash_15 : decode cX12_clash 15 = .ok (.aload_n 0, 1) := by decide +kernel
theorem dX12_clash_16 : decode cX12_clash 16 = .ok (.getfield 51, 3) := by decide +kernel
theorem dX12_clash_19 : decode cX12_clash 19 = .ok (.if_icmp .ge 56, 3) := by decide +kernel
theorem dX12_clash_22 : decode cX12_clash 22 = .ok (.aload_n 0, 1) := by decide +kernel
theorem dX12_clash_23 : decode cX12_clash 23 = .ok (.iconst 1, 1) := by decide +kernel
theorem dX12_clash_24 : decode cX12_clash 24 = .ok (.iload_n 1, 1) := by decide +kernel
theorem dX12_clash_25 : decode cX12_clash 25 = .ok (.ishl, 1) := by decide +kernel
theorem dX12_clash_26 : decode cX12_clash 26 = .ok (.iconst 1, 1) := by decide +kernel
theorem dX12_clash_27 : decode cX12_clash 27 = .ok (.iload_n 2, 1) := by decide +kernel
theorem dX12_clash_28 : decode cX12_clash 28 = .ok (.ishl, 1) := by decide +kernel
theorem dX12_clash_29 : decode cX12_clash 29 = .ok (.ior, 1) := by decide +kernel
theorem dX12_clash_30 : decode cX12_clash 30 = .ok (.invokevirtual 148, 3) := by decide +kernel
theorem dX12_clash_33 : decode cX12_clash 33 = .ok (.lconst 0, 1) := by decide +kernel
theorem dX12_clash_34 : decode cX12_clash 34 = .ok (.lcmp, 1) := by decide +kernel
theorem dX12_clash_35 : decode cX12_clash 35 = .ok (.ifCond .ne 34, 3) := by decide +kernel
theorem dX12_clash_38 : decode cX12_clash 38 = .ok (.aload_n 0, 1) := by decide +kernel
theorem dX12_clash_39 : decode cX12_clash 39 = .ok (.iconst 1, 1) := by decide +kernel
theorem dX12_clash_40 : decode cX12_clash 40 = .ok (.iload_n 1, 1) := by decide +kernel
theorem dX12_clash_41 : decode cX12_clash 41 = .ok (.ishl, 1) := by decide +kernel
theorem dX12_clash_42 : decode cX12_clash 42 = .ok (.invokevirtual 148, 3) := by decide +kernel
theorem dX12_clash_45 : decode cX12_clash 45 = .ok (.lconst 0, 1) := by decide +kernel
theorem dX12_clash_46 : decode cX12_clash 46 = .ok (.lcmp, 1) := by decide +kernel
theorem dX12_clash_47 : decode cX12_clash 47 = .ok (.ifCond .eq 22, 3) := by decide +kernel
theorem dX12_clash_50 : decode cX12_clash 50 = .ok (.aload_n 0, 1) := by decide +kernel
theorem dX12_clash_51 : decode cX12_clash 51 = .ok (.iconst 1, 1) := by decide +kernel
theorem dX12_clash_52 : decode cX12_clash 52 = .ok (.iload_n 2, 1) := by decide +kernel
theorem dX12_clash_53 : decode cX12_clash 53 = .ok (.ishl, 1) := by decide +kernel
theorem dX12_clash_54 : decode cX12_clash 54 = .ok (.invokevirtual 148, 3) := by decide +kernel
theorem dX12_clash_57 : decode cX12_clash 57 = .ok (.lconst 0, 1) := by decide +kernel
theorem dX12_clash_58 : decode cX12_clash 58 = .ok (.lcmp, 1) := by decide +kernel
theorem dX12_clash_59 : decode cX12_clash 59 = .ok (.ifCond .eq 10, 3) := by decide +kernel
theorem dX12_clash_62 : decode cX12_clash 62 = .ok (.bipush 10, 2) := by decide +kernel
theorem dX12_clash_64 : decode cX12_clash 64 = .ok (.iload_n 1, 1) := by decide +kernel
theorem dX12_clash_65 : decode cX12_clash 65 = .ok (.imul, 1) := by decide +kernel
theorem dX12_clash_66 : decode cX12_clash 66 = .ok (.iload_n 2, 1) := by decide +kernel
theorem dX12_clash_67 : decode cX12_clash 67 = .ok (.iadd, 1) := by decide +kernel
theorem dX12_clash_68 : decode cX12_clash 68 = .ok (.ireturn, 1) := by decide +kernel
theorem dX12_clash_69 : decode cX12_clash 69 = .ok (.iinc 2 1, 3) := by decide +kernel
theorem dX12_clash_72 : decode cX12_clash 72 = .ok (.goto (-58), 3) := by decide +kernel
theorem dX12_clash_75 : decode cX12_clash 75 = .ok (.iinc 1 1, 3) := by decide +kernel
theorem dX12_clash_78 : decode cX12_clash 78 = .ok (.goto (-76), 3) := by decide +kernel
theorem dX12_clash_81 : decode cX12_clash 81 = .ok (.bipush (-4), 2) := by decide +kernel
theorem dX12_clash_83 : decode cX12_clash 83 = .ok (.ireturn, 1) := by decide +kernel
theorem dX12_isBetter_0 : decode cX12_isBetter 0 = .ok (.iload_n 1, 1) := by decide +kernel
theorem dX12_isBetter_1 : decode cX12_isBetter 1 = .ok (.bipush (-4), 2) := by decide +kernel
theorem dX12_isBetter_3 : decode cX12_isBetter 3 = .ok (.if_icmp .eq 14, 3) := by decide +kernel
theorem dX12_isBetter_6 : decode cX12_isBetter 6 = .ok (.iload_n 0, 1) := by decide +kernel
theorem dX12_isBetter_7 : decode cX12_isBetter 7 = .ok (.invokestatic 171, 3) := by decide +kernel
theorem dX12_isBetter_10 : decode cX12_isBetter 10 = .ok (.iload_n 1, 1) := by decide +kernel
theorem dX12_isBetter_11 : decode cX12_isBetter 11 = .ok (.invokestatic 171, 3) := by decide +kernel
theorem dX12_isBetter_14 : decode cX12_isBetter 14 = .ok (.if_icmp .ge 7, 3) := by decide +kernel
theorem dX12_isBetter_17 : decode cX12_isBetter 17 = .ok (.iconst 1, 1) := by decide +kernel
theorem dX12_isBetter_18 : decode cX12_isBetter 18 = .ok (.goto 4, 3) := by decide +kernel
theorem dX12_isBetter_21 : decode cX12_isBetter 21 = .ok (.iconst 0, 1) := by decide +kernel
theorem dX12_isBetter_22 : decode cX12_isBetter 22 = .ok (.ireturn, 1) := by decide +kernel
theorem dX12_proof_0 : decode cX12_proof 0 = .ok (.iload_n 1, 1) := by decide +kernel
theorem dX12_proof_1 : decode cX12_proof 1 = .ok (.invokestatic 77, 3) := by decide +kernel
theorem dX12_proof_4 : decode cX12_proof 4 = .ok (.ifCond .ne 5, 3) := by decide +kernel
theorem dX12_proof_7 : decode cX12_proof 7 = .ok (.iconst (-1), 1) := by decide +kernel
theorem dX12_proof_8 : decode cX12_proof 8 = .ok (.ireturn, 1) := by decide +kernel
theorem dX12_proof_9 : decode cX12_proof 9 = .ok (.bipush (-4), 2) := by decide +kernel
theorem dX12_proof_11 : decode cX12_proof 11 = .ok (.istore_n 2, 1) := by decide +kernel
theorem dX12_proof_12 : decode cX12_proof 12 = .ok (.iconst 0, 1) := by decide +kernel
theorem dX12_proof_13 : decode cX12_proof 13 = .ok (.istore_n 3, 1) := by decide +kernel
theorem dX12_proof_14 : decode cX12_proof 14 = .ok (.iload_n 3, 1) := by decide +kernel
theorem dX12_proof_15 : decode cX12_proof 15 = .ok (.iconst 1, 1) := by decide +kernel
theorem dX12_proof_16 : decode cX12_proof 16 = .ok (.aload_n 0, 1) := by decide +kernel
theorem dX12_proof_17 : decode cX12_proof 17 = .ok (.getfield 51, 3) := by decide +kernel
theorem dX12_proof_20 : decode cX12_proof 20 = .ok (.ishl, 1) := by decide +kernel
theorem dX12_proof_21 : decode cX12_proof 21 = .ok (.if_icmp .ge 49, 3) := by decide +kernel
theorem dX12_proof_24 : decode cX12_proof 24 = .ok (.iload_n 3, 1) := by decide +kernel
theorem dX12_proof_25 : decode cX12_proof 25 = .ok (.iload_n 2, 1) := by decide +kernel
theorem dX12_proof_26 : decode cX12_proof 26 = .ok (.invokestatic 173, 3) := by decide +kernel
theorem dX12_proof_29 : decode cX12_proof 29 = .ok (.ifCond .ne 6, 3) := by decide +kernel
theorem dX12_proof_32 : decode cX12_proof 32 = .ok (.goto 32, 3) := by decide +kernel
theorem dX12_proof_35 : decode cX12_proof 35 = .ok (.aload_n 0, 1) := by decide +kernel
theorem dX12_proof_36 : decode cX12_proof 36 = .ok (.iload_n 3, 1) := by decide +kernel
theorem dX12_proof_37 : decode cX12_proof 37 = .ok (.invokevirtual 148, 3) := by decide +kernel
theorem dX12_proof_40 : decode cX12_proof 40 = .ok (.lstore 4, 2) := by decide +kernel
theorem dX12_proof_42 : decode cX12_proof 42 = .ok (.lload 4, 2) := by decide +kernel
theorem dX12_proof_44 : decode cX12_proof 44 = .ok (.lconst 0, 1) := by decide +kernel
theorem dX12_proof_45 : decode cX12_proof 45 = .ok (.lcmp, 1) := by decide +kernel
theorem dX12_proof_46 : decode cX12_proof 46 = .ok (.ifCond .eq 18, 3) := by decide +kernel
theorem dX12_proof_49 : decode cX12_proof 49 = .ok (.lload 4, 2) := by decide +kernel
theorem dX12_proof_51 : decode cX12_proof 51 = .ok (.iconst 1, 1) := by decide +kernel
theorem dX12_proof_52 : decode cX12_proof 52 = .ok (.invokestatic 162, 3) := by decide +kernel
theorem dX12_proof_55 : decode cX12_proof 55 = .ok (.iload_n 1, 1) := by decide +kernel
theorem dX12_proof_56 : decode cX12_proof 56 = .ok (.invokestatic 54, 3) := by decide +kernel
theorem dX12_proof_59 : decode cX12_proof 59 = .ok (.ifCond .eq 5, 3) := by decide +kernel
theorem dX12_proof_62 : decode cX12_proof 62 = .ok (.iload_n 3, 1) := by decide +kernel
theorem dX12_proof_63 : decode cX12_proof 63 = .ok (.istore_n 2, 1) := by decide +kernel
theorem dX12_proof_64 : decode cX12_proof 64 = .ok (.iinc 3 1, 3) := by decide +kernel
theorem dX12_proof_67 : decode cX12_proof 67 = .ok (.goto (-53), 3) := by decide +kernel
theorem dX12_proof_70 : decode cX12_proof 70 = .ok (.iload_n 2, 1) := by decide +kernel
theorem dX12_proof_71 : decode cX12_proof 71 = .ok (.ireturn, 1) := by decide +kernel
theorem dX12_slipped_0 : decode cX12_slipped 0 = .ok (.bipush (-4), 2) := by decide +kernel
theorem dX12_slipped_2 : decode cX12_slipped 2 = .ok (.istore_n 1, 1) := by decide +kernel
theorem dX12_slipped_3 : decode cX12_slipped 3 = .ok (.iconst 0, 1) := by decide +kernel
theorem dX12_slipped_4 : decode cX12_slipped 4 = .ok (.istore_n 2, 1) := by decide +kernel
theorem dX12_slipped_5 : decode cX12_slipped 5 = .ok (.iload_n 2, 1) := by decide +kernel
theorem dX12_slipped_6 : decode cX12_slipped 6 = .ok (.iconst 1, 1) := by decide +kernel
theorem dX12_slipped_7 : decode cX12_slipped 7 = .ok (.aload_n 0, 1) := by decide +kernel
theorem dX12_slipped_8 : decode cX12_slipped 8 = .ok (.getfield 51, 3) := by decide +kernel
theorem dX12_slipped_11 : decode cX12_slipped 11 = .ok (.ishl, 1) := by decide +kernel
theorem dX12_slipped_12 : decode cX12_slipped 12 = .ok (.if_icmp .ge 85, 3) := by decide +kernel
theorem dX12_slipped_15 : decode cX12_slipped 15 = .ok (.iload_n 2, 1) := by decide +kernel
theorem dX12_slipped_16 : decode cX12_slipped 16 = .ok (.iload_n 1, 1) := by decide +kernel
theorem dX12_slipped_17 : decode cX12_slipped 17 = .ok (.invokestatic 173, 3) := by decide +kernel
theorem dX12_slipped_20 : decode cX12_slipped 20 = .ok (.ifCond .ne 6, 3) := by decide +kernel
theorem dX12_slipped_23 : decode cX12_slipped 23 = .ok (.goto 68, 3) := by decide +kernel
theorem dX12_slipped_26 : decode cX12_slipped 26 = .ok (.aload_n 0, 1) := by decide +kernel
theorem dX12_slipped_27 : decode cX12_slipped 27 = .ok (.iconst 1, 1) := by decide +kernel
theorem dX12_slipped_28 : decode cX12_slipped 28 = .ok (.aload_n 0, 1) := by decide +kernel
theorem dX12_slipped_29 : decode cX12_slipped 29 = .ok (.getfield 51, 3) := by decide +kernel
theorem dX12_slipped_32 : decode cX12_slipped 32 = .ok (.ishl, 1) := by decide +kernel
theorem dX12_slipped_33 : decode cX12_slipped 33 = .ok (.iconst 1, 1) := by decide +kernel
theorem dX12_slipped_34 : decode cX12_slipped 34 = .ok (.isub, 1) := by decide +kernel
theorem dX12_slipped_35 : decode cX12_slipped 35 = .ok (.iload_n 2, 1) := by decide +kernel
theorem dX12_slipped_36 : decode cX12_slipped 36 = .ok (.iconst (-1), 1) := by decide +kernel
theorem dX12_slipped_37 : decode cX12_slipped 37 = .ok (.ixor, 1) := by decide +kernel
theorem dX12_slipped_38 : decode cX12_slipped 38 = .ok (.iand, 1) := by decide +kernel
theorem dX12_slipped_39 : decode cX12_slipped 39 = .ok (.invokevirtual 148, 3) := by decide +kernel
theorem dX12_slipped_42 : decode cX12_slipped 42 = .ok (.lstore_n 3, 1) := by decide +kernel
theorem dX12_slipped_43 : decode cX12_slipped 43 = .ok (.iconst 0, 1) := by decide +kernel
theorem dX12_slipped_44 : decode cX12_slipped 44 = .ok (.istore 5, 2) := by decide +kernel
theorem dX12_slipped_46 : decode cX12_slipped 46 = .ok (.iload 5, 2) := by decide +kernel
theorem dX12_slipped_48 : decode cX12_slipped 48 = .ok (.aload_n 0, 1) := by decide +kernel
theorem dX12_slipped_49 : decode cX12_slipped 49 = .ok (.getfield 51, 3) := by decide +kernel
theorem dX12_slipped_52 : decode cX12_slipped 52 = .ok (.if_icmp .ge 31, 3) := by decide +kernel
theorem dX12_slipped_55 : decode cX12_slipped 55 = .ok (.iload_n 2, 1) := by decide +kernel
theorem dX12_slipped_56 : decode cX12_slipped 56 = .ok (.iload 5, 2) := by decide +kernel
theorem dX12_slipped_58 : decode cX12_slipped 58 = .ok (.invokestatic 54, 3) := by decide +kernel
theorem dX12_slipped_61 : decode cX12_slipped 61 = .ok (.ifCond .eq 16, 3) := by decide +kernel
theorem dX12_slipped_64 : decode cX12_slipped 64 = .ok (.lload_n 3, 1) := by decide +kernel
theorem dX12_slipped_65 : decode cX12_slipped 65 = .ok (.aload_n 0, 1) := by decide +kernel
theorem dX12_slipped_66 : decode cX12_slipped 66 = .ok (.getfield 16, 3) := by decide +kernel
theorem dX12_slipped_69 : decode cX12_slipped 69 = .ok (.iload 5, 2) := by decide +kernel
theorem dX12_slipped_71 : decode cX12_slipped 71 = .ok (.iaload, 1) := by decide +kernel
theorem dX12_slipped_72 : decode cX12_slipped 72 = .ok (.invokestatic 140, 3) := by decide +kernel
theorem dX12_slipped_75 : decode cX12_slipped 75 = .ok (.land, 1) := by decide +kernel
theorem dX12_slipped_76 : decode cX12_slipped 76 = .ok (.lstore_n 3, 1) := by decide +kernel
theorem dX12_slipped_77 : decode cX12_slipped 77 = .ok (.iinc 5 1, 3) := by decide +kernel
theorem dX12_slipped_80 : decode cX12_slipped 80 = .ok (.goto (-34), 3) := by decide +kernel
theorem dX12_slipped_83 : decode cX12_slipped 83 = .ok (.lload_n 3, 1) := by decide +kernel
theorem dX12_slipped_84 : decode cX12_slipped 84 = .ok (.lconst 0, 1) := by decide +kernel
theorem dX12_slipped_85 : decode cX12_slipped 85 = .ok (.lcmp, 1) := by decide +kernel
theorem dX12_slipped_86 : decode cX12_slipped 86 = .ok (.ifCond .eq 5, 3) := by decide +kernel
theorem dX12_slipped_89 : decode cX12_slipped 89 = .ok (.iload_n 2, 1) := by decide +kernel
theorem dX12_slipped_90 : decode cX12_slipped 90 = .ok (.istore_n 1, 1) := by decide +kernel
theorem dX12_slipped_91 : decode cX12_slipped 91 = .ok (.iinc 2 1, 3) := by decide +kernel
theorem dX12_slipped_94 : decode cX12_slipped 94 = .ok (.goto (-89), 3) := by decide +kernel
theorem dX12_slipped_97 : decode cX12_slipped 97 = .ok (.iload_n 1, 1) := by decide +kernel
theorem dX12_slipped_98 : decode cX12_slipped 98 = .ok (.ireturn, 1) := by decide +kernel
theorem dX12_ask_0 : decode cX12_ask 0 = .ok (.aload_n 0, 1) := by decide +kernel
theorem dX12_ask_1 : decode cX12_ask 1 = .ok (.invokevirtual 153, 3) := by decide +kernel
theorem dX12_ask_4 : decode cX12_ask 4 = .ok (.lstore_n 1, 1) := by decide +kernel
theorem dX12_ask_5 : decode cX12_ask 5 = .ok (.lload_n 1, 1) := by decide +kernel
theorem dX12_ask_6 : decode cX12_ask 6 = .ok (.lconst 0, 1) := by decide +kernel
theorem dX12_ask_7 : decode cX12_ask 7 = .ok (.lcmp, 1) := by decide +kernel
theorem dX12_ask_8 : decode cX12_ask 8 = .ok (.ifCond .ne 6, 3) := by decide +kernel
theorem dX12_ask_11 : decode cX12_ask 11 = .ok (.bipush (-4), 2) := by decide +kernel
theorem dX12_ask_13 : decode cX12_ask 13 = .ok (.ireturn, 1) := by decide +kernel
theorem dX12_ask_14 : decode cX12_ask 14 = .ok (.bipush (-4), 2) := by decide +kernel
theorem dX12_ask_16 : decode cX12_ask 16 = .ok (.istore_n 3, 1) := by decide +kernel
theorem dX12_ask_17 : decode cX12_ask 17 = .ok (.iconst (-1), 1) := by decide +kernel
theorem dX12_ask_18 : decode cX12_ask 18 = .ok (.istore 4, 2) := by decide +kernel
theorem dX12_ask_20 : decode cX12_ask 20 = .ok (.iconst 0, 1) := by decide +kernel
theorem dX12_ask_21 : decode cX12_ask 21 = .ok (.istore 5, 2) := by decide +kernel
theorem dX12_ask_23 : decode cX12_ask 23 = .ok (.iload 5, 2) := by decide +kernel
theorem dX12_ask_25 : decode cX12_ask 25 = .ok (.bipush 6, 2) := by decide +kernel
theorem dX12_ask_27 : decode cX12_ask 27 = .ok (.if_icmp .ge 83, 3) := by decide +kernel
theorem dX12_ask_30 : decode cX12_ask 30 = .ok (.iconst 0, 1) := by decide +kernel
theorem dX12_ask_31 : decode cX12_ask 31 = .ok (.istore 6, 2) := by decide +kernel
theorem dX12_ask_33 : decode cX12_ask 33 = .ok (.iconst 0, 1) := by decide +kernel
theorem dX12_ask_34 : decode cX12_ask 34 = .ok (.istore 7, 2) := by decide +kernel
theorem dX12_ask_36 : decode cX12_ask 36 = .ok (.iload 7, 2) := by decide +kernel
theorem dX12_ask_38 : decode cX12_ask 38 = .ok (.bipush 64, 2) := by decide +kernel
theorem dX12_ask_40 : decode cX12_ask 40 = .ok (.if_icmp .ge 33, 3) := by decide +kernel
theorem dX12_ask_43 : decode cX12_ask 43 = .ok (.lload_n 1, 1) := by decide +kernel
theorem dX12_ask_44 : decode cX12_ask 44 = .ok (.iload 7, 2) := by decide +kernel
theorem dX12_ask_46 : decode cX12_ask 46 = .ok (.lshr, 1) := by decide +kernel
theorem dX12_ask_47 : decode cX12_ask 47 = .ok (.lconst 1, 1) := by decide +kernel
theorem dX12_ask_48 : decode cX12_ask 48 = .ok (.land, 1) := by decide +kernel
theorem dX12_ask_49 : decode cX12_ask 49 = .ok (.lconst 1, 1) := by decide +kernel
theorem dX12_ask_50 : decode cX12_ask 50 = .ok (.lcmp, 1) := by decide +kernel
theorem dX12_ask_51 : decode cX12_ask 51 = .ok (.ifCond .ne 16, 3) := by decide +kernel
theorem dX12_ask_54 : decode cX12_ask 54 = .ok (.iload 7, 2) := by decide +kernel
theorem dX12_ask_56 : decode cX12_ask 56 = .ok (.iload 5, 2) := by decide +kernel
theorem dX12_ask_58 : decode cX12_ask 58 = .ok (.invokestatic 54, 3) := by decide +kernel
theorem dX12_ask_61 : decode cX12_ask 61 = .ok (.ifCond .eq 6, 3) := by decide +kernel
theorem dX12_ask_64 : decode cX12_ask 64 = .ok (.iinc 6 1, 3) := by decide +kernel
theorem dX12_ask_67 : decode cX12_ask 67 = .ok (.iinc 7 1, 3) := by decide +kernel
theorem dX12_ask_70 : decode cX12_ask 70 = .ok (.goto (-34), 3) := by decide +kernel
theorem dX12_ask_73 : decode cX12_ask 73 = .ok (.iload 6, 2) := by decide +kernel
theorem dX12_ask_75 : decode cX12_ask 75 = .ok (.lload_n 1, 1) := by decide +kernel
theorem dX12_ask_76 : decode cX12_ask 76 = .ok (.invokestatic 156, 3) := by decide +kernel
theorem dX12_ask_79 : decode cX12_ask 79 = .ok (.iload 6, 2) := by decide +kernel
theorem dX12_ask_81 : decode cX12_ask 81 = .ok (.isub, 1) := by decide +kernel
theorem dX12_ask_82 : decode cX12_ask 82 = .ok (.invokestatic 176, 3) := by decide +kernel
theorem dX12_ask_85 : decode cX12_ask 85 = .ok (.istore 7, 2) := by decide +kernel
theorem dX12_ask_87 : decode cX12_ask 87 = .ok (.iload 7, 2) := by decide +kernel
theorem dX12_ask_89 : decode cX12_ask 89 = .ok (.iload 4, 2) := by decide +kernel
theorem dX12_ask_91 : decode cX12_ask 91 = .ok (.if_icmp .gt 6, 3) := by decide +kernel
theorem dX12_ask_94 : decode cX12_ask 94 = .ok (.goto 10, 3) := by decide +kernel
theorem dX12_ask_97 : decode cX12_ask 97 = .ok (.iload 7, 2) := by decide +kernel
theorem dX12_ask_99 : decode cX12_ask 99 = .ok (.istore 4, 2) := by decide +kernel
theorem dX12_ask_101 : decode cX12_ask 101 = .ok (.iload 5, 2) := by decide +kernel
theorem dX12_ask_103 : decode cX12_ask 103 = .ok (.istore_n 3, 1) := by decide +kernel
theorem dX12_ask_104 : decode cX12_ask 104 = .ok (.iinc 5 1, 3) := by decide +kernel
theorem dX12_ask_107 : decode cX12_ask 107 = .ok (.goto (-84), 3) := by decide +kernel
theorem dX12_ask_110 : decode cX12_ask 110 = .ok (.iload_n 3, 1) := by decide +kernel
theorem dX12_ask_111 : decode cX12_ask 111 = .ok (.ireturn, 1) := by decide +kernel
theorem dX12_saidBy_0 : decode cX12_saidBy 0 = .ok (.iconst 0, 1) := by decide +kernel
theorem dX12_saidBy_1 : decode cX12_saidBy 1 = .ok (.istore_n 2, 1) := by decide +kernel
theorem dX12_saidBy_2 : decode cX12_saidBy 2 = .ok (.iconst 0, 1) := by decide +kernel
theorem dX12_saidBy_3 : decode cX12_saidBy 3 = .ok (.istore_n 3, 1) := by decide +kernel
theorem dX12_saidBy_4 : decode cX12_saidBy 4 = .ok (.iload_n 3, 1) := by decide +kernel
theorem dX12_saidBy_5 : decode cX12_saidBy 5 = .ok (.aload_n 0, 1) := by decide +kernel
theorem dX12_saidBy_6 : decode cX12_saidBy 6 = .ok (.getfield 51, 3) := by decide +kernel
theorem dX12_saidBy_9 : decode cX12_saidBy 9 = .ok (.if_icmp .ge 28, 3) := by decide +kernel
theorem dX12_saidBy_12 : decode cX12_saidBy 12 = .ok (.iload_n 1, 1) := by decide +kernel
theorem dX12_saidBy_13 : decode cX12_saidBy 13 = .ok (.aload_n 0, 1) := by decide +kernel
theorem dX12_saidBy_14 : decode cX12_saidBy 14 = .ok (.getfield 19, 3) := by decide +kernel
theorem dX12_saidBy_17 : decode cX12_saidBy 17 = .ok (.iload_n 3, 1) := by decide +kernel
theorem dX12_saidBy_18 : decode cX12_saidBy 18 = .ok (.iaload, 1) := by decide +kernel
theorem dX12_saidBy_19 : decode cX12_saidBy 19 = .ok (.invokestatic 54, 3) := by decide +kernel
theorem dX12_saidBy_22 : decode cX12_saidBy 22 = .ok (.ifCond .eq 9, 3) := by decide +kernel
theorem dX12_saidBy_25 : decode cX12_saidBy 25 = .ok (.iload_n 2, 1) := by decide +kernel
theorem dX12_saidBy_26 : decode cX12_saidBy 26 = .ok (.iconst 1, 1) := by decide +kernel
theorem dX12_saidBy_27 : decode cX12_saidBy 27 = .ok (.iload_n 3, 1) := by decide +kernel
theorem dX12_saidBy_28 : decode cX12_saidBy 28 = .ok (.ishl, 1) := by decide +kernel
theorem dX12_saidBy_29 : decode cX12_saidBy 29 = .ok (.ior, 1) := by decide +kernel
theorem dX12_saidBy_30 : decode cX12_saidBy 30 = .ok (.istore_n 2, 1) := by decide +kernel
theorem dX12_saidBy_31 : decode cX12_saidBy 31 = .ok (.iinc 3 1, 3) := by decide +kernel
theorem dX12_saidBy_34 : decode cX12_saidBy 34 = .ok (.goto (-30), 3) := by decide +kernel
theorem dX12_saidBy_37 : decode cX12_saidBy 37 = .ok (.iload_n 2, 1) := by decide +kernel
theorem dX12_saidBy_38 : decode cX12_saidBy 38 = .ok (.ireturn, 1) := by decide +kernel
theorem dX12_isPlain_0 : decode cX12_isPlain 0 = .ok (.aload_n 0, 1) := by decide +kernel
theorem dX12_isPlain_1 : decode cX12_isPlain 1 = .ok (.aload_n 0, 1) := by decide +kernel
theorem dX12_isPlain_2 : decode cX12_isPlain 2 = .ok (.iload_n 1, 1) := by decide +kernel
theorem dX12_isPlain_3 : decode cX12_isPlain 3 = .ok (.invokevirtual 181, 3) := by decide +kernel
theorem dX12_isPlain_6 : decode cX12_isPlain 6 = .ok (.invokevirtual 148, 3) := by decide +kernel
theorem dX12_isPlain_9 : decode cX12_isPlain 9 = .ok (.invokestatic 156, 3) := by decide +kernel
theorem dX12_isPlain_12 : decode cX12_isPlain 12 = .ok (.iconst 2, 1) := by decide +kernel
theorem dX12_isPlain_13 : decode cX12_isPlain 13 = .ok (.if_icmp .ge 7, 3) := by decide +kernel
theorem dX12_isPlain_16 : decode cX12_isPlain 16 = .ok (.iconst 1, 1) := by decide +kernel
theorem dX12_isPlain_17 : decode cX12_isPlain 17 = .ok (.goto 4, 3) := by decide +kernel
theorem dX12_isPlain_20 : decode cX12_isPlain 20 = .ok (.iconst 0, 1) := by decide +kernel
theorem dX12_isPlain_21 : decode cX12_isPlain 21 = .ok (.ireturn, 1) := by decide +kernel
theorem dX12_plain_0 : decode cX12_plain 0 = .ok (.bipush (-4), 2) := by decide +kernel
theorem dX12_plain_2 : decode cX12_plain 2 = .ok (.istore_n 1, 1) := by decide +kernel
theorem dX12_plain_3 : decode cX12_plain 3 = .ok (.iconst 0, 1) := by decide +kernel
theorem dX12_plain_4 : decode cX12_plain 4 = .ok (.istore_n 2, 1) := by decide +kernel
theorem dX12_plain_5 : decode cX12_plain 5 = .ok (.iload_n 2, 1) := by decide +kernel
theorem dX12_plain_6 : decode cX12_plain 6 = .ok (.iconst 1, 1) := by decide +kernel
theorem dX12_plain_7 : decode cX12_plain 7 = .ok (.aload_n 0, 1) := by decide +kernel
theorem dX12_plain_8 : decode cX12_plain 8 = .ok (.getfield 47, 3) := by decide +kernel
theorem dX12_plain_11 : decode cX12_plain 11 = .ok (.ishl, 1) := by decide +kernel
theorem dX12_plain_12 : decode cX12_plain 12 = .ok (.if_icmp .ge 27, 3) := by decide +kernel
theorem dX12_plain_15 : decode cX12_plain 15 = .ok (.iload_n 2, 1) := by decide +kernel
theorem dX12_plain_16 : decode cX12_plain 16 = .ok (.iload_n 1, 1) := by decide +kernel
theorem dX12_plain_17 : decode cX12_plain 17 = .ok (.invokestatic 173, 3) := by decide +kernel
theorem dX12_plain_20 : decode cX12_plain 20 = .ok (.ifCond .eq 13, 3) := by decide +kernel
theorem dX12_plain_23 : decode cX12_plain 23 = .ok (.aload_n 0, 1) := by decide +kernel
theorem dX12_plain_24 : decode cX12_plain 24 = .ok (.iload_n 2, 1) := by decide +kernel
theorem dX12_plain_25 : decode cX12_plain 25 = .ok (.invokevirtual 184, 3) := by decide +kernel
theorem dX12_plain_28 : decode cX12_plain 28 = .ok (.ifCond .eq 5, 3) := by decide +kernel
theorem dX12_plain_31 : decode cX12_plain 31 = .ok (.iload_n 2, 1) := by decide +kernel
theorem dX12_plain_32 : decode cX12_plain 32 = .ok (.istore_n 1, 1) := by decide +kernel
theorem dX12_plain_33 : decode cX12_plain 33 = .ok (.iinc 2 1, 3) := by decide +kernel
theorem dX12_plain_36 : decode cX12_plain 36 = .ok (.goto (-31), 3) := by decide +kernel
theorem dX12_plain_39 : decode cX12_plain 39 = .ok (.iload_n 1, 1) := by decide +kernel
theorem dX12_plain_40 : decode cX12_plain 40 = .ok (.ireturn, 1) := by decide +kernel
theorem dX12_order_0 : decode cX12_order 0 = .ok (.iload_n 1, 1) := by decide +kernel
theorem dX12_order_1 : decode cX12_order 1 = .ok (.iconst 0, 1) := by decide +kernel
theorem dX12_order_2 : decode cX12_order 2 = .ok (.iconst 1, 1) := by decide +kernel
theorem dX12_order_3 : decode cX12_order 3 = .ok (.invokestatic 43, 3) := by decide +kernel
theorem dX12_order_6 : decode cX12_order 6 = .ok (.ifCond .ne 5, 3) := by decide +kernel
theorem dX12_order_9 : decode cX12_order 9 = .ok (.iconst (-1), 1) := by decide +kernel
theorem dX12_order_10 : decode cX12_order 10 = .ok (.ireturn, 1) := by decide +kernel
theorem dX12_order_11 : decode cX12_order 11 = .ok (.aload_n 0, 1) := by decide +kernel
theorem dX12_order_12 : decode cX12_order 12 = .ok (.getfield 47, 3) := by decide +kernel
theorem dX12_order_15 : decode cX12_order 15 = .ok (.ifCond .ne 6, 3) := by decide +kernel
theorem dX12_order_18 : decode cX12_order 18 = .ok (.bipush (-3), 2) := by decide +kernel
theorem dX12_order_20 : decode cX12_order 20 = .ok (.ireturn, 1) := by decide +kernel
theorem dX12_order_21 : decode cX12_order 21 = .ok (.aload_n 0, 1) := by decide +kernel
theorem dX12_order_22 : decode cX12_order 22 = .ok (.invokevirtual 187, 3) := by decide +kernel
theorem dX12_order_25 : decode cX12_order 25 = .ok (.istore_n 2, 1) := by decide +kernel
theorem dX12_order_26 : decode cX12_order 26 = .ok (.iload_n 2, 1) := by decide +kernel
theorem dX12_order_27 : decode cX12_order 27 = .ok (.bipush (-4), 2) := by decide +kernel
theorem dX12_order_29 : decode cX12_order 29 = .ok (.if_icmp .ne 6, 3) := by decide +kernel
theorem dX12_order_32 : decode cX12_order 32 = .ok (.bipush (-4), 2) := by decide +kernel
theorem dX12_order_34 : decode cX12_order 34 = .ok (.ireturn, 1) := by decide +kernel
theorem dX12_order_35 : decode cX12_order 35 = .ok (.iload_n 1, 1) := by decide +kernel
theorem dX12_order_36 : decode cX12_order 36 = .ok (.ifCond .ne 8, 3) := by decide +kernel
theorem dX12_order_39 : decode cX12_order 39 = .ok (.iload_n 2, 1) := by decide +kernel
theorem dX12_order_40 : decode cX12_order 40 = .ok (.invokestatic 171, 3) := by decide +kernel
theorem dX12_order_43 : decode cX12_order 43 = .ok (.ireturn, 1) := by decide +kernel
theorem dX12_order_44 : decode cX12_order 44 = .ok (.iconst (-1), 1) := by decide +kernel
theorem dX12_order_45 : decode cX12_order 45 = .ok (.istore_n 3, 1) := by decide +kernel
theorem dX12_order_46 : decode cX12_order 46 = .ok (.iconst 0, 1) := by decide +kernel
theorem dX12_order_47 : decode cX12_order 47 = .ok (.istore 4, 2) := by decide +kernel
theorem dX12_order_49 : decode cX12_order 49 = .ok (.iload 4, 2) := by decide +kernel
theorem dX12_order_51 : decode cX12_order 51 = .ok (.iconst 1, 1) := by decide +kernel
theorem dX12_order_52 : decode cX12_order 52 = .ok (.aload_n 0, 1) := by decide +kernel
theorem dX12_order_53 : decode cX12_order 53 = .ok (.getfield 47, 3) := by decide +kernel
theorem dX12_order_56 : decode cX12_order 56 = .ok (.ishl, 1) := by decide +kernel
theorem dX12_order_57 : decode cX12_order 57 = .ok (.if_icmp .ge 125, 3) := by decide +kernel
theorem dX12_order_60 : decode cX12_order 60 = .ok (.iload 4, 2) := by decide +kernel
theorem dX12_order_62 : decode cX12_order 62 = .ok (.invokestatic 171, 3) := by decide +kernel
theorem dX12_order_65 : decode cX12_order 65 = .ok (.iload_n 2, 1) := by decide +kernel
theorem dX12_order_66 : decode cX12_order 66 = .ok (.invokestatic 171, 3) := by decide +kernel
theorem dX12_order_69 : decode cX12_order 69 = .ok (.if_icmp .ne 107, 3) := by decide +kernel
theorem dX12_order_72 : decode cX12_order 72 = .ok (.aload_n 0, 1) := by decide +kernel
theorem dX12_order_73 : decode cX12_order 73 = .ok (.iload 4, 2) := by decide +kernel
theorem dX12_order_75 : decode cX12_order 75 = .ok (.invokevirtual 184, 3) := by decide +kernel
theorem dX12_order_78 : decode cX12_order 78 = .ok (.ifCond .ne 6, 3) := by decide +kernel
theorem dX12_order_81 : decode cX12_order 81 = .ok (.goto 95, 3) := by decide +kernel
theorem dX12_order_84 : decode cX12_order 84 = .ok (.iconst 0, 1) := by decide +kernel
theorem dX12_order_85 : decode cX12_order 85 = .ok (.istore 5, 2) := by decide +kernel
theorem dX12_order_87 : decode cX12_order 87 = .ok (.iconst 0, 1) := by decide +kernel
theorem dX12_order_88 : decode cX12_order 88 = .ok (.istore 6, 2) := by decide +kernel
theorem dX12_order_90 : decode cX12_order 90 = .ok (.iload 6, 2) := by decide +kernel
theorem dX12_order_92 : decode cX12_order 92 = .ok (.aload_n 0, 1) := by decide +kernel
theorem dX12_order_93 : decode cX12_order 93 = .ok (.getfield 47, 3) := by decide +kernel
theorem dX12_order_96 : decode cX12_order 96 = .ok (.if_icmp .ge 29, 3) := by decide +kernel
theorem dX12_order_99 : decode cX12_order 99 = .ok (.iload 4, 2) := by decide +kernel
theorem dX12_order_101 : decode cX12_order 101 = .ok (.iload 6, 2) := by decide +kernel
theorem dX12_order_103 : decode cX12_order 103 = .ok (.invokestatic 54, 3) := by decide +kernel
theorem dX12_order_106 : decode cX12_order 106 = .ok (.ifCond .eq 13, 3) := by decide +kernel
theorem dX12_order_109 : decode cX12_order 109 = .ok (.bipush 10, 2) := by decide +kernel
theorem dX12_order_111 : decode cX12_order 111 = .ok (.iload 5, 2) := by decide +kernel
theorem dX12_order_113 : decode cX12_order 113 = .ok (.imul, 1) := by decide +kernel
theorem dX12_order_114 : decode cX12_order 114 = .ok (.iload 6, 2) := by decide +kernel
theorem dX12_order_116 : decode cX12_order 116 = .ok (.iadd, 1) := by decide +kernel
theorem dX12_order_117 : decode cX12_order 117 = .ok (.istore 5, 2) := by decide +kernel
theorem dX12_order_119 : decode cX12_order 119 = .ok (.iinc 6 1, 3) := by decide +kernel
theorem dX12_order_122 : decode cX12_order 122 = .ok (.goto (-32), 3) := by decide +kernel
theorem dX12_order_125 : decode cX12_order 125 = .ok (.iconst 0, 1) := by decide +kernel
theorem dX12_order_126 : decode cX12_order 126 = .ok (.istore 6, 2) := by decide +kernel
theorem dX12_order_128 : decode cX12_order 128 = .ok (.iload 6, 2) := by decide +kernel
theorem dX12_order_130 : decode cX12_order 130 = .ok (.aload_n 0, 1) := by decide +kernel
theorem dX12_order_131 : decode cX12_order 131 = .ok (.getfield 47, 3) := by decide +kernel
theorem dX12_order_134 : decode cX12_order 134 = .ok (.if_icmp .ge 29, 3) := by decide +kernel
theorem dX12_order_137 : decode cX12_order 137 = .ok (.iload 4, 2) := by decide +kernel
theorem dX12_order_139 : decode cX12_order 139 = .ok (.iload 6, 2) := by decide +kernel
theorem dX12_order_141 : decode cX12_order 141 = .ok (.invokestatic 54, 3) := by decide +kernel
theorem dX12_order_144 : decode cX12_order 144 = .ok (.ifCond .ne 13, 3) := by decide +kernel
theorem dX12_order_147 : decode cX12_order 147 = .ok (.bipush 10, 2) := by decide +kernel
theorem dX12_order_149 : decode cX12_order 149 = .ok (.iload 5, 2) := by decide +kernel
theorem dX12_order_151 : decode cX12_order 151 = .ok (.imul, 1) := by decide +kernel
theorem dX12_order_152 : decode cX12_order 152 = .ok (.iload 6, 2) := by decide +kernel
theorem dX12_order_154 : decode cX12_order 154 = .ok (.iadd, 1) := by decide +kernel
theorem dX12_order_155 : decode cX12_order 155 = .ok (.istore 5, 2) := by decide +kernel
theorem dX12_order_157 : decode cX12_order 157 = .ok (.iinc 6 1, 3) := by decide +kernel
theorem dX12_order_160 : decode cX12_order 160 = .ok (.goto (-32), 3) := by decide +kernel
theorem dX12_order_163 : decode cX12_order 163 = .ok (.iload_n 3, 1) := by decide +kernel
theorem dX12_order_164 : decode cX12_order 164 = .ok (.ifCond .lt 9, 3) := by decide +kernel
theorem dX12_order_167 : decode cX12_order 167 = .ok (.iload 5, 2) := by decide +kernel
theorem dX12_order_169 : decode cX12_order 169 = .ok (.iload_n 3, 1) := by decide +kernel
theorem dX12_order_170 : decode cX12_order 170 = .ok (.if_icmp .ge 6, 3) := by decide +kernel
theorem dX12_order_173 : decode cX12_order 173 = .ok (.iload 5, 2) := by decide +kernel
theorem dX12_order_175 : decode cX12_order 175 = .ok (.istore_n 3, 1) := by decide +kernel
theorem dX12_order_176 : decode cX12_order 176 = .ok (.iinc 4 1, 3) := by decide +kernel
theorem dX12_order_179 : decode cX12_order 179 = .ok (.goto (-130), 3) := by decide +kernel
theorem dX12_order_182 : decode cX12_order 182 = .ok (.iload_n 3, 1) := by decide +kernel
theorem dX12_order_183 : decode cX12_order 183 = .ok (.ireturn, 1) := by decide +kernel
theorem dX12_without_0 : decode cX12_without 0 = .ok (.aload_n 0, 1) := by decide +kernel
theorem dX12_without_1 : decode cX12_without 1 = .ok (.iload_n 1, 1) := by decide +kernel
theorem dX12_without_2 : decode cX12_without 2 = .ok (.invokevirtual 104, 3) := by decide +kernel
theorem dX12_without_5 : decode cX12_without 5 = .ok (.ifCond .ne 5, 3) := by decide +kernel
theorem dX12_without_8 : decode cX12_without 8 = .ok (.iconst (-1), 1) := by decide +kernel
theorem dX12_without_9 : decode cX12_without 9 = .ok (.ireturn, 1) := by decide +kernel
theorem dX12_without_10 : decode cX12_without 10 = .ok (.aload_n 0, 1) := by decide +kernel
theorem dX12_without_11 : decode cX12_without 11 = .ok (.aload_n 0, 1) := by decide +kernel
theorem dX12_without_12 : decode cX12_without 12 = .ok (.iconst 1, 1) := by decide +kernel
theorem dX12_without_13 : decode cX12_without 13 = .ok (.aload_n 0, 1) := by decide +kernel
theorem dX12_without_14 : decode cX12_without 14 = .ok (.getfield 47, 3) := by decide +kernel
theorem dX12_without_17 : decode cX12_without 17 = .ok (.ishl, 1) := by decide +kernel
theorem dX12_without_18 : decode cX12_without 18 = .ok (.iconst 1, 1) := by decide +kernel
theorem dX12_without_19 : decode cX12_without 19 = .ok (.isub, 1) := by decide +kernel
theorem dX12_without_20 : decode cX12_without 20 = .ok (.iconst 1, 1) := by decide +kernel
theorem dX12_without_21 : decode cX12_without 21 = .ok (.iload_n 1, 1) := by decide +kernel
theorem dX12_without_22 : decode cX12_without 22 = .ok (.ishl, 1) := by decide +kernel
theorem dX12_without_23 : decode cX12_without 23 = .ok (.iconst (-1), 1) := by decide +kernel
theorem dX12_without_24 : decode cX12_without 24 = .ok (.ixor, 1) := by decide +kernel
theorem dX12_without_25 : decode cX12_without 25 = .ok (.iand, 1) := by decide +kernel
theorem dX12_without_26 : decode cX12_without 26 = .ok (.invokevirtual 181, 3) := by decide +kernel
theorem dX12_without_29 : decode cX12_without 29 = .ok (.invokevirtual 148, 3) := by decide +kernel
theorem dX12_without_32 : decode cX12_without 32 = .ok (.invokestatic 156, 3) := by decide +kernel
theorem dX12_without_35 : decode cX12_without 35 = .ok (.aload_n 0, 1) := by decide +kernel
theorem dX12_without_36 : decode cX12_without 36 = .ok (.invokevirtual 153, 3) := by decide +kernel
theorem dX12_without_39 : decode cX12_without 39 = .ok (.invokestatic 156, 3) := by decide +kernel
theorem dX12_without_42 : decode cX12_without 42 = .ok (.isub, 1) := by decide +kernel
theorem dX12_without_43 : decode cX12_without 43 = .ok (.ireturn, 1) := by decide +kernel
theorem dX12_isLie_0 : decode cX12_isLie 0 = .ok (.iload_n 1, 1) := by decide +kernel
theorem dX12_isLie_1 : decode cX12_isLie 1 = .ok (.invokestatic 68, 3) := by decide +kernel
theorem dX12_isLie_4 : decode cX12_isLie 4 = .ok (.aload_n 0, 1) := by decide +kernel
theorem dX12_isLie_5 : decode cX12_isLie 5 = .ok (.getfield 13, 3) := by decide +kernel
theorem dX12_isLie_8 : decode cX12_isLie 8 = .ok (.iload_n 2, 1) := by decide +kernel
theorem dX12_isLie_9 : decode cX12_isLie 9 = .ok (.iaload, 1) := by decide +kernel
theorem dX12_isLie_10 : decode cX12_isLie 10 = .ok (.iconst (-1), 1) := by decide +kernel
theorem dX12_isLie_11 : decode cX12_isLie 11 = .ok (.ixor, 1) := by decide +kernel
theorem dX12_isLie_12 : decode cX12_isLie 12 = .ok (.iand, 1) := by decide +kernel
theorem dX12_isLie_13 : decode cX12_isLie 13 = .ok (.ifCond .ne 18, 3) := by decide +kernel
theorem dX12_isLie_16 : decode cX12_isLie 16 = .ok (.iload_n 1, 1) := by decide +kernel
theorem dX12_isLie_17 : decode cX12_isLie 17 = .ok (.aload_n 0, 1) := by decide +kernel
theorem dX12_isLie_18 : decode cX12_isLie 18 = .ok (.getfield 61, 3) := by decide +kernel
theorem dX12_isLie_21 : decode cX12_isLie 21 = .ok (.invokestatic 58, 3) := by decide +kernel
theorem dX12_isLie_24 : decode cX12_isLie 24 = .ok (.ifCond .ne 7, 3) := by decide +kernel
theorem dX12_isLie_27 : decode cX12_isLie 27 = .ok (.iconst 1, 1) := by decide +kernel
theorem dX12_isLie_28 : decode cX12_isLie 28 = .ok (.goto 4, 3) := by decide +kernel
theorem dX12_isLie_31 : decode cX12_isLie 31 = .ok (.iconst 0, 1) := by decide +kernel
theorem dX12_isLie_32 : decode cX12_isLie 32 = .ok (.ireturn, 1) := by decide +kernel
theorem dX12_plainSaying_0 : decode cX12_plainSaying 0 = .ok (.iload_n 0, 1) := by decide +kernel
theorem dX12_plainSaying_1 : decode cX12_plainSaying 1 = .ok (.bipush 36, 2) := by decide +kernel
theorem dX12_plainSaying_3 : decode cX12_plainSaying 3 = .ok (.idiv, 1) := by decide +kernel
theorem dX12_plainSaying_4 : decode cX12_plainSaying 4 = .ok (.iconst 0, 1) := by decide +kernel
theorem dX12_plainSaying_5 : decode cX12_plainSaying 5 = .ok (.iload_n 0, 1) := by decide +kernel
theorem dX12_plainSaying_6 : decode cX12_plainSaying 6 = .ok (.bipush 6, 2) := by decide +kernel
theorem dX12_plainSaying_8 : decode cX12_plainSaying 8 = .ok (.idiv, 1) := by decide +kernel
theorem dX12_plainSaying_9 : decode cX12_plainSaying 9 = .ok (.bipush 6, 2) := by decide +kernel
theorem dX12_plainSaying_11 : decode cX12_plainSaying 11 = .ok (.irem, 1) := by decide +kernel
theorem dX12_plainSaying_12 : decode cX12_plainSaying 12 = .ok (.iload_n 0, 1) := by decide +kernel
theorem dX12_plainSaying_13 : decode cX12_plainSaying 13 = .ok (.bipush 6, 2) := by decide +kernel
theorem dX12_plainSaying_15 : decode cX12_plainSaying 15 = .ok (.irem, 1) := by decide +kernel
theorem dX12_plainSaying_16 : decode cX12_plainSaying 16 = .ok (.invokestatic 81, 3) := by decide +kernel
theorem dX12_plainSaying_19 : decode cX12_plainSaying 19 = .ok (.ireturn, 1) := by decide +kernel
theorem dX12_lie_0 : decode cX12_lie 0 = .ok (.aload_n 0, 1) := by decide +kernel
theorem dX12_lie_1 : decode cX12_lie 1 = .ok (.iload_n 1, 1) := by decide +kernel
theorem dX12_lie_2 : decode cX12_lie 2 = .ok (.invokevirtual 104, 3) := by decide +kernel
theorem dX12_lie_5 : decode cX12_lie 5 = .ok (.ifCond .eq 12, 3) := by decide +kernel
theorem dX12_lie_8 : decode cX12_lie 8 = .ok (.iload_n 2, 1) := by decide +kernel
theorem dX12_lie_9 : decode cX12_lie 9 = .ok (.iconst 0, 1) := by decide +kernel
theorem dX12_lie_10 : decode cX12_lie 10 = .ok (.iconst 2, 1) := by decide +kernel
theorem dX12_lie_11 : decode cX12_lie 11 = .ok (.invokestatic 43, 3) := by decide +kernel
theorem dX12_lie_14 : decode cX12_lie 14 = .ok (.ifCond .ne 5, 3) := by decide +kernel
theorem dX12_lie_17 : decode cX12_lie 17 = .ok (.iconst (-1), 1) := by decide +kernel
theorem dX12_lie_18 : decode cX12_lie 18 = .ok (.ireturn, 1) := by decide +kernel
theorem dX12_lie_19 : decode cX12_lie 19 = .ok (.aload_n 0, 1) := by decide +kernel
theorem dX12_lie_20 : decode cX12_lie 20 = .ok (.invokevirtual 153, 3) := by decide +kernel
theorem dX12_lie_23 : decode cX12_lie 23 = .ok (.lstore_n 3, 1) := by decide +kernel
theorem dX12_lie_24 : decode cX12_lie 24 = .ok (.iconst 0, 1) := by decide +kernel
theorem dX12_lie_25 : decode cX12_lie 25 = .ok (.istore 5, 2) := by decide +kernel
theorem dX12_lie_27 : decode cX12_lie 27 = .ok (.bipush (-4), 2) := by decide +kernel
theorem dX12_lie_29 : decode cX12_lie 29 = .ok (.istore 6, 2) := by decide +kernel
theorem dX12_lie_31 : decode cX12_lie 31 = .ok (.bipush (-4), 2) := by decide +kernel
theorem dX12_lie_33 : decode cX12_lie 33 = .ok (.istore 7, 2) := by decide +kernel
theorem dX12_lie_35 : decode cX12_lie 35 = .ok (.iconst 0, 1) := by decide +kernel
theorem dX12_lie_36 : decode cX12_lie 36 = .ok (.istore 8, 2) := by decide +kernel
theorem dX12_lie_38 : decode cX12_lie 38 = .ok (.iload 8, 2) := by decide +kernel
theorem dX12_lie_40 : decode cX12_lie 40 = .ok (.sipush 288, 3) := by decide +kernel
theorem dX12_lie_43 : decode cX12_lie 43 = .ok (.if_icmp .ge 79, 3) := by decide +kernel
theorem dX12_lie_46 : decode cX12_lie 46 = .ok (.iload 8, 2) := by decide +kernel
theorem dX12_lie_48 : decode cX12_lie 48 = .ok (.invokestatic 190, 3) := by decide +kernel
theorem dX12_lie_51 : decode cX12_lie 51 = .ok (.istore 9, 2) := by decide +kernel
theorem dX12_lie_53 : decode cX12_lie 53 = .ok (.aload_n 0, 1) := by decide +kernel
theorem dX12_lie_54 : decode cX12_lie 54 = .ok (.iload 9, 2) := by decide +kernel
theorem dX12_lie_56 : decode cX12_lie 56 = .ok (.iload_n 1, 1) := by decide +kernel
theorem dX12_lie_57 : decode cX12_lie 57 = .ok (.invokevirtual 193, 3) := by decide +kernel
theorem dX12_lie_60 : decode cX12_lie 60 = .ok (.ifCond .ne 6, 3) := by decide +kernel
theorem dX12_lie_63 : decode cX12_lie 63 = .ok (.goto 53, 3) := by decide +kernel
theorem dX12_lie_66 : decode cX12_lie 66 = .ok (.iinc 5 1, 3) := by decide +kernel
theorem dX12_lie_69 : decode cX12_lie 69 = .ok (.lload_n 3, 1) := by decide +kernel
theorem dX12_lie_70 : decode cX12_lie 70 = .ok (.iload 9, 2) := by decide +kernel
theorem dX12_lie_72 : decode cX12_lie 72 = .ok (.invokestatic 140, 3) := by decide +kernel
theorem dX12_lie_75 : decode cX12_lie 75 = .ok (.ldc2_w 138, 3) := by decide +kernel
theorem dX12_lie_78 : decode cX12_lie 78 = .ok (.lxor, 1) := by decide +kernel
theorem dX12_lie_79 : decode cX12_lie 79 = .ok (.land, 1) := by decide +kernel
theorem dX12_lie_80 : decode cX12_lie 80 = .ok (.invokestatic 156, 3) := by decide +kernel
theorem dX12_lie_83 : decode cX12_lie 83 = .ok (.istore 10, 2) := by decide +kernel
theorem dX12_lie_85 : decode cX12_lie 85 = .ok (.iload 10, 2) := by decide +kernel
theorem dX12_lie_87 : decode cX12_lie 87 = .ok (.iload 7, 2) := by decide +kernel
theorem dX12_lie_89 : decode cX12_lie 89 = .ok (.if_icmp .gt 6, 3) := by decide +kernel
theorem dX12_lie_92 : decode cX12_lie 92 = .ok (.goto 24, 3) := by decide +kernel
theorem dX12_lie_95 : decode cX12_lie 95 = .ok (.iload 10, 2) := by decide +kernel
theorem dX12_lie_97 : decode cX12_lie 97 = .ok (.istore 7, 2) := by decide +kernel
theorem dX12_lie_99 : decode cX12_lie 99 = .ok (.bipush 100, 2) := by decide +kernel
theorem dX12_lie_101 : decode cX12_lie 101 = .ok (.iload 9, 2) := by decide +kernel
theorem dX12_lie_103 : decode cX12_lie 103 = .ok (.sipush 1000, 3) := by decide +kernel
theorem dX12_lie_106 : decode cX12_lie 106 = .ok (.idiv, 1) := by decide +kernel
theorem dX12_lie_107 : decode cX12_lie 107 = .ok (.imul, 1) := by decide +kernel
theorem dX12_lie_108 : decode cX12_lie 108 = .ok (.iload 9, 2) := by decide +kernel
theorem dX12_lie_110 : decode cX12_lie 110 = .ok (.bipush 100, 2) := by decide +kernel
theorem dX12_lie_112 : decode cX12_lie 112 = .ok (.irem, 1) := by decide +kernel
theorem dX12_lie_113 : decode cX12_lie 113 = .ok (.iadd, 1) := by decide +kernel
theorem dX12_lie_114 : decode cX12_lie 114 = .ok (.istore 6, 2) := by decide +kernel
theorem dX12_lie_116 : decode cX12_lie 116 = .ok (.iinc 8 1, 3) := by decide +kernel
theorem dX12_lie_119 : decode cX12_lie 119 = .ok (.goto (-81), 3) := by decide +kernel
theorem dX12_lie_122 : decode cX12_lie 122 = .ok (.iload_n 2, 1) := by decide +kernel
theorem dX12_lie_123 : decode cX12_lie 123 = .ok (.ifCond .ne 8, 3) := by decide +kernel
theorem dX12_lie_126 : decode cX12_lie 126 = .ok (.iload 5, 2) := by decide +kernel
theorem dX12_lie_128 : decode cX12_lie 128 = .ok (.goto 15, 3) := by decide +kernel
theorem dX12_lie_131 : decode cX12_lie 131 = .ok (.iload_n 2, 1) := by decide +kernel
theorem dX12_lie_132 : decode cX12_lie 132 = .ok (.iconst 1, 1) := by decide +kernel
theorem dX12_lie_133 : decode cX12_lie 133 = .ok (.if_icmp .ne 8, 3) := by decide +kernel
theorem dX12_lie_136 : decode cX12_lie 136 = .ok (.iload 6, 2) := by decide +kernel
theorem dX12_lie_138 : decode cX12_lie 138 = .ok (.goto 5, 3) := by decide +kernel
theorem dX12_lie_141 : decode cX12_lie 141 = .ok (.iload 7, 2) := by decide +kernel
theorem dX12_lie_143 : decode cX12_lie 143 = .ok (.ireturn, 1) := by decide +kernel
theorem dX12_twoLies_0 : decode cX12_twoLies 0 = .ok (.aload_n 0, 1) := by decide +kernel
theorem dX12_twoLies_1 : decode cX12_twoLies 1 = .ok (.iload_n 1, 1) := by decide +kernel
theorem dX12_twoLies_2 : decode cX12_twoLies 2 = .ok (.invokevirtual 104, 3) := by decide +kernel
theorem dX12_twoLies_5 : decode cX12_twoLies 5 = .ok (.ifCond .eq 16, 3) := by decide +kernel
theorem dX12_twoLies_8 : decode cX12_twoLies 8 = .ok (.aload_n 0, 1) := by decide +kernel
theorem dX12_twoLies_9 : decode cX12_twoLies 9 = .ok (.iload_n 2, 1) := by decide +kernel
theorem dX12_twoLies_10 : decode cX12_twoLies 10 = .ok (.invokevirtual 104, 3) := by decide +kernel
theorem dX12_twoLies_13 : decode cX12_twoLies 13 = .ok (.ifCond .eq 8, 3) := by decide +kernel
theorem dX12_twoLies_16 : decode cX12_twoLies 16 = .ok (.iload_n 1, 1) := by decide +kernel
theorem dX12_twoLies_17 : decode cX12_twoLies 17 = .ok (.iload_n 2, 1) := by decide +kernel
theorem dX12_twoLies_18 : decode cX12_twoLies 18 = .ok (.if_icmp .ne 5, 3) := by decide +kernel
theorem dX12_twoLies_21 : decode cX12_twoLies 21 = .ok (.iconst (-1), 1) := by decide +kernel
theorem dX12_twoLies_22 : decode cX12_twoLies 22 = .ok (.ireturn, 1) := by decide +kernel
theorem dX12_twoLies_23 : decode cX12_twoLies 23 = .ok (.aload_n 0, 1) := by decide +kernel
theorem dX12_twoLies_24 : decode cX12_twoLies 24 = .ok (.invokevirtual 153, 3) := by decide +kernel
theorem dX12_twoLies_27 : decode cX12_twoLies 27 = .ok (.lstore_n 3, 1) := by decide +kernel
theorem dX12_twoLies_28 : decode cX12_twoLies 28 = .ok (.bipush (-4), 2) := by decide +kernel
theorem dX12_twoLies_30 : decode cX12_twoLies 30 = .ok (.istore 5, 2) := by decide +kernel
theorem dX12_twoLies_32 : decode cX12_twoLies 32 = .ok (.iconst 0, 1) := by decide +kernel
theorem dX12_twoLies_33 : decode cX12_twoLies 33 = .ok (.istore 6, 2) := by decide +kernel
theorem dX12_twoLies_35 : decode cX12_twoLies 35 = .ok (.iload 6, 2) := by decide +kernel
theorem dX12_twoLies_37 : decode cX12_twoLies 37 = .ok (.sipush 288, 3) := by decide +kernel
theorem dX12_twoLies_40 : decode cX12_twoLies 40 = .ok (.if_icmp .ge 96, 3) := by decide +kernel
theorem dX12_twoLies_43 : decode cX12_twoLies 43 = .ok (.aload_n 0, 1) := by decide +kernel
theorem dX12_twoLies_44 : decode cX12_twoLies 44 = .ok (.iload 6, 2) := by decide +kernel
theorem dX12_twoLies_46 : decode cX12_twoLies 46 = .ok (.invokestatic 190, 3) := by decide +kernel
theorem dX12_twoLies_49 : decode cX12_twoLies 49 = .ok (.iload_n 1, 1) := by decide +kernel
theorem dX12_twoLies_50 : decode cX12_twoLies 50 = .ok (.invokevirtual 193, 3) := by decide +kernel
theorem dX12_twoLies_53 : decode cX12_twoLies 53 = .ok (.ifCond .ne 6, 3) := by decide +kernel
theorem dX12_twoLies_56 : decode cX12_twoLies 56 = .ok (.goto 74, 3) := by decide +kernel
theorem dX12_twoLies_59 : decode cX12_twoLies 59 = .ok (.lload_n 3, 1) := by decide +kernel
theorem dX12_twoLies_60 : decode cX12_twoLies 60 = .ok (.iload 6, 2) := by decide +kernel
theorem dX12_twoLies_62 : decode cX12_twoLies 62 = .ok (.invokestatic 190, 3) := by decide +kernel
theorem dX12_twoLies_65 : decode cX12_twoLies 65 = .ok (.invokestatic 140, 3) := by decide +kernel
theorem dX12_twoLies_68 : decode cX12_twoLies 68 = .ok (.ldc2_w 138, 3) := by decide +kernel
theorem dX12_twoLies_71 : decode cX12_twoLies 71 = .ok (.lxor, 1) := by decide +kernel
theorem dX12_twoLies_72 : decode cX12_twoLies 72 = .ok (.land, 1) := by decide +kernel
theorem dX12_twoLies_73 : decode cX12_twoLies 73 = .ok (.lstore 7, 2) := by decide +kernel
theorem dX12_twoLies_75 : decode cX12_twoLies 75 = .ok (.iconst 0, 1) := by decide +kernel
theorem dX12_twoLies_76 : decode cX12_twoLies 76 = .ok (.istore 9, 2) := by decide +kernel
theorem dX12_twoLies_78 : decode cX12_twoLies 78 = .ok (.iload 9, 2) := by decide +kernel
theorem dX12_twoLies_80 : decode cX12_twoLies 80 = .ok (.sipush 288, 3) := by decide +kernel
theorem dX12_twoLies_83 : decode cX12_twoLies 83 = .ok (.if_icmp .ge 47, 3) := by decide +kernel
theorem dX12_twoLies_86 : decode cX12_twoLies 86 = .ok (.aload_n 0, 1) := by decide +kernel
theorem dX12_twoLies_87 : decode cX12_twoLies 87 = .ok (.iload 9, 2) := by decide +kernel
theorem dX12_twoLies_89 : decode cX12_twoLies 89 = .ok (.invokestatic 190, 3) := by decide +kernel
theorem dX12_twoLies_92 : decode cX12_twoLies 92 = .ok (.iload_n 2, 1) := by decide +kernel
theorem dX12_twoLies_93 : decode cX12_twoLies 93 = .ok (.invokevirtual 193, 3) := by decide +kernel
theorem dX12_twoLies_96 : decode cX12_twoLies 96 = .ok (.ifCond .eq 28, 3) := by decide +kernel
theorem dX12_twoLies_99 : decode cX12_twoLies 99 = .ok (.iload 5, 2) := by decide +kernel
theorem dX12_twoLies_101 : decode cX12_twoLies 101 = .ok (.lload 7, 2) := by decide +kernel
theorem dX12_twoLies_103 : decode cX12_twoLies 103 = .ok (.iload 9, 2) := by decide +kernel
theorem dX12_twoLies_105 : decode cX12_twoLies 105 = .ok (.invokestatic 190, 3) := by decide +kernel
theorem dX12_twoLies_108 : decode cX12_twoLies 108 = .ok (.invokestatic 140, 3) := by decide +kernel
theorem dX12_twoLies_111 : decode cX12_twoLies 111 = .ok (.ldc2_w 138, 3) := by decide +kernel
theorem dX12_twoLies_114 : decode cX12_twoLies 114 = .ok (.lxor, 1) := by decide +kernel
theorem dX12_twoLies_115 : decode cX12_twoLies 115 = .ok (.land, 1) := by decide +kernel
theorem dX12_twoLies_116 : decode cX12_twoLies 116 = .ok (.invokestatic 156, 3) := by decide +kernel
theorem dX12_twoLies_119 : decode cX12_twoLies 119 = .ok (.invokestatic 196, 3) := by decide +kernel
theorem dX12_twoLies_122 : decode cX12_twoLies 122 = .ok (.istore 5, 2) := by decide +kernel
theorem dX12_twoLies_124 : decode cX12_twoLies 124 = .ok (.iinc 9 1, 3) := by decide +kernel
theorem dX12_twoLies_127 : decode cX12_twoLies 127 = .ok (.goto (-49), 3) := by decide +kernel
theorem dX12_twoLies_130 : decode cX12_twoLies 130 = .ok (.iinc 6 1, 3) := by decide +kernel
theorem dX12_twoLies_133 : decode cX12_twoLies 133 = .ok (.goto (-98), 3) := by decide +kernel
theorem dX12_twoLies_136 : decode cX12_twoLies 136 = .ok (.iload 5, 2) := by decide +kernel
theorem dX12_twoLies_138 : decode cX12_twoLies 138 = .ok (.ireturn, 1) := by decide +kernel
theorem dX12_tells_0 : decode cX12_tells 0 = .ok (.iload_n 1, 1) := by decide +kernel
theorem dX12_tells_1 : decode cX12_tells 1 = .ok (.invokestatic 107, 3) := by decide +kernel
theorem dX12_tells_4 : decode cX12_tells 4 = .ok (.ifCond .eq 17, 3) := by decide +kernel
theorem dX12_tells_7 : decode cX12_tells 7 = .ok (.iload_n 2, 1) := by decide +kernel
theorem dX12_tells_8 : decode cX12_tells 8 = .ok (.invokestatic 77, 3) := by decide +kernel
theorem dX12_tells_11 : decode cX12_tells 11 = .ok (.ifCond .eq 10, 3) := by decide +kernel
theorem dX12_tells_14 : decode cX12_tells 14 = .ok (.iload_n 3, 1) := by decide +kernel
theorem dX12_tells_15 : decode cX12_tells 15 = .ok (.invokestatic 77, 3) := by decide +kernel
theorem dX12_tells_18 : decode cX12_tells 18 = .ok (.ifCond .ne 5, 3) := by decide +kernel
theorem dX12_tells_21 : decode cX12_tells 21 = .ok (.iconst (-1), 1) := by decide +kernel
theorem dX12_tells_22 : decode cX12_tells 22 = .ok (.ireturn, 1) := by decide +kernel
theorem dX12_tells_23 : decode cX12_tells 23 = .ok (.aload_n 0, 1) := by decide +kernel
theorem dX12_tells_24 : decode cX12_tells 24 = .ok (.iload_n 1, 1) := by decide +kernel
theorem dX12_tells_25 : decode cX12_tells 25 = .ok (.invokevirtual 131, 3) := by decide +kernel
theorem dX12_tells_28 : decode cX12_tells 28 = .ok (.istore 4, 2) := by decide +kernel
theorem dX12_tells_30 : decode cX12_tells 30 = .ok (.iload 4, 2) := by decide +kernel
theorem dX12_tells_32 : decode cX12_tells 32 = .ok (.ifCond .ge 8, 3) := by decide +kernel
theorem dX12_tells_35 : decode cX12_tells 35 = .ok (.iload 4, 2) := by decide +kernel
theorem dX12_tells_37 : decode cX12_tells 37 = .ok (.goto 21, 3) := by decide +kernel
theorem dX12_tells_40 : decode cX12_tells 40 = .ok (.aload_n 0, 1) := by decide +kernel
theorem dX12_tells_41 : decode cX12_tells 41 = .ok (.invokevirtual 153, 3) := by decide +kernel
theorem dX12_tells_44 : decode cX12_tells 44 = .ok (.aload_n 0, 1) := by decide +kernel
theorem dX12_tells_45 : decode cX12_tells 45 = .ok (.iload_n 1, 1) := by decide +kernel
theorem dX12_tells_46 : decode cX12_tells 46 = .ok (.iload_n 2, 1) := by decide +kernel
theorem dX12_tells_47 : decode cX12_tells 47 = .ok (.iload_n 3, 1) := by decide +kernel
theorem dX12_tells_48 : decode cX12_tells 48 = .ok (.invokevirtual 134, 3) := by decide +kernel
theorem dX12_tells_51 : decode cX12_tells 51 = .ok (.invokestatic 140, 3) := by decide +kernel
theorem dX12_tells_54 : decode cX12_tells 54 = .ok (.land, 1) := by decide +kernel
theorem dX12_tells_55 : decode cX12_tells 55 = .ok (.invokestatic 156, 3) := by decide +kernel
theorem dX12_tells_58 : decode cX12_tells 58 = .ok (.ireturn, 1) := by decide +kernel
theorem dX12_verdict_0 : decode cX12_verdict 0 = .ok (.aload_n 0, 1) := by decide +kernel
theorem dX12_verdict_1 : decode cX12_verdict 1 = .ok (.getfield 61, 3) := by decide +kernel
theorem dX12_verdict_4 : decode cX12_verdict 4 = .ok (.istore_n 1, 1) := by decide +kernel
theorem dX12_verdict_5 : decode cX12_verdict 5 = .ok (.iconst 0, 1) := by decide +kernel
theorem dX12_verdict_6 : decode cX12_verdict 6 = .ok (.istore_n 2, 1) := by decide +kernel
theorem dX12_verdict_7 : decode cX12_verdict 7 = .ok (.iload_n 2, 1) := by decide +kernel
theorem dX12_verdict_8 : decode cX12_verdict 8 = .ok (.aload_n 0, 1) := by decide +kernel
theorem dX12_verdict_9 : decode cX12_verdict 9 = .ok (.getfield 51, 3) := by decide +kernel
theorem dX12_verdict_12 : decode cX12_verdict 12 = .ok (.if_icmp .ge 23, 3) := by decide +kernel
theorem dX12_verdict_15 : decode cX12_verdict 15 = .ok (.iload_n 1, 1) := by decide +kernel
theorem dX12_verdict_16 : decode cX12_verdict 16 = .ok (.aload_n 0, 1) := by decide +kernel
theorem dX12_verdict_17 : decode cX12_verdict 17 = .ok (.getfield 16, 3) := by decide +kernel
theorem dX12_verdict_20 : decode cX12_verdict 20 = .ok (.iload_n 2, 1) := by decide +kernel
theorem dX12_verdict_21 : decode cX12_verdict 21 = .ok (.iaload, 1) := by decide +kernel
theorem dX12_verdict_22 : decode cX12_verdict 22 = .ok (.invokestatic 68, 3) := by decide +kernel
theorem dX12_verdict_25 : decode cX12_verdict 25 = .ok (.iconst (-1), 1) := by decide +kernel
theorem dX12_verdict_26 : decode cX12_verdict 26 = .ok (.ixor, 1) := by decide +kernel
theorem dX12_verdict_27 : decode cX12_verdict 27 = .ok (.iand, 1) := by decide +kernel
theorem dX12_verdict_28 : decode cX12_verdict 28 = .ok (.istore_n 1, 1) := by decide +kernel
theorem dX12_verdict_29 : decode cX12_verdict 29 = .ok (.iinc 2 1, 3) := by decide +kernel
theorem dX12_verdict_32 : decode cX12_verdict 32 = .ok (.goto (-25), 3) := by decide +kernel
theorem dX12_verdict_35 : decode cX12_verdict 35 = .ok (.iload_n 1, 1) := by decide +kernel
theorem dX12_verdict_36 : decode cX12_verdict 36 = .ok (.ireturn, 1) := by decide +kernel
theorem dX12_like_0 : decode cX12_like 0 = .ok (.lconst 0, 1) := by decide +kernel
theorem dX12_like_1 : decode cX12_like 1 = .ok (.lstore 5, 2) := by decide +kernel
theorem dX12_like_3 : decode cX12_like 3 = .ok (.iconst 0, 1) := by decide +kernel
theorem dX12_like_4 : decode cX12_like 4 = .ok (.istore 7, 2) := by decide +kernel
theorem dX12_like_6 : decode cX12_like 6 = .ok (.iload 7, 2) := by decide +kernel
theorem dX12_like_8 : decode cX12_like 8 = .ok (.bipush 64, 2) := by decide +kernel
theorem dX12_like_10 : decode cX12_like 10 = .ok (.if_icmp .ge 44, 3) := by decide +kernel
theorem dX12_like_13 : decode cX12_like 13 = .ok (.lload_n 1, 1) := by decide +kernel
theorem dX12_like_14 : decode cX12_like 14 = .ok (.iload 7, 2) := by decide +kernel
theorem dX12_like_16 : decode cX12_like 16 = .ok (.lshr, 1) := by decide +kernel
theorem dX12_like_17 : decode cX12_like 17 = .ok (.lconst 1, 1) := by decide +kernel
theorem dX12_like_18 : decode cX12_like 18 = .ok (.land, 1) := by decide +kernel
theorem dX12_like_19 : decode cX12_like 19 = .ok (.lconst 1, 1) := by decide +kernel
theorem dX12_like_20 : decode cX12_like 20 = .ok (.lcmp, 1) := by decide +kernel
theorem dX12_like_21 : decode cX12_like 21 = .ok (.ifCond .ne 27, 3) := by decide +kernel
theorem dX12_like_24 : decode cX12_like 24 = .ok (.iload 7, 2) := by decide +kernel
theorem dX12_like_26 : decode cX12_like 26 = .ok (.iload_n 3, 1) := by decide +kernel
theorem dX12_like_27 : decode cX12_like 27 = .ok (.ixor, 1) := by decide +kernel
theorem dX12_like_28 : decode cX12_like 28 = .ok (.aload_n 0, 1) := by decide +kernel
theorem dX12_like_29 : decode cX12_like 29 = .ok (.getfield 13, 3) := by decide +kernel
theorem dX12_like_32 : decode cX12_like 32 = .ok (.iload 4, 2) := by decide +kernel
theorem dX12_like_34 : decode cX12_like 34 = .ok (.iaload, 1) := by decide +kernel
theorem dX12_like_35 : decode cX12_like 35 = .ok (.iand, 1) := by decide +kernel
theorem dX12_like_36 : decode cX12_like 36 = .ok (.ifCond .ne 12, 3) := by decide +kernel
theorem dX12_like_39 : decode cX12_like 39 = .ok (.lload 5, 2) := by decide +kernel
theorem dX12_like_41 : decode cX12_like 41 = .ok (.lconst 1, 1) := by decide +kernel
theorem dX12_like_42 : decode cX12_like 42 = .ok (.iload 7, 2) := by decide +kernel
theorem dX12_like_44 : decode cX12_like 44 = .ok (.lshl, 1) := by decide +kernel
theorem dX12_like_45 : decode cX12_like 45 = .ok (.lor, 1) := by decide +kernel
theorem dX12_like_46 : decode cX12_like 46 = .ok (.lstore 5, 2) := by decide +kernel
theorem dX12_like_48 : decode cX12_like 48 = .ok (.iinc 7 1, 3) := by decide +kernel
theorem dX12_like_51 : decode cX12_like 51 = .ok (.goto (-45), 3) := by decide +kernel
theorem dX12_like_54 : decode cX12_like 54 = .ok (.lload 5, 2) := by decide +kernel
theorem dX12_like_56 : decode cX12_like 56 = .ok (.lreturn, 1) := by decide +kernel
theorem dX12_alike_0 : decode cX12_alike 0 = .ok (.lload_n 0, 1) := by decide +kernel
theorem dX12_alike_1 : decode cX12_alike 1 = .ok (.iconst 1, 1) := by decide +kernel
theorem dX12_alike_2 : decode cX12_alike 2 = .ok (.invokestatic 162, 3) := by decide +kernel
theorem dX12_alike_5 : decode cX12_alike 5 = .ok (.lload_n 0, 1) := by decide +kernel
theorem dX12_alike_6 : decode cX12_alike 6 = .ok (.iconst 0, 1) := by decide +kernel
theorem dX12_alike_7 : decode cX12_alike 7 = .ok (.invokestatic 162, 3) := by decide +kernel
theorem dX12_alike_10 : decode cX12_alike 10 = .ok (.ior, 1) := by decide +kernel
theorem dX12_alike_11 : decode cX12_alike 11 = .ok (.ireturn, 1) := by decide +kernel
theorem dX12_certain_0 : decode cX12_certain 0 = .ok (.aload_n 0, 1) := by decide +kernel
theorem dX12_certain_1 : decode cX12_certain 1 = .ok (.iload_n 1, 1) := by decide +kernel
theorem dX12_certain_2 : decode cX12_certain 2 = .ok (.invokevirtual 104, 3) := by decide +kernel
theorem dX12_certain_5 : decode cX12_certain 5 = .ok (.ifCond .eq 22, 3) := by decide +kernel
theorem dX12_certain_8 : decode cX12_certain 8 = .ok (.aload_n 0, 1) := by decide +kernel
theorem dX12_certain_9 : decode cX12_certain 9 = .ok (.aload_n 0, 1) := by decide +kernel
theorem dX12_certain_10 : decode cX12_certain 10 = .ok (.invokevirtual 153, 3) := by decide +kernel
theorem dX12_certain_13 : decode cX12_certain 13 = .ok (.aload_n 0, 1) := by decide +kernel
theorem dX12_certain_14 : decode cX12_certain 14 = .ok (.getfield 61, 3) := by decide +kernel
theorem dX12_certain_17 : decode cX12_certain 17 = .ok (.iload_n 1, 1) := by decide +kernel
theorem dX12_certain_18 : decode cX12_certain 18 = .ok (.invokevirtual 199, 3) := by decide +kernel
theorem dX12_certain_21 : decode cX12_certain 21 = .ok (.invokestatic 203, 3) := by decide +kernel
theorem dX12_certain_24 : decode cX12_certain 24 = .ok (.goto 4, 3) := by decide +kernel
theorem dX12_certain_27 : decode cX12_certain 27 = .ok (.iconst (-1), 1) := by decide +kernel
theorem dX12_certain_28 : decode cX12_certain 28 = .ok (.ireturn, 1) := by decide +kernel
theorem dX12_knowsOf_0 : decode cX12_knowsOf 0 = .ok (.aload_n 0, 1) := by decide +kernel
theorem dX12_knowsOf_1 : decode cX12_knowsOf 1 = .ok (.iload_n 1, 1) := by decide +kernel
theorem dX12_knowsOf_2 : decode cX12_knowsOf 2 = .ok (.invokevirtual 104, 3) := by decide +kernel
theorem dX12_knowsOf_5 : decode cX12_knowsOf 5 = .ok (.ifCond .eq 11, 3) := by decide +kernel
theorem dX12_knowsOf_8 : decode cX12_knowsOf 8 = .ok (.aload_n 0, 1) := by decide +kernel
theorem dX12_knowsOf_9 : decode cX12_knowsOf 9 = .ok (.iload_n 2, 1) := by decide +kernel
theorem dX12_knowsOf_10 : decode cX12_knowsOf 10 = .ok (.invokevirtual 104, 3) := by decide +kernel
theorem dX12_knowsOf_13 : decode cX12_knowsOf 13 = .ok (.ifCond .ne 5, 3) := by decide +kernel
theorem dX12_knowsOf_16 : decode cX12_knowsOf 16 = .ok (.iconst (-1), 1) := by decide +kernel
theorem dX12_knowsOf_17 : decode cX12_knowsOf 17 = .ok (.ireturn, 1) := by decide +kernel
theorem dX12_knowsOf_18 : decode cX12_knowsOf 18 = .ok (.aload_n 0, 1) := by decide +kernel
theorem dX12_knowsOf_19 : decode cX12_knowsOf 19 = .ok (.invokevirtual 153, 3) := by decide +kernel
theorem dX12_knowsOf_22 : decode cX12_knowsOf 22 = .ok (.lstore_n 3, 1) := by decide +kernel
theorem dX12_knowsOf_23 : decode cX12_knowsOf 23 = .ok (.aload_n 0, 1) := by decide +kernel
theorem dX12_knowsOf_24 : decode cX12_knowsOf 24 = .ok (.lload_n 3, 1) := by decide +kernel
theorem dX12_knowsOf_25 : decode cX12_knowsOf 25 = .ok (.aload_n 0, 1) := by decide +kernel
theorem dX12_knowsOf_26 : decode cX12_knowsOf 26 = .ok (.getfield 61, 3) := by decide +kernel
theorem dX12_knowsOf_29 : decode cX12_knowsOf 29 = .ok (.iload_n 1, 1) := by decide +kernel
theorem dX12_knowsOf_30 : decode cX12_knowsOf 30 = .ok (.invokevirtual 199, 3) := by decide +kernel
theorem dX12_knowsOf_33 : decode cX12_knowsOf 33 = .ok (.lstore 5, 2) := by decide +kernel
theorem dX12_knowsOf_35 : decode cX12_knowsOf 35 = .ok (.bipush 63, 2) := by decide +kernel
theorem dX12_knowsOf_37 : decode cX12_knowsOf 37 = .ok (.istore 7, 2) := by decide +kernel
theorem dX12_knowsOf_39 : decode cX12_knowsOf 39 = .ok (.iconst 0, 1) := by decide +kernel
theorem dX12_knowsOf_40 : decode cX12_knowsOf 40 = .ok (.istore 8, 2) := by decide +kernel
theorem dX12_knowsOf_42 : decode cX12_knowsOf 42 = .ok (.iload 8, 2) := by decide +kernel
theorem dX12_knowsOf_44 : decode cX12_knowsOf 44 = .ok (.bipush 64, 2) := by decide +kernel
theorem dX12_knowsOf_46 : decode cX12_knowsOf 46 = .ok (.if_icmp .ge 37, 3) := by decide +kernel
theorem dX12_knowsOf_49 : decode cX12_knowsOf 49 = .ok (.lload 5, 2) := by decide +kernel
theorem dX12_knowsOf_51 : decode cX12_knowsOf 51 = .ok (.iload 8, 2) := by decide +kernel
theorem dX12_knowsOf_53 : decode cX12_knowsOf 53 = .ok (.lshr, 1) := by decide +kernel
theorem dX12_knowsOf_54 : decode cX12_knowsOf 54 = .ok (.lconst 1, 1) := by decide +kernel
theorem dX12_knowsOf_55 : decode cX12_knowsOf 55 = .ok (.land, 1) := by decide +kernel
theorem dX12_knowsOf_56 : decode cX12_knowsOf 56 = .ok (.lconst 1, 1) := by decide +kernel
theorem dX12_knowsOf_57 : decode cX12_knowsOf 57 = .ok (.lcmp, 1) := by decide +kernel
theorem dX12_knowsOf_58 : decode cX12_knowsOf 58 = .ok (.ifCond .ne 19, 3) := by decide +kernel
theorem dX12_knowsOf_61 : decode cX12_knowsOf 61 = .ok (.iload 7, 2) := by decide +kernel
theorem dX12_knowsOf_63 : decode cX12_knowsOf 63 = .ok (.aload_n 0, 1) := by decide +kernel
theorem dX12_knowsOf_64 : decode cX12_knowsOf 64 = .ok (.lload_n 3, 1) := by decide +kernel
theorem dX12_knowsOf_65 : decode cX12_knowsOf 65 = .ok (.iload 8, 2) := by decide +kernel
theorem dX12_knowsOf_67 : decode cX12_knowsOf 67 = .ok (.iload_n 2, 1) := by decide +kernel
theorem dX12_knowsOf_68 : decode cX12_knowsOf 68 = .ok (.invokevirtual 199, 3) := by decide +kernel
theorem dX12_knowsOf_71 : decode cX12_knowsOf 71 = .ok (.invokestatic 203, 3) := by decide +kernel
theorem dX12_knowsOf_74 : decode cX12_knowsOf 74 = .ok (.iand, 1) := by decide +kernel
theorem dX12_knowsOf_75 : decode cX12_knowsOf 75 = .ok (.istore 7, 2) := by decide +kernel
theorem dX12_knowsOf_77 : decode cX12_knowsOf 77 = .ok (.iinc 8 1, 3) := by decide +kernel
theorem dX12_knowsOf_80 : decode cX12_knowsOf 80 = .ok (.goto (-38), 3) := by decide +kernel
theorem dX12_knowsOf_83 : decode cX12_knowsOf 83 = .ok (.iload 7, 2) := by decide +kernel
theorem dX12_knowsOf_85 : decode cX12_knowsOf 85 = .ok (.ireturn, 1) := by decide +kernel
theorem dX12_allKnow_0 : decode cX12_allKnow 0 = .ok (.iload_n 1, 1) := by decide +kernel
theorem dX12_allKnow_1 : decode cX12_allKnow 1 = .ok (.iconst 0, 1) := by decide +kernel
theorem dX12_allKnow_2 : decode cX12_allKnow 2 = .ok (.iconst 5, 1) := by decide +kernel
theorem dX12_allKnow_3 : decode cX12_allKnow 3 = .ok (.invokestatic 43, 3) := by decide +kernel
theorem dX12_allKnow_6 : decode cX12_allKnow 6 = .ok (.ifCond .ne 5, 3) := by decide +kernel
theorem dX12_allKnow_9 : decode cX12_allKnow 9 = .ok (.iconst (-1), 1) := by decide +kernel
theorem dX12_allKnow_10 : decode cX12_allKnow 10 = .ok (.ireturn, 1) := by decide +kernel
theorem dX12_allKnow_11 : decode cX12_allKnow 11 = .ok (.aload_n 0, 1) := by decide +kernel
theorem dX12_allKnow_12 : decode cX12_allKnow 12 = .ok (.getfield 47, 3) := by decide +kernel
theorem dX12_allKnow_15 : decode cX12_allKnow 15 = .ok (.ifCond .ne 6, 3) := by decide +kernel
theorem dX12_allKnow_18 : decode cX12_allKnow 18 = .ok (.bipush (-3), 2) := by decide +kernel
theorem dX12_allKnow_20 : decode cX12_allKnow 20 = .ok (.ireturn, 1) := by decide +kernel
theorem dX12_allKnow_21 : decode cX12_allKnow 21 = .ok (.aload_n 0, 1) := by decide +kernel
theorem dX12_allKnow_22 : decode cX12_allKnow 22 = .ok (.invokevirtual 153, 3) := by decide +kernel
theorem dX12_allKnow_25 : decode cX12_allKnow 25 = .ok (.lstore_n 2, 1) := by decide +kernel
theorem dX12_allKnow_26 : decode cX12_allKnow 26 = .ok (.lconst 0, 1) := by decide +kernel
theorem dX12_allKnow_27 : decode cX12_allKnow 27 = .ok (.lstore 4, 2) := by decide +kernel
theorem dX12_allKnow_29 : decode cX12_allKnow 29 = .ok (.iconst 0, 1) := by decide +kernel
theorem dX12_allKnow_30 : decode cX12_allKnow 30 = .ok (.istore 6, 2) := by decide +kernel
theorem dX12_allKnow_32 : decode cX12_allKnow 32 = .ok (.iload 6, 2) := by decide +kernel
theorem dX12_allKnow_34 : decode cX12_allKnow 34 = .ok (.aload_n 0, 1) := by decide +kernel
theorem dX12_allKnow_35 : decode cX12_allKnow 35 = .ok (.getfield 47, 3) := by decide +kernel
theorem dX12_allKnow_38 : decode cX12_allKnow 38 = .ok (.if_icmp .ge 25, 3) := by decide +kernel
theorem dX12_allKnow_41 : decode cX12_allKnow 41 = .ok (.lload 4, 2) := by decide +kernel
theorem dX12_allKnow_43 : decode cX12_allKnow 43 = .ok (.aload_n 0, 1) := by decide +kernel
theorem dX12_allKnow_44 : decode cX12_allKnow 44 = .ok (.lload_n 2, 1) := by decide +kernel
theorem dX12_allKnow_45 : decode cX12_allKnow 45 = .ok (.aload_n 0, 1) := by decide +kernel
theorem dX12_allKnow_46 : decode cX12_allKnow 46 = .ok (.getfield 61, 3) := by decide +kernel
theorem dX12_allKnow_49 : decode cX12_allKnow 49 = .ok (.iload 6, 2) := by decide +kernel
theorem dX12_allKnow_51 : decode cX12_allKnow 51 = .ok (.invokevirtual 199, 3) := by decide +kernel
theorem dX12_allKnow_54 : decode cX12_allKnow 54 = .ok (.lor, 1) := by decide +kernel
theorem dX12_allKnow_55 : decode cX12_allKnow 55 = .ok (.lstore 4, 2) := by decide +kernel
theorem dX12_allKnow_57 : decode cX12_allKnow 57 = .ok (.iinc 6 1, 3) := by decide +kernel
theorem dX12_allKnow_60 : decode cX12_allKnow 60 = .ok (.goto (-28), 3) := by decide +kernel
theorem dX12_allKnow_63 : decode cX12_allKnow 63 = .ok (.iconst 0, 1) := by decide +kernel
theorem dX12_allKnow_64 : decode cX12_allKnow 64 = .ok (.istore 6, 2) := by decide +kernel
theorem dX12_allKnow_66 : decode cX12_allKnow 66 = .ok (.iload 6, 2) := by decide +kernel
theorem dX12_allKnow_68 : decode cX12_allKnow 68 = .ok (.iload_n 1, 1) := by decide +kernel
theorem dX12_allKnow_69 : decode cX12_allKnow 69 = .ok (.if_icmp .ge 73, 3) := by decide +kernel
theorem dX12_allKnow_72 : decode cX12_allKnow 72 = .ok (.lload 4, 2) := by decide +kernel
theorem dX12_allKnow_74 : decode cX12_allKnow 74 = .ok (.lstore 7, 2) := by decide +kernel
theorem dX12_allKnow_76 : decode cX12_allKnow 76 = .ok (.iconst 0, 1) := by decide +kernel
theorem dX12_allKnow_77 : decode cX12_allKnow 77 = .ok (.istore 9, 2) := by decide +kernel
theorem dX12_allKnow_79 : decode cX12_allKnow 79 = .ok (.iload 9, 2) := by decide +kernel
theorem dX12_allKnow_81 : decode cX12_allKnow 81 = .ok (.bipush 64, 2) := by decide +kernel
theorem dX12_allKnow_83 : decode cX12_allKnow 83 = .ok (.if_icmp .ge 53, 3) := by decide +kernel
theorem dX12_allKnow_86 : decode cX12_allKnow 86 = .ok (.iconst 0, 1) := by decide +kernel
theorem dX12_allKnow_87 : decode cX12_allKnow 87 = .ok (.istore 10, 2) := by decide +kernel
theorem dX12_allKnow_89 : decode cX12_allKnow 89 = .ok (.iload 10, 2) := by decide +kernel
theorem dX12_allKnow_91 : decode cX12_allKnow 91 = .ok (.aload_n 0, 1) := by decide +kernel
theorem dX12_allKnow_92 : decode cX12_allKnow 92 = .ok (.getfield 47, 3) := by decide +kernel
theorem dX12_allKnow_95 : decode cX12_allKnow 95 = .ok (.if_icmp .ge 35, 3) := by decide +kernel
theorem dX12_allKnow_98 : decode cX12_allKnow 98 = .ok (.lload 7, 2) := by decide +kernel
theorem dX12_allKnow_100 : decode cX12_allKnow 100 = .ok (.iload 9, 2) := by decide +kernel
theorem dX12_allKnow_102 : decode cX12_allKnow 102 = .ok (.lshr, 1) := by decide +kernel
theorem dX12_allKnow_103 : decode cX12_allKnow 103 = .ok (.lconst 1, 1) := by decide +kernel
theorem dX12_allKnow_104 : decode cX12_allKnow 104 = .ok (.land, 1) := by decide +kernel
theorem dX12_allKnow_105 : decode cX12_allKnow 105 = .ok (.lconst 1, 1) := by decide +kernel
theorem dX12_allKnow_106 : decode cX12_allKnow 106 = .ok (.lcmp, 1) := by decide +kernel
theorem dX12_allKnow_107 : decode cX12_allKnow 107 = .ok (.ifCond .ne 17, 3) := by decide +kernel
theorem dX12_allKnow_110 : decode cX12_allKnow 110 = .ok (.lload 4, 2) := by decide +kernel
theorem dX12_allKnow_112 : decode cX12_allKnow 112 = .ok (.aload_n 0, 1) := by decide +kernel
theorem dX12_allKnow_113 : decode cX12_allKnow 113 = .ok (.lload_n 2, 1) := by decide +kernel
theorem dX12_allKnow_114 : decode cX12_allKnow 114 = .ok (.iload 9, 2) := by decide +kernel
theorem dX12_allKnow_116 : decode cX12_allKnow 116 = .ok (.iload 10, 2) := by decide +kernel
theorem dX12_allKnow_118 : decode cX12_allKnow 118 = .ok (.invokevirtual 199, 3) := by decide +kernel
theorem dX12_allKnow_121 : decode cX12_allKnow 121 = .ok (.lor, 1) := by decide +kernel
theorem dX12_allKnow_122 : decode cX12_allKnow 122 = .ok (.lstore 4, 2) := by decide +kernel
theorem dX12_allKnow_124 : decode cX12_allKnow 124 = .ok (.iinc 10 1, 3) := by decide +kernel
theorem dX12_allKnow_127 : decode cX12_allKnow 127 = .ok (.goto (-38), 3) := by decide +kernel
theorem dX12_allKnow_130 : decode cX12_allKnow 130 = .ok (.iinc 9 1, 3) := by decide +kernel
theorem dX12_allKnow_133 : decode cX12_allKnow 133 = .ok (.goto (-54), 3) := by decide +kernel
theorem dX12_allKnow_136 : decode cX12_allKnow 136 = .ok (.iinc 6 1, 3) := by decide +kernel
theorem dX12_allKnow_139 : decode cX12_allKnow 139 = .ok (.goto (-73), 3) := by decide +kernel
theorem dX12_allKnow_142 : decode cX12_allKnow 142 = .ok (.bipush 63, 2) := by decide +kernel
theorem dX12_allKnow_144 : decode cX12_allKnow 144 = .ok (.istore 6, 2) := by decide +kernel
theorem dX12_allKnow_146 : decode cX12_allKnow 146 = .ok (.iconst 0, 1) := by decide +kernel
theorem dX12_allKnow_147 : decode cX12_allKnow 147 = .ok (.istore 7, 2) := by decide +kernel
theorem dX12_allKnow_149 : decode cX12_allKnow 149 = .ok (.iload 7, 2) := by decide +kernel
theorem dX12_allKnow_151 : decode cX12_allKnow 151 = .ok (.bipush 64, 2) := by decide +kernel
theorem dX12_allKnow_153 : decode cX12_allKnow 153 = .ok (.if_icmp .ge 35, 3) := by decide +kernel
theorem dX12_allKnow_156 : decode cX12_allKnow 156 = .ok (.lload 4, 2) := by decide +kernel
theorem dX12_allKnow_158 : decode cX12_allKnow 158 = .ok (.iload 7, 2) := by decide +kernel
theorem dX12_allKnow_160 : decode cX12_allKnow 160 = .ok (.lshr, 1) := by decide +kernel
theorem dX12_allKnow_161 : decode cX12_allKnow 161 = .ok (.lconst 1, 1) := by decide +kernel
theorem dX12_allKnow_162 : decode cX12_allKnow 162 = .ok (.land, 1) := by decide +kernel
theorem dX12_allKnow_163 : decode cX12_allKnow 163 = .ok (.lconst 1, 1) := by decide +kernel
theorem dX12_allKnow_164 : decode cX12_allKnow 164 = .ok (.lcmp, 1) := by decide +kernel
theorem dX12_allKnow_165 : decode cX12_allKnow 165 = .ok (.ifCond .ne 17, 3) := by decide +kernel
theorem dX12_allKnow_168 : decode cX12_allKnow 168 = .ok (.iload 6, 2) := by decide +kernel
theorem dX12_allKnow_170 : decode cX12_allKnow 170 = .ok (.iload 7, 2) := by decide +kernel
theorem dX12_allKnow_172 : decode cX12_allKnow 172 = .ok (.aload_n 0, 1) := by decide +kernel
theorem dX12_allKnow_173 : decode cX12_allKnow 173 = .ok (.getfield 61, 3) := by decide +kernel
theorem dX12_allKnow_176 : decode cX12_allKnow 176 = .ok (.ixor, 1) := by decide +kernel
theorem dX12_allKnow_177 : decode cX12_allKnow 177 = .ok (.iconst (-1), 1) := by decide +kernel
theorem dX12_allKnow_178 : decode cX12_allKnow 178 = .ok (.ixor, 1) := by decide +kernel
theorem dX12_allKnow_179 : decode cX12_allKnow 179 = .ok (.iand, 1) := by decide +kernel
theorem dX12_allKnow_180 : decode cX12_allKnow 180 = .ok (.istore 6, 2) := by decide +kernel
theorem dX12_allKnow_182 : decode cX12_allKnow 182 = .ok (.iinc 7 1, 3) := by decide +kernel
theorem dX12_allKnow_185 : decode cX12_allKnow 185 = .ok (.goto (-36), 3) := by decide +kernel
theorem dX12_allKnow_188 : decode cX12_allKnow 188 = .ok (.iload 6, 2) := by decide +kernel
theorem dX12_allKnow_190 : decode cX12_allKnow 190 = .ok (.ireturn, 1) := by decide +kernel
theorem dX12_part_0 : decode cX12_part 0 = .ok (.aload_n 0, 1) := by decide +kernel
theorem dX12_part_1 : decode cX12_part 1 = .ok (.getfield 206, 3) := by decide +kernel
theorem dX12_part_4 : decode cX12_part 4 = .ok (.lstore_n 2, 1) := by decide +kernel
theorem dX12_part_5 : decode cX12_part 5 = .ok (.aload_n 0, 1) := by decide +kernel
theorem dX12_part_6 : decode cX12_part 6 = .ok (.getfield 210, 3) := by decide +kernel
theorem dX12_part_9 : decode cX12_part 9 = .ok (.lstore 4, 2) := by decide +kernel
theorem dX12_part_11 : decode cX12_part 11 = .ok (.lload 4, 2) := by decide +kernel
theorem dX12_part_13 : decode cX12_part 13 = .ok (.lconst 0, 1) := by decide +kernel
theorem dX12_part_14 : decode cX12_part 14 = .ok (.lcmp, 1) := by decide +kernel
theorem dX12_part_15 : decode cX12_part 15 = .ok (.ifCond .eq 19, 3) := by decide +kernel
theorem dX12_part_18 : decode cX12_part 18 = .ok (.lload_n 2, 1) := by decide +kernel
theorem dX12_part_19 : decode cX12_part 19 = .ok (.lload 4, 2) := by decide +kernel
theorem dX12_part_21 : decode cX12_part 21 = .ok (.lrem, 1) := by decide +kernel
theorem dX12_part_22 : decode cX12_part 22 = .ok (.lstore 6, 2) := by decide +kernel
theorem dX12_part_24 : decode cX12_part 24 = .ok (.lload 4, 2) := by decide +kernel
theorem dX12_part_26 : decode cX12_part 26 = .ok (.lstore_n 2, 1) := by decide +kernel
theorem dX12_part_27 : decode cX12_part 27 = .ok (.lload 6, 2) := by decide +kernel
theorem dX12_part_29 : decode cX12_part 29 = .ok (.lstore 4, 2) := by decide +kernel
theorem dX12_part_31 : decode cX12_part 31 = .ok (.goto (-20), 3) := by decide +kernel
theorem dX12_part_34 : decode cX12_part 34 = .ok (.iload_n 1, 1) := by decide +kernel
theorem dX12_part_35 : decode cX12_part 35 = .ok (.ifCond .ne 12, 3) := by decide +kernel
theorem dX12_part_38 : decode cX12_part 38 = .ok (.aload_n 0, 1) := by decide +kernel
theorem dX12_part_39 : decode cX12_part 39 = .ok (.getfield 206, 3) := by decide +kernel
theorem dX12_part_42 : decode cX12_part 42 = .ok (.lload_n 2, 1) := by decide +kernel
theorem dX12_part_43 : decode cX12_part 43 = .ok (.ldiv, 1) := by decide +kernel
theorem dX12_part_44 : decode cX12_part 44 = .ok (.goto 9, 3) := by decide +kernel
theorem dX12_part_47 : decode cX12_part 47 = .ok (.aload_n 0, 1) := by decide +kernel
theorem dX12_part_48 : decode cX12_part 48 = .ok (.getfield 210, 3) := by decide +kernel
theorem dX12_part_51 : decode cX12_part 51 = .ok (.lload_n 2, 1) := by decide +kernel
theorem dX12_part_52 : decode cX12_part 52 = .ok (.ldiv, 1) := by decide +kernel
theorem dX12_part_53 : decode cX12_part 53 = .ok (.lreturn, 1) := by decide +kernel
theorem dX12_pencils_0 : decode cX12_pencils 0 = .ok (.iload_n 1, 1) := by decide +kernel
theorem dX12_pencils_1 : decode cX12_pencils 1 = .ok (.iconst 1, 1) := by decide +kernel
theorem dX12_pencils_2 : decode cX12_pencils 2 = .ok (.bipush 9, 2) := by decide +kernel
theorem dX12_pencils_4 : decode cX12_pencils 4 = .ok (.invokestatic 43, 3) := by decide +kernel
theorem dX12_pencils_7 : decode cX12_pencils 7 = .ok (.ifCond .eq 22, 3) := by decide +kernel
theorem dX12_pencils_10 : decode cX12_pencils 10 = .ok (.iload_n 2, 1) := by decide +kernel
theorem dX12_pencils_11 : decode cX12_pencils 11 = .ok (.iconst 0, 1) := by decide +kernel
theorem dX12_pencils_12 : decode cX12_pencils 12 = .ok (.bipush 12, 2) := by decide +kernel
theorem dX12_pencils_14 : decode cX12_pencils 14 = .ok (.invokestatic 43, 3) := by decide +kernel
theorem dX12_pencils_17 : decode cX12_pencils 17 = .ok (.ifCond .eq 12, 3) := by decide +kernel
theorem dX12_pencils_20 : decode cX12_pencils 20 = .ok (.iload_n 3, 1) := by decide +kernel
theorem dX12_pencils_21 : decode cX12_pencils 21 = .ok (.iconst 0, 1) := by decide +kernel
theorem dX12_pencils_22 : decode cX12_pencils 22 = .ok (.iconst 1, 1) := by decide +kernel
theorem dX12_pencils_23 : decode cX12_pencils 23 = .ok (.invokestatic 43, 3) := by decide +kernel
theorem dX12_pencils_26 : decode cX12_pencils 26 = .ok (.ifCond .ne 7, 3) := by decide +kernel
theorem dX12_pencils_29 : decode cX12_pencils 29 = .ok (.ldc2_w 151, 3) := by decide +kernel
theorem dX12_pencils_32 : decode cX12_pencils 32 = .ok (.lreturn, 1) := by decide +kernel
theorem dX12_pencils_33 : decode cX12_pencils 33 = .ok (.aload_n 0, 1) := by decide +kernel
theorem dX12_pencils_34 : decode cX12_pencils 34 = .ok (.lconst 0, 1) := by decide +kernel
theorem dX12_pencils_35 : decode cX12_pencils 35 = .ok (.putfield 206, 3) := by decide +kernel
theorem dX12_pencils_38 : decode cX12_pencils 38 = .ok (.aload_n 0, 1) := by decide +kernel
theorem dX12_pencils_39 : decode cX12_pencils 39 = .ok (.ldc2_w 213, 3) := by decide +kernel
theorem dX12_pencils_42 : decode cX12_pencils 42 = .ok (.putfield 210, 3) := by decide +kernel
theorem dX12_pencils_45 : decode cX12_pencils 45 = .ok (.lconst 1, 1) := by decide +kernel
theorem dX12_pencils_46 : decode cX12_pencils 46 = .ok (.lstore 4, 2) := by decide +kernel
theorem dX12_pencils_48 : decode cX12_pencils 48 = .ok (.iconst 0, 1) := by decide +kernel
theorem dX12_pencils_49 : decode cX12_pencils 49 = .ok (.istore 6, 2) := by decide +kernel
theorem dX12_pencils_51 : decode cX12_pencils 51 = .ok (.iload 6, 2) := by decide +kernel
theorem dX12_pencils_53 : decode cX12_pencils 53 = .ok (.bipush 13, 2) := by decide +kernel
theorem dX12_pencils_55 : decode cX12_pencils 55 = .ok (.if_icmp .ge 85, 3) := by decide +kernel
theorem dX12_pencils_58 : decode cX12_pencils 58 = .ok (.lload 4, 2) := by decide +kernel
theorem dX12_pencils_60 : decode cX12_pencils 60 = .ok (.lstore 7, 2) := by decide +kernel
theorem dX12_pencils_62 : decode cX12_pencils 62 = .ok (.iconst 0, 1) := by decide +kernel
theorem dX12_pencils_63 : decode cX12_pencils 63 = .ok (.istore 9, 2) := by decide +kernel
theorem dX12_pencils_65 : decode cX12_pencils 65 = .ok (.iload 9, 2) := by decide +kernel
theorem dX12_pencils_67 : decode cX12_pencils 67 = .ok (.bipush 12, 2) := by decide +kernel
theorem dX12_pencils_69 : decode cX12_pencils 69 = .ok (.if_icmp .ge 31, 3) := by decide +kernel
theorem dX12_pencils_72 : decode cX12_pencils 72 = .ok (.lload 7, 2) := by decide +kernel
theorem dX12_pencils_74 : decode cX12_pencils 74 = .ok (.iload 9, 2) := by decide +kernel
theorem dX12_pencils_76 : decode cX12_pencils 76 = .ok (.iload 6, 2) := by decide +kernel
theorem dX12_pencils_78 : decode cX12_pencils 78 = .ok (.if_icmp .ge 8, 3) := by decide +kernel
theorem dX12_pencils_81 : decode cX12_pencils 81 = .ok (.iload_n 1, 1) := by decide +kernel
theorem dX12_pencils_82 : decode cX12_pencils 82 = .ok (.i2l, 1) := by decide +kernel
theorem dX12_pencils_83 : decode cX12_pencils 83 = .ok (.goto 8, 3) := by decide +kernel
theorem dX12_pencils_86 : decode cX12_pencils 86 = .ok (.bipush 10, 2) := by decide +kernel
theorem dX12_pencils_88 : decode cX12_pencils 88 = .ok (.iload_n 1, 1) := by decide +kernel
theorem dX12_pencils_89 : decode cX12_pencils 89 = .ok (.isub, 1) := by decide +kernel
theorem dX12_pencils_90 : decode cX12_pencils 90 = .ok (.i2l, 1) := by decide +kernel
theorem dX12_pencils_91 : decode cX12_pencils 91 = .ok (.lmul, 1) := by decide +kernel
theorem dX12_pencils_92 : decode cX12_pencils 92 = .ok (.lstore 7, 2) := by decide +kernel
theorem dX12_pencils_94 : decode cX12_pencils 94 = .ok (.iinc 9 1, 3) := by decide +kernel
theorem dX12_pencils_97 : decode cX12_pencils 97 = .ok (.goto (-32), 3) := by decide +kernel
theorem dX12_pencils_100 : decode cX12_pencils 100 = .ok (.iload 6, 2) := by decide +kernel
theorem dX12_pencils_102 : decode cX12_pencils 102 = .ok (.iload_n 2, 1) := by decide +kernel
theorem dX12_pencils_103 : decode cX12_pencils 103 = .ok (.if_icmp .lt 14, 3) := by decide +kernel
theorem dX12_pencils_106 : decode cX12_pencils 106 = .ok (.aload_n 0, 1) := by decide +kernel
theorem dX12_pencils_107 : decode cX12_pencils 107 = .ok (.dup, 1) := by decide +kernel
theorem dX12_pencils_108 : decode cX12_pencils 108 = .ok (.getfield 206, 3) := by decide +kernel
theorem dX12_pencils_111 : decode cX12_pencils 111 = .ok (.lload 7, 2) := by decide +kernel
theorem dX12_pencils_113 : decode cX12_pencils 113 = .ok (.ladd, 1) := by decide +kernel
theorem dX12_pencils_114 : decode cX12_pencils 114 = .ok (.putfield 206, 3) := by decide +kernel
theorem dX12_pencils_117 : decode cX12_pencils 117 = .ok (.lload 4, 2) := by decide +kernel
theorem dX12_pencils_119 : decode cX12_pencils 119 = .ok (.bipush 12, 2) := by decide +kernel
theorem dX12_pencils_121 : decode cX12_pencils 121 = .ok (.iload 6, 2) := by decide +kernel
theorem dX12_pencils_123 : decode cX12_pencils 123 = .ok (.isub, 1) := by decide +kernel
theorem dX12_pencils_124 : decode cX12_pencils 124 = .ok (.i2l, 1) := by decide +kernel
theorem dX12_pencils_125 : decode cX12_pencils 125 = .ok (.lmul, 1) := by decide +kernel
theorem dX12_pencils_126 : decode cX12_pencils 126 = .ok (.iload 6, 2) := by decide +kernel
theorem dX12_pencils_128 : decode cX12_pencils 128 = .ok (.iconst 1, 1) := by decide +kernel
theorem dX12_pencils_129 : decode cX12_pencils 129 = .ok (.iadd, 1) := by decide +kernel
theorem dX12_pencils_130 : decode cX12_pencils 130 = .ok (.i2l, 1) := by decide +kernel
theorem dX12_pencils_131 : decode cX12_pencils 131 = .ok (.ldiv, 1) := by decide +kernel
theorem dX12_pencils_132 : decode cX12_pencils 132 = .ok (.lstore 4, 2) := by decide +kernel
theorem dX12_pencils_134 : decode cX12_pencils 134 = .ok (.iinc 6 1, 3) := by decide +kernel
theorem dX12_pencils_137 : decode cX12_pencils 137 = .ok (.goto (-86), 3) := by decide +kernel
theorem dX12_pencils_140 : decode cX12_pencils 140 = .ok (.aload_n 0, 1) := by decide +kernel
theorem dX12_pencils_141 : decode cX12_pencils 141 = .ok (.iload_n 3, 1) := by decide +kernel
theorem dX12_pencils_142 : decode cX12_pencils 142 = .ok (.invokevirtual 215, 3) := by decide +kernel
theorem dX12_pencils_145 : decode cX12_pencils 145 = .ok (.lreturn, 1) := by decide +kernel
theorem dX12_leastOf_0 : decode cX12_leastOf 0 = .ok (.aload_n 0, 1) := by decide +kernel
theorem dX12_leastOf_1 : decode cX12_leastOf 1 = .ok (.getfield 25, 3) := by decide +kernel
theorem dX12_leastOf_4 : decode cX12_leastOf 4 = .ok (.iload_n 1, 1) := by decide +kernel
theorem dX12_leastOf_5 : decode cX12_leastOf 5 = .ok (.iaload, 1) := by decide +kernel
theorem dX12_leastOf_6 : decode cX12_leastOf 6 = .ok (.ifCond .ne 8, 3) := by decide +kernel
theorem dX12_leastOf_9 : decode cX12_leastOf 9 = .ok (.bipush (-128), 2) := by decide +kernel
theorem dX12_leastOf_11 : decode cX12_leastOf 11 = .ok (.goto 21, 3) := by decide +kernel
theorem dX12_leastOf_14 : decode cX12_leastOf 14 = .ok (.aload_n 0, 1) := by decide +kernel
theorem dX12_leastOf_15 : decode cX12_leastOf 15 = .ok (.getfield 25, 3) := by decide +kernel
theorem dX12_leastOf_18 : decode cX12_leastOf 18 = .ok (.iload_n 1, 1) := by decide +kernel
theorem dX12_leastOf_19 : decode cX12_leastOf 19 = .ok (.iaload, 1) := by decide +kernel
theorem dX12_leastOf_20 : decode cX12_leastOf 20 = .ok (.iconst 1, 1) := by decide +kernel
theorem dX12_leastOf_21 : decode cX12_leastOf 21 = .ok (.if_icmp .ne 9, 3) := by decide +kernel
theorem dX12_leastOf_24 : decode cX12_leastOf 24 = .ok (.sipush (-32768), 3) := by decide +kernel
theorem dX12_leastOf_27 : decode cX12_leastOf 27 = .ok (.goto 5, 3) := by decide +kernel
theorem dX12_leastOf_30 : decode cX12_leastOf 30 = .ok (.ldc 222, 2) := by decide +kernel
theorem dX12_leastOf_32 : decode cX12_leastOf 32 = .ok (.ireturn, 1) := by decide +kernel
theorem dX12_noRow_0 : decode cX12_noRow 0 = .ok (.aload_n 0, 1) := by decide +kernel
theorem dX12_noRow_1 : decode cX12_noRow 1 = .ok (.getfield 22, 3) := by decide +kernel
theorem dX12_noRow_4 : decode cX12_noRow 4 = .ok (.iload_n 1, 1) := by decide +kernel
theorem dX12_noRow_5 : decode cX12_noRow 5 = .ok (.iaload, 1) := by decide +kernel
theorem dX12_noRow_6 : decode cX12_noRow 6 = .ok (.ifCond .ne 8, 3) := by decide +kernel
theorem dX12_noRow_9 : decode cX12_noRow 9 = .ok (.bipush (-11), 2) := by decide +kernel
theorem dX12_noRow_11 : decode cX12_noRow 11 = .ok (.goto 19, 3) := by decide +kernel
theorem dX12_noRow_14 : decode cX12_noRow 14 = .ok (.aload_n 0, 1) := by decide +kernel
theorem dX12_noRow_15 : decode cX12_noRow 15 = .ok (.getfield 22, 3) := by decide +kernel
theorem dX12_noRow_18 : decode cX12_noRow 18 = .ok (.iload_n 1, 1) := by decide +kernel
theorem dX12_noRow_19 : decode cX12_noRow 19 = .ok (.iaload, 1) := by decide +kernel
theorem dX12_noRow_20 : decode cX12_noRow 20 = .ok (.iconst 1, 1) := by decide +kernel
theorem dX12_noRow_21 : decode cX12_noRow 21 = .ok (.if_icmp .ne 8, 3) := by decide +kernel
theorem dX12_noRow_24 : decode cX12_noRow 24 = .ok (.bipush (-12), 2) := by decide +kernel
theorem dX12_noRow_26 : decode cX12_noRow 26 = .ok (.goto 4, 3) := by decide +kernel
theorem dX12_noRow_29 : decode cX12_noRow 29 = .ok (.iconst 0, 1) := by decide +kernel
theorem dX12_noRow_30 : decode cX12_noRow 30 = .ok (.ireturn, 1) := by decide +kernel
theorem dX12_fits_0 : decode cX12_fits 0 = .ok (.iload_n 1, 1) := by decide +kernel
theorem dX12_fits_1 : decode cX12_fits 1 = .ok (.invokestatic 107, 3) := by decide +kernel
theorem dX12_fits_4 : decode cX12_fits 4 = .ok (.ifCond .ne 7, 3) := by decide +kernel
theorem dX12_fits_7 : decode cX12_fits 7 = .ok (.ldc2_w 151, 3) := by decide +kernel
theorem dX12_fits_10 : decode cX12_fits 10 = .ok (.lreturn, 1) := by decide +kernel
theorem dX12_fits_11 : decode cX12_fits 11 = .ok (.aload_n 0, 1) := by decide +kernel
theorem dX12_fits_12 : decode cX12_fits 12 = .ok (.iload_n 1, 1) := by decide +kernel
theorem dX12_fits_13 : decode cX12_fits 13 = .ok (.invokevirtual 223, 3) := by decide +kernel
theorem dX12_fits_16 : decode cX12_fits 16 = .ok (.istore_n 2, 1) := by decide +kernel
theorem dX12_fits_17 : decode cX12_fits 17 = .ok (.iload_n 2, 1) := by decide +kernel
theorem dX12_fits_18 : decode cX12_fits 18 = .ok (.ifCond .ge 10, 3) := by decide +kernel
theorem dX12_fits_21 : decode cX12_fits 21 = .ok (.ldc2_w 226, 3) := by decide +kernel
theorem dX12_fits_24 : decode cX12_fits 24 = .ok (.iload_n 2, 1) := by decide +kernel
theorem dX12_fits_25 : decode cX12_fits 25 = .ok (.i2l, 1) := by decide +kernel
theorem dX12_fits_26 : decode cX12_fits 26 = .ok (.lsub, 1) := by decide +kernel
theorem dX12_fits_27 : decode cX12_fits 27 = .ok (.lreturn, 1) := by decide +kernel
theorem dX12_fits_28 : decode cX12_fits 28 = .ok (.aload_n 0, 1) := by decide +kernel
theorem dX12_fits_29 : decode cX12_fits 29 = .ok (.getfield 28, 3) := by decide +kernel
theorem dX12_fits_32 : decode cX12_fits 32 = .ok (.iload_n 1, 1) := by decide +kernel
theorem dX12_fits_33 : decode cX12_fits 33 = .ok (.iaload, 1) := by decide +kernel
theorem dX12_fits_34 : decode cX12_fits 34 = .ok (.aload_n 0, 1) := by decide +kernel
theorem dX12_fits_35 : decode cX12_fits 35 = .ok (.getfield 51, 3) := by decide +kernel
theorem dX12_fits_38 : decode cX12_fits 38 = .ok (.if_icmp .le 7, 3) := by decide +kernel
theorem dX12_fits_41 : decode cX12_fits 41 = .ok (.ldc2_w 228, 3) := by decide +kernel
theorem dX12_fits_44 : decode cX12_fits 44 = .ok (.lreturn, 1) := by decide +kernel
theorem dX12_fits_45 : decode cX12_fits 45 = .ok (.aload_n 0, 1) := by decide +kernel
theorem dX12_fits_46 : decode cX12_fits 46 = .ok (.invokevirtual 144, 3) := by decide +kernel
theorem dX12_fits_49 : decode cX12_fits 49 = .ok (.lstore_n 3, 1) := by decide +kernel
theorem dX12_fits_50 : decode cX12_fits 50 = .ok (.iconst 0, 1) := by decide +kernel
theorem dX12_fits_51 : decode cX12_fits 51 = .ok (.istore 5, 2) := by decide +kernel
theorem dX12_fits_53 : decode cX12_fits 53 = .ok (.iload 5, 2) := by decide +kernel
theorem dX12_fits_55 : decode cX12_fits 55 = .ok (.aload_n 0, 1) := by decide +kernel
theorem dX12_fits_56 : decode cX12_fits 56 = .ok (.getfield 28, 3) := by decide +kernel
theorem dX12_fits_59 : decode cX12_fits 59 = .ok (.iload_n 1, 1) := by decide +kernel
theorem dX12_fits_60 : decode cX12_fits 60 = .ok (.iaload, 1) := by decide +kernel
theorem dX12_fits_61 : decode cX12_fits 61 = .ok (.if_icmp .ge 86, 3) := by decide +kernel
theorem dX12_fits_64 : decode cX12_fits 64 = .ok (.aload_n 0, 1) := by decide +kernel
theorem dX12_fits_65 : decode cX12_fits 65 = .ok (.getfield 31, 3) := by decide +kernel
theorem dX12_fits_68 : decode cX12_fits 68 = .ok (.bipush 100, 2) := by decide +kernel
theorem dX12_fits_70 : decode cX12_fits 70 = .ok (.iload_n 1, 1) := by decide +kernel
theorem dX12_fits_71 : decode cX12_fits 71 = .ok (.imul, 1) := by decide +kernel
theorem dX12_fits_72 : decode cX12_fits 72 = .ok (.iload 5, 2) := by decide +kernel
theorem dX12_fits_74 : decode cX12_fits 74 = .ok (.iadd, 1) := by decide +kernel
theorem dX12_fits_75 : decode cX12_fits 75 = .ok (.iaload, 1) := by decide +kernel
theorem dX12_fits_76 : decode cX12_fits 76 = .ok (.istore 6, 2) := by decide +kernel
theorem dX12_fits_78 : decode cX12_fits 78 = .ok (.iload 6, 2) := by decide +kernel
theorem dX12_fits_80 : decode cX12_fits 80 = .ok (.aload_n 0, 1) := by decide +kernel
theorem dX12_fits_81 : decode cX12_fits 81 = .ok (.iload_n 1, 1) := by decide +kernel
theorem dX12_fits_82 : decode cX12_fits 82 = .ok (.invokevirtual 230, 3) := by decide +kernel
theorem dX12_fits_85 : decode cX12_fits 85 = .ok (.if_icmp .ne 6, 3) := by decide +kernel
theorem dX12_fits_88 : decode cX12_fits 88 = .ok (.goto 53, 3) := by decide +kernel
theorem dX12_fits_91 : decode cX12_fits 91 = .ok (.iload 6, 2) := by decide +kernel
theorem dX12_fits_93 : decode cX12_fits 93 = .ok (.iconst 0, 1) := by decide +kernel
theorem dX12_fits_94 : decode cX12_fits 94 = .ok (.iconst 1, 1) := by decide +kernel
theorem dX12_fits_95 : decode cX12_fits 95 = .ok (.invokestatic 43, 3) := by decide +kernel
theorem dX12_fits_98 : decode cX12_fits 98 = .ok (.ifCond .ne 7, 3) := by decide +kernel
theorem dX12_fits_101 : decode cX12_fits 101 = .ok (.ldc2_w 228, 3) := by decide +kernel
theorem dX12_fits_104 : decode cX12_fits 104 = .ok (.lreturn, 1) := by decide +kernel
theorem dX12_fits_105 : decode cX12_fits 105 = .ok (.lload_n 3, 1) := by decide +kernel
theorem dX12_fits_106 : decode cX12_fits 106 = .ok (.iload 6, 2) := by decide +kernel
theorem dX12_fits_108 : decode cX12_fits 108 = .ok (.iconst 1, 1) := by decide +kernel
theorem dX12_fits_109 : decode cX12_fits 109 = .ok (.if_icmp .ne 16, 3) := by decide +kernel
theorem dX12_fits_112 : decode cX12_fits 112 = .ok (.aload_n 0, 1) := by decide +kernel
theorem dX12_fits_113 : decode cX12_fits 113 = .ok (.getfield 16, 3) := by decide +kernel
theorem dX12_fits_116 : decode cX12_fits 116 = .ok (.iload 5, 2) := by decide +kernel
theorem dX12_fits_118 : decode cX12_fits 118 = .ok (.iaload, 1) := by decide +kernel
theorem dX12_fits_119 : decode cX12_fits 119 = .ok (.invokestatic 140, 3) := by decide +kernel
theorem dX12_fits_122 : decode cX12_fits 122 = .ok (.goto 17, 3) := by decide +kernel
theorem dX12_fits_125 : decode cX12_fits 125 = .ok (.aload_n 0, 1) := by decide +kernel
theorem dX12_fits_126 : decode cX12_fits 126 = .ok (.getfield 16, 3) := by decide +kernel
theorem dX12_fits_129 : decode cX12_fits 129 = .ok (.iload 5, 2) := by decide +kernel
theorem dX12_fits_131 : decode cX12_fits 131 = .ok (.iaload, 1) := by decide +kernel
theorem dX12_fits_132 : decode cX12_fits 132 = .ok (.invokestatic 140, 3) := by decide +kernel
theorem dX12_fits_135 : decode cX12_fits 135 = .ok (.ldc2_w 138, 3) := by decide +kernel
theorem dX12_fits_138 : decode cX12_fits 138 = .ok (.lxor, 1) := by decide +kernel
theorem dX12_fits_139 : decode cX12_fits 139 = .ok (.land, 1) := by decide +kernel
theorem dX12_fits_140 : decode cX12_fits 140 = .ok (.lstore_n 3, 1) := by decide +kernel
theorem dX12_fits_141 : decode cX12_fits 141 = .ok (.iinc 5 1, 3) := by decide +kernel
theorem dX12_fits_144 : decode cX12_fits 144 = .ok (.goto (-91), 3) := by decide +kernel
theorem dX12_fits_147 : decode cX12_fits 147 = .ok (.lload_n 3, 1) := by decide +kernel
theorem dX12_fits_148 : decode cX12_fits 148 = .ok (.lreturn, 1) := by decide +kernel
theorem dX12_judge_0 : decode cX12_judge 0 = .ok (.iload_n 1, 1) := by decide +kernel
theorem dX12_judge_1 : decode cX12_judge 1 = .ok (.invokestatic 107, 3) := by decide +kernel
theorem dX12_judge_4 : decode cX12_judge 4 = .ok (.ifCond .ne 5, 3) := by decide +kernel
theorem dX12_judge_7 : decode cX12_judge 7 = .ok (.iconst (-1), 1) := by decide +kernel
theorem dX12_judge_8 : decode cX12_judge 8 = .ok (.ireturn, 1) := by decide +kernel
theorem dX12_judge_9 : decode cX12_judge 9 = .ok (.aload_n 0, 1) := by decide +kernel
theorem dX12_judge_10 : decode cX12_judge 10 = .ok (.iload_n 1, 1) := by decide +kernel
theorem dX12_judge_11 : decode cX12_judge 11 = .ok (.invokevirtual 223, 3) := by decide +kernel
theorem dX12_judge_14 : decode cX12_judge 14 = .ok (.istore_n 2, 1) := by decide +kernel
theorem dX12_judge_15 : decode cX12_judge 15 = .ok (.iload_n 2, 1) := by decide +kernel
theorem dX12_judge_16 : decode cX12_judge 16 = .ok (.ifCond .ge 5, 3) := by decide +kernel
theorem dX12_judge_19 : decode cX12_judge 19 = .ok (.iload_n 2, 1) := by decide +kernel
theorem dX12_judge_20 : decode cX12_judge 20 = .ok (.ireturn, 1) := by decide +kernel
theorem dX12_judge_21 : decode cX12_judge 21 = .ok (.iconst 0, 1) := by decide +kernel
theorem dX12_judge_22 : decode cX12_judge 22 = .ok (.istore_n 3, 1) := by decide +kernel
theorem dX12_judge_23 : decode cX12_judge 23 = .ok (.iload_n 3, 1) := by decide +kernel
theorem dX12_judge_24 : decode cX12_judge 24 = .ok (.aload_n 0, 1) := by decide +kernel
theorem dX12_judge_25 : decode cX12_judge 25 = .ok (.getfield 28, 3) := by decide +kernel
theorem dX12_judge_28 : decode cX12_judge 28 = .ok (.iload_n 1, 1) := by decide +kernel
theorem dX12_judge_29 : decode cX12_judge 29 = .ok (.iaload, 1) := by decide +kernel
theorem dX12_judge_30 : decode cX12_judge 30 = .ok (.if_icmp .ge 59, 3) := by decide +kernel
theorem dX12_judge_33 : decode cX12_judge 33 = .ok (.aload_n 0, 1) := by decide +kernel
theorem dX12_judge_34 : decode cX12_judge 34 = .ok (.getfield 31, 3) := by decide +kernel
theorem dX12_judge_37 : decode cX12_judge 37 = .ok (.bipush 100, 2) := by decide +kernel
theorem dX12_judge_39 : decode cX12_judge 39 = .ok (.iload_n 1, 1) := by decide +kernel
theorem dX12_judge_40 : decode cX12_judge 40 = .ok (.imul, 1) := by decide +kernel
theorem dX12_judge_41 : decode cX12_judge 41 = .ok (.iload_n 3, 1) := by decide +kernel
theorem dX12_judge_42 : decode cX12_judge 42 = .ok (.iadd, 1) := by decide +kernel
theorem dX12_judge_43 : decode cX12_judge 43 = .ok (.iaload, 1) := by decide +kernel
theorem dX12_judge_44 : decode cX12_judge 44 = .ok (.istore 4, 2) := by decide +kernel
theorem dX12_judge_46 : decode cX12_judge 46 = .ok (.iload 4, 2) := by decide +kernel
theorem dX12_judge_48 : decode cX12_judge 48 = .ok (.aload_n 0, 1) := by decide +kernel
theorem dX12_judge_49 : decode cX12_judge 49 = .ok (.iload_n 1, 1) := by decide +kernel
theorem dX12_judge_50 : decode cX12_judge 50 = .ok (.invokevirtual 230, 3) := by decide +kernel
theorem dX12_judge_53 : decode cX12_judge 53 = .ok (.if_icmp .eq 30, 3) := by decide +kernel
theorem dX12_judge_56 : decode cX12_judge 56 = .ok (.iload_n 3, 1) := by decide +kernel
theorem dX12_judge_57 : decode cX12_judge 57 = .ok (.aload_n 0, 1) := by decide +kernel
theorem dX12_judge_58 : decode cX12_judge 58 = .ok (.getfield 51, 3) := by decide +kernel
theorem dX12_judge_61 : decode cX12_judge 61 = .ok (.if_icmp .gt 20, 3) := by decide +kernel
theorem dX12_judge_64 : decode cX12_judge 64 = .ok (.iload 4, 2) := by decide +kernel
theorem dX12_judge_66 : decode cX12_judge 66 = .ok (.aload_n 0, 1) := by decide +kernel
theorem dX12_judge_67 : decode cX12_judge 67 = .ok (.iconst 1, 1) := by decide +kernel
theorem dX12_judge_68 : decode cX12_judge 68 = .ok (.iload_n 3, 1) := by decide +kernel
theorem dX12_judge_69 : decode cX12_judge 69 = .ok (.ishl, 1) := by decide +kernel
theorem dX12_judge_70 : decode cX12_judge 70 = .ok (.iconst 1, 1) := by decide +kernel
theorem dX12_judge_71 : decode cX12_judge 71 = .ok (.isub, 1) := by decide +kernel
theorem dX12_judge_72 : decode cX12_judge 72 = .ok (.invokevirtual 148, 3) := by decide +kernel
theorem dX12_judge_75 : decode cX12_judge 75 = .ok (.invokestatic 156, 3) := by decide +kernel
theorem dX12_judge_78 : decode cX12_judge 78 = .ok (.if_icmp .eq 5, 3) := by decide +kernel
theorem dX12_judge_81 : decode cX12_judge 81 = .ok (.iload_n 3, 1) := by decide +kernel
theorem dX12_judge_82 : decode cX12_judge 82 = .ok (.ireturn, 1) := by decide +kernel
theorem dX12_judge_83 : decode cX12_judge 83 = .ok (.iinc 3 1, 3) := by decide +kernel
theorem dX12_judge_86 : decode cX12_judge 86 = .ok (.goto (-63), 3) := by decide +kernel
theorem dX12_judge_89 : decode cX12_judge 89 = .ok (.bipush (-4), 2) := by decide +kernel
theorem dX12_judge_91 : decode cX12_judge 91 = .ok (.ireturn, 1) := by decide +kernel
theorem dX12_seeds_0 : decode cX12_seeds 0 = .ok (.iload_n 1, 1) := by decide +kernel
theorem dX12_seeds_1 : decode cX12_seeds 1 = .ok (.iconst 1, 1) := by decide +kernel
theorem dX12_seeds_2 : decode cX12_seeds 2 = .ok (.bipush 20, 2) := by decide +kernel
theorem dX12_seeds_4 : decode cX12_seeds 4 = .ok (.invokestatic 43, 3) := by decide +kernel
theorem dX12_seeds_7 : decode cX12_seeds 7 = .ok (.ifCond .eq 12, 3) := by decide +kernel
theorem dX12_seeds_10 : decode cX12_seeds 10 = .ok (.iload_n 3, 1) := by decide +kernel
theorem dX12_seeds_11 : decode cX12_seeds 11 = .ok (.iconst 0, 1) := by decide +kernel
theorem dX12_seeds_12 : decode cX12_seeds 12 = .ok (.iconst 1, 1) := by decide +kernel
theorem dX12_seeds_13 : decode cX12_seeds 13 = .ok (.invokestatic 43, 3) := by decide +kernel
theorem dX12_seeds_16 : decode cX12_seeds 16 = .ok (.ifCond .ne 5, 3) := by decide +kernel
theorem dX12_seeds_19 : decode cX12_seeds 19 = .ok (.iconst (-1), 1) := by decide +kernel
theorem dX12_seeds_20 : decode cX12_seeds 20 = .ok (.ireturn, 1) := by decide +kernel
theorem dX12_seeds_21 : decode cX12_seeds 21 = .ok (.aload_n 0, 1) := by decide +kernel
theorem dX12_seeds_22 : decode cX12_seeds 22 = .ok (.aload_n 0, 1) := by decide +kernel
theorem dX12_seeds_23 : decode cX12_seeds 23 = .ok (.getfield 40, 3) := by decide +kernel
theorem dX12_seeds_26 : decode cX12_seeds 26 = .ok (.invokevirtual 114, 3) := by decide +kernel
theorem dX12_seeds_29 : decode cX12_seeds 29 = .ok (.iload_n 2, 1) := by decide +kernel
theorem dX12_seeds_30 : decode cX12_seeds 30 = .ok (.istore 4, 2) := by decide +kernel
theorem dX12_seeds_32 : decode cX12_seeds 32 = .ok (.iconst 0, 1) := by decide +kernel
theorem dX12_seeds_33 : decode cX12_seeds 33 = .ok (.istore 5, 2) := by decide +kernel
theorem dX12_seeds_35 : decode cX12_seeds 35 = .ok (.iconst 0, 1) := by decide +kernel
theorem dX12_seeds_36 : decode cX12_seeds 36 = .ok (.istore 6, 2) := by decide +kernel
theorem dX12_seeds_38 : decode cX12_seeds 38 = .ok (.iconst 0, 1) := by decide +kernel
theorem dX12_seeds_39 : decode cX12_seeds 39 = .ok (.istore 7, 2) := by decide +kernel
theorem dX12_seeds_41 : decode cX12_seeds 41 = .ok (.iload 7, 2) := by decide +kernel
theorem dX12_seeds_43 : decode cX12_seeds 43 = .ok (.iload_n 1, 1) := by decide +kernel
theorem dX12_seeds_44 : decode cX12_seeds 44 = .ok (.if_icmp .ge 158, 3) := by decide +kernel
theorem dX12_seeds_47 : decode cX12_seeds 47 = .ok (.aload_n 0, 1) := by decide +kernel
theorem dX12_seeds_48 : decode cX12_seeds 48 = .ok (.iconst 0, 1) := by decide +kernel
theorem dX12_seeds_49 : decode cX12_seeds 49 = .ok (.putfield 51, 3) := by decide +kernel
theorem dX12_seeds_52 : decode cX12_seeds 52 = .ok (.iconst 0, 1) := by decide +kernel
theorem dX12_seeds_53 : decode cX12_seeds 53 = .ok (.istore 8, 2) := by decide +kernel
theorem dX12_seeds_55 : decode cX12_seeds 55 = .ok (.iload 8, 2) := by decide +kernel
theorem dX12_seeds_57 : decode cX12_seeds 57 = .ok (.aload_n 0, 1) := by decide +kernel
theorem dX12_seeds_58 : decode cX12_seeds 58 = .ok (.getfield 47, 3) := by decide +kernel
theorem dX12_seeds_61 : decode cX12_seeds 61 = .ok (.if_icmp .ge 123, 3) := by decide +kernel
theorem dX12_seeds_64 : decode cX12_seeds 64 = .ok (.iconst 0, 1) := by decide +kernel
theorem dX12_seeds_65 : decode cX12_seeds 65 = .ok (.istore 9, 2) := by decide +kernel
theorem dX12_seeds_67 : decode cX12_seeds 67 = .ok (.iload 9, 2) := by decide +kernel
theorem dX12_seeds_69 : decode cX12_seeds 69 = .ok (.iconst 4, 1) := by decide +kernel
theorem dX12_seeds_70 : decode cX12_seeds 70 = .ok (.if_icmp .ge 59, 3) := by decide +kernel
theorem dX12_seeds_73 : decode cX12_seeds 73 = .ok (.iload 4, 2) := by decide +kernel
theorem dX12_seeds_75 : decode cX12_seeds 75 = .ok (.ldc 233, 2) := by decide +kernel
theorem dX12_seeds_77 : decode cX12_seeds 77 = .ok (.imul, 1) := by decide +kernel
theorem dX12_seeds_78 : decode cX12_seeds 78 = .ok (.sipush 12345, 3) := by decide +kernel
theorem dX12_seeds_81 : decode cX12_seeds 81 = .ok (.iadd, 1) := by decide +kernel
theorem dX12_seeds_82 : decode cX12_seeds 82 = .ok (.istore 4, 2) := by decide +kernel
theorem dX12_seeds_84 : decode cX12_seeds 84 = .ok (.aload_n 0, 1) := by decide +kernel
theorem dX12_seeds_85 : decode cX12_seeds 85 = .ok (.getfield 34, 3) := by decide +kernel
theorem dX12_seeds_88 : decode cX12_seeds 88 = .ok (.iload 9, 2) := by decide +kernel
theorem dX12_seeds_90 : decode cX12_seeds 90 = .ok (.iload 4, 2) := by decide +kernel
theorem dX12_seeds_92 : decode cX12_seeds 92 = .ok (.ldc 234, 2) := by decide +kernel
theorem dX12_seeds_94 : decode cX12_seeds 94 = .ok (.iand, 1) := by decide +kernel
theorem dX12_seeds_95 : decode cX12_seeds 95 = .ok (.ldc 235, 2) := by decide +kernel
theorem dX12_seeds_97 : decode cX12_seeds 97 = .ok (.idiv, 1) := by decide +kernel
theorem dX12_seeds_98 : decode cX12_seeds 98 = .ok (.iload 9, 2) := by decide +kernel
theorem dX12_seeds_100 : decode cX12_seeds 100 = .ok (.ifCond .ne 8, 3) := by decide +kernel
theorem dX12_seeds_103 : decode cX12_seeds 103 = .ok (.bipush 8, 2) := by decide +kernel
theorem dX12_seeds_105 : decode cX12_seeds 105 = .ok (.goto 16, 3) := by decide +kernel
theorem dX12_seeds_108 : decode cX12_seeds 108 = .ok (.iload 9, 2) := by decide +kernel
theorem dX12_seeds_110 : decode cX12_seeds 110 = .ok (.iconst 1, 1) := by decide +kernel
theorem dX12_seeds_111 : decode cX12_seeds 111 = .ok (.if_icmp .ne 8, 3) := by decide +kernel
theorem dX12_seeds_114 : decode cX12_seeds 114 = .ok (.bipush 10, 2) := by decide +kernel
theorem dX12_seeds_116 : decode cX12_seeds 116 = .ok (.goto 5, 3) := by decide +kernel
theorem dX12_seeds_119 : decode cX12_seeds 119 = .ok (.bipush 6, 2) := by decide +kernel
theorem dX12_seeds_121 : decode cX12_seeds 121 = .ok (.irem, 1) := by decide +kernel
theorem dX12_seeds_122 : decode cX12_seeds 122 = .ok (.iastore, 1) := by decide +kernel
theorem dX12_seeds_123 : decode cX12_seeds 123 = .ok (.iinc 9 1, 3) := by decide +kernel
theorem dX12_seeds_126 : decode cX12_seeds 126 = .ok (.goto (-59), 3) := by decide +kernel
theorem dX12_seeds_129 : decode cX12_seeds 129 = .ok (.aload_n 0, 1) := by decide +kernel
theorem dX12_seeds_130 : decode cX12_seeds 130 = .ok (.getfield 19, 3) := by decide +kernel
theorem dX12_seeds_133 : decode cX12_seeds 133 = .ok (.aload_n 0, 1) := by decide +kernel
theorem dX12_seeds_134 : decode cX12_seeds 134 = .ok (.getfield 51, 3) := by decide +kernel
theorem dX12_seeds_137 : decode cX12_seeds 137 = .ok (.iload 8, 2) := by decide +kernel
theorem dX12_seeds_139 : decode cX12_seeds 139 = .ok (.iastore, 1) := by decide +kernel
theorem dX12_seeds_140 : decode cX12_seeds 140 = .ok (.aload_n 0, 1) := by decide +kernel
theorem dX12_seeds_141 : decode cX12_seeds 141 = .ok (.getfield 16, 3) := by decide +kernel
theorem dX12_seeds_144 : decode cX12_seeds 144 = .ok (.aload_n 0, 1) := by decide +kernel
theorem dX12_seeds_145 : decode cX12_seeds 145 = .ok (.getfield 51, 3) := by decide +kernel
theorem dX12_seeds_148 : decode cX12_seeds 148 = .ok (.aload_n 0, 1) := by decide +kernel
theorem dX12_seeds_149 : decode cX12_seeds 149 = .ok (.iconst 0, 1) := by decide +kernel
theorem dX12_seeds_150 : decode cX12_seeds 150 = .ok (.invokevirtual 97, 3) := by decide +kernel
theorem dX12_seeds_153 : decode cX12_seeds 153 = .ok (.iastore, 1) := by decide +kernel
theorem dX12_seeds_154 : decode cX12_seeds 154 = .ok (.aload_n 0, 1) := by decide +kernel
theorem dX12_seeds_155 : decode cX12_seeds 155 = .ok (.aload_n 0, 1) := by decide +kernel
theorem dX12_seeds_156 : decode cX12_seeds 156 = .ok (.getfield 51, 3) := by decide +kernel
theorem dX12_seeds_159 : decode cX12_seeds 159 = .ok (.invokevirtual 128, 3) := by decide +kernel
theorem dX12_seeds_162 : decode cX12_seeds 162 = .ok (.ifCond .eq 6, 3) := by decide +kernel
theorem dX12_seeds_165 : decode cX12_seeds 165 = .ok (.iinc 5 1, 3) := by decide +kernel
theorem dX12_seeds_168 : decode cX12_seeds 168 = .ok (.aload_n 0, 1) := by decide +kernel
theorem dX12_seeds_169 : decode cX12_seeds 169 = .ok (.dup, 1) := by decide +kernel
theorem dX12_seeds_170 : decode cX12_seeds 170 = .ok (.getfield 51, 3) := by decide +kernel
theorem dX12_seeds_173 : decode cX12_seeds 173 = .ok (.iconst 1, 1) := by decide +kernel
theorem dX12_seeds_174 : decode cX12_seeds 174 = .ok (.iadd, 1) := by decide +kernel
theorem dX12_seeds_175 : decode cX12_seeds 175 = .ok (.putfield 51, 3) := by decide +kernel
theorem dX12_seeds_178 : decode cX12_seeds 178 = .ok (.iinc 8 1, 3) := by decide +kernel
theorem dX12_seeds_181 : decode cX12_seeds 181 = .ok (.goto (-126), 3) := by decide +kernel
theorem dX12_seeds_184 : decode cX12_seeds 184 = .ok (.iload 6, 2) := by decide +kernel
theorem dX12_seeds_186 : decode cX12_seeds 186 = .ok (.aload_n 0, 1) := by decide +kernel
theorem dX12_seeds_187 : decode cX12_seeds 187 = .ok (.invokevirtual 153, 3) := by decide +kernel
theorem dX12_seeds_190 : decode cX12_seeds 190 = .ok (.invokestatic 156, 3) := by decide +kernel
theorem dX12_seeds_193 : decode cX12_seeds 193 = .ok (.iadd, 1) := by decide +kernel
theorem dX12_seeds_194 : decode cX12_seeds 194 = .ok (.istore 6, 2) := by decide +kernel
theorem dX12_seeds_196 : decode cX12_seeds 196 = .ok (.iinc 7 1, 3) := by decide +kernel
theorem dX12_seeds_199 : decode cX12_seeds 199 = .ok (.goto (-158), 3) := by decide +kernel
theorem dX12_seeds_202 : decode cX12_seeds 202 = .ok (.aload_n 0, 1) := by decide +kernel
theorem dX12_seeds_203 : decode cX12_seeds 203 = .ok (.aload_n 0, 1) := by decide +kernel
theorem dX12_seeds_204 : decode cX12_seeds 204 = .ok (.getfield 40, 3) := by decide +kernel
theorem dX12_seeds_207 : decode cX12_seeds 207 = .ok (.invokevirtual 118, 3) := by decide +kernel
theorem dX12_seeds_210 : decode cX12_seeds 210 = .ok (.iload_n 3, 1) := by decide +kernel
theorem dX12_seeds_211 : decode cX12_seeds 211 = .ok (.ifCond .ne 8, 3) := by decide +kernel
theorem dX12_seeds_214 : decode cX12_seeds 214 = .ok (.iload 5, 2) := by decide +kernel
theorem dX12_seeds_216 : decode cX12_seeds 216 = .ok (.goto 5, 3) := by decide +kernel
theorem dX12_seeds_219 : decode cX12_seeds 219 = .ok (.iload 6, 2) := by decide +kernel
theorem dX12_seeds_221 : decode cX12_seeds 221 = .ok (.ireturn, 1) := by decide +kernel
theorem dX12_keep_0 : decode cX12_keep 0 = .ok (.iconst 0, 1) := by decide +kernel
theorem dX12_keep_1 : decode cX12_keep 1 = .ok (.istore_n 2, 1) := by decide +kernel
theorem dX12_keep_2 : decode cX12_keep 2 = .ok (.iload_n 2, 1) := by decide +kernel
theorem dX12_keep_3 : decode cX12_keep 3 = .ok (.bipush 6, 2) := by decide +kernel
theorem dX12_keep_5 : decode cX12_keep 5 = .ok (.if_icmp .ge 18, 3) := by decide +kernel
theorem dX12_keep_8 : decode cX12_keep 8 = .ok (.aload_n 1, 1) := by decide +kernel
theorem dX12_keep_9 : decode cX12_keep 9 = .ok (.iload_n 2, 1) := by decide +kernel
theorem dX12_keep_10 : decode cX12_keep 10 = .ok (.aload_n 0, 1) := by decide +kernel
theorem dX12_keep_11 : decode cX12_keep 11 = .ok (.getfield 7, 3) := by decide +kernel
theorem dX12_keep_14 : decode cX12_keep 14 = .ok (.iload_n 2, 1) := by decide +kernel
theorem dX12_keep_15 : decode cX12_keep 15 = .ok (.iaload, 1) := by decide +kernel
theorem dX12_keep_16 : decode cX12_keep 16 = .ok (.iastore, 1) := by decide +kernel
theorem dX12_keep_17 : decode cX12_keep 17 = .ok (.iinc 2 1, 3) := by decide +kernel
theorem dX12_keep_20 : decode cX12_keep 20 = .ok (.goto (-18), 3) := by decide +kernel
theorem dX12_keep_23 : decode cX12_keep 23 = .ok (.iconst 0, 1) := by decide +kernel
theorem dX12_keep_24 : decode cX12_keep 24 = .ok (.istore_n 2, 1) := by decide +kernel
theorem dX12_keep_25 : decode cX12_keep 25 = .ok (.iload_n 2, 1) := by decide +kernel
theorem dX12_keep_26 : decode cX12_keep 26 = .ok (.iconst 5, 1) := by decide +kernel
theorem dX12_keep_27 : decode cX12_keep 27 = .ok (.if_icmp .ge 21, 3) := by decide +kernel
theorem dX12_keep_30 : decode cX12_keep 30 = .ok (.aload_n 1, 1) := by decide +kernel
theorem dX12_keep_31 : decode cX12_keep 31 = .ok (.bipush 6, 2) := by decide +kernel
theorem dX12_keep_33 : decode cX12_keep 33 = .ok (.iload_n 2, 1) := by decide +kernel
theorem dX12_keep_34 : decode cX12_keep 34 = .ok (.iadd, 1) := by decide +kernel
theorem dX12_keep_35 : decode cX12_keep 35 = .ok (.aload_n 0, 1) := by decide +kernel
theorem dX12_keep_36 : decode cX12_keep 36 = .ok (.getfield 13, 3) := by decide +kernel
theorem dX12_keep_39 : decode cX12_keep 39 = .ok (.iload_n 2, 1) := by decide +kernel
theorem dX12_keep_40 : decode cX12_keep 40 = .ok (.iaload, 1) := by decide +kernel
theorem dX12_keep_41 : decode cX12_keep 41 = .ok (.iastore, 1) := by decide +kernel
theorem dX12_keep_42 : decode cX12_keep 42 = .ok (.iinc 2 1, 3) := by decide +kernel
theorem dX12_keep_45 : decode cX12_keep 45 = .ok (.goto (-20), 3) := by decide +kernel
theorem dX12_keep_48 : decode cX12_keep 48 = .ok (.iconst 0, 1) := by decide +kernel
theorem dX12_keep_49 : decode cX12_keep 49 = .ok (.istore_n 2, 1) := by decide +kernel
theorem dX12_keep_50 : decode cX12_keep 50 = .ok (.iload_n 2, 1) := by decide +kernel
theorem dX12_keep_51 : decode cX12_keep 51 = .ok (.bipush 10, 2) := by decide +kernel
theorem dX12_keep_53 : decode cX12_keep 53 = .ok (.if_icmp .ge 33, 3) := by decide +kernel
theorem dX12_keep_56 : decode cX12_keep 56 = .ok (.aload_n 1, 1) := by decide +kernel
theorem dX12_keep_57 : decode cX12_keep 57 = .ok (.bipush 11, 2) := by decide +kernel
theorem dX12_keep_59 : decode cX12_keep 59 = .ok (.iload_n 2, 1) := by decide +kernel
theorem dX12_keep_60 : decode cX12_keep 60 = .ok (.iadd, 1) := by decide +kernel
theorem dX12_keep_61 : decode cX12_keep 61 = .ok (.aload_n 0, 1) := by decide +kernel
theorem dX12_keep_62 : decode cX12_keep 62 = .ok (.getfield 16, 3) := by decide +kernel
theorem dX12_keep_65 : decode cX12_keep 65 = .ok (.iload_n 2, 1) := by decide +kernel
theorem dX12_keep_66 : decode cX12_keep 66 = .ok (.iaload, 1) := by decide +kernel
theorem dX12_keep_67 : decode cX12_keep 67 = .ok (.iastore, 1) := by decide +kernel
theorem dX12_keep_68 : decode cX12_keep 68 = .ok (.aload_n 1, 1) := by decide +kernel
theorem dX12_keep_69 : decode cX12_keep 69 = .ok (.bipush 21, 2) := by decide +kernel
theorem dX12_keep_71 : decode cX12_keep 71 = .ok (.iload_n 2, 1) := by decide +kernel
theorem dX12_keep_72 : decode cX12_keep 72 = .ok (.iadd, 1) := by decide +kernel
theorem dX12_keep_73 : decode cX12_keep 73 = .ok (.aload_n 0, 1) := by decide +kernel
theorem dX12_keep_74 : decode cX12_keep 74 = .ok (.getfield 19, 3) := by decide +kernel
theorem dX12_keep_77 : decode cX12_keep 77 = .ok (.iload_n 2, 1) := by decide +kernel
theorem dX12_keep_78 : decode cX12_keep 78 = .ok (.iaload, 1) := by decide +kernel
theorem dX12_keep_79 : decode cX12_keep 79 = .ok (.iastore, 1) := by decide +kernel
theorem dX12_keep_80 : decode cX12_keep 80 = .ok (.iinc 2 1, 3) := by decide +kernel
theorem dX12_keep_83 : decode cX12_keep 83 = .ok (.goto (-33), 3) := by decide +kernel
theorem dX12_keep_86 : decode cX12_keep 86 = .ok (.aload_n 1, 1) := by decide +kernel
theorem dX12_keep_87 : decode cX12_keep 87 = .ok (.bipush 31, 2) := by decide +kernel
theorem dX12_keep_89 : decode cX12_keep 89 = .ok (.aload_n 0, 1) := by decide +kernel
theorem dX12_keep_90 : decode cX12_keep 90 = .ok (.getfield 94, 3) := by decide +kernel
theorem dX12_keep_93 : decode cX12_keep 93 = .ok (.iastore, 1) := by decide +kernel
theorem dX12_keep_94 : decode cX12_keep 94 = .ok (.aload_n 1, 1) := by decide +kernel
theorem dX12_keep_95 : decode cX12_keep 95 = .ok (.bipush 32, 2) := by decide +kernel
theorem dX12_keep_97 : decode cX12_keep 97 = .ok (.aload_n 0, 1) := by decide +kernel
theorem dX12_keep_98 : decode cX12_keep 98 = .ok (.getfield 47, 3) := by decide +kernel
theorem dX12_keep_101 : decode cX12_keep 101 = .ok (.iastore, 1) := by decide +kernel
theorem dX12_keep_102 : decode cX12_keep 102 = .ok (.aload_n 1, 1) := by decide +kernel
theorem dX12_keep_103 : decode cX12_keep 103 = .ok (.bipush 33, 2) := by decide +kernel
theorem dX12_keep_105 : decode cX12_keep 105 = .ok (.aload_n 0, 1) := by decide +kernel
theorem dX12_keep_106 : decode cX12_keep 106 = .ok (.getfield 51, 3) := by decide +kernel
theorem dX12_keep_109 : decode cX12_keep 109 = .ok (.iastore, 1) := by decide +kernel
theorem dX12_keep_110 : decode cX12_keep 110 = .ok (.aload_n 1, 1) := by decide +kernel
theorem dX12_keep_111 : decode cX12_keep 111 = .ok (.bipush 34, 2) := by decide +kernel
theorem dX12_keep_113 : decode cX12_keep 113 = .ok (.aload_n 0, 1) := by decide +kernel
theorem dX12_keep_114 : decode cX12_keep 114 = .ok (.getfield 61, 3) := by decide +kernel
theorem dX12_keep_117 : decode cX12_keep 117 = .ok (.iastore, 1) := by decide +kernel
theorem dX12_keep_118 : decode cX12_keep 118 = .ok (.return_, 1) := by decide +kernel
theorem dX12_again_0 : decode cX12_again 0 = .ok (.iconst 0, 1) := by decide +kernel
theorem dX12_again_1 : decode cX12_again 1 = .ok (.istore_n 2, 1) := by decide +kernel
theorem dX12_again_2 : decode cX12_again 2 = .ok (.iload_n 2, 1) := by decide +kernel
theorem dX12_again_3 : decode cX12_again 3 = .ok (.bipush 6, 2) := by decide +kernel
theorem dX12_again_5 : decode cX12_again 5 = .ok (.if_icmp .ge 18, 3) := by decide +kernel
theorem dX12_again_8 : decode cX12_again 8 = .ok (.aload_n 0, 1) := by decide +kernel
theorem dX12_again_9 : decode cX12_again 9 = .ok (.getfield 7, 3) := by decide +kernel
theorem dX12_again_12 : decode cX12_again 12 = .ok (.iload_n 2, 1) := by decide +kernel
theorem dX12_again_13 : decode cX12_again 13 = .ok (.aload_n 1, 1) := by decide +kernel
theorem dX12_again_14 : decode cX12_again 14 = .ok (.iload_n 2, 1) := by decide +kernel
theorem dX12_again_15 : decode cX12_again 15 = .ok (.iaload, 1) := by decide +kernel
theorem dX12_again_16 : decode cX12_again 16 = .ok (.iastore, 1) := by decide +kernel
theorem dX12_again_17 : decode cX12_again 17 = .ok (.iinc 2 1, 3) := by decide +kernel
theorem dX12_again_20 : decode cX12_again 20 = .ok (.goto (-18), 3) := by decide +kernel
theorem dX12_again_23 : decode cX12_again 23 = .ok (.iconst 0, 1) := by decide +kernel
theorem dX12_again_24 : decode cX12_again 24 = .ok (.istore_n 2, 1) := by decide +kernel
theorem dX12_again_25 : decode cX12_again 25 = .ok (.iload_n 2, 1) := by decide +kernel
theorem dX12_again_26 : decode cX12_again 26 = .ok (.iconst 5, 1) := by decide +kernel
theorem dX12_again_27 : decode cX12_again 27 = .ok (.if_icmp .ge 21, 3) := by decide +kernel
theorem dX12_again_30 : decode cX12_again 30 = .ok (.aload_n 0, 1) := by decide +kernel
theorem dX12_again_31 : decode cX12_again 31 = .ok (.getfield 13, 3) := by decide +kernel
theorem dX12_again_34 : decode cX12_again 34 = .ok (.iload_n 2, 1) := by decide +kernel
theorem dX12_again_35 : decode cX12_again 35 = .ok (.aload_n 1, 1) := by decide +kernel
theorem dX12_again_36 : decode cX12_again 36 = .ok (.bipush 6, 2) := by decide +kernel
theorem dX12_again_38 : decode cX12_again 38 = .ok (.iload_n 2, 1) := by decide +kernel
theorem dX12_again_39 : decode cX12_again 39 = .ok (.iadd, 1) := by decide +kernel
theorem dX12_again_40 : decode cX12_again 40 = .ok (.iaload, 1) := by decide +kernel
theorem dX12_again_41 : decode cX12_again 41 = .ok (.iastore, 1) := by decide +kernel
theorem dX12_again_42 : decode cX12_again 42 = .ok (.iinc 2 1, 3) := by decide +kernel
theorem dX12_again_45 : decode cX12_again 45 = .ok (.goto (-20), 3) := by decide +kernel
theorem dX12_again_48 : decode cX12_again 48 = .ok (.iconst 0, 1) := by decide +kernel
theorem dX12_again_49 : decode cX12_again 49 = .ok (.istore_n 2, 1) := by decide +kernel
theorem dX12_again_50 : decode cX12_again 50 = .ok (.iload_n 2, 1) := by decide +kernel
theorem dX12_again_51 : decode cX12_again 51 = .ok (.bipush 10, 2) := by decide +kernel
theorem dX12_again_53 : decode cX12_again 53 = .ok (.if_icmp .ge 33, 3) := by decide +kernel
theorem dX12_again_56 : decode cX12_again 56 = .ok (.aload_n 0, 1) := by decide +kernel
theorem dX12_again_57 : decode cX12_again 57 = .ok (.getfield 16, 3) := by decide +kernel
theorem dX12_again_60 : decode cX12_again 60 = .ok (.iload_n 2, 1) := by decide +kernel
theorem dX12_again_61 : decode cX12_again 61 = .ok (.aload_n 1, 1) := by decide +kernel
theorem dX12_again_62 : decode cX12_again 62 = .ok (.bipush 11, 2) := by decide +kernel
theorem dX12_again_64 : decode cX12_again 64 = .ok (.iload_n 2, 1) := by decide +kernel
theorem dX12_again_65 : decode cX12_again 65 = .ok (.iadd, 1) := by decide +kernel
theorem dX12_again_66 : decode cX12_again 66 = .ok (.iaload, 1) := by decide +kernel
theorem dX12_again_67 : decode cX12_again 67 = .ok (.iastore, 1) := by decide +kernel
theorem dX12_again_68 : decode cX12_again 68 = .ok (.aload_n 0, 1) := by decide +kernel
theorem dX12_again_69 : decode cX12_again 69 = .ok (.getfield 19, 3) := by decide +kernel
theorem dX12_again_72 : decode cX12_again 72 = .ok (.iload_n 2, 1) := by decide +kernel
theorem dX12_again_73 : decode cX12_again 73 = .ok (.aload_n 1, 1) := by decide +kernel
theorem dX12_again_74 : decode cX12_again 74 = .ok (.bipush 21, 2) := by decide +kernel
theorem dX12_again_76 : decode cX12_again 76 = .ok (.iload_n 2, 1) := by decide +kernel
theorem dX12_again_77 : decode cX12_again 77 = .ok (.iadd, 1) := by decide +kernel
theorem dX12_again_78 : decode cX12_again 78 = .ok (.iaload, 1) := by decide +kernel
theorem dX12_again_79 : decode cX12_again 79 = .ok (.iastore, 1) := by decide +kernel
theorem dX12_again_80 : decode cX12_again 80 = .ok (.iinc 2 1, 3) := by decide +kernel
theorem dX12_again_83 : decode cX12_again 83 = .ok (.goto (-33), 3) := by decide +kernel
theorem dX12_again_86 : decode cX12_again 86 = .ok (.aload_n 0, 1) := by decide +kernel
theorem dX12_again_87 : decode cX12_again 87 = .ok (.aload_n 1, 1) := by decide +kernel
theorem dX12_again_88 : decode cX12_again 88 = .ok (.bipush 31, 2) := by decide +kernel
theorem dX12_again_90 : decode cX12_again 90 = .ok (.iaload, 1) := by decide +kernel
theorem dX12_again_91 : decode cX12_again 91 = .ok (.putfield 94, 3) := by decide +kernel
theorem dX12_again_94 : decode cX12_again 94 = .ok (.aload_n 0, 1) := by decide +kernel
theorem dX12_again_95 : decode cX12_again 95 = .ok (.aload_n 1, 1) := by decide +kernel
theorem dX12_again_96 : decode cX12_again 96 = .ok (.bipush 32, 2) := by decide +kernel
theorem dX12_again_98 : decode cX12_again 98 = .ok (.iaload, 1) := by decide +kernel
theorem dX12_again_99 : decode cX12_again 99 = .ok (.putfield 47, 3) := by decide +kernel
theorem dX12_again_102 : decode cX12_again 102 = .ok (.aload_n 0, 1) := by decide +kernel
theorem dX12_again_103 : decode cX12_again 103 = .ok (.aload_n 1, 1) := by decide +kernel
theorem dX12_again_104 : decode cX12_again 104 = .ok (.bipush 33, 2) := by decide +kernel
theorem dX12_again_106 : decode cX12_again 106 = .ok (.iaload, 1) := by decide +kernel
theorem dX12_again_107 : decode cX12_again 107 = .ok (.putfield 51, 3) := by decide +kernel
theorem dX12_again_110 : decode cX12_again 110 = .ok (.aload_n 0, 1) := by decide +kernel
theorem dX12_again_111 : decode cX12_again 111 = .ok (.aload_n 1, 1) := by decide +kernel
theorem dX12_again_112 : decode cX12_again 112 = .ok (.bipush 34, 2) := by decide +kernel
theorem dX12_again_114 : decode cX12_again 114 = .ok (.iaload, 1) := by decide +kernel
theorem dX12_again_115 : decode cX12_again 115 = .ok (.putfield 61, 3) := by decide +kernel
theorem dX12_again_118 : decode cX12_again 118 = .ok (.return_, 1) := by decide +kernel
theorem dX12_image_0 : decode cX12_image 0 = .ok (.aload_n 0, 1) := by decide +kernel
theorem dX12_image_1 : decode cX12_image 1 = .ok (.iconst 1, 1) := by decide +kernel
theorem dX12_image_2 : decode cX12_image 2 = .ok (.putfield 236, 3) := by decide +kernel
theorem dX12_image_5 : decode cX12_image 5 = .ok (.aload_n 0, 1) := by decide +kernel
theorem dX12_image_6 : decode cX12_image 6 = .ok (.aload_n 0, 1) := by decide +kernel
theorem dX12_image_7 : decode cX12_image 7 = .ok (.getfield 37, 3) := by decide +kernel
theorem dX12_image_10 : decode cX12_image 10 = .ok (.invokevirtual 114, 3) := by decide +kernel
theorem dX12_image_13 : decode cX12_image 13 = .ok (.aload_n 0, 1) := by decide +kernel
theorem dX12_image_14 : decode cX12_image 14 = .ok (.getfield 51, 3) := by decide +kernel
theorem dX12_image_17 : decode cX12_image 17 = .ok (.ireturn, 1) := by decide +kernel
theorem dX12_restore_0 : decode cX12_restore 0 = .ok (.aload_n 0, 1) := by decide +kernel
theorem dX12_restore_1 : decode cX12_restore 1 = .ok (.getfield 236, 3) := by decide +kernel
theorem dX12_restore_4 : decode cX12_restore 4 = .ok (.ifCond .ne 6, 3) := by decide +kernel
theorem dX12_restore_7 : decode cX12_restore 7 = .ok (.bipush (-3), 2) := by decide +kernel
theorem dX12_restore_9 : decode cX12_restore 9 = .ok (.ireturn, 1) := by decide +kernel
theorem dX12_restore_10 : decode cX12_restore 10 = .ok (.aload_n 0, 1) := by decide +kernel
theorem dX12_restore_11 : decode cX12_restore 11 = .ok (.aload_n 0, 1) := by decide +kernel
theorem dX12_restore_12 : decode cX12_restore 12 = .ok (.getfield 37, 3) := by decide +kernel
theorem dX12_restore_15 : decode cX12_restore 15 = .ok (.invokevirtual 118, 3) := by decide +kernel
theorem dX12_restore_18 : decode cX12_restore 18 = .ok (.aload_n 0, 1) := by decide +kernel
theorem dX12_restore_19 : decode cX12_restore 19 = .ok (.getfield 51, 3) := by decide +kernel
theorem dX12_restore_22 : decode cX12_restore 22 = .ok (.ireturn, 1) := by decide +kernel
theorem dX12_count_0 : decode cX12_count 0 = .ok (.iconst 0, 1) := by decide +kernel
theorem dX12_count_1 : decode cX12_count 1 = .ok (.istore_n 2, 1) := by decide +kernel
theorem dX12_count_2 : decode cX12_count 2 = .ok (.iload_n 1, 1) := by decide +kernel
theorem dX12_count_3 : decode cX12_count 3 = .ok (.tableswitch 117 0 6 #[41, 46, 51, 56, 61, 91, 104], 41) := by decide +kernel
theorem dX12_count_44 : decode cX12_count 44 = .ok (.aload_n 0, 1) := by decide +kernel
theorem dX12_count_45 : decode cX12_count 45 = .ok (.getfield 94, 3) := by decide +kernel
theorem dX12_count_48 : decode cX12_count 48 = .ok (.ireturn, 1) := by decide +kernel
theorem dX12_count_49 : decode cX12_count 49 = .ok (.aload_n 0, 1) := by decide +kernel
theorem dX12_count_50 : decode cX12_count 50 = .ok (.getfield 47, 3) := by decide +kernel
theorem dX12_count_53 : decode cX12_count 53 = .ok (.ireturn, 1) := by decide +kernel
theorem dX12_count_54 : decode cX12_count 54 = .ok (.aload_n 0, 1) := by decide +kernel
theorem dX12_count_55 : decode cX12_count 55 = .ok (.getfield 51, 3) := by decide +kernel
theorem dX12_count_58 : decode cX12_count 58 = .ok (.ireturn, 1) := by decide +kernel
theorem dX12_count_59 : decode cX12_count 59 = .ok (.aload_n 0, 1) := by decide +kernel
theorem dX12_count_60 : decode cX12_count 60 = .ok (.getfield 61, 3) := by decide +kernel
theorem dX12_count_63 : decode cX12_count 63 = .ok (.ireturn, 1) := by decide +kernel
theorem dX12_count_64 : decode cX12_count 64 = .ok (.iconst 0, 1) := by decide +kernel
theorem dX12_count_65 : decode cX12_count 65 = .ok (.istore_n 3, 1) := by decide +kernel
theorem dX12_count_66 : decode cX12_count 66 = .ok (.iload_n 3, 1) := by decide +kernel
theorem dX12_count_67 : decode cX12_count 67 = .ok (.aload_n 0, 1) := by decide +kernel
theorem dX12_count_68 : decode cX12_count 68 = .ok (.getfield 51, 3) := by decide +kernel
theorem dX12_count_71 : decode cX12_count 71 = .ok (.if_icmp .ge 21, 3) := by decide +kernel
theorem dX12_count_74 : decode cX12_count 74 = .ok (.iload_n 2, 1) := by decide +kernel
theorem dX12_count_75 : decode cX12_count 75 = .ok (.aload_n 0, 1) := by decide +kernel
theorem dX12_count_76 : decode cX12_count 76 = .ok (.getfield 16, 3) := by decide +kernel
theorem dX12_count_79 : decode cX12_count 79 = .ok (.iload_n 3, 1) := by decide +kernel
theorem dX12_count_80 : decode cX12_count 80 = .ok (.iaload, 1) := by decide +kernel
theorem dX12_count_81 : decode cX12_count 81 = .ok (.invokestatic 64, 3) := by decide +kernel
theorem dX12_count_84 : decode cX12_count 84 = .ok (.iadd, 1) := by decide +kernel
theorem dX12_count_85 : decode cX12_count 85 = .ok (.istore_n 2, 1) := by decide +kernel
theorem dX12_count_86 : decode cX12_count 86 = .ok (.iinc 3 1, 3) := by decide +kernel
theorem dX12_count_89 : decode cX12_count 89 = .ok (.goto (-23), 3) := by decide +kernel
theorem dX12_count_92 : decode cX12_count 92 = .ok (.iload_n 2, 1) := by decide +kernel
theorem dX12_count_93 : decode cX12_count 93 = .ok (.ireturn, 1) := by decide +kernel
theorem dX12_count_94 : decode cX12_count 94 = .ok (.aload_n 0, 1) := by decide +kernel
theorem dX12_count_95 : decode cX12_count 95 = .ok (.invokevirtual 144, 3) := by decide +kernel
theorem dX12_count_98 : decode cX12_count 98 = .ok (.aload_n 0, 1) := by decide +kernel
theorem dX12_count_99 : decode cX12_count 99 = .ok (.getfield 61, 3) := by decide +kernel
theorem dX12_count_102 : decode cX12_count 102 = .ok (.lshr, 1) := by decide +kernel
theorem dX12_count_103 : decode cX12_count 103 = .ok (.lconst 1, 1) := by decide +kernel
theorem dX12_count_104 : decode cX12_count 104 = .ok (.land, 1) := by decide +kernel
theorem dX12_count_105 : decode cX12_count 105 = .ok (.l2i, 1) := by decide +kernel
theorem dX12_count_106 : decode cX12_count 106 = .ok (.ireturn, 1) := by decide +kernel
theorem dX12_count_107 : decode cX12_count 107 = .ok (.aload_n 0, 1) := by decide +kernel
theorem dX12_count_108 : decode cX12_count 108 = .ok (.invokevirtual 153, 3) := by decide +kernel
theorem dX12_count_111 : decode cX12_count 111 = .ok (.aload_n 0, 1) := by decide +kernel
theorem dX12_count_112 : decode cX12_count 112 = .ok (.getfield 61, 3) := by decide +kernel
theorem dX12_count_115 : decode cX12_count 115 = .ok (.lshr, 1) := by decide +kernel
theorem dX12_count_116 : decode cX12_count 116 = .ok (.lconst 1, 1) := by decide +kernel
theorem dX12_count_117 : decode cX12_count 117 = .ok (.land, 1) := by decide +kernel
theorem dX12_count_118 : decode cX12_count 118 = .ok (.l2i, 1) := by decide +kernel
theorem dX12_count_119 : decode cX12_count 119 = .ok (.ireturn, 1) := by decide +kernel
theorem dX12_count_120 : decode cX12_count 120 = .ok (.iconst (-1), 1) := by decide +kernel
theorem dX12_count_121 : decode cX12_count 121 = .ok (.ireturn, 1) := by decide +kernel
theorem dX12_keep__0 : decode cX12_keep_ 0 = .ok (.iload_n 1, 1) := by decide +kernel
theorem dX12_keep__1 : decode cX12_keep_ 1 = .ok (.invokestatic 107, 3) := by decide +kernel
theorem dX12_keep__4 : decode cX12_keep_ 4 = .ok (.ifCond .eq 12, 3) := by decide +kernel
theorem dX12_keep__7 : decode cX12_keep_ 7 = .ok (.iload_n 2, 1) := by decide +kernel
theorem dX12_keep__8 : decode cX12_keep_ 8 = .ok (.iconst 0, 1) := by decide +kernel
theorem dX12_keep__9 : decode cX12_keep_ 9 = .ok (.iconst 1, 1) := by decide +kernel
theorem dX12_keep__10 : decode cX12_keep_ 10 = .ok (.invokestatic 43, 3) := by decide +kernel
theorem dX12_keep__13 : decode cX12_keep_ 13 = .ok (.ifCond .ne 5, 3) := by decide +kernel
theorem dX12_keep__16 : decode cX12_keep_ 16 = .ok (.iconst (-1), 1) := by decide +kernel
theorem dX12_keep__17 : decode cX12_keep_ 17 = .ok (.ireturn, 1) := by decide +kernel
theorem dX12_keep__18 : decode cX12_keep_ 18 = .ok (.iload_n 2, 1) := by decide +kernel
theorem dX12_keep__19 : decode cX12_keep_ 19 = .ok (.iconst 1, 1) := by decide +kernel
theorem dX12_keep__20 : decode cX12_keep_ 20 = .ok (.if_icmp .ne 26, 3) := by decide +kernel
theorem dX12_keep__23 : decode cX12_keep_ 23 = .ok (.iload_n 3, 1) := by decide +kernel
theorem dX12_keep__24 : decode cX12_keep_ 24 = .ok (.iconst 0, 1) := by decide +kernel
theorem dX12_keep__25 : decode cX12_keep_ 25 = .ok (.bipush 7, 2) := by decide +kernel
theorem dX12_keep__27 : decode cX12_keep_ 27 = .ok (.invokestatic 43, 3) := by decide +kernel
theorem dX12_keep__30 : decode cX12_keep_ 30 = .ok (.ifCond .eq 14, 3) := by decide +kernel
theorem dX12_keep__33 : decode cX12_keep_ 33 = .ok (.iload 4, 2) := by decide +kernel
theorem dX12_keep__35 : decode cX12_keep_ 35 = .ok (.iconst 0, 1) := by decide +kernel
theorem dX12_keep__36 : decode cX12_keep_ 36 = .ok (.bipush 9, 2) := by decide +kernel
theorem dX12_keep__38 : decode cX12_keep_ 38 = .ok (.invokestatic 43, 3) := by decide +kernel
theorem dX12_keep__41 : decode cX12_keep_ 41 = .ok (.ifCond .ne 5, 3) := by decide +kernel
theorem dX12_keep__44 : decode cX12_keep_ 44 = .ok (.iconst (-1), 1) := by decide +kernel
theorem dX12_keep__45 : decode cX12_keep_ 45 = .ok (.ireturn, 1) := by decide +kernel
theorem dX12_keep__46 : decode cX12_keep_ 46 = .ok (.aload_n 0, 1) := by decide +kernel
theorem dX12_keep__47 : decode cX12_keep_ 47 = .ok (.getfield 22, 3) := by decide +kernel
theorem dX12_keep__50 : decode cX12_keep_ 50 = .ok (.iload_n 1, 1) := by decide +kernel
theorem dX12_keep__51 : decode cX12_keep_ 51 = .ok (.iload_n 2, 1) := by decide +kernel
theorem dX12_keep__52 : decode cX12_keep_ 52 = .ok (.iastore, 1) := by decide +kernel
theorem dX12_keep__53 : decode cX12_keep_ 53 = .ok (.aload_n 0, 1) := by decide +kernel
theorem dX12_keep__54 : decode cX12_keep_ 54 = .ok (.getfield 25, 3) := by decide +kernel
theorem dX12_keep__57 : decode cX12_keep_ 57 = .ok (.iload_n 1, 1) := by decide +kernel
theorem dX12_keep__58 : decode cX12_keep_ 58 = .ok (.iload_n 2, 1) := by decide +kernel
theorem dX12_keep__59 : decode cX12_keep_ 59 = .ok (.iconst 1, 1) := by decide +kernel
theorem dX12_keep__60 : decode cX12_keep_ 60 = .ok (.if_icmp .ne 7, 3) := by decide +kernel
theorem dX12_keep__63 : decode cX12_keep_ 63 = .ok (.iload_n 3, 1) := by decide +kernel
theorem dX12_keep__64 : decode cX12_keep_ 64 = .ok (.goto 4, 3) := by decide +kernel
theorem dX12_keep__67 : decode cX12_keep_ 67 = .ok (.iconst 0, 1) := by decide +kernel
theorem dX12_keep__68 : decode cX12_keep_ 68 = .ok (.iastore, 1) := by decide +kernel
theorem dX12_keep__69 : decode cX12_keep_ 69 = .ok (.aload_n 0, 1) := by decide +kernel
theorem dX12_keep__70 : decode cX12_keep_ 70 = .ok (.getfield 28, 3) := by decide +kernel
theorem dX12_keep__73 : decode cX12_keep_ 73 = .ok (.iload_n 1, 1) := by decide +kernel
theorem dX12_keep__74 : decode cX12_keep_ 74 = .ok (.iload_n 2, 1) := by decide +kernel
theorem dX12_keep__75 : decode cX12_keep_ 75 = .ok (.iconst 1, 1) := by decide +kernel
theorem dX12_keep__76 : decode cX12_keep_ 76 = .ok (.if_icmp .ne 8, 3) := by decide +kernel
theorem dX12_keep__79 : decode cX12_keep_ 79 = .ok (.iload 4, 2) := by decide +kernel
theorem dX12_keep__81 : decode cX12_keep_ 81 = .ok (.goto 4, 3) := by decide +kernel
theorem dX12_keep__84 : decode cX12_keep_ 84 = .ok (.iconst 0, 1) := by decide +kernel
theorem dX12_keep__85 : decode cX12_keep_ 85 = .ok (.iastore, 1) := by decide +kernel
theorem dX12_keep__86 : decode cX12_keep_ 86 = .ok (.iconst 0, 1) := by decide +kernel
theorem dX12_keep__87 : decode cX12_keep_ 87 = .ok (.ireturn, 1) := by decide +kernel
theorem dX12_row_0 : decode cX12_row 0 = .ok (.iload_n 1, 1) := by decide +kernel
theorem dX12_row_1 : decode cX12_row 1 = .ok (.invokestatic 107, 3) := by decide +kernel
theorem dX12_row_4 : decode cX12_row 4 = .ok (.ifCond .eq 18, 3) := by decide +kernel
theorem dX12_row_7 : decode cX12_row 7 = .ok (.iload_n 2, 1) := by decide +kernel
theorem dX12_row_8 : decode cX12_row 8 = .ok (.iconst 0, 1) := by decide +kernel
theorem dX12_row_9 : decode cX12_row 9 = .ok (.iconst 2, 1) := by decide +kernel
theorem dX12_row_10 : decode cX12_row 10 = .ok (.invokestatic 43, 3) := by decide +kernel
theorem dX12_row_13 : decode cX12_row 13 = .ok (.ifCond .eq 9, 3) := by decide +kernel
theorem dX12_row_16 : decode cX12_row 16 = .ok (.iload_n 3, 1) := by decide +kernel
theorem dX12_row_17 : decode cX12_row 17 = .ok (.bipush 100, 2) := by decide +kernel
theorem dX12_row_19 : decode cX12_row 19 = .ok (.if_icmp .le 5, 3) := by decide +kernel
theorem dX12_row_22 : decode cX12_row 22 = .ok (.iconst (-1), 1) := by decide +kernel
theorem dX12_row_23 : decode cX12_row 23 = .ok (.ireturn, 1) := by decide +kernel
theorem dX12_row_24 : decode cX12_row 24 = .ok (.iload_n 3, 1) := by decide +kernel
theorem dX12_row_25 : decode cX12_row 25 = .ok (.ifCond .ge 6, 3) := by decide +kernel
theorem dX12_row_28 : decode cX12_row 28 = .ok (.bipush (-14), 2) := by decide +kernel
theorem dX12_row_30 : decode cX12_row 30 = .ok (.ireturn, 1) := by decide +kernel
theorem dX12_row_31 : decode cX12_row 31 = .ok (.aload_n 0, 1) := by decide +kernel
theorem dX12_row_32 : decode cX12_row 32 = .ok (.getfield 22, 3) := by decide +kernel
theorem dX12_row_35 : decode cX12_row 35 = .ok (.iload_n 1, 1) := by decide +kernel
theorem dX12_row_36 : decode cX12_row 36 = .ok (.iconst 2, 1) := by decide +kernel
theorem dX12_row_37 : decode cX12_row 37 = .ok (.iastore, 1) := by decide +kernel
theorem dX12_row_38 : decode cX12_row 38 = .ok (.aload_n 0, 1) := by decide +kernel
theorem dX12_row_39 : decode cX12_row 39 = .ok (.getfield 25, 3) := by decide +kernel
theorem dX12_row_42 : decode cX12_row 42 = .ok (.iload_n 1, 1) := by decide +kernel
theorem dX12_row_43 : decode cX12_row 43 = .ok (.iload_n 2, 1) := by decide +kernel
theorem dX12_row_44 : decode cX12_row 44 = .ok (.iastore, 1) := by decide +kernel
theorem dX12_row_45 : decode cX12_row 45 = .ok (.aload_n 0, 1) := by decide +kernel
theorem dX12_row_46 : decode cX12_row 46 = .ok (.getfield 28, 3) := by decide +kernel
theorem dX12_row_49 : decode cX12_row 49 = .ok (.iload_n 1, 1) := by decide +kernel
theorem dX12_row_50 : decode cX12_row 50 = .ok (.iload_n 3, 1) := by decide +kernel
theorem dX12_row_51 : decode cX12_row 51 = .ok (.iastore, 1) := by decide +kernel
theorem dX12_row_52 : decode cX12_row 52 = .ok (.iconst 0, 1) := by decide +kernel
theorem dX12_row_53 : decode cX12_row 53 = .ok (.istore 4, 2) := by decide +kernel
theorem dX12_row_55 : decode cX12_row 55 = .ok (.iload 4, 2) := by decide +kernel
theorem dX12_row_57 : decode cX12_row 57 = .ok (.bipush 100, 2) := by decide +kernel
theorem dX12_row_59 : decode cX12_row 59 = .ok (.if_icmp .ge 22, 3) := by decide +kernel
theorem dX12_row_62 : decode cX12_row 62 = .ok (.aload_n 0, 1) := by decide +kernel
theorem dX12_row_63 : decode cX12_row 63 = .ok (.getfield 31, 3) := by decide +kernel
theorem dX12_row_66 : decode cX12_row 66 = .ok (.bipush 100, 2) := by decide +kernel
theorem dX12_row_68 : decode cX12_row 68 = .ok (.iload_n 1, 1) := by decide +kernel
theorem dX12_row_69 : decode cX12_row 69 = .ok (.imul, 1) := by decide +kernel
theorem dX12_row_70 : decode cX12_row 70 = .ok (.iload 4, 2) := by decide +kernel
theorem dX12_row_72 : decode cX12_row 72 = .ok (.iadd, 1) := by decide +kernel
theorem dX12_row_73 : decode cX12_row 73 = .ok (.iconst 0, 1) := by decide +kernel
theorem dX12_row_74 : decode cX12_row 74 = .ok (.iastore, 1) := by decide +kernel
theorem dX12_row_75 : decode cX12_row 75 = .ok (.iinc 4 1, 3) := by decide +kernel
theorem dX12_row_78 : decode cX12_row 78 = .ok (.goto (-23), 3) := by decide +kernel
theorem dX12_row_81 : decode cX12_row 81 = .ok (.iconst 0, 1) := by decide +kernel
theorem dX12_row_82 : decode cX12_row 82 = .ok (.ireturn, 1) := by decide +kernel
theorem dX12_put_0 : decode cX12_put 0 = .ok (.iload_n 1, 1) := by decide +kernel
theorem dX12_put_1 : decode cX12_put 1 = .ok (.invokestatic 107, 3) := by decide +kernel
theorem dX12_put_4 : decode cX12_put 4 = .ok (.ifCond .ne 5, 3) := by decide +kernel
theorem dX12_put_7 : decode cX12_put 7 = .ok (.iconst (-1), 1) := by decide +kernel
theorem dX12_put_8 : decode cX12_put 8 = .ok (.ireturn, 1) := by decide +kernel
theorem dX12_put_9 : decode cX12_put 9 = .ok (.aload_n 0, 1) := by decide +kernel
theorem dX12_put_10 : decode cX12_put 10 = .ok (.iload_n 1, 1) := by decide +kernel
theorem dX12_put_11 : decode cX12_put 11 = .ok (.invokevirtual 223, 3) := by decide +kernel
theorem dX12_put_14 : decode cX12_put 14 = .ok (.istore 4, 2) := by decide +kernel
theorem dX12_put_16 : decode cX12_put 16 = .ok (.iload 4, 2) := by decide +kernel
theorem dX12_put_18 : decode cX12_put 18 = .ok (.ifCond .ge 6, 3) := by decide +kernel
theorem dX12_put_21 : decode cX12_put 21 = .ok (.iload 4, 2) := by decide +kernel
theorem dX12_put_23 : decode cX12_put 23 = .ok (.ireturn, 1) := by decide +kernel
theorem dX12_put_24 : decode cX12_put 24 = .ok (.iload_n 2, 1) := by decide +kernel
theorem dX12_put_25 : decode cX12_put 25 = .ok (.iconst 0, 1) := by decide +kernel
theorem dX12_put_26 : decode cX12_put 26 = .ok (.aload_n 0, 1) := by decide +kernel
theorem dX12_put_27 : decode cX12_put 27 = .ok (.getfield 28, 3) := by decide +kernel
theorem dX12_put_30 : decode cX12_put 30 = .ok (.iload_n 1, 1) := by decide +kernel
theorem dX12_put_31 : decode cX12_put 31 = .ok (.iaload, 1) := by decide +kernel
theorem dX12_put_32 : decode cX12_put 32 = .ok (.iconst 1, 1) := by decide +kernel
theorem dX12_put_33 : decode cX12_put 33 = .ok (.isub, 1) := by decide +kernel
theorem dX12_put_34 : decode cX12_put 34 = .ok (.invokestatic 43, 3) := by decide +kernel
theorem dX12_put_37 : decode cX12_put 37 = .ok (.ifCond .ne 6, 3) := by decide +kernel
theorem dX12_put_40 : decode cX12_put 40 = .ok (.bipush (-13), 2) := by decide +kernel
theorem dX12_put_42 : decode cX12_put 42 = .ok (.ireturn, 1) := by decide +kernel
theorem dX12_put_43 : decode cX12_put 43 = .ok (.aload_n 0, 1) := by decide +kernel
theorem dX12_put_44 : decode cX12_put 44 = .ok (.getfield 31, 3) := by decide +kernel
theorem dX12_put_47 : decode cX12_put 47 = .ok (.bipush 100, 2) := by decide +kernel
theorem dX12_put_49 : decode cX12_put 49 = .ok (.iload_n 1, 1) := by decide +kernel
theorem dX12_put_50 : decode cX12_put 50 = .ok (.imul, 1) := by decide +kernel
theorem dX12_put_51 : decode cX12_put 51 = .ok (.iload_n 2, 1) := by decide +kernel
theorem dX12_put_52 : decode cX12_put 52 = .ok (.iadd, 1) := by decide +kernel
theorem dX12_put_53 : decode cX12_put 53 = .ok (.aload_n 0, 1) := by decide +kernel
theorem dX12_put_54 : decode cX12_put 54 = .ok (.getfield 25, 3) := by decide +kernel
theorem dX12_put_57 : decode cX12_put 57 = .ok (.iload_n 1, 1) := by decide +kernel
theorem dX12_put_58 : decode cX12_put 58 = .ok (.iaload, 1) := by decide +kernel
theorem dX12_put_59 : decode cX12_put 59 = .ok (.ifCond .ne 8, 3) := by decide +kernel
theorem dX12_put_62 : decode cX12_put 62 = .ok (.iload_n 3, 1) := by decide +kernel
theorem dX12_put_63 : decode cX12_put 63 = .ok (.i2b, 1) := by decide +kernel
theorem dX12_put_64 : decode cX12_put 64 = .ok (.goto 19, 3) := by decide +kernel
theorem dX12_put_67 : decode cX12_put 67 = .ok (.aload_n 0, 1) := by decide +kernel
theorem dX12_put_68 : decode cX12_put 68 = .ok (.getfield 25, 3) := by decide +kernel
theorem dX12_put_71 : decode cX12_put 71 = .ok (.iload_n 1, 1) := by decide +kernel
theorem dX12_put_72 : decode cX12_put 72 = .ok (.iaload, 1) := by decide +kernel
theorem dX12_put_73 : decode cX12_put 73 = .ok (.iconst 1, 1) := by decide +kernel
theorem dX12_put_74 : decode cX12_put 74 = .ok (.if_icmp .ne 8, 3) := by decide +kernel
theorem dX12_put_77 : decode cX12_put 77 = .ok (.iload_n 3, 1) := by decide +kernel
theorem dX12_put_78 : decode cX12_put 78 = .ok (.i2s, 1) := by decide +kernel
theorem dX12_put_79 : decode cX12_put 79 = .ok (.goto 4, 3) := by decide +kernel
theorem dX12_put_82 : decode cX12_put 82 = .ok (.iload_n 3, 1) := by decide +kernel
theorem dX12_put_83 : decode cX12_put 83 = .ok (.iastore, 1) := by decide +kernel
theorem dX12_put_84 : decode cX12_put 84 = .ok (.iconst 0, 1) := by decide +kernel
theorem dX12_put_85 : decode cX12_put 85 = .ok (.ireturn, 1) := by decide +kernel
theorem dX12_thrown_0 : decode cX12_thrown 0 = .ok (.aload_n 0, 1) := by decide +kernel
theorem dX12_thrown_1 : decode cX12_thrown 1 = .ok (.getfield 240, 3) := by decide +kernel
theorem dX12_thrown_4 : decode cX12_thrown 4 = .ok (.ireturn, 1) := by decide +kernel
theorem dX12_element_0 : decode cX12_element 0 = .ok (.aload_n 0, 1) := by decide +kernel
theorem dX12_element_1 : decode cX12_element 1 = .ok (.iload_n 1, 1) := by decide +kernel
theorem dX12_element_2 : decode cX12_element 2 = .ok (.invokestatic 107, 3) := by decide +kernel
theorem dX12_element_5 : decode cX12_element 5 = .ok (.ifCond .ne 7, 3) := by decide +kernel
theorem dX12_element_8 : decode cX12_element 8 = .ok (.iconst 1, 1) := by decide +kernel
theorem dX12_element_9 : decode cX12_element 9 = .ok (.goto 34, 3) := by decide +kernel
theorem dX12_element_12 : decode cX12_element 12 = .ok (.aload_n 0, 1) := by decide +kernel
theorem dX12_element_13 : decode cX12_element 13 = .ok (.getfield 22, 3) := by decide +kernel
theorem dX12_element_16 : decode cX12_element 16 = .ok (.iload_n 1, 1) := by decide +kernel
theorem dX12_element_17 : decode cX12_element 17 = .ok (.iaload, 1) := by decide +kernel
theorem dX12_element_18 : decode cX12_element 18 = .ok (.iconst 2, 1) := by decide +kernel
theorem dX12_element_19 : decode cX12_element 19 = .ok (.if_icmp .ne 19, 3) := by decide +kernel
theorem dX12_element_22 : decode cX12_element 22 = .ok (.iload_n 2, 1) := by decide +kernel
theorem dX12_element_23 : decode cX12_element 23 = .ok (.iconst 0, 1) := by decide +kernel
theorem dX12_element_24 : decode cX12_element 24 = .ok (.aload_n 0, 1) := by decide +kernel
theorem dX12_element_25 : decode cX12_element 25 = .ok (.getfield 28, 3) := by decide +kernel
theorem dX12_element_28 : decode cX12_element 28 = .ok (.iload_n 1, 1) := by decide +kernel
theorem dX12_element_29 : decode cX12_element 29 = .ok (.iaload, 1) := by decide +kernel
theorem dX12_element_30 : decode cX12_element 30 = .ok (.iconst 1, 1) := by decide +kernel
theorem dX12_element_31 : decode cX12_element 31 = .ok (.isub, 1) := by decide +kernel
theorem dX12_element_32 : decode cX12_element 32 = .ok (.invokestatic 43, 3) := by decide +kernel
theorem dX12_element_35 : decode cX12_element 35 = .ok (.ifCond .ne 7, 3) := by decide +kernel
theorem dX12_element_38 : decode cX12_element 38 = .ok (.iconst 2, 1) := by decide +kernel
theorem dX12_element_39 : decode cX12_element 39 = .ok (.goto 4, 3) := by decide +kernel
theorem dX12_element_42 : decode cX12_element 42 = .ok (.iconst 0, 1) := by decide +kernel
theorem dX12_element_43 : decode cX12_element 43 = .ok (.putfield 240, 3) := by decide +kernel
theorem dX12_element_46 : decode cX12_element 46 = .ok (.aload_n 0, 1) := by decide +kernel
theorem dX12_element_47 : decode cX12_element 47 = .ok (.getfield 240, 3) := by decide +kernel
theorem dX12_element_50 : decode cX12_element 50 = .ok (.ifCond .eq 7, 3) := by decide +kernel
theorem dX12_element_53 : decode cX12_element 53 = .ok (.lconst 0, 1) := by decide +kernel
theorem dX12_element_54 : decode cX12_element 54 = .ok (.goto 15, 3) := by decide +kernel
theorem dX12_element_57 : decode cX12_element 57 = .ok (.aload_n 0, 1) := by decide +kernel
theorem dX12_element_58 : decode cX12_element 58 = .ok (.getfield 31, 3) := by decide +kernel
theorem dX12_element_61 : decode cX12_element 61 = .ok (.bipush 100, 2) := by decide +kernel
theorem dX12_element_63 : decode cX12_element 63 = .ok (.iload_n 1, 1) := by decide +kernel
theorem dX12_element_64 : decode cX12_element 64 = .ok (.imul, 1) := by decide +kernel
theorem dX12_element_65 : decode cX12_element 65 = .ok (.iload_n 2, 1) := by decide +kernel
theorem dX12_element_66 : decode cX12_element 66 = .ok (.iadd, 1) := by decide +kernel
theorem dX12_element_67 : decode cX12_element 67 = .ok (.iaload, 1) := by decide +kernel
theorem dX12_element_68 : decode cX12_element 68 = .ok (.i2l, 1) := by decide +kernel
theorem dX12_element_69 : decode cX12_element 69 = .ok (.lreturn, 1) := by decide +kernel
theorem dX12_copy_0 : decode cX12_copy 0 = .ok (.iload_n 1, 1) := by decide +kernel
theorem dX12_copy_1 : decode cX12_copy 1 = .ok (.invokestatic 107, 3) := by decide +kernel
theorem dX12_copy_4 : decode cX12_copy 4 = .ok (.ifCond .eq 10, 3) := by decide +kernel
theorem dX12_copy_7 : decode cX12_copy 7 = .ok (.iload_n 3, 1) := by decide +kernel
theorem dX12_copy_8 : decode cX12_copy 8 = .ok (.invokestatic 107, 3) := by decide +kernel
theorem dX12_copy_11 : decode cX12_copy 11 = .ok (.ifCond .ne 5, 3) := by decide +kernel
theorem dX12_copy_14 : decode cX12_copy 14 = .ok (.iconst (-1), 1) := by decide +kernel
theorem dX12_copy_15 : decode cX12_copy 15 = .ok (.ireturn, 1) := by decide +kernel
theorem dX12_copy_16 : decode cX12_copy 16 = .ok (.aload_n 0, 1) := by decide +kernel
theorem dX12_copy_17 : decode cX12_copy 17 = .ok (.getfield 22, 3) := by decide +kernel
theorem dX12_copy_20 : decode cX12_copy 20 = .ok (.iload_n 1, 1) := by decide +kernel
theorem dX12_copy_21 : decode cX12_copy 21 = .ok (.iaload, 1) := by decide +kernel
theorem dX12_copy_22 : decode cX12_copy 22 = .ok (.ifCond .eq 12, 3) := by decide +kernel
theorem dX12_copy_25 : decode cX12_copy 25 = .ok (.aload_n 0, 1) := by decide +kernel
theorem dX12_copy_26 : decode cX12_copy 26 = .ok (.getfield 22, 3) := by decide +kernel
theorem dX12_copy_29 : decode cX12_copy 29 = .ok (.iload_n 3, 1) := by decide +kernel
theorem dX12_copy_30 : decode cX12_copy 30 = .ok (.iaload, 1) := by decide +kernel
theorem dX12_copy_31 : decode cX12_copy 31 = .ok (.ifCond .ne 6, 3) := by decide +kernel
theorem dX12_copy_34 : decode cX12_copy 34 = .ok (.bipush (-11), 2) := by decide +kernel
theorem dX12_copy_36 : decode cX12_copy 36 = .ok (.ireturn, 1) := by decide +kernel
theorem dX12_copy_37 : decode cX12_copy 37 = .ok (.aload_n 0, 1) := by decide +kernel
theorem dX12_copy_38 : decode cX12_copy 38 = .ok (.getfield 22, 3) := by decide +kernel
theorem dX12_copy_41 : decode cX12_copy 41 = .ok (.iload_n 1, 1) := by decide +kernel
theorem dX12_copy_42 : decode cX12_copy 42 = .ok (.iaload, 1) := by decide +kernel
theorem dX12_copy_43 : decode cX12_copy 43 = .ok (.iconst 2, 1) := by decide +kernel
theorem dX12_copy_44 : decode cX12_copy 44 = .ok (.if_icmp .ne 28, 3) := by decide +kernel
theorem dX12_copy_47 : decode cX12_copy 47 = .ok (.aload_n 0, 1) := by decide +kernel
theorem dX12_copy_48 : decode cX12_copy 48 = .ok (.getfield 22, 3) := by decide +kernel
theorem dX12_copy_51 : decode cX12_copy 51 = .ok (.iload_n 3, 1) := by decide +kernel
theorem dX12_copy_52 : decode cX12_copy 52 = .ok (.iaload, 1) := by decide +kernel
theorem dX12_copy_53 : decode cX12_copy 53 = .ok (.iconst 2, 1) := by decide +kernel
theorem dX12_copy_54 : decode cX12_copy 54 = .ok (.if_icmp .ne 18, 3) := by decide +kernel
theorem dX12_copy_57 : decode cX12_copy 57 = .ok (.aload_n 0, 1) := by decide +kernel
theorem dX12_copy_58 : decode cX12_copy 58 = .ok (.getfield 25, 3) := by decide +kernel
theorem dX12_copy_61 : decode cX12_copy 61 = .ok (.iload_n 1, 1) := by decide +kernel
theorem dX12_copy_62 : decode cX12_copy 62 = .ok (.iaload, 1) := by decide +kernel
theorem dX12_copy_63 : decode cX12_copy 63 = .ok (.aload_n 0, 1) := by decide +kernel
theorem dX12_copy_64 : decode cX12_copy 64 = .ok (.getfield 25, 3) := by decide +kernel
theorem dX12_copy_67 : decode cX12_copy 67 = .ok (.iload_n 3, 1) := by decide +kernel
theorem dX12_copy_68 : decode cX12_copy 68 = .ok (.iaload, 1) := by decide +kernel
theorem dX12_copy_69 : decode cX12_copy 69 = .ok (.if_icmp .eq 6, 3) := by decide +kernel
theorem dX12_copy_72 : decode cX12_copy 72 = .ok (.bipush (-12), 2) := by decide +kernel
theorem dX12_copy_74 : decode cX12_copy 74 = .ok (.ireturn, 1) := by decide +kernel
theorem dX12_copy_75 : decode cX12_copy 75 = .ok (.iload 5, 2) := by decide +kernel
theorem dX12_copy_77 : decode cX12_copy 77 = .ok (.ifCond .lt 47, 3) := by decide +kernel
theorem dX12_copy_80 : decode cX12_copy 80 = .ok (.iload_n 2, 1) := by decide +kernel
theorem dX12_copy_81 : decode cX12_copy 81 = .ok (.ifCond .lt 43, 3) := by decide +kernel
theorem dX12_copy_84 : decode cX12_copy 84 = .ok (.iload 4, 2) := by decide +kernel
theorem dX12_copy_86 : decode cX12_copy 86 = .ok (.ifCond .lt 38, 3) := by decide +kernel
theorem dX12_copy_89 : decode cX12_copy 89 = .ok (.iload_n 2, 1) := by decide +kernel
theorem dX12_copy_90 : decode cX12_copy 90 = .ok (.i2l, 1) := by decide +kernel
theorem dX12_copy_91 : decode cX12_copy 91 = .ok (.iload 5, 2) := by decide +kernel
theorem dX12_copy_93 : decode cX12_copy 93 = .ok (.i2l, 1) := by decide +kernel
theorem dX12_copy_94 : decode cX12_copy 94 = .ok (.ladd, 1) := by decide +kernel
theorem dX12_copy_95 : decode cX12_copy 95 = .ok (.aload_n 0, 1) := by decide +kernel
theorem dX12_copy_96 : decode cX12_copy 96 = .ok (.getfield 28, 3) := by decide +kernel
theorem dX12_copy_99 : decode cX12_copy 99 = .ok (.iload_n 1, 1) := by decide +kernel
theorem dX12_copy_100 : decode cX12_copy 100 = .ok (.iaload, 1) := by decide +kernel
theorem dX12_copy_101 : decode cX12_copy 101 = .ok (.i2l, 1) := by decide +kernel
theorem dX12_copy_102 : decode cX12_copy 102 = .ok (.lcmp, 1) := by decide +kernel
theorem dX12_copy_103 : decode cX12_copy 103 = .ok (.ifCond .gt 21, 3) := by decide +kernel
theorem dX12_copy_106 : decode cX12_copy 106 = .ok (.iload 4, 2) := by decide +kernel
theorem dX12_copy_108 : decode cX12_copy 108 = .ok (.i2l, 1) := by decide +kernel
theorem dX12_copy_109 : decode cX12_copy 109 = .ok (.iload 5, 2) := by decide +kernel
theorem dX12_copy_111 : decode cX12_copy 111 = .ok (.i2l, 1) := by decide +kernel
theorem dX12_copy_112 : decode cX12_copy 112 = .ok (.ladd, 1) := by decide +kernel
theorem dX12_copy_113 : decode cX12_copy 113 = .ok (.aload_n 0, 1) := by decide +kernel
theorem dX12_copy_114 : decode cX12_copy 114 = .ok (.getfield 28, 3) := by decide +kernel
theorem dX12_copy_117 : decode cX12_copy 117 = .ok (.iload_n 3, 1) := by decide +kernel
theorem dX12_copy_118 : decode cX12_copy 118 = .ok (.iaload, 1) := by decide +kernel
theorem dX12_copy_119 : decode cX12_copy 119 = .ok (.i2l, 1) := by decide +kernel
theorem dX12_copy_120 : decode cX12_copy 120 = .ok (.lcmp, 1) := by decide +kernel
theorem dX12_copy_121 : decode cX12_copy 121 = .ok (.ifCond .le 6, 3) := by decide +kernel
theorem dX12_copy_124 : decode cX12_copy 124 = .ok (.bipush (-13), 2) := by decide +kernel
theorem dX12_copy_126 : decode cX12_copy 126 = .ok (.ireturn, 1) := by decide +kernel
theorem dX12_copy_127 : decode cX12_copy 127 = .ok (.iload_n 1, 1) := by decide +kernel
theorem dX12_copy_128 : decode cX12_copy 128 = .ok (.iload_n 3, 1) := by decide +kernel
theorem dX12_copy_129 : decode cX12_copy 129 = .ok (.if_icmp .ne 58, 3) := by decide +kernel
theorem dX12_copy_132 : decode cX12_copy 132 = .ok (.iload_n 2, 1) := by decide +kernel
theorem dX12_copy_133 : decode cX12_copy 133 = .ok (.iload 4, 2) := by decide +kernel
theorem dX12_copy_135 : decode cX12_copy 135 = .ok (.if_icmp .ge 52, 3) := by decide +kernel
theorem dX12_copy_138 : decode cX12_copy 138 = .ok (.iload 5, 2) := by decide +kernel
theorem dX12_copy_140 : decode cX12_copy 140 = .ok (.iconst 1, 1) := by decide +kernel
theorem dX12_copy_141 : decode cX12_copy 141 = .ok (.isub, 1) := by decide +kernel
theorem dX12_copy_142 : decode cX12_copy 142 = .ok (.istore 6, 2) := by decide +kernel
theorem dX12_copy_144 : decode cX12_copy 144 = .ok (.iload 6, 2) := by decide +kernel
theorem dX12_copy_146 : decode cX12_copy 146 = .ok (.ifCond .lt 38, 3) := by decide +kernel
theorem dX12_copy_149 : decode cX12_copy 149 = .ok (.aload_n 0, 1) := by decide +kernel
theorem dX12_copy_150 : decode cX12_copy 150 = .ok (.getfield 31, 3) := by decide +kernel
theorem dX12_copy_153 : decode cX12_copy 153 = .ok (.bipush 100, 2) := by decide +kernel
theorem dX12_copy_155 : decode cX12_copy 155 = .ok (.iload_n 3, 1) := by decide +kernel
theorem dX12_copy_156 : decode cX12_copy 156 = .ok (.imul, 1) := by decide +kernel
theorem dX12_copy_157 : decode cX12_copy 157 = .ok (.iload 4, 2) := by decide +kernel
theorem dX12_copy_159 : decode cX12_copy 159 = .ok (.iadd, 1) := by decide +kernel
theorem dX12_copy_160 : decode cX12_copy 160 = .ok (.iload 6, 2) := by decide +kernel
theorem dX12_copy_162 : decode cX12_copy 162 = .ok (.iadd, 1) := by decide +kernel
theorem dX12_copy_163 : decode cX12_copy 163 = .ok (.aload_n 0, 1) := by decide +kernel
theorem dX12_copy_164 : decode cX12_copy 164 = .ok (.getfield 31, 3) := by decide +kernel
theorem dX12_copy_167 : decode cX12_copy 167 = .ok (.bipush 100, 2) := by decide +kernel
theorem dX12_copy_169 : decode cX12_copy 169 = .ok (.iload_n 1, 1) := by decide +kernel
theorem dX12_copy_170 : decode cX12_copy 170 = .ok (.imul, 1) := by decide +kernel
theorem dX12_copy_171 : decode cX12_copy 171 = .ok (.iload_n 2, 1) := by decide +kernel
theorem dX12_copy_172 : decode cX12_copy 172 = .ok (.iadd, 1) := by decide +kernel
theorem dX12_copy_173 : decode cX12_copy 173 = .ok (.iload 6, 2) := by decide +kernel
theorem dX12_copy_175 : decode cX12_copy 175 = .ok (.iadd, 1) := by decide +kernel
theorem dX12_copy_176 : decode cX12_copy 176 = .ok (.iaload, 1) := by decide +kernel
theorem dX12_copy_177 : decode cX12_copy 177 = .ok (.iastore, 1) := by decide +kernel
theorem dX12_copy_178 : decode cX12_copy 178 = .ok (.iinc 6 (-1), 3) := by decide +kernel
theorem dX12_copy_181 : decode cX12_copy 181 = .ok (.goto (-37), 3) := by decide +kernel
theorem dX12_copy_184 : decode cX12_copy 184 = .ok (.goto 48, 3) := by decide +kernel
theorem dX12_copy_187 : decode cX12_copy 187 = .ok (.iconst 0, 1) := by decide +kernel
theorem dX12_copy_188 : decode cX12_copy 188 = .ok (.istore 6, 2) := by decide +kernel
theorem dX12_copy_190 : decode cX12_copy 190 = .ok (.iload 6, 2) := by decide +kernel
theorem dX12_copy_192 : decode cX12_copy 192 = .ok (.iload 5, 2) := by decide +kernel
theorem dX12_copy_194 : decode cX12_copy 194 = .ok (.if_icmp .ge 38, 3) := by decide +kernel
theorem dX12_copy_197 : decode cX12_copy 197 = .ok (.aload_n 0, 1) := by decide +kernel
theorem dX12_copy_198 : decode cX12_copy 198 = .ok (.getfield 31, 3) := by decide +kernel
theorem dX12_copy_201 : decode cX12_copy 201 = .ok (.bipush 100, 2) := by decide +kernel
theorem dX12_copy_203 : decode cX12_copy 203 = .ok (.iload_n 3, 1) := by decide +kernel
theorem dX12_copy_204 : decode cX12_copy 204 = .ok (.imul, 1) := by decide +kernel
theorem dX12_copy_205 : decode cX12_copy 205 = .ok (.iload 4, 2) := by decide +kernel
theorem dX12_copy_207 : decode cX12_copy 207 = .ok (.iadd, 1) := by decide +kernel
theorem dX12_copy_208 : decode cX12_copy 208 = .ok (.iload 6, 2) := by decide +kernel
theorem dX12_copy_210 : decode cX12_copy 210 = .ok (.iadd, 1) := by decide +kernel
theorem dX12_copy_211 : decode cX12_copy 211 = .ok (.aload_n 0, 1) := by decide +kernel
theorem dX12_copy_212 : decode cX12_copy 212 = .ok (.getfield 31, 3) := by decide +kernel
theorem dX12_copy_215 : decode cX12_copy 215 = .ok (.bipush 100, 2) := by decide +kernel
theorem dX12_copy_217 : decode cX12_copy 217 = .ok (.iload_n 1, 1) := by decide +kernel
theorem dX12_copy_218 : decode cX12_copy 218 = .ok (.imul, 1) := by decide +kernel
theorem dX12_copy_219 : decode cX12_copy 219 = .ok (.iload_n 2, 1) := by decide +kernel
theorem dX12_copy_220 : decode cX12_copy 220 = .ok (.iadd, 1) := by decide +kernel
theorem dX12_copy_221 : decode cX12_copy 221 = .ok (.iload 6, 2) := by decide +kernel
theorem dX12_copy_223 : decode cX12_copy 223 = .ok (.iadd, 1) := by decide +kernel
theorem dX12_copy_224 : decode cX12_copy 224 = .ok (.iaload, 1) := by decide +kernel
theorem dX12_copy_225 : decode cX12_copy 225 = .ok (.iastore, 1) := by decide +kernel
theorem dX12_copy_226 : decode cX12_copy 226 = .ok (.iinc 6 1, 3) := by decide +kernel
theorem dX12_copy_229 : decode cX12_copy 229 = .ok (.goto (-39), 3) := by decide +kernel
theorem dX12_copy_232 : decode cX12_copy 232 = .ok (.iload 5, 2) := by decide +kernel
theorem dX12_copy_234 : decode cX12_copy 234 = .ok (.ireturn, 1) := by decide +kernel
theorem dX12_costOf_0 : decode cX12_costOf 0 = .ok (.aload_n 0, 1) := by decide +kernel
theorem dX12_costOf_1 : decode cX12_costOf 1 = .ok (.getfield 25, 3) := by decide +kernel
theorem dX12_costOf_4 : decode cX12_costOf 4 = .ok (.iload_n 1, 1) := by decide +kernel
theorem dX12_costOf_5 : decode cX12_costOf 5 = .ok (.iaload, 1) := by decide +kernel
theorem dX12_costOf_6 : decode cX12_costOf 6 = .ok (.tableswitch 66 0 6 #[42, 44, 46, 48, 51, 54, 63], 42) := by decide +kernel
theorem dX12_costOf_48 : decode cX12_costOf 48 = .ok (.iconst 2, 1) := by decide +kernel
theorem dX12_costOf_49 : decode cX12_costOf 49 = .ok (.ireturn, 1) := by decide +kernel
theorem dX12_costOf_50 : decode cX12_costOf 50 = .ok (.iconst 3, 1) := by decide +kernel
theorem dX12_costOf_51 : decode cX12_costOf 51 = .ok (.ireturn, 1) := by decide +kernel
theorem dX12_costOf_52 : decode cX12_costOf 52 = .ok (.iconst 4, 1) := by decide +kernel
theorem dX12_costOf_53 : decode cX12_costOf 53 = .ok (.ireturn, 1) := by decide +kernel
theorem dX12_costOf_54 : decode cX12_costOf 54 = .ok (.bipush 9, 2) := by decide +kernel
theorem dX12_costOf_56 : decode cX12_costOf 56 = .ok (.ireturn, 1) := by decide +kernel
theorem dX12_costOf_57 : decode cX12_costOf 57 = .ok (.bipush 8, 2) := by decide +kernel
theorem dX12_costOf_59 : decode cX12_costOf 59 = .ok (.ireturn, 1) := by decide +kernel
theorem dX12_costOf_60 : decode cX12_costOf 60 = .ok (.iconst 4, 1) := by decide +kernel
theorem dX12_costOf_61 : decode cX12_costOf 61 = .ok (.aload_n 0, 1) := by decide +kernel
theorem dX12_costOf_62 : decode cX12_costOf 62 = .ok (.getfield 28, 3) := by decide +kernel
theorem dX12_costOf_65 : decode cX12_costOf 65 = .ok (.iload_n 1, 1) := by decide +kernel
theorem dX12_costOf_66 : decode cX12_costOf 66 = .ok (.iaload, 1) := by decide +kernel
theorem dX12_costOf_67 : decode cX12_costOf 67 = .ok (.iadd, 1) := by decide +kernel
theorem dX12_costOf_68 : decode cX12_costOf 68 = .ok (.ireturn, 1) := by decide +kernel
theorem dX12_costOf_69 : decode cX12_costOf 69 = .ok (.bipush 30, 2) := by decide +kernel
theorem dX12_costOf_71 : decode cX12_costOf 71 = .ok (.ireturn, 1) := by decide +kernel
theorem dX12_costOf_72 : decode cX12_costOf 72 = .ok (.bipush 9, 2) := by decide +kernel
theorem dX12_costOf_74 : decode cX12_costOf 74 = .ok (.aload_n 0, 1) := by decide +kernel
theorem dX12_costOf_75 : decode cX12_costOf 75 = .ok (.getfield 28, 3) := by decide +kernel
theorem dX12_costOf_78 : decode cX12_costOf 78 = .ok (.iload_n 1, 1) := by decide +kernel
theorem dX12_costOf_79 : decode cX12_costOf 79 = .ok (.iaload, 1) := by decide +kernel
theorem dX12_costOf_80 : decode cX12_costOf 80 = .ok (.iadd, 1) := by decide +kernel
theorem dX12_costOf_81 : decode cX12_costOf 81 = .ok (.ireturn, 1) := by decide +kernel
theorem dX12_cost_0 : decode cX12_cost 0 = .ok (.iload_n 1, 1) := by decide +kernel
theorem dX12_cost_1 : decode cX12_cost 1 = .ok (.invokestatic 107, 3) := by decide +kernel
theorem dX12_cost_4 : decode cX12_cost 4 = .ok (.ifCond .ne 5, 3) := by decide +kernel
theorem dX12_cost_7 : decode cX12_cost 7 = .ok (.iconst (-1), 1) := by decide +kernel
theorem dX12_cost_8 : decode cX12_cost 8 = .ok (.ireturn, 1) := by decide +kernel
theorem dX12_cost_9 : decode cX12_cost 9 = .ok (.aload_n 0, 1) := by decide +kernel
theorem dX12_cost_10 : decode cX12_cost 10 = .ok (.iload_n 1, 1) := by decide +kernel
theorem dX12_cost_11 : decode cX12_cost 11 = .ok (.invokevirtual 131, 3) := by decide +kernel
theorem dX12_cost_14 : decode cX12_cost 14 = .ok (.istore_n 2, 1) := by decide +kernel
theorem dX12_cost_15 : decode cX12_cost 15 = .ok (.iload_n 2, 1) := by decide +kernel
theorem dX12_cost_16 : decode cX12_cost 16 = .ok (.ifCond .ge 7, 3) := by decide +kernel
theorem dX12_cost_19 : decode cX12_cost 19 = .ok (.iload_n 2, 1) := by decide +kernel
theorem dX12_cost_20 : decode cX12_cost 20 = .ok (.goto 8, 3) := by decide +kernel
theorem dX12_cost_23 : decode cX12_cost 23 = .ok (.aload_n 0, 1) := by decide +kernel
theorem dX12_cost_24 : decode cX12_cost 24 = .ok (.iload_n 1, 1) := by decide +kernel
theorem dX12_cost_25 : decode cX12_cost 25 = .ok (.invokevirtual 243, 3) := by decide +kernel
theorem dX12_cost_28 : decode cX12_cost 28 = .ok (.ireturn, 1) := by decide +kernel
theorem dX12_toss_0 : decode cX12_toss 0 = .ok (.iload_n 1, 1) := by decide +kernel
theorem dX12_toss_1 : decode cX12_toss 1 = .ok (.invokestatic 107, 3) := by decide +kernel
theorem dX12_toss_4 : decode cX12_toss 4 = .ok (.ifCond .ne 5, 3) := by decide +kernel
theorem dX12_toss_7 : decode cX12_toss 7 = .ok (.iconst (-1), 1) := by decide +kernel
theorem dX12_toss_8 : decode cX12_toss 8 = .ok (.ireturn, 1) := by decide +kernel
theorem dX12_toss_9 : decode cX12_toss 9 = .ok (.aload_n 0, 1) := by decide +kernel
theorem dX12_toss_10 : decode cX12_toss 10 = .ok (.iload_n 1, 1) := by decide +kernel
theorem dX12_toss_11 : decode cX12_toss 11 = .ok (.invokevirtual 131, 3) := by decide +kernel
theorem dX12_toss_14 : decode cX12_toss 14 = .ok (.istore_n 2, 1) := by decide +kernel
theorem dX12_toss_15 : decode cX12_toss 15 = .ok (.iload_n 2, 1) := by decide +kernel
theorem dX12_toss_16 : decode cX12_toss 16 = .ok (.ifCond .ge 5, 3) := by decide +kernel
theorem dX12_toss_19 : decode cX12_toss 19 = .ok (.iload_n 2, 1) := by decide +kernel
theorem dX12_toss_20 : decode cX12_toss 20 = .ok (.ireturn, 1) := by decide +kernel
theorem dX12_toss_21 : decode cX12_toss 21 = .ok (.aload_n 0, 1) := by decide +kernel
theorem dX12_toss_22 : decode cX12_toss 22 = .ok (.getfield 25, 3) := by decide +kernel
theorem dX12_toss_25 : decode cX12_toss 25 = .ok (.iload_n 1, 1) := by decide +kernel
theorem dX12_toss_26 : decode cX12_toss 26 = .ok (.iaload, 1) := by decide +kernel
theorem dX12_toss_27 : decode cX12_toss 27 = .ok (.bipush 6, 2) := by decide +kernel
theorem dX12_toss_29 : decode cX12_toss 29 = .ok (.if_icmp .eq 12, 3) := by decide +kernel
theorem dX12_toss_32 : decode cX12_toss 32 = .ok (.aload_n 0, 1) := by decide +kernel
theorem dX12_toss_33 : decode cX12_toss 33 = .ok (.getfield 28, 3) := by decide +kernel
theorem dX12_toss_36 : decode cX12_toss 36 = .ok (.iload_n 1, 1) := by decide +kernel
theorem dX12_toss_37 : decode cX12_toss 37 = .ok (.iaload, 1) := by decide +kernel
theorem dX12_toss_38 : decode cX12_toss 38 = .ok (.ifCond .ne 6, 3) := by decide +kernel
theorem dX12_toss_41 : decode cX12_toss 41 = .ok (.bipush (-15), 2) := by decide +kernel
theorem dX12_toss_43 : decode cX12_toss 43 = .ok (.ireturn, 1) := by decide +kernel
theorem dX12_toss_44 : decode cX12_toss 44 = .ok (.aload_n 0, 1) := by decide +kernel
theorem dX12_toss_45 : decode cX12_toss 45 = .ok (.getfield 25, 3) := by decide +kernel
theorem dX12_toss_48 : decode cX12_toss 48 = .ok (.iload_n 1, 1) := by decide +kernel
theorem dX12_toss_49 : decode cX12_toss 49 = .ok (.iaload, 1) := by decide +kernel
theorem dX12_toss_50 : decode cX12_toss 50 = .ok (.iconst 2, 1) := by decide +kernel
theorem dX12_toss_51 : decode cX12_toss 51 = .ok (.if_icmp .ge 12, 3) := by decide +kernel
theorem dX12_toss_54 : decode cX12_toss 54 = .ok (.aload_n 0, 1) := by decide +kernel
theorem dX12_toss_55 : decode cX12_toss 55 = .ok (.getfield 28, 3) := by decide +kernel
theorem dX12_toss_58 : decode cX12_toss 58 = .ok (.iload_n 1, 1) := by decide +kernel
theorem dX12_toss_59 : decode cX12_toss 59 = .ok (.iaload, 1) := by decide +kernel
theorem dX12_toss_60 : decode cX12_toss 60 = .ok (.goto 35, 3) := by decide +kernel
theorem dX12_toss_63 : decode cX12_toss 63 = .ok (.aload_n 0, 1) := by decide +kernel
theorem dX12_toss_64 : decode cX12_toss 64 = .ok (.getfield 25, 3) := by decide +kernel
theorem dX12_toss_67 : decode cX12_toss 67 = .ok (.iload_n 1, 1) := by decide +kernel
theorem dX12_toss_68 : decode cX12_toss 68 = .ok (.iaload, 1) := by decide +kernel
theorem dX12_toss_69 : decode cX12_toss 69 = .ok (.bipush 7, 2) := by decide +kernel
theorem dX12_toss_71 : decode cX12_toss 71 = .ok (.if_icmp .ne 15, 3) := by decide +kernel
theorem dX12_toss_74 : decode cX12_toss 74 = .ok (.sipush 200, 3) := by decide +kernel
theorem dX12_toss_77 : decode cX12_toss 77 = .ok (.aload_n 0, 1) := by decide +kernel
theorem dX12_toss_78 : decode cX12_toss 78 = .ok (.iload_n 1, 1) := by decide +kernel
theorem dX12_toss_79 : decode cX12_toss 79 = .ok (.invokevirtual 243, 3) := by decide +kernel
theorem dX12_toss_82 : decode cX12_toss 82 = .ok (.iadd, 1) := by decide +kernel
theorem dX12_toss_83 : decode cX12_toss 83 = .ok (.goto 12, 3) := by decide +kernel
theorem dX12_toss_86 : decode cX12_toss 86 = .ok (.bipush 100, 2) := by decide +kernel
theorem dX12_toss_88 : decode cX12_toss 88 = .ok (.aload_n 0, 1) := by decide +kernel
theorem dX12_toss_89 : decode cX12_toss 89 = .ok (.getfield 28, 3) := by decide +kernel
theorem dX12_toss_92 : decode cX12_toss 92 = .ok (.iload_n 1, 1) := by decide +kernel
theorem dX12_toss_93 : decode cX12_toss 93 = .ok (.iaload, 1) := by decide +kernel
theorem dX12_toss_94 : decode cX12_toss 94 = .ok (.iadd, 1) := by decide +kernel
theorem dX12_toss_95 : decode cX12_toss 95 = .ok (.ireturn, 1) := by decide +kernel
