theorem dL_at_0 : decode cL_at 0 = .ok (.iload_n 1, 1) := by decide +kernel
theorem dL_at_1 : decode cL_at 1 = .ok (.aload_n 0, 1) := by decide +kernel
theorem dL_at_2 : decode cL_at 2 = .ok (.arraylength, 1) := by decide +kernel
theorem dL_at_3 : decode cL_at 3 = .ok (.if_icmp .ge 9, 3) := by decide +kernel
theorem dL_at_6 : decode cL_at 6 = .ok (.aload_n 0, 1) := by decide +kernel
theorem dL_at_7 : decode cL_at 7 = .ok (.iload_n 1, 1) := by decide +kernel
theorem dL_at_8 : decode cL_at 8 = .ok (.iaload, 1) := by decide +kernel
theorem dL_at_9 : decode cL_at 9 = .ok (.goto 4, 3) := by decide +kernel
theorem dL_at_12 : decode cL_at 12 = .ok (.iconst 0, 1) := by decide +kernel
theorem dL_at_13 : decode cL_at 13 = .ok (.ireturn, 1) := by decide +kernel
theorem dL_some_0 : decode cL_some 0 = .ok (.iload_n 0, 1) := by decide +kernel
theorem dL_some_1 : decode cL_some 1 = .ok (.iload_n 1, 1) := by decide +kernel
theorem dL_some_2 : decode cL_some 2 = .ok (.irem, 1) := by decide +kernel
theorem dL_some_3 : decode cL_some 3 = .ok (.istore_n 2, 1) := by decide +kernel
theorem dL_some_4 : decode cL_some 4 = .ok (.iload_n 2, 1) := by decide +kernel
theorem dL_some_5 : decode cL_some 5 = .ok (.ifCond .ge 9, 3) := by decide +kernel
theorem dL_some_8 : decode cL_some 8 = .ok (.iload_n 2, 1) := by decide +kernel
theorem dL_some_9 : decode cL_some 9 = .ok (.iload_n 1, 1) := by decide +kernel
theorem dL_some_10 : decode cL_some 10 = .ok (.iadd, 1) := by decide +kernel
theorem dL_some_11 : decode cL_some 11 = .ok (.goto 4, 3) := by decide +kernel
theorem dL_some_14 : decode cL_some 14 = .ok (.iload_n 2, 1) := by decide +kernel
theorem dL_some_15 : decode cL_some 15 = .ok (.ireturn, 1) := by decide +kernel
theorem dL_holds_0 : decode cL_holds 0 = .ok (.iload_n 0, 1) := by decide +kernel
theorem dL_holds_1 : decode cL_holds 1 = .ok (.sipush 1000, 3) := by decide +kernel
theorem dL_holds_4 : decode cL_holds 4 = .ok (.idiv, 1) := by decide +kernel
theorem dL_holds_5 : decode cL_holds 5 = .ok (.istore_n 2, 1) := by decide +kernel
theorem dL_holds_6 : decode cL_holds 6 = .ok (.iload_n 1, 1) := by decide +kernel
theorem dL_holds_7 : decode cL_holds 7 = .ok (.iload_n 0, 1) := by decide +kernel
theorem dL_holds_8 : decode cL_holds 8 = .ok (.bipush 10, 2) := by decide +kernel
theorem dL_holds_10 : decode cL_holds 10 = .ok (.idiv, 1) := by decide +kernel
theorem dL_holds_11 : decode cL_holds 11 = .ok (.bipush 10, 2) := by decide +kernel
theorem dL_holds_13 : decode cL_holds 13 = .ok (.irem, 1) := by decide +kernel
theorem dL_holds_14 : decode cL_holds 14 = .ok (.ishr, 1) := by decide +kernel
theorem dL_holds_15 : decode cL_holds 15 = .ok (.iconst 1, 1) := by decide +kernel
theorem dL_holds_16 : decode cL_holds 16 = .ok (.iand, 1) := by decide +kernel
theorem dL_holds_17 : decode cL_holds 17 = .ok (.iconst 1, 1) := by decide +kernel
theorem dL_holds_18 : decode cL_holds 18 = .ok (.if_icmp .ne 7, 3) := by decide +kernel
theorem dL_holds_21 : decode cL_holds 21 = .ok (.iconst 1, 1) := by decide +kernel
theorem dL_holds_22 : decode cL_holds 22 = .ok (.goto 4, 3) := by decide +kernel
theorem dL_holds_25 : decode cL_holds 25 = .ok (.iconst 0, 1) := by decide +kernel
theorem dL_holds_26 : decode cL_holds 26 = .ok (.istore_n 3, 1) := by decide +kernel
theorem dL_holds_27 : decode cL_holds 27 = .ok (.iload_n 1, 1) := by decide +kernel
theorem dL_holds_28 : decode cL_holds 28 = .ok (.iload_n 0, 1) := by decide +kernel
theorem dL_holds_29 : decode cL_holds 29 = .ok (.bipush 10, 2) := by decide +kernel
theorem dL_holds_31 : decode cL_holds 31 = .ok (.irem, 1) := by decide +kernel
theorem dL_holds_32 : decode cL_holds 32 = .ok (.ishr, 1) := by decide +kernel
theorem dL_holds_33 : decode cL_holds 33 = .ok (.iconst 1, 1) := by decide +kernel
theorem dL_holds_34 : decode cL_holds 34 = .ok (.iand, 1) := by decide +kernel
theorem dL_holds_35 : decode cL_holds 35 = .ok (.iconst 1, 1) := by decide +kernel
theorem dL_holds_36 : decode cL_holds 36 = .ok (.if_icmp .ne 7, 3) := by decide +kernel
theorem dL_holds_39 : decode cL_holds 39 = .ok (.iconst 1, 1) := by decide +kernel
theorem dL_holds_40 : decode cL_holds 40 = .ok (.goto 4, 3) := by decide +kernel
theorem dL_holds_43 : decode cL_holds 43 = .ok (.iconst 0, 1) := by decide +kernel
theorem dL_holds_44 : decode cL_holds 44 = .ok (.istore 4, 2) := by decide +kernel
theorem dL_holds_46 : decode cL_holds 46 = .ok (.iload_n 2, 1) := by decide +kernel
theorem dL_holds_47 : decode cL_holds 47 = .ok (.iconst 2, 1) := by decide +kernel
theorem dL_holds_48 : decode cL_holds 48 = .ok (.if_icmp .ge 22, 3) := by decide +kernel
theorem dL_holds_51 : decode cL_holds 51 = .ok (.iload_n 3, 1) := by decide +kernel
theorem dL_holds_52 : decode cL_holds 52 = .ok (.iload_n 2, 1) := by decide +kernel
theorem dL_holds_53 : decode cL_holds 53 = .ok (.ifCond .ne 7, 3) := by decide +kernel
theorem dL_holds_56 : decode cL_holds 56 = .ok (.iconst 1, 1) := by decide +kernel
theorem dL_holds_57 : decode cL_holds 57 = .ok (.goto 4, 3) := by decide +kernel
theorem dL_holds_60 : decode cL_holds 60 = .ok (.iconst 0, 1) := by decide +kernel
theorem dL_holds_61 : decode cL_holds 61 = .ok (.if_icmp .ne 7, 3) := by decide +kernel
theorem dL_holds_64 : decode cL_holds 64 = .ok (.iconst 1, 1) := by decide +kernel
theorem dL_holds_65 : decode cL_holds 65 = .ok (.goto 4, 3) := by decide +kernel
theorem dL_holds_68 : decode cL_holds 68 = .ok (.iconst 0, 1) := by decide +kernel
theorem dL_holds_69 : decode cL_holds 69 = .ok (.ireturn, 1) := by decide +kernel
theorem dL_holds_70 : decode cL_holds 70 = .ok (.iload_n 2, 1) := by decide +kernel
theorem dL_holds_71 : decode cL_holds 71 = .ok (.iconst 2, 1) := by decide +kernel
theorem dL_holds_72 : decode cL_holds 72 = .ok (.if_icmp .ne 18, 3) := by decide +kernel
theorem dL_holds_75 : decode cL_holds 75 = .ok (.iload_n 3, 1) := by decide +kernel
theorem dL_holds_76 : decode cL_holds 76 = .ok (.ifCond .eq 12, 3) := by decide +kernel
theorem dL_holds_79 : decode cL_holds 79 = .ok (.iload 4, 2) := by decide +kernel
theorem dL_holds_81 : decode cL_holds 81 = .ok (.ifCond .eq 7, 3) := by decide +kernel
theorem dL_holds_84 : decode cL_holds 84 = .ok (.iconst 1, 1) := by decide +kernel
theorem dL_holds_85 : decode cL_holds 85 = .ok (.goto 4, 3) := by decide +kernel
theorem dL_holds_88 : decode cL_holds 88 = .ok (.iconst 0, 1) := by decide +kernel
theorem dL_holds_89 : decode cL_holds 89 = .ok (.ireturn, 1) := by decide +kernel
theorem dL_holds_90 : decode cL_holds 90 = .ok (.iload_n 2, 1) := by decide +kernel
theorem dL_holds_91 : decode cL_holds 91 = .ok (.iconst 4, 1) := by decide +kernel
theorem dL_holds_92 : decode cL_holds 92 = .ok (.if_icmp .ne 18, 3) := by decide +kernel
theorem dL_holds_95 : decode cL_holds 95 = .ok (.iload 4, 2) := by decide +kernel
theorem dL_holds_97 : decode cL_holds 97 = .ok (.ifCond .ne 7, 3) := by decide +kernel
theorem dL_holds_100 : decode cL_holds 100 = .ok (.iload_n 3, 1) := by decide +kernel
theorem dL_holds_101 : decode cL_holds 101 = .ok (.ifCond .ne 7, 3) := by decide +kernel
theorem dL_holds_104 : decode cL_holds 104 = .ok (.iconst 1, 1) := by decide +kernel
theorem dL_holds_105 : decode cL_holds 105 = .ok (.goto 4, 3) := by decide +kernel
theorem dL_holds_108 : decode cL_holds 108 = .ok (.iconst 0, 1) := by decide +kernel
theorem dL_holds_109 : decode cL_holds 109 = .ok (.ireturn, 1) := by decide +kernel
theorem dL_holds_110 : decode cL_holds 110 = .ok (.iload_n 2, 1) := by decide +kernel
theorem dL_holds_111 : decode cL_holds 111 = .ok (.iconst 5, 1) := by decide +kernel
theorem dL_holds_112 : decode cL_holds 112 = .ok (.if_icmp .ne 23, 3) := by decide +kernel
theorem dL_holds_115 : decode cL_holds 115 = .ok (.iload_n 3, 1) := by decide +kernel
theorem dL_holds_116 : decode cL_holds 116 = .ok (.ifCond .eq 8, 3) := by decide +kernel
theorem dL_holds_119 : decode cL_holds 119 = .ok (.iload 4, 2) := by decide +kernel
theorem dL_holds_121 : decode cL_holds 121 = .ok (.goto 13, 3) := by decide +kernel
theorem dL_holds_124 : decode cL_holds 124 = .ok (.iload 4, 2) := by decide +kernel
theorem dL_holds_126 : decode cL_holds 126 = .ok (.ifCond .ne 7, 3) := by decide +kernel
theorem dL_holds_129 : decode cL_holds 129 = .ok (.iconst 1, 1) := by decide +kernel
theorem dL_holds_130 : decode cL_holds 130 = .ok (.goto 4, 3) := by decide +kernel
theorem dL_holds_133 : decode cL_holds 133 = .ok (.iconst 0, 1) := by decide +kernel
theorem dL_holds_134 : decode cL_holds 134 = .ok (.ireturn, 1) := by decide +kernel
theorem dL_holds_135 : decode cL_holds 135 = .ok (.iload_n 2, 1) := by decide +kernel
theorem dL_holds_136 : decode cL_holds 136 = .ok (.bipush 6, 2) := by decide +kernel
theorem dL_holds_138 : decode cL_holds 138 = .ok (.if_icmp .ne 7, 3) := by decide +kernel
theorem dL_holds_141 : decode cL_holds 141 = .ok (.iconst 0, 1) := by decide +kernel
theorem dL_holds_142 : decode cL_holds 142 = .ok (.goto 41, 3) := by decide +kernel
theorem dL_holds_145 : decode cL_holds 145 = .ok (.iload_n 3, 1) := by decide +kernel
theorem dL_holds_146 : decode cL_holds 146 = .ok (.ifCond .ne 32, 3) := by decide +kernel
theorem dL_holds_149 : decode cL_holds 149 = .ok (.iload 4, 2) := by decide +kernel
theorem dL_holds_151 : decode cL_holds 151 = .ok (.ifCond .ne 27, 3) := by decide +kernel
theorem dL_holds_154 : decode cL_holds 154 = .ok (.iload_n 2, 1) := by decide +kernel
theorem dL_holds_155 : decode cL_holds 155 = .ok (.bipush 7, 2) := by decide +kernel
theorem dL_holds_157 : decode cL_holds 157 = .ok (.if_icmp .ne 25, 3) := by decide +kernel
theorem dL_holds_160 : decode cL_holds 160 = .ok (.iload_n 1, 1) := by decide +kernel
theorem dL_holds_161 : decode cL_holds 161 = .ok (.iload_n 0, 1) := by decide +kernel
theorem dL_holds_162 : decode cL_holds 162 = .ok (.bipush 100, 2) := by decide +kernel
theorem dL_holds_164 : decode cL_holds 164 = .ok (.idiv, 1) := by decide +kernel
theorem dL_holds_165 : decode cL_holds 165 = .ok (.bipush 10, 2) := by decide +kernel
theorem dL_holds_167 : decode cL_holds 167 = .ok (.irem, 1) := by decide +kernel
theorem dL_holds_168 : decode cL_holds 168 = .ok (.bipush 6, 2) := by decide +kernel
theorem dL_holds_170 : decode cL_holds 170 = .ok (.irem, 1) := by decide +kernel
theorem dL_holds_171 : decode cL_holds 171 = .ok (.ishr, 1) := by decide +kernel
theorem dL_holds_172 : decode cL_holds 172 = .ok (.iconst 1, 1) := by decide +kernel
theorem dL_holds_173 : decode cL_holds 173 = .ok (.iand, 1) := by decide +kernel
theorem dL_holds_174 : decode cL_holds 174 = .ok (.iconst 1, 1) := by decide +kernel
theorem dL_holds_175 : decode cL_holds 175 = .ok (.if_icmp .ne 7, 3) := by decide +kernel
theorem dL_holds_178 : decode cL_holds 178 = .ok (.iconst 1, 1) := by decide +kernel
theorem dL_holds_179 : decode cL_holds 179 = .ok (.goto 4, 3) := by decide +kernel
theorem dL_holds_182 : decode cL_holds 182 = .ok (.iconst 0, 1) := by decide +kernel
theorem dL_holds_183 : decode cL_holds 183 = .ok (.ireturn, 1) := by decide +kernel
theorem dL_world_0 : decode cL_world 0 = .ok (.aload_n 1, 1) := by decide +kernel
theorem dL_world_1 : decode cL_world 1 = .ok (.iconst 0, 1) := by decide +kernel
theorem dL_world_2 : decode cL_world 2 = .ok (.invokestatic 7, 3) := by decide +kernel
theorem dL_world_5 : decode cL_world 5 = .ok (.istore_n 3, 1) := by decide +kernel
theorem dL_world_6 : decode cL_world 6 = .ok (.aload_n 2, 1) := by decide +kernel
theorem dL_world_7 : decode cL_world 7 = .ok (.iconst 3, 1) := by decide +kernel
theorem dL_world_8 : decode cL_world 8 = .ok (.iload_n 3, 1) := by decide +kernel
theorem dL_world_9 : decode cL_world 9 = .ok (.bipush 64, 2) := by decide +kernel
theorem dL_world_11 : decode cL_world 11 = .ok (.invokestatic 13, 3) := by decide +kernel
theorem dL_world_14 : decode cL_world 14 = .ok (.iastore, 1) := by decide +kernel
theorem dL_world_15 : decode cL_world 15 = .ok (.aload_n 0, 1) := by decide +kernel
theorem dL_world_16 : decode cL_world 16 = .ok (.aload_n 2, 1) := by decide +kernel
theorem dL_world_17 : decode cL_world 17 = .ok (.iconst 3, 1) := by decide +kernel
theorem dL_world_18 : decode cL_world 18 = .ok (.iaload, 1) := by decide +kernel
theorem dL_world_19 : decode cL_world 19 = .ok (.invokevirtual 17, 3) := by decide +kernel
theorem dL_world_22 : decode cL_world 22 = .ok (.pop, 1) := by decide +kernel
theorem dL_world_23 : decode cL_world 23 = .ok (.iload_n 3, 1) := by decide +kernel
theorem dL_world_24 : decode cL_world 24 = .ok (.bipush 6, 2) := by decide +kernel
theorem dL_world_26 : decode cL_world 26 = .ok (.ishr, 1) := by decide +kernel
theorem dL_world_27 : decode cL_world 27 = .ok (.iload_n 3, 1) := by decide +kernel
theorem dL_world_28 : decode cL_world 28 = .ok (.bipush 20, 2) := by decide +kernel
theorem dL_world_30 : decode cL_world 30 = .ok (.ishr, 1) := by decide +kernel
theorem dL_world_31 : decode cL_world 31 = .ok (.iconst 1, 1) := by decide +kernel
theorem dL_world_32 : decode cL_world 32 = .ok (.iand, 1) := by decide +kernel
theorem dL_world_33 : decode cL_world 33 = .ok (.ifCond .ne 7, 3) := by decide +kernel
theorem dL_world_36 : decode cL_world 36 = .ok (.iconst 3, 1) := by decide +kernel
theorem dL_world_37 : decode cL_world 37 = .ok (.goto 5, 3) := by decide +kernel
theorem dL_world_40 : decode cL_world 40 = .ok (.bipush 7, 2) := by decide +kernel
theorem dL_world_42 : decode cL_world 42 = .ok (.invokestatic 13, 3) := by decide +kernel
theorem dL_world_45 : decode cL_world 45 = .ok (.istore 4, 2) := by decide +kernel
theorem dL_world_47 : decode cL_world 47 = .ok (.aload_n 2, 1) := by decide +kernel
theorem dL_world_48 : decode cL_world 48 = .ok (.iconst 1, 1) := by decide +kernel
theorem dL_world_49 : decode cL_world 49 = .ok (.iload_n 3, 1) := by decide +kernel
theorem dL_world_50 : decode cL_world 50 = .ok (.bipush 9, 2) := by decide +kernel
theorem dL_world_52 : decode cL_world 52 = .ok (.ishr, 1) := by decide +kernel
theorem dL_world_53 : decode cL_world 53 = .ok (.bipush 6, 2) := by decide +kernel
theorem dL_world_55 : decode cL_world 55 = .ok (.invokestatic 13, 3) := by decide +kernel
theorem dL_world_58 : decode cL_world 58 = .ok (.iastore, 1) := by decide +kernel
theorem dL_world_59 : decode cL_world 59 = .ok (.iconst 0, 1) := by decide +kernel
theorem dL_world_60 : decode cL_world 60 = .ok (.istore 5, 2) := by decide +kernel
theorem dL_world_62 : decode cL_world 62 = .ok (.iload 5, 2) := by decide +kernel
theorem dL_world_64 : decode cL_world 64 = .ok (.aload_n 2, 1) := by decide +kernel
theorem dL_world_65 : decode cL_world 65 = .ok (.iconst 1, 1) := by decide +kernel
theorem dL_world_66 : decode cL_world 66 = .ok (.iaload, 1) := by decide +kernel
theorem dL_world_67 : decode cL_world 67 = .ok (.if_icmp .ge 45, 3) := by decide +kernel
theorem dL_world_70 : decode cL_world 70 = .ok (.aload_n 1, 1) := by decide +kernel
theorem dL_world_71 : decode cL_world 71 = .ok (.iconst 1, 1) := by decide +kernel
theorem dL_world_72 : decode cL_world 72 = .ok (.iload 5, 2) := by decide +kernel
theorem dL_world_74 : decode cL_world 74 = .ok (.iadd, 1) := by decide +kernel
theorem dL_world_75 : decode cL_world 75 = .ok (.invokestatic 7, 3) := by decide +kernel
theorem dL_world_78 : decode cL_world 78 = .ok (.istore 6, 2) := by decide +kernel
theorem dL_world_80 : decode cL_world 80 = .ok (.aload_n 2, 1) := by decide +kernel
theorem dL_world_81 : decode cL_world 81 = .ok (.bipush 10, 2) := by decide +kernel
theorem dL_world_83 : decode cL_world 83 = .ok (.iload 5, 2) := by decide +kernel
theorem dL_world_85 : decode cL_world 85 = .ok (.iadd, 1) := by decide +kernel
theorem dL_world_86 : decode cL_world 86 = .ok (.iload 6, 2) := by decide +kernel
theorem dL_world_88 : decode cL_world 88 = .ok (.bipush 64, 2) := by decide +kernel
theorem dL_world_90 : decode cL_world 90 = .ok (.invokestatic 13, 3) := by decide +kernel
theorem dL_world_93 : decode cL_world 93 = .ok (.iastore, 1) := by decide +kernel
theorem dL_world_94 : decode cL_world 94 = .ok (.aload_n 0, 1) := by decide +kernel
theorem dL_world_95 : decode cL_world 95 = .ok (.aload_n 2, 1) := by decide +kernel
theorem dL_world_96 : decode cL_world 96 = .ok (.bipush 10, 2) := by decide +kernel
theorem dL_world_98 : decode cL_world 98 = .ok (.iload 5, 2) := by decide +kernel
theorem dL_world_100 : decode cL_world 100 = .ok (.iadd, 1) := by decide +kernel
theorem dL_world_101 : decode cL_world 101 = .ok (.iaload, 1) := by decide +kernel
theorem dL_world_102 : decode cL_world 102 = .ok (.invokevirtual 23, 3) := by decide +kernel
theorem dL_world_105 : decode cL_world 105 = .ok (.pop, 1) := by decide +kernel
theorem dL_world_106 : decode cL_world 106 = .ok (.iinc 5 1, 3) := by decide +kernel
theorem dL_world_109 : decode cL_world 109 = .ok (.goto (-47), 3) := by decide +kernel
theorem dL_world_112 : decode cL_world 112 = .ok (.iconst 0, 1) := by decide +kernel
theorem dL_world_113 : decode cL_world 113 = .ok (.istore 5, 2) := by decide +kernel
theorem dL_world_115 : decode cL_world 115 = .ok (.iload 5, 2) := by decide +kernel
theorem dL_world_117 : decode cL_world 117 = .ok (.iload 4, 2) := by decide +kernel
theorem dL_world_119 : decode cL_world 119 = .ok (.if_icmp .ge 126, 3) := by decide +kernel
theorem dL_world_122 : decode cL_world 122 = .ok (.aload_n 1, 1) := by decide +kernel
theorem dL_world_123 : decode cL_world 123 = .ok (.bipush 6, 2) := by decide +kernel
theorem dL_world_125 : decode cL_world 125 = .ok (.iload 5, 2) := by decide +kernel
theorem dL_world_127 : decode cL_world 127 = .ok (.iadd, 1) := by decide +kernel
theorem dL_world_128 : decode cL_world 128 = .ok (.invokestatic 7, 3) := by decide +kernel
theorem dL_world_131 : decode cL_world 131 = .ok (.istore 6, 2) := by decide +kernel
theorem dL_world_133 : decode cL_world 133 = .ok (.aload_n 2, 1) := by decide +kernel
theorem dL_world_134 : decode cL_world 134 = .ok (.iconst 4, 1) := by decide +kernel
theorem dL_world_135 : decode cL_world 135 = .ok (.aload_n 2, 1) := by decide +kernel
theorem dL_world_136 : decode cL_world 136 = .ok (.iconst 0, 1) := by decide +kernel
theorem dL_world_137 : decode cL_world 137 = .ok (.iaload, 1) := by decide +kernel
theorem dL_world_138 : decode cL_world 138 = .ok (.iadd, 1) := by decide +kernel
theorem dL_world_139 : decode cL_world 139 = .ok (.iload 6, 2) := by decide +kernel
theorem dL_world_141 : decode cL_world 141 = .ok (.invokestatic 26, 3) := by decide +kernel
theorem dL_world_144 : decode cL_world 144 = .ok (.iastore, 1) := by decide +kernel
theorem dL_world_145 : decode cL_world 145 = .ok (.aload_n 2, 1) := by decide +kernel
theorem dL_world_146 : decode cL_world 146 = .ok (.iconst 4, 1) := by decide +kernel
theorem dL_world_147 : decode cL_world 147 = .ok (.aload_n 2, 1) := by decide +kernel
theorem dL_world_148 : decode cL_world 148 = .ok (.iconst 0, 1) := by decide +kernel
theorem dL_world_149 : decode cL_world 149 = .ok (.iaload, 1) := by decide +kernel
theorem dL_world_150 : decode cL_world 150 = .ok (.iadd, 1) := by decide +kernel
theorem dL_world_151 : decode cL_world 151 = .ok (.iaload, 1) := by decide +kernel
theorem dL_world_152 : decode cL_world 152 = .ok (.aload_n 2, 1) := by decide +kernel
theorem dL_world_153 : decode cL_world 153 = .ok (.iconst 3, 1) := by decide +kernel
theorem dL_world_154 : decode cL_world 154 = .ok (.iaload, 1) := by decide +kernel
theorem dL_world_155 : decode cL_world 155 = .ok (.invokestatic 29, 3) := by decide +kernel
theorem dL_world_158 : decode cL_world 158 = .ok (.ifCond .ne 14, 3) := by decide +kernel
theorem dL_world_161 : decode cL_world 161 = .ok (.iload 6, 2) := by decide +kernel
theorem dL_world_163 : decode cL_world 163 = .ok (.bipush 7, 2) := by decide +kernel
theorem dL_world_165 : decode cL_world 165 = .ok (.iand, 1) := by decide +kernel
theorem dL_world_166 : decode cL_world 166 = .ok (.ifCond .le 6, 3) := by decide +kernel
theorem dL_world_169 : decode cL_world 169 = .ok (.goto 70, 3) := by decide +kernel
theorem dL_world_172 : decode cL_world 172 = .ok (.aload_n 0, 1) := by decide +kernel
theorem dL_world_173 : decode cL_world 173 = .ok (.iconst 0, 1) := by decide +kernel
theorem dL_world_174 : decode cL_world 174 = .ok (.iconst 1, 1) := by decide +kernel
theorem dL_world_175 : decode cL_world 175 = .ok (.aload_n 2, 1) := by decide +kernel
theorem dL_world_176 : decode cL_world 176 = .ok (.iconst 4, 1) := by decide +kernel
theorem dL_world_177 : decode cL_world 177 = .ok (.aload_n 2, 1) := by decide +kernel
theorem dL_world_178 : decode cL_world 178 = .ok (.iconst 0, 1) := by decide +kernel
theorem dL_world_179 : decode cL_world 179 = .ok (.iaload, 1) := by decide +kernel
theorem dL_world_180 : decode cL_world 180 = .ok (.iadd, 1) := by decide +kernel
theorem dL_world_181 : decode cL_world 181 = .ok (.iaload, 1) := by decide +kernel
theorem dL_world_182 : decode cL_world 182 = .ok (.sipush 1000, 3) := by decide +kernel
theorem dL_world_185 : decode cL_world 185 = .ok (.idiv, 1) := by decide +kernel
theorem dL_world_186 : decode cL_world 186 = .ok (.aload_n 2, 1) := by decide +kernel
theorem dL_world_187 : decode cL_world 187 = .ok (.iconst 4, 1) := by decide +kernel
theorem dL_world_188 : decode cL_world 188 = .ok (.aload_n 2, 1) := by decide +kernel
theorem dL_world_189 : decode cL_world 189 = .ok (.iconst 0, 1) := by decide +kernel
theorem dL_world_190 : decode cL_world 190 = .ok (.iaload, 1) := by decide +kernel
theorem dL_world_191 : decode cL_world 191 = .ok (.iadd, 1) := by decide +kernel
theorem dL_world_192 : decode cL_world 192 = .ok (.iaload, 1) := by decide +kernel
theorem dL_world_193 : decode cL_world 193 = .ok (.bipush 100, 2) := by decide +kernel
theorem dL_world_195 : decode cL_world 195 = .ok (.idiv, 1) := by decide +kernel
theorem dL_world_196 : decode cL_world 196 = .ok (.bipush 10, 2) := by decide +kernel
theorem dL_world_198 : decode cL_world 198 = .ok (.irem, 1) := by decide +kernel
theorem dL_world_199 : decode cL_world 199 = .ok (.invokevirtual 33, 3) := by decide +kernel
theorem dL_world_202 : decode cL_world 202 = .ok (.pop, 1) := by decide +kernel
theorem dL_world_203 : decode cL_world 203 = .ok (.aload_n 0, 1) := by decide +kernel
theorem dL_world_204 : decode cL_world 204 = .ok (.iconst 0, 1) := by decide +kernel
theorem dL_world_205 : decode cL_world 205 = .ok (.aload_n 2, 1) := by decide +kernel
theorem dL_world_206 : decode cL_world 206 = .ok (.iconst 4, 1) := by decide +kernel
theorem dL_world_207 : decode cL_world 207 = .ok (.aload_n 2, 1) := by decide +kernel
theorem dL_world_208 : decode cL_world 208 = .ok (.iconst 0, 1) := by decide +kernel
theorem dL_world_209 : decode cL_world 209 = .ok (.iaload, 1) := by decide +kernel
theorem dL_world_210 : decode cL_world 210 = .ok (.iadd, 1) := by decide +kernel
theorem dL_world_211 : decode cL_world 211 = .ok (.iaload, 1) := by decide +kernel
theorem dL_world_212 : decode cL_world 212 = .ok (.bipush 10, 2) := by decide +kernel
theorem dL_world_214 : decode cL_world 214 = .ok (.idiv, 1) := by decide +kernel
theorem dL_world_215 : decode cL_world 215 = .ok (.bipush 10, 2) := by decide +kernel
theorem dL_world_217 : decode cL_world 217 = .ok (.irem, 1) := by decide +kernel
theorem dL_world_218 : decode cL_world 218 = .ok (.aload_n 2, 1) := by decide +kernel
theorem dL_world_219 : decode cL_world 219 = .ok (.iconst 4, 1) := by decide +kernel
theorem dL_world_220 : decode cL_world 220 = .ok (.aload_n 2, 1) := by decide +kernel
theorem dL_world_221 : decode cL_world 221 = .ok (.iconst 0, 1) := by decide +kernel
theorem dL_world_222 : decode cL_world 222 = .ok (.iaload, 1) := by decide +kernel
theorem dL_world_223 : decode cL_world 223 = .ok (.iadd, 1) := by decide +kernel
theorem dL_world_224 : decode cL_world 224 = .ok (.iaload, 1) := by decide +kernel
theorem dL_world_225 : decode cL_world 225 = .ok (.bipush 10, 2) := by decide +kernel
theorem dL_world_227 : decode cL_world 227 = .ok (.irem, 1) := by decide +kernel
theorem dL_world_228 : decode cL_world 228 = .ok (.invokevirtual 37, 3) := by decide +kernel
theorem dL_world_231 : decode cL_world 231 = .ok (.pop, 1) := by decide +kernel
theorem dL_world_232 : decode cL_world 232 = .ok (.aload_n 2, 1) := by decide +kernel
theorem dL_world_233 : decode cL_world 233 = .ok (.iconst 0, 1) := by decide +kernel
theorem dL_world_234 : decode cL_world 234 = .ok (.dup2, 1) := by decide +kernel
theorem dL_world_235 : decode cL_world 235 = .ok (.iaload, 1) := by decide +kernel
theorem dL_world_236 : decode cL_world 236 = .ok (.iconst 1, 1) := by decide +kernel
theorem dL_world_237 : decode cL_world 237 = .ok (.iadd, 1) := by decide +kernel
theorem dL_world_238 : decode cL_world 238 = .ok (.iastore, 1) := by decide +kernel
theorem dL_world_239 : decode cL_world 239 = .ok (.iinc 5 1, 3) := by decide +kernel
theorem dL_world_242 : decode cL_world 242 = .ok (.goto (-127), 3) := by decide +kernel
theorem dL_world_245 : decode cL_world 245 = .ok (.aload_n 2, 1) := by decide +kernel
theorem dL_world_246 : decode cL_world 246 = .ok (.iconst 1, 1) := by decide +kernel
theorem dL_world_247 : decode cL_world 247 = .ok (.iaload, 1) := by decide +kernel
theorem dL_world_248 : decode cL_world 248 = .ok (.ifCond .ne 7, 3) := by decide +kernel
theorem dL_world_251 : decode cL_world 251 = .ok (.iconst 0, 1) := by decide +kernel
theorem dL_world_252 : decode cL_world 252 = .ok (.goto 12, 3) := by decide +kernel
theorem dL_world_255 : decode cL_world 255 = .ok (.iload_n 3, 1) := by decide +kernel
theorem dL_world_256 : decode cL_world 256 = .ok (.bipush 12, 2) := by decide +kernel
theorem dL_world_258 : decode cL_world 258 = .ok (.ishr, 1) := by decide +kernel
theorem dL_world_259 : decode cL_world 259 = .ok (.bipush 11, 2) := by decide +kernel
theorem dL_world_261 : decode cL_world 261 = .ok (.invokestatic 13, 3) := by decide +kernel
theorem dL_world_264 : decode cL_world 264 = .ok (.istore 5, 2) := by decide +kernel
theorem dL_world_266 : decode cL_world 266 = .ok (.iconst 0, 1) := by decide +kernel
theorem dL_world_267 : decode cL_world 267 = .ok (.istore 6, 2) := by decide +kernel
theorem dL_world_269 : decode cL_world 269 = .ok (.iload 6, 2) := by decide +kernel
theorem dL_world_271 : decode cL_world 271 = .ok (.iload 5, 2) := by decide +kernel
theorem dL_world_273 : decode cL_world 273 = .ok (.if_icmp .ge 158, 3) := by decide +kernel
theorem dL_world_276 : decode cL_world 276 = .ok (.aload_n 1, 1) := by decide +kernel
theorem dL_world_277 : decode cL_world 277 = .ok (.bipush 12, 2) := by decide +kernel
theorem dL_world_279 : decode cL_world 279 = .ok (.iload 6, 2) := by decide +kernel
theorem dL_world_281 : decode cL_world 281 = .ok (.iadd, 1) := by decide +kernel
theorem dL_world_282 : decode cL_world 282 = .ok (.invokestatic 7, 3) := by decide +kernel
theorem dL_world_285 : decode cL_world 285 = .ok (.istore 7, 2) := by decide +kernel
theorem dL_world_287 : decode cL_world 287 = .ok (.aload_n 2, 1) := by decide +kernel
theorem dL_world_288 : decode cL_world 288 = .ok (.bipush 15, 2) := by decide +kernel
theorem dL_world_290 : decode cL_world 290 = .ok (.aload_n 2, 1) := by decide +kernel
theorem dL_world_291 : decode cL_world 291 = .ok (.iconst 2, 1) := by decide +kernel
theorem dL_world_292 : decode cL_world 292 = .ok (.iaload, 1) := by decide +kernel
theorem dL_world_293 : decode cL_world 293 = .ok (.iadd, 1) := by decide +kernel
theorem dL_world_294 : decode cL_world 294 = .ok (.iload 7, 2) := by decide +kernel
theorem dL_world_296 : decode cL_world 296 = .ok (.invokestatic 26, 3) := by decide +kernel
theorem dL_world_299 : decode cL_world 299 = .ok (.iastore, 1) := by decide +kernel
theorem dL_world_300 : decode cL_world 300 = .ok (.aload_n 2, 1) := by decide +kernel
theorem dL_world_301 : decode cL_world 301 = .ok (.bipush 15, 2) := by decide +kernel
theorem dL_world_303 : decode cL_world 303 = .ok (.aload_n 2, 1) := by decide +kernel
theorem dL_world_304 : decode cL_world 304 = .ok (.iconst 2, 1) := by decide +kernel
theorem dL_world_305 : decode cL_world 305 = .ok (.iaload, 1) := by decide +kernel
theorem dL_world_306 : decode cL_world 306 = .ok (.iadd, 1) := by decide +kernel
theorem dL_world_307 : decode cL_world 307 = .ok (.iaload, 1) := by decide +kernel
theorem dL_world_308 : decode cL_world 308 = .ok (.aload_n 2, 1) := by decide +kernel
theorem dL_world_309 : decode cL_world 309 = .ok (.iconst 3, 1) := by decide +kernel
theorem dL_world_310 : decode cL_world 310 = .ok (.iaload, 1) := by decide +kernel
theorem dL_world_311 : decode cL_world 311 = .ok (.invokestatic 29, 3) := by decide +kernel
theorem dL_world_314 : decode cL_world 314 = .ok (.ifCond .eq 13, 3) := by decide +kernel
theorem dL_world_317 : decode cL_world 317 = .ok (.iload 7, 2) := by decide +kernel
theorem dL_world_319 : decode cL_world 319 = .ok (.iconst 3, 1) := by decide +kernel
theorem dL_world_320 : decode cL_world 320 = .ok (.iand, 1) := by decide +kernel
theorem dL_world_321 : decode cL_world 321 = .ok (.ifCond .le 6, 3) := by decide +kernel
theorem dL_world_324 : decode cL_world 324 = .ok (.goto 101, 3) := by decide +kernel
theorem dL_world_327 : decode cL_world 327 = .ok (.aload_n 2, 1) := by decide +kernel
theorem dL_world_328 : decode cL_world 328 = .ok (.bipush 25, 2) := by decide +kernel
theorem dL_world_330 : decode cL_world 330 = .ok (.aload_n 2, 1) := by decide +kernel
theorem dL_world_331 : decode cL_world 331 = .ok (.iconst 2, 1) := by decide +kernel
theorem dL_world_332 : decode cL_world 332 = .ok (.iaload, 1) := by decide +kernel
theorem dL_world_333 : decode cL_world 333 = .ok (.iadd, 1) := by decide +kernel
theorem dL_world_334 : decode cL_world 334 = .ok (.iload 7, 2) := by decide +kernel
theorem dL_world_336 : decode cL_world 336 = .ok (.bipush 17, 2) := by decide +kernel
theorem dL_world_338 : decode cL_world 338 = .ok (.ishr, 1) := by decide +kernel
theorem dL_world_339 : decode cL_world 339 = .ok (.aload_n 2, 1) := by decide +kernel
theorem dL_world_340 : decode cL_world 340 = .ok (.iconst 1, 1) := by decide +kernel
theorem dL_world_341 : decode cL_world 341 = .ok (.iaload, 1) := by decide +kernel
theorem dL_world_342 : decode cL_world 342 = .ok (.invokestatic 13, 3) := by decide +kernel
theorem dL_world_345 : decode cL_world 345 = .ok (.iastore, 1) := by decide +kernel
theorem dL_world_346 : decode cL_world 346 = .ok (.aload_n 0, 1) := by decide +kernel
theorem dL_world_347 : decode cL_world 347 = .ok (.iconst 0, 1) := by decide +kernel
theorem dL_world_348 : decode cL_world 348 = .ok (.iconst 1, 1) := by decide +kernel
theorem dL_world_349 : decode cL_world 349 = .ok (.aload_n 2, 1) := by decide +kernel
theorem dL_world_350 : decode cL_world 350 = .ok (.bipush 15, 2) := by decide +kernel
theorem dL_world_352 : decode cL_world 352 = .ok (.aload_n 2, 1) := by decide +kernel
theorem dL_world_353 : decode cL_world 353 = .ok (.iconst 2, 1) := by decide +kernel
theorem dL_world_354 : decode cL_world 354 = .ok (.iaload, 1) := by decide +kernel
theorem dL_world_355 : decode cL_world 355 = .ok (.iadd, 1) := by decide +kernel
theorem dL_world_356 : decode cL_world 356 = .ok (.iaload, 1) := by decide +kernel
theorem dL_world_357 : decode cL_world 357 = .ok (.sipush 1000, 3) := by decide +kernel
theorem dL_world_360 : decode cL_world 360 = .ok (.idiv, 1) := by decide +kernel
theorem dL_world_361 : decode cL_world 361 = .ok (.aload_n 2, 1) := by decide +kernel
theorem dL_world_362 : decode cL_world 362 = .ok (.bipush 15, 2) := by decide +kernel
theorem dL_world_364 : decode cL_world 364 = .ok (.aload_n 2, 1) := by decide +kernel
theorem dL_world_365 : decode cL_world 365 = .ok (.iconst 2, 1) := by decide +kernel
theorem dL_world_366 : decode cL_world 366 = .ok (.iaload, 1) := by decide +kernel
theorem dL_world_367 : decode cL_world 367 = .ok (.iadd, 1) := by decide +kernel
theorem dL_world_368 : decode cL_world 368 = .ok (.iaload, 1) := by decide +kernel
theorem dL_world_369 : decode cL_world 369 = .ok (.bipush 100, 2) := by decide +kernel
theorem dL_world_371 : decode cL_world 371 = .ok (.idiv, 1) := by decide +kernel
theorem dL_world_372 : decode cL_world 372 = .ok (.bipush 10, 2) := by decide +kernel
theorem dL_world_374 : decode cL_world 374 = .ok (.irem, 1) := by decide +kernel
theorem dL_world_375 : decode cL_world 375 = .ok (.invokevirtual 33, 3) := by decide +kernel
theorem dL_world_378 : decode cL_world 378 = .ok (.pop, 1) := by decide +kernel
theorem dL_world_379 : decode cL_world 379 = .ok (.aload_n 0, 1) := by decide +kernel
theorem dL_world_380 : decode cL_world 380 = .ok (.aload_n 2, 1) := by decide +kernel
theorem dL_world_381 : decode cL_world 381 = .ok (.bipush 25, 2) := by decide +kernel
theorem dL_world_383 : decode cL_world 383 = .ok (.aload_n 2, 1) := by decide +kernel
theorem dL_world_384 : decode cL_world 384 = .ok (.iconst 2, 1) := by decide +kernel
theorem dL_world_385 : decode cL_world 385 = .ok (.iaload, 1) := by decide +kernel
theorem dL_world_386 : decode cL_world 386 = .ok (.iadd, 1) := by decide +kernel
theorem dL_world_387 : decode cL_world 387 = .ok (.iaload, 1) := by decide +kernel
theorem dL_world_388 : decode cL_world 388 = .ok (.iconst 0, 1) := by decide +kernel
theorem dL_world_389 : decode cL_world 389 = .ok (.aload_n 2, 1) := by decide +kernel
theorem dL_world_390 : decode cL_world 390 = .ok (.bipush 15, 2) := by decide +kernel
theorem dL_world_392 : decode cL_world 392 = .ok (.aload_n 2, 1) := by decide +kernel
theorem dL_world_393 : decode cL_world 393 = .ok (.iconst 2, 1) := by decide +kernel
theorem dL_world_394 : decode cL_world 394 = .ok (.iaload, 1) := by decide +kernel
theorem dL_world_395 : decode cL_world 395 = .ok (.iadd, 1) := by decide +kernel
theorem dL_world_396 : decode cL_world 396 = .ok (.iaload, 1) := by decide +kernel
theorem dL_world_397 : decode cL_world 397 = .ok (.bipush 10, 2) := by decide +kernel
theorem dL_world_399 : decode cL_world 399 = .ok (.idiv, 1) := by decide +kernel
theorem dL_world_400 : decode cL_world 400 = .ok (.bipush 10, 2) := by decide +kernel
theorem dL_world_402 : decode cL_world 402 = .ok (.irem, 1) := by decide +kernel
theorem dL_world_403 : decode cL_world 403 = .ok (.aload_n 2, 1) := by decide +kernel
theorem dL_world_404 : decode cL_world 404 = .ok (.bipush 15, 2) := by decide +kernel
theorem dL_world_406 : decode cL_world 406 = .ok (.aload_n 2, 1) := by decide +kernel
theorem dL_world_407 : decode cL_world 407 = .ok (.iconst 2, 1) := by decide +kernel
theorem dL_world_408 : decode cL_world 408 = .ok (.iaload, 1) := by decide +kernel
theorem dL_world_409 : decode cL_world 409 = .ok (.iadd, 1) := by decide +kernel
theorem dL_world_410 : decode cL_world 410 = .ok (.iaload, 1) := by decide +kernel
theorem dL_world_411 : decode cL_world 411 = .ok (.bipush 10, 2) := by decide +kernel
theorem dL_world_413 : decode cL_world 413 = .ok (.irem, 1) := by decide +kernel
theorem dL_world_414 : decode cL_world 414 = .ok (.invokevirtual 41, 3) := by decide +kernel
theorem dL_world_417 : decode cL_world 417 = .ok (.pop, 1) := by decide +kernel
theorem dL_world_418 : decode cL_world 418 = .ok (.aload_n 2, 1) := by decide +kernel
theorem dL_world_419 : decode cL_world 419 = .ok (.iconst 2, 1) := by decide +kernel
theorem dL_world_420 : decode cL_world 420 = .ok (.dup2, 1) := by decide +kernel
theorem dL_world_421 : decode cL_world 421 = .ok (.iaload, 1) := by decide +kernel
theorem dL_world_422 : decode cL_world 422 = .ok (.iconst 1, 1) := by decide +kernel
theorem dL_world_423 : decode cL_world 423 = .ok (.iadd, 1) := by decide +kernel
theorem dL_world_424 : decode cL_world 424 = .ok (.iastore, 1) := by decide +kernel
theorem dL_world_425 : decode cL_world 425 = .ok (.iinc 6 1, 3) := by decide +kernel
theorem dL_world_428 : decode cL_world 428 = .ok (.goto (-159), 3) := by decide +kernel
theorem dL_world_431 : decode cL_world 431 = .ok (.return_, 1) := by decide +kernel
theorem dL_saying_0 : decode cL_saying 0 = .ok (.sipush 1000, 3) := by decide +kernel
theorem dL_saying_3 : decode cL_saying 3 = .ok (.iload_n 0, 1) := by decide +kernel
theorem dL_saying_4 : decode cL_saying 4 = .ok (.iconst 3, 1) := by decide +kernel
theorem dL_saying_5 : decode cL_saying 5 = .ok (.ishr, 1) := by decide +kernel
theorem dL_saying_6 : decode cL_saying 6 = .ok (.bipush 8, 2) := by decide +kernel
theorem dL_saying_8 : decode cL_saying 8 = .ok (.invokestatic 13, 3) := by decide +kernel
theorem dL_saying_11 : decode cL_saying 11 = .ok (.imul, 1) := by decide +kernel
theorem dL_saying_12 : decode cL_saying 12 = .ok (.bipush 100, 2) := by decide +kernel
theorem dL_saying_14 : decode cL_saying 14 = .ok (.iload_n 0, 1) := by decide +kernel
theorem dL_saying_15 : decode cL_saying 15 = .ok (.bipush 6, 2) := by decide +kernel
theorem dL_saying_17 : decode cL_saying 17 = .ok (.ishr, 1) := by decide +kernel
theorem dL_saying_18 : decode cL_saying 18 = .ok (.bipush 10, 2) := by decide +kernel
theorem dL_saying_20 : decode cL_saying 20 = .ok (.invokestatic 13, 3) := by decide +kernel
theorem dL_saying_23 : decode cL_saying 23 = .ok (.imul, 1) := by decide +kernel
theorem dL_saying_24 : decode cL_saying 24 = .ok (.iadd, 1) := by decide +kernel
theorem dL_saying_25 : decode cL_saying 25 = .ok (.bipush 10, 2) := by decide +kernel
theorem dL_saying_27 : decode cL_saying 27 = .ok (.iload_n 0, 1) := by decide +kernel
theorem dL_saying_28 : decode cL_saying 28 = .ok (.bipush 10, 2) := by decide +kernel
theorem dL_saying_30 : decode cL_saying 30 = .ok (.ishr, 1) := by decide +kernel
theorem dL_saying_31 : decode cL_saying 31 = .ok (.bipush 6, 2) := by decide +kernel
theorem dL_saying_33 : decode cL_saying 33 = .ok (.invokestatic 13, 3) := by decide +kernel
theorem dL_saying_36 : decode cL_saying 36 = .ok (.imul, 1) := by decide +kernel
theorem dL_saying_37 : decode cL_saying 37 = .ok (.iadd, 1) := by decide +kernel
theorem dL_saying_38 : decode cL_saying 38 = .ok (.iload_n 0, 1) := by decide +kernel
theorem dL_saying_39 : decode cL_saying 39 = .ok (.bipush 13, 2) := by decide +kernel
theorem dL_saying_41 : decode cL_saying 41 = .ok (.ishr, 1) := by decide +kernel
theorem dL_saying_42 : decode cL_saying 42 = .ok (.bipush 6, 2) := by decide +kernel
theorem dL_saying_44 : decode cL_saying 44 = .ok (.invokestatic 13, 3) := by decide +kernel
theorem dL_saying_47 : decode cL_saying 47 = .ok (.iadd, 1) := by decide +kernel
theorem dL_saying_48 : decode cL_saying 48 = .ok (.ireturn, 1) := by decide +kernel
theorem dL_told_0 : decode cL_told 0 = .ok (.ldc2_w 44, 3) := by decide +kernel
theorem dL_told_3 : decode cL_told 3 = .ok (.lstore_n 1, 1) := by decide +kernel
theorem dL_told_4 : decode cL_told 4 = .ok (.iconst 0, 1) := by decide +kernel
theorem dL_told_5 : decode cL_told 5 = .ok (.istore_n 3, 1) := by decide +kernel
theorem dL_told_6 : decode cL_told 6 = .ok (.iload_n 3, 1) := by decide +kernel
theorem dL_told_7 : decode cL_told 7 = .ok (.bipush 7, 2) := by decide +kernel
theorem dL_told_9 : decode cL_told 9 = .ok (.if_icmp .ge 22, 3) := by decide +kernel
theorem dL_told_12 : decode cL_told 12 = .ok (.ldc2_w 46, 3) := by decide +kernel
theorem dL_told_15 : decode cL_told 15 = .ok (.lload_n 1, 1) := by decide +kernel
theorem dL_told_16 : decode cL_told 16 = .ok (.lmul, 1) := by decide +kernel
theorem dL_told_17 : decode cL_told 17 = .ok (.aload_n 0, 1) := by decide +kernel
theorem dL_told_18 : decode cL_told 18 = .ok (.iload_n 3, 1) := by decide +kernel
theorem dL_told_19 : decode cL_told 19 = .ok (.invokevirtual 48, 3) := by decide +kernel
theorem dL_told_22 : decode cL_told 22 = .ok (.i2l, 1) := by decide +kernel
theorem dL_told_23 : decode cL_told 23 = .ok (.ladd, 1) := by decide +kernel
theorem dL_told_24 : decode cL_told 24 = .ok (.lstore_n 1, 1) := by decide +kernel
theorem dL_told_25 : decode cL_told 25 = .ok (.iinc 3 1, 3) := by decide +kernel
theorem dL_told_28 : decode cL_told 28 = .ok (.goto (-22), 3) := by decide +kernel
theorem dL_told_31 : decode cL_told 31 = .ok (.iconst 0, 1) := by decide +kernel
theorem dL_told_32 : decode cL_told 32 = .ok (.istore_n 3, 1) := by decide +kernel
theorem dL_told_33 : decode cL_told 33 = .ok (.iload_n 3, 1) := by decide +kernel
theorem dL_told_34 : decode cL_told 34 = .ok (.aload_n 0, 1) := by decide +kernel
theorem dL_told_35 : decode cL_told 35 = .ok (.iconst 0, 1) := by decide +kernel
theorem dL_told_36 : decode cL_told 36 = .ok (.invokevirtual 48, 3) := by decide +kernel
theorem dL_told_39 : decode cL_told 39 = .ok (.if_icmp .ge 40, 3) := by decide +kernel
theorem dL_told_42 : decode cL_told 42 = .ok (.iconst 0, 1) := by decide +kernel
theorem dL_told_43 : decode cL_told 43 = .ok (.istore 4, 2) := by decide +kernel
theorem dL_told_45 : decode cL_told 45 = .ok (.iload 4, 2) := by decide +kernel
theorem dL_told_47 : decode cL_told 47 = .ok (.bipush 6, 2) := by decide +kernel
theorem dL_told_49 : decode cL_told 49 = .ok (.if_icmp .ge 24, 3) := by decide +kernel
theorem dL_told_52 : decode cL_told 52 = .ok (.ldc2_w 46, 3) := by decide +kernel
theorem dL_told_55 : decode cL_told 55 = .ok (.lload_n 1, 1) := by decide +kernel
theorem dL_told_56 : decode cL_told 56 = .ok (.lmul, 1) := by decide +kernel
theorem dL_told_57 : decode cL_told 57 = .ok (.aload_n 0, 1) := by decide +kernel
theorem dL_told_58 : decode cL_told 58 = .ok (.iload_n 3, 1) := by decide +kernel
theorem dL_told_59 : decode cL_told 59 = .ok (.iload 4, 2) := by decide +kernel
theorem dL_told_61 : decode cL_told 61 = .ok (.invokevirtual 51, 3) := by decide +kernel
theorem dL_told_64 : decode cL_told 64 = .ok (.i2l, 1) := by decide +kernel
theorem dL_told_65 : decode cL_told 65 = .ok (.ladd, 1) := by decide +kernel
theorem dL_told_66 : decode cL_told 66 = .ok (.lstore_n 1, 1) := by decide +kernel
theorem dL_told_67 : decode cL_told 67 = .ok (.iinc 4 1, 3) := by decide +kernel
theorem dL_told_70 : decode cL_told 70 = .ok (.goto (-25), 3) := by decide +kernel
theorem dL_told_73 : decode cL_told 73 = .ok (.iinc 3 1, 3) := by decide +kernel
theorem dL_told_76 : decode cL_told 76 = .ok (.goto (-43), 3) := by decide +kernel
theorem dL_told_79 : decode cL_told 79 = .ok (.iconst 0, 1) := by decide +kernel
theorem dL_told_80 : decode cL_told 80 = .ok (.istore_n 3, 1) := by decide +kernel
theorem dL_told_81 : decode cL_told 81 = .ok (.iload_n 3, 1) := by decide +kernel
theorem dL_told_82 : decode cL_told 82 = .ok (.aload_n 0, 1) := by decide +kernel
theorem dL_told_83 : decode cL_told 83 = .ok (.iconst 2, 1) := by decide +kernel
theorem dL_told_84 : decode cL_told 84 = .ok (.invokevirtual 48, 3) := by decide +kernel
theorem dL_told_87 : decode cL_told 87 = .ok (.if_icmp .ge 53, 3) := by decide +kernel
theorem dL_told_90 : decode cL_told 90 = .ok (.iconst 0, 1) := by decide +kernel
theorem dL_told_91 : decode cL_told 91 = .ok (.istore 4, 2) := by decide +kernel
theorem dL_told_93 : decode cL_told 93 = .ok (.iload 4, 2) := by decide +kernel
theorem dL_told_95 : decode cL_told 95 = .ok (.bipush 8, 2) := by decide +kernel
theorem dL_told_97 : decode cL_told 97 = .ok (.if_icmp .ge 24, 3) := by decide +kernel
theorem dL_told_100 : decode cL_told 100 = .ok (.ldc2_w 46, 3) := by decide +kernel
theorem dL_told_103 : decode cL_told 103 = .ok (.lload_n 1, 1) := by decide +kernel
theorem dL_told_104 : decode cL_told 104 = .ok (.lmul, 1) := by decide +kernel
theorem dL_told_105 : decode cL_told 105 = .ok (.aload_n 0, 1) := by decide +kernel
theorem dL_told_106 : decode cL_told 106 = .ok (.iload_n 3, 1) := by decide +kernel
theorem dL_told_107 : decode cL_told 107 = .ok (.iload 4, 2) := by decide +kernel
theorem dL_told_109 : decode cL_told 109 = .ok (.invokevirtual 54, 3) := by decide +kernel
theorem dL_told_112 : decode cL_told 112 = .ok (.i2l, 1) := by decide +kernel
theorem dL_told_113 : decode cL_told 113 = .ok (.ladd, 1) := by decide +kernel
theorem dL_told_114 : decode cL_told 114 = .ok (.lstore_n 1, 1) := by decide +kernel
theorem dL_told_115 : decode cL_told 115 = .ok (.iinc 4 1, 3) := by decide +kernel
theorem dL_told_118 : decode cL_told 118 = .ok (.goto (-25), 3) := by decide +kernel
theorem dL_told_121 : decode cL_told 121 = .ok (.ldc2_w 46, 3) := by decide +kernel
theorem dL_told_124 : decode cL_told 124 = .ok (.lload_n 1, 1) := by decide +kernel
theorem dL_told_125 : decode cL_told 125 = .ok (.lmul, 1) := by decide +kernel
theorem dL_told_126 : decode cL_told 126 = .ok (.aload_n 0, 1) := by decide +kernel
theorem dL_told_127 : decode cL_told 127 = .ok (.iload_n 3, 1) := by decide +kernel
theorem dL_told_128 : decode cL_told 128 = .ok (.invokevirtual 57, 3) := by decide +kernel
theorem dL_told_131 : decode cL_told 131 = .ok (.i2l, 1) := by decide +kernel
theorem dL_told_132 : decode cL_told 132 = .ok (.ladd, 1) := by decide +kernel
theorem dL_told_133 : decode cL_told 133 = .ok (.lstore_n 1, 1) := by decide +kernel
theorem dL_told_134 : decode cL_told 134 = .ok (.iinc 3 1, 3) := by decide +kernel
theorem dL_told_137 : decode cL_told 137 = .ok (.goto (-56), 3) := by decide +kernel
theorem dL_told_140 : decode cL_told 140 = .ok (.aload_n 0, 1) := by decide +kernel
theorem dL_told_141 : decode cL_told 141 = .ok (.iconst 1, 1) := by decide +kernel
theorem dL_told_142 : decode cL_told 142 = .ok (.invokevirtual 48, 3) := by decide +kernel
theorem dL_told_145 : decode cL_told 145 = .ok (.istore_n 3, 1) := by decide +kernel
theorem dL_told_146 : decode cL_told 146 = .ok (.iconst 0, 1) := by decide +kernel
theorem dL_told_147 : decode cL_told 147 = .ok (.istore 4, 2) := by decide +kernel
theorem dL_told_149 : decode cL_told 149 = .ok (.iload 4, 2) := by decide +kernel
theorem dL_told_151 : decode cL_told 151 = .ok (.iload_n 3, 1) := by decide +kernel
theorem dL_told_152 : decode cL_told 152 = .ok (.if_icmp .ge 91, 3) := by decide +kernel
theorem dL_told_155 : decode cL_told 155 = .ok (.ldc2_w 46, 3) := by decide +kernel
theorem dL_told_158 : decode cL_told 158 = .ok (.lload_n 1, 1) := by decide +kernel
theorem dL_told_159 : decode cL_told 159 = .ok (.lmul, 1) := by decide +kernel
theorem dL_told_160 : decode cL_told 160 = .ok (.aload_n 0, 1) := by decide +kernel
theorem dL_told_161 : decode cL_told 161 = .ok (.iload 4, 2) := by decide +kernel
theorem dL_told_163 : decode cL_told 163 = .ok (.invokevirtual 60, 3) := by decide +kernel
theorem dL_told_166 : decode cL_told 166 = .ok (.i2l, 1) := by decide +kernel
theorem dL_told_167 : decode cL_told 167 = .ok (.ladd, 1) := by decide +kernel
theorem dL_told_168 : decode cL_told 168 = .ok (.iconst 3, 1) := by decide +kernel
theorem dL_told_169 : decode cL_told 169 = .ok (.aload_n 0, 1) := by decide +kernel
theorem dL_told_170 : decode cL_told 170 = .ok (.iload 4, 2) := by decide +kernel
theorem dL_told_172 : decode cL_told 172 = .ok (.invokevirtual 63, 3) := by decide +kernel
theorem dL_told_175 : decode cL_told 175 = .ok (.imul, 1) := by decide +kernel
theorem dL_told_176 : decode cL_told 176 = .ok (.i2l, 1) := by decide +kernel
theorem dL_told_177 : decode cL_told 177 = .ok (.ladd, 1) := by decide +kernel
theorem dL_told_178 : decode cL_told 178 = .ok (.iconst 5, 1) := by decide +kernel
theorem dL_told_179 : decode cL_told 179 = .ok (.aload_n 0, 1) := by decide +kernel
theorem dL_told_180 : decode cL_told 180 = .ok (.iload 4, 2) := by decide +kernel
theorem dL_told_182 : decode cL_told 182 = .ok (.iconst 0, 1) := by decide +kernel
theorem dL_told_183 : decode cL_told 183 = .ok (.invokevirtual 66, 3) := by decide +kernel
theorem dL_told_186 : decode cL_told 186 = .ok (.imul, 1) := by decide +kernel
theorem dL_told_187 : decode cL_told 187 = .ok (.i2l, 1) := by decide +kernel
theorem dL_told_188 : decode cL_told 188 = .ok (.ladd, 1) := by decide +kernel
theorem dL_told_189 : decode cL_told 189 = .ok (.bipush 7, 2) := by decide +kernel
theorem dL_told_191 : decode cL_told 191 = .ok (.aload_n 0, 1) := by decide +kernel
theorem dL_told_192 : decode cL_told 192 = .ok (.iload 4, 2) := by decide +kernel
theorem dL_told_194 : decode cL_told 194 = .ok (.iconst 1, 1) := by decide +kernel
theorem dL_told_195 : decode cL_told 195 = .ok (.invokevirtual 66, 3) := by decide +kernel
theorem dL_told_198 : decode cL_told 198 = .ok (.imul, 1) := by decide +kernel
theorem dL_told_199 : decode cL_told 199 = .ok (.i2l, 1) := by decide +kernel
theorem dL_told_200 : decode cL_told 200 = .ok (.ladd, 1) := by decide +kernel
theorem dL_told_201 : decode cL_told 201 = .ok (.bipush 11, 2) := by decide +kernel
theorem dL_told_203 : decode cL_told 203 = .ok (.aload_n 0, 1) := by decide +kernel
theorem dL_told_204 : decode cL_told 204 = .ok (.iload 4, 2) := by decide +kernel
theorem dL_told_206 : decode cL_told 206 = .ok (.iconst 2, 1) := by decide +kernel
theorem dL_told_207 : decode cL_told 207 = .ok (.invokevirtual 66, 3) := by decide +kernel
theorem dL_told_210 : decode cL_told 210 = .ok (.imul, 1) := by decide +kernel
theorem dL_told_211 : decode cL_told 211 = .ok (.i2l, 1) := by decide +kernel
theorem dL_told_212 : decode cL_told 212 = .ok (.ladd, 1) := by decide +kernel
theorem dL_told_213 : decode cL_told 213 = .ok (.bipush 13, 2) := by decide +kernel
theorem dL_told_215 : decode cL_told 215 = .ok (.aload_n 0, 1) := by decide +kernel
theorem dL_told_216 : decode cL_told 216 = .ok (.iload 4, 2) := by decide +kernel
theorem dL_told_218 : decode cL_told 218 = .ok (.invokevirtual 69, 3) := by decide +kernel
theorem dL_told_221 : decode cL_told 221 = .ok (.imul, 1) := by decide +kernel
theorem dL_told_222 : decode cL_told 222 = .ok (.i2l, 1) := by decide +kernel
theorem dL_told_223 : decode cL_told 223 = .ok (.ladd, 1) := by decide +kernel
theorem dL_told_224 : decode cL_told 224 = .ok (.bipush 17, 2) := by decide +kernel
theorem dL_told_226 : decode cL_told 226 = .ok (.aload_n 0, 1) := by decide +kernel
theorem dL_told_227 : decode cL_told 227 = .ok (.iload 4, 2) := by decide +kernel
theorem dL_told_229 : decode cL_told 229 = .ok (.iconst 0, 1) := by decide +kernel
theorem dL_told_230 : decode cL_told 230 = .ok (.invokevirtual 72, 3) := by decide +kernel
theorem dL_told_233 : decode cL_told 233 = .ok (.imul, 1) := by decide +kernel
theorem dL_told_234 : decode cL_told 234 = .ok (.i2l, 1) := by decide +kernel
theorem dL_told_235 : decode cL_told 235 = .ok (.ladd, 1) := by decide +kernel
theorem dL_told_236 : decode cL_told 236 = .ok (.lstore_n 1, 1) := by decide +kernel
theorem dL_told_237 : decode cL_told 237 = .ok (.iinc 4 1, 3) := by decide +kernel
theorem dL_told_240 : decode cL_told 240 = .ok (.goto (-91), 3) := by decide +kernel
theorem dL_told_243 : decode cL_told 243 = .ok (.iconst 0, 1) := by decide +kernel
theorem dL_told_244 : decode cL_told 244 = .ok (.istore 4, 2) := by decide +kernel
theorem dL_told_246 : decode cL_told 246 = .ok (.iload 4, 2) := by decide +kernel
theorem dL_told_248 : decode cL_told 248 = .ok (.iconst 2, 1) := by decide +kernel
theorem dL_told_249 : decode cL_told 249 = .ok (.if_icmp .ge 53, 3) := by decide +kernel
theorem dL_told_252 : decode cL_told 252 = .ok (.ldc2_w 46, 3) := by decide +kernel
theorem dL_told_255 : decode cL_told 255 = .ok (.lload_n 1, 1) := by decide +kernel
theorem dL_told_256 : decode cL_told 256 = .ok (.lmul, 1) := by decide +kernel
theorem dL_told_257 : decode cL_told 257 = .ok (.aload_n 0, 1) := by decide +kernel
theorem dL_told_258 : decode cL_told 258 = .ok (.iload 4, 2) := by decide +kernel
theorem dL_told_260 : decode cL_told 260 = .ok (.invokevirtual 75, 3) := by decide +kernel
theorem dL_told_263 : decode cL_told 263 = .ok (.ladd, 1) := by decide +kernel
theorem dL_told_264 : decode cL_told 264 = .ok (.iconst 3, 1) := by decide +kernel
theorem dL_told_265 : decode cL_told 265 = .ok (.aload_n 0, 1) := by decide +kernel
theorem dL_told_266 : decode cL_told 266 = .ok (.iload 4, 2) := by decide +kernel
theorem dL_told_268 : decode cL_told 268 = .ok (.invokevirtual 79, 3) := by decide +kernel
theorem dL_told_271 : decode cL_told 271 = .ok (.imul, 1) := by decide +kernel
theorem dL_told_272 : decode cL_told 272 = .ok (.i2l, 1) := by decide +kernel
theorem dL_told_273 : decode cL_told 273 = .ok (.ladd, 1) := by decide +kernel
theorem dL_told_274 : decode cL_told 274 = .ok (.iconst 5, 1) := by decide +kernel
theorem dL_told_275 : decode cL_told 275 = .ok (.aload_n 0, 1) := by decide +kernel
theorem dL_told_276 : decode cL_told 276 = .ok (.iload 4, 2) := by decide +kernel
theorem dL_told_278 : decode cL_told 278 = .ok (.invokevirtual 82, 3) := by decide +kernel
theorem dL_told_281 : decode cL_told 281 = .ok (.imul, 1) := by decide +kernel
theorem dL_told_282 : decode cL_told 282 = .ok (.i2l, 1) := by decide +kernel
theorem dL_told_283 : decode cL_told 283 = .ok (.ladd, 1) := by decide +kernel
theorem dL_told_284 : decode cL_told 284 = .ok (.bipush 7, 2) := by decide +kernel
theorem dL_told_286 : decode cL_told 286 = .ok (.aload_n 0, 1) := by decide +kernel
theorem dL_told_287 : decode cL_told 287 = .ok (.iload 4, 2) := by decide +kernel
theorem dL_told_289 : decode cL_told 289 = .ok (.invokevirtual 85, 3) := by decide +kernel
theorem dL_told_292 : decode cL_told 292 = .ok (.imul, 1) := by decide +kernel
theorem dL_told_293 : decode cL_told 293 = .ok (.i2l, 1) := by decide +kernel
theorem dL_told_294 : decode cL_told 294 = .ok (.ladd, 1) := by decide +kernel
theorem dL_told_295 : decode cL_told 295 = .ok (.lstore_n 1, 1) := by decide +kernel
theorem dL_told_296 : decode cL_told 296 = .ok (.iinc 4 1, 3) := by decide +kernel
theorem dL_told_299 : decode cL_told 299 = .ok (.goto (-53), 3) := by decide +kernel
theorem dL_told_302 : decode cL_told 302 = .ok (.ldc2_w 46, 3) := by decide +kernel
theorem dL_told_305 : decode cL_told 305 = .ok (.lload_n 1, 1) := by decide +kernel
theorem dL_told_306 : decode cL_told 306 = .ok (.lmul, 1) := by decide +kernel
theorem dL_told_307 : decode cL_told 307 = .ok (.aload_n 0, 1) := by decide +kernel
theorem dL_told_308 : decode cL_told 308 = .ok (.invokevirtual 88, 3) := by decide +kernel
theorem dL_told_311 : decode cL_told 311 = .ok (.i2l, 1) := by decide +kernel
theorem dL_told_312 : decode cL_told 312 = .ok (.ladd, 1) := by decide +kernel
theorem dL_told_313 : decode cL_told 313 = .ok (.iconst 3, 1) := by decide +kernel
theorem dL_told_314 : decode cL_told 314 = .ok (.aload_n 0, 1) := by decide +kernel
theorem dL_told_315 : decode cL_told 315 = .ok (.invokevirtual 92, 3) := by decide +kernel
theorem dL_told_318 : decode cL_told 318 = .ok (.imul, 1) := by decide +kernel
theorem dL_told_319 : decode cL_told 319 = .ok (.i2l, 1) := by decide +kernel
theorem dL_told_320 : decode cL_told 320 = .ok (.ladd, 1) := by decide +kernel
theorem dL_told_321 : decode cL_told 321 = .ok (.iconst 5, 1) := by decide +kernel
theorem dL_told_322 : decode cL_told 322 = .ok (.aload_n 0, 1) := by decide +kernel
theorem dL_told_323 : decode cL_told 323 = .ok (.invokevirtual 95, 3) := by decide +kernel
theorem dL_told_326 : decode cL_told 326 = .ok (.imul, 1) := by decide +kernel
theorem dL_told_327 : decode cL_told 327 = .ok (.i2l, 1) := by decide +kernel
theorem dL_told_328 : decode cL_told 328 = .ok (.ladd, 1) := by decide +kernel
theorem dL_told_329 : decode cL_told 329 = .ok (.bipush 7, 2) := by decide +kernel
theorem dL_told_331 : decode cL_told 331 = .ok (.aload_n 0, 1) := by decide +kernel
theorem dL_told_332 : decode cL_told 332 = .ok (.invokevirtual 98, 3) := by decide +kernel
theorem dL_told_335 : decode cL_told 335 = .ok (.imul, 1) := by decide +kernel
theorem dL_told_336 : decode cL_told 336 = .ok (.i2l, 1) := by decide +kernel
theorem dL_told_337 : decode cL_told 337 = .ok (.ladd, 1) := by decide +kernel
theorem dL_told_338 : decode cL_told 338 = .ok (.bipush 11, 2) := by decide +kernel
theorem dL_told_340 : decode cL_told 340 = .ok (.aload_n 0, 1) := by decide +kernel
theorem dL_told_341 : decode cL_told 341 = .ok (.invokevirtual 101, 3) := by decide +kernel
theorem dL_told_344 : decode cL_told 344 = .ok (.imul, 1) := by decide +kernel
theorem dL_told_345 : decode cL_told 345 = .ok (.i2l, 1) := by decide +kernel
theorem dL_told_346 : decode cL_told 346 = .ok (.ladd, 1) := by decide +kernel
theorem dL_told_347 : decode cL_told 347 = .ok (.bipush 13, 2) := by decide +kernel
theorem dL_told_349 : decode cL_told 349 = .ok (.aload_n 0, 1) := by decide +kernel
theorem dL_told_350 : decode cL_told 350 = .ok (.iconst 2, 1) := by decide +kernel
theorem dL_told_351 : decode cL_told 351 = .ok (.invokevirtual 104, 3) := by decide +kernel
theorem dL_told_354 : decode cL_told 354 = .ok (.imul, 1) := by decide +kernel
theorem dL_told_355 : decode cL_told 355 = .ok (.i2l, 1) := by decide +kernel
theorem dL_told_356 : decode cL_told 356 = .ok (.ladd, 1) := by decide +kernel
theorem dL_told_357 : decode cL_told 357 = .ok (.lstore_n 1, 1) := by decide +kernel
theorem dL_told_358 : decode cL_told 358 = .ok (.iload_n 3, 1) := by decide +kernel
theorem dL_told_359 : decode cL_told 359 = .ok (.ifCond .le 48, 3) := by decide +kernel
theorem dL_told_362 : decode cL_told 362 = .ok (.ldc2_w 46, 3) := by decide +kernel
theorem dL_told_365 : decode cL_told 365 = .ok (.lload_n 1, 1) := by decide +kernel
theorem dL_told_366 : decode cL_told 366 = .ok (.lmul, 1) := by decide +kernel
theorem dL_told_367 : decode cL_told 367 = .ok (.aload_n 0, 1) := by decide +kernel
theorem dL_told_368 : decode cL_told 368 = .ok (.iconst 0, 1) := by decide +kernel
theorem dL_told_369 : decode cL_told 369 = .ok (.invokevirtual 107, 3) := by decide +kernel
theorem dL_told_372 : decode cL_told 372 = .ok (.i2l, 1) := by decide +kernel
theorem dL_told_373 : decode cL_told 373 = .ok (.ladd, 1) := by decide +kernel
theorem dL_told_374 : decode cL_told 374 = .ok (.iconst 3, 1) := by decide +kernel
theorem dL_told_375 : decode cL_told 375 = .ok (.aload_n 0, 1) := by decide +kernel
theorem dL_told_376 : decode cL_told 376 = .ok (.iconst 1, 1) := by decide +kernel
theorem dL_told_377 : decode cL_told 377 = .ok (.invokevirtual 107, 3) := by decide +kernel
theorem dL_told_380 : decode cL_told 380 = .ok (.imul, 1) := by decide +kernel
theorem dL_told_381 : decode cL_told 381 = .ok (.i2l, 1) := by decide +kernel
theorem dL_told_382 : decode cL_told 382 = .ok (.ladd, 1) := by decide +kernel
theorem dL_told_383 : decode cL_told 383 = .ok (.iconst 5, 1) := by decide +kernel
theorem dL_told_384 : decode cL_told 384 = .ok (.aload_n 0, 1) := by decide +kernel
theorem dL_told_385 : decode cL_told 385 = .ok (.iconst 2, 1) := by decide +kernel
theorem dL_told_386 : decode cL_told 386 = .ok (.invokevirtual 110, 3) := by decide +kernel
theorem dL_told_389 : decode cL_told 389 = .ok (.imul, 1) := by decide +kernel
theorem dL_told_390 : decode cL_told 390 = .ok (.i2l, 1) := by decide +kernel
theorem dL_told_391 : decode cL_told 391 = .ok (.ladd, 1) := by decide +kernel
theorem dL_told_392 : decode cL_told 392 = .ok (.bipush 7, 2) := by decide +kernel
theorem dL_told_394 : decode cL_told 394 = .ok (.aload_n 0, 1) := by decide +kernel
theorem dL_told_395 : decode cL_told 395 = .ok (.iconst 3, 1) := by decide +kernel
theorem dL_told_396 : decode cL_told 396 = .ok (.iconst 5, 1) := by decide +kernel
theorem dL_told_397 : decode cL_told 397 = .ok (.iconst 1, 1) := by decide +kernel
theorem dL_told_398 : decode cL_told 398 = .ok (.invokevirtual 113, 3) := by decide +kernel
theorem dL_told_401 : decode cL_told 401 = .ok (.imul, 1) := by decide +kernel
theorem dL_told_402 : decode cL_told 402 = .ok (.i2l, 1) := by decide +kernel
theorem dL_told_403 : decode cL_told 403 = .ok (.ladd, 1) := by decide +kernel
theorem dL_told_404 : decode cL_told 404 = .ok (.goto 4, 3) := by decide +kernel
theorem dL_told_407 : decode cL_told 407 = .ok (.lload_n 1, 1) := by decide +kernel
theorem dL_told_408 : decode cL_told 408 = .ok (.lreturn, 1) := by decide +kernel
theorem dL_law_0 : decode cL_law 0 = .ok (.new 18, 3) := by decide +kernel
theorem dL_law_3 : decode cL_law 3 = .ok (.dup, 1) := by decide +kernel
theorem dL_law_4 : decode cL_law 4 = .ok (.invokespecial 116, 3) := by decide +kernel
theorem dL_law_7 : decode cL_law 7 = .ok (.invokevirtual 117, 3) := by decide +kernel
theorem dL_law_10 : decode cL_law 10 = .ok (.bipush (-3), 2) := by decide +kernel
theorem dL_law_12 : decode cL_law 12 = .ok (.if_icmp .ne 59, 3) := by decide +kernel
theorem dL_law_15 : decode cL_law 15 = .ok (.new 18, 3) := by decide +kernel
theorem dL_law_18 : decode cL_law 18 = .ok (.dup, 1) := by decide +kernel
theorem dL_law_19 : decode cL_law 19 = .ok (.invokespecial 116, 3) := by decide +kernel
theorem dL_law_22 : decode cL_law 22 = .ok (.invokevirtual 120, 3) := by decide +kernel
theorem dL_law_25 : decode cL_law 25 = .ok (.ifCond .ne 46, 3) := by decide +kernel
theorem dL_law_28 : decode cL_law 28 = .ok (.new 18, 3) := by decide +kernel
theorem dL_law_31 : decode cL_law 31 = .ok (.dup, 1) := by decide +kernel
theorem dL_law_32 : decode cL_law 32 = .ok (.invokespecial 116, 3) := by decide +kernel
theorem dL_law_35 : decode cL_law 35 = .ok (.invokevirtual 98, 3) := by decide +kernel
theorem dL_law_38 : decode cL_law 38 = .ok (.bipush (-4), 2) := by decide +kernel
theorem dL_law_40 : decode cL_law 40 = .ok (.if_icmp .ne 31, 3) := by decide +kernel
theorem dL_law_43 : decode cL_law 43 = .ok (.new 18, 3) := by decide +kernel
theorem dL_law_46 : decode cL_law 46 = .ok (.dup, 1) := by decide +kernel
theorem dL_law_47 : decode cL_law 47 = .ok (.invokespecial 116, 3) := by decide +kernel
theorem dL_law_50 : decode cL_law 50 = .ok (.invokevirtual 95, 3) := by decide +kernel
theorem dL_law_53 : decode cL_law 53 = .ok (.ifCond .ne 18, 3) := by decide +kernel
theorem dL_law_56 : decode cL_law 56 = .ok (.new 18, 3) := by decide +kernel
theorem dL_law_59 : decode cL_law 59 = .ok (.dup, 1) := by decide +kernel
theorem dL_law_60 : decode cL_law 60 = .ok (.invokespecial 116, 3) := by decide +kernel
theorem dL_law_63 : decode cL_law 63 = .ok (.invokevirtual 88, 3) := by decide +kernel
theorem dL_law_66 : decode cL_law 66 = .ok (.bipush (-4), 2) := by decide +kernel
theorem dL_law_68 : decode cL_law 68 = .ok (.if_icmp .eq 5, 3) := by decide +kernel
theorem dL_law_71 : decode cL_law 71 = .ok (.iconst 0, 1) := by decide +kernel
theorem dL_law_72 : decode cL_law 72 = .ok (.ireturn, 1) := by decide +kernel
theorem dL_law_73 : decode cL_law 73 = .ok (.new 18, 3) := by decide +kernel
theorem dL_law_76 : decode cL_law 76 = .ok (.dup, 1) := by decide +kernel
theorem dL_law_77 : decode cL_law 77 = .ok (.invokespecial 116, 3) := by decide +kernel
theorem dL_law_80 : decode cL_law 80 = .ok (.astore_n 1, 1) := by decide +kernel
theorem dL_law_81 : decode cL_law 81 = .ok (.bipush 35, 2) := by decide +kernel
theorem dL_law_83 : decode cL_law 83 = .ok (.newarray .int, 2) := by decide +kernel
theorem dL_law_85 : decode cL_law 85 = .ok (.astore_n 2, 1) := by decide +kernel
theorem dL_law_86 : decode cL_law 86 = .ok (.aload_n 1, 1) := by decide +kernel
theorem dL_law_87 : decode cL_law 87 = .ok (.aload_n 0, 1) := by decide +kernel
theorem dL_law_88 : decode cL_law 88 = .ok (.aload_n 2, 1) := by decide +kernel
theorem dL_law_89 : decode cL_law 89 = .ok (.invokestatic 123, 3) := by decide +kernel
theorem dL_law_92 : decode cL_law 92 = .ok (.aload_n 1, 1) := by decide +kernel
theorem dL_law_93 : decode cL_law 93 = .ok (.invokestatic 127, 3) := by decide +kernel
theorem dL_law_96 : decode cL_law 96 = .ok (.lstore_n 3, 1) := by decide +kernel
theorem dL_law_97 : decode cL_law 97 = .ok (.aload_n 1, 1) := by decide +kernel
theorem dL_law_98 : decode cL_law 98 = .ok (.invokestatic 127, 3) := by decide +kernel
theorem dL_law_101 : decode cL_law 101 = .ok (.lload_n 3, 1) := by decide +kernel
theorem dL_law_102 : decode cL_law 102 = .ok (.lcmp, 1) := by decide +kernel
theorem dL_law_103 : decode cL_law 103 = .ok (.ifCond .ne 22, 3) := by decide +kernel
theorem dL_law_106 : decode cL_law 106 = .ok (.aload_n 1, 1) := by decide +kernel
theorem dL_law_107 : decode cL_law 107 = .ok (.invokevirtual 120, 3) := by decide +kernel
theorem dL_law_110 : decode cL_law 110 = .ok (.aload_n 2, 1) := by decide +kernel
theorem dL_law_111 : decode cL_law 111 = .ok (.iconst 2, 1) := by decide +kernel
theorem dL_law_112 : decode cL_law 112 = .ok (.iaload, 1) := by decide +kernel
theorem dL_law_113 : decode cL_law 113 = .ok (.if_icmp .ne 12, 3) := by decide +kernel
theorem dL_law_116 : decode cL_law 116 = .ok (.aload_n 1, 1) := by decide +kernel
theorem dL_law_117 : decode cL_law 117 = .ok (.invokestatic 127, 3) := by decide +kernel
theorem dL_law_120 : decode cL_law 120 = .ok (.lload_n 3, 1) := by decide +kernel
theorem dL_law_121 : decode cL_law 121 = .ok (.lcmp, 1) := by decide +kernel
theorem dL_law_122 : decode cL_law 122 = .ok (.ifCond .eq 5, 3) := by decide +kernel
theorem dL_law_125 : decode cL_law 125 = .ok (.iconst 0, 1) := by decide +kernel
theorem dL_law_126 : decode cL_law 126 = .ok (.ireturn, 1) := by decide +kernel
theorem dL_law_127 : decode cL_law 127 = .ok (.aload_n 1, 1) := by decide +kernel
theorem dL_law_128 : decode cL_law 128 = .ok (.bipush 64, 2) := by decide +kernel
theorem dL_law_130 : decode cL_law 130 = .ok (.invokevirtual 17, 3) := by decide +kernel
theorem dL_law_133 : decode cL_law 133 = .ok (.iconst (-1), 1) := by decide +kernel
theorem dL_law_134 : decode cL_law 134 = .ok (.if_icmp .ne 94, 3) := by decide +kernel
theorem dL_law_137 : decode cL_law 137 = .ok (.aload_n 1, 1) := by decide +kernel
theorem dL_law_138 : decode cL_law 138 = .ok (.bipush 64, 2) := by decide +kernel
theorem dL_law_140 : decode cL_law 140 = .ok (.invokevirtual 23, 3) := by decide +kernel
theorem dL_law_143 : decode cL_law 143 = .ok (.iconst (-1), 1) := by decide +kernel
theorem dL_law_144 : decode cL_law 144 = .ok (.if_icmp .ne 84, 3) := by decide +kernel
theorem dL_law_147 : decode cL_law 147 = .ok (.aload_n 1, 1) := by decide +kernel
theorem dL_law_148 : decode cL_law 148 = .ok (.iconst 1, 1) := by decide +kernel
theorem dL_law_149 : decode cL_law 149 = .ok (.iconst 1, 1) := by decide +kernel
theorem dL_law_150 : decode cL_law 150 = .ok (.iconst 3, 1) := by decide +kernel
theorem dL_law_151 : decode cL_law 151 = .ok (.iconst 0, 1) := by decide +kernel
theorem dL_law_152 : decode cL_law 152 = .ok (.invokevirtual 33, 3) := by decide +kernel
theorem dL_law_155 : decode cL_law 155 = .ok (.ifCond .ne 73, 3) := by decide +kernel
theorem dL_law_158 : decode cL_law 158 = .ok (.aload_n 1, 1) := by decide +kernel
theorem dL_law_159 : decode cL_law 159 = .ok (.iconst 1, 1) := by decide +kernel
theorem dL_law_160 : decode cL_law 160 = .ok (.bipush 6, 2) := by decide +kernel
theorem dL_law_162 : decode cL_law 162 = .ok (.iconst 0, 1) := by decide +kernel
theorem dL_law_163 : decode cL_law 163 = .ok (.invokevirtual 37, 3) := by decide +kernel
theorem dL_law_166 : decode cL_law 166 = .ok (.iconst (-1), 1) := by decide +kernel
theorem dL_law_167 : decode cL_law 167 = .ok (.if_icmp .ne 61, 3) := by decide +kernel
theorem dL_law_170 : decode cL_law 170 = .ok (.aload_n 1, 1) := by decide +kernel
theorem dL_law_171 : decode cL_law 171 = .ok (.aload_n 2, 1) := by decide +kernel
theorem dL_law_172 : decode cL_law 172 = .ok (.iconst 1, 1) := by decide +kernel
theorem dL_law_173 : decode cL_law 173 = .ok (.iaload, 1) := by decide +kernel
theorem dL_law_174 : decode cL_law 174 = .ok (.iconst 1, 1) := by decide +kernel
theorem dL_law_175 : decode cL_law 175 = .ok (.iconst 0, 1) := by decide +kernel
theorem dL_law_176 : decode cL_law 176 = .ok (.iconst 0, 1) := by decide +kernel
theorem dL_law_177 : decode cL_law 177 = .ok (.invokevirtual 41, 3) := by decide +kernel
theorem dL_law_180 : decode cL_law 180 = .ok (.iconst (-1), 1) := by decide +kernel
theorem dL_law_181 : decode cL_law 181 = .ok (.if_icmp .ne 47, 3) := by decide +kernel
theorem dL_law_184 : decode cL_law 184 = .ok (.aload_n 1, 1) := by decide +kernel
theorem dL_law_185 : decode cL_law 185 = .ok (.bipush 8, 2) := by decide +kernel
theorem dL_law_187 : decode cL_law 187 = .ok (.iconst 0, 1) := by decide +kernel
theorem dL_law_188 : decode cL_law 188 = .ok (.iconst 0, 1) := by decide +kernel
theorem dL_law_189 : decode cL_law 189 = .ok (.iconst 0, 1) := by decide +kernel
theorem dL_law_190 : decode cL_law 190 = .ok (.invokevirtual 33, 3) := by decide +kernel
theorem dL_law_193 : decode cL_law 193 = .ok (.iconst (-1), 1) := by decide +kernel
theorem dL_law_194 : decode cL_law 194 = .ok (.if_icmp .ne 34, 3) := by decide +kernel
theorem dL_law_197 : decode cL_law 197 = .ok (.aload_n 1, 1) := by decide +kernel
theorem dL_law_198 : decode cL_law 198 = .ok (.iconst 0, 1) := by decide +kernel
theorem dL_law_199 : decode cL_law 199 = .ok (.iconst 3, 1) := by decide +kernel
theorem dL_law_200 : decode cL_law 200 = .ok (.iconst 0, 1) := by decide +kernel
theorem dL_law_201 : decode cL_law 201 = .ok (.invokevirtual 131, 3) := by decide +kernel
theorem dL_law_204 : decode cL_law 204 = .ok (.iconst (-1), 1) := by decide +kernel
theorem dL_law_205 : decode cL_law 205 = .ok (.if_icmp .ne 23, 3) := by decide +kernel
theorem dL_law_208 : decode cL_law 208 = .ok (.aload_n 1, 1) := by decide +kernel
theorem dL_law_209 : decode cL_law 209 = .ok (.iconst 0, 1) := by decide +kernel
theorem dL_law_210 : decode cL_law 210 = .ok (.iconst 0, 1) := by decide +kernel
theorem dL_law_211 : decode cL_law 211 = .ok (.iconst 0, 1) := by decide +kernel
theorem dL_law_212 : decode cL_law 212 = .ok (.invokevirtual 113, 3) := by decide +kernel
theorem dL_law_215 : decode cL_law 215 = .ok (.iconst (-1), 1) := by decide +kernel
theorem dL_law_216 : decode cL_law 216 = .ok (.if_icmp .ne 12, 3) := by decide +kernel
theorem dL_law_219 : decode cL_law 219 = .ok (.aload_n 1, 1) := by decide +kernel
theorem dL_law_220 : decode cL_law 220 = .ok (.invokestatic 127, 3) := by decide +kernel
theorem dL_law_223 : decode cL_law 223 = .ok (.lload_n 3, 1) := by decide +kernel
theorem dL_law_224 : decode cL_law 224 = .ok (.lcmp, 1) := by decide +kernel
theorem dL_law_225 : decode cL_law 225 = .ok (.ifCond .eq 5, 3) := by decide +kernel
theorem dL_law_228 : decode cL_law 228 = .ok (.iconst 0, 1) := by decide +kernel
theorem dL_law_229 : decode cL_law 229 = .ok (.ireturn, 1) := by decide +kernel
theorem dL_law_230 : decode cL_law 230 = .ok (.aload_n 1, 1) := by decide +kernel
theorem dL_law_231 : decode cL_law 231 = .ok (.iconst 2, 1) := by decide +kernel
theorem dL_law_232 : decode cL_law 232 = .ok (.iconst 0, 1) := by decide +kernel
theorem dL_law_233 : decode cL_law 233 = .ok (.iconst 2, 1) := by decide +kernel
theorem dL_law_234 : decode cL_law 234 = .ok (.invokevirtual 131, 3) := by decide +kernel
theorem dL_law_237 : decode cL_law 237 = .ok (.ifCond .ne 45, 3) := by decide +kernel
theorem dL_law_240 : decode cL_law 240 = .ok (.aload_n 1, 1) := by decide +kernel
theorem dL_law_241 : decode cL_law 241 = .ok (.iconst 2, 1) := by decide +kernel
theorem dL_law_242 : decode cL_law 242 = .ok (.iconst 0, 1) := by decide +kernel
theorem dL_law_243 : decode cL_law 243 = .ok (.bipush 116, 2) := by decide +kernel
theorem dL_law_245 : decode cL_law 245 = .ok (.invokevirtual 134, 3) := by decide +kernel
theorem dL_law_248 : decode cL_law 248 = .ok (.ifCond .ne 34, 3) := by decide +kernel
theorem dL_law_251 : decode cL_law 251 = .ok (.aload_n 1, 1) := by decide +kernel
theorem dL_law_252 : decode cL_law 252 = .ok (.iconst 2, 1) := by decide +kernel
theorem dL_law_253 : decode cL_law 253 = .ok (.iconst 1, 1) := by decide +kernel
theorem dL_law_254 : decode cL_law 254 = .ok (.bipush 57, 2) := by decide +kernel
theorem dL_law_256 : decode cL_law 256 = .ok (.invokevirtual 134, 3) := by decide +kernel
theorem dL_law_259 : decode cL_law 259 = .ok (.ifCond .ne 23, 3) := by decide +kernel
theorem dL_law_262 : decode cL_law 262 = .ok (.aload_n 1, 1) := by decide +kernel
theorem dL_law_263 : decode cL_law 263 = .ok (.iconst 2, 1) := by decide +kernel
theorem dL_law_264 : decode cL_law 264 = .ok (.invokevirtual 137, 3) := by decide +kernel
theorem dL_law_267 : decode cL_law 267 = .ok (.sipush (-1002), 3) := by decide +kernel
theorem dL_law_270 : decode cL_law 270 = .ok (.if_icmp .ne 12, 3) := by decide +kernel
theorem dL_law_273 : decode cL_law 273 = .ok (.aload_n 1, 1) := by decide +kernel
theorem dL_law_274 : decode cL_law 274 = .ok (.invokestatic 127, 3) := by decide +kernel
theorem dL_law_277 : decode cL_law 277 = .ok (.lload_n 3, 1) := by decide +kernel
theorem dL_law_278 : decode cL_law 278 = .ok (.lcmp, 1) := by decide +kernel
theorem dL_law_279 : decode cL_law 279 = .ok (.ifCond .eq 5, 3) := by decide +kernel
theorem dL_law_282 : decode cL_law 282 = .ok (.iconst 0, 1) := by decide +kernel
theorem dL_law_283 : decode cL_law 283 = .ok (.ireturn, 1) := by decide +kernel
theorem dL_law_284 : decode cL_law 284 = .ok (.aload_n 1, 1) := by decide +kernel
theorem dL_law_285 : decode cL_law 285 = .ok (.iconst 0, 1) := by decide +kernel
theorem dL_law_286 : decode cL_law 286 = .ok (.invokevirtual 75, 3) := by decide +kernel
theorem dL_law_289 : decode cL_law 289 = .ok (.lstore 5, 2) := by decide +kernel
theorem dL_law_291 : decode cL_law 291 = .ok (.aload_n 1, 1) := by decide +kernel
theorem dL_law_292 : decode cL_law 292 = .ok (.iconst 1, 1) := by decide +kernel
theorem dL_law_293 : decode cL_law 293 = .ok (.invokevirtual 75, 3) := by decide +kernel
theorem dL_law_296 : decode cL_law 296 = .ok (.lstore 7, 2) := by decide +kernel
theorem dL_law_298 : decode cL_law 298 = .ok (.lload 7, 2) := by decide +kernel
theorem dL_law_300 : decode cL_law 300 = .ok (.lload 5, 2) := by decide +kernel
theorem dL_law_302 : decode cL_law 302 = .ok (.ldc2_w 140, 3) := by decide +kernel
theorem dL_law_305 : decode cL_law 305 = .ok (.lxor, 1) := by decide +kernel
theorem dL_law_306 : decode cL_law 306 = .ok (.land, 1) := by decide +kernel
theorem dL_law_307 : decode cL_law 307 = .ok (.lconst 0, 1) := by decide +kernel
theorem dL_law_308 : decode cL_law 308 = .ok (.lcmp, 1) := by decide +kernel
theorem dL_law_309 : decode cL_law 309 = .ok (.ifCond .ne 29, 3) := by decide +kernel
theorem dL_law_312 : decode cL_law 312 = .ok (.aload_n 1, 1) := by decide +kernel
theorem dL_law_313 : decode cL_law 313 = .ok (.iconst 0, 1) := by decide +kernel
theorem dL_law_314 : decode cL_law 314 = .ok (.invokevirtual 79, 3) := by decide +kernel
theorem dL_law_317 : decode cL_law 317 = .ok (.lload 5, 2) := by decide +kernel
theorem dL_law_319 : decode cL_law 319 = .ok (.invokestatic 142, 3) := by decide +kernel
theorem dL_law_322 : decode cL_law 322 = .ok (.if_icmp .ne 16, 3) := by decide +kernel
theorem dL_law_325 : decode cL_law 325 = .ok (.aload_n 1, 1) := by decide +kernel
theorem dL_law_326 : decode cL_law 326 = .ok (.iconst 1, 1) := by decide +kernel
theorem dL_law_327 : decode cL_law 327 = .ok (.invokevirtual 79, 3) := by decide +kernel
theorem dL_law_330 : decode cL_law 330 = .ok (.lload 7, 2) := by decide +kernel
theorem dL_law_332 : decode cL_law 332 = .ok (.invokestatic 142, 3) := by decide +kernel
theorem dL_law_335 : decode cL_law 335 = .ok (.if_icmp .eq 5, 3) := by decide +kernel
theorem dL_law_338 : decode cL_law 338 = .ok (.iconst 0, 1) := by decide +kernel
theorem dL_law_339 : decode cL_law 339 = .ok (.ireturn, 1) := by decide +kernel
theorem dL_law_340 : decode cL_law 340 = .ok (.lload 7, 2) := by decide +kernel
theorem dL_law_342 : decode cL_law 342 = .ok (.aload_n 2, 1) := by decide +kernel
theorem dL_law_343 : decode cL_law 343 = .ok (.iconst 3, 1) := by decide +kernel
theorem dL_law_344 : decode cL_law 344 = .ok (.iaload, 1) := by decide +kernel
theorem dL_law_345 : decode cL_law 345 = .ok (.lshr, 1) := by decide +kernel
theorem dL_law_346 : decode cL_law 346 = .ok (.lconst 1, 1) := by decide +kernel
theorem dL_law_347 : decode cL_law 347 = .ok (.land, 1) := by decide +kernel
theorem dL_law_348 : decode cL_law 348 = .ok (.lconst 1, 1) := by decide +kernel
theorem dL_law_349 : decode cL_law 349 = .ok (.lcmp, 1) := by decide +kernel
theorem dL_law_350 : decode cL_law 350 = .ok (.ifCond .ne 7, 3) := by decide +kernel
theorem dL_law_353 : decode cL_law 353 = .ok (.iconst 1, 1) := by decide +kernel
theorem dL_law_354 : decode cL_law 354 = .ok (.goto 4, 3) := by decide +kernel
theorem dL_law_357 : decode cL_law 357 = .ok (.iconst 0, 1) := by decide +kernel
theorem dL_law_358 : decode cL_law 358 = .ok (.istore 9, 2) := by decide +kernel
theorem dL_law_360 : decode cL_law 360 = .ok (.iload 9, 2) := by decide +kernel
theorem dL_law_362 : decode cL_law 362 = .ok (.lload 5, 2) := by decide +kernel
theorem dL_law_364 : decode cL_law 364 = .ok (.aload_n 2, 1) := by decide +kernel
theorem dL_law_365 : decode cL_law 365 = .ok (.iconst 3, 1) := by decide +kernel
theorem dL_law_366 : decode cL_law 366 = .ok (.iaload, 1) := by decide +kernel
theorem dL_law_367 : decode cL_law 367 = .ok (.lshr, 1) := by decide +kernel
theorem dL_law_368 : decode cL_law 368 = .ok (.lconst 1, 1) := by decide +kernel
theorem dL_law_369 : decode cL_law 369 = .ok (.land, 1) := by decide +kernel
theorem dL_law_370 : decode cL_law 370 = .ok (.lconst 1, 1) := by decide +kernel
theorem dL_law_371 : decode cL_law 371 = .ok (.lcmp, 1) := by decide +kernel
theorem dL_law_372 : decode cL_law 372 = .ok (.ifCond .ne 15, 3) := by decide +kernel
theorem dL_law_375 : decode cL_law 375 = .ok (.aload_n 1, 1) := by decide +kernel
theorem dL_law_376 : decode cL_law 376 = .ok (.iconst 0, 1) := by decide +kernel
theorem dL_law_377 : decode cL_law 377 = .ok (.invokevirtual 85, 3) := by decide +kernel
theorem dL_law_380 : decode cL_law 380 = .ok (.ifCond .ne 7, 3) := by decide +kernel
theorem dL_law_383 : decode cL_law 383 = .ok (.iconst 1, 1) := by decide +kernel
theorem dL_law_384 : decode cL_law 384 = .ok (.goto 4, 3) := by decide +kernel
theorem dL_law_387 : decode cL_law 387 = .ok (.iconst 0, 1) := by decide +kernel
theorem dL_law_388 : decode cL_law 388 = .ok (.if_icmp .ne 23, 3) := by decide +kernel
theorem dL_law_391 : decode cL_law 391 = .ok (.aload_n 1, 1) := by decide +kernel
theorem dL_law_392 : decode cL_law 392 = .ok (.bipush 6, 2) := by decide +kernel
theorem dL_law_394 : decode cL_law 394 = .ok (.invokevirtual 48, 3) := by decide +kernel
theorem dL_law_397 : decode cL_law 397 = .ok (.iconst 1, 1) := by decide +kernel
theorem dL_law_398 : decode cL_law 398 = .ok (.if_icmp .ne 7, 3) := by decide +kernel
theorem dL_law_401 : decode cL_law 401 = .ok (.iconst 1, 1) := by decide +kernel
theorem dL_law_402 : decode cL_law 402 = .ok (.goto 4, 3) := by decide +kernel
theorem dL_law_405 : decode cL_law 405 = .ok (.iconst 0, 1) := by decide +kernel
theorem dL_law_406 : decode cL_law 406 = .ok (.iload 9, 2) := by decide +kernel
theorem dL_law_408 : decode cL_law 408 = .ok (.if_icmp .eq 5, 3) := by decide +kernel
theorem dL_law_411 : decode cL_law 411 = .ok (.iconst 0, 1) := by decide +kernel
theorem dL_law_412 : decode cL_law 412 = .ok (.ireturn, 1) := by decide +kernel
theorem dL_law_413 : decode cL_law 413 = .ok (.iload 9, 2) := by decide +kernel
theorem dL_law_415 : decode cL_law 415 = .ok (.ifCond .eq 29, 3) := by decide +kernel
theorem dL_law_418 : decode cL_law 418 = .ok (.aload_n 1, 1) := by decide +kernel
theorem dL_law_419 : decode cL_law 419 = .ok (.iconst 0, 1) := by decide +kernel
theorem dL_law_420 : decode cL_law 420 = .ok (.invokevirtual 82, 3) := by decide +kernel
theorem dL_law_423 : decode cL_law 423 = .ok (.aload_n 2, 1) := by decide +kernel
theorem dL_law_424 : decode cL_law 424 = .ok (.iconst 3, 1) := by decide +kernel
theorem dL_law_425 : decode cL_law 425 = .ok (.iaload, 1) := by decide +kernel
theorem dL_law_426 : decode cL_law 426 = .ok (.iconst (-1), 1) := by decide +kernel
theorem dL_law_427 : decode cL_law 427 = .ok (.ixor, 1) := by decide +kernel
theorem dL_law_428 : decode cL_law 428 = .ok (.iand, 1) := by decide +kernel
theorem dL_law_429 : decode cL_law 429 = .ok (.ifCond .ne 36, 3) := by decide +kernel
theorem dL_law_432 : decode cL_law 432 = .ok (.aload_n 1, 1) := by decide +kernel
theorem dL_law_433 : decode cL_law 433 = .ok (.iconst 1, 1) := by decide +kernel
theorem dL_law_434 : decode cL_law 434 = .ok (.invokevirtual 82, 3) := by decide +kernel
theorem dL_law_437 : decode cL_law 437 = .ok (.aload_n 2, 1) := by decide +kernel
theorem dL_law_438 : decode cL_law 438 = .ok (.iconst 3, 1) := by decide +kernel
theorem dL_law_439 : decode cL_law 439 = .ok (.iaload, 1) := by decide +kernel
theorem dL_law_440 : decode cL_law 440 = .ok (.iand, 1) := by decide +kernel
theorem dL_law_441 : decode cL_law 441 = .ok (.ifCond .ne 24, 3) := by decide +kernel
theorem dL_law_444 : decode cL_law 444 = .ok (.lload 7, 2) := by decide +kernel
theorem dL_law_446 : decode cL_law 446 = .ok (.lconst 0, 1) := by decide +kernel
theorem dL_law_447 : decode cL_law 447 = .ok (.lcmp, 1) := by decide +kernel
theorem dL_law_448 : decode cL_law 448 = .ok (.ifCond .eq 19, 3) := by decide +kernel
theorem dL_law_451 : decode cL_law 451 = .ok (.aload_n 1, 1) := by decide +kernel
theorem dL_law_452 : decode cL_law 452 = .ok (.iconst 0, 1) := by decide +kernel
theorem dL_law_453 : decode cL_law 453 = .ok (.invokevirtual 82, 3) := by decide +kernel
theorem dL_law_456 : decode cL_law 456 = .ok (.aload_n 1, 1) := by decide +kernel
theorem dL_law_457 : decode cL_law 457 = .ok (.iconst 1, 1) := by decide +kernel
theorem dL_law_458 : decode cL_law 458 = .ok (.invokevirtual 82, 3) := by decide +kernel
theorem dL_law_461 : decode cL_law 461 = .ok (.iand, 1) := by decide +kernel
theorem dL_law_462 : decode cL_law 462 = .ok (.ifCond .eq 5, 3) := by decide +kernel
theorem dL_law_465 : decode cL_law 465 = .ok (.iconst 0, 1) := by decide +kernel
theorem dL_law_466 : decode cL_law 466 = .ok (.ireturn, 1) := by decide +kernel
theorem dL_law_467 : decode cL_law 467 = .ok (.iconst 0, 1) := by decide +kernel
theorem dL_law_468 : decode cL_law 468 = .ok (.istore 10, 2) := by decide +kernel
theorem dL_law_470 : decode cL_law 470 = .ok (.iload 10, 2) := by decide +kernel
theorem dL_law_472 : decode cL_law 472 = .ok (.aload_n 2, 1) := by decide +kernel
theorem dL_law_473 : decode cL_law 473 = .ok (.iconst 1, 1) := by decide +kernel
theorem dL_law_474 : decode cL_law 474 = .ok (.iaload, 1) := by decide +kernel
theorem dL_law_475 : decode cL_law 475 = .ok (.if_icmp .ge 216, 3) := by decide +kernel
theorem dL_law_478 : decode cL_law 478 = .ok (.aload_n 1, 1) := by decide +kernel
theorem dL_law_479 : decode cL_law 479 = .ok (.iconst 0, 1) := by decide +kernel
theorem dL_law_480 : decode cL_law 480 = .ok (.invokevirtual 82, 3) := by decide +kernel
theorem dL_law_483 : decode cL_law 483 = .ok (.aload_n 1, 1) := by decide +kernel
theorem dL_law_484 : decode cL_law 484 = .ok (.iconst 1, 1) := by decide +kernel
theorem dL_law_485 : decode cL_law 485 = .ok (.invokevirtual 82, 3) := by decide +kernel
theorem dL_law_488 : decode cL_law 488 = .ok (.ior, 1) := by decide +kernel
theorem dL_law_489 : decode cL_law 489 = .ok (.aload_n 1, 1) := by decide +kernel
theorem dL_law_490 : decode cL_law 490 = .ok (.iload 10, 2) := by decide +kernel
theorem dL_law_492 : decode cL_law 492 = .ok (.invokevirtual 69, 3) := by decide +kernel
theorem dL_law_495 : decode cL_law 495 = .ok (.iconst (-1), 1) := by decide +kernel
theorem dL_law_496 : decode cL_law 496 = .ok (.ixor, 1) := by decide +kernel
theorem dL_law_497 : decode cL_law 497 = .ok (.iand, 1) := by decide +kernel
theorem dL_law_498 : decode cL_law 498 = .ok (.ifCond .ne 27, 3) := by decide +kernel
theorem dL_law_501 : decode cL_law 501 = .ok (.iload 9, 2) := by decide +kernel
theorem dL_law_503 : decode cL_law 503 = .ok (.ifCond .eq 24, 3) := by decide +kernel
theorem dL_law_506 : decode cL_law 506 = .ok (.aload_n 2, 1) := by decide +kernel
theorem dL_law_507 : decode cL_law 507 = .ok (.bipush 10, 2) := by decide +kernel
theorem dL_law_509 : decode cL_law 509 = .ok (.iload 10, 2) := by decide +kernel
theorem dL_law_511 : decode cL_law 511 = .ok (.iadd, 1) := by decide +kernel
theorem dL_law_512 : decode cL_law 512 = .ok (.iaload, 1) := by decide +kernel
theorem dL_law_513 : decode cL_law 513 = .ok (.aload_n 1, 1) := by decide +kernel
theorem dL_law_514 : decode cL_law 514 = .ok (.iload 10, 2) := by decide +kernel
theorem dL_law_516 : decode cL_law 516 = .ok (.invokevirtual 69, 3) := by decide +kernel
theorem dL_law_519 : decode cL_law 519 = .ok (.iconst (-1), 1) := by decide +kernel
theorem dL_law_520 : decode cL_law 520 = .ok (.ixor, 1) := by decide +kernel
theorem dL_law_521 : decode cL_law 521 = .ok (.iand, 1) := by decide +kernel
theorem dL_law_522 : decode cL_law 522 = .ok (.ifCond .eq 5, 3) := by decide +kernel
theorem dL_law_525 : decode cL_law 525 = .ok (.iconst 0, 1) := by decide +kernel
theorem dL_law_526 : decode cL_law 526 = .ok (.ireturn, 1) := by decide +kernel
theorem dL_law_527 : decode cL_law 527 = .ok (.iconst 0, 1) := by decide +kernel
theorem dL_law_528 : decode cL_law 528 = .ok (.istore 11, 2) := by decide +kernel
theorem dL_law_530 : decode cL_law 530 = .ok (.iload 11, 2) := by decide +kernel
theorem dL_law_532 : decode cL_law 532 = .ok (.aload_n 2, 1) := by decide +kernel
theorem dL_law_533 : decode cL_law 533 = .ok (.iconst 1, 1) := by decide +kernel
theorem dL_law_534 : decode cL_law 534 = .ok (.iaload, 1) := by decide +kernel
theorem dL_law_535 : decode cL_law 535 = .ok (.if_icmp .ge 65, 3) := by decide +kernel
theorem dL_law_538 : decode cL_law 538 = .ok (.iload 9, 2) := by decide +kernel
theorem dL_law_540 : decode cL_law 540 = .ok (.ifCond .eq 23, 3) := by decide +kernel
theorem dL_law_543 : decode cL_law 543 = .ok (.aload_n 1, 1) := by decide +kernel
theorem dL_law_544 : decode cL_law 544 = .ok (.iload 10, 2) := by decide +kernel
theorem dL_law_546 : decode cL_law 546 = .ok (.iload 11, 2) := by decide +kernel
theorem dL_law_548 : decode cL_law 548 = .ok (.invokevirtual 72, 3) := by decide +kernel
theorem dL_law_551 : decode cL_law 551 = .ok (.aload_n 1, 1) := by decide +kernel
theorem dL_law_552 : decode cL_law 552 = .ok (.iload 11, 2) := by decide +kernel
theorem dL_law_554 : decode cL_law 554 = .ok (.invokevirtual 69, 3) := by decide +kernel
theorem dL_law_557 : decode cL_law 557 = .ok (.iconst (-1), 1) := by decide +kernel
theorem dL_law_558 : decode cL_law 558 = .ok (.ixor, 1) := by decide +kernel
theorem dL_law_559 : decode cL_law 559 = .ok (.iand, 1) := by decide +kernel
theorem dL_law_560 : decode cL_law 560 = .ok (.ifCond .ne 32, 3) := by decide +kernel
theorem dL_law_563 : decode cL_law 563 = .ok (.iload 9, 2) := by decide +kernel
theorem dL_law_565 : decode cL_law 565 = .ok (.ifCond .eq 29, 3) := by decide +kernel
theorem dL_law_568 : decode cL_law 568 = .ok (.iload 11, 2) := by decide +kernel
theorem dL_law_570 : decode cL_law 570 = .ok (.iload 10, 2) := by decide +kernel
theorem dL_law_572 : decode cL_law 572 = .ok (.if_icmp .ne 22, 3) := by decide +kernel
theorem dL_law_575 : decode cL_law 575 = .ok (.aload_n 1, 1) := by decide +kernel
theorem dL_law_576 : decode cL_law 576 = .ok (.iload 10, 2) := by decide +kernel
theorem dL_law_578 : decode cL_law 578 = .ok (.iload 10, 2) := by decide +kernel
theorem dL_law_580 : decode cL_law 580 = .ok (.invokevirtual 72, 3) := by decide +kernel
theorem dL_law_583 : decode cL_law 583 = .ok (.aload_n 1, 1) := by decide +kernel
theorem dL_law_584 : decode cL_law 584 = .ok (.iload 10, 2) := by decide +kernel
theorem dL_law_586 : decode cL_law 586 = .ok (.invokevirtual 69, 3) := by decide +kernel
theorem dL_law_589 : decode cL_law 589 = .ok (.if_icmp .eq 5, 3) := by decide +kernel
theorem dL_law_592 : decode cL_law 592 = .ok (.iconst 0, 1) := by decide +kernel
theorem dL_law_593 : decode cL_law 593 = .ok (.ireturn, 1) := by decide +kernel
theorem dL_law_594 : decode cL_law 594 = .ok (.iinc 11 1, 3) := by decide +kernel
theorem dL_law_597 : decode cL_law 597 = .ok (.goto (-67), 3) := by decide +kernel
theorem dL_law_600 : decode cL_law 600 = .ok (.aload_n 1, 1) := by decide +kernel
theorem dL_law_601 : decode cL_law 601 = .ok (.iload 10, 2) := by decide +kernel
theorem dL_law_603 : decode cL_law 603 = .ok (.invokevirtual 63, 3) := by decide +kernel
theorem dL_law_606 : decode cL_law 606 = .ok (.ifCond .lt 53, 3) := by decide +kernel
theorem dL_law_609 : decode cL_law 609 = .ok (.aload_n 1, 1) := by decide +kernel
theorem dL_law_610 : decode cL_law 610 = .ok (.iload 10, 2) := by decide +kernel
theorem dL_law_612 : decode cL_law 612 = .ok (.iconst 2, 1) := by decide +kernel
theorem dL_law_613 : decode cL_law 613 = .ok (.invokevirtual 66, 3) := by decide +kernel
theorem dL_law_616 : decode cL_law 616 = .ok (.aload_n 1, 1) := by decide +kernel
theorem dL_law_617 : decode cL_law 617 = .ok (.iconst 1, 1) := by decide +kernel
theorem dL_law_618 : decode cL_law 618 = .ok (.invokevirtual 79, 3) := by decide +kernel
theorem dL_law_621 : decode cL_law 621 = .ok (.if_icmp .gt 38, 3) := by decide +kernel
theorem dL_law_624 : decode cL_law 624 = .ok (.aload_n 1, 1) := by decide +kernel
theorem dL_law_625 : decode cL_law 625 = .ok (.iload 10, 2) := by decide +kernel
theorem dL_law_627 : decode cL_law 627 = .ok (.iconst 0, 1) := by decide +kernel
theorem dL_law_628 : decode cL_law 628 = .ok (.invokevirtual 66, 3) := by decide +kernel
theorem dL_law_631 : decode cL_law 631 = .ok (.ifCond .ne 7, 3) := by decide +kernel
theorem dL_law_634 : decode cL_law 634 = .ok (.iconst 1, 1) := by decide +kernel
theorem dL_law_635 : decode cL_law 635 = .ok (.goto 4, 3) := by decide +kernel
theorem dL_law_638 : decode cL_law 638 = .ok (.iconst 0, 1) := by decide +kernel
theorem dL_law_639 : decode cL_law 639 = .ok (.aload_n 1, 1) := by decide +kernel
theorem dL_law_640 : decode cL_law 640 = .ok (.iload 10, 2) := by decide +kernel
theorem dL_law_642 : decode cL_law 642 = .ok (.iconst 1, 1) := by decide +kernel
theorem dL_law_643 : decode cL_law 643 = .ok (.invokevirtual 66, 3) := by decide +kernel
theorem dL_law_646 : decode cL_law 646 = .ok (.bipush (-4), 2) := by decide +kernel
theorem dL_law_648 : decode cL_law 648 = .ok (.if_icmp .ne 7, 3) := by decide +kernel
theorem dL_law_651 : decode cL_law 651 = .ok (.iconst 1, 1) := by decide +kernel
theorem dL_law_652 : decode cL_law 652 = .ok (.goto 4, 3) := by decide +kernel
theorem dL_law_655 : decode cL_law 655 = .ok (.iconst 0, 1) := by decide +kernel
theorem dL_law_656 : decode cL_law 656 = .ok (.if_icmp .eq 5, 3) := by decide +kernel
theorem dL_law_659 : decode cL_law 659 = .ok (.iconst 0, 1) := by decide +kernel
theorem dL_law_660 : decode cL_law 660 = .ok (.ireturn, 1) := by decide +kernel
theorem dL_law_661 : decode cL_law 661 = .ok (.iload 9, 2) := by decide +kernel
theorem dL_law_663 : decode cL_law 663 = .ok (.ifCond .eq 22, 3) := by decide +kernel
theorem dL_law_666 : decode cL_law 666 = .ok (.aload_n 1, 1) := by decide +kernel
theorem dL_law_667 : decode cL_law 667 = .ok (.iconst 0, 1) := by decide +kernel
theorem dL_law_668 : decode cL_law 668 = .ok (.invokevirtual 110, 3) := by decide +kernel
theorem dL_law_671 : decode cL_law 671 = .ok (.aload_n 1, 1) := by decide +kernel
theorem dL_law_672 : decode cL_law 672 = .ok (.iload 10, 2) := by decide +kernel
theorem dL_law_674 : decode cL_law 674 = .ok (.invokevirtual 69, 3) := by decide +kernel
theorem dL_law_677 : decode cL_law 677 = .ok (.iconst (-1), 1) := by decide +kernel
theorem dL_law_678 : decode cL_law 678 = .ok (.ixor, 1) := by decide +kernel
theorem dL_law_679 : decode cL_law 679 = .ok (.iand, 1) := by decide +kernel
theorem dL_law_680 : decode cL_law 680 = .ok (.ifCond .eq 5, 3) := by decide +kernel
theorem dL_law_683 : decode cL_law 683 = .ok (.iconst 0, 1) := by decide +kernel
theorem dL_law_684 : decode cL_law 684 = .ok (.ireturn, 1) := by decide +kernel
theorem dL_law_685 : decode cL_law 685 = .ok (.iinc 10 1, 3) := by decide +kernel
theorem dL_law_688 : decode cL_law 688 = .ok (.goto (-218), 3) := by decide +kernel
theorem dL_law_691 : decode cL_law 691 = .ok (.iconst 1, 1) := by decide +kernel
theorem dL_law_692 : decode cL_law 692 = .ok (.istore 10, 2) := by decide +kernel
theorem dL_law_694 : decode cL_law 694 = .ok (.iload 10, 2) := by decide +kernel
theorem dL_law_696 : decode cL_law 696 = .ok (.bipush 6, 2) := by decide +kernel
theorem dL_law_698 : decode cL_law 698 = .ok (.if_icmp .ge 37, 3) := by decide +kernel
theorem dL_law_701 : decode cL_law 701 = .ok (.aload_n 2, 1) := by decide +kernel
theorem dL_law_702 : decode cL_law 702 = .ok (.iconst 1, 1) := by decide +kernel
theorem dL_law_703 : decode cL_law 703 = .ok (.iaload, 1) := by decide +kernel
theorem dL_law_704 : decode cL_law 704 = .ok (.ifCond .le 31, 3) := by decide +kernel
theorem dL_law_707 : decode cL_law 707 = .ok (.aload_n 1, 1) := by decide +kernel
theorem dL_law_708 : decode cL_law 708 = .ok (.iload 10, 2) := by decide +kernel
theorem dL_law_710 : decode cL_law 710 = .ok (.invokevirtual 110, 3) := by decide +kernel
theorem dL_law_713 : decode cL_law 713 = .ok (.aload_n 1, 1) := by decide +kernel
theorem dL_law_714 : decode cL_law 714 = .ok (.iload 10, 2) := by decide +kernel
theorem dL_law_716 : decode cL_law 716 = .ok (.iconst 1, 1) := by decide +kernel
theorem dL_law_717 : decode cL_law 717 = .ok (.isub, 1) := by decide +kernel
theorem dL_law_718 : decode cL_law 718 = .ok (.invokevirtual 110, 3) := by decide +kernel
theorem dL_law_721 : decode cL_law 721 = .ok (.iconst (-1), 1) := by decide +kernel
theorem dL_law_722 : decode cL_law 722 = .ok (.ixor, 1) := by decide +kernel
theorem dL_law_723 : decode cL_law 723 = .ok (.iand, 1) := by decide +kernel
theorem dL_law_724 : decode cL_law 724 = .ok (.ifCond .eq 5, 3) := by decide +kernel
theorem dL_law_727 : decode cL_law 727 = .ok (.iconst 0, 1) := by decide +kernel
theorem dL_law_728 : decode cL_law 728 = .ok (.ireturn, 1) := by decide +kernel
theorem dL_law_729 : decode cL_law 729 = .ok (.iinc 10 1, 3) := by decide +kernel
theorem dL_law_732 : decode cL_law 732 = .ok (.goto (-38), 3) := by decide +kernel
theorem dL_law_735 : decode cL_law 735 = .ok (.iconst 0, 1) := by decide +kernel
theorem dL_law_736 : decode cL_law 736 = .ok (.istore 10, 2) := by decide +kernel
theorem dL_law_738 : decode cL_law 738 = .ok (.iload 10, 2) := by decide +kernel
theorem dL_law_740 : decode cL_law 740 = .ok (.aload_n 2, 1) := by decide +kernel
theorem dL_law_741 : decode cL_law 741 = .ok (.iconst 2, 1) := by decide +kernel
theorem dL_law_742 : decode cL_law 742 = .ok (.iaload, 1) := by decide +kernel
theorem dL_law_743 : decode cL_law 743 = .ok (.if_icmp .ge 39, 3) := by decide +kernel
theorem dL_law_746 : decode cL_law 746 = .ok (.aload_n 1, 1) := by decide +kernel
theorem dL_law_747 : decode cL_law 747 = .ok (.iload 10, 2) := by decide +kernel
theorem dL_law_749 : decode cL_law 749 = .ok (.invokevirtual 57, 3) := by decide +kernel
theorem dL_law_752 : decode cL_law 752 = .ok (.aload_n 1, 1) := by decide +kernel
theorem dL_law_753 : decode cL_law 753 = .ok (.iconst 0, 1) := by decide +kernel
theorem dL_law_754 : decode cL_law 754 = .ok (.invokevirtual 79, 3) := by decide +kernel
theorem dL_law_757 : decode cL_law 757 = .ok (.if_icmp .gt 17, 3) := by decide +kernel
theorem dL_law_760 : decode cL_law 760 = .ok (.aload_n 1, 1) := by decide +kernel
theorem dL_law_761 : decode cL_law 761 = .ok (.iload 10, 2) := by decide +kernel
theorem dL_law_763 : decode cL_law 763 = .ok (.invokevirtual 57, 3) := by decide +kernel
theorem dL_law_766 : decode cL_law 766 = .ok (.aload_n 1, 1) := by decide +kernel
theorem dL_law_767 : decode cL_law 767 = .ok (.iconst 1, 1) := by decide +kernel
theorem dL_law_768 : decode cL_law 768 = .ok (.invokevirtual 79, 3) := by decide +kernel
theorem dL_law_771 : decode cL_law 771 = .ok (.if_icmp .ge 5, 3) := by decide +kernel
theorem dL_law_774 : decode cL_law 774 = .ok (.iconst 0, 1) := by decide +kernel
theorem dL_law_775 : decode cL_law 775 = .ok (.ireturn, 1) := by decide +kernel
theorem dL_law_776 : decode cL_law 776 = .ok (.iinc 10 1, 3) := by decide +kernel
theorem dL_law_779 : decode cL_law 779 = .ok (.goto (-41), 3) := by decide +kernel
theorem dL_law_782 : decode cL_law 782 = .ok (.aload_n 1, 1) := by decide +kernel
theorem dL_law_783 : decode cL_law 783 = .ok (.invokevirtual 92, 3) := by decide +kernel
theorem dL_law_786 : decode cL_law 786 = .ok (.istore 10, 2) := by decide +kernel
theorem dL_law_788 : decode cL_law 788 = .ok (.iload 10, 2) := by decide +kernel
theorem dL_law_790 : decode cL_law 790 = .ok (.ifCond .ne 7, 3) := by decide +kernel
theorem dL_law_793 : decode cL_law 793 = .ok (.iconst 1, 1) := by decide +kernel
theorem dL_law_794 : decode cL_law 794 = .ok (.goto 4, 3) := by decide +kernel
theorem dL_law_797 : decode cL_law 797 = .ok (.iconst 0, 1) := by decide +kernel
theorem dL_law_798 : decode cL_law 798 = .ok (.lload 7, 2) := by decide +kernel
theorem dL_law_800 : decode cL_law 800 = .ok (.lconst 0, 1) := by decide +kernel
theorem dL_law_801 : decode cL_law 801 = .ok (.lcmp, 1) := by decide +kernel
theorem dL_law_802 : decode cL_law 802 = .ok (.ifCond .eq 7, 3) := by decide +kernel
theorem dL_law_805 : decode cL_law 805 = .ok (.iconst 1, 1) := by decide +kernel
theorem dL_law_806 : decode cL_law 806 = .ok (.goto 4, 3) := by decide +kernel
theorem dL_law_809 : decode cL_law 809 = .ok (.iconst 0, 1) := by decide +kernel
theorem dL_law_810 : decode cL_law 810 = .ok (.if_icmp .ne 17, 3) := by decide +kernel
theorem dL_law_813 : decode cL_law 813 = .ok (.lload 5, 2) := by decide +kernel
theorem dL_law_815 : decode cL_law 815 = .ok (.lconst 0, 1) := by decide +kernel
theorem dL_law_816 : decode cL_law 816 = .ok (.lcmp, 1) := by decide +kernel
theorem dL_law_817 : decode cL_law 817 = .ok (.ifCond .ne 12, 3) := by decide +kernel
theorem dL_law_820 : decode cL_law 820 = .ok (.iload 10, 2) := by decide +kernel
theorem dL_law_822 : decode cL_law 822 = .ok (.bipush (-4), 2) := by decide +kernel
theorem dL_law_824 : decode cL_law 824 = .ok (.if_icmp .eq 5, 3) := by decide +kernel
theorem dL_law_827 : decode cL_law 827 = .ok (.iconst 0, 1) := by decide +kernel
theorem dL_law_828 : decode cL_law 828 = .ok (.ireturn, 1) := by decide +kernel
theorem dL_law_829 : decode cL_law 829 = .ok (.aload_n 2, 1) := by decide +kernel
theorem dL_law_830 : decode cL_law 830 = .ok (.iconst 1, 1) := by decide +kernel
theorem dL_law_831 : decode cL_law 831 = .ok (.iaload, 1) := by decide +kernel
theorem dL_law_832 : decode cL_law 832 = .ok (.ifCond .le 182, 3) := by decide +kernel
theorem dL_law_835 : decode cL_law 835 = .ok (.aload_n 2, 1) := by decide +kernel
theorem dL_law_836 : decode cL_law 836 = .ok (.iconst 2, 1) := by decide +kernel
theorem dL_law_837 : decode cL_law 837 = .ok (.iaload, 1) := by decide +kernel
theorem dL_law_838 : decode cL_law 838 = .ok (.bipush 10, 2) := by decide +kernel
theorem dL_law_840 : decode cL_law 840 = .ok (.if_icmp .ge 174, 3) := by decide +kernel
theorem dL_law_843 : decode cL_law 843 = .ok (.aload_n 0, 1) := by decide +kernel
theorem dL_law_844 : decode cL_law 844 = .ok (.bipush 22, 2) := by decide +kernel
theorem dL_law_846 : decode cL_law 846 = .ok (.invokestatic 7, 3) := by decide +kernel
theorem dL_law_849 : decode cL_law 849 = .ok (.aload_n 2, 1) := by decide +kernel
theorem dL_law_850 : decode cL_law 850 = .ok (.iconst 1, 1) := by decide +kernel
theorem dL_law_851 : decode cL_law 851 = .ok (.iaload, 1) := by decide +kernel
theorem dL_law_852 : decode cL_law 852 = .ok (.invokestatic 13, 3) := by decide +kernel
theorem dL_law_855 : decode cL_law 855 = .ok (.istore 11, 2) := by decide +kernel
theorem dL_law_857 : decode cL_law 857 = .ok (.aload_n 1, 1) := by decide +kernel
theorem dL_law_858 : decode cL_law 858 = .ok (.iload 11, 2) := by decide +kernel
theorem dL_law_860 : decode cL_law 860 = .ok (.iconst 1, 1) := by decide +kernel
theorem dL_law_861 : decode cL_law 861 = .ok (.invokevirtual 66, 3) := by decide +kernel
theorem dL_law_864 : decode cL_law 864 = .ok (.istore 12, 2) := by decide +kernel
theorem dL_law_866 : decode cL_law 866 = .ok (.aload_n 1, 1) := by decide +kernel
theorem dL_law_867 : decode cL_law 867 = .ok (.iload 11, 2) := by decide +kernel
theorem dL_law_869 : decode cL_law 869 = .ok (.iconst 2, 1) := by decide +kernel
theorem dL_law_870 : decode cL_law 870 = .ok (.invokevirtual 66, 3) := by decide +kernel
theorem dL_law_873 : decode cL_law 873 = .ok (.istore 13, 2) := by decide +kernel
theorem dL_law_875 : decode cL_law 875 = .ok (.iload 12, 2) := by decide +kernel
theorem dL_law_877 : decode cL_law 877 = .ok (.ifCond .lt 137, 3) := by decide +kernel
theorem dL_law_880 : decode cL_law 880 = .ok (.aload_n 1, 1) := by decide +kernel
theorem dL_law_881 : decode cL_law 881 = .ok (.iconst 1, 1) := by decide +kernel
theorem dL_law_882 : decode cL_law 882 = .ok (.iconst 1, 1) := by decide +kernel
theorem dL_law_883 : decode cL_law 883 = .ok (.iload 12, 2) := by decide +kernel
theorem dL_law_885 : decode cL_law 885 = .ok (.bipush 100, 2) := by decide +kernel
theorem dL_law_887 : decode cL_law 887 = .ok (.idiv, 1) := by decide +kernel
theorem dL_law_888 : decode cL_law 888 = .ok (.iconst 0, 1) := by decide +kernel
theorem dL_law_889 : decode cL_law 889 = .ok (.invokevirtual 33, 3) := by decide +kernel
theorem dL_law_892 : decode cL_law 892 = .ok (.ifCond .ne 32, 3) := by decide +kernel
theorem dL_law_895 : decode cL_law 895 = .ok (.aload_n 1, 1) := by decide +kernel
theorem dL_law_896 : decode cL_law 896 = .ok (.iconst 1, 1) := by decide +kernel
theorem dL_law_897 : decode cL_law 897 = .ok (.iload 12, 2) := by decide +kernel
theorem dL_law_899 : decode cL_law 899 = .ok (.bipush 10, 2) := by decide +kernel
theorem dL_law_901 : decode cL_law 901 = .ok (.idiv, 1) := by decide +kernel
theorem dL_law_902 : decode cL_law 902 = .ok (.bipush 10, 2) := by decide +kernel
theorem dL_law_904 : decode cL_law 904 = .ok (.irem, 1) := by decide +kernel
theorem dL_law_905 : decode cL_law 905 = .ok (.iload 12, 2) := by decide +kernel
theorem dL_law_907 : decode cL_law 907 = .ok (.bipush 10, 2) := by decide +kernel
theorem dL_law_909 : decode cL_law 909 = .ok (.irem, 1) := by decide +kernel
theorem dL_law_910 : decode cL_law 910 = .ok (.invokevirtual 148, 3) := by decide +kernel
theorem dL_law_913 : decode cL_law 913 = .ok (.aload_n 1, 1) := by decide +kernel
theorem dL_law_914 : decode cL_law 914 = .ok (.iconst 1, 1) := by decide +kernel
theorem dL_law_915 : decode cL_law 915 = .ok (.invokevirtual 79, 3) := by decide +kernel
theorem dL_law_918 : decode cL_law 918 = .ok (.iload 13, 2) := by decide +kernel
theorem dL_law_920 : decode cL_law 920 = .ok (.isub, 1) := by decide +kernel
theorem dL_law_921 : decode cL_law 921 = .ok (.if_icmp .eq 5, 3) := by decide +kernel
theorem dL_law_924 : decode cL_law 924 = .ok (.iconst 0, 1) := by decide +kernel
theorem dL_law_925 : decode cL_law 925 = .ok (.ireturn, 1) := by decide +kernel
theorem dL_law_926 : decode cL_law 926 = .ok (.aload_n 1, 1) := by decide +kernel
theorem dL_law_927 : decode cL_law 927 = .ok (.iconst 0, 1) := by decide +kernel
theorem dL_law_928 : decode cL_law 928 = .ok (.invokevirtual 85, 3) := by decide +kernel
theorem dL_law_931 : decode cL_law 931 = .ok (.istore 14, 2) := by decide +kernel
theorem dL_law_933 : decode cL_law 933 = .ok (.aload_n 1, 1) := by decide +kernel
theorem dL_law_934 : decode cL_law 934 = .ok (.iload 11, 2) := by decide +kernel
theorem dL_law_936 : decode cL_law 936 = .ok (.iconst 1, 1) := by decide +kernel
theorem dL_law_937 : decode cL_law 937 = .ok (.iload 12, 2) := by decide +kernel
theorem dL_law_939 : decode cL_law 939 = .ok (.bipush 10, 2) := by decide +kernel
theorem dL_law_941 : decode cL_law 941 = .ok (.idiv, 1) := by decide +kernel
theorem dL_law_942 : decode cL_law 942 = .ok (.bipush 10, 2) := by decide +kernel
theorem dL_law_944 : decode cL_law 944 = .ok (.irem, 1) := by decide +kernel
theorem dL_law_945 : decode cL_law 945 = .ok (.iload 12, 2) := by decide +kernel
theorem dL_law_947 : decode cL_law 947 = .ok (.bipush 10, 2) := by decide +kernel
theorem dL_law_949 : decode cL_law 949 = .ok (.irem, 1) := by decide +kernel
theorem dL_law_950 : decode cL_law 950 = .ok (.invokevirtual 41, 3) := by decide +kernel
theorem dL_law_953 : decode cL_law 953 = .ok (.aload_n 2, 1) := by decide +kernel
theorem dL_law_954 : decode cL_law 954 = .ok (.iconst 2, 1) := by decide +kernel
theorem dL_law_955 : decode cL_law 955 = .ok (.iaload, 1) := by decide +kernel
theorem dL_law_956 : decode cL_law 956 = .ok (.if_icmp .ne 35, 3) := by decide +kernel
theorem dL_law_959 : decode cL_law 959 = .ok (.aload_n 1, 1) := by decide +kernel
theorem dL_law_960 : decode cL_law 960 = .ok (.iconst 1, 1) := by decide +kernel
theorem dL_law_961 : decode cL_law 961 = .ok (.invokevirtual 79, 3) := by decide +kernel
theorem dL_law_964 : decode cL_law 964 = .ok (.iload 13, 2) := by decide +kernel
theorem dL_law_966 : decode cL_law 966 = .ok (.if_icmp .ne 25, 3) := by decide +kernel
theorem dL_law_969 : decode cL_law 969 = .ok (.aload_n 1, 1) := by decide +kernel
theorem dL_law_970 : decode cL_law 970 = .ok (.iconst 0, 1) := by decide +kernel
theorem dL_law_971 : decode cL_law 971 = .ok (.invokevirtual 85, 3) := by decide +kernel
theorem dL_law_974 : decode cL_law 974 = .ok (.iload 14, 2) := by decide +kernel
theorem dL_law_976 : decode cL_law 976 = .ok (.if_icmp .ne 15, 3) := by decide +kernel
theorem dL_law_979 : decode cL_law 979 = .ok (.aload_n 1, 1) := by decide +kernel
theorem dL_law_980 : decode cL_law 980 = .ok (.aload_n 2, 1) := by decide +kernel
theorem dL_law_981 : decode cL_law 981 = .ok (.iconst 2, 1) := by decide +kernel
theorem dL_law_982 : decode cL_law 982 = .ok (.iaload, 1) := by decide +kernel
theorem dL_law_983 : decode cL_law 983 = .ok (.bipush 7, 2) := by decide +kernel
theorem dL_law_985 : decode cL_law 985 = .ok (.invokevirtual 54, 3) := by decide +kernel
theorem dL_law_988 : decode cL_law 988 = .ok (.ifCond .eq 5, 3) := by decide +kernel
theorem dL_law_991 : decode cL_law 991 = .ok (.iconst 0, 1) := by decide +kernel
theorem dL_law_992 : decode cL_law 992 = .ok (.ireturn, 1) := by decide +kernel
theorem dL_law_993 : decode cL_law 993 = .ok (.aload_n 1, 1) := by decide +kernel
theorem dL_law_994 : decode cL_law 994 = .ok (.invokevirtual 151, 3) := by decide +kernel
theorem dL_law_997 : decode cL_law 997 = .ok (.aload_n 2, 1) := by decide +kernel
theorem dL_law_998 : decode cL_law 998 = .ok (.iconst 2, 1) := by decide +kernel
theorem dL_law_999 : decode cL_law 999 = .ok (.iaload, 1) := by decide +kernel
theorem dL_law_1000 : decode cL_law 1000 = .ok (.if_icmp .ne 12, 3) := by decide +kernel
theorem dL_law_1003 : decode cL_law 1003 = .ok (.aload_n 1, 1) := by decide +kernel
theorem dL_law_1004 : decode cL_law 1004 = .ok (.invokestatic 127, 3) := by decide +kernel
theorem dL_law_1007 : decode cL_law 1007 = .ok (.lload_n 3, 1) := by decide +kernel
theorem dL_law_1008 : decode cL_law 1008 = .ok (.lcmp, 1) := by decide +kernel
theorem dL_law_1009 : decode cL_law 1009 = .ok (.ifCond .eq 5, 3) := by decide +kernel
theorem dL_law_1012 : decode cL_law 1012 = .ok (.iconst 0, 1) := by decide +kernel
theorem dL_law_1013 : decode cL_law 1013 = .ok (.ireturn, 1) := by decide +kernel
theorem dL_law_1014 : decode cL_law 1014 = .ok (.aload_n 1, 1) := by decide +kernel
theorem dL_law_1015 : decode cL_law 1015 = .ok (.iconst 1, 1) := by decide +kernel
theorem dL_law_1016 : decode cL_law 1016 = .ok (.invokevirtual 79, 3) := by decide +kernel
theorem dL_law_1019 : decode cL_law 1019 = .ok (.istore 11, 2) := by decide +kernel
theorem dL_law_1021 : decode cL_law 1021 = .ok (.aload_n 2, 1) := by decide +kernel
theorem dL_law_1022 : decode cL_law 1022 = .ok (.iconst 2, 1) := by decide +kernel
theorem dL_law_1023 : decode cL_law 1023 = .ok (.iaload, 1) := by decide +kernel
theorem dL_law_1024 : decode cL_law 1024 = .ok (.istore 12, 2) := by decide +kernel
theorem dL_law_1026 : decode cL_law 1026 = .ok (.iconst 0, 1) := by decide +kernel
theorem dL_law_1027 : decode cL_law 1027 = .ok (.istore 13, 2) := by decide +kernel
theorem dL_law_1029 : decode cL_law 1029 = .ok (.iload 13, 2) := by decide +kernel
theorem dL_law_1031 : decode cL_law 1031 = .ok (.bipush 10, 2) := by decide +kernel
theorem dL_law_1033 : decode cL_law 1033 = .ok (.aload_n 2, 1) := by decide +kernel
theorem dL_law_1034 : decode cL_law 1034 = .ok (.iconst 2, 1) := by decide +kernel
theorem dL_law_1035 : decode cL_law 1035 = .ok (.iaload, 1) := by decide +kernel
theorem dL_law_1036 : decode cL_law 1036 = .ok (.isub, 1) := by decide +kernel
theorem dL_law_1037 : decode cL_law 1037 = .ok (.if_icmp .ge 135, 3) := by decide +kernel
theorem dL_law_1040 : decode cL_law 1040 = .ok (.aload_n 2, 1) := by decide +kernel
theorem dL_law_1041 : decode cL_law 1041 = .ok (.iconst 1, 1) := by decide +kernel
theorem dL_law_1042 : decode cL_law 1042 = .ok (.iaload, 1) := by decide +kernel
theorem dL_law_1043 : decode cL_law 1043 = .ok (.ifCond .le 129, 3) := by decide +kernel
theorem dL_law_1046 : decode cL_law 1046 = .ok (.aload_n 0, 1) := by decide +kernel
theorem dL_law_1047 : decode cL_law 1047 = .ok (.bipush 23, 2) := by decide +kernel
theorem dL_law_1049 : decode cL_law 1049 = .ok (.iload 13, 2) := by decide +kernel
theorem dL_law_1051 : decode cL_law 1051 = .ok (.iconst 5, 1) := by decide +kernel
theorem dL_law_1052 : decode cL_law 1052 = .ok (.irem, 1) := by decide +kernel
theorem dL_law_1053 : decode cL_law 1053 = .ok (.iadd, 1) := by decide +kernel
theorem dL_law_1054 : decode cL_law 1054 = .ok (.invokestatic 7, 3) := by decide +kernel
theorem dL_law_1057 : decode cL_law 1057 = .ok (.iload 13, 2) := by decide +kernel
theorem dL_law_1059 : decode cL_law 1059 = .ok (.ishr, 1) := by decide +kernel
theorem dL_law_1060 : decode cL_law 1060 = .ok (.invokestatic 26, 3) := by decide +kernel
theorem dL_law_1063 : decode cL_law 1063 = .ok (.istore 14, 2) := by decide +kernel
theorem dL_law_1065 : decode cL_law 1065 = .ok (.aload_n 1, 1) := by decide +kernel
theorem dL_law_1066 : decode cL_law 1066 = .ok (.iconst 1, 1) := by decide +kernel
theorem dL_law_1067 : decode cL_law 1067 = .ok (.iconst 1, 1) := by decide +kernel
theorem dL_law_1068 : decode cL_law 1068 = .ok (.iload 14, 2) := by decide +kernel
theorem dL_law_1070 : decode cL_law 1070 = .ok (.sipush 1000, 3) := by decide +kernel
theorem dL_law_1073 : decode cL_law 1073 = .ok (.idiv, 1) := by decide +kernel
theorem dL_law_1074 : decode cL_law 1074 = .ok (.iload 14, 2) := by decide +kernel
theorem dL_law_1076 : decode cL_law 1076 = .ok (.bipush 100, 2) := by decide +kernel
theorem dL_law_1078 : decode cL_law 1078 = .ok (.idiv, 1) := by decide +kernel
theorem dL_law_1079 : decode cL_law 1079 = .ok (.bipush 10, 2) := by decide +kernel
theorem dL_law_1081 : decode cL_law 1081 = .ok (.irem, 1) := by decide +kernel
theorem dL_law_1082 : decode cL_law 1082 = .ok (.invokevirtual 33, 3) := by decide +kernel
theorem dL_law_1085 : decode cL_law 1085 = .ok (.ifCond .ne 40, 3) := by decide +kernel
theorem dL_law_1088 : decode cL_law 1088 = .ok (.aload_n 1, 1) := by decide +kernel
theorem dL_law_1089 : decode cL_law 1089 = .ok (.iconst 0, 1) := by decide +kernel
theorem dL_law_1090 : decode cL_law 1090 = .ok (.iconst 1, 1) := by decide +kernel
theorem dL_law_1091 : decode cL_law 1091 = .ok (.iload 14, 2) := by decide +kernel
theorem dL_law_1093 : decode cL_law 1093 = .ok (.bipush 10, 2) := by decide +kernel
theorem dL_law_1095 : decode cL_law 1095 = .ok (.idiv, 1) := by decide +kernel
theorem dL_law_1096 : decode cL_law 1096 = .ok (.bipush 10, 2) := by decide +kernel
theorem dL_law_1098 : decode cL_law 1098 = .ok (.irem, 1) := by decide +kernel
theorem dL_law_1099 : decode cL_law 1099 = .ok (.iload 14, 2) := by decide +kernel
theorem dL_law_1101 : decode cL_law 1101 = .ok (.bipush 10, 2) := by decide +kernel
theorem dL_law_1103 : decode cL_law 1103 = .ok (.irem, 1) := by decide +kernel
theorem dL_law_1104 : decode cL_law 1104 = .ok (.invokevirtual 41, 3) := by decide +kernel
theorem dL_law_1107 : decode cL_law 1107 = .ok (.iload 12, 2) := by decide +kernel
theorem dL_law_1109 : decode cL_law 1109 = .ok (.iinc 12 1, 3) := by decide +kernel
theorem dL_law_1112 : decode cL_law 1112 = .ok (.if_icmp .ne 13, 3) := by decide +kernel
theorem dL_law_1115 : decode cL_law 1115 = .ok (.aload_n 1, 1) := by decide +kernel
theorem dL_law_1116 : decode cL_law 1116 = .ok (.iconst 1, 1) := by decide +kernel
theorem dL_law_1117 : decode cL_law 1117 = .ok (.invokevirtual 79, 3) := by decide +kernel
theorem dL_law_1120 : decode cL_law 1120 = .ok (.iload 11, 2) := by decide +kernel
theorem dL_law_1122 : decode cL_law 1122 = .ok (.if_icmp .le 5, 3) := by decide +kernel
theorem dL_law_1125 : decode cL_law 1125 = .ok (.iconst 0, 1) := by decide +kernel
theorem dL_law_1126 : decode cL_law 1126 = .ok (.ireturn, 1) := by decide +kernel
theorem dL_law_1127 : decode cL_law 1127 = .ok (.iload 14, 2) := by decide +kernel
theorem dL_law_1129 : decode cL_law 1129 = .ok (.aload_n 2, 1) := by decide +kernel
theorem dL_law_1130 : decode cL_law 1130 = .ok (.iconst 3, 1) := by decide +kernel
theorem dL_law_1131 : decode cL_law 1131 = .ok (.iaload, 1) := by decide +kernel
theorem dL_law_1132 : decode cL_law 1132 = .ok (.invokestatic 29, 3) := by decide +kernel
theorem dL_law_1135 : decode cL_law 1135 = .ok (.aload_n 1, 1) := by decide +kernel
theorem dL_law_1136 : decode cL_law 1136 = .ok (.iload 12, 2) := by decide +kernel
theorem dL_law_1138 : decode cL_law 1138 = .ok (.iconst 1, 1) := by decide +kernel
theorem dL_law_1139 : decode cL_law 1139 = .ok (.isub, 1) := by decide +kernel
theorem dL_law_1140 : decode cL_law 1140 = .ok (.bipush 7, 2) := by decide +kernel
theorem dL_law_1142 : decode cL_law 1142 = .ok (.invokevirtual 54, 3) := by decide +kernel
theorem dL_law_1145 : decode cL_law 1145 = .ok (.iconst 1, 1) := by decide +kernel
theorem dL_law_1146 : decode cL_law 1146 = .ok (.if_icmp .ne 7, 3) := by decide +kernel
theorem dL_law_1149 : decode cL_law 1149 = .ok (.iconst 1, 1) := by decide +kernel
theorem dL_law_1150 : decode cL_law 1150 = .ok (.goto 4, 3) := by decide +kernel
theorem dL_law_1153 : decode cL_law 1153 = .ok (.iconst 0, 1) := by decide +kernel
theorem dL_law_1154 : decode cL_law 1154 = .ok (.if_icmp .eq 5, 3) := by decide +kernel
theorem dL_law_1157 : decode cL_law 1157 = .ok (.iconst 0, 1) := by decide +kernel
theorem dL_law_1158 : decode cL_law 1158 = .ok (.ireturn, 1) := by decide +kernel
theorem dL_law_1159 : decode cL_law 1159 = .ok (.aload_n 1, 1) := by decide +kernel
theorem dL_law_1160 : decode cL_law 1160 = .ok (.iconst 1, 1) := by decide +kernel
theorem dL_law_1161 : decode cL_law 1161 = .ok (.invokevirtual 79, 3) := by decide +kernel
theorem dL_law_1164 : decode cL_law 1164 = .ok (.istore 11, 2) := by decide +kernel
theorem dL_law_1166 : decode cL_law 1166 = .ok (.iinc 13 1, 3) := by decide +kernel
theorem dL_law_1169 : decode cL_law 1169 = .ok (.goto (-140), 3) := by decide +kernel
theorem dL_law_1172 : decode cL_law 1172 = .ok (.aload_n 2, 1) := by decide +kernel
theorem dL_law_1173 : decode cL_law 1173 = .ok (.iconst 1, 1) := by decide +kernel
theorem dL_law_1174 : decode cL_law 1174 = .ok (.iaload, 1) := by decide +kernel
theorem dL_law_1175 : decode cL_law 1175 = .ok (.ifCond .le 18, 3) := by decide +kernel
theorem dL_law_1178 : decode cL_law 1178 = .ok (.aload_n 1, 1) := by decide +kernel
theorem dL_law_1179 : decode cL_law 1179 = .ok (.iconst 0, 1) := by decide +kernel
theorem dL_law_1180 : decode cL_law 1180 = .ok (.iconst 1, 1) := by decide +kernel
theorem dL_law_1181 : decode cL_law 1181 = .ok (.iconst 0, 1) := by decide +kernel
theorem dL_law_1182 : decode cL_law 1182 = .ok (.iconst 0, 1) := by decide +kernel
theorem dL_law_1183 : decode cL_law 1183 = .ok (.invokevirtual 41, 3) := by decide +kernel
theorem dL_law_1186 : decode cL_law 1186 = .ok (.bipush (-2), 2) := by decide +kernel
theorem dL_law_1188 : decode cL_law 1188 = .ok (.if_icmp .eq 5, 3) := by decide +kernel
theorem dL_law_1191 : decode cL_law 1191 = .ok (.iconst 0, 1) := by decide +kernel
theorem dL_law_1192 : decode cL_law 1192 = .ok (.ireturn, 1) := by decide +kernel
theorem dL_law_1193 : decode cL_law 1193 = .ok (.aload_n 1, 1) := by decide +kernel
theorem dL_law_1194 : decode cL_law 1194 = .ok (.bipush 63, 2) := by decide +kernel
theorem dL_law_1196 : decode cL_law 1196 = .ok (.aload_n 2, 1) := by decide +kernel
theorem dL_law_1197 : decode cL_law 1197 = .ok (.iconst 3, 1) := by decide +kernel
theorem dL_law_1198 : decode cL_law 1198 = .ok (.iaload, 1) := by decide +kernel
theorem dL_law_1199 : decode cL_law 1199 = .ok (.isub, 1) := by decide +kernel
theorem dL_law_1200 : decode cL_law 1200 = .ok (.invokevirtual 17, 3) := by decide +kernel
theorem dL_law_1203 : decode cL_law 1203 = .ok (.pop, 1) := by decide +kernel
theorem dL_law_1204 : decode cL_law 1204 = .ok (.aload_n 2, 1) := by decide +kernel
theorem dL_law_1205 : decode cL_law 1205 = .ok (.iconst 0, 1) := by decide +kernel
theorem dL_law_1206 : decode cL_law 1206 = .ok (.iaload, 1) := by decide +kernel
theorem dL_law_1207 : decode cL_law 1207 = .ok (.bipush 6, 2) := by decide +kernel
theorem dL_law_1209 : decode cL_law 1209 = .ok (.if_icmp .ge 18, 3) := by decide +kernel
theorem dL_law_1212 : decode cL_law 1212 = .ok (.aload_n 1, 1) := by decide +kernel
theorem dL_law_1213 : decode cL_law 1213 = .ok (.iconst 1, 1) := by decide +kernel
theorem dL_law_1214 : decode cL_law 1214 = .ok (.iconst 0, 1) := by decide +kernel
theorem dL_law_1215 : decode cL_law 1215 = .ok (.iconst 0, 1) := by decide +kernel
theorem dL_law_1216 : decode cL_law 1216 = .ok (.invokevirtual 37, 3) := by decide +kernel
theorem dL_law_1219 : decode cL_law 1219 = .ok (.aload_n 2, 1) := by decide +kernel
theorem dL_law_1220 : decode cL_law 1220 = .ok (.iconst 0, 1) := by decide +kernel
theorem dL_law_1221 : decode cL_law 1221 = .ok (.iaload, 1) := by decide +kernel
theorem dL_law_1222 : decode cL_law 1222 = .ok (.if_icmp .eq 5, 3) := by decide +kernel
theorem dL_law_1225 : decode cL_law 1225 = .ok (.iconst 0, 1) := by decide +kernel
theorem dL_law_1226 : decode cL_law 1226 = .ok (.ireturn, 1) := by decide +kernel
theorem dL_law_1227 : decode cL_law 1227 = .ok (.aload_n 2, 1) := by decide +kernel
theorem dL_law_1228 : decode cL_law 1228 = .ok (.iconst 1, 1) := by decide +kernel
theorem dL_law_1229 : decode cL_law 1229 = .ok (.iaload, 1) := by decide +kernel
theorem dL_law_1230 : decode cL_law 1230 = .ok (.iconst 5, 1) := by decide +kernel
theorem dL_law_1231 : decode cL_law 1231 = .ok (.if_icmp .ge 17, 3) := by decide +kernel
theorem dL_law_1234 : decode cL_law 1234 = .ok (.aload_n 1, 1) := by decide +kernel
theorem dL_law_1235 : decode cL_law 1235 = .ok (.bipush 21, 2) := by decide +kernel
theorem dL_law_1237 : decode cL_law 1237 = .ok (.invokevirtual 23, 3) := by decide +kernel
theorem dL_law_1240 : decode cL_law 1240 = .ok (.aload_n 2, 1) := by decide +kernel
theorem dL_law_1241 : decode cL_law 1241 = .ok (.iconst 1, 1) := by decide +kernel
theorem dL_law_1242 : decode cL_law 1242 = .ok (.iaload, 1) := by decide +kernel
theorem dL_law_1243 : decode cL_law 1243 = .ok (.if_icmp .eq 5, 3) := by decide +kernel
theorem dL_law_1246 : decode cL_law 1246 = .ok (.iconst 0, 1) := by decide +kernel
theorem dL_law_1247 : decode cL_law 1247 = .ok (.ireturn, 1) := by decide +kernel
theorem dL_law_1248 : decode cL_law 1248 = .ok (.aload_n 1, 1) := by decide +kernel
theorem dL_law_1249 : decode cL_law 1249 = .ok (.invokevirtual 117, 3) := by decide +kernel
theorem dL_law_1252 : decode cL_law 1252 = .ok (.aload_n 2, 1) := by decide +kernel
theorem dL_law_1253 : decode cL_law 1253 = .ok (.iconst 2, 1) := by decide +kernel
theorem dL_law_1254 : decode cL_law 1254 = .ok (.iaload, 1) := by decide +kernel
theorem dL_law_1255 : decode cL_law 1255 = .ok (.if_icmp .ne 25, 3) := by decide +kernel
theorem dL_law_1258 : decode cL_law 1258 = .ok (.aload_n 1, 1) := by decide +kernel
theorem dL_law_1259 : decode cL_law 1259 = .ok (.invokestatic 127, 3) := by decide +kernel
theorem dL_law_1262 : decode cL_law 1262 = .ok (.lload_n 3, 1) := by decide +kernel
theorem dL_law_1263 : decode cL_law 1263 = .ok (.lcmp, 1) := by decide +kernel
theorem dL_law_1264 : decode cL_law 1264 = .ok (.ifCond .ne 16, 3) := by decide +kernel
theorem dL_law_1267 : decode cL_law 1267 = .ok (.aload_n 1, 1) := by decide +kernel
theorem dL_law_1268 : decode cL_law 1268 = .ok (.iconst 2, 1) := by decide +kernel
theorem dL_law_1269 : decode cL_law 1269 = .ok (.iconst 1, 1) := by decide +kernel
theorem dL_law_1270 : decode cL_law 1270 = .ok (.invokevirtual 154, 3) := by decide +kernel
theorem dL_law_1273 : decode cL_law 1273 = .ok (.ldc2_w 158, 3) := by decide +kernel
theorem dL_law_1276 : decode cL_law 1276 = .ok (.lcmp, 1) := by decide +kernel
theorem dL_law_1277 : decode cL_law 1277 = .ok (.ifCond .eq 5, 3) := by decide +kernel
theorem dL_law_1280 : decode cL_law 1280 = .ok (.iconst 0, 1) := by decide +kernel
theorem dL_law_1281 : decode cL_law 1281 = .ok (.ireturn, 1) := by decide +kernel
theorem dL_law_1282 : decode cL_law 1282 = .ok (.aload_n 1, 1) := by decide +kernel
theorem dL_law_1283 : decode cL_law 1283 = .ok (.invokevirtual 117, 3) := by decide +kernel
theorem dL_law_1286 : decode cL_law 1286 = .ok (.aload_n 2, 1) := by decide +kernel
theorem dL_law_1287 : decode cL_law 1287 = .ok (.iconst 2, 1) := by decide +kernel
theorem dL_law_1288 : decode cL_law 1288 = .ok (.iaload, 1) := by decide +kernel
theorem dL_law_1289 : decode cL_law 1289 = .ok (.if_icmp .ne 16, 3) := by decide +kernel
theorem dL_law_1292 : decode cL_law 1292 = .ok (.aload_n 1, 1) := by decide +kernel
theorem dL_law_1293 : decode cL_law 1293 = .ok (.invokestatic 127, 3) := by decide +kernel
theorem dL_law_1296 : decode cL_law 1296 = .ok (.lload_n 3, 1) := by decide +kernel
theorem dL_law_1297 : decode cL_law 1297 = .ok (.lcmp, 1) := by decide +kernel
theorem dL_law_1298 : decode cL_law 1298 = .ok (.ifCond .ne 7, 3) := by decide +kernel
theorem dL_law_1301 : decode cL_law 1301 = .ok (.iconst 1, 1) := by decide +kernel
theorem dL_law_1302 : decode cL_law 1302 = .ok (.goto 4, 3) := by decide +kernel
theorem dL_law_1305 : decode cL_law 1305 = .ok (.iconst 0, 1) := by decide +kernel
theorem dL_law_1306 : decode cL_law 1306 = .ok (.ireturn, 1) := by decide +kernel
