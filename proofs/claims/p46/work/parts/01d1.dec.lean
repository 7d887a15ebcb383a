theorem dX0_init_0 : decode cX0_init 0 = .ok (.aload_n 0, 1) := by decide +kernel
theorem dX0_init_1 : decode cX0_init 1 = .ok (.iload_n 1, 1) := by decide +kernel
theorem dX0_init_2 : decode cX0_init 2 = .ok (.invokespecial 1, 3) := by decide +kernel
theorem dX0_init_5 : decode cX0_init 5 = .ok (.return_, 1) := by decide +kernel
theorem dX0_trueWorlds_0 : decode cX0_trueWorlds 0 = .ok (.lload_n 1, 1) := by decide +kernel
theorem dX0_trueWorlds_1 : decode cX0_trueWorlds 1 = .ok (.lload_n 3, 1) := by decide +kernel
theorem dX0_trueWorlds_2 : decode cX0_trueWorlds 2 = .ok (.lxor, 1) := by decide +kernel
theorem dX0_trueWorlds_3 : decode cX0_trueWorlds 3 = .ok (.ldc2_w 7, 3) := by decide +kernel
theorem dX0_trueWorlds_6 : decode cX0_trueWorlds 6 = .ok (.lxor, 1) := by decide +kernel
theorem dX0_trueWorlds_7 : decode cX0_trueWorlds 7 = .ok (.lreturn, 1) := by decide +kernel
theorem dX0_words_0 : decode cX0_words 0 = .ok (.aload_n 0, 1) := by decide +kernel
theorem dX0_words_1 : decode cX0_words 1 = .ok (.iload_n 1, 1) := by decide +kernel
theorem dX0_words_2 : decode cX0_words 2 = .ok (.invokespecial 9, 3) := by decide +kernel
theorem dX0_words_5 : decode cX0_words 5 = .ok (.iconst 3, 1) := by decide +kernel
theorem dX0_words_6 : decode cX0_words 6 = .ok (.iadd, 1) := by decide +kernel
theorem dX0_words_7 : decode cX0_words 7 = .ok (.ireturn, 1) := by decide +kernel
theorem dX1_init_0 : decode cX1_init 0 = .ok (.aload_n 0, 1) := by decide +kernel
theorem dX1_init_1 : decode cX1_init 1 = .ok (.iload_n 1, 1) := by decide +kernel
theorem dX1_init_2 : decode cX1_init 2 = .ok (.invokespecial 1, 3) := by decide +kernel
theorem dX1_init_5 : decode cX1_init 5 = .ok (.return_, 1) := by decide +kernel
theorem dX1_trueWorlds_0 : decode cX1_trueWorlds 0 = .ok (.lload_n 1, 1) := by decide +kernel
theorem dX1_trueWorlds_1 : decode cX1_trueWorlds 1 = .ok (.lload_n 3, 1) := by decide +kernel
theorem dX1_trueWorlds_2 : decode cX1_trueWorlds 2 = .ok (.land, 1) := by decide +kernel
theorem dX1_trueWorlds_3 : decode cX1_trueWorlds 3 = .ok (.lreturn, 1) := by decide +kernel
theorem dX1_words_0 : decode cX1_words 0 = .ok (.aload_n 0, 1) := by decide +kernel
theorem dX1_words_1 : decode cX1_words 1 = .ok (.iload_n 1, 1) := by decide +kernel
theorem dX1_words_2 : decode cX1_words 2 = .ok (.invokespecial 7, 3) := by decide +kernel
theorem dX1_words_5 : decode cX1_words 5 = .ok (.iconst 2, 1) := by decide +kernel
theorem dX1_words_6 : decode cX1_words 6 = .ok (.iadd, 1) := by decide +kernel
theorem dX1_words_7 : decode cX1_words 7 = .ok (.ireturn, 1) := by decide +kernel
theorem dX1_facts_0 : decode cX1_facts 0 = .ok (.aload_n 0, 1) := by decide +kernel
theorem dX1_facts_1 : decode cX1_facts 1 = .ok (.iload_n 1, 1) := by decide +kernel
theorem dX1_facts_2 : decode cX1_facts 2 = .ok (.iload_n 2, 1) := by decide +kernel
theorem dX1_facts_3 : decode cX1_facts 3 = .ok (.iload_n 3, 1) := by decide +kernel
theorem dX1_facts_4 : decode cX1_facts 4 = .ok (.invokespecial 11, 3) := by decide +kernel
theorem dX1_facts_7 : decode cX1_facts 7 = .ok (.iload_n 3, 1) := by decide +kernel
theorem dX1_facts_8 : decode cX1_facts 8 = .ok (.invokestatic 15, 3) := by decide +kernel
theorem dX1_facts_11 : decode cX1_facts 11 = .ok (.ior, 1) := by decide +kernel
theorem dX1_facts_12 : decode cX1_facts 12 = .ok (.ireturn, 1) := by decide +kernel
theorem dX2_init_0 : decode cX2_init 0 = .ok (.aload_n 0, 1) := by decide +kernel
theorem dX2_init_1 : decode cX2_init 1 = .ok (.iload_n 1, 1) := by decide +kernel
theorem dX2_init_2 : decode cX2_init 2 = .ok (.invokespecial 1, 3) := by decide +kernel
theorem dX2_init_5 : decode cX2_init 5 = .ok (.return_, 1) := by decide +kernel
theorem dX2_trueWorlds_0 : decode cX2_trueWorlds 0 = .ok (.lload_n 1, 1) := by decide +kernel
theorem dX2_trueWorlds_1 : decode cX2_trueWorlds 1 = .ok (.ldc2_w 7, 3) := by decide +kernel
theorem dX2_trueWorlds_4 : decode cX2_trueWorlds 4 = .ok (.lxor, 1) := by decide +kernel
theorem dX2_trueWorlds_5 : decode cX2_trueWorlds 5 = .ok (.lreturn, 1) := by decide +kernel
theorem dX2_words_0 : decode cX2_words 0 = .ok (.aload_n 0, 1) := by decide +kernel
theorem dX2_words_1 : decode cX2_words 1 = .ok (.iload_n 1, 1) := by decide +kernel
theorem dX2_words_2 : decode cX2_words 2 = .ok (.invokespecial 9, 3) := by decide +kernel
theorem dX2_words_5 : decode cX2_words 5 = .ok (.iconst 1, 1) := by decide +kernel
theorem dX2_words_6 : decode cX2_words 6 = .ok (.iadd, 1) := by decide +kernel
theorem dX2_words_7 : decode cX2_words 7 = .ok (.ireturn, 1) := by decide +kernel
theorem dX3_init_0 : decode cX3_init 0 = .ok (.aload_n 0, 1) := by decide +kernel
theorem dX3_init_1 : decode cX3_init 1 = .ok (.iload_n 1, 1) := by decide +kernel
theorem dX3_init_2 : decode cX3_init 2 = .ok (.invokespecial 1, 3) := by decide +kernel
theorem dX3_init_5 : decode cX3_init 5 = .ok (.return_, 1) := by decide +kernel
theorem dX3_trueWorlds_0 : decode cX3_trueWorlds 0 = .ok (.lload_n 1, 1) := by decide +kernel
theorem dX3_trueWorlds_1 : decode cX3_trueWorlds 1 = .ok (.lload_n 3, 1) := by decide +kernel
theorem dX3_trueWorlds_2 : decode cX3_trueWorlds 2 = .ok (.lor, 1) := by decide +kernel
theorem dX3_trueWorlds_3 : decode cX3_trueWorlds 3 = .ok (.lreturn, 1) := by decide +kernel
theorem dX3_words_0 : decode cX3_words 0 = .ok (.aload_n 0, 1) := by decide +kernel
theorem dX3_words_1 : decode cX3_words 1 = .ok (.iload_n 1, 1) := by decide +kernel
theorem dX3_words_2 : decode cX3_words 2 = .ok (.invokespecial 7, 3) := by decide +kernel
theorem dX3_words_5 : decode cX3_words 5 = .ok (.iconst 1, 1) := by decide +kernel
theorem dX3_words_6 : decode cX3_words 6 = .ok (.iadd, 1) := by decide +kernel
theorem dX3_words_7 : decode cX3_words 7 = .ok (.ireturn, 1) := by decide +kernel
theorem dX4_init_0 : decode cX4_init 0 = .ok (.aload_n 0, 1) := by decide +kernel
theorem dX4_init_1 : decode cX4_init 1 = .ok (.iload_n 1, 1) := by decide +kernel
theorem dX4_init_2 : decode cX4_init 2 = .ok (.invokespecial 1, 3) := by decide +kernel
theorem dX4_init_5 : decode cX4_init 5 = .ok (.return_, 1) := by decide +kernel
theorem dX4_trueWorlds_0 : decode cX4_trueWorlds 0 = .ok (.lconst 0, 1) := by decide +kernel
theorem dX4_trueWorlds_1 : decode cX4_trueWorlds 1 = .ok (.lreturn, 1) := by decide +kernel
theorem dX4_words_0 : decode cX4_words 0 = .ok (.aload_n 0, 1) := by decide +kernel
theorem dX4_words_1 : decode cX4_words 1 = .ok (.iload_n 1, 1) := by decide +kernel
theorem dX4_words_2 : decode cX4_words 2 = .ok (.invokespecial 7, 3) := by decide +kernel
theorem dX4_words_5 : decode cX4_words 5 = .ok (.iload_n 1, 1) := by decide +kernel
theorem dX4_words_6 : decode cX4_words 6 = .ok (.iadd, 1) := by decide +kernel
theorem dX4_words_7 : decode cX4_words 7 = .ok (.ireturn, 1) := by decide +kernel
theorem dX5_init_0 : decode cX5_init 0 = .ok (.aload_n 0, 1) := by decide +kernel
theorem dX5_init_1 : decode cX5_init 1 = .ok (.iload_n 1, 1) := by decide +kernel
theorem dX5_init_2 : decode cX5_init 2 = .ok (.invokespecial 1, 3) := by decide +kernel
theorem dX5_init_5 : decode cX5_init 5 = .ok (.return_, 1) := by decide +kernel
theorem dX5_trueWorlds_0 : decode cX5_trueWorlds 0 = .ok (.lload_n 1, 1) := by decide +kernel
theorem dX5_trueWorlds_1 : decode cX5_trueWorlds 1 = .ok (.ldc2_w 7, 3) := by decide +kernel
theorem dX5_trueWorlds_4 : decode cX5_trueWorlds 4 = .ok (.lxor, 1) := by decide +kernel
theorem dX5_trueWorlds_5 : decode cX5_trueWorlds 5 = .ok (.lload_n 3, 1) := by decide +kernel
theorem dX5_trueWorlds_6 : decode cX5_trueWorlds 6 = .ok (.lor, 1) := by decide +kernel
theorem dX5_trueWorlds_7 : decode cX5_trueWorlds 7 = .ok (.lreturn, 1) := by decide +kernel
theorem dX5_words_0 : decode cX5_words 0 = .ok (.iconst 2, 1) := by decide +kernel
theorem dX5_words_1 : decode cX5_words 1 = .ok (.aload_n 0, 1) := by decide +kernel
theorem dX5_words_2 : decode cX5_words 2 = .ok (.iload_n 1, 1) := by decide +kernel
theorem dX5_words_3 : decode cX5_words 3 = .ok (.invokespecial 9, 3) := by decide +kernel
theorem dX5_words_6 : decode cX5_words 6 = .ok (.imul, 1) := by decide +kernel
theorem dX5_words_7 : decode cX5_words 7 = .ok (.ireturn, 1) := by decide +kernel
theorem dX6_init_0 : decode cX6_init 0 = .ok (.aload_n 0, 1) := by decide +kernel
theorem dX6_init_1 : decode cX6_init 1 = .ok (.iload_n 1, 1) := by decide +kernel
theorem dX6_init_2 : decode cX6_init 2 = .ok (.invokespecial 3, 3) := by decide +kernel
theorem dX6_init_5 : decode cX6_init 5 = .ok (.return_, 1) := by decide +kernel
theorem dX6_trueWorlds_0 : decode cX6_trueWorlds 0 = .ok (.lload_n 1, 1) := by decide +kernel
theorem dX6_trueWorlds_1 : decode cX6_trueWorlds 1 = .ok (.lload_n 3, 1) := by decide +kernel
theorem dX6_trueWorlds_2 : decode cX6_trueWorlds 2 = .ok (.lor, 1) := by decide +kernel
theorem dX6_trueWorlds_3 : decode cX6_trueWorlds 3 = .ok (.lload 5, 2) := by decide +kernel
theorem dX6_trueWorlds_5 : decode cX6_trueWorlds 5 = .ok (.lor, 1) := by decide +kernel
theorem dX6_trueWorlds_6 : decode cX6_trueWorlds 6 = .ok (.lreturn, 1) := by decide +kernel
theorem dX6_words_0 : decode cX6_words 0 = .ok (.aload_n 0, 1) := by decide +kernel
theorem dX6_words_1 : decode cX6_words 1 = .ok (.iload_n 1, 1) := by decide +kernel
theorem dX6_words_2 : decode cX6_words 2 = .ok (.invokespecial 9, 3) := by decide +kernel
theorem dX6_words_5 : decode cX6_words 5 = .ok (.iload_n 1, 1) := by decide +kernel
theorem dX6_words_6 : decode cX6_words 6 = .ok (.iadd, 1) := by decide +kernel
theorem dX6_words_7 : decode cX6_words 7 = .ok (.ireturn, 1) := by decide +kernel
theorem dX6_facts_0 : decode cX6_facts 0 = .ok (.aload_n 0, 1) := by decide +kernel
theorem dX6_facts_1 : decode cX6_facts 1 = .ok (.iload_n 1, 1) := by decide +kernel
theorem dX6_facts_2 : decode cX6_facts 2 = .ok (.iload_n 2, 1) := by decide +kernel
theorem dX6_facts_3 : decode cX6_facts 3 = .ok (.iload_n 3, 1) := by decide +kernel
theorem dX6_facts_4 : decode cX6_facts 4 = .ok (.invokespecial 13, 3) := by decide +kernel
theorem dX6_facts_7 : decode cX6_facts 7 = .ok (.iload_n 1, 1) := by decide +kernel
theorem dX6_facts_8 : decode cX6_facts 8 = .ok (.bipush 6, 2) := by decide +kernel
theorem dX6_facts_10 : decode cX6_facts 10 = .ok (.irem, 1) := by decide +kernel
theorem dX6_facts_11 : decode cX6_facts 11 = .ok (.invokestatic 17, 3) := by decide +kernel
theorem dX6_facts_14 : decode cX6_facts 14 = .ok (.ior, 1) := by decide +kernel
theorem dX6_facts_15 : decode cX6_facts 15 = .ok (.ireturn, 1) := by decide +kernel
theorem dX7_init_0 : decode cX7_init 0 = .ok (.aload_n 0, 1) := by decide +kernel
theorem dX7_init_1 : decode cX7_init 1 = .ok (.invokespecial 1, 3) := by decide +kernel
theorem dX7_init_4 : decode cX7_init 4 = .ok (.aload_n 0, 1) := by decide +kernel
theorem dX7_init_5 : decode cX7_init 5 = .ok (.iload_n 1, 1) := by decide +kernel
theorem dX7_init_6 : decode cX7_init 6 = .ok (.putfield 7, 3) := by decide +kernel
theorem dX7_init_9 : decode cX7_init 9 = .ok (.aload_n 0, 1) := by decide +kernel
theorem dX7_init_10 : decode cX7_init 10 = .ok (.aload_n 2, 1) := by decide +kernel
theorem dX7_init_11 : decode cX7_init 11 = .ok (.putfield 13, 3) := by decide +kernel
theorem dX7_init_14 : decode cX7_init 14 = .ok (.aload_n 0, 1) := by decide +kernel
theorem dX7_init_15 : decode cX7_init 15 = .ok (.iload_n 3, 1) := by decide +kernel
theorem dX7_init_16 : decode cX7_init 16 = .ok (.putfield 17, 3) := by decide +kernel
theorem dX7_init_19 : decode cX7_init 19 = .ok (.aload_n 0, 1) := by decide +kernel
theorem dX7_init_20 : decode cX7_init 20 = .ok (.iload 4, 2) := by decide +kernel
theorem dX7_init_22 : decode cX7_init 22 = .ok (.putfield 20, 3) := by decide +kernel
theorem dX7_init_25 : decode cX7_init 25 = .ok (.aload_n 0, 1) := by decide +kernel
theorem dX7_init_26 : decode cX7_init 26 = .ok (.iload 5, 2) := by decide +kernel
theorem dX7_init_28 : decode cX7_init 28 = .ok (.putfield 23, 3) := by decide +kernel
theorem dX7_init_31 : decode cX7_init 31 = .ok (.aload_n 0, 1) := by decide +kernel
theorem dX7_init_32 : decode cX7_init 32 = .ok (.lload 6, 2) := by decide +kernel
theorem dX7_init_34 : decode cX7_init 34 = .ok (.putfield 26, 3) := by decide +kernel
theorem dX7_init_37 : decode cX7_init 37 = .ok (.return_, 1) := by decide +kernel
theorem dX7_told_0 : decode cX7_told 0 = .ok (.iload_n 1, 1) := by decide +kernel
theorem dX7_told_1 : decode cX7_told 1 = .ok (.tableswitch 63 0 4 #[35, 43, 48, 53, 58], 35) := by decide +kernel
theorem dX7_told_36 : decode cX7_told 36 = .ok (.aload_n 0, 1) := by decide +kernel
theorem dX7_told_37 : decode cX7_told 37 = .ok (.getfield 13, 3) := by decide +kernel
theorem dX7_told_40 : decode cX7_told 40 = .ok (.getfield 30, 3) := by decide +kernel
theorem dX7_told_43 : decode cX7_told 43 = .ok (.ireturn, 1) := by decide +kernel
theorem dX7_told_44 : decode cX7_told 44 = .ok (.aload_n 0, 1) := by decide +kernel
theorem dX7_told_45 : decode cX7_told 45 = .ok (.getfield 17, 3) := by decide +kernel
theorem dX7_told_48 : decode cX7_told 48 = .ok (.ireturn, 1) := by decide +kernel
theorem dX7_told_49 : decode cX7_told 49 = .ok (.aload_n 0, 1) := by decide +kernel
theorem dX7_told_50 : decode cX7_told 50 = .ok (.getfield 20, 3) := by decide +kernel
theorem dX7_told_53 : decode cX7_told 53 = .ok (.ireturn, 1) := by decide +kernel
theorem dX7_told_54 : decode cX7_told 54 = .ok (.aload_n 0, 1) := by decide +kernel
theorem dX7_told_55 : decode cX7_told 55 = .ok (.getfield 23, 3) := by decide +kernel
theorem dX7_told_58 : decode cX7_told 58 = .ok (.ireturn, 1) := by decide +kernel
theorem dX7_told_59 : decode cX7_told 59 = .ok (.aload_n 0, 1) := by decide +kernel
theorem dX7_told_60 : decode cX7_told 60 = .ok (.invokevirtual 35, 3) := by decide +kernel
theorem dX7_told_63 : decode cX7_told 63 = .ok (.ireturn, 1) := by decide +kernel
theorem dX7_told_64 : decode cX7_told 64 = .ok (.aload_n 0, 1) := by decide +kernel
theorem dX7_told_65 : decode cX7_told 65 = .ok (.invokevirtual 39, 3) := by decide +kernel
theorem dX7_told_68 : decode cX7_told 68 = .ok (.ireturn, 1) := by decide +kernel
theorem dX7_words_0 : decode cX7_words 0 = .ok (.aload_n 0, 1) := by decide +kernel
theorem dX7_words_1 : decode cX7_words 1 = .ok (.getfield 13, 3) := by decide +kernel
theorem dX7_words_4 : decode cX7_words 4 = .ok (.aload_n 0, 1) := by decide +kernel
theorem dX7_words_5 : decode cX7_words 5 = .ok (.getfield 17, 3) := by decide +kernel
theorem dX7_words_8 : decode cX7_words 8 = .ok (.invokevirtual 42, 3) := by decide +kernel
theorem dX7_words_11 : decode cX7_words 11 = .ok (.ireturn, 1) := by decide +kernel
theorem dX7_facts_0 : decode cX7_facts 0 = .ok (.aload_n 0, 1) := by decide +kernel
theorem dX7_facts_1 : decode cX7_facts 1 = .ok (.getfield 13, 3) := by decide +kernel
theorem dX7_facts_4 : decode cX7_facts 4 = .ok (.aload_n 0, 1) := by decide +kernel
theorem dX7_facts_5 : decode cX7_facts 5 = .ok (.getfield 17, 3) := by decide +kernel
theorem dX7_facts_8 : decode cX7_facts 8 = .ok (.aload_n 0, 1) := by decide +kernel
theorem dX7_facts_9 : decode cX7_facts 9 = .ok (.getfield 20, 3) := by decide +kernel
theorem dX7_facts_12 : decode cX7_facts 12 = .ok (.aload_n 0, 1) := by decide +kernel
theorem dX7_facts_13 : decode cX7_facts 13 = .ok (.getfield 23, 3) := by decide +kernel
theorem dX7_facts_16 : decode cX7_facts 16 = .ok (.invokevirtual 45, 3) := by decide +kernel
theorem dX7_facts_19 : decode cX7_facts 19 = .ok (.ireturn, 1) := by decide +kernel
theorem dX8_init_0 : decode cX8_init 0 = .ok (.aload_n 0, 1) := by decide +kernel
theorem dX8_init_1 : decode cX8_init 1 = .ok (.invokespecial 3, 3) := by decide +kernel
theorem dX8_init_4 : decode cX8_init 4 = .ok (.aload_n 0, 1) := by decide +kernel
theorem dX8_init_5 : decode cX8_init 5 = .ok (.iload_n 1, 1) := by decide +kernel
theorem dX8_init_6 : decode cX8_init 6 = .ok (.putfield 9, 3) := by decide +kernel
theorem dX8_init_9 : decode cX8_init 9 = .ok (.return_, 1) := by decide +kernel
theorem dX8_worldsOf_0 : decode cX8_worldsOf 0 = .ok (.aload_n 0, 1) := by decide +kernel
theorem dX8_worldsOf_1 : decode cX8_worldsOf 1 = .ok (.iload_n 2, 1) := by decide +kernel
theorem dX8_worldsOf_2 : decode cX8_worldsOf 2 = .ok (.invokestatic 15, 3) := by decide +kernel
theorem dX8_worldsOf_5 : decode cX8_worldsOf 5 = .ok (.iload_n 3, 1) := by decide +kernel
theorem dX8_worldsOf_6 : decode cX8_worldsOf 6 = .ok (.invokestatic 15, 3) := by decide +kernel
theorem dX8_worldsOf_9 : decode cX8_worldsOf 9 = .ok (.iload_n 1, 1) := by decide +kernel
theorem dX8_worldsOf_10 : decode cX8_worldsOf 10 = .ok (.bipush 6, 2) := by decide +kernel
theorem dX8_worldsOf_12 : decode cX8_worldsOf 12 = .ok (.irem, 1) := by decide +kernel
theorem dX8_worldsOf_13 : decode cX8_worldsOf 13 = .ok (.invokestatic 15, 3) := by decide +kernel
theorem dX8_worldsOf_16 : decode cX8_worldsOf 16 = .ok (.invokevirtual 19, 3) := by decide +kernel
theorem dX8_worldsOf_19 : decode cX8_worldsOf 19 = .ok (.lreturn, 1) := by decide +kernel
theorem dX8_trueWorlds_0 : decode cX8_trueWorlds 0 = .ok (.lload_n 1, 1) := by decide +kernel
theorem dX8_trueWorlds_1 : decode cX8_trueWorlds 1 = .ok (.lreturn, 1) := by decide +kernel
theorem dX8_words_0 : decode cX8_words 0 = .ok (.iconst 3, 1) := by decide +kernel
theorem dX8_words_1 : decode cX8_words 1 = .ok (.ireturn, 1) := by decide +kernel
theorem dX8_facts_0 : decode cX8_facts 0 = .ok (.iload_n 2, 1) := by decide +kernel
theorem dX8_facts_1 : decode cX8_facts 1 = .ok (.invokestatic 23, 3) := by decide +kernel
theorem dX8_facts_4 : decode cX8_facts 4 = .ok (.ireturn, 1) := by decide +kernel
theorem dX9_init_0 : decode cX9_init 0 = .ok (.aload_n 0, 1) := by decide +kernel
theorem dX9_init_1 : decode cX9_init 1 = .ok (.invokespecial 3, 3) := by decide +kernel
theorem dX9_init_4 : decode cX9_init 4 = .ok (.aload_n 0, 1) := by decide +kernel
theorem dX9_init_5 : decode cX9_init 5 = .ok (.bipush 100, 2) := by decide +kernel
theorem dX9_init_7 : decode cX9_init 7 = .ok (.newarray .int, 2) := by decide +kernel
theorem dX9_init_9 : decode cX9_init 9 = .ok (.putfield 9, 3) := by decide +kernel
theorem dX9_init_12 : decode cX9_init 12 = .ok (.aload_n 0, 1) := by decide +kernel
theorem dX9_init_13 : decode cX9_init 13 = .ok (.aload_n 1, 1) := by decide +kernel
theorem dX9_init_14 : decode cX9_init 14 = .ok (.putfield 15, 3) := by decide +kernel
theorem dX9_init_17 : decode cX9_init 17 = .ok (.return_, 1) := by decide +kernel
theorem dX9_holdNothing_0 : decode cX9_holdNothing 0 = .ok (.aload_n 0, 1) := by decide +kernel
theorem dX9_holdNothing_1 : decode cX9_holdNothing 1 = .ok (.iconst 0, 1) := by decide +kernel
theorem dX9_holdNothing_2 : decode cX9_holdNothing 2 = .ok (.putfield 19, 3) := by decide +kernel
theorem dX9_holdNothing_5 : decode cX9_holdNothing 5 = .ok (.return_, 1) := by decide +kernel
theorem dX9_holdSaying_0 : decode cX9_holdSaying 0 = .ok (.aload_n 0, 1) := by decide +kernel
theorem dX9_holdSaying_1 : decode cX9_holdSaying 1 = .ok (.iconst 1, 1) := by decide +kernel
theorem dX9_holdSaying_2 : decode cX9_holdSaying 2 = .ok (.putfield 19, 3) := by decide +kernel
theorem dX9_holdSaying_5 : decode cX9_holdSaying 5 = .ok (.aload_n 0, 1) := by decide +kernel
theorem dX9_holdSaying_6 : decode cX9_holdSaying 6 = .ok (.aload_n 1, 1) := by decide +kernel
theorem dX9_holdSaying_7 : decode cX9_holdSaying 7 = .ok (.putfield 15, 3) := by decide +kernel
theorem dX9_holdSaying_10 : decode cX9_holdSaying 10 = .ok (.aload_n 0, 1) := by decide +kernel
theorem dX9_holdSaying_11 : decode cX9_holdSaying 11 = .ok (.iload_n 2, 1) := by decide +kernel
theorem dX9_holdSaying_12 : decode cX9_holdSaying 12 = .ok (.putfield 23, 3) := by decide +kernel
theorem dX9_holdSaying_15 : decode cX9_holdSaying 15 = .ok (.return_, 1) := by decide +kernel
theorem dX9_holdRow_0 : decode cX9_holdRow 0 = .ok (.aload_n 0, 1) := by decide +kernel
theorem dX9_holdRow_1 : decode cX9_holdRow 1 = .ok (.iconst 2, 1) := by decide +kernel
theorem dX9_holdRow_2 : decode cX9_holdRow 2 = .ok (.putfield 19, 3) := by decide +kernel
theorem dX9_holdRow_5 : decode cX9_holdRow 5 = .ok (.aload_n 0, 1) := by decide +kernel
theorem dX9_holdRow_6 : decode cX9_holdRow 6 = .ok (.iload_n 1, 1) := by decide +kernel
theorem dX9_holdRow_7 : decode cX9_holdRow 7 = .ok (.putfield 26, 3) := by decide +kernel
theorem dX9_holdRow_10 : decode cX9_holdRow 10 = .ok (.aload_n 0, 1) := by decide +kernel
theorem dX9_holdRow_11 : decode cX9_holdRow 11 = .ok (.iload_n 2, 1) := by decide +kernel
theorem dX9_holdRow_12 : decode cX9_holdRow 12 = .ok (.putfield 29, 3) := by decide +kernel
theorem dX9_holdRow_15 : decode cX9_holdRow 15 = .ok (.iconst 0, 1) := by decide +kernel
theorem dX9_holdRow_16 : decode cX9_holdRow 16 = .ok (.istore_n 3, 1) := by decide +kernel
theorem dX9_holdRow_17 : decode cX9_holdRow 17 = .ok (.iload_n 3, 1) := by decide +kernel
theorem dX9_holdRow_18 : decode cX9_holdRow 18 = .ok (.aload_n 0, 1) := by decide +kernel
theorem dX9_holdRow_19 : decode cX9_holdRow 19 = .ok (.getfield 9, 3) := by decide +kernel
theorem dX9_holdRow_22 : decode cX9_holdRow 22 = .ok (.arraylength, 1) := by decide +kernel
theorem dX9_holdRow_23 : decode cX9_holdRow 23 = .ok (.if_icmp .ge 16, 3) := by decide +kernel
theorem dX9_holdRow_26 : decode cX9_holdRow 26 = .ok (.aload_n 0, 1) := by decide +kernel
theorem dX9_holdRow_27 : decode cX9_holdRow 27 = .ok (.getfield 9, 3) := by decide +kernel
theorem dX9_holdRow_30 : decode cX9_holdRow 30 = .ok (.iload_n 3, 1) := by decide +kernel
theorem dX9_holdRow_31 : decode cX9_holdRow 31 = .ok (.iconst 0, 1) := by decide +kernel
theorem dX9_holdRow_32 : decode cX9_holdRow 32 = .ok (.iastore, 1) := by decide +kernel
theorem dX9_holdRow_33 : decode cX9_holdRow 33 = .ok (.iinc 3 1, 3) := by decide +kernel
theorem dX9_holdRow_36 : decode cX9_holdRow 36 = .ok (.goto (-19), 3) := by decide +kernel
theorem dX9_holdRow_39 : decode cX9_holdRow 39 = .ok (.return_, 1) := by decide +kernel
theorem dX9_isEmpty_0 : decode cX9_isEmpty 0 = .ok (.aload_n 0, 1) := by decide +kernel
theorem dX9_isEmpty_1 : decode cX9_isEmpty 1 = .ok (.getfield 19, 3) := by decide +kernel
theorem dX9_isEmpty_4 : decode cX9_isEmpty 4 = .ok (.ifCond .ne 7, 3) := by decide +kernel
theorem dX9_isEmpty_7 : decode cX9_isEmpty 7 = .ok (.iconst 1, 1) := by decide +kernel
theorem dX9_isEmpty_8 : decode cX9_isEmpty 8 = .ok (.goto 4, 3) := by decide +kernel
theorem dX9_isEmpty_11 : decode cX9_isEmpty 11 = .ok (.iconst 0, 1) := by decide +kernel
theorem dX9_isEmpty_12 : decode cX9_isEmpty 12 = .ok (.ireturn, 1) := by decide +kernel
theorem dX9_refusalAsSaying_0 : decode cX9_refusalAsSaying 0 = .ok (.aload_n 0, 1) := by decide +kernel
theorem dX9_refusalAsSaying_1 : decode cX9_refusalAsSaying 1 = .ok (.iconst 1, 1) := by decide +kernel
theorem dX9_refusalAsSaying_2 : decode cX9_refusalAsSaying 2 = .ok (.invokevirtual 32, 3) := by decide +kernel
theorem dX9_refusalAsSaying_5 : decode cX9_refusalAsSaying 5 = .ok (.ireturn, 1) := by decide +kernel
theorem dX9_refusalAsRow_0 : decode cX9_refusalAsRow 0 = .ok (.aload_n 0, 1) := by decide +kernel
theorem dX9_refusalAsRow_1 : decode cX9_refusalAsRow 1 = .ok (.iconst 2, 1) := by decide +kernel
theorem dX9_refusalAsRow_2 : decode cX9_refusalAsRow 2 = .ok (.invokevirtual 32, 3) := by decide +kernel
theorem dX9_refusalAsRow_5 : decode cX9_refusalAsRow 5 = .ok (.ireturn, 1) := by decide +kernel
theorem dX9_refusalUnless_0 : decode cX9_refusalUnless 0 = .ok (.aload_n 0, 1) := by decide +kernel
theorem dX9_refusalUnless_1 : decode cX9_refusalUnless 1 = .ok (.getfield 19, 3) := by decide +kernel
theorem dX9_refusalUnless_4 : decode cX9_refusalUnless 4 = .ok (.iload_n 1, 1) := by decide +kernel
theorem dX9_refusalUnless_5 : decode cX9_refusalUnless 5 = .ok (.if_icmp .ne 5, 3) := by decide +kernel
theorem dX9_refusalUnless_8 : decode cX9_refusalUnless 8 = .ok (.iconst 0, 1) := by decide +kernel
theorem dX9_refusalUnless_9 : decode cX9_refusalUnless 9 = .ok (.ireturn, 1) := by decide +kernel
theorem dX9_refusalUnless_10 : decode cX9_refusalUnless 10 = .ok (.aload_n 0, 1) := by decide +kernel
theorem dX9_refusalUnless_11 : decode cX9_refusalUnless 11 = .ok (.invokevirtual 36, 3) := by decide +kernel
theorem dX9_refusalUnless_14 : decode cX9_refusalUnless 14 = .ok (.ifCond .eq 8, 3) := by decide +kernel
theorem dX9_refusalUnless_17 : decode cX9_refusalUnless 17 = .ok (.bipush (-11), 2) := by decide +kernel
theorem dX9_refusalUnless_19 : decode cX9_refusalUnless 19 = .ok (.goto 5, 3) := by decide +kernel
theorem dX9_refusalUnless_22 : decode cX9_refusalUnless 22 = .ok (.bipush (-12), 2) := by decide +kernel
theorem dX9_refusalUnless_24 : decode cX9_refusalUnless 24 = .ok (.ireturn, 1) := by decide +kernel
theorem dX9_worldsOf_0 : decode cX9_worldsOf 0 = .ok (.aload_n 0, 1) := by decide +kernel
theorem dX9_worldsOf_1 : decode cX9_worldsOf 1 = .ok (.getfield 15, 3) := by decide +kernel
theorem dX9_worldsOf_4 : decode cX9_worldsOf 4 = .ok (.aload_n 0, 1) := by decide +kernel
theorem dX9_worldsOf_5 : decode cX9_worldsOf 5 = .ok (.getfield 23, 3) := by decide +kernel
theorem dX9_worldsOf_8 : decode cX9_worldsOf 8 = .ok (.iload_n 1, 1) := by decide +kernel
theorem dX9_worldsOf_9 : decode cX9_worldsOf 9 = .ok (.iload_n 2, 1) := by decide +kernel
theorem dX9_worldsOf_10 : decode cX9_worldsOf 10 = .ok (.invokevirtual 40, 3) := by decide +kernel
theorem dX9_worldsOf_13 : decode cX9_worldsOf 13 = .ok (.lreturn, 1) := by decide +kernel
theorem dX9_hasPlaces_0 : decode cX9_hasPlaces 0 = .ok (.iload_n 1, 1) := by decide +kernel
theorem dX9_hasPlaces_1 : decode cX9_hasPlaces 1 = .ok (.ifCond .lt 41, 3) := by decide +kernel
theorem dX9_hasPlaces_4 : decode cX9_hasPlaces 4 = .ok (.iload_n 2, 1) := by decide +kernel
theorem dX9_hasPlaces_5 : decode cX9_hasPlaces 5 = .ok (.ifCond .lt 37, 3) := by decide +kernel
theorem dX9_hasPlaces_8 : decode cX9_hasPlaces 8 = .ok (.iload_n 2, 1) := by decide +kernel
theorem dX9_hasPlaces_9 : decode cX9_hasPlaces 9 = .ok (.aload_n 0, 1) := by decide +kernel
theorem dX9_hasPlaces_10 : decode cX9_hasPlaces 10 = .ok (.getfield 29, 3) := by decide +kernel
theorem dX9_hasPlaces_13 : decode cX9_hasPlaces 13 = .ok (.if_icmp .gt 29, 3) := by decide +kernel
theorem dX9_hasPlaces_16 : decode cX9_hasPlaces 16 = .ok (.iload_n 1, 1) := by decide +kernel
theorem dX9_hasPlaces_17 : decode cX9_hasPlaces 17 = .ok (.aload_n 0, 1) := by decide +kernel
theorem dX9_hasPlaces_18 : decode cX9_hasPlaces 18 = .ok (.getfield 29, 3) := by decide +kernel
theorem dX9_hasPlaces_21 : decode cX9_hasPlaces 21 = .ok (.iload_n 2, 1) := by decide +kernel
theorem dX9_hasPlaces_22 : decode cX9_hasPlaces 22 = .ok (.isub, 1) := by decide +kernel
theorem dX9_hasPlaces_23 : decode cX9_hasPlaces 23 = .ok (.if_icmp .gt 19, 3) := by decide +kernel
theorem dX9_hasPlaces_26 : decode cX9_hasPlaces 26 = .ok (.aload_n 0, 1) := by decide +kernel
theorem dX9_hasPlaces_27 : decode cX9_hasPlaces 27 = .ok (.getfield 29, 3) := by decide +kernel
theorem dX9_hasPlaces_30 : decode cX9_hasPlaces 30 = .ok (.aload_n 0, 1) := by decide +kernel
theorem dX9_hasPlaces_31 : decode cX9_hasPlaces 31 = .ok (.getfield 9, 3) := by decide +kernel
theorem dX9_hasPlaces_34 : decode cX9_hasPlaces 34 = .ok (.arraylength, 1) := by decide +kernel
theorem dX9_hasPlaces_35 : decode cX9_hasPlaces 35 = .ok (.if_icmp .gt 7, 3) := by decide +kernel
theorem dX9_hasPlaces_38 : decode cX9_hasPlaces 38 = .ok (.iconst 1, 1) := by decide +kernel
theorem dX9_hasPlaces_39 : decode cX9_hasPlaces 39 = .ok (.goto 4, 3) := by decide +kernel
theorem dX9_hasPlaces_42 : decode cX9_hasPlaces 42 = .ok (.iconst 0, 1) := by decide +kernel
theorem dX9_hasPlaces_43 : decode cX9_hasPlaces 43 = .ok (.ireturn, 1) := by decide +kernel
theorem dX9_numberAt_0 : decode cX9_numberAt 0 = .ok (.aload_n 0, 1) := by decide +kernel
theorem dX9_numberAt_1 : decode cX9_numberAt 1 = .ok (.iload_n 1, 1) := by decide +kernel
theorem dX9_numberAt_2 : decode cX9_numberAt 2 = .ok (.iconst 1, 1) := by decide +kernel
theorem dX9_numberAt_3 : decode cX9_numberAt 3 = .ok (.invokevirtual 46, 3) := by decide +kernel
theorem dX9_numberAt_6 : decode cX9_numberAt 6 = .ok (.ifCond .eq 12, 3) := by decide +kernel
theorem dX9_numberAt_9 : decode cX9_numberAt 9 = .ok (.aload_n 0, 1) := by decide +kernel
theorem dX9_numberAt_10 : decode cX9_numberAt 10 = .ok (.getfield 9, 3) := by decide +kernel
theorem dX9_numberAt_13 : decode cX9_numberAt 13 = .ok (.iload_n 1, 1) := by decide +kernel
theorem dX9_numberAt_14 : decode cX9_numberAt 14 = .ok (.iaload, 1) := by decide +kernel
theorem dX9_numberAt_15 : decode cX9_numberAt 15 = .ok (.goto 4, 3) := by decide +kernel
theorem dX9_numberAt_18 : decode cX9_numberAt 18 = .ok (.iconst 0, 1) := by decide +kernel
theorem dX9_numberAt_19 : decode cX9_numberAt 19 = .ok (.ireturn, 1) := by decide +kernel
theorem dX9_setNumber_0 : decode cX9_setNumber 0 = .ok (.aload_n 0, 1) := by decide +kernel
theorem dX9_setNumber_1 : decode cX9_setNumber 1 = .ok (.iload_n 1, 1) := by decide +kernel
theorem dX9_setNumber_2 : decode cX9_setNumber 2 = .ok (.iconst 1, 1) := by decide +kernel
theorem dX9_setNumber_3 : decode cX9_setNumber 3 = .ok (.invokevirtual 46, 3) := by decide +kernel
theorem dX9_setNumber_6 : decode cX9_setNumber 6 = .ok (.ifCond .ne 5, 3) := by decide +kernel
theorem dX9_setNumber_9 : decode cX9_setNumber 9 = .ok (.iconst 0, 1) := by decide +kernel
theorem dX9_setNumber_10 : decode cX9_setNumber 10 = .ok (.ireturn, 1) := by decide +kernel
theorem dX9_setNumber_11 : decode cX9_setNumber 11 = .ok (.aload_n 0, 1) := by decide +kernel
theorem dX9_setNumber_12 : decode cX9_setNumber 12 = .ok (.getfield 9, 3) := by decide +kernel
theorem dX9_setNumber_15 : decode cX9_setNumber 15 = .ok (.iload_n 1, 1) := by decide +kernel
theorem dX9_setNumber_16 : decode cX9_setNumber 16 = .ok (.aload_n 0, 1) := by decide +kernel
theorem dX9_setNumber_17 : decode cX9_setNumber 17 = .ok (.iload_n 2, 1) := by decide +kernel
theorem dX9_setNumber_18 : decode cX9_setNumber 18 = .ok (.invokevirtual 50, 3) := by decide +kernel
theorem dX9_setNumber_21 : decode cX9_setNumber 21 = .ok (.iastore, 1) := by decide +kernel
theorem dX9_setNumber_22 : decode cX9_setNumber 22 = .ok (.iconst 1, 1) := by decide +kernel
theorem dX9_setNumber_23 : decode cX9_setNumber 23 = .ok (.ireturn, 1) := by decide +kernel
theorem dX9_lowestBits_0 : decode cX9_lowestBits 0 = .ok (.aload_n 0, 1) := by decide +kernel
theorem dX9_lowestBits_1 : decode cX9_lowestBits 1 = .ok (.getfield 26, 3) := by decide +kernel
theorem dX9_lowestBits_4 : decode cX9_lowestBits 4 = .ok (.ifCond .ne 6, 3) := by decide +kernel
theorem dX9_lowestBits_7 : decode cX9_lowestBits 7 = .ok (.iload_n 1, 1) := by decide +kernel
theorem dX9_lowestBits_8 : decode cX9_lowestBits 8 = .ok (.i2b, 1) := by decide +kernel
theorem dX9_lowestBits_9 : decode cX9_lowestBits 9 = .ok (.ireturn, 1) := by decide +kernel
theorem dX9_lowestBits_10 : decode cX9_lowestBits 10 = .ok (.aload_n 0, 1) := by decide +kernel
theorem dX9_lowestBits_11 : decode cX9_lowestBits 11 = .ok (.getfield 26, 3) := by decide +kernel
theorem dX9_lowestBits_14 : decode cX9_lowestBits 14 = .ok (.iconst 1, 1) := by decide +kernel
theorem dX9_lowestBits_15 : decode cX9_lowestBits 15 = .ok (.if_icmp .ne 8, 3) := by decide +kernel
theorem dX9_lowestBits_18 : decode cX9_lowestBits 18 = .ok (.iload_n 1, 1) := by decide +kernel
theorem dX9_lowestBits_19 : decode cX9_lowestBits 19 = .ok (.i2s, 1) := by decide +kernel
theorem dX9_lowestBits_20 : decode cX9_lowestBits 20 = .ok (.goto 4, 3) := by decide +kernel
theorem dX9_lowestBits_23 : decode cX9_lowestBits 23 = .ok (.iload_n 1, 1) := by decide +kernel
theorem dX9_lowestBits_24 : decode cX9_lowestBits 24 = .ok (.ireturn, 1) := by decide +kernel
theorem dX10_init_0 : decode cX10_init 0 = .ok (.aload_n 0, 1) := by decide +kernel
theorem dX10_init_1 : decode cX10_init 1 = .ok (.invokespecial 3, 3) := by decide +kernel
theorem dX10_init_4 : decode cX10_init 4 = .ok (.aload_n 0, 1) := by decide +kernel
theorem dX10_init_5 : decode cX10_init 5 = .ok (.new 9, 3) := by decide +kernel
theorem dX10_init_8 : decode cX10_init 8 = .ok (.dup, 1) := by decide +kernel
theorem dX10_init_9 : decode cX10_init 9 = .ok (.invokespecial 11, 3) := by decide +kernel
theorem dX10_init_12 : decode cX10_init 12 = .ok (.putfield 12, 3) := by decide +kernel
theorem dX10_init_15 : decode cX10_init 15 = .ok (.aload_n 0, 1) := by decide +kernel
theorem dX10_init_16 : decode cX10_init 16 = .ok (.new 9, 3) := by decide +kernel
theorem dX10_init_19 : decode cX10_init 19 = .ok (.dup, 1) := by decide +kernel
theorem dX10_init_20 : decode cX10_init 20 = .ok (.invokespecial 11, 3) := by decide +kernel
theorem dX10_init_23 : decode cX10_init 23 = .ok (.putfield 18, 3) := by decide +kernel
theorem dX10_init_26 : decode cX10_init 26 = .ok (.aload_n 0, 1) := by decide +kernel
theorem dX10_init_27 : decode cX10_init 27 = .ok (.iconst 5, 1) := by decide +kernel
theorem dX10_init_28 : decode cX10_init 28 = .ok (.newarray .int, 2) := by decide +kernel
theorem dX10_init_30 : decode cX10_init 30 = .ok (.putfield 21, 3) := by decide +kernel
theorem dX10_init_33 : decode cX10_init 33 = .ok (.return_, 1) := by decide +kernel
theorem dX10_becomes_0 : decode cX10_becomes 0 = .ok (.aload_n 0, 1) := by decide +kernel
theorem dX10_becomes_1 : decode cX10_becomes 1 = .ok (.getfield 12, 3) := by decide +kernel
theorem dX10_becomes_4 : decode cX10_becomes 4 = .ok (.aload_n 1, 1) := by decide +kernel
theorem dX10_becomes_5 : decode cX10_becomes 5 = .ok (.getfield 12, 3) := by decide +kernel
theorem dX10_becomes_8 : decode cX10_becomes 8 = .ok (.invokestatic 25, 3) := by decide +kernel
theorem dX10_becomes_11 : decode cX10_becomes 11 = .ok (.aload_n 0, 1) := by decide +kernel
theorem dX10_becomes_12 : decode cX10_becomes 12 = .ok (.getfield 18, 3) := by decide +kernel
theorem dX10_becomes_15 : decode cX10_becomes 15 = .ok (.aload_n 1, 1) := by decide +kernel
theorem dX10_becomes_16 : decode cX10_becomes 16 = .ok (.getfield 18, 3) := by decide +kernel
theorem dX10_becomes_19 : decode cX10_becomes 19 = .ok (.invokestatic 25, 3) := by decide +kernel
theorem dX10_becomes_22 : decode cX10_becomes 22 = .ok (.iconst 0, 1) := by decide +kernel
theorem dX10_becomes_23 : decode cX10_becomes 23 = .ok (.istore_n 2, 1) := by decide +kernel
theorem dX10_becomes_24 : decode cX10_becomes 24 = .ok (.iload_n 2, 1) := by decide +kernel
theorem dX10_becomes_25 : decode cX10_becomes 25 = .ok (.aload_n 0, 1) := by decide +kernel
theorem dX10_becomes_26 : decode cX10_becomes 26 = .ok (.getfield 21, 3) := by decide +kernel
theorem dX10_becomes_29 : decode cX10_becomes 29 = .ok (.arraylength, 1) := by decide +kernel
theorem dX10_becomes_30 : decode cX10_becomes 30 = .ok (.if_icmp .ge 20, 3) := by decide +kernel
theorem dX10_becomes_33 : decode cX10_becomes 33 = .ok (.aload_n 0, 1) := by decide +kernel
theorem dX10_becomes_34 : decode cX10_becomes 34 = .ok (.getfield 21, 3) := by decide +kernel
theorem dX10_becomes_37 : decode cX10_becomes 37 = .ok (.iload_n 2, 1) := by decide +kernel
theorem dX10_becomes_38 : decode cX10_becomes 38 = .ok (.aload_n 1, 1) := by decide +kernel
theorem dX10_becomes_39 : decode cX10_becomes 39 = .ok (.iload_n 2, 1) := by decide +kernel
theorem dX10_becomes_40 : decode cX10_becomes 40 = .ok (.invokevirtual 29, 3) := by decide +kernel
theorem dX10_becomes_43 : decode cX10_becomes 43 = .ok (.iastore, 1) := by decide +kernel
theorem dX10_becomes_44 : decode cX10_becomes 44 = .ok (.iinc 2 1, 3) := by decide +kernel
theorem dX10_becomes_47 : decode cX10_becomes 47 = .ok (.goto (-23), 3) := by decide +kernel
theorem dX10_becomes_50 : decode cX10_becomes 50 = .ok (.aload_n 0, 1) := by decide +kernel
theorem dX10_becomes_51 : decode cX10_becomes 51 = .ok (.aload_n 1, 1) := by decide +kernel
theorem dX10_becomes_52 : decode cX10_becomes 52 = .ok (.getfield 33, 3) := by decide +kernel
theorem dX10_becomes_55 : decode cX10_becomes 55 = .ok (.putfield 33, 3) := by decide +kernel
theorem dX10_becomes_58 : decode cX10_becomes 58 = .ok (.aload_n 0, 1) := by decide +kernel
theorem dX10_becomes_59 : decode cX10_becomes 59 = .ok (.aload_n 1, 1) := by decide +kernel
theorem dX10_becomes_60 : decode cX10_becomes 60 = .ok (.getfield 37, 3) := by decide +kernel
theorem dX10_becomes_63 : decode cX10_becomes 63 = .ok (.putfield 37, 3) := by decide +kernel
theorem dX10_becomes_66 : decode cX10_becomes 66 = .ok (.return_, 1) := by decide +kernel
theorem dX10_refill_0 : decode cX10_refill 0 = .ok (.aload_n 0, 1) := by decide +kernel
theorem dX10_refill_1 : decode cX10_refill 1 = .ok (.invokevirtual 40, 3) := by decide +kernel
theorem dX10_refill_4 : decode cX10_refill 4 = .ok (.iconst 0, 1) := by decide +kernel
theorem dX10_refill_5 : decode cX10_refill 5 = .ok (.istore_n 2, 1) := by decide +kernel
theorem dX10_refill_6 : decode cX10_refill 6 = .ok (.iload_n 2, 1) := by decide +kernel
theorem dX10_refill_7 : decode cX10_refill 7 = .ok (.aload_n 1, 1) := by decide +kernel
theorem dX10_refill_8 : decode cX10_refill 8 = .ok (.invokevirtual 43, 3) := by decide +kernel
theorem dX10_refill_11 : decode cX10_refill 11 = .ok (.if_icmp .ge 22, 3) := by decide +kernel
theorem dX10_refill_14 : decode cX10_refill 14 = .ok (.aload_n 0, 1) := by decide +kernel
theorem dX10_refill_15 : decode cX10_refill 15 = .ok (.aload_n 1, 1) := by decide +kernel
theorem dX10_refill_16 : decode cX10_refill 16 = .ok (.iload_n 2, 1) := by decide +kernel
theorem dX10_refill_17 : decode cX10_refill 17 = .ok (.invokevirtual 47, 3) := by decide +kernel
theorem dX10_refill_20 : decode cX10_refill 20 = .ok (.checkcast 51, 3) := by decide +kernel
theorem dX10_refill_23 : decode cX10_refill 23 = .ok (.invokevirtual 53, 3) := by decide +kernel
theorem dX10_refill_26 : decode cX10_refill 26 = .ok (.pop, 1) := by decide +kernel
theorem dX10_refill_27 : decode cX10_refill 27 = .ok (.iinc 2 1, 3) := by decide +kernel
theorem dX10_refill_30 : decode cX10_refill 30 = .ok (.goto (-24), 3) := by decide +kernel
theorem dX10_refill_33 : decode cX10_refill 33 = .ok (.return_, 1) := by decide +kernel
theorem dX10_hasWitness_0 : decode cX10_hasWitness 0 = .ok (.iload_n 1, 1) := by decide +kernel
theorem dX10_hasWitness_1 : decode cX10_hasWitness 1 = .ok (.ifCond .lt 15, 3) := by decide +kernel
theorem dX10_hasWitness_4 : decode cX10_hasWitness 4 = .ok (.iload_n 1, 1) := by decide +kernel
theorem dX10_hasWitness_5 : decode cX10_hasWitness 5 = .ok (.aload_n 0, 1) := by decide +kernel
theorem dX10_hasWitness_6 : decode cX10_hasWitness 6 = .ok (.getfield 33, 3) := by decide +kernel
theorem dX10_hasWitness_9 : decode cX10_hasWitness 9 = .ok (.if_icmp .ge 7, 3) := by decide +kernel
theorem dX10_hasWitness_12 : decode cX10_hasWitness 12 = .ok (.iconst 1, 1) := by decide +kernel
theorem dX10_hasWitness_13 : decode cX10_hasWitness 13 = .ok (.goto 4, 3) := by decide +kernel
theorem dX10_hasWitness_16 : decode cX10_hasWitness 16 = .ok (.iconst 0, 1) := by decide +kernel
theorem dX10_hasWitness_17 : decode cX10_hasWitness 17 = .ok (.ireturn, 1) := by decide +kernel
theorem dX10_knownBy_0 : decode cX10_knownBy 0 = .ok (.iload_n 1, 1) := by decide +kernel
theorem dX10_knownBy_1 : decode cX10_knownBy 1 = .ok (.ifCond .lt 21, 3) := by decide +kernel
theorem dX10_knownBy_4 : decode cX10_knownBy 4 = .ok (.iload_n 1, 1) := by decide +kernel
theorem dX10_knownBy_5 : decode cX10_knownBy 5 = .ok (.aload_n 0, 1) := by decide +kernel
theorem dX10_knownBy_6 : decode cX10_knownBy 6 = .ok (.getfield 21, 3) := by decide +kernel
theorem dX10_knownBy_9 : decode cX10_knownBy 9 = .ok (.arraylength, 1) := by decide +kernel
theorem dX10_knownBy_10 : decode cX10_knownBy 10 = .ok (.if_icmp .ge 12, 3) := by decide +kernel
theorem dX10_knownBy_13 : decode cX10_knownBy 13 = .ok (.aload_n 0, 1) := by decide +kernel
theorem dX10_knownBy_14 : decode cX10_knownBy 14 = .ok (.getfield 21, 3) := by decide +kernel
theorem dX10_knownBy_17 : decode cX10_knownBy 17 = .ok (.iload_n 1, 1) := by decide +kernel
theorem dX10_knownBy_18 : decode cX10_knownBy 18 = .ok (.iaload, 1) := by decide +kernel
theorem dX10_knownBy_19 : decode cX10_knownBy 19 = .ok (.goto 4, 3) := by decide +kernel
theorem dX10_knownBy_22 : decode cX10_knownBy 22 = .ok (.iconst 0, 1) := by decide +kernel
theorem dX10_knownBy_23 : decode cX10_knownBy 23 = .ok (.ireturn, 1) := by decide +kernel
theorem dX10_addLaw_0 : decode cX10_addLaw 0 = .ok (.aload_n 1, 1) := by decide +kernel
theorem dX10_addLaw_1 : decode cX10_addLaw 1 = .ok (.ifnull 15, 3) := by decide +kernel
theorem dX10_addLaw_4 : decode cX10_addLaw 4 = .ok (.aload_n 0, 1) := by decide +kernel
theorem dX10_addLaw_5 : decode cX10_addLaw 5 = .ok (.getfield 12, 3) := by decide +kernel
theorem dX10_addLaw_8 : decode cX10_addLaw 8 = .ok (.invokevirtual 43, 3) := by decide +kernel
theorem dX10_addLaw_11 : decode cX10_addLaw 11 = .ok (.bipush 6, 2) := by decide +kernel
theorem dX10_addLaw_13 : decode cX10_addLaw 13 = .ok (.if_icmp .lt 5, 3) := by decide +kernel
theorem dX10_addLaw_16 : decode cX10_addLaw 16 = .ok (.iconst 0, 1) := by decide +kernel
theorem dX10_addLaw_17 : decode cX10_addLaw 17 = .ok (.ireturn, 1) := by decide +kernel
theorem dX10_addLaw_18 : decode cX10_addLaw 18 = .ok (.aload_n 0, 1) := by decide +kernel
theorem dX10_addLaw_19 : decode cX10_addLaw 19 = .ok (.getfield 12, 3) := by decide +kernel
theorem dX10_addLaw_22 : decode cX10_addLaw 22 = .ok (.aload_n 1, 1) := by decide +kernel
theorem dX10_addLaw_23 : decode cX10_addLaw 23 = .ok (.invokevirtual 53, 3) := by decide +kernel
theorem dX10_addLaw_26 : decode cX10_addLaw 26 = .ok (.pop, 1) := by decide +kernel
theorem dX10_addLaw_27 : decode cX10_addLaw 27 = .ok (.iconst 1, 1) := by decide +kernel
theorem dX10_addLaw_28 : decode cX10_addLaw 28 = .ok (.ireturn, 1) := by decide +kernel
theorem dX10_addSaid_0 : decode cX10_addSaid 0 = .ok (.aload_n 1, 1) := by decide +kernel
theorem dX10_addSaid_1 : decode cX10_addSaid 1 = .ok (.ifnull 26, 3) := by decide +kernel
theorem dX10_addSaid_4 : decode cX10_addSaid 4 = .ok (.aload_n 0, 1) := by decide +kernel
theorem dX10_addSaid_5 : decode cX10_addSaid 5 = .ok (.aload_n 1, 1) := by decide +kernel
theorem dX10_addSaid_6 : decode cX10_addSaid 6 = .ok (.getfield 57, 3) := by decide +kernel
theorem dX10_addSaid_9 : decode cX10_addSaid 9 = .ok (.invokevirtual 60, 3) := by decide +kernel
theorem dX10_addSaid_12 : decode cX10_addSaid 12 = .ok (.ifCond .eq 15, 3) := by decide +kernel
theorem dX10_addSaid_15 : decode cX10_addSaid 15 = .ok (.aload_n 0, 1) := by decide +kernel
theorem dX10_addSaid_16 : decode cX10_addSaid 16 = .ok (.getfield 18, 3) := by decide +kernel
theorem dX10_addSaid_19 : decode cX10_addSaid 19 = .ok (.invokevirtual 43, 3) := by decide +kernel
theorem dX10_addSaid_22 : decode cX10_addSaid 22 = .ok (.bipush 10, 2) := by decide +kernel
theorem dX10_addSaid_24 : decode cX10_addSaid 24 = .ok (.if_icmp .lt 5, 3) := by decide +kernel
theorem dX10_addSaid_27 : decode cX10_addSaid 27 = .ok (.iconst 0, 1) := by decide +kernel
theorem dX10_addSaid_28 : decode cX10_addSaid 28 = .ok (.ireturn, 1) := by decide +kernel
theorem dX10_addSaid_29 : decode cX10_addSaid 29 = .ok (.aload_n 0, 1) := by decide +kernel
theorem dX10_addSaid_30 : decode cX10_addSaid 30 = .ok (.getfield 18, 3) := by decide +kernel
theorem dX10_addSaid_33 : decode cX10_addSaid 33 = .ok (.aload_n 1, 1) := by decide +kernel
theorem dX10_addSaid_34 : decode cX10_addSaid 34 = .ok (.invokevirtual 53, 3) := by decide +kernel
theorem dX10_addSaid_37 : decode cX10_addSaid 37 = .ok (.pop, 1) := by decide +kernel
theorem dX10_addSaid_38 : decode cX10_addSaid 38 = .ok (.iconst 1, 1) := by decide +kernel
theorem dX10_addSaid_39 : decode cX10_addSaid 39 = .ok (.ireturn, 1) := by decide +kernel
theorem dX10_addWitness_0 : decode cX10_addWitness 0 = .ok (.iload_n 1, 1) := by decide +kernel
theorem dX10_addWitness_1 : decode cX10_addWitness 1 = .ok (.invokestatic 64, 3) := by decide +kernel
theorem dX10_addWitness_4 : decode cX10_addWitness 4 = .ok (.ifCond .eq 22, 3) := by decide +kernel
theorem dX10_addWitness_7 : decode cX10_addWitness 7 = .ok (.aload_n 0, 1) := by decide +kernel
theorem dX10_addWitness_8 : decode cX10_addWitness 8 = .ok (.getfield 33, 3) := by decide +kernel
theorem dX10_addWitness_11 : decode cX10_addWitness 11 = .ok (.ifCond .lt 15, 3) := by decide +kernel
theorem dX10_addWitness_14 : decode cX10_addWitness 14 = .ok (.aload_n 0, 1) := by decide +kernel
theorem dX10_addWitness_15 : decode cX10_addWitness 15 = .ok (.getfield 33, 3) := by decide +kernel
theorem dX10_addWitness_18 : decode cX10_addWitness 18 = .ok (.aload_n 0, 1) := by decide +kernel
theorem dX10_addWitness_19 : decode cX10_addWitness 19 = .ok (.getfield 21, 3) := by decide +kernel
theorem dX10_addWitness_22 : decode cX10_addWitness 22 = .ok (.arraylength, 1) := by decide +kernel
theorem dX10_addWitness_23 : decode cX10_addWitness 23 = .ok (.if_icmp .lt 5, 3) := by decide +kernel
theorem dX10_addWitness_26 : decode cX10_addWitness 26 = .ok (.iconst 0, 1) := by decide +kernel
theorem dX10_addWitness_27 : decode cX10_addWitness 27 = .ok (.ireturn, 1) := by decide +kernel
theorem dX10_addWitness_28 : decode cX10_addWitness 28 = .ok (.aload_n 0, 1) := by decide +kernel
theorem dX10_addWitness_29 : decode cX10_addWitness 29 = .ok (.getfield 21, 3) := by decide +kernel
theorem dX10_addWitness_32 : decode cX10_addWitness 32 = .ok (.aload_n 0, 1) := by decide +kernel
theorem dX10_addWitness_33 : decode cX10_addWitness 33 = .ok (.getfield 33, 3) := by decide +kernel
theorem dX10_addWitness_36 : decode cX10_addWitness 36 = .ok (.iload_n 1, 1) := by decide +kernel
theorem dX10_addWitness_37 : decode cX10_addWitness 37 = .ok (.iastore, 1) := by decide +kernel
theorem dX10_addWitness_38 : decode cX10_addWitness 38 = .ok (.aload_n 0, 1) := by decide +kernel
theorem dX10_addWitness_39 : decode cX10_addWitness 39 = .ok (.dup, 1) := by decide +kernel
theorem dX10_addWitness_40 : decode cX10_addWitness 40 = .ok (.getfield 33, 3) := by decide +kernel
theorem dX10_addWitness_43 : decode cX10_addWitness 43 = .ok (.iconst 1, 1) := by decide +kernel
theorem dX10_addWitness_44 : decode cX10_addWitness 44 = .ok (.iadd, 1) := by decide +kernel
theorem dX10_addWitness_45 : decode cX10_addWitness 45 = .ok (.putfield 33, 3) := by decide +kernel
theorem dX10_addWitness_48 : decode cX10_addWitness 48 = .ok (.iconst 1, 1) := by decide +kernel
theorem dX10_addWitness_49 : decode cX10_addWitness 49 = .ok (.ireturn, 1) := by decide +kernel
theorem dX10_setTruth_0 : decode cX10_setTruth 0 = .ok (.iload_n 1, 1) := by decide +kernel
theorem dX10_setTruth_1 : decode cX10_setTruth 1 = .ok (.invokestatic 67, 3) := by decide +kernel
theorem dX10_setTruth_4 : decode cX10_setTruth 4 = .ok (.ifCond .ne 5, 3) := by decide +kernel
theorem dX10_setTruth_7 : decode cX10_setTruth 7 = .ok (.iconst 0, 1) := by decide +kernel
theorem dX10_setTruth_8 : decode cX10_setTruth 8 = .ok (.ireturn, 1) := by decide +kernel
theorem dX10_setTruth_9 : decode cX10_setTruth 9 = .ok (.aload_n 0, 1) := by decide +kernel
theorem dX10_setTruth_10 : decode cX10_setTruth 10 = .ok (.iload_n 1, 1) := by decide +kernel
theorem dX10_setTruth_11 : decode cX10_setTruth 11 = .ok (.putfield 37, 3) := by decide +kernel
theorem dX10_setTruth_14 : decode cX10_setTruth 14 = .ok (.iconst 1, 1) := by decide +kernel
theorem dX10_setTruth_15 : decode cX10_setTruth 15 = .ok (.ireturn, 1) := by decide +kernel
theorem dX10_mayBe_0 : decode cX10_mayBe 0 = .ok (.ldc2_w 70, 3) := by decide +kernel
theorem dX10_mayBe_3 : decode cX10_mayBe 3 = .ok (.lstore_n 1, 1) := by decide +kernel
theorem dX10_mayBe_4 : decode cX10_mayBe 4 = .ok (.iconst 0, 1) := by decide +kernel
theorem dX10_mayBe_5 : decode cX10_mayBe 5 = .ok (.istore_n 3, 1) := by decide +kernel
theorem dX10_mayBe_6 : decode cX10_mayBe 6 = .ok (.iload_n 3, 1) := by decide +kernel
theorem dX10_mayBe_7 : decode cX10_mayBe 7 = .ok (.aload_n 0, 1) := by decide +kernel
theorem dX10_mayBe_8 : decode cX10_mayBe 8 = .ok (.getfield 12, 3) := by decide +kernel
theorem dX10_mayBe_11 : decode cX10_mayBe 11 = .ok (.invokevirtual 43, 3) := by decide +kernel
theorem dX10_mayBe_14 : decode cX10_mayBe 14 = .ok (.if_icmp .ge 26, 3) := by decide +kernel
theorem dX10_mayBe_17 : decode cX10_mayBe 17 = .ok (.lload_n 1, 1) := by decide +kernel
theorem dX10_mayBe_18 : decode cX10_mayBe 18 = .ok (.aload_n 0, 1) := by decide +kernel
theorem dX10_mayBe_19 : decode cX10_mayBe 19 = .ok (.getfield 12, 3) := by decide +kernel
theorem dX10_mayBe_22 : decode cX10_mayBe 22 = .ok (.iload_n 3, 1) := by decide +kernel
theorem dX10_mayBe_23 : decode cX10_mayBe 23 = .ok (.invokevirtual 47, 3) := by decide +kernel
theorem dX10_mayBe_26 : decode cX10_mayBe 26 = .ok (.checkcast 51, 3) := by decide +kernel
theorem dX10_mayBe_29 : decode cX10_mayBe 29 = .ok (.getfield 72, 3) := by decide +kernel
theorem dX10_mayBe_32 : decode cX10_mayBe 32 = .ok (.land, 1) := by decide +kernel
theorem dX10_mayBe_33 : decode cX10_mayBe 33 = .ok (.lstore_n 1, 1) := by decide +kernel
theorem dX10_mayBe_34 : decode cX10_mayBe 34 = .ok (.iinc 3 1, 3) := by decide +kernel
theorem dX10_mayBe_37 : decode cX10_mayBe 37 = .ok (.goto (-31), 3) := by decide +kernel
theorem dX10_mayBe_40 : decode cX10_mayBe 40 = .ok (.lload_n 1, 1) := by decide +kernel
theorem dX10_mayBe_41 : decode cX10_mayBe 41 = .ok (.lreturn, 1) := by decide +kernel
theorem dX10_left_0 : decode cX10_left 0 = .ok (.aload_n 0, 1) := by decide +kernel
theorem dX10_left_1 : decode cX10_left 1 = .ok (.aload_n 0, 1) := by decide +kernel
theorem dX10_left_2 : decode cX10_left 2 = .ok (.invokevirtual 76, 3) := by decide +kernel
theorem dX10_left_5 : decode cX10_left 5 = .ok (.iconst (-1), 1) := by decide +kernel
theorem dX10_left_6 : decode cX10_left 6 = .ok (.invokevirtual 80, 3) := by decide +kernel
theorem dX10_left_9 : decode cX10_left 9 = .ok (.lreturn, 1) := by decide +kernel
theorem dX10_mayBeOrLeft_0 : decode cX10_mayBeOrLeft 0 = .ok (.iload_n 1, 1) := by decide +kernel
theorem dX10_mayBeOrLeft_1 : decode cX10_mayBeOrLeft 1 = .ok (.ifCond .ne 10, 3) := by decide +kernel
theorem dX10_mayBeOrLeft_4 : decode cX10_mayBeOrLeft 4 = .ok (.aload_n 0, 1) := by decide +kernel
theorem dX10_mayBeOrLeft_5 : decode cX10_mayBeOrLeft 5 = .ok (.invokevirtual 76, 3) := by decide +kernel
theorem dX10_mayBeOrLeft_8 : decode cX10_mayBeOrLeft 8 = .ok (.goto 7, 3) := by decide +kernel
theorem dX10_mayBeOrLeft_11 : decode cX10_mayBeOrLeft 11 = .ok (.aload_n 0, 1) := by decide +kernel
theorem dX10_mayBeOrLeft_12 : decode cX10_mayBeOrLeft 12 = .ok (.invokevirtual 84, 3) := by decide +kernel
theorem dX10_mayBeOrLeft_15 : decode cX10_mayBeOrLeft 15 = .ok (.lreturn, 1) := by decide +kernel
theorem dX10_leftBySaid_0 : decode cX10_leftBySaid 0 = .ok (.lload_n 1, 1) := by decide +kernel
theorem dX10_leftBySaid_1 : decode cX10_leftBySaid 1 = .ok (.lstore 4, 2) := by decide +kernel
theorem dX10_leftBySaid_3 : decode cX10_leftBySaid 3 = .ok (.iconst 0, 1) := by decide +kernel
theorem dX10_leftBySaid_4 : decode cX10_leftBySaid 4 = .ok (.istore 6, 2) := by decide +kernel
theorem dX10_leftBySaid_6 : decode cX10_leftBySaid 6 = .ok (.iload 6, 2) := by decide +kernel
theorem dX10_leftBySaid_8 : decode cX10_leftBySaid 8 = .ok (.aload_n 0, 1) := by decide +kernel
theorem dX10_leftBySaid_9 : decode cX10_leftBySaid 9 = .ok (.getfield 18, 3) := by decide +kernel
theorem dX10_leftBySaid_12 : decode cX10_leftBySaid 12 = .ok (.invokevirtual 43, 3) := by decide +kernel
theorem dX10_leftBySaid_15 : decode cX10_leftBySaid 15 = .ok (.if_icmp .ge 42, 3) := by decide +kernel
theorem dX10_leftBySaid_18 : decode cX10_leftBySaid 18 = .ok (.iload_n 3, 1) := by decide +kernel
theorem dX10_leftBySaid_19 : decode cX10_leftBySaid 19 = .ok (.iload 6, 2) := by decide +kernel
theorem dX10_leftBySaid_21 : decode cX10_leftBySaid 21 = .ok (.ishr, 1) := by decide +kernel
theorem dX10_leftBySaid_22 : decode cX10_leftBySaid 22 = .ok (.iconst 1, 1) := by decide +kernel
theorem dX10_leftBySaid_23 : decode cX10_leftBySaid 23 = .ok (.iand, 1) := by decide +kernel
theorem dX10_leftBySaid_24 : decode cX10_leftBySaid 24 = .ok (.ifCond .eq 27, 3) := by decide +kernel
theorem dX10_leftBySaid_27 : decode cX10_leftBySaid 27 = .ok (.lload 4, 2) := by decide +kernel
theorem dX10_leftBySaid_29 : decode cX10_leftBySaid 29 = .ok (.aload_n 0, 1) := by decide +kernel
theorem dX10_leftBySaid_30 : decode cX10_leftBySaid 30 = .ok (.getfield 18, 3) := by decide +kernel
theorem dX10_leftBySaid_33 : decode cX10_leftBySaid 33 = .ok (.iload 6, 2) := by decide +kernel
theorem dX10_leftBySaid_35 : decode cX10_leftBySaid 35 = .ok (.invokevirtual 47, 3) := by decide +kernel
theorem dX10_leftBySaid_38 : decode cX10_leftBySaid 38 = .ok (.checkcast 51, 3) := by decide +kernel
theorem dX10_leftBySaid_41 : decode cX10_leftBySaid 41 = .ok (.getfield 72, 3) := by decide +kernel
theorem dX10_leftBySaid_44 : decode cX10_leftBySaid 44 = .ok (.ldc2_w 70, 3) := by decide +kernel
theorem dX10_leftBySaid_47 : decode cX10_leftBySaid 47 = .ok (.lxor, 1) := by decide +kernel
theorem dX10_leftBySaid_48 : decode cX10_leftBySaid 48 = .ok (.land, 1) := by decide +kernel
theorem dX10_leftBySaid_49 : decode cX10_leftBySaid 49 = .ok (.lstore 4, 2) := by decide +kernel
theorem dX10_leftBySaid_51 : decode cX10_leftBySaid 51 = .ok (.iinc 6 1, 3) := by decide +kernel
theorem dX10_leftBySaid_54 : decode cX10_leftBySaid 54 = .ok (.goto (-48), 3) := by decide +kernel
theorem dX10_leftBySaid_57 : decode cX10_leftBySaid 57 = .ok (.lload 4, 2) := by decide +kernel
theorem dX10_leftBySaid_59 : decode cX10_leftBySaid 59 = .ok (.lreturn, 1) := by decide +kernel
theorem dX10_leftByTellers_0 : decode cX10_leftByTellers 0 = .ok (.iconst 0, 1) := by decide +kernel
theorem dX10_leftByTellers_1 : decode cX10_leftByTellers 1 = .ok (.istore_n 2, 1) := by decide +kernel
theorem dX10_leftByTellers_2 : decode cX10_leftByTellers 2 = .ok (.iconst 0, 1) := by decide +kernel
theorem dX10_leftByTellers_3 : decode cX10_leftByTellers 3 = .ok (.istore_n 3, 1) := by decide +kernel
theorem dX10_leftByTellers_4 : decode cX10_leftByTellers 4 = .ok (.iload_n 3, 1) := by decide +kernel
theorem dX10_leftByTellers_5 : decode cX10_leftByTellers 5 = .ok (.aload_n 0, 1) := by decide +kernel
theorem dX10_leftByTellers_6 : decode cX10_leftByTellers 6 = .ok (.getfield 18, 3) := by decide +kernel
theorem dX10_leftByTellers_9 : decode cX10_leftByTellers 9 = .ok (.invokevirtual 43, 3) := by decide +kernel
theorem dX10_leftByTellers_12 : decode cX10_leftByTellers 12 = .ok (.if_icmp .ge 36, 3) := by decide +kernel
theorem dX10_leftByTellers_15 : decode cX10_leftByTellers 15 = .ok (.iload_n 1, 1) := by decide +kernel
theorem dX10_leftByTellers_16 : decode cX10_leftByTellers 16 = .ok (.aload_n 0, 1) := by decide +kernel
theorem dX10_leftByTellers_17 : decode cX10_leftByTellers 17 = .ok (.getfield 18, 3) := by decide +kernel
theorem dX10_leftByTellers_20 : decode cX10_leftByTellers 20 = .ok (.iload_n 3, 1) := by decide +kernel
theorem dX10_leftByTellers_21 : decode cX10_leftByTellers 21 = .ok (.invokevirtual 47, 3) := by decide +kernel
theorem dX10_leftByTellers_24 : decode cX10_leftByTellers 24 = .ok (.checkcast 51, 3) := by decide +kernel
theorem dX10_leftByTellers_27 : decode cX10_leftByTellers 27 = .ok (.getfield 57, 3) := by decide +kernel
theorem dX10_leftByTellers_30 : decode cX10_leftByTellers 30 = .ok (.ishr, 1) := by decide +kernel
theorem dX10_leftByTellers_31 : decode cX10_leftByTellers 31 = .ok (.iconst 1, 1) := by decide +kernel
theorem dX10_leftByTellers_32 : decode cX10_leftByTellers 32 = .ok (.iand, 1) := by decide +kernel
theorem dX10_leftByTellers_33 : decode cX10_leftByTellers 33 = .ok (.ifCond .eq 9, 3) := by decide +kernel
theorem dX10_leftByTellers_36 : decode cX10_leftByTellers 36 = .ok (.iload_n 2, 1) := by decide +kernel
theorem dX10_leftByTellers_37 : decode cX10_leftByTellers 37 = .ok (.iconst 1, 1) := by decide +kernel
theorem dX10_leftByTellers_38 : decode cX10_leftByTellers 38 = .ok (.iload_n 3, 1) := by decide +kernel
theorem dX10_leftByTellers_39 : decode cX10_leftByTellers 39 = .ok (.ishl, 1) := by decide +kernel
theorem dX10_leftByTellers_40 : decode cX10_leftByTellers 40 = .ok (.ior, 1) := by decide +kernel
theorem dX10_leftByTellers_41 : decode cX10_leftByTellers 41 = .ok (.istore_n 2, 1) := by decide +kernel
theorem dX10_leftByTellers_42 : decode cX10_leftByTellers 42 = .ok (.iinc 3 1, 3) := by decide +kernel
theorem dX10_leftByTellers_45 : decode cX10_leftByTellers 45 = .ok (.goto (-41), 3) := by decide +kernel
theorem dX10_leftByTellers_48 : decode cX10_leftByTellers 48 = .ok (.aload_n 0, 1) := by decide +kernel
theorem dX10_leftByTellers_49 : decode cX10_leftByTellers 49 = .ok (.aload_n 0, 1) := by decide +kernel
theorem dX10_leftByTellers_50 : decode cX10_leftByTellers 50 = .ok (.invokevirtual 76, 3) := by decide +kernel
theorem dX10_leftByTellers_53 : decode cX10_leftByTellers 53 = .ok (.iload_n 2, 1) := by decide +kernel
theorem dX10_leftByTellers_54 : decode cX10_leftByTellers 54 = .ok (.invokevirtual 80, 3) := by decide +kernel
theorem dX10_leftByTellers_57 : decode cX10_leftByTellers 57 = .ok (.lreturn, 1) := by decide +kernel
theorem dX10_isPlainBy_0 : decode cX10_isPlainBy 0 = .ok (.aload_n 0, 1) := by decide +kernel
theorem dX10_isPlainBy_1 : decode cX10_isPlainBy 1 = .ok (.iload_n 1, 1) := by decide +kernel
theorem dX10_isPlainBy_2 : decode cX10_isPlainBy 2 = .ok (.invokevirtual 87, 3) := by decide +kernel
theorem dX10_isPlainBy_5 : decode cX10_isPlainBy 5 = .ok (.invokestatic 91, 3) := by decide +kernel
theorem dX10_isPlainBy_8 : decode cX10_isPlainBy 8 = .ok (.iconst 1, 1) := by decide +kernel
theorem dX10_isPlainBy_9 : decode cX10_isPlainBy 9 = .ok (.if_icmp .gt 7, 3) := by decide +kernel
theorem dX10_isPlainBy_12 : decode cX10_isPlainBy 12 = .ok (.iconst 1, 1) := by decide +kernel
theorem dX10_isPlainBy_13 : decode cX10_isPlainBy 13 = .ok (.goto 4, 3) := by decide +kernel
theorem dX10_isPlainBy_16 : decode cX10_isPlainBy 16 = .ok (.iconst 0, 1) := by decide +kernel
theorem dX10_isPlainBy_17 : decode cX10_isPlainBy 17 = .ok (.ireturn, 1) := by decide +kernel
theorem dX10_trueOnes_0 : decode cX10_trueOnes 0 = .ok (.iconst 0, 1) := by decide +kernel
theorem dX10_trueOnes_1 : decode cX10_trueOnes 1 = .ok (.istore_n 2, 1) := by decide +kernel
theorem dX10_trueOnes_2 : decode cX10_trueOnes 2 = .ok (.iconst 0, 1) := by decide +kernel
theorem dX10_trueOnes_3 : decode cX10_trueOnes 3 = .ok (.istore_n 3, 1) := by decide +kernel
theorem dX10_trueOnes_4 : decode cX10_trueOnes 4 = .ok (.iload_n 3, 1) := by decide +kernel
theorem dX10_trueOnes_5 : decode cX10_trueOnes 5 = .ok (.aload_n 0, 1) := by decide +kernel
theorem dX10_trueOnes_6 : decode cX10_trueOnes 6 = .ok (.getfield 18, 3) := by decide +kernel
theorem dX10_trueOnes_9 : decode cX10_trueOnes 9 = .ok (.invokevirtual 43, 3) := by decide +kernel
theorem dX10_trueOnes_12 : decode cX10_trueOnes 12 = .ok (.if_icmp .ge 36, 3) := by decide +kernel
theorem dX10_trueOnes_15 : decode cX10_trueOnes 15 = .ok (.aload_n 0, 1) := by decide +kernel
theorem dX10_trueOnes_16 : decode cX10_trueOnes 16 = .ok (.getfield 18, 3) := by decide +kernel
theorem dX10_trueOnes_19 : decode cX10_trueOnes 19 = .ok (.iload_n 3, 1) := by decide +kernel
theorem dX10_trueOnes_20 : decode cX10_trueOnes 20 = .ok (.invokevirtual 47, 3) := by decide +kernel
theorem dX10_trueOnes_23 : decode cX10_trueOnes 23 = .ok (.checkcast 51, 3) := by decide +kernel
theorem dX10_trueOnes_26 : decode cX10_trueOnes 26 = .ok (.getfield 72, 3) := by decide +kernel
theorem dX10_trueOnes_29 : decode cX10_trueOnes 29 = .ok (.iload_n 1, 1) := by decide +kernel
theorem dX10_trueOnes_30 : decode cX10_trueOnes 30 = .ok (.invokestatic 97, 3) := by decide +kernel
theorem dX10_trueOnes_33 : decode cX10_trueOnes 33 = .ok (.ifCond .eq 9, 3) := by decide +kernel
theorem dX10_trueOnes_36 : decode cX10_trueOnes 36 = .ok (.iload_n 2, 1) := by decide +kernel
theorem dX10_trueOnes_37 : decode cX10_trueOnes 37 = .ok (.iconst 1, 1) := by decide +kernel
theorem dX10_trueOnes_38 : decode cX10_trueOnes 38 = .ok (.iload_n 3, 1) := by decide +kernel
theorem dX10_trueOnes_39 : decode cX10_trueOnes 39 = .ok (.ishl, 1) := by decide +kernel
theorem dX10_trueOnes_40 : decode cX10_trueOnes 40 = .ok (.ior, 1) := by decide +kernel
theorem dX10_trueOnes_41 : decode cX10_trueOnes 41 = .ok (.istore_n 2, 1) := by decide +kernel
theorem dX10_trueOnes_42 : decode cX10_trueOnes 42 = .ok (.iinc 3 1, 3) := by decide +kernel
theorem dX10_trueOnes_45 : decode cX10_trueOnes 45 = .ok (.goto (-41), 3) := by decide +kernel
theorem dX10_trueOnes_48 : decode cX10_trueOnes 48 = .ok (.iload_n 2, 1) := by decide +kernel
theorem dX10_trueOnes_49 : decode cX10_trueOnes 49 = .ok (.ireturn, 1) := by decide +kernel
theorem dX10_wordsSaid_0 : decode cX10_wordsSaid 0 = .ok (.iconst 0, 1) := by decide +kernel
theorem dX10_wordsSaid_1 : decode cX10_wordsSaid 1 = .ok (.istore_n 1, 1) := by decide +kernel
theorem dX10_wordsSaid_2 : decode cX10_wordsSaid 2 = .ok (.iconst 0, 1) := by decide +kernel
theorem dX10_wordsSaid_3 : decode cX10_wordsSaid 3 = .ok (.istore_n 2, 1) := by decide +kernel
theorem dX10_wordsSaid_4 : decode cX10_wordsSaid 4 = .ok (.iload_n 2, 1) := by decide +kernel
theorem dX10_wordsSaid_5 : decode cX10_wordsSaid 5 = .ok (.aload_n 0, 1) := by decide +kernel
theorem dX10_wordsSaid_6 : decode cX10_wordsSaid 6 = .ok (.getfield 18, 3) := by decide +kernel
theorem dX10_wordsSaid_9 : decode cX10_wordsSaid 9 = .ok (.invokevirtual 43, 3) := by decide +kernel
theorem dX10_wordsSaid_12 : decode cX10_wordsSaid 12 = .ok (.if_icmp .ge 26, 3) := by decide +kernel
theorem dX10_wordsSaid_15 : decode cX10_wordsSaid 15 = .ok (.iload_n 1, 1) := by decide +kernel
theorem dX10_wordsSaid_16 : decode cX10_wordsSaid 16 = .ok (.aload_n 0, 1) := by decide +kernel
theorem dX10_wordsSaid_17 : decode cX10_wordsSaid 17 = .ok (.getfield 18, 3) := by decide +kernel
theorem dX10_wordsSaid_20 : decode cX10_wordsSaid 20 = .ok (.iload_n 2, 1) := by decide +kernel
theorem dX10_wordsSaid_21 : decode cX10_wordsSaid 21 = .ok (.invokevirtual 47, 3) := by decide +kernel
theorem dX10_wordsSaid_24 : decode cX10_wordsSaid 24 = .ok (.checkcast 51, 3) := by decide +kernel
theorem dX10_wordsSaid_27 : decode cX10_wordsSaid 27 = .ok (.invokevirtual 101, 3) := by decide +kernel
theorem dX10_wordsSaid_30 : decode cX10_wordsSaid 30 = .ok (.iadd, 1) := by decide +kernel
theorem dX10_wordsSaid_31 : decode cX10_wordsSaid 31 = .ok (.istore_n 1, 1) := by decide +kernel
theorem dX10_wordsSaid_32 : decode cX10_wordsSaid 32 = .ok (.iinc 2 1, 3) := by decide +kernel
theorem dX10_wordsSaid_35 : decode cX10_wordsSaid 35 = .ok (.goto (-31), 3) := by decide +kernel
theorem dX10_wordsSaid_38 : decode cX10_wordsSaid 38 = .ok (.iload_n 1, 1) := by decide +kernel
theorem dX10_wordsSaid_39 : decode cX10_wordsSaid 39 = .ok (.ireturn, 1) := by decide +kernel
theorem dX10_reachedFrom_0 : decode cX10_reachedFrom 0 = .ok (.lload_n 1, 1) := by decide +kernel
theorem dX10_reachedFrom_1 : decode cX10_reachedFrom 1 = .ok (.lstore 5, 2) := by decide +kernel
theorem dX10_reachedFrom_3 : decode cX10_reachedFrom 3 = .ok (.iconst 0, 1) := by decide +kernel
theorem dX10_reachedFrom_4 : decode cX10_reachedFrom 4 = .ok (.istore 7, 2) := by decide +kernel
theorem dX10_reachedFrom_6 : decode cX10_reachedFrom 6 = .ok (.iload 7, 2) := by decide +kernel
theorem dX10_reachedFrom_8 : decode cX10_reachedFrom 8 = .ok (.bipush 64, 2) := by decide +kernel
theorem dX10_reachedFrom_10 : decode cX10_reachedFrom 10 = .ok (.if_icmp .ge 53, 3) := by decide +kernel
theorem dX10_reachedFrom_13 : decode cX10_reachedFrom 13 = .ok (.iconst 0, 1) := by decide +kernel
theorem dX10_reachedFrom_14 : decode cX10_reachedFrom 14 = .ok (.istore 8, 2) := by decide +kernel
theorem dX10_reachedFrom_16 : decode cX10_reachedFrom 16 = .ok (.iload 8, 2) := by decide +kernel
theorem dX10_reachedFrom_18 : decode cX10_reachedFrom 18 = .ok (.aload_n 0, 1) := by decide +kernel
theorem dX10_reachedFrom_19 : decode cX10_reachedFrom 19 = .ok (.getfield 33, 3) := by decide +kernel
theorem dX10_reachedFrom_22 : decode cX10_reachedFrom 22 = .ok (.if_icmp .ge 35, 3) := by decide +kernel
theorem dX10_reachedFrom_25 : decode cX10_reachedFrom 25 = .ok (.lload_n 1, 1) := by decide +kernel
theorem dX10_reachedFrom_26 : decode cX10_reachedFrom 26 = .ok (.iload 7, 2) := by decide +kernel
theorem dX10_reachedFrom_28 : decode cX10_reachedFrom 28 = .ok (.invokestatic 97, 3) := by decide +kernel
theorem dX10_reachedFrom_31 : decode cX10_reachedFrom 31 = .ok (.ifCond .eq 26, 3) := by decide +kernel
theorem dX10_reachedFrom_34 : decode cX10_reachedFrom 34 = .ok (.lload 5, 2) := by decide +kernel
theorem dX10_reachedFrom_36 : decode cX10_reachedFrom 36 = .ok (.lload_n 3, 1) := by decide +kernel
theorem dX10_reachedFrom_37 : decode cX10_reachedFrom 37 = .ok (.iload 7, 2) := by decide +kernel
theorem dX10_reachedFrom_39 : decode cX10_reachedFrom 39 = .ok (.aload_n 0, 1) := by decide +kernel
theorem dX10_reachedFrom_40 : decode cX10_reachedFrom 40 = .ok (.iload 8, 2) := by decide +kernel
theorem dX10_reachedFrom_42 : decode cX10_reachedFrom 42 = .ok (.invokevirtual 29, 3) := by decide +kernel
theorem dX10_reachedFrom_45 : decode cX10_reachedFrom 45 = .ok (.invokestatic 104, 3) := by decide +kernel
theorem dX10_reachedFrom_48 : decode cX10_reachedFrom 48 = .ok (.lor, 1) := by decide +kernel
theorem dX10_reachedFrom_49 : decode cX10_reachedFrom 49 = .ok (.lstore 5, 2) := by decide +kernel
theorem dX10_reachedFrom_51 : decode cX10_reachedFrom 51 = .ok (.iinc 8 1, 3) := by decide +kernel
theorem dX10_reachedFrom_54 : decode cX10_reachedFrom 54 = .ok (.goto (-38), 3) := by decide +kernel
theorem dX10_reachedFrom_57 : decode cX10_reachedFrom 57 = .ok (.iinc 7 1, 3) := by decide +kernel
theorem dX10_reachedFrom_60 : decode cX10_reachedFrom 60 = .ok (.goto (-54), 3) := by decide +kernel
theorem dX10_reachedFrom_63 : decode cX10_reachedFrom 63 = .ok (.lload 5, 2) := by decide +kernel
theorem dX10_reachedFrom_65 : decode cX10_reachedFrom 65 = .ok (.lreturn, 1) := by decide +kernel
theorem dX11_init_0 : decode cX11_init 0 = .ok (.aload_n 0, 1) := by decide +kernel
theorem dX11_init_1 : decode cX11_init 1 = .ok (.invokespecial 3, 3) := by decide +kernel
theorem dX11_init_4 : decode cX11_init 4 = .ok (.aload_n 0, 1) := by decide +kernel
theorem dX11_init_5 : decode cX11_init 5 = .ok (.new 9, 3) := by decide +kernel
theorem dX11_init_8 : decode cX11_init 8 = .ok (.dup, 1) := by decide +kernel
theorem dX11_init_9 : decode cX11_init 9 = .ok (.invokespecial 11, 3) := by decide +kernel
theorem dX11_init_12 : decode cX11_init 12 = .ok (.putfield 12, 3) := by decide +kernel
theorem dX11_init_15 : decode cX11_init 15 = .ok (.aload_n 0, 1) := by decide +kernel
theorem dX11_init_16 : decode cX11_init 16 = .ok (.bipush 8, 2) := by decide +kernel
theorem dX11_init_18 : decode cX11_init 18 = .ok (.anewarray 16, 3) := by decide +kernel
theorem dX11_init_21 : decode cX11_init 21 = .ok (.putfield 18, 3) := by decide +kernel
theorem dX11_init_24 : decode cX11_init 24 = .ok (.aload_n 0, 1) := by decide +kernel
theorem dX11_init_25 : decode cX11_init 25 = .ok (.new 22, 3) := by decide +kernel
theorem dX11_init_28 : decode cX11_init 28 = .ok (.dup, 1) := by decide +kernel
theorem dX11_init_29 : decode cX11_init 29 = .ok (.invokespecial 24, 3) := by decide +kernel
theorem dX11_init_32 : decode cX11_init 32 = .ok (.putfield 25, 3) := by decide +kernel
theorem dX11_init_35 : decode cX11_init 35 = .ok (.aload_n 0, 1) := by decide +kernel
theorem dX11_init_36 : decode cX11_init 36 = .ok (.new 22, 3) := by decide +kernel
theorem dX11_init_39 : decode cX11_init 39 = .ok (.dup, 1) := by decide +kernel
theorem dX11_init_40 : decode cX11_init 40 = .ok (.invokespecial 24, 3) := by decide +kernel
theorem dX11_init_43 : decode cX11_init 43 = .ok (.putfield 29, 3) := by decide +kernel
theorem dX11_init_46 : decode cX11_init 46 = .ok (.aload_n 0, 1) := by decide +kernel
theorem dX11_init_47 : decode cX11_init 47 = .ok (.new 22, 3) := by decide +kernel
theorem dX11_init_50 : decode cX11_init 50 = .ok (.dup, 1) := by decide +kernel
theorem dX11_init_51 : decode cX11_init 51 = .ok (.invokespecial 24, 3) := by decide +kernel
theorem dX11_init_54 : decode cX11_init 54 = .ok (.putfield 32, 3) := by decide +kernel
theorem dX11_init_57 : decode cX11_init 57 = .ok (.aload_n 0, 1) := by decide +kernel
theorem dX11_init_58 : decode cX11_init 58 = .ok (.sipush 288, 3) := by decide +kernel
theorem dX11_init_61 : decode cX11_init 61 = .ok (.newarray .long, 2) := by decide +kernel
theorem dX11_init_63 : decode cX11_init 63 = .ok (.putfield 35, 3) := by decide +kernel
theorem dX11_init_66 : decode cX11_init 66 = .ok (.aload_n 0, 1) := by decide +kernel
theorem dX11_init_67 : decode cX11_init 67 = .ok (.sipush 288, 3) := by decide +kernel
theorem dX11_init_70 : decode cX11_init 70 = .ok (.newarray .long, 2) := by decide +kernel
theorem dX11_init_72 : decode cX11_init 72 = .ok (.putfield 39, 3) := by decide +kernel
theorem dX11_init_75 : decode cX11_init 75 = .ok (.new 42, 3) := by decide +kernel
theorem dX11_init_78 : decode cX11_init 78 = .ok (.dup, 1) := by decide +kernel
theorem dX11_init_79 : decode cX11_init 79 = .ok (.iconst 0, 1) := by decide +kernel
theorem dX11_init_80 : decode cX11_init 80 = .ok (.invokespecial 44, 3) := by decide +kernel
theorem dX11_init_83 : decode cX11_init 83 = .ok (.astore_n 1, 1) := by decide +kernel
theorem dX11_init_84 : decode cX11_init 84 = .ok (.aload_n 0, 1) := by decide +kernel
theorem dX11_init_85 : decode cX11_init 85 = .ok (.getfield 12, 3) := by decide +kernel
theorem dX11_init_88 : decode cX11_init 88 = .ok (.aload_n 1, 1) := by decide +kernel
theorem dX11_init_89 : decode cX11_init 89 = .ok (.invokevirtual 47, 3) := by decide +kernel
theorem dX11_init_92 : decode cX11_init 92 = .ok (.pop, 1) := by decide +kernel
theorem dX11_init_93 : decode cX11_init 93 = .ok (.aload_n 0, 1) := by decide +kernel
theorem dX11_init_94 : decode cX11_init 94 = .ok (.getfield 12, 3) := by decide +kernel
theorem dX11_init_97 : decode cX11_init 97 = .ok (.new 51, 3) := by decide +kernel
theorem dX11_init_100 : decode cX11_init 100 = .ok (.dup, 1) := by decide +kernel
theorem dX11_init_101 : decode cX11_init 101 = .ok (.iconst 1, 1) := by decide +kernel
theorem dX11_init_102 : decode cX11_init 102 = .ok (.invokespecial 53, 3) := by decide +kernel
theorem dX11_init_105 : decode cX11_init 105 = .ok (.invokevirtual 47, 3) := by decide +kernel
theorem dX11_init_108 : decode cX11_init 108 = .ok (.pop, 1) := by decide +kernel
theorem dX11_init_109 : decode cX11_init 109 = .ok (.aload_n 0, 1) := by decide +kernel
theorem dX11_init_110 : decode cX11_init 110 = .ok (.getfield 12, 3) := by decide +kernel
theorem dX11_init_113 : decode cX11_init 113 = .ok (.new 54, 3) := by decide +kernel
theorem dX11_init_116 : decode cX11_init 116 = .ok (.dup, 1) := by decide +kernel
theorem dX11_init_117 : decode cX11_init 117 = .ok (.iconst 2, 1) := by decide +kernel
theorem dX11_init_118 : decode cX11_init 118 = .ok (.invokespecial 56, 3) := by decide +kernel
theorem dX11_init_121 : decode cX11_init 121 = .ok (.invokevirtual 47, 3) := by decide +kernel
theorem dX11_init_124 : decode cX11_init 124 = .ok (.pop, 1) := by decide +kernel
theorem dX11_init_125 : decode cX11_init 125 = .ok (.aload_n 0, 1) := by decide +kernel
theorem dX11_init_126 : decode cX11_init 126 = .ok (.getfield 12, 3) := by decide +kernel
theorem dX11_init_129 : decode cX11_init 129 = .ok (.new 57, 3) := by decide +kernel
theorem dX11_init_132 : decode cX11_init 132 = .ok (.dup, 1) := by decide +kernel
theorem dX11_init_133 : decode cX11_init 133 = .ok (.iconst 3, 1) := by decide +kernel
theorem dX11_init_134 : decode cX11_init 134 = .ok (.invokespecial 59, 3) := by decide +kernel
theorem dX11_init_137 : decode cX11_init 137 = .ok (.invokevirtual 47, 3) := by decide +kernel
theorem dX11_init_140 : decode cX11_init 140 = .ok (.pop, 1) := by decide +kernel
theorem dX11_init_141 : decode cX11_init 141 = .ok (.aload_n 0, 1) := by decide +kernel
theorem dX11_init_142 : decode cX11_init 142 = .ok (.getfield 12, 3) := by decide +kernel
theorem dX11_init_145 : decode cX11_init 145 = .ok (.new 60, 3) := by decide +kernel
theorem dX11_init_148 : decode cX11_init 148 = .ok (.dup, 1) := by decide +kernel
theorem dX11_init_149 : decode cX11_init 149 = .ok (.iconst 4, 1) := by decide +kernel
theorem dX11_init_150 : decode cX11_init 150 = .ok (.invokespecial 62, 3) := by decide +kernel
theorem dX11_init_153 : decode cX11_init 153 = .ok (.invokevirtual 47, 3) := by decide +kernel
theorem dX11_init_156 : decode cX11_init 156 = .ok (.pop, 1) := by decide +kernel
theorem dX11_init_157 : decode cX11_init 157 = .ok (.aload_n 0, 1) := by decide +kernel
theorem dX11_init_158 : decode cX11_init 158 = .ok (.getfield 12, 3) := by decide +kernel
theorem dX11_init_161 : decode cX11_init 161 = .ok (.new 63, 3) := by decide +kernel
theorem dX11_init_164 : decode cX11_init 164 = .ok (.dup, 1) := by decide +kernel
theorem dX11_init_165 : decode cX11_init 165 = .ok (.iconst 5, 1) := by decide +kernel
theorem dX11_init_166 : decode cX11_init 166 = .ok (.invokespecial 65, 3) := by decide +kernel
theorem dX11_init_169 : decode cX11_init 169 = .ok (.invokevirtual 47, 3) := by decide +kernel
theorem dX11_init_172 : decode cX11_init 172 = .ok (.pop, 1) := by decide +kernel
theorem dX11_init_173 : decode cX11_init 173 = .ok (.aload_n 0, 1) := by decide +kernel
theorem dX11_init_174 : decode cX11_init 174 = .ok (.getfield 12, 3) := by decide +kernel
theorem dX11_init_177 : decode cX11_init 177 = .ok (.new 66, 3) := by decide +kernel
theorem dX11_init_180 : decode cX11_init 180 = .ok (.dup, 1) := by decide +kernel
theorem dX11_init_181 : decode cX11_init 181 = .ok (.bipush 6, 2) := by decide +kernel
theorem dX11_init_183 : decode cX11_init 183 = .ok (.invokespecial 68, 3) := by decide +kernel
theorem dX11_init_186 : decode cX11_init 186 = .ok (.invokevirtual 47, 3) := by decide +kernel
theorem dX11_init_189 : decode cX11_init 189 = .ok (.pop, 1) := by decide +kernel
theorem dX11_init_190 : decode cX11_init 190 = .ok (.aload_n 0, 1) := by decide +kernel
theorem dX11_init_191 : decode cX11_init 191 = .ok (.getfield 12, 3) := by decide +kernel
theorem dX11_init_194 : decode cX11_init 194 = .ok (.new 69, 3) := by decide +kernel
theorem dX11_init_197 : decode cX11_init 197 = .ok (.dup, 1) := by decide +kernel
theorem dX11_init_198 : decode cX11_init 198 = .ok (.bipush 7, 2) := by decide +kernel
theorem dX11_init_200 : decode cX11_init 200 = .ok (.invokespecial 71, 3) := by decide +kernel
theorem dX11_init_203 : decode cX11_init 203 = .ok (.invokevirtual 47, 3) := by decide +kernel
theorem dX11_init_206 : decode cX11_init 206 = .ok (.pop, 1) := by decide +kernel
theorem dX11_init_207 : decode cX11_init 207 = .ok (.iconst 0, 1) := by decide +kernel
theorem dX11_init_208 : decode cX11_init 208 = .ok (.istore_n 2, 1) := by decide +kernel
theorem dX11_init_209 : decode cX11_init 209 = .ok (.iload_n 2, 1) := by decide +kernel
theorem dX11_init_210 : decode cX11_init 210 = .ok (.aload_n 0, 1) := by decide +kernel
theorem dX11_init_211 : decode cX11_init 211 = .ok (.getfield 18, 3) := by decide +kernel
theorem dX11_init_214 : decode cX11_init 214 = .ok (.arraylength, 1) := by decide +kernel
theorem dX11_init_215 : decode cX11_init 215 = .ok (.if_icmp .ge 23, 3) := by decide +kernel
theorem dX11_init_218 : decode cX11_init 218 = .ok (.aload_n 0, 1) := by decide +kernel
theorem dX11_init_219 : decode cX11_init 219 = .ok (.getfield 18, 3) := by decide +kernel
theorem dX11_init_222 : decode cX11_init 222 = .ok (.iload_n 2, 1) := by decide +kernel
theorem dX11_init_223 : decode cX11_init 223 = .ok (.new 16, 3) := by decide +kernel
theorem dX11_init_226 : decode cX11_init 226 = .ok (.dup, 1) := by decide +kernel
theorem dX11_init_227 : decode cX11_init 227 = .ok (.aload_n 1, 1) := by decide +kernel
theorem dX11_init_228 : decode cX11_init 228 = .ok (.invokespecial 72, 3) := by decide +kernel
theorem dX11_init_231 : decode cX11_init 231 = .ok (.aastore, 1) := by decide +kernel
theorem dX11_init_232 : decode cX11_init 232 = .ok (.iinc 2 1, 3) := by decide +kernel
theorem dX11_init_235 : decode cX11_init 235 = .ok (.goto (-26), 3) := by decide +kernel
theorem dX11_init_238 : decode cX11_init 238 = .ok (.return_, 1) := by decide +kernel
theorem dX11_trial_0 : decode cX11_trial 0 = .ok (.aload_n 0, 1) := by decide +kernel
theorem dX11_trial_1 : decode cX11_trial 1 = .ok (.iload_n 1, 1) := by decide +kernel
theorem dX11_trial_2 : decode cX11_trial 2 = .ok (.invokevirtual 75, 3) := by decide +kernel
theorem dX11_trial_5 : decode cX11_trial 5 = .ok (.astore_n 2, 1) := by decide +kernel
theorem dX11_trial_6 : decode cX11_trial 6 = .ok (.aload_n 2, 1) := by decide +kernel
theorem dX11_trial_7 : decode cX11_trial 7 = .ok (.ifnonnull 5, 3) := by decide +kernel
theorem dX11_trial_10 : decode cX11_trial 10 = .ok (.iconst (-1), 1) := by decide +kernel
theorem dX11_trial_11 : decode cX11_trial 11 = .ok (.ireturn, 1) := by decide +kernel
theorem dX11_trial_12 : decode cX11_trial 12 = .ok (.aload_n 2, 1) := by decide +kernel
theorem dX11_trial_13 : decode cX11_trial 13 = .ok (.invokevirtual 79, 3) := by decide +kernel
theorem dX11_trial_16 : decode cX11_trial 16 = .ok (.istore_n 3, 1) := by decide +kernel
theorem dX11_trial_17 : decode cX11_trial 17 = .ok (.iload_n 3, 1) := by decide +kernel
theorem dX11_trial_18 : decode cX11_trial 18 = .ok (.ifCond .eq 5, 3) := by decide +kernel
theorem dX11_trial_21 : decode cX11_trial 21 = .ok (.iload_n 3, 1) := by decide +kernel
theorem dX11_trial_22 : decode cX11_trial 22 = .ok (.ireturn, 1) := by decide +kernel
theorem dX11_trial_23 : decode cX11_trial 23 = .ok (.aload_n 2, 1) := by decide +kernel
theorem dX11_trial_24 : decode cX11_trial 24 = .ok (.getfield 83, 3) := by decide +kernel
theorem dX11_trial_27 : decode cX11_trial 27 = .ok (.ifCond .eq 6, 3) := by decide +kernel
theorem dX11_trial_30 : decode cX11_trial 30 = .ok (.bipush (-12), 2) := by decide +kernel
theorem dX11_trial_32 : decode cX11_trial 32 = .ok (.ireturn, 1) := by decide +kernel
theorem dX11_trial_33 : decode cX11_trial 33 = .ok (.aload_n 2, 1) := by decide +kernel
theorem dX11_trial_34 : decode cX11_trial 34 = .ok (.invokestatic 87, 3) := by decide +kernel
theorem dX11_trial_37 : decode cX11_trial 37 = .ok (.istore 4, 2) := by decide +kernel
theorem dX11_trial_39 : decode cX11_trial 39 = .ok (.iload 4, 2) := by decide +kernel
theorem dX11_trial_41 : decode cX11_trial 41 = .ok (.ifCond .lt 12, 3) := by decide +kernel
theorem dX11_trial_44 : decode cX11_trial 44 = .ok (.sipush (-1000), 3) := by decide +kernel
theorem dX11_trial_47 : decode cX11_trial 47 = .ok (.iload 4, 2) := by decide +kernel
theorem dX11_trial_49 : decode cX11_trial 49 = .ok (.isub, 1) := by decide +kernel
theorem dX11_trial_50 : decode cX11_trial 50 = .ok (.goto 8, 3) := by decide +kernel
theorem dX11_trial_53 : decode cX11_trial 53 = .ok (.aload_n 0, 1) := by decide +kernel
theorem dX11_trial_54 : decode cX11_trial 54 = .ok (.aload_n 2, 1) := by decide +kernel
theorem dX11_trial_55 : decode cX11_trial 55 = .ok (.invokevirtual 91, 3) := by decide +kernel
theorem dX11_trial_58 : decode cX11_trial 58 = .ok (.ireturn, 1) := by decide +kernel
theorem dX11_law_0 : decode cX11_law 0 = .ok (.aload_n 0, 1) := by decide +kernel
theorem dX11_law_1 : decode cX11_law 1 = .ok (.getfield 25, 3) := by decide +kernel
theorem dX11_law_4 : decode cX11_law 4 = .ok (.getfield 94, 3) := by decide +kernel
theorem dX11_law_7 : decode cX11_law 7 = .ok (.iload_n 1, 1) := by decide +kernel
theorem dX11_law_8 : decode cX11_law 8 = .ok (.invokestatic 97, 3) := by decide +kernel
theorem dX11_law_11 : decode cX11_law 11 = .ok (.astore_n 3, 1) := by decide +kernel
theorem dX11_law_12 : decode cX11_law 12 = .ok (.aload_n 3, 1) := by decide +kernel
theorem dX11_law_13 : decode cX11_law 13 = .ok (.ifnull 12, 3) := by decide +kernel
theorem dX11_law_16 : decode cX11_law 16 = .ok (.iload_n 2, 1) := by decide +kernel
theorem dX11_law_17 : decode cX11_law 17 = .ok (.ifCond .lt 8, 3) := by decide +kernel
theorem dX11_law_20 : decode cX11_law 20 = .ok (.iload_n 2, 1) := by decide +kernel
theorem dX11_law_21 : decode cX11_law 21 = .ok (.iconst 5, 1) := by decide +kernel
theorem dX11_law_22 : decode cX11_law 22 = .ok (.if_icmp .le 5, 3) := by decide +kernel
theorem dX11_law_25 : decode cX11_law 25 = .ok (.iconst (-1), 1) := by decide +kernel
theorem dX11_law_26 : decode cX11_law 26 = .ok (.ireturn, 1) := by decide +kernel
theorem dX11_law_27 : decode cX11_law 27 = .ok (.aload_n 3, 1) := by decide +kernel
theorem dX11_law_28 : decode cX11_law 28 = .ok (.iload_n 2, 1) := by decide +kernel
theorem dX11_law_29 : decode cX11_law 29 = .ok (.invokevirtual 101, 3) := by decide +kernel
theorem dX11_law_32 : decode cX11_law 32 = .ok (.ireturn, 1) := by decide +kernel
theorem dX11_said_0 : decode cX11_said 0 = .ok (.aload_n 0, 1) := by decide +kernel
theorem dX11_said_1 : decode cX11_said 1 = .ok (.getfield 25, 3) := by decide +kernel
theorem dX11_said_4 : decode cX11_said 4 = .ok (.getfield 107, 3) := by decide +kernel
theorem dX11_said_7 : decode cX11_said 7 = .ok (.iload_n 1, 1) := by decide +kernel
theorem dX11_said_8 : decode cX11_said 8 = .ok (.invokestatic 97, 3) := by decide +kernel
theorem dX11_said_11 : decode cX11_said 11 = .ok (.astore_n 3, 1) := by decide +kernel
theorem dX11_said_12 : decode cX11_said 12 = .ok (.aload_n 3, 1) := by decide +kernel
theorem dX11_said_13 : decode cX11_said 13 = .ok (.ifnull 13, 3) := by decide +kernel
theorem dX11_said_16 : decode cX11_said 16 = .ok (.iload_n 2, 1) := by decide +kernel
theorem dX11_said_17 : decode cX11_said 17 = .ok (.ifCond .lt 9, 3) := by decide +kernel
theorem dX11_said_20 : decode cX11_said 20 = .ok (.iload_n 2, 1) := by decide +kernel
theorem dX11_said_21 : decode cX11_said 21 = .ok (.bipush 7, 2) := by decide +kernel
theorem dX11_said_23 : decode cX11_said 23 = .ok (.if_icmp .le 5, 3) := by decide +kernel
theorem dX11_said_26 : decode cX11_said 26 = .ok (.iconst (-1), 1) := by decide +kernel
theorem dX11_said_27 : decode cX11_said 27 = .ok (.ireturn, 1) := by decide +kernel
theorem dX11_said_28 : decode cX11_said 28 = .ok (.iload_n 2, 1) := by decide +kernel
theorem dX11_said_29 : decode cX11_said 29 = .ok (.bipush 7, 2) := by decide +kernel
theorem dX11_said_31 : decode cX11_said 31 = .ok (.if_icmp .ne 21, 3) := by decide +kernel
theorem dX11_said_34 : decode cX11_said 34 = .ok (.aload_n 3, 1) := by decide +kernel
theorem dX11_said_35 : decode cX11_said 35 = .ok (.getfield 110, 3) := by decide +kernel
theorem dX11_said_38 : decode cX11_said 38 = .ok (.aload_n 0, 1) := by decide +kernel
theorem dX11_said_39 : decode cX11_said 39 = .ok (.getfield 25, 3) := by decide +kernel
theorem dX11_said_42 : decode cX11_said 42 = .ok (.getfield 114, 3) := by decide +kernel
theorem dX11_said_45 : decode cX11_said 45 = .ok (.invokestatic 117, 3) := by decide +kernel
theorem dX11_said_48 : decode cX11_said 48 = .ok (.invokestatic 121, 3) := by decide +kernel
theorem dX11_said_51 : decode cX11_said 51 = .ok (.ireturn, 1) := by decide +kernel
theorem dX11_said_52 : decode cX11_said 52 = .ok (.iload_n 2, 1) := by decide +kernel
theorem dX11_said_53 : decode cX11_said 53 = .ok (.bipush 6, 2) := by decide +kernel
theorem dX11_said_55 : decode cX11_said 55 = .ok (.if_icmp .ne 10, 3) := by decide +kernel
theorem dX11_said_58 : decode cX11_said 58 = .ok (.aload_n 3, 1) := by decide +kernel
theorem dX11_said_59 : decode cX11_said 59 = .ok (.getfield 125, 3) := by decide +kernel
theorem dX11_said_62 : decode cX11_said 62 = .ok (.goto 8, 3) := by decide +kernel
theorem dX11_said_65 : decode cX11_said 65 = .ok (.aload_n 3, 1) := by decide +kernel
theorem dX11_said_66 : decode cX11_said 66 = .ok (.iload_n 2, 1) := by decide +kernel
theorem dX11_said_67 : decode cX11_said 67 = .ok (.invokevirtual 101, 3) := by decide +kernel
theorem dX11_said_70 : decode cX11_said 70 = .ok (.ireturn, 1) := by decide +kernel
theorem dX11_knows_0 : decode cX11_knows 0 = .ok (.aload_n 0, 1) := by decide +kernel
theorem dX11_knows_1 : decode cX11_knows 1 = .ok (.getfield 25, 3) := by decide +kernel
theorem dX11_knows_4 : decode cX11_knows 4 = .ok (.iload_n 1, 1) := by decide +kernel
theorem dX11_knows_5 : decode cX11_knows 5 = .ok (.invokevirtual 128, 3) := by decide +kernel
theorem dX11_knows_8 : decode cX11_knows 8 = .ok (.ifCond .eq 14, 3) := by decide +kernel
theorem dX11_knows_11 : decode cX11_knows 11 = .ok (.aload_n 0, 1) := by decide +kernel
theorem dX11_knows_12 : decode cX11_knows 12 = .ok (.getfield 25, 3) := by decide +kernel
theorem dX11_knows_15 : decode cX11_knows 15 = .ok (.iload_n 1, 1) := by decide +kernel
theorem dX11_knows_16 : decode cX11_knows 16 = .ok (.invokevirtual 132, 3) := by decide +kernel
theorem dX11_knows_19 : decode cX11_knows 19 = .ok (.goto 4, 3) := by decide +kernel
theorem dX11_knows_22 : decode cX11_knows 22 = .ok (.iconst (-1), 1) := by decide +kernel
theorem dX11_knows_23 : decode cX11_knows 23 = .ok (.ireturn, 1) := by decide +kernel
theorem dX11_rules_0 : decode cX11_rules 0 = .ok (.aload_n 0, 1) := by decide +kernel
theorem dX11_rules_1 : decode cX11_rules 1 = .ok (.iload_n 1, 1) := by decide +kernel
theorem dX11_rules_2 : decode cX11_rules 2 = .ok (.invokevirtual 75, 3) := by decide +kernel
theorem dX11_rules_5 : decode cX11_rules 5 = .ok (.astore 4, 2) := by decide +kernel
theorem dX11_rules_7 : decode cX11_rules 7 = .ok (.aload 4, 2) := by decide +kernel
theorem dX11_rules_9 : decode cX11_rules 9 = .ok (.ifnull 17, 3) := by decide +kernel
theorem dX11_rules_12 : decode cX11_rules 12 = .ok (.iload_n 2, 1) := by decide +kernel
theorem dX11_rules_13 : decode cX11_rules 13 = .ok (.invokestatic 135, 3) := by decide +kernel
theorem dX11_rules_16 : decode cX11_rules 16 = .ok (.ifCond .eq 10, 3) := by decide +kernel
theorem dX11_rules_19 : decode cX11_rules 19 = .ok (.iload_n 3, 1) := by decide +kernel
theorem dX11_rules_20 : decode cX11_rules 20 = .ok (.invokestatic 135, 3) := by decide +kernel
theorem dX11_rules_23 : decode cX11_rules 23 = .ok (.ifCond .ne 5, 3) := by decide +kernel
theorem dX11_rules_26 : decode cX11_rules 26 = .ok (.iconst (-1), 1) := by decide +kernel
theorem dX11_rules_27 : decode cX11_rules 27 = .ok (.ireturn, 1) := by decide +kernel
theorem dX11_rules_28 : decode cX11_rules 28 = .ok (.aload 4, 2) := by decide +kernel
theorem dX11_rules_30 : decode cX11_rules 30 = .ok (.invokevirtual 141, 3) := by decide +kernel
theorem dX11_rules_33 : decode cX11_rules 33 = .ok (.istore 5, 2) := by decide +kernel
theorem dX11_rules_35 : decode cX11_rules 35 = .ok (.iload 5, 2) := by decide +kernel
theorem dX11_rules_37 : decode cX11_rules 37 = .ok (.ifCond .eq 6, 3) := by decide +kernel
theorem dX11_rules_40 : decode cX11_rules 40 = .ok (.iload 5, 2) := by decide +kernel
theorem dX11_rules_42 : decode cX11_rules 42 = .ok (.ireturn, 1) := by decide +kernel
theorem dX11_rules_43 : decode cX11_rules 43 = .ok (.aload_n 0, 1) := by decide +kernel
theorem dX11_rules_44 : decode cX11_rules 44 = .ok (.getfield 25, 3) := by decide +kernel
theorem dX11_rules_47 : decode cX11_rules 47 = .ok (.bipush (-4), 2) := by decide +kernel
theorem dX11_rules_49 : decode cX11_rules 49 = .ok (.aload 4, 2) := by decide +kernel
theorem dX11_rules_51 : decode cX11_rules 51 = .ok (.getfield 148, 3) := by decide +kernel
theorem dX11_rules_54 : decode cX11_rules 54 = .ok (.aload 4, 2) := by decide +kernel
theorem dX11_rules_56 : decode cX11_rules 56 = .ok (.getfield 152, 3) := by decide +kernel
theorem dX11_rules_59 : decode cX11_rules 59 = .ok (.iload_n 2, 1) := by decide +kernel
theorem dX11_rules_60 : decode cX11_rules 60 = .ok (.iload_n 3, 1) := by decide +kernel
theorem dX11_rules_61 : decode cX11_rules 61 = .ok (.invokestatic 155, 3) := by decide +kernel
theorem dX11_rules_64 : decode cX11_rules 64 = .ok (.invokevirtual 159, 3) := by decide +kernel
theorem dX11_rules_67 : decode cX11_rules 67 = .ok (.istore 6, 2) := by decide +kernel
theorem dX11_rules_69 : decode cX11_rules 69 = .ok (.iload 6, 2) := by decide +kernel
theorem dX11_rules_71 : decode cX11_rules 71 = .ok (.ifCond .eq 18, 3) := by decide +kernel
theorem dX11_rules_74 : decode cX11_rules 74 = .ok (.aload_n 0, 1) := by decide +kernel
theorem dX11_rules_75 : decode cX11_rules 75 = .ok (.getfield 25, 3) := by decide +kernel
theorem dX11_rules_78 : decode cX11_rules 78 = .ok (.getfield 94, 3) := by decide +kernel
theorem dX11_rules_81 : decode cX11_rules 81 = .ok (.invokevirtual 163, 3) := by decide +kernel
theorem dX11_rules_84 : decode cX11_rules 84 = .ok (.iconst 1, 1) := by decide +kernel
theorem dX11_rules_85 : decode cX11_rules 85 = .ok (.isub, 1) := by decide +kernel
theorem dX11_rules_86 : decode cX11_rules 86 = .ok (.goto 5, 3) := by decide +kernel
theorem dX11_rules_89 : decode cX11_rules 89 = .ok (.bipush (-2), 2) := by decide +kernel
theorem dX11_rules_91 : decode cX11_rules 91 = .ok (.ireturn, 1) := by decide +kernel
theorem dX11_says_0 : decode cX11_says 0 = .ok (.aload_n 0, 1) := by decide +kernel
theorem dX11_says_1 : decode cX11_says 1 = .ok (.iload_n 2, 1) := by decide +kernel
theorem dX11_says_2 : decode cX11_says 2 = .ok (.invokevirtual 75, 3) := by decide +kernel
theorem dX11_says_5 : decode cX11_says 5 = .ok (.astore 5, 2) := by decide +kernel
theorem dX11_says_7 : decode cX11_says 7 = .ok (.aload_n 0, 1) := by decide +kernel
theorem dX11_says_8 : decode cX11_says 8 = .ok (.getfield 25, 3) := by decide +kernel
theorem dX11_says_11 : decode cX11_says 11 = .ok (.iload_n 1, 1) := by decide +kernel
theorem dX11_says_12 : decode cX11_says 12 = .ok (.invokevirtual 128, 3) := by decide +kernel
theorem dX11_says_15 : decode cX11_says 15 = .ok (.ifCond .eq 23, 3) := by decide +kernel
theorem dX11_says_18 : decode cX11_says 18 = .ok (.aload 5, 2) := by decide +kernel
theorem dX11_says_20 : decode cX11_says 20 = .ok (.ifnull 18, 3) := by decide +kernel
theorem dX11_says_23 : decode cX11_says 23 = .ok (.iload_n 3, 1) := by decide +kernel
theorem dX11_says_24 : decode cX11_says 24 = .ok (.invokestatic 135, 3) := by decide +kernel
theorem dX11_says_27 : decode cX11_says 27 = .ok (.ifCond .eq 11, 3) := by decide +kernel
theorem dX11_says_30 : decode cX11_says 30 = .ok (.iload 4, 2) := by decide +kernel
theorem dX11_says_32 : decode cX11_says 32 = .ok (.invokestatic 135, 3) := by decide +kernel
theorem dX11_says_35 : decode cX11_says 35 = .ok (.ifCond .ne 5, 3) := by decide +kernel
theorem dX11_says_38 : decode cX11_says 38 = .ok (.iconst (-1), 1) := by decide +kernel
theorem dX11_says_39 : decode cX11_says 39 = .ok (.ireturn, 1) := by decide +kernel
theorem dX11_says_40 : decode cX11_says 40 = .ok (.aload 5, 2) := by decide +kernel
theorem dX11_says_42 : decode cX11_says 42 = .ok (.invokevirtual 141, 3) := by decide +kernel
theorem dX11_says_45 : decode cX11_says 45 = .ok (.istore 6, 2) := by decide +kernel
theorem dX11_says_47 : decode cX11_says 47 = .ok (.iload 6, 2) := by decide +kernel
theorem dX11_says_49 : decode cX11_says 49 = .ok (.ifCond .eq 6, 3) := by decide +kernel
theorem dX11_says_52 : decode cX11_says 52 = .ok (.iload 6, 2) := by decide +kernel
theorem dX11_says_54 : decode cX11_says 54 = .ok (.ireturn, 1) := by decide +kernel
theorem dX11_says_55 : decode cX11_says 55 = .ok (.aload_n 0, 1) := by decide +kernel
theorem dX11_says_56 : decode cX11_says 56 = .ok (.getfield 25, 3) := by decide +kernel
theorem dX11_says_59 : decode cX11_says 59 = .ok (.iload_n 1, 1) := by decide +kernel
theorem dX11_says_60 : decode cX11_says 60 = .ok (.aload 5, 2) := by decide +kernel
theorem dX11_says_62 : decode cX11_says 62 = .ok (.getfield 148, 3) := by decide +kernel
theorem dX11_says_65 : decode cX11_says 65 = .ok (.aload 5, 2) := by decide +kernel
theorem dX11_says_67 : decode cX11_says 67 = .ok (.getfield 152, 3) := by decide +kernel
theorem dX11_says_70 : decode cX11_says 70 = .ok (.iload_n 3, 1) := by decide +kernel
theorem dX11_says_71 : decode cX11_says 71 = .ok (.iload 4, 2) := by decide +kernel
theorem dX11_says_73 : decode cX11_says 73 = .ok (.invokestatic 155, 3) := by decide +kernel
theorem dX11_says_76 : decode cX11_says 76 = .ok (.invokevirtual 166, 3) := by decide +kernel
theorem dX11_says_79 : decode cX11_says 79 = .ok (.istore 7, 2) := by decide +kernel
theorem dX11_says_81 : decode cX11_says 81 = .ok (.iload 7, 2) := by decide +kernel
theorem dX11_says_83 : decode cX11_says 83 = .ok (.ifCond .eq 18, 3) := by decide +kernel
theorem dX11_says_86 : decode cX11_says 86 = .ok (.aload_n 0, 1) := by decide +kernel
theorem dX11_says_87 : decode cX11_says 87 = .ok (.getfield 25, 3) := by decide +kernel
theorem dX11_says_90 : decode cX11_says 90 = .ok (.getfield 107, 3) := by decide +kernel
theorem dX11_says_93 : decode cX11_says 93 = .ok (.invokevirtual 163, 3) := by decide +kernel
theorem dX11_says_96 : decode cX11_says 96 = .ok (.iconst 1, 1) := by decide +kernel
theorem dX11_says_97 : decode cX11_says 97 = .ok (.isub, 1) := by decide +kernel
theorem dX11_says_98 : decode cX11_says 98 = .ok (.goto 5, 3) := by decide +kernel
theorem dX11_says_101 : decode cX11_says 101 = .ok (.bipush (-2), 2) := by decide +kernel
theorem dX11_says_103 : decode cX11_says 103 = .ok (.ireturn, 1) := by decide +kernel
theorem dX11_unsays_0 : decode cX11_unsays 0 = .ok (.aload_n 0, 1) := by decide +kernel
theorem dX11_unsays_1 : decode cX11_unsays 1 = .ok (.getfield 25, 3) := by decide +kernel
theorem dX11_unsays_4 : decode cX11_unsays 4 = .ok (.getfield 107, 3) := by decide +kernel
theorem dX11_unsays_7 : decode cX11_unsays 7 = .ok (.invokevirtual 163, 3) := by decide +kernel
theorem dX11_unsays_10 : decode cX11_unsays 10 = .ok (.iconst 1, 1) := by decide +kernel
theorem dX11_unsays_11 : decode cX11_unsays 11 = .ok (.isub, 1) := by decide +kernel
theorem dX11_unsays_12 : decode cX11_unsays 12 = .ok (.istore_n 1, 1) := by decide +kernel
theorem dX11_unsays_13 : decode cX11_unsays 13 = .ok (.iload_n 1, 1) := by decide +kernel
theorem dX11_unsays_14 : decode cX11_unsays 14 = .ok (.ifCond .ge 6, 3) := by decide +kernel
theorem dX11_unsays_17 : decode cX11_unsays 17 = .ok (.bipush (-3), 2) := by decide +kernel
theorem dX11_unsays_19 : decode cX11_unsays 19 = .ok (.ireturn, 1) := by decide +kernel
theorem dX11_unsays_20 : decode cX11_unsays 20 = .ok (.aload_n 0, 1) := by decide +kernel
theorem dX11_unsays_21 : decode cX11_unsays 21 = .ok (.getfield 25, 3) := by decide +kernel
theorem dX11_unsays_24 : decode cX11_unsays 24 = .ok (.getfield 107, 3) := by decide +kernel
theorem dX11_unsays_27 : decode cX11_unsays 27 = .ok (.iload_n 1, 1) := by decide +kernel
theorem dX11_unsays_28 : decode cX11_unsays 28 = .ok (.invokevirtual 169, 3) := by decide +kernel
theorem dX11_unsays_31 : decode cX11_unsays 31 = .ok (.pop, 1) := by decide +kernel
theorem dX11_unsays_32 : decode cX11_unsays 32 = .ok (.iload_n 1, 1) := by decide +kernel
theorem dX11_unsays_33 : decode cX11_unsays 33 = .ok (.ireturn, 1) := by decide +kernel
theorem dX11_witness_0 : decode cX11_witness 0 = .ok (.iload_n 1, 1) := by decide +kernel
theorem dX11_witness_1 : decode cX11_witness 1 = .ok (.invokestatic 173, 3) := by decide +kernel
theorem dX11_witness_4 : decode cX11_witness 4 = .ok (.ifCond .ne 5, 3) := by decide +kernel
theorem dX11_witness_7 : decode cX11_witness 7 = .ok (.iconst (-1), 1) := by decide +kernel
theorem dX11_witness_8 : decode cX11_witness 8 = .ok (.ireturn, 1) := by decide +kernel
theorem dX11_witness_9 : decode cX11_witness 9 = .ok (.aload_n 0, 1) := by decide +kernel
theorem dX11_witness_10 : decode cX11_witness 10 = .ok (.getfield 25, 3) := by decide +kernel
theorem dX11_witness_13 : decode cX11_witness 13 = .ok (.iload_n 1, 1) := by decide +kernel
theorem dX11_witness_14 : decode cX11_witness 14 = .ok (.invokevirtual 176, 3) := by decide +kernel
theorem dX11_witness_17 : decode cX11_witness 17 = .ok (.ifCond .eq 15, 3) := by decide +kernel
theorem dX11_witness_20 : decode cX11_witness 20 = .ok (.aload_n 0, 1) := by decide +kernel
theorem dX11_witness_21 : decode cX11_witness 21 = .ok (.getfield 25, 3) := by decide +kernel
theorem dX11_witness_24 : decode cX11_witness 24 = .ok (.getfield 179, 3) := by decide +kernel
theorem dX11_witness_27 : decode cX11_witness 27 = .ok (.iconst 1, 1) := by decide +kernel
theorem dX11_witness_28 : decode cX11_witness 28 = .ok (.isub, 1) := by decide +kernel
theorem dX11_witness_29 : decode cX11_witness 29 = .ok (.goto 5, 3) := by decide +kernel
theorem dX11_witness_32 : decode cX11_witness 32 = .ok (.bipush (-2), 2) := by decide +kernel
theorem dX11_witness_34 : decode cX11_witness 34 = .ok (.ireturn, 1) := by decide +kernel
theorem dX11_truth_0 : decode cX11_truth 0 = .ok (.iload_n 1, 1) := by decide +kernel
theorem dX11_truth_1 : decode cX11_truth 1 = .ok (.invokestatic 138, 3) := by decide +kernel
theorem dX11_truth_4 : decode cX11_truth 4 = .ok (.ifCond .ne 5, 3) := by decide +kernel
theorem dX11_truth_7 : decode cX11_truth 7 = .ok (.iconst (-1), 1) := by decide +kernel
theorem dX11_truth_8 : decode cX11_truth 8 = .ok (.ireturn, 1) := by decide +kernel
theorem dX11_truth_9 : decode cX11_truth 9 = .ok (.aload_n 0, 1) := by decide +kernel
theorem dX11_truth_10 : decode cX11_truth 10 = .ok (.getfield 25, 3) := by decide +kernel
theorem dX11_truth_13 : decode cX11_truth 13 = .ok (.getfield 114, 3) := by decide +kernel
theorem dX11_truth_16 : decode cX11_truth 16 = .ok (.istore_n 2, 1) := by decide +kernel
theorem dX11_truth_17 : decode cX11_truth 17 = .ok (.aload_n 0, 1) := by decide +kernel
theorem dX11_truth_18 : decode cX11_truth 18 = .ok (.getfield 25, 3) := by decide +kernel
theorem dX11_truth_21 : decode cX11_truth 21 = .ok (.iload_n 1, 1) := by decide +kernel
theorem dX11_truth_22 : decode cX11_truth 22 = .ok (.putfield 114, 3) := by decide +kernel
theorem dX11_truth_25 : decode cX11_truth 25 = .ok (.iload_n 2, 1) := by decide +kernel
theorem dX11_truth_26 : decode cX11_truth 26 = .ok (.ireturn, 1) := by decide +kernel
theorem dX11_worlds_0 : decode cX11_worlds 0 = .ok (.iload_n 1, 1) := by decide +kernel
theorem dX11_worlds_1 : decode cX11_worlds 1 = .ok (.invokestatic 182, 3) := by decide +kernel
theorem dX11_worlds_4 : decode cX11_worlds 4 = .ok (.ifCond .eq 14, 3) := by decide +kernel
theorem dX11_worlds_7 : decode cX11_worlds 7 = .ok (.aload_n 0, 1) := by decide +kernel
theorem dX11_worlds_8 : decode cX11_worlds 8 = .ok (.getfield 25, 3) := by decide +kernel
theorem dX11_worlds_11 : decode cX11_worlds 11 = .ok (.iload_n 1, 1) := by decide +kernel
theorem dX11_worlds_12 : decode cX11_worlds 12 = .ok (.invokevirtual 185, 3) := by decide +kernel
theorem dX11_worlds_15 : decode cX11_worlds 15 = .ok (.goto 7, 3) := by decide +kernel
theorem dX11_worlds_18 : decode cX11_worlds 18 = .ok (.iconst (-1), 1) := by decide +kernel
theorem dX11_worlds_19 : decode cX11_worlds 19 = .ok (.invokestatic 189, 3) := by decide +kernel
theorem dX11_worlds_22 : decode cX11_worlds 22 = .ok (.lreturn, 1) := by decide +kernel
theorem dX11_many_0 : decode cX11_many 0 = .ok (.iload_n 1, 1) := by decide +kernel
theorem dX11_many_1 : decode cX11_many 1 = .ok (.invokestatic 182, 3) := by decide +kernel
theorem dX11_many_4 : decode cX11_many 4 = .ok (.ifCond .eq 17, 3) := by decide +kernel
theorem dX11_many_7 : decode cX11_many 7 = .ok (.aload_n 0, 1) := by decide +kernel
theorem dX11_many_8 : decode cX11_many 8 = .ok (.getfield 25, 3) := by decide +kernel
theorem dX11_many_11 : decode cX11_many 11 = .ok (.iload_n 1, 1) := by decide +kernel
theorem dX11_many_12 : decode cX11_many 12 = .ok (.invokevirtual 185, 3) := by decide +kernel
theorem dX11_many_15 : decode cX11_many 15 = .ok (.invokestatic 192, 3) := by decide +kernel
theorem dX11_many_18 : decode cX11_many 18 = .ok (.goto 4, 3) := by decide +kernel
theorem dX11_many_21 : decode cX11_many 21 = .ok (.iconst (-1), 1) := by decide +kernel
theorem dX11_many_22 : decode cX11_many 22 = .ok (.ireturn, 1) := by decide +kernel
theorem dX11_proved_0 : decode cX11_proved 0 = .ok (.iload_n 1, 1) := by decide +kernel
theorem dX11_proved_1 : decode cX11_proved 1 = .ok (.invokestatic 182, 3) := by decide +kernel
theorem dX11_proved_4 : decode cX11_proved 4 = .ok (.ifCond .ne 5, 3) := by decide +kernel
theorem dX11_proved_7 : decode cX11_proved 7 = .ok (.iconst (-1), 1) := by decide +kernel
theorem dX11_proved_8 : decode cX11_proved 8 = .ok (.ireturn, 1) := by decide +kernel
theorem dX11_proved_9 : decode cX11_proved 9 = .ok (.iload_n 1, 1) := by decide +kernel
theorem dX11_proved_10 : decode cX11_proved 10 = .ok (.ifCond .ne 16, 3) := by decide +kernel
theorem dX11_proved_13 : decode cX11_proved 13 = .ok (.aload_n 0, 1) := by decide +kernel
theorem dX11_proved_14 : decode cX11_proved 14 = .ok (.getfield 25, 3) := by decide +kernel
theorem dX11_proved_17 : decode cX11_proved 17 = .ok (.invokevirtual 198, 3) := by decide +kernel
theorem dX11_proved_20 : decode cX11_proved 20 = .ok (.invokestatic 202, 3) := by decide +kernel
theorem dX11_proved_23 : decode cX11_proved 23 = .ok (.goto 13, 3) := by decide +kernel
theorem dX11_proved_26 : decode cX11_proved 26 = .ok (.aload_n 0, 1) := by decide +kernel
theorem dX11_proved_27 : decode cX11_proved 27 = .ok (.getfield 25, 3) := by decide +kernel
theorem dX11_proved_30 : decode cX11_proved 30 = .ok (.invokevirtual 198, 3) := by decide +kernel
theorem dX11_proved_33 : decode cX11_proved 33 = .ok (.invokestatic 205, 3) := by decide +kernel
theorem dX11_proved_36 : decode cX11_proved 36 = .ok (.ireturn, 1) := by decide +kernel
theorem dX11_slips_0 : decode cX11_slips 0 = .ok (.iload_n 1, 1) := by decide +kernel
theorem dX11_slips_1 : decode cX11_slips 1 = .ok (.invokestatic 182, 3) := by decide +kernel
theorem dX11_slips_4 : decode cX11_slips 4 = .ok (.ifCond .ne 5, 3) := by decide +kernel
theorem dX11_slips_7 : decode cX11_slips 7 = .ok (.iconst (-1), 1) := by decide +kernel
theorem dX11_slips_8 : decode cX11_slips 8 = .ok (.ireturn, 1) := by decide +kernel
theorem dX11_slips_9 : decode cX11_slips 9 = .ok (.aload_n 0, 1) := by decide +kernel
theorem dX11_slips_10 : decode cX11_slips 10 = .ok (.getfield 25, 3) := by decide +kernel
theorem dX11_slips_13 : decode cX11_slips 13 = .ok (.aload_n 0, 1) := by decide +kernel
theorem dX11_slips_14 : decode cX11_slips 14 = .ok (.getfield 25, 3) := by decide +kernel
theorem dX11_slips_17 : decode cX11_slips 17 = .ok (.getfield 114, 3) := by decide +kernel
theorem dX11_slips_20 : decode cX11_slips 20 = .ok (.invokevirtual 208, 3) := by decide +kernel
theorem dX11_slips_23 : decode cX11_slips 23 = .ok (.istore_n 2, 1) := by decide +kernel
theorem dX11_slips_24 : decode cX11_slips 24 = .ok (.iload_n 1, 1) := by decide +kernel
theorem dX11_slips_25 : decode cX11_slips 25 = .ok (.ifCond .ne 5, 3) := by decide +kernel
theorem dX11_slips_28 : decode cX11_slips 28 = .ok (.iload_n 2, 1) := by decide +kernel
theorem dX11_slips_29 : decode cX11_slips 29 = .ok (.ireturn, 1) := by decide +kernel
theorem dX11_slips_30 : decode cX11_slips 30 = .ok (.iload_n 2, 1) := by decide +kernel
theorem dX11_slips_31 : decode cX11_slips 31 = .ok (.ifCond .ne 8, 3) := by decide +kernel
theorem dX11_slips_34 : decode cX11_slips 34 = .ok (.bipush (-4), 2) := by decide +kernel
theorem dX11_slips_36 : decode cX11_slips 36 = .ok (.goto 7, 3) := by decide +kernel
theorem dX11_slips_39 : decode cX11_slips 39 = .ok (.iload_n 2, 1) := by decide +kernel
theorem dX11_slips_40 : decode cX11_slips 40 = .ok (.invokestatic 211, 3) := by decide +kernel
theorem dX11_slips_43 : decode cX11_slips 43 = .ok (.ireturn, 1) := by decide +kernel
theorem dX11_alone_0 : decode cX11_alone 0 = .ok (.aload_n 0, 1) := by decide +kernel
theorem dX11_alone_1 : decode cX11_alone 1 = .ok (.getfield 25, 3) := by decide +kernel
theorem dX11_alone_4 : decode cX11_alone 4 = .ok (.getfield 107, 3) := by decide +kernel
theorem dX11_alone_7 : decode cX11_alone 7 = .ok (.iload_n 1, 1) := by decide +kernel
theorem dX11_alone_8 : decode cX11_alone 8 = .ok (.invokestatic 97, 3) := by decide +kernel
theorem dX11_alone_11 : decode cX11_alone 11 = .ok (.astore_n 2, 1) := by decide +kernel
theorem dX11_alone_12 : decode cX11_alone 12 = .ok (.aload_n 2, 1) := by decide +kernel
theorem dX11_alone_13 : decode cX11_alone 13 = .ok (.ifnonnull 7, 3) := by decide +kernel
theorem dX11_alone_16 : decode cX11_alone 16 = .ok (.iconst (-1), 1) := by decide +kernel
theorem dX11_alone_17 : decode cX11_alone 17 = .ok (.goto 22, 3) := by decide +kernel
theorem dX11_alone_20 : decode cX11_alone 20 = .ok (.aload_n 0, 1) := by decide +kernel
theorem dX11_alone_21 : decode cX11_alone 21 = .ok (.getfield 25, 3) := by decide +kernel
theorem dX11_alone_24 : decode cX11_alone 24 = .ok (.invokevirtual 216, 3) := by decide +kernel
theorem dX11_alone_27 : decode cX11_alone 27 = .ok (.aload_n 2, 1) := by decide +kernel
theorem dX11_alone_28 : decode cX11_alone 28 = .ok (.getfield 110, 3) := by decide +kernel
theorem dX11_alone_31 : decode cX11_alone 31 = .ok (.ldc2_w 219, 3) := by decide +kernel
theorem dX11_alone_34 : decode cX11_alone 34 = .ok (.lxor, 1) := by decide +kernel
theorem dX11_alone_35 : decode cX11_alone 35 = .ok (.land, 1) := by decide +kernel
theorem dX11_alone_36 : decode cX11_alone 36 = .ok (.invokestatic 192, 3) := by decide +kernel
theorem dX11_alone_39 : decode cX11_alone 39 = .ok (.ireturn, 1) := by decide +kernel
theorem dX11_clash_0 : decode cX11_clash 0 = .ok (.aload_n 0, 1) := by decide +kernel
theorem dX11_clash_1 : decode cX11_clash 1 = .ok (.getfield 25, 3) := by decide +kernel
theorem dX11_clash_4 : decode cX11_clash 4 = .ok (.invokevirtual 216, 3) := by decide +kernel
theorem dX11_clash_7 : decode cX11_clash 7 = .ok (.lstore_n 1, 1) := by decide +kernel
theorem dX11_clash_8 : decode cX11_clash 8 = .ok (.iconst 0, 1) := by decide +kernel
theorem dX11_clash_9 : decode cX11_clash 9 = .ok (.istore_n 3, 1) := by decide +kernel
theorem dX11_clash_10 : decode cX11_clash 10 = .ok (.iload_n 3, 1) := by decide +kernel
theorem dX11_clash_11 : decode cX11_clash 11 = .ok (.aload_n 0, 1) := by decide +kernel
theorem dX11_clash_12 : decode cX11_clash 12 = .ok (.getfield 25, 3) := by decide +kernel
theorem dX11_clash_15 : decode cX11_clash 15 = .ok (.getfield 107, 3) := by decide +kernel
theorem dX11_clash_18 : decode cX11_clash 18 = .ok (.invokevirtual 163, 3) := by decide +kernel
theorem dX11_clash_21 : decode cX11_clash 21 = .ok (.if_icmp .ge 118, 3) := by decide +kernel
theorem dX11_clash_24 : decode cX11_clash 24 = .ok (.lload_n 1, 1) := by decide +kernel
theorem dX11_clash_25 : decode cX11_clash 25 = .ok (.aload_n 0, 1) := by decide +kernel
theorem dX11_clash_26 : decode cX11_clash 26 = .ok (.getfield 25, 3) := by decide +kernel
theorem dX11_clash_29 : decode cX11_clash 29 = .ok (.getfield 107, 3) := by decide +kernel
theorem dX11_clash_32 : decode cX11_clash 32 = .ok (.iload_n 3, 1) := by decide +kernel
theorem dX11_clash_33 : decode cX11_clash 33 = .ok (.invokevirtual 221, 3) := by decide +kernel
theorem dX11_clash_36 : decode cX11_clash 36 = .ok (.checkcast 102, 3) := by decide +kernel
theorem dX11_clash_39 : decode cX11_clash 39 = .ok (.getfield 110, 3) := by decide +kernel
theorem dX11_clash_42 : decode cX11_clash 42 = .ok (.ldc2_w 219, 3) := by decide +kernel
theorem dX11_clash_45 : decode cX11_clash 45 = .ok (.lxor, 1) := by decide +kernel
theorem dX11_clash_46 : decode cX11_clash 46 = .ok (.land, 1) := by decide +kernel
theorem dX11_clash_47 : decode cX11_clash 47 = .ok (.lstore 4, 2) := by decide +kernel
theorem dX11_clash_49 : decode cX11_clash 49 = .ok (.iload_n 3, 1) := by decide +kernel
theorem dX11_clash_50 : decode cX11_clash 50 = .ok (.iconst 1, 1) := by decide +kernel
theorem dX11_clash_51 : decode cX11_clash 51 = .ok (.iadd, 1) := by decide +kernel
theorem dX11_clash_52 : decode cX11_clash 52 = .ok (.istore 6, 2) := by decide +kernel
theorem dX11_clash_54 : decode cX11_clash 54 = .ok (.iload 6, 2) := by decide +kernel
theorem dX11_clash_56 : decode cX11_clash 56 = .ok (.aload_n 0, 1) := by decide +kernel
theorem dX11_clash_57 : decode cX11_clash 57 = .ok (.getfield 25, 3) := by decide +kernel
theorem dX11_clash_60 : decode cX11_clash 60 = .ok (.getfield 107, 3) := by decide +kernel
theorem dX11_clash_63 : decode cX11_clash 63 = .ok (.invokevirtual 163, 3) := by decide +kernel
theorem dX11_clash_66 : decode cX11_clash 66 = .ok (.if_icmp .ge 67, 3) := by decide +kernel
theorem dX11_clash_69 : decode cX11_clash 69 = .ok (.lload_n 1, 1) := by decide +kernel
theorem dX11_clash_70 : decode cX11_clash 70 = .ok (.aload_n 0, 1) := by decide +kernel
theorem dX11_clash_71 : decode cX11_clash 71 = .ok (.getfield 25, 3) := by decide +kernel
theorem dX11_clash_74 : decode cX11_clash 74 = .ok (.getfield 107, 3) := by decide +kernel
theorem dX11_clash_77 : decode cX11_clash 77 = .ok (.iload 6, 2) := by decide +kernel
theorem dX11_clash_79 : decode cX11_clash 79 = .ok (.invokevirtual 221, 3) := by decide +kernel
theorem dX11_clash_82 : decode cX11_clash 82 = .ok (.checkcast 102, 3) := by decide +kernel
theorem dX11_clash_85 : decode cX11_clash 85 = .ok (.getfield 110, 3) := by decide +kernel
theorem dX11_clash_88 : decode cX11_clash 88 = .ok (.ldc2_w 219, 3) := by decide +kernel
theorem dX11_clash_91 : decode cX11_clash 91 = .ok (.lxor, 1) := by decide +kernel
theorem dX11_clash_92 : decode cX11_clash 92 = .ok (.land, 1) := by decide +kernel
theorem dX11_clash_93 : decode cX11_clash 93 = .ok (.lstore 7, 2) := by decide +kernel
theorem dX11_clash_95 : decode cX11_clash 95 = .ok (.lload 4, 2) := by decide +kernel
theorem dX11_clash_97 : decode cX11_clash 97 = .ok (.lconst 0, 1) := by decide +kernel
theorem dX11_clash_98 : decode cX11_clash 98 = .ok (.lcmp, 1) := by decide +kernel
theorem dX11_clash_99 : decode cX11_clash 99 = .ok (.ifCond .eq 28, 3) := by decide +kernel
theorem dX11_clash_102 : decode cX11_clash 102 = .ok (.lload 7, 2) := by decide +kernel
theorem dX11_clash_104 : decode cX11_clash 104 = .ok (.lconst 0, 1) := by decide +kernel
theorem dX11_clash_105 : decode cX11_clash 105 = .ok (.lcmp, 1) := by decide +kernel
theorem dX11_clash_106 : decode cX11_clash 106 = .ok (.ifCond .eq 21, 3) := by decide +kernel
theorem dX11_clash_109 : decode cX11_clash 109 = .ok (.lload 4, 2) := by decide +kernel
theorem dX11_clash_111 : decode cX11_clash 111 = .ok (.lload 7, 2) := by decide +kernel
theorem dX11_clash_113 : decode cX11_clash 113 = .ok (.land, 1) := by decide +kernel
theorem dX11_clash_114 : decode cX11_clash 114 = .ok (.lconst 0, 1) := by decide +kernel
theorem dX11_clash_115 : decode cX11_clash 115 = .ok (.lcmp, 1) := by decide +kernel
theorem dX11_clash_116 : decode cX11_clash 116 = .ok (.ifCond .ne 11, 3) := by decide +kernel
theorem dX11_clash_119 : decode cX11_clash 119 = .ok (.bipush 10, 2) := by decide +kernel
theorem dX11_clash_121 : decode cX11_clash 121 = .ok (.iload_n 3, 1) := by decide +kernel
theorem dX11_clash_122 : decode cX11_clash 122 = .ok (.imul, 1) := by decide +kernel
theorem dX11_clash_123 : decode cX11_clash 123 = .ok (.iload 6, 2) := by decide +kernel
theorem dX11_clash_125 : decode cX11_clash 125 = .ok (.iadd, 1) := by decide +kernel
theorem dX11_clash_126 : decode cX11_clash 126 = .ok (.ireturn, 1) := by decide +kernel
theorem dX11_clash_127 : decode cX11_clash 127 = .ok (.iinc 6 1, 3) := by decide +kernel
theorem dX11_clash_130 : decode cX11_clash 130 = .ok (.goto (-76), 3) := by decide +kernel
theorem dX11_clash_133 : decode cX11_clash 133 = .ok (.iinc 3 1, 3) := by decide +kernel
theorem dX11_clash_136 : decode cX11_clash 136 = .ok (.goto (-126), 3) := by decide +kernel
theorem dX11_clash_139 : decode cX11_clash 139 = .ok (.bipush (-4), 2) := by decide +kernel
theorem dX11_clash_141 : decode cX11_clash 141 = .ok (.ireturn, 1) := by decide +kernel
theorem dX11_proof_0 : decode cX11_proof 0 = .ok (.iload_n 1, 1) := by decide +kernel
theorem dX11_proof_1 : decode cX11_proof 1 = .ok (.invokestatic 135, 3) := by decide +kernel
theorem dX11_proof_4 : decode cX11_proof 4 = .ok (.ifCond .ne 5, 3) := by decide +kernel
theorem dX11_proof_7 : decode cX11_proof 7 = .ok (.iconst (-1), 1) := by decide +kernel
theorem dX11_proof_8 : decode cX11_proof 8 = .ok (.ireturn, 1) := by decide +kernel
theorem dX11_proof_9 : decode cX11_proof 9 = .ok (.aload_n 0, 1) := by decide +kernel
theorem dX11_proof_10 : decode cX11_proof 10 = .ok (.getfield 25, 3) := by decide +kernel
theorem dX11_proof_13 : decode cX11_proof 13 = .ok (.invokevirtual 216, 3) := by decide +kernel
theorem dX11_proof_16 : decode cX11_proof 16 = .ok (.lstore_n 2, 1) := by decide +kernel
theorem dX11_proof_17 : decode cX11_proof 17 = .ok (.bipush (-4), 2) := by decide +kernel
theorem dX11_proof_19 : decode cX11_proof 19 = .ok (.istore 4, 2) := by decide +kernel
theorem dX11_proof_21 : decode cX11_proof 21 = .ok (.bipush 11, 2) := by decide +kernel
theorem dX11_proof_23 : decode cX11_proof 23 = .ok (.istore 5, 2) := by decide +kernel
theorem dX11_proof_25 : decode cX11_proof 25 = .ok (.iconst 0, 1) := by decide +kernel
theorem dX11_proof_26 : decode cX11_proof 26 = .ok (.istore 6, 2) := by decide +kernel
theorem dX11_proof_28 : decode cX11_proof 28 = .ok (.iload 6, 2) := by decide +kernel
theorem dX11_proof_30 : decode cX11_proof 30 = .ok (.iconst 1, 1) := by decide +kernel
theorem dX11_proof_31 : decode cX11_proof 31 = .ok (.aload_n 0, 1) := by decide +kernel
theorem dX11_proof_32 : decode cX11_proof 32 = .ok (.getfield 25, 3) := by decide +kernel
theorem dX11_proof_35 : decode cX11_proof 35 = .ok (.getfield 107, 3) := by decide +kernel
theorem dX11_proof_38 : decode cX11_proof 38 = .ok (.invokevirtual 163, 3) := by decide +kernel
theorem dX11_proof_41 : decode cX11_proof 41 = .ok (.ishl, 1) := by decide +kernel
theorem dX11_proof_42 : decode cX11_proof 42 = .ok (.if_icmp .ge 48, 3) := by decide +kernel
theorem dX11_proof_45 : decode cX11_proof 45 = .ok (.iload 6, 2) := by decide +kernel
theorem dX11_proof_47 : decode cX11_proof 47 = .ok (.invokestatic 224, 3) := by decide +kernel
theorem dX11_proof_50 : decode cX11_proof 50 = .ok (.istore 7, 2) := by decide +kernel
theorem dX11_proof_52 : decode cX11_proof 52 = .ok (.iload 7, 2) := by decide +kernel
theorem dX11_proof_54 : decode cX11_proof 54 = .ok (.iload 5, 2) := by decide +kernel
theorem dX11_proof_56 : decode cX11_proof 56 = .ok (.if_icmp .ge 28, 3) := by decide +kernel
theorem dX11_proof_59 : decode cX11_proof 59 = .ok (.aload_n 0, 1) := by decide +kernel
theorem dX11_proof_60 : decode cX11_proof 60 = .ok (.getfield 25, 3) := by decide +kernel
theorem dX11_proof_63 : decode cX11_proof 63 = .ok (.lload_n 2, 1) := by decide +kernel
theorem dX11_proof_64 : decode cX11_proof 64 = .ok (.iload 6, 2) := by decide +kernel
theorem dX11_proof_66 : decode cX11_proof 66 = .ok (.invokevirtual 226, 3) := by decide +kernel
theorem dX11_proof_69 : decode cX11_proof 69 = .ok (.iload_n 1, 1) := by decide +kernel
theorem dX11_proof_70 : decode cX11_proof 70 = .ok (.invokestatic 230, 3) := by decide +kernel
theorem dX11_proof_73 : decode cX11_proof 73 = .ok (.ifCond .eq 11, 3) := by decide +kernel
theorem dX11_proof_76 : decode cX11_proof 76 = .ok (.iload 6, 2) := by decide +kernel
theorem dX11_proof_78 : decode cX11_proof 78 = .ok (.istore 4, 2) := by decide +kernel
theorem dX11_proof_80 : decode cX11_proof 80 = .ok (.iload 7, 2) := by decide +kernel
theorem dX11_proof_82 : decode cX11_proof 82 = .ok (.istore 5, 2) := by decide +kernel
theorem dX11_proof_84 : decode cX11_proof 84 = .ok (.iinc 6 1, 3) := by decide +kernel
theorem dX11_proof_87 : decode cX11_proof 87 = .ok (.goto (-59), 3) := by decide +kernel
theorem dX11_proof_90 : decode cX11_proof 90 = .ok (.iload 4, 2) := by decide +kernel
theorem dX11_proof_92 : decode cX11_proof 92 = .ok (.ireturn, 1) := by decide +kernel
theorem dX11_slipped_0 : decode cX11_slipped 0 = .ok (.aload_n 0, 1) := by decide +kernel
theorem dX11_slipped_1 : decode cX11_slipped 1 = .ok (.getfield 25, 3) := by decide +kernel
theorem dX11_slipped_4 : decode cX11_slipped 4 = .ok (.invokevirtual 216, 3) := by decide +kernel
theorem dX11_slipped_7 : decode cX11_slipped 7 = .ok (.lstore_n 1, 1) := by decide +kernel
theorem dX11_slipped_8 : decode cX11_slipped 8 = .ok (.bipush (-4), 2) := by decide +kernel
theorem dX11_slipped_10 : decode cX11_slipped 10 = .ok (.istore_n 3, 1) := by decide +kernel
theorem dX11_slipped_11 : decode cX11_slipped 11 = .ok (.bipush 11, 2) := by decide +kernel
theorem dX11_slipped_13 : decode cX11_slipped 13 = .ok (.istore 4, 2) := by decide +kernel
theorem dX11_slipped_15 : decode cX11_slipped 15 = .ok (.iconst 0, 1) := by decide +kernel
theorem dX11_slipped_16 : decode cX11_slipped 16 = .ok (.istore 5, 2) := by decide +kernel
theorem dX11_slipped_18 : decode cX11_slipped 18 = .ok (.iload 5, 2) := by decide +kernel
theorem dX11_slipped_20 : decode cX11_slipped 20 = .ok (.bipush 64, 2) := by decide +kernel
theorem dX11_slipped_22 : decode cX11_slipped 22 = .ok (.if_icmp .ge 66, 3) := by decide +kernel
theorem dX11_slipped_25 : decode cX11_slipped 25 = .ok (.lload_n 1, 1) := by decide +kernel
theorem dX11_slipped_26 : decode cX11_slipped 26 = .ok (.iload 5, 2) := by decide +kernel
theorem dX11_slipped_28 : decode cX11_slipped 28 = .ok (.invokestatic 117, 3) := by decide +kernel
theorem dX11_slipped_31 : decode cX11_slipped 31 = .ok (.ifCond .ne 6, 3) := by decide +kernel
theorem dX11_slipped_34 : decode cX11_slipped 34 = .ok (.goto 48, 3) := by decide +kernel
theorem dX11_slipped_37 : decode cX11_slipped 37 = .ok (.aload_n 0, 1) := by decide +kernel
theorem dX11_slipped_38 : decode cX11_slipped 38 = .ok (.getfield 25, 3) := by decide +kernel
theorem dX11_slipped_41 : decode cX11_slipped 41 = .ok (.iload 5, 2) := by decide +kernel
theorem dX11_slipped_43 : decode cX11_slipped 43 = .ok (.invokevirtual 208, 3) := by decide +kernel
theorem dX11_slipped_46 : decode cX11_slipped 46 = .ok (.istore 6, 2) := by decide +kernel
theorem dX11_slipped_48 : decode cX11_slipped 48 = .ok (.iload 6, 2) := by decide +kernel
theorem dX11_slipped_50 : decode cX11_slipped 50 = .ok (.invokestatic 224, 3) := by decide +kernel
theorem dX11_slipped_53 : decode cX11_slipped 53 = .ok (.istore 7, 2) := by decide +kernel
theorem dX11_slipped_55 : decode cX11_slipped 55 = .ok (.iload 7, 2) := by decide +kernel
theorem dX11_slipped_57 : decode cX11_slipped 57 = .ok (.iload 4, 2) := by decide +kernel
theorem dX11_slipped_59 : decode cX11_slipped 59 = .ok (.if_icmp .lt 16, 3) := by decide +kernel
theorem dX11_slipped_62 : decode cX11_slipped 62 = .ok (.iload 7, 2) := by decide +kernel
theorem dX11_slipped_64 : decode cX11_slipped 64 = .ok (.iload 4, 2) := by decide +kernel
theorem dX11_slipped_66 : decode cX11_slipped 66 = .ok (.if_icmp .ne 16, 3) := by decide +kernel
theorem dX11_slipped_69 : decode cX11_slipped 69 = .ok (.iload 6, 2) := by decide +kernel
theorem dX11_slipped_71 : decode cX11_slipped 71 = .ok (.iload_n 3, 1) := by decide +kernel
theorem dX11_slipped_72 : decode cX11_slipped 72 = .ok (.if_icmp .ge 10, 3) := by decide +kernel
theorem dX11_slipped_75 : decode cX11_slipped 75 = .ok (.iload 6, 2) := by decide +kernel
theorem dX11_slipped_77 : decode cX11_slipped 77 = .ok (.istore_n 3, 1) := by decide +kernel
theorem dX11_slipped_78 : decode cX11_slipped 78 = .ok (.iload 7, 2) := by decide +kernel
theorem dX11_slipped_80 : decode cX11_slipped 80 = .ok (.istore 4, 2) := by decide +kernel
theorem dX11_slipped_82 : decode cX11_slipped 82 = .ok (.iinc 5 1, 3) := by decide +kernel
theorem dX11_slipped_85 : decode cX11_slipped 85 = .ok (.goto (-67), 3) := by decide +kernel
theorem dX11_slipped_88 : decode cX11_slipped 88 = .ok (.iload_n 3, 1) := by decide +kernel
theorem dX11_slipped_89 : decode cX11_slipped 89 = .ok (.ireturn, 1) := by decide +kernel
theorem dX11_ask_0 : decode cX11_ask 0 = .ok (.aload_n 0, 1) := by decide +kernel
theorem dX11_ask_1 : decode cX11_ask 1 = .ok (.getfield 25, 3) := by decide +kernel
theorem dX11_ask_4 : decode cX11_ask 4 = .ok (.invokevirtual 198, 3) := by decide +kernel
theorem dX11_ask_7 : decode cX11_ask 7 = .ok (.lstore_n 1, 1) := by decide +kernel
theorem dX11_ask_8 : decode cX11_ask 8 = .ok (.lload_n 1, 1) := by decide +kernel
theorem dX11_ask_9 : decode cX11_ask 9 = .ok (.lconst 0, 1) := by decide +kernel
theorem dX11_ask_10 : decode cX11_ask 10 = .ok (.lcmp, 1) := by decide +kernel
theorem dX11_ask_11 : decode cX11_ask 11 = .ok (.ifCond .ne 6, 3) := by decide +kernel
theorem dX11_ask_14 : decode cX11_ask 14 = .ok (.bipush (-4), 2) := by decide +kernel
theorem dX11_ask_16 : decode cX11_ask 16 = .ok (.ireturn, 1) := by decide +kernel
theorem dX11_ask_17 : decode cX11_ask 17 = .ok (.bipush (-4), 2) := by decide +kernel
theorem dX11_ask_19 : decode cX11_ask 19 = .ok (.istore_n 3, 1) := by decide +kernel
theorem dX11_ask_20 : decode cX11_ask 20 = .ok (.iconst (-1), 1) := by decide +kernel
theorem dX11_ask_21 : decode cX11_ask 21 = .ok (.istore 4, 2) := by decide +kernel
theorem dX11_ask_23 : decode cX11_ask 23 = .ok (.iconst 0, 1) := by decide +kernel
theorem dX11_ask_24 : decode cX11_ask 24 = .ok (.istore 5, 2) := by decide +kernel
theorem dX11_ask_26 : decode cX11_ask 26 = .ok (.iload 5, 2) := by decide +kernel
theorem dX11_ask_28 : decode cX11_ask 28 = .ok (.bipush 6, 2) := by decide +kernel
theorem dX11_ask_30 : decode cX11_ask 30 = .ok (.if_icmp .ge 49, 3) := by decide +kernel
theorem dX11_ask_33 : decode cX11_ask 33 = .ok (.lload_n 1, 1) := by decide +kernel
theorem dX11_ask_34 : decode cX11_ask 34 = .ok (.iload 5, 2) := by decide +kernel
theorem dX11_ask_36 : decode cX11_ask 36 = .ok (.invokestatic 233, 3) := by decide +kernel
theorem dX11_ask_39 : decode cX11_ask 39 = .ok (.land, 1) := by decide +kernel
theorem dX11_ask_40 : decode cX11_ask 40 = .ok (.invokestatic 192, 3) := by decide +kernel
theorem dX11_ask_43 : decode cX11_ask 43 = .ok (.istore 6, 2) := by decide +kernel
theorem dX11_ask_45 : decode cX11_ask 45 = .ok (.iload 6, 2) := by decide +kernel
theorem dX11_ask_47 : decode cX11_ask 47 = .ok (.lload_n 1, 1) := by decide +kernel
theorem dX11_ask_48 : decode cX11_ask 48 = .ok (.invokestatic 192, 3) := by decide +kernel
theorem dX11_ask_51 : decode cX11_ask 51 = .ok (.iload 6, 2) := by decide +kernel
theorem dX11_ask_53 : decode cX11_ask 53 = .ok (.isub, 1) := by decide +kernel
theorem dX11_ask_54 : decode cX11_ask 54 = .ok (.invokestatic 236, 3) := by decide +kernel
theorem dX11_ask_57 : decode cX11_ask 57 = .ok (.istore 7, 2) := by decide +kernel
theorem dX11_ask_59 : decode cX11_ask 59 = .ok (.iload 7, 2) := by decide +kernel
theorem dX11_ask_61 : decode cX11_ask 61 = .ok (.iload 4, 2) := by decide +kernel
theorem dX11_ask_63 : decode cX11_ask 63 = .ok (.if_icmp .le 10, 3) := by decide +kernel
theorem dX11_ask_66 : decode cX11_ask 66 = .ok (.iload 5, 2) := by decide +kernel
theorem dX11_ask_68 : decode cX11_ask 68 = .ok (.istore_n 3, 1) := by decide +kernel
theorem dX11_ask_69 : decode cX11_ask 69 = .ok (.iload 7, 2) := by decide +kernel
theorem dX11_ask_71 : decode cX11_ask 71 = .ok (.istore 4, 2) := by decide +kernel
theorem dX11_ask_73 : decode cX11_ask 73 = .ok (.iinc 5 1, 3) := by decide +kernel
theorem dX11_ask_76 : decode cX11_ask 76 = .ok (.goto (-50), 3) := by decide +kernel
theorem dX11_ask_79 : decode cX11_ask 79 = .ok (.iload_n 3, 1) := by decide +kernel
theorem dX11_ask_80 : decode cX11_ask 80 = .ok (.ireturn, 1) := by decide +kernel
theorem dX11_plain_0 : decode cX11_plain 0 = .ok (.bipush (-4), 2) := by decide +kernel
theorem dX11_plain_2 : decode cX11_plain 2 = .ok (.istore_n 1, 1) := by decide +kernel
theorem dX11_plain_3 : decode cX11_plain 3 = .ok (.bipush 6, 2) := by decide +kernel
theorem dX11_plain_5 : decode cX11_plain 5 = .ok (.istore_n 2, 1) := by decide +kernel
theorem dX11_plain_6 : decode cX11_plain 6 = .ok (.iconst 0, 1) := by decide +kernel
theorem dX11_plain_7 : decode cX11_plain 7 = .ok (.istore_n 3, 1) := by decide +kernel
theorem dX11_plain_8 : decode cX11_plain 8 = .ok (.iload_n 3, 1) := by decide +kernel
theorem dX11_plain_9 : decode cX11_plain 9 = .ok (.iconst 1, 1) := by decide +kernel
theorem dX11_plain_10 : decode cX11_plain 10 = .ok (.aload_n 0, 1) := by decide +kernel
theorem dX11_plain_11 : decode cX11_plain 11 = .ok (.getfield 25, 3) := by decide +kernel
theorem dX11_plain_14 : decode cX11_plain 14 = .ok (.getfield 179, 3) := by decide +kernel
theorem dX11_plain_17 : decode cX11_plain 17 = .ok (.ishl, 1) := by decide +kernel
theorem dX11_plain_18 : decode cX11_plain 18 = .ok (.if_icmp .ge 37, 3) := by decide +kernel
theorem dX11_plain_21 : decode cX11_plain 21 = .ok (.iload_n 3, 1) := by decide +kernel
theorem dX11_plain_22 : decode cX11_plain 22 = .ok (.invokestatic 224, 3) := by decide +kernel
theorem dX11_plain_25 : decode cX11_plain 25 = .ok (.istore 4, 2) := by decide +kernel
theorem dX11_plain_27 : decode cX11_plain 27 = .ok (.iload 4, 2) := by decide +kernel
theorem dX11_plain_29 : decode cX11_plain 29 = .ok (.iload_n 2, 1) := by decide +kernel
theorem dX11_plain_30 : decode cX11_plain 30 = .ok (.if_icmp .ge 19, 3) := by decide +kernel
theorem dX11_plain_33 : decode cX11_plain 33 = .ok (.aload_n 0, 1) := by decide +kernel
theorem dX11_plain_34 : decode cX11_plain 34 = .ok (.getfield 25, 3) := by decide +kernel
theorem dX11_plain_37 : decode cX11_plain 37 = .ok (.iload_n 3, 1) := by decide +kernel
theorem dX11_plain_38 : decode cX11_plain 38 = .ok (.invokevirtual 242, 3) := by decide +kernel
theorem dX11_plain_41 : decode cX11_plain 41 = .ok (.ifCond .eq 8, 3) := by decide +kernel
theorem dX11_plain_44 : decode cX11_plain 44 = .ok (.iload_n 3, 1) := by decide +kernel
theorem dX11_plain_45 : decode cX11_plain 45 = .ok (.istore_n 1, 1) := by decide +kernel
theorem dX11_plain_46 : decode cX11_plain 46 = .ok (.iload 4, 2) := by decide +kernel
theorem dX11_plain_48 : decode cX11_plain 48 = .ok (.istore_n 2, 1) := by decide +kernel
theorem dX11_plain_49 : decode cX11_plain 49 = .ok (.iinc 3 1, 3) := by decide +kernel
theorem dX11_plain_52 : decode cX11_plain 52 = .ok (.goto (-44), 3) := by decide +kernel
theorem dX11_plain_55 : decode cX11_plain 55 = .ok (.iload_n 1, 1) := by decide +kernel
theorem dX11_plain_56 : decode cX11_plain 56 = .ok (.ireturn, 1) := by decide +kernel
theorem dX11_order_0 : decode cX11_order 0 = .ok (.iload_n 1, 1) := by decide +kernel
theorem dX11_order_1 : decode cX11_order 1 = .ok (.invokestatic 182, 3) := by decide +kernel
theorem dX11_order_4 : decode cX11_order 4 = .ok (.ifCond .ne 5, 3) := by decide +kernel
theorem dX11_order_7 : decode cX11_order 7 = .ok (.iconst (-1), 1) := by decide +kernel
theorem dX11_order_8 : decode cX11_order 8 = .ok (.ireturn, 1) := by decide +kernel
theorem dX11_order_9 : decode cX11_order 9 = .ok (.aload_n 0, 1) := by decide +kernel
theorem dX11_order_10 : decode cX11_order 10 = .ok (.getfield 25, 3) := by decide +kernel
theorem dX11_order_13 : decode cX11_order 13 = .ok (.getfield 179, 3) := by decide +kernel
theorem dX11_order_16 : decode cX11_order 16 = .ok (.ifCond .ne 6, 3) := by decide +kernel
theorem dX11_order_19 : decode cX11_order 19 = .ok (.bipush (-3), 2) := by decide +kernel
theorem dX11_order_21 : decode cX11_order 21 = .ok (.ireturn, 1) := by decide +kernel
theorem dX11_order_22 : decode cX11_order 22 = .ok (.aload_n 0, 1) := by decide +kernel
theorem dX11_order_23 : decode cX11_order 23 = .ok (.invokevirtual 245, 3) := by decide +kernel
theorem dX11_order_26 : decode cX11_order 26 = .ok (.istore_n 2, 1) := by decide +kernel
theorem dX11_order_27 : decode cX11_order 27 = .ok (.iload_n 2, 1) := by decide +kernel
theorem dX11_order_28 : decode cX11_order 28 = .ok (.bipush (-4), 2) := by decide +kernel
theorem dX11_order_30 : decode cX11_order 30 = .ok (.if_icmp .ne 6, 3) := by decide +kernel
theorem dX11_order_33 : decode cX11_order 33 = .ok (.bipush (-4), 2) := by decide +kernel
theorem dX11_order_35 : decode cX11_order 35 = .ok (.ireturn, 1) := by decide +kernel
theorem dX11_order_36 : decode cX11_order 36 = .ok (.iload_n 1, 1) := by decide +kernel
theorem dX11_order_37 : decode cX11_order 37 = .ok (.ifCond .ne 10, 3) := by decide +kernel
theorem dX11_order_40 : decode cX11_order 40 = .ok (.iload_n 2, 1) := by decide +kernel
theorem dX11_order_41 : decode cX11_order 41 = .ok (.invokestatic 224, 3) := by decide +kernel
theorem dX11_order_44 : decode cX11_order 44 = .ok (.goto 11, 3) := by decide +kernel
theorem dX11_order_47 : decode cX11_order 47 = .ok (.aload_n 0, 1) := by decide +kernel
theorem dX11_order_48 : decode cX11_order 48 = .ok (.iload_n 2, 1) := by decide +kernel
theorem dX11_order_49 : decode cX11_order 49 = .ok (.invokestatic 224, 3) := by decide +kernel
theorem dX11_order_52 : decode cX11_order 52 = .ok (.invokevirtual 248, 3) := by decide +kernel
theorem dX11_order_55 : decode cX11_order 55 = .ok (.ireturn, 1) := by decide +kernel
theorem dX11_without_0 : decode cX11_without 0 = .ok (.aload_n 0, 1) := by decide +kernel
theorem dX11_without_1 : decode cX11_without 1 = .ok (.getfield 25, 3) := by decide +kernel
theorem dX11_without_4 : decode cX11_without 4 = .ok (.iload_n 1, 1) := by decide +kernel
theorem dX11_without_5 : decode cX11_without 5 = .ok (.invokevirtual 128, 3) := by decide +kernel
theorem dX11_without_8 : decode cX11_without 8 = .ok (.ifCond .ne 5, 3) := by decide +kernel
theorem dX11_without_11 : decode cX11_without 11 = .ok (.iconst (-1), 1) := by decide +kernel
theorem dX11_without_12 : decode cX11_without 12 = .ok (.ireturn, 1) := by decide +kernel
theorem dX11_without_13 : decode cX11_without 13 = .ok (.aload_n 0, 1) := by decide +kernel
theorem dX11_without_14 : decode cX11_without 14 = .ok (.getfield 25, 3) := by decide +kernel
theorem dX11_without_17 : decode cX11_without 17 = .ok (.iconst 1, 1) := by decide +kernel
theorem dX11_without_18 : decode cX11_without 18 = .ok (.iload_n 1, 1) := by decide +kernel
theorem dX11_without_19 : decode cX11_without 19 = .ok (.ishl, 1) := by decide +kernel
theorem dX11_without_20 : decode cX11_without 20 = .ok (.iconst (-1), 1) := by decide +kernel
theorem dX11_without_21 : decode cX11_without 21 = .ok (.ixor, 1) := by decide +kernel
theorem dX11_without_22 : decode cX11_without 22 = .ok (.invokevirtual 251, 3) := by decide +kernel
theorem dX11_without_25 : decode cX11_without 25 = .ok (.lstore_n 2, 1) := by decide +kernel
theorem dX11_without_26 : decode cX11_without 26 = .ok (.lload_n 2, 1) := by decide +kernel
theorem dX11_without_27 : decode cX11_without 27 = .ok (.invokestatic 192, 3) := by decide +kernel
theorem dX11_without_30 : decode cX11_without 30 = .ok (.aload_n 0, 1) := by decide +kernel
theorem dX11_without_31 : decode cX11_without 31 = .ok (.getfield 25, 3) := by decide +kernel
theorem dX11_without_34 : decode cX11_without 34 = .ok (.invokevirtual 198, 3) := by decide +kernel
theorem dX11_without_37 : decode cX11_without 37 = .ok (.invokestatic 192, 3) := by decide +kernel
theorem dX11_without_40 : decode cX11_without 40 = .ok (.isub, 1) := by decide +kernel
theorem dX11_without_41 : decode cX11_without 41 = .ok (.ireturn, 1) := by decide +kernel
theorem dX11_lie_0 : decode cX11_lie 0 = .ok (.aload_n 0, 1) := by decide +kernel
theorem dX11_lie_1 : decode cX11_lie 1 = .ok (.getfield 25, 3) := by decide +kernel
theorem dX11_lie_4 : decode cX11_lie 4 = .ok (.iload_n 1, 1) := by decide +kernel
theorem dX11_lie_5 : decode cX11_lie 5 = .ok (.invokevirtual 128, 3) := by decide +kernel
theorem dX11_lie_8 : decode cX11_lie 8 = .ok (.ifCond .eq 12, 3) := by decide +kernel
theorem dX11_lie_11 : decode cX11_lie 11 = .ok (.iload_n 2, 1) := by decide +kernel
theorem dX11_lie_12 : decode cX11_lie 12 = .ok (.ifCond .lt 8, 3) := by decide +kernel
theorem dX11_lie_15 : decode cX11_lie 15 = .ok (.iload_n 2, 1) := by decide +kernel
theorem dX11_lie_16 : decode cX11_lie 16 = .ok (.iconst 2, 1) := by decide +kernel
theorem dX11_lie_17 : decode cX11_lie 17 = .ok (.if_icmp .le 5, 3) := by decide +kernel
theorem dX11_lie_20 : decode cX11_lie 20 = .ok (.iconst (-1), 1) := by decide +kernel
theorem dX11_lie_21 : decode cX11_lie 21 = .ok (.ireturn, 1) := by decide +kernel
theorem dX11_lie_22 : decode cX11_lie 22 = .ok (.aload_n 0, 1) := by decide +kernel
theorem dX11_lie_23 : decode cX11_lie 23 = .ok (.getfield 25, 3) := by decide +kernel
theorem dX11_lie_26 : decode cX11_lie 26 = .ok (.invokevirtual 198, 3) := by decide +kernel
theorem dX11_lie_29 : decode cX11_lie 29 = .ok (.lstore_n 3, 1) := by decide +kernel
theorem dX11_lie_30 : decode cX11_lie 30 = .ok (.iconst 0, 1) := by decide +kernel
theorem dX11_lie_31 : decode cX11_lie 31 = .ok (.istore 5, 2) := by decide +kernel
theorem dX11_lie_33 : decode cX11_lie 33 = .ok (.bipush (-4), 2) := by decide +kernel
theorem dX11_lie_35 : decode cX11_lie 35 = .ok (.istore 6, 2) := by decide +kernel
theorem dX11_lie_37 : decode cX11_lie 37 = .ok (.bipush (-4), 2) := by decide +kernel
theorem dX11_lie_39 : decode cX11_lie 39 = .ok (.istore 7, 2) := by decide +kernel
theorem dX11_lie_41 : decode cX11_lie 41 = .ok (.iconst 0, 1) := by decide +kernel
theorem dX11_lie_42 : decode cX11_lie 42 = .ok (.istore 8, 2) := by decide +kernel
theorem dX11_lie_44 : decode cX11_lie 44 = .ok (.iload 8, 2) := by decide +kernel
theorem dX11_lie_46 : decode cX11_lie 46 = .ok (.sipush 288, 3) := by decide +kernel
theorem dX11_lie_49 : decode cX11_lie 49 = .ok (.if_icmp .ge 78, 3) := by decide +kernel
theorem dX11_lie_52 : decode cX11_lie 52 = .ok (.aload_n 0, 1) := by decide +kernel
theorem dX11_lie_53 : decode cX11_lie 53 = .ok (.iload 8, 2) := by decide +kernel
theorem dX11_lie_55 : decode cX11_lie 55 = .ok (.iload_n 1, 1) := by decide +kernel
theorem dX11_lie_56 : decode cX11_lie 56 = .ok (.invokevirtual 254, 3) := by decide +kernel
theorem dX11_lie_59 : decode cX11_lie 59 = .ok (.ifCond .ne 6, 3) := by decide +kernel
theorem dX11_lie_62 : decode cX11_lie 62 = .ok (.goto 59, 3) := by decide +kernel
theorem dX11_lie_65 : decode cX11_lie 65 = .ok (.iinc 5 1, 3) := by decide +kernel
theorem dX11_lie_68 : decode cX11_lie 68 = .ok (.lload_n 3, 1) := by decide +kernel
theorem dX11_lie_69 : decode cX11_lie 69 = .ok (.aload_n 0, 1) := by decide +kernel
theorem dX11_lie_70 : decode cX11_lie 70 = .ok (.iload 8, 2) := by decide +kernel
theorem dX11_lie_72 : decode cX11_lie 72 = .ok (.invokevirtual 258, 3) := by decide +kernel
theorem dX11_lie_75 : decode cX11_lie 75 = .ok (.ldc2_w 219, 3) := by decide +kernel
theorem dX11_lie_78 : decode cX11_lie 78 = .ok (.lxor, 1) := by decide +kernel
theorem dX11_lie_79 : decode cX11_lie 79 = .ok (.land, 1) := by decide +kernel
theorem dX11_lie_80 : decode cX11_lie 80 = .ok (.invokestatic 192, 3) := by decide +kernel
theorem dX11_lie_83 : decode cX11_lie 83 = .ok (.istore 9, 2) := by decide +kernel
theorem dX11_lie_85 : decode cX11_lie 85 = .ok (.iload 9, 2) := by decide +kernel
theorem dX11_lie_87 : decode cX11_lie 87 = .ok (.iload 7, 2) := by decide +kernel
theorem dX11_lie_89 : decode cX11_lie 89 = .ok (.if_icmp .le 32, 3) := by decide +kernel
theorem dX11_lie_92 : decode cX11_lie 92 = .ok (.bipush 100, 2) := by decide +kernel
theorem dX11_lie_94 : decode cX11_lie 94 = .ok (.iload 8, 2) := by decide +kernel
theorem dX11_lie_96 : decode cX11_lie 96 = .ok (.invokestatic 261, 3) := by decide +kernel
theorem dX11_lie_99 : decode cX11_lie 99 = .ok (.imul, 1) := by decide +kernel
theorem dX11_lie_100 : decode cX11_lie 100 = .ok (.bipush 10, 2) := by decide +kernel
theorem dX11_lie_102 : decode cX11_lie 102 = .ok (.iload 8, 2) := by decide +kernel
theorem dX11_lie_104 : decode cX11_lie 104 = .ok (.invokestatic 264, 3) := by decide +kernel
theorem dX11_lie_107 : decode cX11_lie 107 = .ok (.imul, 1) := by decide +kernel
theorem dX11_lie_108 : decode cX11_lie 108 = .ok (.iadd, 1) := by decide +kernel
theorem dX11_lie_109 : decode cX11_lie 109 = .ok (.iload 8, 2) := by decide +kernel
theorem dX11_lie_111 : decode cX11_lie 111 = .ok (.invokestatic 267, 3) := by decide +kernel
theorem dX11_lie_114 : decode cX11_lie 114 = .ok (.iadd, 1) := by decide +kernel
theorem dX11_lie_115 : decode cX11_lie 115 = .ok (.istore 6, 2) := by decide +kernel
theorem dX11_lie_117 : decode cX11_lie 117 = .ok (.iload 9, 2) := by decide +kernel
theorem dX11_lie_119 : decode cX11_lie 119 = .ok (.istore 7, 2) := by decide +kernel
theorem dX11_lie_121 : decode cX11_lie 121 = .ok (.iinc 8 1, 3) := by decide +kernel
theorem dX11_lie_124 : decode cX11_lie 124 = .ok (.goto (-80), 3) := by decide +kernel
theorem dX11_lie_127 : decode cX11_lie 127 = .ok (.iload_n 2, 1) := by decide +kernel
theorem dX11_lie_128 : decode cX11_lie 128 = .ok (.ifCond .ne 6, 3) := by decide +kernel
theorem dX11_lie_131 : decode cX11_lie 131 = .ok (.iload 5, 2) := by decide +kernel
theorem dX11_lie_133 : decode cX11_lie 133 = .ok (.ireturn, 1) := by decide +kernel
theorem dX11_lie_134 : decode cX11_lie 134 = .ok (.iload_n 2, 1) := by decide +kernel
theorem dX11_lie_135 : decode cX11_lie 135 = .ok (.iconst 1, 1) := by decide +kernel
theorem dX11_lie_136 : decode cX11_lie 136 = .ok (.if_icmp .ne 8, 3) := by decide +kernel
theorem dX11_lie_139 : decode cX11_lie 139 = .ok (.iload 6, 2) := by decide +kernel
theorem dX11_lie_141 : decode cX11_lie 141 = .ok (.goto 5, 3) := by decide +kernel
theorem dX11_lie_144 : decode cX11_lie 144 = .ok (.iload 7, 2) := by decide +kernel
theorem dX11_lie_146 : decode cX11_lie 146 = .ok (.ireturn, 1) := by decide +kernel
theorem dX11_tells_0 : decode cX11_tells 0 = .ok (.aload_n 0, 1) := by decide +kernel
theorem dX11_tells_1 : decode cX11_tells 1 = .ok (.iload_n 1, 1) := by decide +kernel
theorem dX11_tells_2 : decode cX11_tells 2 = .ok (.invokevirtual 75, 3) := by decide +kernel
theorem dX11_tells_5 : decode cX11_tells 5 = .ok (.astore 4, 2) := by decide +kernel
theorem dX11_tells_7 : decode cX11_tells 7 = .ok (.aload 4, 2) := by decide +kernel
theorem dX11_tells_9 : decode cX11_tells 9 = .ok (.ifnull 17, 3) := by decide +kernel
theorem dX11_tells_12 : decode cX11_tells 12 = .ok (.iload_n 2, 1) := by decide +kernel
theorem dX11_tells_13 : decode cX11_tells 13 = .ok (.invokestatic 135, 3) := by decide +kernel
theorem dX11_tells_16 : decode cX11_tells 16 = .ok (.ifCond .eq 10, 3) := by decide +kernel
theorem dX11_tells_19 : decode cX11_tells 19 = .ok (.iload_n 3, 1) := by decide +kernel
theorem dX11_tells_20 : decode cX11_tells 20 = .ok (.invokestatic 135, 3) := by decide +kernel
theorem dX11_tells_23 : decode cX11_tells 23 = .ok (.ifCond .ne 5, 3) := by decide +kernel
theorem dX11_tells_26 : decode cX11_tells 26 = .ok (.iconst (-1), 1) := by decide +kernel
theorem dX11_tells_27 : decode cX11_tells 27 = .ok (.ireturn, 1) := by decide +kernel
theorem dX11_tells_28 : decode cX11_tells 28 = .ok (.aload 4, 2) := by decide +kernel
theorem dX11_tells_30 : decode cX11_tells 30 = .ok (.invokevirtual 141, 3) := by decide +kernel
theorem dX11_tells_33 : decode cX11_tells 33 = .ok (.istore 5, 2) := by decide +kernel
theorem dX11_tells_35 : decode cX11_tells 35 = .ok (.iload 5, 2) := by decide +kernel
theorem dX11_tells_37 : decode cX11_tells 37 = .ok (.ifCond .eq 8, 3) := by decide +kernel
theorem dX11_tells_40 : decode cX11_tells 40 = .ok (.iload 5, 2) := by decide +kernel
theorem dX11_tells_42 : decode cX11_tells 42 = .ok (.goto 21, 3) := by decide +kernel
theorem dX11_tells_45 : decode cX11_tells 45 = .ok (.aload_n 0, 1) := by decide +kernel
theorem dX11_tells_46 : decode cX11_tells 46 = .ok (.getfield 25, 3) := by decide +kernel
theorem dX11_tells_49 : decode cX11_tells 49 = .ok (.invokevirtual 198, 3) := by decide +kernel
theorem dX11_tells_52 : decode cX11_tells 52 = .ok (.aload 4, 2) := by decide +kernel
theorem dX11_tells_54 : decode cX11_tells 54 = .ok (.iload_n 2, 1) := by decide +kernel
theorem dX11_tells_55 : decode cX11_tells 55 = .ok (.iload_n 3, 1) := by decide +kernel
theorem dX11_tells_56 : decode cX11_tells 56 = .ok (.invokevirtual 144, 3) := by decide +kernel
theorem dX11_tells_59 : decode cX11_tells 59 = .ok (.land, 1) := by decide +kernel
theorem dX11_tells_60 : decode cX11_tells 60 = .ok (.invokestatic 192, 3) := by decide +kernel
theorem dX11_tells_63 : decode cX11_tells 63 = .ok (.ireturn, 1) := by decide +kernel
theorem dX11_verdict_0 : decode cX11_verdict 0 = .ok (.aload_n 0, 1) := by decide +kernel
theorem dX11_verdict_1 : decode cX11_verdict 1 = .ok (.getfield 25, 3) := by decide +kernel
theorem dX11_verdict_4 : decode cX11_verdict 4 = .ok (.getfield 114, 3) := by decide +kernel
theorem dX11_verdict_7 : decode cX11_verdict 7 = .ok (.istore_n 1, 1) := by decide +kernel
theorem dX11_verdict_8 : decode cX11_verdict 8 = .ok (.iconst 0, 1) := by decide +kernel
theorem dX11_verdict_9 : decode cX11_verdict 9 = .ok (.istore_n 2, 1) := by decide +kernel
theorem dX11_verdict_10 : decode cX11_verdict 10 = .ok (.iload_n 2, 1) := by decide +kernel
theorem dX11_verdict_11 : decode cX11_verdict 11 = .ok (.aload_n 0, 1) := by decide +kernel
theorem dX11_verdict_12 : decode cX11_verdict 12 = .ok (.getfield 25, 3) := by decide +kernel
theorem dX11_verdict_15 : decode cX11_verdict 15 = .ok (.getfield 107, 3) := by decide +kernel
theorem dX11_verdict_18 : decode cX11_verdict 18 = .ok (.invokevirtual 163, 3) := by decide +kernel
theorem dX11_verdict_21 : decode cX11_verdict 21 = .ok (.if_icmp .ge 31, 3) := by decide +kernel
theorem dX11_verdict_24 : decode cX11_verdict 24 = .ok (.iload_n 1, 1) := by decide +kernel
theorem dX11_verdict_25 : decode cX11_verdict 25 = .ok (.aload_n 0, 1) := by decide +kernel
theorem dX11_verdict_26 : decode cX11_verdict 26 = .ok (.getfield 25, 3) := by decide +kernel
theorem dX11_verdict_29 : decode cX11_verdict 29 = .ok (.getfield 107, 3) := by decide +kernel
theorem dX11_verdict_32 : decode cX11_verdict 32 = .ok (.iload_n 2, 1) := by decide +kernel
theorem dX11_verdict_33 : decode cX11_verdict 33 = .ok (.invokevirtual 221, 3) := by decide +kernel
theorem dX11_verdict_36 : decode cX11_verdict 36 = .ok (.checkcast 102, 3) := by decide +kernel
theorem dX11_verdict_39 : decode cX11_verdict 39 = .ok (.invokevirtual 281, 3) := by decide +kernel
theorem dX11_verdict_42 : decode cX11_verdict 42 = .ok (.iconst (-1), 1) := by decide +kernel
theorem dX11_verdict_43 : decode cX11_verdict 43 = .ok (.ixor, 1) := by decide +kernel
theorem dX11_verdict_44 : decode cX11_verdict 44 = .ok (.iand, 1) := by decide +kernel
theorem dX11_verdict_45 : decode cX11_verdict 45 = .ok (.istore_n 1, 1) := by decide +kernel
theorem dX11_verdict_46 : decode cX11_verdict 46 = .ok (.iinc 2 1, 3) := by decide +kernel
theorem dX11_verdict_49 : decode cX11_verdict 49 = .ok (.goto (-39), 3) := by decide +kernel
theorem dX11_verdict_52 : decode cX11_verdict 52 = .ok (.iload_n 1, 1) := by decide +kernel
theorem dX11_verdict_53 : decode cX11_verdict 53 = .ok (.ireturn, 1) := by decide +kernel
theorem dX11_certain_0 : decode cX11_certain 0 = .ok (.aload_n 0, 1) := by decide +kernel
theorem dX11_certain_1 : decode cX11_certain 1 = .ok (.getfield 25, 3) := by decide +kernel
theorem dX11_certain_4 : decode cX11_certain 4 = .ok (.iload_n 1, 1) := by decide +kernel
theorem dX11_certain_5 : decode cX11_certain 5 = .ok (.invokevirtual 128, 3) := by decide +kernel
theorem dX11_certain_8 : decode cX11_certain 8 = .ok (.ifCond .ne 5, 3) := by decide +kernel
theorem dX11_certain_11 : decode cX11_certain 11 = .ok (.iconst (-1), 1) := by decide +kernel
theorem dX11_certain_12 : decode cX11_certain 12 = .ok (.ireturn, 1) := by decide +kernel
theorem dX11_certain_13 : decode cX11_certain 13 = .ok (.aload_n 0, 1) := by decide +kernel
theorem dX11_certain_14 : decode cX11_certain 14 = .ok (.getfield 25, 3) := by decide +kernel
theorem dX11_certain_17 : decode cX11_certain 17 = .ok (.invokevirtual 198, 3) := by decide +kernel
theorem dX11_certain_20 : decode cX11_certain 20 = .ok (.aload_n 0, 1) := by decide +kernel
theorem dX11_certain_21 : decode cX11_certain 21 = .ok (.getfield 25, 3) := by decide +kernel
theorem dX11_certain_24 : decode cX11_certain 24 = .ok (.getfield 114, 3) := by decide +kernel
theorem dX11_certain_27 : decode cX11_certain 27 = .ok (.aload_n 0, 1) := by decide +kernel
theorem dX11_certain_28 : decode cX11_certain 28 = .ok (.getfield 25, 3) := by decide +kernel
theorem dX11_certain_31 : decode cX11_certain 31 = .ok (.iload_n 1, 1) := by decide +kernel
theorem dX11_certain_32 : decode cX11_certain 32 = .ok (.invokevirtual 132, 3) := by decide +kernel
theorem dX11_certain_35 : decode cX11_certain 35 = .ok (.invokestatic 284, 3) := by decide +kernel
theorem dX11_certain_38 : decode cX11_certain 38 = .ok (.invokestatic 288, 3) := by decide +kernel
theorem dX11_certain_41 : decode cX11_certain 41 = .ok (.ireturn, 1) := by decide +kernel
theorem dX11_knowsOf_0 : decode cX11_knowsOf 0 = .ok (.aload_n 0, 1) := by decide +kernel
theorem dX11_knowsOf_1 : decode cX11_knowsOf 1 = .ok (.getfield 25, 3) := by decide +kernel
theorem dX11_knowsOf_4 : decode cX11_knowsOf 4 = .ok (.iload_n 1, 1) := by decide +kernel
theorem dX11_knowsOf_5 : decode cX11_knowsOf 5 = .ok (.invokevirtual 128, 3) := by decide +kernel
theorem dX11_knowsOf_8 : decode cX11_knowsOf 8 = .ok (.ifCond .eq 14, 3) := by decide +kernel
theorem dX11_knowsOf_11 : decode cX11_knowsOf 11 = .ok (.aload_n 0, 1) := by decide +kernel
theorem dX11_knowsOf_12 : decode cX11_knowsOf 12 = .ok (.getfield 25, 3) := by decide +kernel
theorem dX11_knowsOf_15 : decode cX11_knowsOf 15 = .ok (.iload_n 2, 1) := by decide +kernel
theorem dX11_knowsOf_16 : decode cX11_knowsOf 16 = .ok (.invokevirtual 128, 3) := by decide +kernel
theorem dX11_knowsOf_19 : decode cX11_knowsOf 19 = .ok (.ifCond .ne 5, 3) := by decide +kernel
theorem dX11_knowsOf_22 : decode cX11_knowsOf 22 = .ok (.iconst (-1), 1) := by decide +kernel
theorem dX11_knowsOf_23 : decode cX11_knowsOf 23 = .ok (.ireturn, 1) := by decide +kernel
theorem dX11_knowsOf_24 : decode cX11_knowsOf 24 = .ok (.aload_n 0, 1) := by decide +kernel
theorem dX11_knowsOf_25 : decode cX11_knowsOf 25 = .ok (.getfield 25, 3) := by decide +kernel
theorem dX11_knowsOf_28 : decode cX11_knowsOf 28 = .ok (.invokevirtual 198, 3) := by decide +kernel
theorem dX11_knowsOf_31 : decode cX11_knowsOf 31 = .ok (.lstore_n 3, 1) := by decide +kernel
theorem dX11_knowsOf_32 : decode cX11_knowsOf 32 = .ok (.lload_n 3, 1) := by decide +kernel
theorem dX11_knowsOf_33 : decode cX11_knowsOf 33 = .ok (.aload_n 0, 1) := by decide +kernel
theorem dX11_knowsOf_34 : decode cX11_knowsOf 34 = .ok (.getfield 25, 3) := by decide +kernel
theorem dX11_knowsOf_37 : decode cX11_knowsOf 37 = .ok (.getfield 114, 3) := by decide +kernel
theorem dX11_knowsOf_40 : decode cX11_knowsOf 40 = .ok (.aload_n 0, 1) := by decide +kernel
theorem dX11_knowsOf_41 : decode cX11_knowsOf 41 = .ok (.getfield 25, 3) := by decide +kernel
theorem dX11_knowsOf_44 : decode cX11_knowsOf 44 = .ok (.iload_n 1, 1) := by decide +kernel
theorem dX11_knowsOf_45 : decode cX11_knowsOf 45 = .ok (.invokevirtual 132, 3) := by decide +kernel
theorem dX11_knowsOf_48 : decode cX11_knowsOf 48 = .ok (.invokestatic 284, 3) := by decide +kernel
theorem dX11_knowsOf_51 : decode cX11_knowsOf 51 = .ok (.lstore 5, 2) := by decide +kernel
theorem dX11_knowsOf_53 : decode cX11_knowsOf 53 = .ok (.bipush 63, 2) := by decide +kernel
theorem dX11_knowsOf_55 : decode cX11_knowsOf 55 = .ok (.istore 7, 2) := by decide +kernel
theorem dX11_knowsOf_57 : decode cX11_knowsOf 57 = .ok (.iconst 0, 1) := by decide +kernel
theorem dX11_knowsOf_58 : decode cX11_knowsOf 58 = .ok (.istore 8, 2) := by decide +kernel
theorem dX11_knowsOf_60 : decode cX11_knowsOf 60 = .ok (.iload 8, 2) := by decide +kernel
theorem dX11_knowsOf_62 : decode cX11_knowsOf 62 = .ok (.bipush 64, 2) := by decide +kernel
theorem dX11_knowsOf_64 : decode cX11_knowsOf 64 = .ok (.if_icmp .ge 41, 3) := by decide +kernel
theorem dX11_knowsOf_67 : decode cX11_knowsOf 67 = .ok (.lload 5, 2) := by decide +kernel
theorem dX11_knowsOf_69 : decode cX11_knowsOf 69 = .ok (.iload 8, 2) := by decide +kernel
theorem dX11_knowsOf_71 : decode cX11_knowsOf 71 = .ok (.invokestatic 117, 3) := by decide +kernel
theorem dX11_knowsOf_74 : decode cX11_knowsOf 74 = .ok (.ifCond .eq 25, 3) := by decide +kernel
theorem dX11_knowsOf_77 : decode cX11_knowsOf 77 = .ok (.iload 7, 2) := by decide +kernel
theorem dX11_knowsOf_79 : decode cX11_knowsOf 79 = .ok (.lload_n 3, 1) := by decide +kernel
theorem dX11_knowsOf_80 : decode cX11_knowsOf 80 = .ok (.iload 8, 2) := by decide +kernel
theorem dX11_knowsOf_82 : decode cX11_knowsOf 82 = .ok (.aload_n 0, 1) := by decide +kernel
theorem dX11_knowsOf_83 : decode cX11_knowsOf 83 = .ok (.getfield 25, 3) := by decide +kernel
theorem dX11_knowsOf_86 : decode cX11_knowsOf 86 = .ok (.iload_n 2, 1) := by decide +kernel
theorem dX11_knowsOf_87 : decode cX11_knowsOf 87 = .ok (.invokevirtual 132, 3) := by decide +kernel
theorem dX11_knowsOf_90 : decode cX11_knowsOf 90 = .ok (.invokestatic 284, 3) := by decide +kernel
theorem dX11_knowsOf_93 : decode cX11_knowsOf 93 = .ok (.invokestatic 288, 3) := by decide +kernel
theorem dX11_knowsOf_96 : decode cX11_knowsOf 96 = .ok (.iand, 1) := by decide +kernel
theorem dX11_knowsOf_97 : decode cX11_knowsOf 97 = .ok (.istore 7, 2) := by decide +kernel
theorem dX11_knowsOf_99 : decode cX11_knowsOf 99 = .ok (.iinc 8 1, 3) := by decide +kernel
theorem dX11_knowsOf_102 : decode cX11_knowsOf 102 = .ok (.goto (-42), 3) := by decide +kernel
theorem dX11_knowsOf_105 : decode cX11_knowsOf 105 = .ok (.iload 7, 2) := by decide +kernel
theorem dX11_knowsOf_107 : decode cX11_knowsOf 107 = .ok (.ireturn, 1) := by decide +kernel
theorem dX11_allKnow_0 : decode cX11_allKnow 0 = .ok (.iload_n 1, 1) := by decide +kernel
theorem dX11_allKnow_1 : decode cX11_allKnow 1 = .ok (.ifCond .lt 8, 3) := by decide +kernel
theorem dX11_allKnow_4 : decode cX11_allKnow 4 = .ok (.iload_n 1, 1) := by decide +kernel
theorem dX11_allKnow_5 : decode cX11_allKnow 5 = .ok (.iconst 5, 1) := by decide +kernel
theorem dX11_allKnow_6 : decode cX11_allKnow 6 = .ok (.if_icmp .le 5, 3) := by decide +kernel
theorem dX11_allKnow_9 : decode cX11_allKnow 9 = .ok (.iconst (-1), 1) := by decide +kernel
theorem dX11_allKnow_10 : decode cX11_allKnow 10 = .ok (.ireturn, 1) := by decide +kernel
theorem dX11_allKnow_11 : decode cX11_allKnow 11 = .ok (.aload_n 0, 1) := by decide +kernel
theorem dX11_allKnow_12 : decode cX11_allKnow 12 = .ok (.getfield 25, 3) := by decide +kernel
theorem dX11_allKnow_15 : decode cX11_allKnow 15 = .ok (.getfield 179, 3) := by decide +kernel
theorem dX11_allKnow_18 : decode cX11_allKnow 18 = .ok (.ifCond .ne 6, 3) := by decide +kernel
theorem dX11_allKnow_21 : decode cX11_allKnow 21 = .ok (.bipush (-3), 2) := by decide +kernel
theorem dX11_allKnow_23 : decode cX11_allKnow 23 = .ok (.ireturn, 1) := by decide +kernel
theorem dX11_allKnow_24 : decode cX11_allKnow 24 = .ok (.aload_n 0, 1) := by decide +kernel
theorem dX11_allKnow_25 : decode cX11_allKnow 25 = .ok (.getfield 25, 3) := by decide +kernel
theorem dX11_allKnow_28 : decode cX11_allKnow 28 = .ok (.invokevirtual 198, 3) := by decide +kernel
theorem dX11_allKnow_31 : decode cX11_allKnow 31 = .ok (.lstore_n 2, 1) := by decide +kernel
theorem dX11_allKnow_32 : decode cX11_allKnow 32 = .ok (.lconst 1, 1) := by decide +kernel
theorem dX11_allKnow_33 : decode cX11_allKnow 33 = .ok (.aload_n 0, 1) := by decide +kernel
theorem dX11_allKnow_34 : decode cX11_allKnow 34 = .ok (.getfield 25, 3) := by decide +kernel
theorem dX11_allKnow_37 : decode cX11_allKnow 37 = .ok (.getfield 114, 3) := by decide +kernel
theorem dX11_allKnow_40 : decode cX11_allKnow 40 = .ok (.lshl, 1) := by decide +kernel
theorem dX11_allKnow_41 : decode cX11_allKnow 41 = .ok (.lstore 4, 2) := by decide +kernel
theorem dX11_allKnow_43 : decode cX11_allKnow 43 = .ok (.iconst 0, 1) := by decide +kernel
theorem dX11_allKnow_44 : decode cX11_allKnow 44 = .ok (.istore 6, 2) := by decide +kernel
theorem dX11_allKnow_46 : decode cX11_allKnow 46 = .ok (.iload 6, 2) := by decide +kernel
theorem dX11_allKnow_48 : decode cX11_allKnow 48 = .ok (.iload_n 1, 1) := by decide +kernel
theorem dX11_allKnow_49 : decode cX11_allKnow 49 = .ok (.if_icmp .gt 21, 3) := by decide +kernel
theorem dX11_allKnow_52 : decode cX11_allKnow 52 = .ok (.aload_n 0, 1) := by decide +kernel
theorem dX11_allKnow_53 : decode cX11_allKnow 53 = .ok (.getfield 25, 3) := by decide +kernel
theorem dX11_allKnow_56 : decode cX11_allKnow 56 = .ok (.lload 4, 2) := by decide +kernel
theorem dX11_allKnow_58 : decode cX11_allKnow 58 = .ok (.lload_n 2, 1) := by decide +kernel
theorem dX11_allKnow_59 : decode cX11_allKnow 59 = .ok (.invokevirtual 291, 3) := by decide +kernel
theorem dX11_allKnow_62 : decode cX11_allKnow 62 = .ok (.lstore 4, 2) := by decide +kernel
theorem dX11_allKnow_64 : decode cX11_allKnow 64 = .ok (.iinc 6 1, 3) := by decide +kernel
theorem dX11_allKnow_67 : decode cX11_allKnow 67 = .ok (.goto (-21), 3) := by decide +kernel
theorem dX11_allKnow_70 : decode cX11_allKnow 70 = .ok (.lload 4, 2) := by decide +kernel
theorem dX11_allKnow_72 : decode cX11_allKnow 72 = .ok (.invokestatic 288, 3) := by decide +kernel
theorem dX11_allKnow_75 : decode cX11_allKnow 75 = .ok (.ireturn, 1) := by decide +kernel
theorem dX11_seeds_0 : decode cX11_seeds 0 = .ok (.iload_n 1, 1) := by decide +kernel
theorem dX11_seeds_1 : decode cX11_seeds 1 = .ok (.iconst 1, 1) := by decide +kernel
theorem dX11_seeds_2 : decode cX11_seeds 2 = .ok (.if_icmp .lt 16, 3) := by decide +kernel
theorem dX11_seeds_5 : decode cX11_seeds 5 = .ok (.iload_n 1, 1) := by decide +kernel
theorem dX11_seeds_6 : decode cX11_seeds 6 = .ok (.bipush 20, 2) := by decide +kernel
theorem dX11_seeds_8 : decode cX11_seeds 8 = .ok (.if_icmp .gt 10, 3) := by decide +kernel
theorem dX11_seeds_11 : decode cX11_seeds 11 = .ok (.iload_n 3, 1) := by decide +kernel
theorem dX11_seeds_12 : decode cX11_seeds 12 = .ok (.invokestatic 182, 3) := by decide +kernel
theorem dX11_seeds_15 : decode cX11_seeds 15 = .ok (.ifCond .ne 5, 3) := by decide +kernel
theorem dX11_seeds_18 : decode cX11_seeds 18 = .ok (.iconst (-1), 1) := by decide +kernel
theorem dX11_seeds_19 : decode cX11_seeds 19 = .ok (.ireturn, 1) := by decide +kernel
theorem dX11_seeds_20 : decode cX11_seeds 20 = .ok (.aload_n 0, 1) := by decide +kernel
theorem dX11_seeds_21 : decode cX11_seeds 21 = .ok (.getfield 25, 3) := by decide +kernel
theorem dX11_seeds_24 : decode cX11_seeds 24 = .ok (.invokevirtual 216, 3) := by decide +kernel
theorem dX11_seeds_27 : decode cX11_seeds 27 = .ok (.lstore 4, 2) := by decide +kernel
theorem dX11_seeds_29 : decode cX11_seeds 29 = .ok (.iload_n 2, 1) := by decide +kernel
theorem dX11_seeds_30 : decode cX11_seeds 30 = .ok (.istore 6, 2) := by decide +kernel
theorem dX11_seeds_32 : decode cX11_seeds 32 = .ok (.iconst 0, 1) := by decide +kernel
theorem dX11_seeds_33 : decode cX11_seeds 33 = .ok (.istore 7, 2) := by decide +kernel
theorem dX11_seeds_35 : decode cX11_seeds 35 = .ok (.iconst 0, 1) := by decide +kernel
theorem dX11_seeds_36 : decode cX11_seeds 36 = .ok (.istore 8, 2) := by decide +kernel
theorem dX11_seeds_38 : decode cX11_seeds 38 = .ok (.iconst 0, 1) := by decide +kernel
theorem dX11_seeds_39 : decode cX11_seeds 39 = .ok (.istore 9, 2) := by decide +kernel
theorem dX11_seeds_41 : decode cX11_seeds 41 = .ok (.iload 9, 2) := by decide +kernel
theorem dX11_seeds_43 : decode cX11_seeds 43 = .ok (.iload_n 1, 1) := by decide +kernel
theorem dX11_seeds_44 : decode cX11_seeds 44 = .ok (.if_icmp .ge 90, 3) := by decide +kernel
theorem dX11_seeds_47 : decode cX11_seeds 47 = .ok (.lload 4, 2) := by decide +kernel
theorem dX11_seeds_49 : decode cX11_seeds 49 = .ok (.lstore 10, 2) := by decide +kernel
theorem dX11_seeds_51 : decode cX11_seeds 51 = .ok (.iconst 0, 1) := by decide +kernel
theorem dX11_seeds_52 : decode cX11_seeds 52 = .ok (.istore 12, 2) := by decide +kernel
theorem dX11_seeds_54 : decode cX11_seeds 54 = .ok (.iload 12, 2) := by decide +kernel
theorem dX11_seeds_56 : decode cX11_seeds 56 = .ok (.aload_n 0, 1) := by decide +kernel
theorem dX11_seeds_57 : decode cX11_seeds 57 = .ok (.getfield 25, 3) := by decide +kernel
theorem dX11_seeds_60 : decode cX11_seeds 60 = .ok (.getfield 179, 3) := by decide +kernel
theorem dX11_seeds_63 : decode cX11_seeds 63 = .ok (.if_icmp .ge 55, 3) := by decide +kernel
theorem dX11_seeds_66 : decode cX11_seeds 66 = .ok (.aload_n 0, 1) := by decide +kernel
theorem dX11_seeds_67 : decode cX11_seeds 67 = .ok (.iload 6, 2) := by decide +kernel
theorem dX11_seeds_69 : decode cX11_seeds 69 = .ok (.invokevirtual 317, 3) := by decide +kernel
theorem dX11_seeds_72 : decode cX11_seeds 72 = .ok (.lstore 13, 2) := by decide +kernel
theorem dX11_seeds_74 : decode cX11_seeds 74 = .ok (.iload 6, 2) := by decide +kernel
theorem dX11_seeds_76 : decode cX11_seeds 76 = .ok (.invokestatic 320, 3) := by decide +kernel
theorem dX11_seeds_79 : decode cX11_seeds 79 = .ok (.istore 6, 2) := by decide +kernel
theorem dX11_seeds_81 : decode cX11_seeds 81 = .ok (.iload 7, 2) := by decide +kernel
theorem dX11_seeds_83 : decode cX11_seeds 83 = .ok (.lload 13, 2) := by decide +kernel
theorem dX11_seeds_85 : decode cX11_seeds 85 = .ok (.aload_n 0, 1) := by decide +kernel
theorem dX11_seeds_86 : decode cX11_seeds 86 = .ok (.getfield 25, 3) := by decide +kernel
theorem dX11_seeds_89 : decode cX11_seeds 89 = .ok (.getfield 114, 3) := by decide +kernel
theorem dX11_seeds_92 : decode cX11_seeds 92 = .ok (.invokestatic 117, 3) := by decide +kernel
theorem dX11_seeds_95 : decode cX11_seeds 95 = .ok (.invokestatic 121, 3) := by decide +kernel
theorem dX11_seeds_98 : decode cX11_seeds 98 = .ok (.iadd, 1) := by decide +kernel
theorem dX11_seeds_99 : decode cX11_seeds 99 = .ok (.istore 7, 2) := by decide +kernel
theorem dX11_seeds_101 : decode cX11_seeds 101 = .ok (.lload 10, 2) := by decide +kernel
theorem dX11_seeds_103 : decode cX11_seeds 103 = .ok (.lload 13, 2) := by decide +kernel
theorem dX11_seeds_105 : decode cX11_seeds 105 = .ok (.ldc2_w 219, 3) := by decide +kernel
theorem dX11_seeds_108 : decode cX11_seeds 108 = .ok (.lxor, 1) := by decide +kernel
theorem dX11_seeds_109 : decode cX11_seeds 109 = .ok (.land, 1) := by decide +kernel
theorem dX11_seeds_110 : decode cX11_seeds 110 = .ok (.lstore 10, 2) := by decide +kernel
theorem dX11_seeds_112 : decode cX11_seeds 112 = .ok (.iinc 12 1, 3) := by decide +kernel
theorem dX11_seeds_115 : decode cX11_seeds 115 = .ok (.goto (-61), 3) := by decide +kernel
theorem dX11_seeds_118 : decode cX11_seeds 118 = .ok (.iload 8, 2) := by decide +kernel
theorem dX11_seeds_120 : decode cX11_seeds 120 = .ok (.lload 10, 2) := by decide +kernel
theorem dX11_seeds_122 : decode cX11_seeds 122 = .ok (.invokestatic 192, 3) := by decide +kernel
theorem dX11_seeds_125 : decode cX11_seeds 125 = .ok (.iadd, 1) := by decide +kernel
theorem dX11_seeds_126 : decode cX11_seeds 126 = .ok (.istore 8, 2) := by decide +kernel
theorem dX11_seeds_128 : decode cX11_seeds 128 = .ok (.iinc 9 1, 3) := by decide +kernel
theorem dX11_seeds_131 : decode cX11_seeds 131 = .ok (.goto (-90), 3) := by decide +kernel
theorem dX11_seeds_134 : decode cX11_seeds 134 = .ok (.iload_n 3, 1) := by decide +kernel
theorem dX11_seeds_135 : decode cX11_seeds 135 = .ok (.ifCond .ne 8, 3) := by decide +kernel
theorem dX11_seeds_138 : decode cX11_seeds 138 = .ok (.iload 7, 2) := by decide +kernel
theorem dX11_seeds_140 : decode cX11_seeds 140 = .ok (.goto 5, 3) := by decide +kernel
theorem dX11_seeds_143 : decode cX11_seeds 143 = .ok (.iload 8, 2) := by decide +kernel
theorem dX11_seeds_145 : decode cX11_seeds 145 = .ok (.ireturn, 1) := by decide +kernel
theorem dX11_image_0 : decode cX11_image 0 = .ok (.aload_n 0, 1) := by decide +kernel
theorem dX11_image_1 : decode cX11_image 1 = .ok (.getfield 29, 3) := by decide +kernel
theorem dX11_image_4 : decode cX11_image 4 = .ok (.aload_n 0, 1) := by decide +kernel
theorem dX11_image_5 : decode cX11_image 5 = .ok (.getfield 25, 3) := by decide +kernel
theorem dX11_image_8 : decode cX11_image 8 = .ok (.invokevirtual 323, 3) := by decide +kernel
theorem dX11_image_11 : decode cX11_image 11 = .ok (.aload_n 0, 1) := by decide +kernel
theorem dX11_image_12 : decode cX11_image 12 = .ok (.iconst 1, 1) := by decide +kernel
theorem dX11_image_13 : decode cX11_image 13 = .ok (.putfield 327, 3) := by decide +kernel
theorem dX11_image_16 : decode cX11_image 16 = .ok (.aload_n 0, 1) := by decide +kernel
theorem dX11_image_17 : decode cX11_image 17 = .ok (.getfield 25, 3) := by decide +kernel
theorem dX11_image_20 : decode cX11_image 20 = .ok (.getfield 107, 3) := by decide +kernel
theorem dX11_image_23 : decode cX11_image 23 = .ok (.invokevirtual 163, 3) := by decide +kernel
theorem dX11_image_26 : decode cX11_image 26 = .ok (.ireturn, 1) := by decide +kernel
theorem dX11_restore_0 : decode cX11_restore 0 = .ok (.aload_n 0, 1) := by decide +kernel
theorem dX11_restore_1 : decode cX11_restore 1 = .ok (.getfield 327, 3) := by decide +kernel
theorem dX11_restore_4 : decode cX11_restore 4 = .ok (.ifCond .ne 6, 3) := by decide +kernel
theorem dX11_restore_7 : decode cX11_restore 7 = .ok (.bipush (-3), 2) := by decide +kernel
theorem dX11_restore_9 : decode cX11_restore 9 = .ok (.ireturn, 1) := by decide +kernel
theorem dX11_restore_10 : decode cX11_restore 10 = .ok (.aload_n 0, 1) := by decide +kernel
theorem dX11_restore_11 : decode cX11_restore 11 = .ok (.getfield 25, 3) := by decide +kernel
theorem dX11_restore_14 : decode cX11_restore 14 = .ok (.aload_n 0, 1) := by decide +kernel
theorem dX11_restore_15 : decode cX11_restore 15 = .ok (.getfield 29, 3) := by decide +kernel
theorem dX11_restore_18 : decode cX11_restore 18 = .ok (.invokevirtual 323, 3) := by decide +kernel
theorem dX11_restore_21 : decode cX11_restore 21 = .ok (.aload_n 0, 1) := by decide +kernel
theorem dX11_restore_22 : decode cX11_restore 22 = .ok (.getfield 25, 3) := by decide +kernel
theorem dX11_restore_25 : decode cX11_restore 25 = .ok (.getfield 107, 3) := by decide +kernel
theorem dX11_restore_28 : decode cX11_restore 28 = .ok (.invokevirtual 163, 3) := by decide +kernel
theorem dX11_restore_31 : decode cX11_restore 31 = .ok (.ireturn, 1) := by decide +kernel
theorem dX11_count_0 : decode cX11_count 0 = .ok (.iload_n 1, 1) := by decide +kernel
theorem dX11_count_1 : decode cX11_count 1 = .ok (.tableswitch 131 0 6 #[43, 54, 62, 73, 81, 89, 110], 43) := by decide +kernel
theorem dX11_count_44 : decode cX11_count 44 = .ok (.aload_n 0, 1) := by decide +kernel
theorem dX11_count_45 : decode cX11_count 45 = .ok (.getfield 25, 3) := by decide +kernel
theorem dX11_count_48 : decode cX11_count 48 = .ok (.getfield 94, 3) := by decide +kernel
theorem dX11_count_51 : decode cX11_count 51 = .ok (.invokevirtual 163, 3) := by decide +kernel
theorem dX11_count_54 : decode cX11_count 54 = .ok (.ireturn, 1) := by decide +kernel
theorem dX11_count_55 : decode cX11_count 55 = .ok (.aload_n 0, 1) := by decide +kernel
theorem dX11_count_56 : decode cX11_count 56 = .ok (.getfield 25, 3) := by decide +kernel
theorem dX11_count_59 : decode cX11_count 59 = .ok (.getfield 179, 3) := by decide +kernel
theorem dX11_count_62 : decode cX11_count 62 = .ok (.ireturn, 1) := by decide +kernel
theorem dX11_count_63 : decode cX11_count 63 = .ok (.aload_n 0, 1) := by decide +kernel
theorem dX11_count_64 : decode cX11_count 64 = .ok (.getfield 25, 3) := by decide +kernel
theorem dX11_count_67 : decode cX11_count 67 = .ok (.getfield 107, 3) := by decide +kernel
theorem dX11_count_70 : decode cX11_count 70 = .ok (.invokevirtual 163, 3) := by decide +kernel
theorem dX11_count_73 : decode cX11_count 73 = .ok (.ireturn, 1) := by decide +kernel
theorem dX11_count_74 : decode cX11_count 74 = .ok (.aload_n 0, 1) := by decide +kernel
theorem dX11_count_75 : decode cX11_count 75 = .ok (.getfield 25, 3) := by decide +kernel
theorem dX11_count_78 : decode cX11_count 78 = .ok (.getfield 114, 3) := by decide +kernel
theorem dX11_count_81 : decode cX11_count 81 = .ok (.ireturn, 1) := by decide +kernel
theorem dX11_count_82 : decode cX11_count 82 = .ok (.aload_n 0, 1) := by decide +kernel
theorem dX11_count_83 : decode cX11_count 83 = .ok (.getfield 25, 3) := by decide +kernel
theorem dX11_count_86 : decode cX11_count 86 = .ok (.invokevirtual 331, 3) := by decide +kernel
theorem dX11_count_89 : decode cX11_count 89 = .ok (.ireturn, 1) := by decide +kernel
theorem dX11_count_90 : decode cX11_count 90 = .ok (.aload_n 0, 1) := by decide +kernel
theorem dX11_count_91 : decode cX11_count 91 = .ok (.getfield 25, 3) := by decide +kernel
theorem dX11_count_94 : decode cX11_count 94 = .ok (.invokevirtual 216, 3) := by decide +kernel
theorem dX11_count_97 : decode cX11_count 97 = .ok (.aload_n 0, 1) := by decide +kernel
theorem dX11_count_98 : decode cX11_count 98 = .ok (.getfield 25, 3) := by decide +kernel
theorem dX11_count_101 : decode cX11_count 101 = .ok (.getfield 114, 3) := by decide +kernel
theorem dX11_count_104 : decode cX11_count 104 = .ok (.invokestatic 117, 3) := by decide +kernel
theorem dX11_count_107 : decode cX11_count 107 = .ok (.invokestatic 121, 3) := by decide +kernel
theorem dX11_count_110 : decode cX11_count 110 = .ok (.ireturn, 1) := by decide +kernel
theorem dX11_count_111 : decode cX11_count 111 = .ok (.aload_n 0, 1) := by decide +kernel
theorem dX11_count_112 : decode cX11_count 112 = .ok (.getfield 25, 3) := by decide +kernel
theorem dX11_count_115 : decode cX11_count 115 = .ok (.invokevirtual 198, 3) := by decide +kernel
theorem dX11_count_118 : decode cX11_count 118 = .ok (.aload_n 0, 1) := by decide +kernel
theorem dX11_count_119 : decode cX11_count 119 = .ok (.getfield 25, 3) := by decide +kernel
theorem dX11_count_122 : decode cX11_count 122 = .ok (.getfield 114, 3) := by decide +kernel
theorem dX11_count_125 : decode cX11_count 125 = .ok (.invokestatic 117, 3) := by decide +kernel
theorem dX11_count_128 : decode cX11_count 128 = .ok (.invokestatic 121, 3) := by decide +kernel
theorem dX11_count_131 : decode cX11_count 131 = .ok (.ireturn, 1) := by decide +kernel
theorem dX11_count_132 : decode cX11_count 132 = .ok (.iconst (-1), 1) := by decide +kernel
theorem dX11_count_133 : decode cX11_count 133 = .ok (.ireturn, 1) := by decide +kernel
theorem dX11_keep_0 : decode cX11_keep 0 = .ok (.aload_n 0, 1) := by decide +kernel
theorem dX11_keep_1 : decode cX11_keep 1 = .ok (.iload_n 1, 1) := by decide +kernel
theorem dX11_keep_2 : decode cX11_keep 2 = .ok (.invokevirtual 75, 3) := by decide +kernel
theorem dX11_keep_5 : decode cX11_keep 5 = .ok (.astore 5, 2) := by decide +kernel
theorem dX11_keep_7 : decode cX11_keep 7 = .ok (.aload 5, 2) := by decide +kernel
theorem dX11_keep_9 : decode cX11_keep 9 = .ok (.ifnull 10, 3) := by decide +kernel
theorem dX11_keep_12 : decode cX11_keep 12 = .ok (.iload_n 2, 1) := by decide +kernel
theorem dX11_keep_13 : decode cX11_keep 13 = .ok (.invokestatic 182, 3) := by decide +kernel
theorem dX11_keep_16 : decode cX11_keep 16 = .ok (.ifCond .ne 5, 3) := by decide +kernel
theorem dX11_keep_19 : decode cX11_keep 19 = .ok (.iconst (-1), 1) := by decide +kernel
theorem dX11_keep_20 : decode cX11_keep 20 = .ok (.ireturn, 1) := by decide +kernel
theorem dX11_keep_21 : decode cX11_keep 21 = .ok (.iload_n 2, 1) := by decide +kernel
theorem dX11_keep_22 : decode cX11_keep 22 = .ok (.ifCond .ne 10, 3) := by decide +kernel
theorem dX11_keep_25 : decode cX11_keep 25 = .ok (.aload 5, 2) := by decide +kernel
theorem dX11_keep_27 : decode cX11_keep 27 = .ok (.invokevirtual 334, 3) := by decide +kernel
theorem dX11_keep_30 : decode cX11_keep 30 = .ok (.iconst 0, 1) := by decide +kernel
theorem dX11_keep_31 : decode cX11_keep 31 = .ok (.ireturn, 1) := by decide +kernel
theorem dX11_keep_32 : decode cX11_keep 32 = .ok (.aload_n 0, 1) := by decide +kernel
theorem dX11_keep_33 : decode cX11_keep 33 = .ok (.iload_n 3, 1) := by decide +kernel
theorem dX11_keep_34 : decode cX11_keep 34 = .ok (.invokevirtual 337, 3) := by decide +kernel
theorem dX11_keep_37 : decode cX11_keep 37 = .ok (.astore 6, 2) := by decide +kernel
theorem dX11_keep_39 : decode cX11_keep 39 = .ok (.aload 6, 2) := by decide +kernel
theorem dX11_keep_41 : decode cX11_keep 41 = .ok (.ifnull 15, 3) := by decide +kernel
theorem dX11_keep_44 : decode cX11_keep 44 = .ok (.iload 4, 2) := by decide +kernel
theorem dX11_keep_46 : decode cX11_keep 46 = .ok (.ifCond .lt 10, 3) := by decide +kernel
theorem dX11_keep_49 : decode cX11_keep 49 = .ok (.iload 4, 2) := by decide +kernel
theorem dX11_keep_51 : decode cX11_keep 51 = .ok (.bipush 10, 2) := by decide +kernel
theorem dX11_keep_53 : decode cX11_keep 53 = .ok (.if_icmp .lt 5, 3) := by decide +kernel
theorem dX11_keep_56 : decode cX11_keep 56 = .ok (.iconst (-1), 1) := by decide +kernel
theorem dX11_keep_57 : decode cX11_keep 57 = .ok (.ireturn, 1) := by decide +kernel
theorem dX11_keep_58 : decode cX11_keep 58 = .ok (.aload 5, 2) := by decide +kernel
theorem dX11_keep_60 : decode cX11_keep 60 = .ok (.aload 6, 2) := by decide +kernel
theorem dX11_keep_62 : decode cX11_keep 62 = .ok (.iload 4, 2) := by decide +kernel
theorem dX11_keep_64 : decode cX11_keep 64 = .ok (.invokevirtual 341, 3) := by decide +kernel
theorem dX11_keep_67 : decode cX11_keep 67 = .ok (.iconst 0, 1) := by decide +kernel
theorem dX11_keep_68 : decode cX11_keep 68 = .ok (.ireturn, 1) := by decide +kernel
theorem dX11_row_0 : decode cX11_row 0 = .ok (.aload_n 0, 1) := by decide +kernel
theorem dX11_row_1 : decode cX11_row 1 = .ok (.iload_n 1, 1) := by decide +kernel
theorem dX11_row_2 : decode cX11_row 2 = .ok (.invokevirtual 75, 3) := by decide +kernel
theorem dX11_row_5 : decode cX11_row 5 = .ok (.astore 4, 2) := by decide +kernel
theorem dX11_row_7 : decode cX11_row 7 = .ok (.aload 4, 2) := by decide +kernel
theorem dX11_row_9 : decode cX11_row 9 = .ok (.ifnull 18, 3) := by decide +kernel
theorem dX11_row_12 : decode cX11_row 12 = .ok (.iload_n 2, 1) := by decide +kernel
theorem dX11_row_13 : decode cX11_row 13 = .ok (.ifCond .lt 14, 3) := by decide +kernel
theorem dX11_row_16 : decode cX11_row 16 = .ok (.iload_n 2, 1) := by decide +kernel
theorem dX11_row_17 : decode cX11_row 17 = .ok (.iconst 2, 1) := by decide +kernel
theorem dX11_row_18 : decode cX11_row 18 = .ok (.if_icmp .gt 9, 3) := by decide +kernel
theorem dX11_row_21 : decode cX11_row 21 = .ok (.iload_n 3, 1) := by decide +kernel
theorem dX11_row_22 : decode cX11_row 22 = .ok (.bipush 100, 2) := by decide +kernel
theorem dX11_row_24 : decode cX11_row 24 = .ok (.if_icmp .le 5, 3) := by decide +kernel
theorem dX11_row_27 : decode cX11_row 27 = .ok (.iconst (-1), 1) := by decide +kernel
theorem dX11_row_28 : decode cX11_row 28 = .ok (.ireturn, 1) := by decide +kernel
theorem dX11_row_29 : decode cX11_row 29 = .ok (.iload_n 3, 1) := by decide +kernel
theorem dX11_row_30 : decode cX11_row 30 = .ok (.ifCond .ge 6, 3) := by decide +kernel
theorem dX11_row_33 : decode cX11_row 33 = .ok (.bipush (-14), 2) := by decide +kernel
theorem dX11_row_35 : decode cX11_row 35 = .ok (.ireturn, 1) := by decide +kernel
theorem dX11_row_36 : decode cX11_row 36 = .ok (.aload 4, 2) := by decide +kernel
theorem dX11_row_38 : decode cX11_row 38 = .ok (.iload_n 2, 1) := by decide +kernel
theorem dX11_row_39 : decode cX11_row 39 = .ok (.iload_n 3, 1) := by decide +kernel
theorem dX11_row_40 : decode cX11_row 40 = .ok (.invokevirtual 345, 3) := by decide +kernel
theorem dX11_row_43 : decode cX11_row 43 = .ok (.iconst 0, 1) := by decide +kernel
theorem dX11_row_44 : decode cX11_row 44 = .ok (.ireturn, 1) := by decide +kernel
theorem dX11_put_0 : decode cX11_put 0 = .ok (.aload_n 0, 1) := by decide +kernel
theorem dX11_put_1 : decode cX11_put 1 = .ok (.iload_n 1, 1) := by decide +kernel
theorem dX11_put_2 : decode cX11_put 2 = .ok (.invokevirtual 75, 3) := by decide +kernel
theorem dX11_put_5 : decode cX11_put 5 = .ok (.astore 4, 2) := by decide +kernel
theorem dX11_put_7 : decode cX11_put 7 = .ok (.aload 4, 2) := by decide +kernel
theorem dX11_put_9 : decode cX11_put 9 = .ok (.ifnonnull 5, 3) := by decide +kernel
theorem dX11_put_12 : decode cX11_put 12 = .ok (.iconst (-1), 1) := by decide +kernel
theorem dX11_put_13 : decode cX11_put 13 = .ok (.ireturn, 1) := by decide +kernel
theorem dX11_put_14 : decode cX11_put 14 = .ok (.aload 4, 2) := by decide +kernel
theorem dX11_put_16 : decode cX11_put 16 = .ok (.invokevirtual 79, 3) := by decide +kernel
theorem dX11_put_19 : decode cX11_put 19 = .ok (.istore 5, 2) := by decide +kernel
theorem dX11_put_21 : decode cX11_put 21 = .ok (.iload 5, 2) := by decide +kernel
theorem dX11_put_23 : decode cX11_put 23 = .ok (.ifCond .eq 6, 3) := by decide +kernel
theorem dX11_put_26 : decode cX11_put 26 = .ok (.iload 5, 2) := by decide +kernel
theorem dX11_put_28 : decode cX11_put 28 = .ok (.ireturn, 1) := by decide +kernel
theorem dX11_put_29 : decode cX11_put 29 = .ok (.aload 4, 2) := by decide +kernel
theorem dX11_put_31 : decode cX11_put 31 = .ok (.iload_n 2, 1) := by decide +kernel
theorem dX11_put_32 : decode cX11_put 32 = .ok (.iload_n 3, 1) := by decide +kernel
theorem dX11_put_33 : decode cX11_put 33 = .ok (.invokevirtual 349, 3) := by decide +kernel
theorem dX11_put_36 : decode cX11_put 36 = .ok (.ifCond .eq 7, 3) := by decide +kernel
theorem dX11_put_39 : decode cX11_put 39 = .ok (.iconst 0, 1) := by decide +kernel
theorem dX11_put_40 : decode cX11_put 40 = .ok (.goto 5, 3) := by decide +kernel
theorem dX11_put_43 : decode cX11_put 43 = .ok (.bipush (-13), 2) := by decide +kernel
theorem dX11_put_45 : decode cX11_put 45 = .ok (.ireturn, 1) := by decide +kernel
theorem dX11_element_0 : decode cX11_element 0 = .ok (.aload_n 0, 1) := by decide +kernel
theorem dX11_element_1 : decode cX11_element 1 = .ok (.iload_n 1, 1) := by decide +kernel
theorem dX11_element_2 : decode cX11_element 2 = .ok (.invokevirtual 75, 3) := by decide +kernel
theorem dX11_element_5 : decode cX11_element 5 = .ok (.astore_n 3, 1) := by decide +kernel
theorem dX11_element_6 : decode cX11_element 6 = .ok (.aload_n 3, 1) := by decide +kernel
theorem dX11_element_7 : decode cX11_element 7 = .ok (.ifnonnull 14, 3) := by decide +kernel
theorem dX11_element_10 : decode cX11_element 10 = .ok (.new 352, 3) := by decide +kernel
theorem dX11_element_13 : decode cX11_element 13 = .ok (.dup, 1) := by decide +kernel
theorem dX11_element_14 : decode cX11_element 14 = .ok (.ldc_w 354, 3) := by decide +kernel
theorem dX11_element_17 : decode cX11_element 17 = .ok (.invokespecial 356, 3) := by decide +kernel
theorem dX11_element_20 : decode cX11_element 20 = .ok (.athrow, 1) := by decide +kernel
theorem dX11_element_21 : decode cX11_element 21 = .ok (.aload_n 3, 1) := by decide +kernel
theorem dX11_element_22 : decode cX11_element 22 = .ok (.invokevirtual 79, 3) := by decide +kernel
theorem dX11_element_25 : decode cX11_element 25 = .ok (.ifCond .eq 14, 3) := by decide +kernel
theorem dX11_element_28 : decode cX11_element 28 = .ok (.new 359, 3) := by decide +kernel
theorem dX11_element_31 : decode cX11_element 31 = .ok (.dup, 1) := by decide +kernel
theorem dX11_element_32 : decode cX11_element 32 = .ok (.ldc_w 361, 3) := by decide +kernel
theorem dX11_element_35 : decode cX11_element 35 = .ok (.invokespecial 363, 3) := by decide +kernel
theorem dX11_element_38 : decode cX11_element 38 = .ok (.athrow, 1) := by decide +kernel
theorem dX11_element_39 : decode cX11_element 39 = .ok (.aload_n 3, 1) := by decide +kernel
theorem dX11_element_40 : decode cX11_element 40 = .ok (.iload_n 2, 1) := by decide +kernel
theorem dX11_element_41 : decode cX11_element 41 = .ok (.iconst 1, 1) := by decide +kernel
theorem dX11_element_42 : decode cX11_element 42 = .ok (.invokevirtual 364, 3) := by decide +kernel
theorem dX11_element_45 : decode cX11_element 45 = .ok (.ifCond .ne 14, 3) := by decide +kernel
theorem dX11_element_48 : decode cX11_element 48 = .ok (.new 359, 3) := by decide +kernel
theorem dX11_element_51 : decode cX11_element 51 = .ok (.dup, 1) := by decide +kernel
theorem dX11_element_52 : decode cX11_element 52 = .ok (.ldc_w 367, 3) := by decide +kernel
theorem dX11_element_55 : decode cX11_element 55 = .ok (.invokespecial 363, 3) := by decide +kernel
theorem dX11_element_58 : decode cX11_element 58 = .ok (.athrow, 1) := by decide +kernel
theorem dX11_element_59 : decode cX11_element 59 = .ok (.aload_n 3, 1) := by decide +kernel
theorem dX11_element_60 : decode cX11_element 60 = .ok (.iload_n 2, 1) := by decide +kernel
theorem dX11_element_61 : decode cX11_element 61 = .ok (.invokevirtual 314, 3) := by decide +kernel
theorem dX11_element_64 : decode cX11_element 64 = .ok (.i2l, 1) := by decide +kernel
theorem dX11_element_65 : decode cX11_element 65 = .ok (.lreturn, 1) := by decide +kernel
theorem dX11_isFact_0 : decode cX11_isFact 0 = .ok (.iload_n 0, 1) := by decide +kernel
theorem dX11_isFact_1 : decode cX11_isFact 1 = .ok (.ifCond .lt 13, 3) := by decide +kernel
theorem dX11_isFact_4 : decode cX11_isFact 4 = .ok (.iload_n 0, 1) := by decide +kernel
theorem dX11_isFact_5 : decode cX11_isFact 5 = .ok (.bipush 6, 2) := by decide +kernel
theorem dX11_isFact_7 : decode cX11_isFact 7 = .ok (.if_icmp .ge 7, 3) := by decide +kernel
theorem dX11_isFact_10 : decode cX11_isFact 10 = .ok (.iconst 1, 1) := by decide +kernel
theorem dX11_isFact_11 : decode cX11_isFact 11 = .ok (.goto 4, 3) := by decide +kernel
theorem dX11_isFact_14 : decode cX11_isFact 14 = .ok (.iconst 0, 1) := by decide +kernel
theorem dX11_isFact_15 : decode cX11_isFact 15 = .ok (.ireturn, 1) := by decide +kernel
theorem dX11_areFacts_0 : decode cX11_areFacts 0 = .ok (.iload_n 0, 1) := by decide +kernel
theorem dX11_areFacts_1 : decode cX11_areFacts 1 = .ok (.ifCond .lt 13, 3) := by decide +kernel
theorem dX11_areFacts_4 : decode cX11_areFacts 4 = .ok (.iload_n 0, 1) := by decide +kernel
theorem dX11_areFacts_5 : decode cX11_areFacts 5 = .ok (.bipush 63, 2) := by decide +kernel
theorem dX11_areFacts_7 : decode cX11_areFacts 7 = .ok (.if_icmp .gt 7, 3) := by decide +kernel
theorem dX11_areFacts_10 : decode cX11_areFacts 10 = .ok (.iconst 1, 1) := by decide +kernel
theorem dX11_areFacts_11 : decode cX11_areFacts 11 = .ok (.goto 4, 3) := by decide +kernel
theorem dX11_areFacts_14 : decode cX11_areFacts 14 = .ok (.iconst 0, 1) := by decide +kernel
theorem dX11_areFacts_15 : decode cX11_areFacts 15 = .ok (.ireturn, 1) := by decide +kernel
theorem dX11_isWorld_0 : decode cX11_isWorld 0 = .ok (.iload_n 0, 1) := by decide +kernel
theorem dX11_isWorld_1 : decode cX11_isWorld 1 = .ok (.ifCond .lt 13, 3) := by decide +kernel
theorem dX11_isWorld_4 : decode cX11_isWorld 4 = .ok (.iload_n 0, 1) := by decide +kernel
theorem dX11_isWorld_5 : decode cX11_isWorld 5 = .ok (.bipush 64, 2) := by decide +kernel
theorem dX11_isWorld_7 : decode cX11_isWorld 7 = .ok (.if_icmp .ge 7, 3) := by decide +kernel
theorem dX11_isWorld_10 : decode cX11_isWorld 10 = .ok (.iconst 1, 1) := by decide +kernel
theorem dX11_isWorld_11 : decode cX11_isWorld 11 = .ok (.goto 4, 3) := by decide +kernel
theorem dX11_isWorld_14 : decode cX11_isWorld 14 = .ok (.iconst 0, 1) := by decide +kernel
theorem dX11_isWorld_15 : decode cX11_isWorld 15 = .ok (.ireturn, 1) := by decide +kernel
theorem dX11_isEitherOr_0 : decode cX11_isEitherOr 0 = .ok (.iload_n 0, 1) := by decide +kernel
theorem dX11_isEitherOr_1 : decode cX11_isEitherOr 1 = .ok (.ifCond .eq 8, 3) := by decide +kernel
theorem dX11_isEitherOr_4 : decode cX11_isEitherOr 4 = .ok (.iload_n 0, 1) := by decide +kernel
theorem dX11_isEitherOr_5 : decode cX11_isEitherOr 5 = .ok (.iconst 1, 1) := by decide +kernel
theorem dX11_isEitherOr_6 : decode cX11_isEitherOr 6 = .ok (.if_icmp .ne 7, 3) := by decide +kernel
theorem dX11_isEitherOr_9 : decode cX11_isEitherOr 9 = .ok (.iconst 1, 1) := by decide +kernel
theorem dX11_isEitherOr_10 : decode cX11_isEitherOr 10 = .ok (.goto 4, 3) := by decide +kernel
theorem dX11_isEitherOr_13 : decode cX11_isEitherOr 13 = .ok (.iconst 0, 1) := by decide +kernel
theorem dX11_isEitherOr_14 : decode cX11_isEitherOr 14 = .ok (.ireturn, 1) := by decide +kernel
theorem dX11_oneIf_0 : decode cX11_oneIf 0 = .ok (.iload_n 0, 1) := by decide +kernel
theorem dX11_oneIf_1 : decode cX11_oneIf 1 = .ok (.ifCond .eq 7, 3) := by decide +kernel
theorem dX11_oneIf_4 : decode cX11_oneIf 4 = .ok (.iconst 1, 1) := by decide +kernel
theorem dX11_oneIf_5 : decode cX11_oneIf 5 = .ok (.goto 4, 3) := by decide +kernel
theorem dX11_oneIf_8 : decode cX11_oneIf 8 = .ok (.iconst 0, 1) := by decide +kernel
theorem dX11_oneIf_9 : decode cX11_oneIf 9 = .ok (.ireturn, 1) := by decide +kernel
theorem dX11_refusedLong_0 : decode cX11_refusedLong 0 = .ok (.ldc2_w 391, 3) := by decide +kernel
theorem dX11_refusedLong_3 : decode cX11_refusedLong 3 = .ok (.iload_n 0, 1) := by decide +kernel
theorem dX11_refusedLong_4 : decode cX11_refusedLong 4 = .ok (.i2l, 1) := by decide +kernel
theorem dX11_refusedLong_5 : decode cX11_refusedLong 5 = .ok (.lsub, 1) := by decide +kernel
theorem dX11_refusedLong_6 : decode cX11_refusedLong 6 = .ok (.lreturn, 1) := by decide +kernel
theorem dX11_shelfAt_0 : decode cX11_shelfAt 0 = .ok (.iload_n 1, 1) := by decide +kernel
theorem dX11_shelfAt_1 : decode cX11_shelfAt 1 = .ok (.ifCond .lt 21, 3) := by decide +kernel
theorem dX11_shelfAt_4 : decode cX11_shelfAt 4 = .ok (.iload_n 1, 1) := by decide +kernel
theorem dX11_shelfAt_5 : decode cX11_shelfAt 5 = .ok (.aload_n 0, 1) := by decide +kernel
theorem dX11_shelfAt_6 : decode cX11_shelfAt 6 = .ok (.getfield 18, 3) := by decide +kernel
theorem dX11_shelfAt_9 : decode cX11_shelfAt 9 = .ok (.arraylength, 1) := by decide +kernel
theorem dX11_shelfAt_10 : decode cX11_shelfAt 10 = .ok (.if_icmp .ge 12, 3) := by decide +kernel
theorem dX11_shelfAt_13 : decode cX11_shelfAt 13 = .ok (.aload_n 0, 1) := by decide +kernel
theorem dX11_shelfAt_14 : decode cX11_shelfAt 14 = .ok (.getfield 18, 3) := by decide +kernel
theorem dX11_shelfAt_17 : decode cX11_shelfAt 17 = .ok (.iload_n 1, 1) := by decide +kernel
theorem dX11_shelfAt_18 : decode cX11_shelfAt 18 = .ok (.aaload, 1) := by decide +kernel
theorem dX11_shelfAt_19 : decode cX11_shelfAt 19 = .ok (.goto 4, 3) := by decide +kernel
theorem dX11_shelfAt_22 : decode cX11_shelfAt 22 = .ok (.aconst_null, 1) := by decide +kernel
theorem dX11_shelfAt_23 : decode cX11_shelfAt 23 = .ok (.areturn, 1) := by decide +kernel
theorem dX11_kindNumbered_0 : decode cX11_kindNumbered 0 = .ok (.iload_n 1, 1) := by decide +kernel
theorem dX11_kindNumbered_1 : decode cX11_kindNumbered 1 = .ok (.ifCond .lt 28, 3) := by decide +kernel
theorem dX11_kindNumbered_4 : decode cX11_kindNumbered 4 = .ok (.iload_n 1, 1) := by decide +kernel
theorem dX11_kindNumbered_5 : decode cX11_kindNumbered 5 = .ok (.aload_n 0, 1) := by decide +kernel
theorem dX11_kindNumbered_6 : decode cX11_kindNumbered 6 = .ok (.getfield 12, 3) := by decide +kernel
theorem dX11_kindNumbered_9 : decode cX11_kindNumbered 9 = .ok (.invokevirtual 163, 3) := by decide +kernel
theorem dX11_kindNumbered_12 : decode cX11_kindNumbered 12 = .ok (.if_icmp .ge 17, 3) := by decide +kernel
theorem dX11_kindNumbered_15 : decode cX11_kindNumbered 15 = .ok (.aload_n 0, 1) := by decide +kernel
theorem dX11_kindNumbered_16 : decode cX11_kindNumbered 16 = .ok (.getfield 12, 3) := by decide +kernel
theorem dX11_kindNumbered_19 : decode cX11_kindNumbered 19 = .ok (.iload_n 1, 1) := by decide +kernel
theorem dX11_kindNumbered_20 : decode cX11_kindNumbered 20 = .ok (.invokevirtual 221, 3) := by decide +kernel
theorem dX11_kindNumbered_23 : decode cX11_kindNumbered 23 = .ok (.checkcast 42, 3) := by decide +kernel
theorem dX11_kindNumbered_26 : decode cX11_kindNumbered 26 = .ok (.goto 4, 3) := by decide +kernel
theorem dX11_kindNumbered_29 : decode cX11_kindNumbered 29 = .ok (.aconst_null, 1) := by decide +kernel
theorem dX11_kindNumbered_30 : decode cX11_kindNumbered 30 = .ok (.areturn, 1) := by decide +kernel
theorem dX11_sayingIn_0 : decode cX11_sayingIn 0 = .ok (.iload_n 1, 1) := by decide +kernel
theorem dX11_sayingIn_1 : decode cX11_sayingIn 1 = .ok (.ifCond .lt 22, 3) := by decide +kernel
theorem dX11_sayingIn_4 : decode cX11_sayingIn 4 = .ok (.iload_n 1, 1) := by decide +kernel
theorem dX11_sayingIn_5 : decode cX11_sayingIn 5 = .ok (.aload_n 0, 1) := by decide +kernel
theorem dX11_sayingIn_6 : decode cX11_sayingIn 6 = .ok (.invokevirtual 163, 3) := by decide +kernel
theorem dX11_sayingIn_9 : decode cX11_sayingIn 9 = .ok (.if_icmp .ge 14, 3) := by decide +kernel
theorem dX11_sayingIn_12 : decode cX11_sayingIn 12 = .ok (.aload_n 0, 1) := by decide +kernel
theorem dX11_sayingIn_13 : decode cX11_sayingIn 13 = .ok (.iload_n 1, 1) := by decide +kernel
theorem dX11_sayingIn_14 : decode cX11_sayingIn 14 = .ok (.invokevirtual 221, 3) := by decide +kernel
theorem dX11_sayingIn_17 : decode cX11_sayingIn 17 = .ok (.checkcast 102, 3) := by decide +kernel
theorem dX11_sayingIn_20 : decode cX11_sayingIn 20 = .ok (.goto 4, 3) := by decide +kernel
theorem dX11_sayingIn_23 : decode cX11_sayingIn 23 = .ok (.aconst_null, 1) := by decide +kernel
theorem dX11_sayingIn_24 : decode cX11_sayingIn 24 = .ok (.areturn, 1) := by decide +kernel
theorem dX11_newSaying_0 : decode cX11_newSaying 0 = .ok (.new 102, 3) := by decide +kernel
theorem dX11_newSaying_3 : decode cX11_newSaying 3 = .ok (.dup, 1) := by decide +kernel
theorem dX11_newSaying_4 : decode cX11_newSaying 4 = .ok (.iload_n 0, 1) := by decide +kernel
theorem dX11_newSaying_5 : decode cX11_newSaying 5 = .ok (.aload_n 1, 1) := by decide +kernel
theorem dX11_newSaying_6 : decode cX11_newSaying 6 = .ok (.iload_n 2, 1) := by decide +kernel
theorem dX11_newSaying_7 : decode cX11_newSaying 7 = .ok (.iload_n 3, 1) := by decide +kernel
theorem dX11_newSaying_8 : decode cX11_newSaying 8 = .ok (.iload 4, 2) := by decide +kernel
theorem dX11_newSaying_10 : decode cX11_newSaying 10 = .ok (.aload_n 1, 1) := by decide +kernel
theorem dX11_newSaying_11 : decode cX11_newSaying 11 = .ok (.iload_n 2, 1) := by decide +kernel
theorem dX11_newSaying_12 : decode cX11_newSaying 12 = .ok (.iload_n 3, 1) := by decide +kernel
theorem dX11_newSaying_13 : decode cX11_newSaying 13 = .ok (.iload 4, 2) := by decide +kernel
theorem dX11_newSaying_15 : decode cX11_newSaying 15 = .ok (.invokevirtual 393, 3) := by decide +kernel
theorem dX11_newSaying_18 : decode cX11_newSaying 18 = .ok (.invokespecial 396, 3) := by decide +kernel
theorem dX11_newSaying_21 : decode cX11_newSaying 21 = .ok (.areturn, 1) := by decide +kernel
theorem dX11_worldsWith_0 : decode cX11_worldsWith 0 = .ok (.iload_n 0, 1) := by decide +kernel
theorem dX11_worldsWith_1 : decode cX11_worldsWith 1 = .ok (.ifCond .lt 19, 3) := by decide +kernel
theorem dX11_worldsWith_4 : decode cX11_worldsWith 4 = .ok (.iload_n 0, 1) := by decide +kernel
theorem dX11_worldsWith_5 : decode cX11_worldsWith 5 = .ok (.getstatic 399, 3) := by decide +kernel
theorem dX11_worldsWith_8 : decode cX11_worldsWith 8 = .ok (.arraylength, 1) := by decide +kernel
theorem dX11_worldsWith_9 : decode cX11_worldsWith 9 = .ok (.if_icmp .ge 11, 3) := by decide +kernel
theorem dX11_worldsWith_12 : decode cX11_worldsWith 12 = .ok (.getstatic 399, 3) := by decide +kernel
theorem dX11_worldsWith_15 : decode cX11_worldsWith 15 = .ok (.iload_n 0, 1) := by decide +kernel
theorem dX11_worldsWith_16 : decode cX11_worldsWith 16 = .ok (.laload, 1) := by decide +kernel
theorem dX11_worldsWith_17 : decode cX11_worldsWith 17 = .ok (.goto 4, 3) := by decide +kernel
theorem dX11_worldsWith_20 : decode cX11_worldsWith 20 = .ok (.lconst 0, 1) := by decide +kernel
theorem dX11_worldsWith_21 : decode cX11_worldsWith 21 = .ok (.lreturn, 1) := by decide +kernel
theorem dX11_factBit_0 : decode cX11_factBit 0 = .ok (.iconst 1, 1) := by decide +kernel
theorem dX11_factBit_1 : decode cX11_factBit 1 = .ok (.iload_n 0, 1) := by decide +kernel
theorem dX11_factBit_2 : decode cX11_factBit 2 = .ok (.ishl, 1) := by decide +kernel
theorem dX11_factBit_3 : decode cX11_factBit 3 = .ok (.ireturn, 1) := by decide +kernel
theorem dX11_hasWorld_0 : decode cX11_hasWorld 0 = .ok (.lload_n 0, 1) := by decide +kernel
theorem dX11_hasWorld_1 : decode cX11_hasWorld 1 = .ok (.iload_n 2, 1) := by decide +kernel
theorem dX11_hasWorld_2 : decode cX11_hasWorld 2 = .ok (.lushr, 1) := by decide +kernel
theorem dX11_hasWorld_3 : decode cX11_hasWorld 3 = .ok (.lconst 1, 1) := by decide +kernel
theorem dX11_hasWorld_4 : decode cX11_hasWorld 4 = .ok (.land, 1) := by decide +kernel
theorem dX11_hasWorld_5 : decode cX11_hasWorld 5 = .ok (.lconst 0, 1) := by decide +kernel
theorem dX11_hasWorld_6 : decode cX11_hasWorld 6 = .ok (.lcmp, 1) := by decide +kernel
theorem dX11_hasWorld_7 : decode cX11_hasWorld 7 = .ok (.ifCond .eq 7, 3) := by decide +kernel
theorem dX11_hasWorld_10 : decode cX11_hasWorld 10 = .ok (.iconst 1, 1) := by decide +kernel
theorem dX11_hasWorld_11 : decode cX11_hasWorld 11 = .ok (.goto 4, 3) := by decide +kernel
theorem dX11_hasWorld_14 : decode cX11_hasWorld 14 = .ok (.iconst 0, 1) := by decide +kernel
theorem dX11_hasWorld_15 : decode cX11_hasWorld 15 = .ok (.ireturn, 1) := by decide +kernel
theorem dX11_factsOfAll_0 : decode cX11_factsOfAll 0 = .ok (.iconst 0, 1) := by decide +kernel
theorem dX11_factsOfAll_1 : decode cX11_factsOfAll 1 = .ok (.istore_n 2, 1) := by decide +kernel
theorem dX11_factsOfAll_2 : decode cX11_factsOfAll 2 = .ok (.iconst 0, 1) := by decide +kernel
theorem dX11_factsOfAll_3 : decode cX11_factsOfAll 3 = .ok (.istore_n 3, 1) := by decide +kernel
theorem dX11_factsOfAll_4 : decode cX11_factsOfAll 4 = .ok (.iload_n 3, 1) := by decide +kernel
theorem dX11_factsOfAll_5 : decode cX11_factsOfAll 5 = .ok (.bipush 6, 2) := by decide +kernel
theorem dX11_factsOfAll_7 : decode cX11_factsOfAll 7 = .ok (.if_icmp .ge 31, 3) := by decide +kernel
theorem dX11_factsOfAll_10 : decode cX11_factsOfAll 10 = .ok (.lload_n 0, 1) := by decide +kernel
theorem dX11_factsOfAll_11 : decode cX11_factsOfAll 11 = .ok (.iload_n 3, 1) := by decide +kernel
theorem dX11_factsOfAll_12 : decode cX11_factsOfAll 12 = .ok (.invokestatic 233, 3) := by decide +kernel
theorem dX11_factsOfAll_15 : decode cX11_factsOfAll 15 = .ok (.ldc2_w 219, 3) := by decide +kernel
theorem dX11_factsOfAll_18 : decode cX11_factsOfAll 18 = .ok (.lxor, 1) := by decide +kernel
theorem dX11_factsOfAll_19 : decode cX11_factsOfAll 19 = .ok (.land, 1) := by decide +kernel
theorem dX11_factsOfAll_20 : decode cX11_factsOfAll 20 = .ok (.lconst 0, 1) := by decide +kernel
theorem dX11_factsOfAll_21 : decode cX11_factsOfAll 21 = .ok (.lcmp, 1) := by decide +kernel
theorem dX11_factsOfAll_22 : decode cX11_factsOfAll 22 = .ok (.ifCond .ne 10, 3) := by decide +kernel
theorem dX11_factsOfAll_25 : decode cX11_factsOfAll 25 = .ok (.iload_n 2, 1) := by decide +kernel
theorem dX11_factsOfAll_26 : decode cX11_factsOfAll 26 = .ok (.iload_n 3, 1) := by decide +kernel
theorem dX11_factsOfAll_27 : decode cX11_factsOfAll 27 = .ok (.invokestatic 402, 3) := by decide +kernel
theorem dX11_factsOfAll_30 : decode cX11_factsOfAll 30 = .ok (.ior, 1) := by decide +kernel
theorem dX11_factsOfAll_31 : decode cX11_factsOfAll 31 = .ok (.istore_n 2, 1) := by decide +kernel
theorem dX11_factsOfAll_32 : decode cX11_factsOfAll 32 = .ok (.iinc 3 1, 3) := by decide +kernel
theorem dX11_factsOfAll_35 : decode cX11_factsOfAll 35 = .ok (.goto (-31), 3) := by decide +kernel
theorem dX11_factsOfAll_38 : decode cX11_factsOfAll 38 = .ok (.iload_n 2, 1) := by decide +kernel
theorem dX11_factsOfAll_39 : decode cX11_factsOfAll 39 = .ok (.ireturn, 1) := by decide +kernel
theorem dX11_factsOfNone_0 : decode cX11_factsOfNone 0 = .ok (.iconst 0, 1) := by decide +kernel
theorem dX11_factsOfNone_1 : decode cX11_factsOfNone 1 = .ok (.istore_n 2, 1) := by decide +kernel
theorem dX11_factsOfNone_2 : decode cX11_factsOfNone 2 = .ok (.iconst 0, 1) := by decide +kernel
theorem dX11_factsOfNone_3 : decode cX11_factsOfNone 3 = .ok (.istore_n 3, 1) := by decide +kernel
theorem dX11_factsOfNone_4 : decode cX11_factsOfNone 4 = .ok (.iload_n 3, 1) := by decide +kernel
theorem dX11_factsOfNone_5 : decode cX11_factsOfNone 5 = .ok (.bipush 6, 2) := by decide +kernel
theorem dX11_factsOfNone_7 : decode cX11_factsOfNone 7 = .ok (.if_icmp .ge 27, 3) := by decide +kernel
theorem dX11_factsOfNone_10 : decode cX11_factsOfNone 10 = .ok (.lload_n 0, 1) := by decide +kernel
theorem dX11_factsOfNone_11 : decode cX11_factsOfNone 11 = .ok (.iload_n 3, 1) := by decide +kernel
theorem dX11_factsOfNone_12 : decode cX11_factsOfNone 12 = .ok (.invokestatic 233, 3) := by decide +kernel
theorem dX11_factsOfNone_15 : decode cX11_factsOfNone 15 = .ok (.land, 1) := by decide +kernel
theorem dX11_factsOfNone_16 : decode cX11_factsOfNone 16 = .ok (.lconst 0, 1) := by decide +kernel
theorem dX11_factsOfNone_17 : decode cX11_factsOfNone 17 = .ok (.lcmp, 1) := by decide +kernel
theorem dX11_factsOfNone_18 : decode cX11_factsOfNone 18 = .ok (.ifCond .ne 10, 3) := by decide +kernel
theorem dX11_factsOfNone_21 : decode cX11_factsOfNone 21 = .ok (.iload_n 2, 1) := by decide +kernel
theorem dX11_factsOfNone_22 : decode cX11_factsOfNone 22 = .ok (.iload_n 3, 1) := by decide +kernel
theorem dX11_factsOfNone_23 : decode cX11_factsOfNone 23 = .ok (.invokestatic 402, 3) := by decide +kernel
theorem dX11_factsOfNone_26 : decode cX11_factsOfNone 26 = .ok (.ior, 1) := by decide +kernel
theorem dX11_factsOfNone_27 : decode cX11_factsOfNone 27 = .ok (.istore_n 2, 1) := by decide +kernel
theorem dX11_factsOfNone_28 : decode cX11_factsOfNone 28 = .ok (.iinc 3 1, 3) := by decide +kernel
theorem dX11_factsOfNone_31 : decode cX11_factsOfNone 31 = .ok (.goto (-27), 3) := by decide +kernel
theorem dX11_factsOfNone_34 : decode cX11_factsOfNone 34 = .ok (.iload_n 2, 1) := by decide +kernel
theorem dX11_factsOfNone_35 : decode cX11_factsOfNone 35 = .ok (.ireturn, 1) := by decide +kernel
theorem dX11_factsAlike_0 : decode cX11_factsAlike 0 = .ok (.lload_n 0, 1) := by decide +kernel
theorem dX11_factsAlike_1 : decode cX11_factsAlike 1 = .ok (.invokestatic 202, 3) := by decide +kernel
theorem dX11_factsAlike_4 : decode cX11_factsAlike 4 = .ok (.lload_n 0, 1) := by decide +kernel
theorem dX11_factsAlike_5 : decode cX11_factsAlike 5 = .ok (.invokestatic 205, 3) := by decide +kernel
theorem dX11_factsAlike_8 : decode cX11_factsAlike 8 = .ok (.ior, 1) := by decide +kernel
theorem dX11_factsAlike_9 : decode cX11_factsAlike 9 = .ok (.ireturn, 1) := by decide +kernel
theorem dX11_isProvedBy_0 : decode cX11_isProvedBy 0 = .ok (.lload_n 0, 1) := by decide +kernel
theorem dX11_isProvedBy_1 : decode cX11_isProvedBy 1 = .ok (.lconst 0, 1) := by decide +kernel
theorem dX11_isProvedBy_2 : decode cX11_isProvedBy 2 = .ok (.lcmp, 1) := by decide +kernel
theorem dX11_isProvedBy_3 : decode cX11_isProvedBy 3 = .ok (.ifCond .eq 22, 3) := by decide +kernel
theorem dX11_isProvedBy_6 : decode cX11_isProvedBy 6 = .ok (.lload_n 0, 1) := by decide +kernel
theorem dX11_isProvedBy_7 : decode cX11_isProvedBy 7 = .ok (.iload_n 2, 1) := by decide +kernel
theorem dX11_isProvedBy_8 : decode cX11_isProvedBy 8 = .ok (.invokestatic 233, 3) := by decide +kernel
theorem dX11_isProvedBy_11 : decode cX11_isProvedBy 11 = .ok (.ldc2_w 219, 3) := by decide +kernel
theorem dX11_isProvedBy_14 : decode cX11_isProvedBy 14 = .ok (.lxor, 1) := by decide +kernel
theorem dX11_isProvedBy_15 : decode cX11_isProvedBy 15 = .ok (.land, 1) := by decide +kernel
theorem dX11_isProvedBy_16 : decode cX11_isProvedBy 16 = .ok (.lconst 0, 1) := by decide +kernel
theorem dX11_isProvedBy_17 : decode cX11_isProvedBy 17 = .ok (.lcmp, 1) := by decide +kernel
theorem dX11_isProvedBy_18 : decode cX11_isProvedBy 18 = .ok (.ifCond .ne 7, 3) := by decide +kernel
theorem dX11_isProvedBy_21 : decode cX11_isProvedBy 21 = .ok (.iconst 1, 1) := by decide +kernel
theorem dX11_isProvedBy_22 : decode cX11_isProvedBy 22 = .ok (.goto 4, 3) := by decide +kernel
theorem dX11_isProvedBy_25 : decode cX11_isProvedBy 25 = .ok (.iconst 0, 1) := by decide +kernel
theorem dX11_isProvedBy_26 : decode cX11_isProvedBy 26 = .ok (.ireturn, 1) := by decide +kernel
theorem dX11_likeInKnown_0 : decode cX11_likeInKnown 0 = .ok (.lload_n 0, 1) := by decide +kernel
theorem dX11_likeInKnown_1 : decode cX11_likeInKnown 1 = .ok (.lstore 4, 2) := by decide +kernel
theorem dX11_likeInKnown_3 : decode cX11_likeInKnown 3 = .ok (.iconst 0, 1) := by decide +kernel
theorem dX11_likeInKnown_4 : decode cX11_likeInKnown 4 = .ok (.istore 6, 2) := by decide +kernel
theorem dX11_likeInKnown_6 : decode cX11_likeInKnown 6 = .ok (.iload 6, 2) := by decide +kernel
theorem dX11_likeInKnown_8 : decode cX11_likeInKnown 8 = .ok (.bipush 6, 2) := by decide +kernel
theorem dX11_likeInKnown_10 : decode cX11_likeInKnown 10 = .ok (.if_icmp .ge 51, 3) := by decide +kernel
theorem dX11_likeInKnown_13 : decode cX11_likeInKnown 13 = .ok (.iload_n 3, 1) := by decide +kernel
theorem dX11_likeInKnown_14 : decode cX11_likeInKnown 14 = .ok (.iload 6, 2) := by decide +kernel
theorem dX11_likeInKnown_16 : decode cX11_likeInKnown 16 = .ok (.invokestatic 402, 3) := by decide +kernel
theorem dX11_likeInKnown_19 : decode cX11_likeInKnown 19 = .ok (.iand, 1) := by decide +kernel
theorem dX11_likeInKnown_20 : decode cX11_likeInKnown 20 = .ok (.ifCond .eq 35, 3) := by decide +kernel
theorem dX11_likeInKnown_23 : decode cX11_likeInKnown 23 = .ok (.lload 4, 2) := by decide +kernel
theorem dX11_likeInKnown_25 : decode cX11_likeInKnown 25 = .ok (.iload_n 2, 1) := by decide +kernel
theorem dX11_likeInKnown_26 : decode cX11_likeInKnown 26 = .ok (.iload 6, 2) := by decide +kernel
theorem dX11_likeInKnown_28 : decode cX11_likeInKnown 28 = .ok (.invokestatic 402, 3) := by decide +kernel
theorem dX11_likeInKnown_31 : decode cX11_likeInKnown 31 = .ok (.iand, 1) := by decide +kernel
theorem dX11_likeInKnown_32 : decode cX11_likeInKnown 32 = .ok (.ifCond .eq 11, 3) := by decide +kernel
theorem dX11_likeInKnown_35 : decode cX11_likeInKnown 35 = .ok (.iload 6, 2) := by decide +kernel
theorem dX11_likeInKnown_37 : decode cX11_likeInKnown 37 = .ok (.invokestatic 233, 3) := by decide +kernel
theorem dX11_likeInKnown_40 : decode cX11_likeInKnown 40 = .ok (.goto 12, 3) := by decide +kernel
theorem dX11_likeInKnown_43 : decode cX11_likeInKnown 43 = .ok (.iload 6, 2) := by decide +kernel
theorem dX11_likeInKnown_45 : decode cX11_likeInKnown 45 = .ok (.invokestatic 233, 3) := by decide +kernel
theorem dX11_likeInKnown_48 : decode cX11_likeInKnown 48 = .ok (.ldc2_w 219, 3) := by decide +kernel
theorem dX11_likeInKnown_51 : decode cX11_likeInKnown 51 = .ok (.lxor, 1) := by decide +kernel
theorem dX11_likeInKnown_52 : decode cX11_likeInKnown 52 = .ok (.land, 1) := by decide +kernel
theorem dX11_likeInKnown_53 : decode cX11_likeInKnown 53 = .ok (.lstore 4, 2) := by decide +kernel
theorem dX11_likeInKnown_55 : decode cX11_likeInKnown 55 = .ok (.iinc 6 1, 3) := by decide +kernel
theorem dX11_likeInKnown_58 : decode cX11_likeInKnown 58 = .ok (.goto (-52), 3) := by decide +kernel
theorem dX11_likeInKnown_61 : decode cX11_likeInKnown 61 = .ok (.lload 4, 2) := by decide +kernel
theorem dX11_likeInKnown_63 : decode cX11_likeInKnown 63 = .ok (.lreturn, 1) := by decide +kernel
theorem dX11_brokenPlace_0 : decode cX11_brokenPlace 0 = .ok (.iconst 0, 1) := by decide +kernel
theorem dX11_brokenPlace_1 : decode cX11_brokenPlace 1 = .ok (.istore_n 1, 1) := by decide +kernel
theorem dX11_brokenPlace_2 : decode cX11_brokenPlace 2 = .ok (.aload_n 0, 1) := by decide +kernel
theorem dX11_brokenPlace_3 : decode cX11_brokenPlace 3 = .ok (.iload_n 1, 1) := by decide +kernel
theorem dX11_brokenPlace_4 : decode cX11_brokenPlace 4 = .ok (.invokevirtual 314, 3) := by decide +kernel
theorem dX11_brokenPlace_7 : decode cX11_brokenPlace 7 = .ok (.invokestatic 405, 3) := by decide +kernel
theorem dX11_brokenPlace_10 : decode cX11_brokenPlace 10 = .ok (.istore_n 2, 1) := by decide +kernel
theorem dX11_brokenPlace_11 : decode cX11_brokenPlace 11 = .ok (.iload_n 2, 1) := by decide +kernel
theorem dX11_brokenPlace_12 : decode cX11_brokenPlace 12 = .ok (.ifCond .ge 5, 3) := by decide +kernel
theorem dX11_brokenPlace_15 : decode cX11_brokenPlace 15 = .ok (.iload_n 1, 1) := by decide +kernel
theorem dX11_brokenPlace_16 : decode cX11_brokenPlace 16 = .ok (.ireturn, 1) := by decide +kernel
theorem dX11_brokenPlace_17 : decode cX11_brokenPlace 17 = .ok (.iconst 1, 1) := by decide +kernel
theorem dX11_brokenPlace_18 : decode cX11_brokenPlace 18 = .ok (.istore_n 3, 1) := by decide +kernel
theorem dX11_brokenPlace_19 : decode cX11_brokenPlace 19 = .ok (.iload_n 3, 1) := by decide +kernel
theorem dX11_brokenPlace_20 : decode cX11_brokenPlace 20 = .ok (.iload_n 2, 1) := by decide +kernel
theorem dX11_brokenPlace_21 : decode cX11_brokenPlace 21 = .ok (.if_icmp .gt 26, 3) := by decide +kernel
theorem dX11_brokenPlace_24 : decode cX11_brokenPlace 24 = .ok (.aload_n 0, 1) := by decide +kernel
theorem dX11_brokenPlace_25 : decode cX11_brokenPlace 25 = .ok (.iload_n 1, 1) := by decide +kernel
theorem dX11_brokenPlace_26 : decode cX11_brokenPlace 26 = .ok (.iload_n 3, 1) := by decide +kernel
theorem dX11_brokenPlace_27 : decode cX11_brokenPlace 27 = .ok (.iadd, 1) := by decide +kernel
theorem dX11_brokenPlace_28 : decode cX11_brokenPlace 28 = .ok (.invokevirtual 314, 3) := by decide +kernel
theorem dX11_brokenPlace_31 : decode cX11_brokenPlace 31 = .ok (.invokestatic 408, 3) := by decide +kernel
theorem dX11_brokenPlace_34 : decode cX11_brokenPlace 34 = .ok (.ifCond .ne 7, 3) := by decide +kernel
theorem dX11_brokenPlace_37 : decode cX11_brokenPlace 37 = .ok (.iload_n 1, 1) := by decide +kernel
theorem dX11_brokenPlace_38 : decode cX11_brokenPlace 38 = .ok (.iload_n 3, 1) := by decide +kernel
theorem dX11_brokenPlace_39 : decode cX11_brokenPlace 39 = .ok (.iadd, 1) := by decide +kernel
theorem dX11_brokenPlace_40 : decode cX11_brokenPlace 40 = .ok (.ireturn, 1) := by decide +kernel
theorem dX11_brokenPlace_41 : decode cX11_brokenPlace 41 = .ok (.iinc 3 1, 3) := by decide +kernel
theorem dX11_brokenPlace_44 : decode cX11_brokenPlace 44 = .ok (.goto (-25), 3) := by decide +kernel
theorem dX11_brokenPlace_47 : decode cX11_brokenPlace 47 = .ok (.iload_n 1, 1) := by decide +kernel
theorem dX11_brokenPlace_48 : decode cX11_brokenPlace 48 = .ok (.iload_n 2, 1) := by decide +kernel
theorem dX11_brokenPlace_49 : decode cX11_brokenPlace 49 = .ok (.iconst 1, 1) := by decide +kernel
theorem dX11_brokenPlace_50 : decode cX11_brokenPlace 50 = .ok (.iadd, 1) := by decide +kernel
theorem dX11_brokenPlace_51 : decode cX11_brokenPlace 51 = .ok (.iadd, 1) := by decide +kernel
theorem dX11_brokenPlace_52 : decode cX11_brokenPlace 52 = .ok (.istore_n 1, 1) := by decide +kernel
theorem dX11_brokenPlace_53 : decode cX11_brokenPlace 53 = .ok (.aload_n 0, 1) := by decide +kernel
theorem dX11_brokenPlace_54 : decode cX11_brokenPlace 54 = .ok (.iload_n 1, 1) := by decide +kernel
theorem dX11_brokenPlace_55 : decode cX11_brokenPlace 55 = .ok (.invokevirtual 314, 3) := by decide +kernel
theorem dX11_brokenPlace_58 : decode cX11_brokenPlace 58 = .ok (.bipush 59, 2) := by decide +kernel
theorem dX11_brokenPlace_60 : decode cX11_brokenPlace 60 = .ok (.if_icmp .eq 5, 3) := by decide +kernel
theorem dX11_brokenPlace_63 : decode cX11_brokenPlace 63 = .ok (.iload_n 1, 1) := by decide +kernel
theorem dX11_brokenPlace_64 : decode cX11_brokenPlace 64 = .ok (.ireturn, 1) := by decide +kernel
theorem dX11_brokenPlace_65 : decode cX11_brokenPlace 65 = .ok (.iinc 1 1, 3) := by decide +kernel
theorem dX11_brokenPlace_68 : decode cX11_brokenPlace 68 = .ok (.iload_n 1, 1) := by decide +kernel
theorem dX11_brokenPlace_69 : decode cX11_brokenPlace 69 = .ok (.aload_n 0, 1) := by decide +kernel
theorem dX11_brokenPlace_70 : decode cX11_brokenPlace 70 = .ok (.getfield 304, 3) := by decide +kernel
theorem dX11_brokenPlace_73 : decode cX11_brokenPlace 73 = .ok (.if_icmp .lt (-71), 3) := by decide +kernel
theorem dX11_brokenPlace_76 : decode cX11_brokenPlace 76 = .ok (.iconst (-1), 1) := by decide +kernel
theorem dX11_brokenPlace_77 : decode cX11_brokenPlace 77 = .ok (.ireturn, 1) := by decide +kernel
theorem dX11_digitsBehind_0 : decode cX11_digitsBehind 0 = .ok (.iload_n 0, 1) := by decide +kernel
theorem dX11_digitsBehind_1 : decode cX11_digitsBehind 1 = .ok (.lookupswitch 49 #[(108, 43), (115, 47), (116, 45), (119, 45)], 43) := by decide +kernel
theorem dX11_digitsBehind_44 : decode cX11_digitsBehind 44 = .ok (.iconst 4, 1) := by decide +kernel
theorem dX11_digitsBehind_45 : decode cX11_digitsBehind 45 = .ok (.ireturn, 1) := by decide +kernel
theorem dX11_digitsBehind_46 : decode cX11_digitsBehind 46 = .ok (.iconst 2, 1) := by decide +kernel
theorem dX11_digitsBehind_47 : decode cX11_digitsBehind 47 = .ok (.ireturn, 1) := by decide +kernel
theorem dX11_digitsBehind_48 : decode cX11_digitsBehind 48 = .ok (.iconst 5, 1) := by decide +kernel
theorem dX11_digitsBehind_49 : decode cX11_digitsBehind 49 = .ok (.ireturn, 1) := by decide +kernel
theorem dX11_digitsBehind_50 : decode cX11_digitsBehind 50 = .ok (.iconst (-1), 1) := by decide +kernel
theorem dX11_digitsBehind_51 : decode cX11_digitsBehind 51 = .ok (.ireturn, 1) := by decide +kernel
theorem dX11_isDigit_0 : decode cX11_isDigit 0 = .ok (.iload_n 0, 1) := by decide +kernel
theorem dX11_isDigit_1 : decode cX11_isDigit 1 = .ok (.bipush 48, 2) := by decide +kernel
theorem dX11_isDigit_3 : decode cX11_isDigit 3 = .ok (.if_icmp .lt 13, 3) := by decide +kernel
theorem dX11_isDigit_6 : decode cX11_isDigit 6 = .ok (.iload_n 0, 1) := by decide +kernel
theorem dX11_isDigit_7 : decode cX11_isDigit 7 = .ok (.bipush 57, 2) := by decide +kernel
theorem dX11_isDigit_9 : decode cX11_isDigit 9 = .ok (.if_icmp .gt 7, 3) := by decide +kernel
theorem dX11_isDigit_12 : decode cX11_isDigit 12 = .ok (.iconst 1, 1) := by decide +kernel
theorem dX11_isDigit_13 : decode cX11_isDigit 13 = .ok (.goto 4, 3) := by decide +kernel
theorem dX11_isDigit_16 : decode cX11_isDigit 16 = .ok (.iconst 0, 1) := by decide +kernel
theorem dX11_isDigit_17 : decode cX11_isDigit 17 = .ok (.ireturn, 1) := by decide +kernel
theorem dX11_digitAt_0 : decode cX11_digitAt 0 = .ok (.aload_n 0, 1) := by decide +kernel
theorem dX11_digitAt_1 : decode cX11_digitAt 1 = .ok (.iload_n 1, 1) := by decide +kernel
theorem dX11_digitAt_2 : decode cX11_digitAt 2 = .ok (.invokevirtual 314, 3) := by decide +kernel
theorem dX11_digitAt_5 : decode cX11_digitAt 5 = .ok (.bipush 48, 2) := by decide +kernel
theorem dX11_digitAt_7 : decode cX11_digitAt 7 = .ok (.isub, 1) := by decide +kernel
theorem dX11_digitAt_8 : decode cX11_digitAt 8 = .ok (.ireturn, 1) := by decide +kernel
theorem dX11_twoDigitsAt_0 : decode cX11_twoDigitsAt 0 = .ok (.bipush 10, 2) := by decide +kernel
theorem dX11_twoDigitsAt_2 : decode cX11_twoDigitsAt 2 = .ok (.aload_n 0, 1) := by decide +kernel
theorem dX11_twoDigitsAt_3 : decode cX11_twoDigitsAt 3 = .ok (.iload_n 1, 1) := by decide +kernel
theorem dX11_twoDigitsAt_4 : decode cX11_twoDigitsAt 4 = .ok (.invokestatic 411, 3) := by decide +kernel
theorem dX11_twoDigitsAt_7 : decode cX11_twoDigitsAt 7 = .ok (.imul, 1) := by decide +kernel
theorem dX11_twoDigitsAt_8 : decode cX11_twoDigitsAt 8 = .ok (.aload_n 0, 1) := by decide +kernel
theorem dX11_twoDigitsAt_9 : decode cX11_twoDigitsAt 9 = .ok (.iload_n 1, 1) := by decide +kernel
theorem dX11_twoDigitsAt_10 : decode cX11_twoDigitsAt 10 = .ok (.iconst 1, 1) := by decide +kernel
theorem dX11_twoDigitsAt_11 : decode cX11_twoDigitsAt 11 = .ok (.iadd, 1) := by decide +kernel
theorem dX11_twoDigitsAt_12 : decode cX11_twoDigitsAt 12 = .ok (.invokestatic 411, 3) := by decide +kernel
theorem dX11_twoDigitsAt_15 : decode cX11_twoDigitsAt 15 = .ok (.iadd, 1) := by decide +kernel
theorem dX11_twoDigitsAt_16 : decode cX11_twoDigitsAt 16 = .ok (.ireturn, 1) := by decide +kernel
theorem dX11_enact_0 : decode cX11_enact 0 = .ok (.aload_n 0, 1) := by decide +kernel
theorem dX11_enact_1 : decode cX11_enact 1 = .ok (.getfield 32, 3) := by decide +kernel
theorem dX11_enact_4 : decode cX11_enact 4 = .ok (.aload_n 0, 1) := by decide +kernel
theorem dX11_enact_5 : decode cX11_enact 5 = .ok (.getfield 25, 3) := by decide +kernel
theorem dX11_enact_8 : decode cX11_enact 8 = .ok (.invokevirtual 323, 3) := by decide +kernel
theorem dX11_enact_11 : decode cX11_enact 11 = .ok (.iconst 0, 1) := by decide +kernel
theorem dX11_enact_12 : decode cX11_enact 12 = .ok (.istore_n 2, 1) := by decide +kernel
theorem dX11_enact_13 : decode cX11_enact 13 = .ok (.iconst 0, 1) := by decide +kernel
theorem dX11_enact_14 : decode cX11_enact 14 = .ok (.istore_n 3, 1) := by decide +kernel
theorem dX11_enact_15 : decode cX11_enact 15 = .ok (.iload_n 3, 1) := by decide +kernel
theorem dX11_enact_16 : decode cX11_enact 16 = .ok (.aload_n 1, 1) := by decide +kernel
theorem dX11_enact_17 : decode cX11_enact 17 = .ok (.getfield 304, 3) := by decide +kernel
theorem dX11_enact_20 : decode cX11_enact 20 = .ok (.if_icmp .ge 43, 3) := by decide +kernel
theorem dX11_enact_23 : decode cX11_enact 23 = .ok (.iload_n 2, 1) := by decide +kernel
theorem dX11_enact_24 : decode cX11_enact 24 = .ok (.bipush 100, 2) := by decide +kernel
theorem dX11_enact_26 : decode cX11_enact 26 = .ok (.if_icmp .ge 37, 3) := by decide +kernel
theorem dX11_enact_29 : decode cX11_enact 29 = .ok (.aload_n 0, 1) := by decide +kernel
theorem dX11_enact_30 : decode cX11_enact 30 = .ok (.aload_n 1, 1) := by decide +kernel
theorem dX11_enact_31 : decode cX11_enact 31 = .ok (.iload_n 3, 1) := by decide +kernel
theorem dX11_enact_32 : decode cX11_enact 32 = .ok (.invokevirtual 415, 3) := by decide +kernel
theorem dX11_enact_35 : decode cX11_enact 35 = .ok (.ifCond .ne 9, 3) := by decide +kernel
theorem dX11_enact_38 : decode cX11_enact 38 = .ok (.sipush (-2000), 3) := by decide +kernel
theorem dX11_enact_41 : decode cX11_enact 41 = .ok (.iload_n 3, 1) := by decide +kernel
theorem dX11_enact_42 : decode cX11_enact 42 = .ok (.isub, 1) := by decide +kernel
theorem dX11_enact_43 : decode cX11_enact 43 = .ok (.ireturn, 1) := by decide +kernel
theorem dX11_enact_44 : decode cX11_enact 44 = .ok (.iinc 2 1, 3) := by decide +kernel
theorem dX11_enact_47 : decode cX11_enact 47 = .ok (.iload_n 3, 1) := by decide +kernel
theorem dX11_enact_48 : decode cX11_enact 48 = .ok (.aload_n 1, 1) := by decide +kernel
theorem dX11_enact_49 : decode cX11_enact 49 = .ok (.iload_n 3, 1) := by decide +kernel
theorem dX11_enact_50 : decode cX11_enact 50 = .ok (.invokevirtual 314, 3) := by decide +kernel
theorem dX11_enact_53 : decode cX11_enact 53 = .ok (.invokestatic 405, 3) := by decide +kernel
theorem dX11_enact_56 : decode cX11_enact 56 = .ok (.iconst 2, 1) := by decide +kernel
theorem dX11_enact_57 : decode cX11_enact 57 = .ok (.iadd, 1) := by decide +kernel
theorem dX11_enact_58 : decode cX11_enact 58 = .ok (.iadd, 1) := by decide +kernel
theorem dX11_enact_59 : decode cX11_enact 59 = .ok (.istore_n 3, 1) := by decide +kernel
theorem dX11_enact_60 : decode cX11_enact 60 = .ok (.goto (-45), 3) := by decide +kernel
theorem dX11_enact_63 : decode cX11_enact 63 = .ok (.aload_n 0, 1) := by decide +kernel
theorem dX11_enact_64 : decode cX11_enact 64 = .ok (.getfield 25, 3) := by decide +kernel
theorem dX11_enact_67 : decode cX11_enact 67 = .ok (.aload_n 0, 1) := by decide +kernel
theorem dX11_enact_68 : decode cX11_enact 68 = .ok (.getfield 32, 3) := by decide +kernel
theorem dX11_enact_71 : decode cX11_enact 71 = .ok (.invokevirtual 323, 3) := by decide +kernel
theorem dX11_enact_74 : decode cX11_enact 74 = .ok (.iload_n 2, 1) := by decide +kernel
theorem dX11_enact_75 : decode cX11_enact 75 = .ok (.ireturn, 1) := by decide +kernel
theorem dX11_isEnacted_0 : decode cX11_isEnacted 0 = .ok (.aload_n 1, 1) := by decide +kernel
theorem dX11_isEnacted_1 : decode cX11_isEnacted 1 = .ok (.iload_n 2, 1) := by decide +kernel
theorem dX11_isEnacted_2 : decode cX11_isEnacted 2 = .ok (.invokevirtual 314, 3) := by decide +kernel
theorem dX11_isEnacted_5 : decode cX11_isEnacted 5 = .ok (.lookupswitch 114 #[(108, 43), (115, 91), (116, 76), (119, 61)], 43) := by decide +kernel
theorem dX11_isEnacted_48 : decode cX11_isEnacted 48 = .ok (.aload_n 0, 1) := by decide +kernel
theorem dX11_isEnacted_49 : decode cX11_isEnacted 49 = .ok (.getfield 32, 3) := by decide +kernel
theorem dX11_isEnacted_52 : decode cX11_isEnacted 52 = .ok (.aload_n 0, 1) := by decide +kernel
theorem dX11_isEnacted_53 : decode cX11_isEnacted 53 = .ok (.aload_n 1, 1) := by decide +kernel
theorem dX11_isEnacted_54 : decode cX11_isEnacted 54 = .ok (.iload_n 2, 1) := by decide +kernel
theorem dX11_isEnacted_55 : decode cX11_isEnacted 55 = .ok (.iconst 1, 1) := by decide +kernel
theorem dX11_isEnacted_56 : decode cX11_isEnacted 56 = .ok (.iadd, 1) := by decide +kernel
theorem dX11_isEnacted_57 : decode cX11_isEnacted 57 = .ok (.bipush (-4), 2) := by decide +kernel
theorem dX11_isEnacted_59 : decode cX11_isEnacted 59 = .ok (.invokevirtual 419, 3) := by decide +kernel
theorem dX11_isEnacted_62 : decode cX11_isEnacted 62 = .ok (.invokevirtual 159, 3) := by decide +kernel
theorem dX11_isEnacted_65 : decode cX11_isEnacted 65 = .ok (.ireturn, 1) := by decide +kernel
theorem dX11_isEnacted_66 : decode cX11_isEnacted 66 = .ok (.aload_n 0, 1) := by decide +kernel
theorem dX11_isEnacted_67 : decode cX11_isEnacted 67 = .ok (.getfield 32, 3) := by decide +kernel
theorem dX11_isEnacted_70 : decode cX11_isEnacted 70 = .ok (.aload_n 1, 1) := by decide +kernel
theorem dX11_isEnacted_71 : decode cX11_isEnacted 71 = .ok (.iload_n 2, 1) := by decide +kernel
theorem dX11_isEnacted_72 : decode cX11_isEnacted 72 = .ok (.iconst 1, 1) := by decide +kernel
theorem dX11_isEnacted_73 : decode cX11_isEnacted 73 = .ok (.iadd, 1) := by decide +kernel
theorem dX11_isEnacted_74 : decode cX11_isEnacted 74 = .ok (.invokestatic 423, 3) := by decide +kernel
theorem dX11_isEnacted_77 : decode cX11_isEnacted 77 = .ok (.invokevirtual 176, 3) := by decide +kernel
theorem dX11_isEnacted_80 : decode cX11_isEnacted 80 = .ok (.ireturn, 1) := by decide +kernel
theorem dX11_isEnacted_81 : decode cX11_isEnacted 81 = .ok (.aload_n 0, 1) := by decide +kernel
theorem dX11_isEnacted_82 : decode cX11_isEnacted 82 = .ok (.getfield 32, 3) := by decide +kernel
theorem dX11_isEnacted_85 : decode cX11_isEnacted 85 = .ok (.aload_n 1, 1) := by decide +kernel
theorem dX11_isEnacted_86 : decode cX11_isEnacted 86 = .ok (.iload_n 2, 1) := by decide +kernel
theorem dX11_isEnacted_87 : decode cX11_isEnacted 87 = .ok (.iconst 1, 1) := by decide +kernel
theorem dX11_isEnacted_88 : decode cX11_isEnacted 88 = .ok (.iadd, 1) := by decide +kernel
theorem dX11_isEnacted_89 : decode cX11_isEnacted 89 = .ok (.invokestatic 423, 3) := by decide +kernel
theorem dX11_isEnacted_92 : decode cX11_isEnacted 92 = .ok (.invokevirtual 426, 3) := by decide +kernel
theorem dX11_isEnacted_95 : decode cX11_isEnacted 95 = .ok (.ireturn, 1) := by decide +kernel
theorem dX11_isEnacted_96 : decode cX11_isEnacted 96 = .ok (.aload_n 0, 1) := by decide +kernel
theorem dX11_isEnacted_97 : decode cX11_isEnacted 97 = .ok (.getfield 32, 3) := by decide +kernel
theorem dX11_isEnacted_100 : decode cX11_isEnacted 100 = .ok (.aload_n 0, 1) := by decide +kernel
theorem dX11_isEnacted_101 : decode cX11_isEnacted 101 = .ok (.aload_n 1, 1) := by decide +kernel
theorem dX11_isEnacted_102 : decode cX11_isEnacted 102 = .ok (.iload_n 2, 1) := by decide +kernel
theorem dX11_isEnacted_103 : decode cX11_isEnacted 103 = .ok (.iconst 2, 1) := by decide +kernel
theorem dX11_isEnacted_104 : decode cX11_isEnacted 104 = .ok (.iadd, 1) := by decide +kernel
theorem dX11_isEnacted_105 : decode cX11_isEnacted 105 = .ok (.aload_n 1, 1) := by decide +kernel
theorem dX11_isEnacted_106 : decode cX11_isEnacted 106 = .ok (.iload_n 2, 1) := by decide +kernel
theorem dX11_isEnacted_107 : decode cX11_isEnacted 107 = .ok (.iconst 1, 1) := by decide +kernel
theorem dX11_isEnacted_108 : decode cX11_isEnacted 108 = .ok (.iadd, 1) := by decide +kernel
theorem dX11_isEnacted_109 : decode cX11_isEnacted 109 = .ok (.invokestatic 411, 3) := by decide +kernel
theorem dX11_isEnacted_112 : decode cX11_isEnacted 112 = .ok (.invokevirtual 419, 3) := by decide +kernel
theorem dX11_isEnacted_115 : decode cX11_isEnacted 115 = .ok (.invokevirtual 166, 3) := by decide +kernel
theorem dX11_isEnacted_118 : decode cX11_isEnacted 118 = .ok (.ireturn, 1) := by decide +kernel
theorem dX11_isEnacted_119 : decode cX11_isEnacted 119 = .ok (.iconst 0, 1) := by decide +kernel
theorem dX11_isEnacted_120 : decode cX11_isEnacted 120 = .ok (.ireturn, 1) := by decide +kernel
theorem dX11_sayingAt_0 : decode cX11_sayingAt 0 = .ok (.aload_n 0, 1) := by decide +kernel
theorem dX11_sayingAt_1 : decode cX11_sayingAt 1 = .ok (.aload_n 1, 1) := by decide +kernel
theorem dX11_sayingAt_2 : decode cX11_sayingAt 2 = .ok (.iload_n 2, 1) := by decide +kernel
theorem dX11_sayingAt_3 : decode cX11_sayingAt 3 = .ok (.invokestatic 411, 3) := by decide +kernel
theorem dX11_sayingAt_6 : decode cX11_sayingAt 6 = .ok (.invokevirtual 337, 3) := by decide +kernel
theorem dX11_sayingAt_9 : decode cX11_sayingAt 9 = .ok (.astore 4, 2) := by decide +kernel
theorem dX11_sayingAt_11 : decode cX11_sayingAt 11 = .ok (.aload_n 1, 1) := by decide +kernel
theorem dX11_sayingAt_12 : decode cX11_sayingAt 12 = .ok (.iload_n 2, 1) := by decide +kernel
theorem dX11_sayingAt_13 : decode cX11_sayingAt 13 = .ok (.iconst 2, 1) := by decide +kernel
theorem dX11_sayingAt_14 : decode cX11_sayingAt 14 = .ok (.iadd, 1) := by decide +kernel
theorem dX11_sayingAt_15 : decode cX11_sayingAt 15 = .ok (.invokestatic 411, 3) := by decide +kernel
theorem dX11_sayingAt_18 : decode cX11_sayingAt 18 = .ok (.istore 5, 2) := by decide +kernel
theorem dX11_sayingAt_20 : decode cX11_sayingAt 20 = .ok (.aload_n 1, 1) := by decide +kernel
theorem dX11_sayingAt_21 : decode cX11_sayingAt 21 = .ok (.iload_n 2, 1) := by decide +kernel
theorem dX11_sayingAt_22 : decode cX11_sayingAt 22 = .ok (.iconst 3, 1) := by decide +kernel
theorem dX11_sayingAt_23 : decode cX11_sayingAt 23 = .ok (.iadd, 1) := by decide +kernel
theorem dX11_sayingAt_24 : decode cX11_sayingAt 24 = .ok (.invokestatic 411, 3) := by decide +kernel
theorem dX11_sayingAt_27 : decode cX11_sayingAt 27 = .ok (.istore 6, 2) := by decide +kernel
theorem dX11_sayingAt_29 : decode cX11_sayingAt 29 = .ok (.aload 4, 2) := by decide +kernel
theorem dX11_sayingAt_31 : decode cX11_sayingAt 31 = .ok (.ifnull 19, 3) := by decide +kernel
theorem dX11_sayingAt_34 : decode cX11_sayingAt 34 = .ok (.iload 5, 2) := by decide +kernel
theorem dX11_sayingAt_36 : decode cX11_sayingAt 36 = .ok (.invokestatic 135, 3) := by decide +kernel
theorem dX11_sayingAt_39 : decode cX11_sayingAt 39 = .ok (.ifCond .eq 11, 3) := by decide +kernel
theorem dX11_sayingAt_42 : decode cX11_sayingAt 42 = .ok (.iload 6, 2) := by decide +kernel
theorem dX11_sayingAt_44 : decode cX11_sayingAt 44 = .ok (.invokestatic 135, 3) := by decide +kernel
theorem dX11_sayingAt_47 : decode cX11_sayingAt 47 = .ok (.ifCond .ne 5, 3) := by decide +kernel
theorem dX11_sayingAt_50 : decode cX11_sayingAt 50 = .ok (.aconst_null, 1) := by decide +kernel
theorem dX11_sayingAt_51 : decode cX11_sayingAt 51 = .ok (.areturn, 1) := by decide +kernel
theorem dX11_sayingAt_52 : decode cX11_sayingAt 52 = .ok (.iload_n 3, 1) := by decide +kernel
theorem dX11_sayingAt_53 : decode cX11_sayingAt 53 = .ok (.aload 4, 2) := by decide +kernel
theorem dX11_sayingAt_55 : decode cX11_sayingAt 55 = .ok (.aload_n 1, 1) := by decide +kernel
theorem dX11_sayingAt_56 : decode cX11_sayingAt 56 = .ok (.iload_n 2, 1) := by decide +kernel
theorem dX11_sayingAt_57 : decode cX11_sayingAt 57 = .ok (.iconst 1, 1) := by decide +kernel
theorem dX11_sayingAt_58 : decode cX11_sayingAt 58 = .ok (.iadd, 1) := by decide +kernel
theorem dX11_sayingAt_59 : decode cX11_sayingAt 59 = .ok (.invokestatic 411, 3) := by decide +kernel
theorem dX11_sayingAt_62 : decode cX11_sayingAt 62 = .ok (.iload 5, 2) := by decide +kernel
theorem dX11_sayingAt_64 : decode cX11_sayingAt 64 = .ok (.iload 6, 2) := by decide +kernel
theorem dX11_sayingAt_66 : decode cX11_sayingAt 66 = .ok (.invokestatic 155, 3) := by decide +kernel
theorem dX11_sayingAt_69 : decode cX11_sayingAt 69 = .ok (.areturn, 1) := by decide +kernel
theorem dX11_leastOrder_0 : decode cX11_leastOrder 0 = .ok (.bipush (-4), 2) := by decide +kernel
theorem dX11_leastOrder_2 : decode cX11_leastOrder 2 = .ok (.istore_n 2, 1) := by decide +kernel
theorem dX11_leastOrder_3 : decode cX11_leastOrder 3 = .ok (.iconst 0, 1) := by decide +kernel
theorem dX11_leastOrder_4 : decode cX11_leastOrder 4 = .ok (.istore_n 3, 1) := by decide +kernel
theorem dX11_leastOrder_5 : decode cX11_leastOrder 5 = .ok (.iload_n 3, 1) := by decide +kernel
theorem dX11_leastOrder_6 : decode cX11_leastOrder 6 = .ok (.iconst 1, 1) := by decide +kernel
theorem dX11_leastOrder_7 : decode cX11_leastOrder 7 = .ok (.aload_n 0, 1) := by decide +kernel
theorem dX11_leastOrder_8 : decode cX11_leastOrder 8 = .ok (.getfield 25, 3) := by decide +kernel
theorem dX11_leastOrder_11 : decode cX11_leastOrder 11 = .ok (.getfield 179, 3) := by decide +kernel
theorem dX11_leastOrder_14 : decode cX11_leastOrder 14 = .ok (.ishl, 1) := by decide +kernel
theorem dX11_leastOrder_15 : decode cX11_leastOrder 15 = .ok (.if_icmp .ge 53, 3) := by decide +kernel
theorem dX11_leastOrder_18 : decode cX11_leastOrder 18 = .ok (.iload_n 3, 1) := by decide +kernel
theorem dX11_leastOrder_19 : decode cX11_leastOrder 19 = .ok (.invokestatic 224, 3) := by decide +kernel
theorem dX11_leastOrder_22 : decode cX11_leastOrder 22 = .ok (.iload_n 1, 1) := by decide +kernel
theorem dX11_leastOrder_23 : decode cX11_leastOrder 23 = .ok (.if_icmp .ne 39, 3) := by decide +kernel
theorem dX11_leastOrder_26 : decode cX11_leastOrder 26 = .ok (.aload_n 0, 1) := by decide +kernel
theorem dX11_leastOrder_27 : decode cX11_leastOrder 27 = .ok (.getfield 25, 3) := by decide +kernel
theorem dX11_leastOrder_30 : decode cX11_leastOrder 30 = .ok (.iload_n 3, 1) := by decide +kernel
theorem dX11_leastOrder_31 : decode cX11_leastOrder 31 = .ok (.invokevirtual 242, 3) := by decide +kernel
theorem dX11_leastOrder_34 : decode cX11_leastOrder 34 = .ok (.ifCond .eq 28, 3) := by decide +kernel
theorem dX11_leastOrder_37 : decode cX11_leastOrder 37 = .ok (.aload_n 0, 1) := by decide +kernel
theorem dX11_leastOrder_38 : decode cX11_leastOrder 38 = .ok (.iload_n 3, 1) := by decide +kernel
theorem dX11_leastOrder_39 : decode cX11_leastOrder 39 = .ok (.invokevirtual 429, 3) := by decide +kernel
theorem dX11_leastOrder_42 : decode cX11_leastOrder 42 = .ok (.istore 4, 2) := by decide +kernel
theorem dX11_leastOrder_44 : decode cX11_leastOrder 44 = .ok (.iload_n 2, 1) := by decide +kernel
theorem dX11_leastOrder_45 : decode cX11_leastOrder 45 = .ok (.bipush (-4), 2) := by decide +kernel
theorem dX11_leastOrder_47 : decode cX11_leastOrder 47 = .ok (.if_icmp .ne 8, 3) := by decide +kernel
theorem dX11_leastOrder_50 : decode cX11_leastOrder 50 = .ok (.iload 4, 2) := by decide +kernel
theorem dX11_leastOrder_52 : decode cX11_leastOrder 52 = .ok (.goto 9, 3) := by decide +kernel
theorem dX11_leastOrder_55 : decode cX11_leastOrder 55 = .ok (.iload_n 2, 1) := by decide +kernel
theorem dX11_leastOrder_56 : decode cX11_leastOrder 56 = .ok (.iload 4, 2) := by decide +kernel
theorem dX11_leastOrder_58 : decode cX11_leastOrder 58 = .ok (.invokestatic 236, 3) := by decide +kernel
theorem dX11_leastOrder_61 : decode cX11_leastOrder 61 = .ok (.istore_n 2, 1) := by decide +kernel
theorem dX11_leastOrder_62 : decode cX11_leastOrder 62 = .ok (.iinc 3 1, 3) := by decide +kernel
theorem dX11_leastOrder_65 : decode cX11_leastOrder 65 = .ok (.goto (-60), 3) := by decide +kernel
theorem dX11_leastOrder_68 : decode cX11_leastOrder 68 = .ok (.iload_n 2, 1) := by decide +kernel
theorem dX11_leastOrder_69 : decode cX11_leastOrder 69 = .ok (.ireturn, 1) := by decide +kernel
theorem dX11_digitsWithAhead_0 : decode cX11_digitsWithAhead 0 = .ok (.aload_n 0, 1) := by decide +kernel
theorem dX11_digitsWithAhead_1 : decode cX11_digitsWithAhead 1 = .ok (.iload_n 1, 1) := by decide +kernel
theorem dX11_digitsWithAhead_2 : decode cX11_digitsWithAhead 2 = .ok (.iconst (-1), 1) := by decide +kernel
theorem dX11_digitsWithAhead_3 : decode cX11_digitsWithAhead 3 = .ok (.ixor, 1) := by decide +kernel
theorem dX11_digitsWithAhead_4 : decode cX11_digitsWithAhead 4 = .ok (.aload_n 0, 1) := by decide +kernel
theorem dX11_digitsWithAhead_5 : decode cX11_digitsWithAhead 5 = .ok (.iload_n 1, 1) := by decide +kernel
theorem dX11_digitsWithAhead_6 : decode cX11_digitsWithAhead 6 = .ok (.iconst 0, 1) := by decide +kernel
theorem dX11_digitsWithAhead_7 : decode cX11_digitsWithAhead 7 = .ok (.invokevirtual 432, 3) := by decide +kernel
theorem dX11_digitsWithAhead_10 : decode cX11_digitsWithAhead 10 = .ok (.invokevirtual 432, 3) := by decide +kernel
theorem dX11_digitsWithAhead_13 : decode cX11_digitsWithAhead 13 = .ok (.ireturn, 1) := by decide +kernel
theorem dX11_digitsOf_0 : decode cX11_digitsOf 0 = .ok (.iload_n 2, 1) := by decide +kernel
theorem dX11_digitsOf_1 : decode cX11_digitsOf 1 = .ok (.istore_n 3, 1) := by decide +kernel
theorem dX11_digitsOf_2 : decode cX11_digitsOf 2 = .ok (.iconst 0, 1) := by decide +kernel
theorem dX11_digitsOf_3 : decode cX11_digitsOf 3 = .ok (.istore 4, 2) := by decide +kernel
theorem dX11_digitsOf_5 : decode cX11_digitsOf 5 = .ok (.iload 4, 2) := by decide +kernel
theorem dX11_digitsOf_7 : decode cX11_digitsOf 7 = .ok (.aload_n 0, 1) := by decide +kernel
theorem dX11_digitsOf_8 : decode cX11_digitsOf 8 = .ok (.getfield 25, 3) := by decide +kernel
theorem dX11_digitsOf_11 : decode cX11_digitsOf 11 = .ok (.getfield 179, 3) := by decide +kernel
theorem dX11_digitsOf_14 : decode cX11_digitsOf 14 = .ok (.if_icmp .ge 26, 3) := by decide +kernel
theorem dX11_digitsOf_17 : decode cX11_digitsOf 17 = .ok (.iload_n 1, 1) := by decide +kernel
theorem dX11_digitsOf_18 : decode cX11_digitsOf 18 = .ok (.iload 4, 2) := by decide +kernel
theorem dX11_digitsOf_20 : decode cX11_digitsOf 20 = .ok (.ishr, 1) := by decide +kernel
theorem dX11_digitsOf_21 : decode cX11_digitsOf 21 = .ok (.iconst 1, 1) := by decide +kernel
theorem dX11_digitsOf_22 : decode cX11_digitsOf 22 = .ok (.iand, 1) := by decide +kernel
theorem dX11_digitsOf_23 : decode cX11_digitsOf 23 = .ok (.ifCond .eq 11, 3) := by decide +kernel
theorem dX11_digitsOf_26 : decode cX11_digitsOf 26 = .ok (.bipush 10, 2) := by decide +kernel
theorem dX11_digitsOf_28 : decode cX11_digitsOf 28 = .ok (.iload_n 3, 1) := by decide +kernel
theorem dX11_digitsOf_29 : decode cX11_digitsOf 29 = .ok (.imul, 1) := by decide +kernel
theorem dX11_digitsOf_30 : decode cX11_digitsOf 30 = .ok (.iload 4, 2) := by decide +kernel
theorem dX11_digitsOf_32 : decode cX11_digitsOf 32 = .ok (.iadd, 1) := by decide +kernel
theorem dX11_digitsOf_33 : decode cX11_digitsOf 33 = .ok (.istore_n 3, 1) := by decide +kernel
theorem dX11_digitsOf_34 : decode cX11_digitsOf 34 = .ok (.iinc 4 1, 3) := by decide +kernel
theorem dX11_digitsOf_37 : decode cX11_digitsOf 37 = .ok (.goto (-32), 3) := by decide +kernel
theorem dX11_digitsOf_40 : decode cX11_digitsOf 40 = .ok (.iload_n 3, 1) := by decide +kernel
theorem dX11_digitsOf_41 : decode cX11_digitsOf 41 = .ok (.ireturn, 1) := by decide +kernel
theorem dX11_kindOfCode_0 : decode cX11_kindOfCode 0 = .ok (.iload_n 0, 1) := by decide +kernel
theorem dX11_kindOfCode_1 : decode cX11_kindOfCode 1 = .ok (.bipush 36, 2) := by decide +kernel
theorem dX11_kindOfCode_3 : decode cX11_kindOfCode 3 = .ok (.idiv, 1) := by decide +kernel
theorem dX11_kindOfCode_4 : decode cX11_kindOfCode 4 = .ok (.ireturn, 1) := by decide +kernel
theorem dX11_firstOfCode_0 : decode cX11_firstOfCode 0 = .ok (.iload_n 0, 1) := by decide +kernel
theorem dX11_firstOfCode_1 : decode cX11_firstOfCode 1 = .ok (.bipush 6, 2) := by decide +kernel
theorem dX11_firstOfCode_3 : decode cX11_firstOfCode 3 = .ok (.idiv, 1) := by decide +kernel
theorem dX11_firstOfCode_4 : decode cX11_firstOfCode 4 = .ok (.bipush 6, 2) := by decide +kernel
theorem dX11_firstOfCode_6 : decode cX11_firstOfCode 6 = .ok (.irem, 1) := by decide +kernel
theorem dX11_firstOfCode_7 : decode cX11_firstOfCode 7 = .ok (.ireturn, 1) := by decide +kernel
theorem dX11_secondOfCode_0 : decode cX11_secondOfCode 0 = .ok (.iload_n 0, 1) := by decide +kernel
theorem dX11_secondOfCode_1 : decode cX11_secondOfCode 1 = .ok (.bipush 6, 2) := by decide +kernel
theorem dX11_secondOfCode_3 : decode cX11_secondOfCode 3 = .ok (.irem, 1) := by decide +kernel
theorem dX11_secondOfCode_4 : decode cX11_secondOfCode 4 = .ok (.ireturn, 1) := by decide +kernel
theorem dX11_worldsOfCode_0 : decode cX11_worldsOfCode 0 = .ok (.aload_n 0, 1) := by decide +kernel
theorem dX11_worldsOfCode_1 : decode cX11_worldsOfCode 1 = .ok (.iload_n 1, 1) := by decide +kernel
theorem dX11_worldsOfCode_2 : decode cX11_worldsOfCode 2 = .ok (.invokestatic 261, 3) := by decide +kernel
theorem dX11_worldsOfCode_5 : decode cX11_worldsOfCode 5 = .ok (.invokevirtual 337, 3) := by decide +kernel
theorem dX11_worldsOfCode_8 : decode cX11_worldsOfCode 8 = .ok (.astore_n 2, 1) := by decide +kernel
theorem dX11_worldsOfCode_9 : decode cX11_worldsOfCode 9 = .ok (.aload_n 2, 1) := by decide +kernel
theorem dX11_worldsOfCode_10 : decode cX11_worldsOfCode 10 = .ok (.ifnonnull 7, 3) := by decide +kernel
theorem dX11_worldsOfCode_13 : decode cX11_worldsOfCode 13 = .ok (.lconst 0, 1) := by decide +kernel
theorem dX11_worldsOfCode_14 : decode cX11_worldsOfCode 14 = .ok (.goto 16, 3) := by decide +kernel
theorem dX11_worldsOfCode_17 : decode cX11_worldsOfCode 17 = .ok (.aload_n 2, 1) := by decide +kernel
theorem dX11_worldsOfCode_18 : decode cX11_worldsOfCode 18 = .ok (.iconst 0, 1) := by decide +kernel
theorem dX11_worldsOfCode_19 : decode cX11_worldsOfCode 19 = .ok (.iload_n 1, 1) := by decide +kernel
theorem dX11_worldsOfCode_20 : decode cX11_worldsOfCode 20 = .ok (.invokestatic 264, 3) := by decide +kernel
theorem dX11_worldsOfCode_23 : decode cX11_worldsOfCode 23 = .ok (.iload_n 1, 1) := by decide +kernel
theorem dX11_worldsOfCode_24 : decode cX11_worldsOfCode 24 = .ok (.invokestatic 267, 3) := by decide +kernel
theorem dX11_worldsOfCode_27 : decode cX11_worldsOfCode 27 = .ok (.invokevirtual 393, 3) := by decide +kernel
theorem dX11_worldsOfCode_30 : decode cX11_worldsOfCode 30 = .ok (.lreturn, 1) := by decide +kernel
theorem dX11_isLie_0 : decode cX11_isLie 0 = .ok (.aload_n 0, 1) := by decide +kernel
theorem dX11_isLie_1 : decode cX11_isLie 1 = .ok (.iload_n 1, 1) := by decide +kernel
theorem dX11_isLie_2 : decode cX11_isLie 2 = .ok (.invokestatic 261, 3) := by decide +kernel
theorem dX11_isLie_5 : decode cX11_isLie 5 = .ok (.invokevirtual 337, 3) := by decide +kernel
theorem dX11_isLie_8 : decode cX11_isLie 8 = .ok (.astore_n 3, 1) := by decide +kernel
theorem dX11_isLie_9 : decode cX11_isLie 9 = .ok (.aload_n 3, 1) := by decide +kernel
theorem dX11_isLie_10 : decode cX11_isLie 10 = .ok (.ifnonnull 5, 3) := by decide +kernel
theorem dX11_isLie_13 : decode cX11_isLie 13 = .ok (.iconst 0, 1) := by decide +kernel
theorem dX11_isLie_14 : decode cX11_isLie 14 = .ok (.ireturn, 1) := by decide +kernel
theorem dX11_isLie_15 : decode cX11_isLie 15 = .ok (.aload_n 3, 1) := by decide +kernel
theorem dX11_isLie_16 : decode cX11_isLie 16 = .ok (.iconst 0, 1) := by decide +kernel
theorem dX11_isLie_17 : decode cX11_isLie 17 = .ok (.iload_n 1, 1) := by decide +kernel
theorem dX11_isLie_18 : decode cX11_isLie 18 = .ok (.invokestatic 264, 3) := by decide +kernel
theorem dX11_isLie_21 : decode cX11_isLie 21 = .ok (.iload_n 1, 1) := by decide +kernel
theorem dX11_isLie_22 : decode cX11_isLie 22 = .ok (.invokestatic 267, 3) := by decide +kernel
theorem dX11_isLie_25 : decode cX11_isLie 25 = .ok (.invokevirtual 435, 3) := by decide +kernel
theorem dX11_isLie_28 : decode cX11_isLie 28 = .ok (.istore 4, 2) := by decide +kernel
theorem dX11_isLie_30 : decode cX11_isLie 30 = .ok (.iload 4, 2) := by decide +kernel
theorem dX11_isLie_32 : decode cX11_isLie 32 = .ok (.aload_n 0, 1) := by decide +kernel
theorem dX11_isLie_33 : decode cX11_isLie 33 = .ok (.getfield 25, 3) := by decide +kernel
theorem dX11_isLie_36 : decode cX11_isLie 36 = .ok (.iload_n 2, 1) := by decide +kernel
theorem dX11_isLie_37 : decode cX11_isLie 37 = .ok (.invokevirtual 132, 3) := by decide +kernel
theorem dX11_isLie_40 : decode cX11_isLie 40 = .ok (.iconst (-1), 1) := by decide +kernel
theorem dX11_isLie_41 : decode cX11_isLie 41 = .ok (.ixor, 1) := by decide +kernel
theorem dX11_isLie_42 : decode cX11_isLie 42 = .ok (.iand, 1) := by decide +kernel
theorem dX11_isLie_43 : decode cX11_isLie 43 = .ok (.ifCond .ne 25, 3) := by decide +kernel
theorem dX11_isLie_46 : decode cX11_isLie 46 = .ok (.aload_n 0, 1) := by decide +kernel
theorem dX11_isLie_47 : decode cX11_isLie 47 = .ok (.iload_n 1, 1) := by decide +kernel
theorem dX11_isLie_48 : decode cX11_isLie 48 = .ok (.invokevirtual 258, 3) := by decide +kernel
theorem dX11_isLie_51 : decode cX11_isLie 51 = .ok (.aload_n 0, 1) := by decide +kernel
theorem dX11_isLie_52 : decode cX11_isLie 52 = .ok (.getfield 25, 3) := by decide +kernel
theorem dX11_isLie_55 : decode cX11_isLie 55 = .ok (.getfield 114, 3) := by decide +kernel
theorem dX11_isLie_58 : decode cX11_isLie 58 = .ok (.invokestatic 117, 3) := by decide +kernel
theorem dX11_isLie_61 : decode cX11_isLie 61 = .ok (.ifCond .ne 7, 3) := by decide +kernel
theorem dX11_isLie_64 : decode cX11_isLie 64 = .ok (.iconst 1, 1) := by decide +kernel
theorem dX11_isLie_65 : decode cX11_isLie 65 = .ok (.goto 4, 3) := by decide +kernel
theorem dX11_isLie_68 : decode cX11_isLie 68 = .ok (.iconst 0, 1) := by decide +kernel
theorem dX11_isLie_69 : decode cX11_isLie 69 = .ok (.ireturn, 1) := by decide +kernel
theorem dX11_nextSeed_0 : decode cX11_nextSeed 0 = .ok (.iload_n 0, 1) := by decide +kernel
theorem dX11_nextSeed_1 : decode cX11_nextSeed 1 = .ok (.ldc_w 438, 3) := by decide +kernel
theorem dX11_nextSeed_4 : decode cX11_nextSeed 4 = .ok (.imul, 1) := by decide +kernel
theorem dX11_nextSeed_5 : decode cX11_nextSeed 5 = .ok (.sipush 12345, 3) := by decide +kernel
theorem dX11_nextSeed_8 : decode cX11_nextSeed 8 = .ok (.iadd, 1) := by decide +kernel
theorem dX11_nextSeed_9 : decode cX11_nextSeed 9 = .ok (.ireturn, 1) := by decide +kernel
theorem dX11_drawnBelow_0 : decode cX11_drawnBelow 0 = .ok (.iload_n 0, 1) := by decide +kernel
theorem dX11_drawnBelow_1 : decode cX11_drawnBelow 1 = .ok (.ifCond .gt 7, 3) := by decide +kernel
theorem dX11_drawnBelow_4 : decode cX11_drawnBelow 4 = .ok (.iconst 0, 1) := by decide +kernel
theorem dX11_drawnBelow_5 : decode cX11_drawnBelow 5 = .ok (.goto 14, 3) := by decide +kernel
theorem dX11_drawnBelow_8 : decode cX11_drawnBelow 8 = .ok (.iload_n 1, 1) := by decide +kernel
theorem dX11_drawnBelow_9 : decode cX11_drawnBelow 9 = .ok (.ldc_w 439, 3) := by decide +kernel
theorem dX11_drawnBelow_12 : decode cX11_drawnBelow 12 = .ok (.iand, 1) := by decide +kernel
theorem dX11_drawnBelow_13 : decode cX11_drawnBelow 13 = .ok (.ldc_w 440, 3) := by decide +kernel
theorem dX11_drawnBelow_16 : decode cX11_drawnBelow 16 = .ok (.idiv, 1) := by decide +kernel
theorem dX11_drawnBelow_17 : decode cX11_drawnBelow 17 = .ok (.iload_n 0, 1) := by decide +kernel
theorem dX11_drawnBelow_18 : decode cX11_drawnBelow 18 = .ok (.irem, 1) := by decide +kernel
theorem dX11_drawnBelow_19 : decode cX11_drawnBelow 19 = .ok (.ireturn, 1) := by decide +kernel
theorem dX11_seedAfterDraws_0 : decode cX11_seedAfterDraws 0 = .ok (.iload_n 0, 1) := by decide +kernel
theorem dX11_seedAfterDraws_1 : decode cX11_seedAfterDraws 1 = .ok (.invokestatic 441, 3) := by decide +kernel
theorem dX11_seedAfterDraws_4 : decode cX11_seedAfterDraws 4 = .ok (.invokestatic 441, 3) := by decide +kernel
theorem dX11_seedAfterDraws_7 : decode cX11_seedAfterDraws 7 = .ok (.invokestatic 441, 3) := by decide +kernel
theorem dX11_seedAfterDraws_10 : decode cX11_seedAfterDraws 10 = .ok (.invokestatic 441, 3) := by decide +kernel
theorem dX11_seedAfterDraws_13 : decode cX11_seedAfterDraws 13 = .ok (.ireturn, 1) := by decide +kernel
theorem dX11_worldsOfDraws_0 : decode cX11_worldsOfDraws 0 = .ok (.iload_n 1, 1) := by decide +kernel
theorem dX11_worldsOfDraws_1 : decode cX11_worldsOfDraws 1 = .ok (.invokestatic 441, 3) := by decide +kernel
theorem dX11_worldsOfDraws_4 : decode cX11_worldsOfDraws 4 = .ok (.istore_n 2, 1) := by decide +kernel
theorem dX11_worldsOfDraws_5 : decode cX11_worldsOfDraws 5 = .ok (.iload_n 2, 1) := by decide +kernel
theorem dX11_worldsOfDraws_6 : decode cX11_worldsOfDraws 6 = .ok (.invokestatic 441, 3) := by decide +kernel
theorem dX11_worldsOfDraws_9 : decode cX11_worldsOfDraws 9 = .ok (.istore_n 3, 1) := by decide +kernel
theorem dX11_worldsOfDraws_10 : decode cX11_worldsOfDraws 10 = .ok (.iload_n 3, 1) := by decide +kernel
theorem dX11_worldsOfDraws_11 : decode cX11_worldsOfDraws 11 = .ok (.invokestatic 441, 3) := by decide +kernel
theorem dX11_worldsOfDraws_14 : decode cX11_worldsOfDraws 14 = .ok (.istore 4, 2) := by decide +kernel
theorem dX11_worldsOfDraws_16 : decode cX11_worldsOfDraws 16 = .ok (.iload 4, 2) := by decide +kernel
theorem dX11_worldsOfDraws_18 : decode cX11_worldsOfDraws 18 = .ok (.invokestatic 441, 3) := by decide +kernel
theorem dX11_worldsOfDraws_21 : decode cX11_worldsOfDraws 21 = .ok (.istore 5, 2) := by decide +kernel
theorem dX11_worldsOfDraws_23 : decode cX11_worldsOfDraws 23 = .ok (.aload_n 0, 1) := by decide +kernel
theorem dX11_worldsOfDraws_24 : decode cX11_worldsOfDraws 24 = .ok (.aload_n 0, 1) := by decide +kernel
theorem dX11_worldsOfDraws_25 : decode cX11_worldsOfDraws 25 = .ok (.getfield 12, 3) := by decide +kernel
theorem dX11_worldsOfDraws_28 : decode cX11_worldsOfDraws 28 = .ok (.invokevirtual 163, 3) := by decide +kernel
theorem dX11_worldsOfDraws_31 : decode cX11_worldsOfDraws 31 = .ok (.iload_n 2, 1) := by decide +kernel
theorem dX11_worldsOfDraws_32 : decode cX11_worldsOfDraws 32 = .ok (.invokestatic 444, 3) := by decide +kernel
theorem dX11_worldsOfDraws_35 : decode cX11_worldsOfDraws 35 = .ok (.invokevirtual 337, 3) := by decide +kernel
theorem dX11_worldsOfDraws_38 : decode cX11_worldsOfDraws 38 = .ok (.astore 6, 2) := by decide +kernel
theorem dX11_worldsOfDraws_40 : decode cX11_worldsOfDraws 40 = .ok (.aload 6, 2) := by decide +kernel
theorem dX11_worldsOfDraws_42 : decode cX11_worldsOfDraws 42 = .ok (.ifnonnull 5, 3) := by decide +kernel
theorem dX11_worldsOfDraws_45 : decode cX11_worldsOfDraws 45 = .ok (.lconst 0, 1) := by decide +kernel
theorem dX11_worldsOfDraws_46 : decode cX11_worldsOfDraws 46 = .ok (.lreturn, 1) := by decide +kernel
theorem dX11_worldsOfDraws_47 : decode cX11_worldsOfDraws 47 = .ok (.aload 6, 2) := by decide +kernel
theorem dX11_worldsOfDraws_49 : decode cX11_worldsOfDraws 49 = .ok (.bipush 10, 2) := by decide +kernel
theorem dX11_worldsOfDraws_51 : decode cX11_worldsOfDraws 51 = .ok (.iload_n 3, 1) := by decide +kernel
theorem dX11_worldsOfDraws_52 : decode cX11_worldsOfDraws 52 = .ok (.invokestatic 444, 3) := by decide +kernel
theorem dX11_worldsOfDraws_55 : decode cX11_worldsOfDraws 55 = .ok (.bipush 6, 2) := by decide +kernel
theorem dX11_worldsOfDraws_57 : decode cX11_worldsOfDraws 57 = .ok (.iload 4, 2) := by decide +kernel
theorem dX11_worldsOfDraws_59 : decode cX11_worldsOfDraws 59 = .ok (.invokestatic 444, 3) := by decide +kernel
theorem dX11_worldsOfDraws_62 : decode cX11_worldsOfDraws 62 = .ok (.bipush 6, 2) := by decide +kernel
theorem dX11_worldsOfDraws_64 : decode cX11_worldsOfDraws 64 = .ok (.iload 5, 2) := by decide +kernel
theorem dX11_worldsOfDraws_66 : decode cX11_worldsOfDraws 66 = .ok (.invokestatic 444, 3) := by decide +kernel
theorem dX11_worldsOfDraws_69 : decode cX11_worldsOfDraws 69 = .ok (.invokevirtual 393, 3) := by decide +kernel
theorem dX11_worldsOfDraws_72 : decode cX11_worldsOfDraws 72 = .ok (.lreturn, 1) := by decide +kernel
theorem dJ6_numberOfTrailingZeros_0f7a4_0 : decode cJ6_numberOfTrailingZeros_0f7a4 0 = .ok (.iload_n 0, 1) := by decide +kernel
theorem dJ6_numberOfTrailingZeros_0f7a4_1 : decode cJ6_numberOfTrailingZeros_0f7a4 1 = .ok (.iconst (-1), 1) := by decide +kernel
theorem dJ6_numberOfTrailingZeros_0f7a4_2 : decode cJ6_numberOfTrailingZeros_0f7a4 2 = .ok (.ixor, 1) := by decide +kernel
theorem dJ6_numberOfTrailingZeros_0f7a4_3 : decode cJ6_numberOfTrailingZeros_0f7a4 3 = .ok (.iload_n 0, 1) := by decide +kernel
theorem dJ6_numberOfTrailingZeros_0f7a4_4 : decode cJ6_numberOfTrailingZeros_0f7a4 4 = .ok (.iconst 1, 1) := by decide +kernel
theorem dJ6_numberOfTrailingZeros_0f7a4_5 : decode cJ6_numberOfTrailingZeros_0f7a4 5 = .ok (.isub, 1) := by decide +kernel
theorem dJ6_numberOfTrailingZeros_0f7a4_6 : decode cJ6_numberOfTrailingZeros_0f7a4 6 = .ok (.iand, 1) := by decide +kernel
theorem dJ6_numberOfTrailingZeros_0f7a4_7 : decode cJ6_numberOfTrailingZeros_0f7a4 7 = .ok (.istore_n 0, 1) := by decide +kernel
theorem dJ6_numberOfTrailingZeros_0f7a4_8 : decode cJ6_numberOfTrailingZeros_0f7a4 8 = .ok (.iload_n 0, 1) := by decide +kernel
theorem dJ6_numberOfTrailingZeros_0f7a4_9 : decode cJ6_numberOfTrailingZeros_0f7a4 9 = .ok (.ifCond .gt 8, 3) := by decide +kernel
theorem dJ6_numberOfTrailingZeros_0f7a4_12 : decode cJ6_numberOfTrailingZeros_0f7a4 12 = .ok (.iload_n 0, 1) := by decide +kernel
theorem dJ6_numberOfTrailingZeros_0f7a4_13 : decode cJ6_numberOfTrailingZeros_0f7a4 13 = .ok (.bipush 32, 2) := by decide +kernel
theorem dJ6_numberOfTrailingZeros_0f7a4_15 : decode cJ6_numberOfTrailingZeros_0f7a4 15 = .ok (.iand, 1) := by decide +kernel
theorem dJ6_numberOfTrailingZeros_0f7a4_16 : decode cJ6_numberOfTrailingZeros_0f7a4 16 = .ok (.ireturn, 1) := by decide +kernel
theorem dJ6_numberOfTrailingZeros_0f7a4_17 : decode cJ6_numberOfTrailingZeros_0f7a4 17 = .ok (.iconst 1, 1) := by decide +kernel
theorem dJ6_numberOfTrailingZeros_0f7a4_18 : decode cJ6_numberOfTrailingZeros_0f7a4 18 = .ok (.istore_n 1, 1) := by decide +kernel
theorem dJ6_numberOfTrailingZeros_0f7a4_19 : decode cJ6_numberOfTrailingZeros_0f7a4 19 = .ok (.iload_n 0, 1) := by decide +kernel
theorem dJ6_numberOfTrailingZeros_0f7a4_20 : decode cJ6_numberOfTrailingZeros_0f7a4 20 = .ok (.ldc_w 264, 3) := by decide +kernel
theorem dJ6_numberOfTrailingZeros_0f7a4_23 : decode cJ6_numberOfTrailingZeros_0f7a4 23 = .ok (.if_icmp .le 11, 3) := by decide +kernel
theorem dJ6_numberOfTrailingZeros_0f7a4_26 : decode cJ6_numberOfTrailingZeros_0f7a4 26 = .ok (.iinc 1 16, 3) := by decide +kernel
theorem dJ6_numberOfTrailingZeros_0f7a4_29 : decode cJ6_numberOfTrailingZeros_0f7a4 29 = .ok (.iload_n 0, 1) := by decide +kernel
theorem dJ6_numberOfTrailingZeros_0f7a4_30 : decode cJ6_numberOfTrailingZeros_0f7a4 30 = .ok (.bipush 16, 2) := by decide +kernel
theorem dJ6_numberOfTrailingZeros_0f7a4_32 : decode cJ6_numberOfTrailingZeros_0f7a4 32 = .ok (.iushr, 1) := by decide +kernel
theorem dJ6_numberOfTrailingZeros_0f7a4_33 : decode cJ6_numberOfTrailingZeros_0f7a4 33 = .ok (.istore_n 0, 1) := by decide +kernel
theorem dJ6_numberOfTrailingZeros_0f7a4_34 : decode cJ6_numberOfTrailingZeros_0f7a4 34 = .ok (.iload_n 0, 1) := by decide +kernel
theorem dJ6_numberOfTrailingZeros_0f7a4_35 : decode cJ6_numberOfTrailingZeros_0f7a4 35 = .ok (.sipush 256, 3) := by decide +kernel
theorem dJ6_numberOfTrailingZeros_0f7a4_38 : decode cJ6_numberOfTrailingZeros_0f7a4 38 = .ok (.if_icmp .le 11, 3) := by decide +kernel
theorem dJ6_numberOfTrailingZeros_0f7a4_41 : decode cJ6_numberOfTrailingZeros_0f7a4 41 = .ok (.iinc 1 8, 3) := by decide +kernel
theorem dJ6_numberOfTrailingZeros_0f7a4_44 : decode cJ6_numberOfTrailingZeros_0f7a4 44 = .ok (.iload_n 0, 1) := by decide +kernel
theorem dJ6_numberOfTrailingZeros_0f7a4_45 : decode cJ6_numberOfTrailingZeros_0f7a4 45 = .ok (.bipush 8, 2) := by decide +kernel
theorem dJ6_numberOfTrailingZeros_0f7a4_47 : decode cJ6_numberOfTrailingZeros_0f7a4 47 = .ok (.iushr, 1) := by decide +kernel
theorem dJ6_numberOfTrailingZeros_0f7a4_48 : decode cJ6_numberOfTrailingZeros_0f7a4 48 = .ok (.istore_n 0, 1) := by decide +kernel
theorem dJ6_numberOfTrailingZeros_0f7a4_49 : decode cJ6_numberOfTrailingZeros_0f7a4 49 = .ok (.iload_n 0, 1) := by decide +kernel
theorem dJ6_numberOfTrailingZeros_0f7a4_50 : decode cJ6_numberOfTrailingZeros_0f7a4 50 = .ok (.bipush 16, 2) := by decide +kernel
theorem dJ6_numberOfTrailingZeros_0f7a4_52 : decode cJ6_numberOfTrailingZeros_0f7a4 52 = .ok (.if_icmp .le 10, 3) := by decide +kernel
theorem dJ6_numberOfTrailingZeros_0f7a4_55 : decode cJ6_numberOfTrailingZeros_0f7a4 55 = .ok (.iinc 1 4, 3) := by decide +kernel
theorem dJ6_numberOfTrailingZeros_0f7a4_58 : decode cJ6_numberOfTrailingZeros_0f7a4 58 = .ok (.iload_n 0, 1) := by decide +kernel
theorem dJ6_numberOfTrailingZeros_0f7a4_59 : decode cJ6_numberOfTrailingZeros_0f7a4 59 = .ok (.iconst 4, 1) := by decide +kernel
theorem dJ6_numberOfTrailingZeros_0f7a4_60 : decode cJ6_numberOfTrailingZeros_0f7a4 60 = .ok (.iushr, 1) := by decide +kernel
theorem dJ6_numberOfTrailingZeros_0f7a4_61 : decode cJ6_numberOfTrailingZeros_0f7a4 61 = .ok (.istore_n 0, 1) := by decide +kernel
theorem dJ6_numberOfTrailingZeros_0f7a4_62 : decode cJ6_numberOfTrailingZeros_0f7a4 62 = .ok (.iload_n 0, 1) := by decide +kernel
theorem dJ6_numberOfTrailingZeros_0f7a4_63 : decode cJ6_numberOfTrailingZeros_0f7a4 63 = .ok (.iconst 4, 1) := by decide +kernel
theorem dJ6_numberOfTrailingZeros_0f7a4_64 : decode cJ6_numberOfTrailingZeros_0f7a4 64 = .ok (.if_icmp .le 10, 3) := by decide +kernel
theorem dJ6_numberOfTrailingZeros_0f7a4_67 : decode cJ6_numberOfTrailingZeros_0f7a4 67 = .ok (.iinc 1 2, 3) := by decide +kernel
theorem dJ6_numberOfTrailingZeros_0f7a4_70 : decode cJ6_numberOfTrailingZeros_0f7a4 70 = .ok (.iload_n 0, 1) := by decide +kernel
theorem dJ6_numberOfTrailingZeros_0f7a4_71 : decode cJ6_numberOfTrailingZeros_0f7a4 71 = .ok (.iconst 2, 1) := by decide +kernel
theorem dJ6_numberOfTrailingZeros_0f7a4_72 : decode cJ6_numberOfTrailingZeros_0f7a4 72 = .ok (.iushr, 1) := by decide +kernel
theorem dJ6_numberOfTrailingZeros_0f7a4_73 : decode cJ6_numberOfTrailingZeros_0f7a4 73 = .ok (.istore_n 0, 1) := by decide +kernel
theorem dJ6_numberOfTrailingZeros_0f7a4_74 : decode cJ6_numberOfTrailingZeros_0f7a4 74 = .ok (.iload_n 1, 1) := by decide +kernel
theorem dJ6_numberOfTrailingZeros_0f7a4_75 : decode cJ6_numberOfTrailingZeros_0f7a4 75 = .ok (.iload_n 0, 1) := by decide +kernel
theorem dJ6_numberOfTrailingZeros_0f7a4_76 : decode cJ6_numberOfTrailingZeros_0f7a4 76 = .ok (.iconst 1, 1) := by decide +kernel
theorem dJ6_numberOfTrailingZeros_0f7a4_77 : decode cJ6_numberOfTrailingZeros_0f7a4 77 = .ok (.iushr, 1) := by decide +kernel
theorem dJ6_numberOfTrailingZeros_0f7a4_78 : decode cJ6_numberOfTrailingZeros_0f7a4 78 = .ok (.iadd, 1) := by decide +kernel
theorem dJ6_numberOfTrailingZeros_0f7a4_79 : decode cJ6_numberOfTrailingZeros_0f7a4 79 = .ok (.ireturn, 1) := by decide +kernel
theorem dJ6_bitCount_0f7a4_0 : decode cJ6_bitCount_0f7a4 0 = .ok (.iload_n 0, 1) := by decide +kernel
theorem dJ6_bitCount_0f7a4_1 : decode cJ6_bitCount_0f7a4 1 = .ok (.iload_n 0, 1) := by decide +kernel
theorem dJ6_bitCount_0f7a4_2 : decode cJ6_bitCount_0f7a4 2 = .ok (.iconst 1, 1) := by decide +kernel
theorem dJ6_bitCount_0f7a4_3 : decode cJ6_bitCount_0f7a4 3 = .ok (.iushr, 1) := by decide +kernel
theorem dJ6_bitCount_0f7a4_4 : decode cJ6_bitCount_0f7a4 4 = .ok (.ldc_w 265, 3) := by decide +kernel
theorem dJ6_bitCount_0f7a4_7 : decode cJ6_bitCount_0f7a4 7 = .ok (.iand, 1) := by decide +kernel
theorem dJ6_bitCount_0f7a4_8 : decode cJ6_bitCount_0f7a4 8 = .ok (.isub, 1) := by decide +kernel
theorem dJ6_bitCount_0f7a4_9 : decode cJ6_bitCount_0f7a4 9 = .ok (.istore_n 0, 1) := by decide +kernel
theorem dJ6_bitCount_0f7a4_10 : decode cJ6_bitCount_0f7a4 10 = .ok (.iload_n 0, 1) := by decide +kernel
theorem dJ6_bitCount_0f7a4_11 : decode cJ6_bitCount_0f7a4 11 = .ok (.ldc_w 266, 3) := by decide +kernel
theorem dJ6_bitCount_0f7a4_14 : decode cJ6_bitCount_0f7a4 14 = .ok (.iand, 1) := by decide +kernel
theorem dJ6_bitCount_0f7a4_15 : decode cJ6_bitCount_0f7a4 15 = .ok (.iload_n 0, 1) := by decide +kernel
theorem dJ6_bitCount_0f7a4_16 : decode cJ6_bitCount_0f7a4 16 = .ok (.iconst 2, 1) := by decide +kernel
theorem dJ6_bitCount_0f7a4_17 : decode cJ6_bitCount_0f7a4 17 = .ok (.iushr, 1) := by decide +kernel
theorem dJ6_bitCount_0f7a4_18 : decode cJ6_bitCount_0f7a4 18 = .ok (.ldc_w 266, 3) := by decide +kernel
theorem dJ6_bitCount_0f7a4_21 : decode cJ6_bitCount_0f7a4 21 = .ok (.iand, 1) := by decide +kernel
theorem dJ6_bitCount_0f7a4_22 : decode cJ6_bitCount_0f7a4 22 = .ok (.iadd, 1) := by decide +kernel
theorem dJ6_bitCount_0f7a4_23 : decode cJ6_bitCount_0f7a4 23 = .ok (.istore_n 0, 1) := by decide +kernel
theorem dJ6_bitCount_0f7a4_24 : decode cJ6_bitCount_0f7a4 24 = .ok (.iload_n 0, 1) := by decide +kernel
theorem dJ6_bitCount_0f7a4_25 : decode cJ6_bitCount_0f7a4 25 = .ok (.iload_n 0, 1) := by decide +kernel
theorem dJ6_bitCount_0f7a4_26 : decode cJ6_bitCount_0f7a4 26 = .ok (.iconst 4, 1) := by decide +kernel
theorem dJ6_bitCount_0f7a4_27 : decode cJ6_bitCount_0f7a4 27 = .ok (.iushr, 1) := by decide +kernel
theorem dJ6_bitCount_0f7a4_28 : decode cJ6_bitCount_0f7a4 28 = .ok (.iadd, 1) := by decide +kernel
theorem dJ6_bitCount_0f7a4_29 : decode cJ6_bitCount_0f7a4 29 = .ok (.ldc_w 267, 3) := by decide +kernel
theorem dJ6_bitCount_0f7a4_32 : decode cJ6_bitCount_0f7a4 32 = .ok (.iand, 1) := by decide +kernel
theorem dJ6_bitCount_0f7a4_33 : decode cJ6_bitCount_0f7a4 33 = .ok (.istore_n 0, 1) := by decide +kernel
theorem dJ6_bitCount_0f7a4_34 : decode cJ6_bitCount_0f7a4 34 = .ok (.iload_n 0, 1) := by decide +kernel
theorem dJ6_bitCount_0f7a4_35 : decode cJ6_bitCount_0f7a4 35 = .ok (.iload_n 0, 1) := by decide +kernel
theorem dJ6_bitCount_0f7a4_36 : decode cJ6_bitCount_0f7a4 36 = .ok (.bipush 8, 2) := by decide +kernel
theorem dJ6_bitCount_0f7a4_38 : decode cJ6_bitCount_0f7a4 38 = .ok (.iushr, 1) := by decide +kernel
theorem dJ6_bitCount_0f7a4_39 : decode cJ6_bitCount_0f7a4 39 = .ok (.iadd, 1) := by decide +kernel
theorem dJ6_bitCount_0f7a4_40 : decode cJ6_bitCount_0f7a4 40 = .ok (.istore_n 0, 1) := by decide +kernel
theorem dJ6_bitCount_0f7a4_41 : decode cJ6_bitCount_0f7a4 41 = .ok (.iload_n 0, 1) := by decide +kernel
theorem dJ6_bitCount_0f7a4_42 : decode cJ6_bitCount_0f7a4 42 = .ok (.iload_n 0, 1) := by decide +kernel
theorem dJ6_bitCount_0f7a4_43 : decode cJ6_bitCount_0f7a4 43 = .ok (.bipush 16, 2) := by decide +kernel
theorem dJ6_bitCount_0f7a4_45 : decode cJ6_bitCount_0f7a4 45 = .ok (.iushr, 1) := by decide +kernel
theorem dJ6_bitCount_0f7a4_46 : decode cJ6_bitCount_0f7a4 46 = .ok (.iadd, 1) := by decide +kernel
theorem dJ6_bitCount_0f7a4_47 : decode cJ6_bitCount_0f7a4 47 = .ok (.istore_n 0, 1) := by decide +kernel
theorem dJ6_bitCount_0f7a4_48 : decode cJ6_bitCount_0f7a4 48 = .ok (.iload_n 0, 1) := by decide +kernel
theorem dJ6_bitCount_0f7a4_49 : decode cJ6_bitCount_0f7a4 49 = .ok (.bipush 63, 2) := by decide +kernel
theorem dJ6_bitCount_0f7a4_51 : decode cJ6_bitCount_0f7a4 51 = .ok (.iand, 1) := by decide +kernel
theorem dJ6_bitCount_0f7a4_52 : decode cJ6_bitCount_0f7a4 52 = .ok (.ireturn, 1) := by decide +kernel
theorem dJ13_bitCount_95d88_0 : decode cJ13_bitCount_95d88 0 = .ok (.lload_n 0, 1) := by decide +kernel
theorem dJ13_bitCount_95d88_1 : decode cJ13_bitCount_95d88 1 = .ok (.lload_n 0, 1) := by decide +kernel
theorem dJ13_bitCount_95d88_2 : decode cJ13_bitCount_95d88 2 = .ok (.iconst 1, 1) := by decide +kernel
theorem dJ13_bitCount_95d88_3 : decode cJ13_bitCount_95d88 3 = .ok (.lushr, 1) := by decide +kernel
theorem dJ13_bitCount_95d88_4 : decode cJ13_bitCount_95d88 4 = .ok (.ldc2_w 314, 3) := by decide +kernel
theorem dJ13_bitCount_95d88_7 : decode cJ13_bitCount_95d88 7 = .ok (.land, 1) := by decide +kernel
theorem dJ13_bitCount_95d88_8 : decode cJ13_bitCount_95d88 8 = .ok (.lsub, 1) := by decide +kernel
theorem dJ13_bitCount_95d88_9 : decode cJ13_bitCount_95d88 9 = .ok (.lstore_n 0, 1) := by decide +kernel
theorem dJ13_bitCount_95d88_10 : decode cJ13_bitCount_95d88 10 = .ok (.lload_n 0, 1) := by decide +kernel
theorem dJ13_bitCount_95d88_11 : decode cJ13_bitCount_95d88 11 = .ok (.ldc2_w 316, 3) := by decide +kernel
theorem dJ13_bitCount_95d88_14 : decode cJ13_bitCount_95d88 14 = .ok (.land, 1) := by decide +kernel
theorem dJ13_bitCount_95d88_15 : decode cJ13_bitCount_95d88 15 = .ok (.lload_n 0, 1) := by decide +kernel
theorem dJ13_bitCount_95d88_16 : decode cJ13_bitCount_95d88 16 = .ok (.iconst 2, 1) := by decide +kernel
theorem dJ13_bitCount_95d88_17 : decode cJ13_bitCount_95d88 17 = .ok (.lushr, 1) := by decide +kernel
theorem dJ13_bitCount_95d88_18 : decode cJ13_bitCount_95d88 18 = .ok (.ldc2_w 316, 3) := by decide +kernel
theorem dJ13_bitCount_95d88_21 : decode cJ13_bitCount_95d88 21 = .ok (.land, 1) := by decide +kernel
theorem dJ13_bitCount_95d88_22 : decode cJ13_bitCount_95d88 22 = .ok (.ladd, 1) := by decide +kernel
theorem dJ13_bitCount_95d88_23 : decode cJ13_bitCount_95d88 23 = .ok (.lstore_n 0, 1) := by decide +kernel
theorem dJ13_bitCount_95d88_24 : decode cJ13_bitCount_95d88 24 = .ok (.lload_n 0, 1) := by decide +kernel
theorem dJ13_bitCount_95d88_25 : decode cJ13_bitCount_95d88 25 = .ok (.lload_n 0, 1) := by decide +kernel
theorem dJ13_bitCount_95d88_26 : decode cJ13_bitCount_95d88 26 = .ok (.iconst 4, 1) := by decide +kernel
theorem dJ13_bitCount_95d88_27 : decode cJ13_bitCount_95d88 27 = .ok (.lushr, 1) := by decide +kernel
theorem dJ13_bitCount_95d88_28 : decode cJ13_bitCount_95d88 28 = .ok (.ladd, 1) := by decide +kernel
theorem dJ13_bitCount_95d88_29 : decode cJ13_bitCount_95d88 29 = .ok (.ldc2_w 318, 3) := by decide +kernel
theorem dJ13_bitCount_95d88_32 : decode cJ13_bitCount_95d88 32 = .ok (.land, 1) := by decide +kernel
theorem dJ13_bitCount_95d88_33 : decode cJ13_bitCount_95d88 33 = .ok (.lstore_n 0, 1) := by decide +kernel
theorem dJ13_bitCount_95d88_34 : decode cJ13_bitCount_95d88 34 = .ok (.lload_n 0, 1) := by decide +kernel
theorem dJ13_bitCount_95d88_35 : decode cJ13_bitCount_95d88 35 = .ok (.lload_n 0, 1) := by decide +kernel
theorem dJ13_bitCount_95d88_36 : decode cJ13_bitCount_95d88 36 = .ok (.bipush 8, 2) := by decide +kernel
theorem dJ13_bitCount_95d88_38 : decode cJ13_bitCount_95d88 38 = .ok (.lushr, 1) := by decide +kernel
theorem dJ13_bitCount_95d88_39 : decode cJ13_bitCount_95d88 39 = .ok (.ladd, 1) := by decide +kernel
theorem dJ13_bitCount_95d88_40 : decode cJ13_bitCount_95d88 40 = .ok (.lstore_n 0, 1) := by decide +kernel
theorem dJ13_bitCount_95d88_41 : decode cJ13_bitCount_95d88 41 = .ok (.lload_n 0, 1) := by decide +kernel
theorem dJ13_bitCount_95d88_42 : decode cJ13_bitCount_95d88 42 = .ok (.lload_n 0, 1) := by decide +kernel
theorem dJ13_bitCount_95d88_43 : decode cJ13_bitCount_95d88 43 = .ok (.bipush 16, 2) := by decide +kernel
theorem dJ13_bitCount_95d88_45 : decode cJ13_bitCount_95d88 45 = .ok (.lushr, 1) := by decide +kernel
theorem dJ13_bitCount_95d88_46 : decode cJ13_bitCount_95d88 46 = .ok (.ladd, 1) := by decide +kernel
theorem dJ13_bitCount_95d88_47 : decode cJ13_bitCount_95d88 47 = .ok (.lstore_n 0, 1) := by decide +kernel
theorem dJ13_bitCount_95d88_48 : decode cJ13_bitCount_95d88 48 = .ok (.lload_n 0, 1) := by decide +kernel
theorem dJ13_bitCount_95d88_49 : decode cJ13_bitCount_95d88 49 = .ok (.lload_n 0, 1) := by decide +kernel
theorem dJ13_bitCount_95d88_50 : decode cJ13_bitCount_95d88 50 = .ok (.bipush 32, 2) := by decide +kernel
theorem dJ13_bitCount_95d88_52 : decode cJ13_bitCount_95d88 52 = .ok (.lushr, 1) := by decide +kernel
theorem dJ13_bitCount_95d88_53 : decode cJ13_bitCount_95d88 53 = .ok (.ladd, 1) := by decide +kernel
theorem dJ13_bitCount_95d88_54 : decode cJ13_bitCount_95d88 54 = .ok (.lstore_n 0, 1) := by decide +kernel
theorem dJ13_bitCount_95d88_55 : decode cJ13_bitCount_95d88 55 = .ok (.lload_n 0, 1) := by decide +kernel
theorem dJ13_bitCount_95d88_56 : decode cJ13_bitCount_95d88 56 = .ok (.l2i, 1) := by decide +kernel
theorem dJ13_bitCount_95d88_57 : decode cJ13_bitCount_95d88 57 = .ok (.bipush 127, 2) := by decide +kernel
theorem dJ13_bitCount_95d88_59 : decode cJ13_bitCount_95d88 59 = .ok (.iand, 1) := by decide +kernel
theorem dJ13_bitCount_95d88_60 : decode cJ13_bitCount_95d88 60 = .ok (.ireturn, 1) := by decide +kernel
theorem dJ9_max_7cf53_0 : decode cJ9_max_7cf53 0 = .ok (.iload_n 0, 1) := by decide +kernel
theorem dJ9_max_7cf53_1 : decode cJ9_max_7cf53 1 = .ok (.iload_n 1, 1) := by decide +kernel
theorem dJ9_max_7cf53_2 : decode cJ9_max_7cf53 2 = .ok (.if_icmp .lt 7, 3) := by decide +kernel
theorem dJ9_max_7cf53_5 : decode cJ9_max_7cf53 5 = .ok (.iload_n 0, 1) := by decide +kernel
theorem dJ9_max_7cf53_6 : decode cJ9_max_7cf53 6 = .ok (.goto 4, 3) := by decide +kernel
theorem dJ9_max_7cf53_9 : decode cJ9_max_7cf53 9 = .ok (.iload_n 1, 1) := by decide +kernel
theorem dJ9_max_7cf53_10 : decode cJ9_max_7cf53 10 = .ok (.ireturn, 1) := by decide +kernel
theorem dJ9_min_7cf53_0 : decode cJ9_min_7cf53 0 = .ok (.iload_n 0, 1) := by decide +kernel
theorem dJ9_min_7cf53_1 : decode cJ9_min_7cf53 1 = .ok (.iload_n 1, 1) := by decide +kernel
theorem dJ9_min_7cf53_2 : decode cJ9_min_7cf53 2 = .ok (.if_icmp .gt 7, 3) := by decide +kernel
theorem dJ9_min_7cf53_5 : decode cJ9_min_7cf53 5 = .ok (.iload_n 0, 1) := by decide +kernel
theorem dJ9_min_7cf53_6 : decode cJ9_min_7cf53 6 = .ok (.goto 4, 3) := by decide +kernel
theorem dJ9_min_7cf53_9 : decode cJ9_min_7cf53 9 = .ok (.iload_n 1, 1) := by decide +kernel
theorem dJ9_min_7cf53_10 : decode cJ9_min_7cf53 10 = .ok (.ireturn, 1) := by decide +kernel
theorem dJxa1e45_init_da8c8_0 : decode cJxa1e45_init_da8c8 0 = .ok (.aload_n 0, 1) := by decide +kernel
theorem dJxa1e45_init_da8c8_1 : decode cJxa1e45_init_da8c8 1 = .ok (.invokespecial 1, 3) := by decide +kernel
theorem dJxa1e45_init_da8c8_4 : decode cJxa1e45_init_da8c8 4 = .ok (.return_, 1) := by decide +kernel
theorem dJxc12de_init_da8c8_0 : decode cJxc12de_init_da8c8 0 = .ok (.aload_n 0, 1) := by decide +kernel
theorem dJxc12de_init_da8c8_1 : decode cJxc12de_init_da8c8 1 = .ok (.invokespecial 1, 3) := by decide +kernel
theorem dJxc12de_init_da8c8_4 : decode cJxc12de_init_da8c8 4 = .ok (.aload_n 0, 1) := by decide +kernel
theorem dJxc12de_init_da8c8_5 : decode cJxc12de_init_da8c8 5 = .ok (.iconst 0, 1) := by decide +kernel
theorem dJxc12de_init_da8c8_6 : decode cJxc12de_init_da8c8 6 = .ok (.putfield 7, 3) := by decide +kernel
theorem dJxc12de_init_da8c8_9 : decode cJxc12de_init_da8c8 9 = .ok (.return_, 1) := by decide +kernel
theorem dJx4a65c_init_da8c8_0 : decode cJx4a65c_init_da8c8 0 = .ok (.aload_n 0, 1) := by decide +kernel
theorem dJx4a65c_init_da8c8_1 : decode cJx4a65c_init_da8c8 1 = .ok (.invokespecial 1, 3) := by decide +kernel
theorem dJx4a65c_init_da8c8_4 : decode cJx4a65c_init_da8c8 4 = .ok (.aload_n 0, 1) := by decide +kernel
theorem dJx4a65c_init_da8c8_5 : decode cJx4a65c_init_da8c8 5 = .ok (.getstatic 39, 3) := by decide +kernel
theorem dJx4a65c_init_da8c8_8 : decode cJx4a65c_init_da8c8 8 = .ok (.putfield 9, 3) := by decide +kernel
theorem dJx4a65c_init_da8c8_11 : decode cJx4a65c_init_da8c8 11 = .ok (.return_, 1) := by decide +kernel
theorem dJx4a65c_grow_92f84_0 : decode cJx4a65c_grow_92f84 0 = .ok (.aload_n 0, 1) := by decide +kernel
theorem dJx4a65c_grow_92f84_1 : decode cJx4a65c_grow_92f84 1 = .ok (.getfield 9, 3) := by decide +kernel
theorem dJx4a65c_grow_92f84_4 : decode cJx4a65c_grow_92f84 4 = .ok (.arraylength, 1) := by decide +kernel
theorem dJx4a65c_grow_92f84_5 : decode cJx4a65c_grow_92f84 5 = .ok (.istore_n 2, 1) := by decide +kernel
theorem dJx4a65c_grow_92f84_6 : decode cJx4a65c_grow_92f84 6 = .ok (.iload_n 2, 1) := by decide +kernel
theorem dJx4a65c_grow_92f84_7 : decode cJx4a65c_grow_92f84 7 = .ok (.ifCond .gt 13, 3) := by decide +kernel
theorem dJx4a65c_grow_92f84_10 : decode cJx4a65c_grow_92f84 10 = .ok (.aload_n 0, 1) := by decide +kernel
theorem dJx4a65c_grow_92f84_11 : decode cJx4a65c_grow_92f84 11 = .ok (.getfield 9, 3) := by decide +kernel
theorem dJx4a65c_grow_92f84_14 : decode cJx4a65c_grow_92f84 14 = .ok (.getstatic 39, 3) := by decide +kernel
theorem dJx4a65c_grow_92f84_17 : decode cJx4a65c_grow_92f84 17 = .ok (.if_acmp .eq 28, 3) := by decide +kernel
theorem dJx4a65c_grow_92f84_20 : decode cJx4a65c_grow_92f84 20 = .ok (.iload_n 2, 1) := by decide +kernel
theorem dJx4a65c_grow_92f84_21 : decode cJx4a65c_grow_92f84 21 = .ok (.iload_n 1, 1) := by decide +kernel
theorem dJx4a65c_grow_92f84_22 : decode cJx4a65c_grow_92f84 22 = .ok (.iload_n 2, 1) := by decide +kernel
theorem dJx4a65c_grow_92f84_23 : decode cJx4a65c_grow_92f84 23 = .ok (.isub, 1) := by decide +kernel
theorem dJx4a65c_grow_92f84_24 : decode cJx4a65c_grow_92f84 24 = .ok (.iload_n 2, 1) := by decide +kernel
theorem dJx4a65c_grow_92f84_25 : decode cJx4a65c_grow_92f84 25 = .ok (.iconst 1, 1) := by decide +kernel
theorem dJx4a65c_grow_92f84_26 : decode cJx4a65c_grow_92f84 26 = .ok (.ishr, 1) := by decide +kernel
theorem dJx4a65c_grow_92f84_27 : decode cJx4a65c_grow_92f84 27 = .ok (.invokestatic 73, 3) := by decide +kernel
theorem dJx4a65c_grow_92f84_30 : decode cJx4a65c_grow_92f84 30 = .ok (.istore_n 3, 1) := by decide +kernel
theorem dJx4a65c_grow_92f84_31 : decode cJx4a65c_grow_92f84 31 = .ok (.aload_n 0, 1) := by decide +kernel
theorem dJx4a65c_grow_92f84_32 : decode cJx4a65c_grow_92f84 32 = .ok (.aload_n 0, 1) := by decide +kernel
theorem dJx4a65c_grow_92f84_33 : decode cJx4a65c_grow_92f84 33 = .ok (.getfield 9, 3) := by decide +kernel
theorem dJx4a65c_grow_92f84_36 : decode cJx4a65c_grow_92f84 36 = .ok (.iload_n 3, 1) := by decide +kernel
theorem dJx4a65c_grow_92f84_37 : decode cJx4a65c_grow_92f84 37 = .ok (.invokestatic 66, 3) := by decide +kernel
theorem dJx4a65c_grow_92f84_40 : decode cJx4a65c_grow_92f84 40 = .ok (.dup_x1, 1) := by decide +kernel
theorem dJx4a65c_grow_92f84_41 : decode cJx4a65c_grow_92f84 41 = .ok (.putfield 9, 3) := by decide +kernel
theorem dJx4a65c_grow_92f84_44 : decode cJx4a65c_grow_92f84 44 = .ok (.areturn, 1) := by decide +kernel
theorem dJx4a65c_grow_92f84_45 : decode cJx4a65c_grow_92f84 45 = .ok (.aload_n 0, 1) := by decide +kernel
theorem dJx4a65c_grow_92f84_46 : decode cJx4a65c_grow_92f84 46 = .ok (.bipush 10, 2) := by decide +kernel
theorem dJx4a65c_grow_92f84_48 : decode cJx4a65c_grow_92f84 48 = .ok (.iload_n 1, 1) := by decide +kernel
theorem dJx4a65c_grow_92f84_49 : decode cJx4a65c_grow_92f84 49 = .ok (.invokestatic 79, 3) := by decide +kernel
theorem dJx4a65c_grow_92f84_52 : decode cJx4a65c_grow_92f84 52 = .ok (.anewarray 7, 3) := by decide +kernel
theorem dJx4a65c_grow_92f84_55 : decode cJx4a65c_grow_92f84 55 = .ok (.dup_x1, 1) := by decide +kernel
theorem dJx4a65c_grow_92f84_56 : decode cJx4a65c_grow_92f84 56 = .ok (.putfield 9, 3) := by decide +kernel
theorem dJx4a65c_grow_92f84_59 : decode cJx4a65c_grow_92f84 59 = .ok (.areturn, 1) := by decide +kernel
theorem dJx4a65c_grow_d5877_0 : decode cJx4a65c_grow_d5877 0 = .ok (.aload_n 0, 1) := by decide +kernel
theorem dJx4a65c_grow_d5877_1 : decode cJx4a65c_grow_d5877 1 = .ok (.aload_n 0, 1) := by decide +kernel
theorem dJx4a65c_grow_d5877_2 : decode cJx4a65c_grow_d5877 2 = .ok (.getfield 48, 3) := by decide +kernel
theorem dJx4a65c_grow_d5877_5 : decode cJx4a65c_grow_d5877 5 = .ok (.iconst 1, 1) := by decide +kernel
theorem dJx4a65c_grow_d5877_6 : decode cJx4a65c_grow_d5877 6 = .ok (.iadd, 1) := by decide +kernel
theorem dJx4a65c_grow_d5877_7 : decode cJx4a65c_grow_d5877 7 = .ok (.invokevirtual 69, 3) := by decide +kernel
theorem dJx4a65c_grow_d5877_10 : decode cJx4a65c_grow_d5877 10 = .ok (.areturn, 1) := by decide +kernel
theorem dJx4a65c_size_8abf5_0 : decode cJx4a65c_size_8abf5 0 = .ok (.aload_n 0, 1) := by decide +kernel
theorem dJx4a65c_size_8abf5_1 : decode cJx4a65c_size_8abf5 1 = .ok (.getfield 48, 3) := by decide +kernel
theorem dJx4a65c_size_8abf5_4 : decode cJx4a65c_size_8abf5 4 = .ok (.ireturn, 1) := by decide +kernel
theorem dJx4a65c_elementData_915e3_0 : decode cJx4a65c_elementData_915e3 0 = .ok (.aload_n 0, 1) := by decide +kernel
theorem dJx4a65c_elementData_915e3_1 : decode cJx4a65c_elementData_915e3 1 = .ok (.getfield 9, 3) := by decide +kernel
theorem dJx4a65c_elementData_915e3_4 : decode cJx4a65c_elementData_915e3 4 = .ok (.iload_n 1, 1) := by decide +kernel
theorem dJx4a65c_elementData_915e3_5 : decode cJx4a65c_elementData_915e3 5 = .ok (.aaload, 1) := by decide +kernel
theorem dJx4a65c_elementData_915e3_6 : decode cJx4a65c_elementData_915e3 6 = .ok (.areturn, 1) := by decide +kernel
theorem dJx4a65c_get_915e3_0 : decode cJx4a65c_get_915e3 0 = .ok (.iload_n 1, 1) := by decide +kernel
theorem dJx4a65c_get_915e3_1 : decode cJx4a65c_get_915e3 1 = .ok (.aload_n 0, 1) := by decide +kernel
theorem dJx4a65c_get_915e3_2 : decode cJx4a65c_get_915e3 2 = .ok (.getfield 48, 3) := by decide +kernel
theorem dJx4a65c_get_915e3_5 : decode cJx4a65c_get_915e3 5 = .ok (.invokestatic 118, 3) := by decide +kernel
theorem dJx4a65c_get_915e3_8 : decode cJx4a65c_get_915e3 8 = .ok (.pop, 1) := by decide +kernel
theorem dJx4a65c_get_915e3_9 : decode cJx4a65c_get_915e3 9 = .ok (.aload_n 0, 1) := by decide +kernel
theorem dJx4a65c_get_915e3_10 : decode cJx4a65c_get_915e3 10 = .ok (.iload_n 1, 1) := by decide +kernel
theorem dJx4a65c_get_915e3_11 : decode cJx4a65c_get_915e3 11 = .ok (.invokevirtual 123, 3) := by decide +kernel
theorem dJx4a65c_get_915e3_14 : decode cJx4a65c_get_915e3 14 = .ok (.areturn, 1) := by decide +kernel
theorem dJx4a65c_add_72be8_0 : decode cJx4a65c_add_72be8 0 = .ok (.iload_n 3, 1) := by decide +kernel
theorem dJx4a65c_add_72be8_1 : decode cJx4a65c_add_72be8 1 = .ok (.aload_n 2, 1) := by decide +kernel
theorem dJx4a65c_add_72be8_2 : decode cJx4a65c_add_72be8 2 = .ok (.arraylength, 1) := by decide +kernel
theorem dJx4a65c_add_72be8_3 : decode cJx4a65c_add_72be8 3 = .ok (.if_icmp .ne 8, 3) := by decide +kernel
theorem dJx4a65c_add_72be8_6 : decode cJx4a65c_add_72be8 6 = .ok (.aload_n 0, 1) := by decide +kernel
theorem dJx4a65c_add_72be8_7 : decode cJx4a65c_add_72be8 7 = .ok (.invokevirtual 129, 3) := by decide +kernel
theorem dJx4a65c_add_72be8_10 : decode cJx4a65c_add_72be8 10 = .ok (.astore_n 2, 1) := by decide +kernel
theorem dJx4a65c_add_72be8_11 : decode cJx4a65c_add_72be8 11 = .ok (.aload_n 2, 1) := by decide +kernel
theorem dJx4a65c_add_72be8_12 : decode cJx4a65c_add_72be8 12 = .ok (.iload_n 3, 1) := by decide +kernel
theorem dJx4a65c_add_72be8_13 : decode cJx4a65c_add_72be8 13 = .ok (.aload_n 1, 1) := by decide +kernel
theorem dJx4a65c_add_72be8_14 : decode cJx4a65c_add_72be8 14 = .ok (.aastore, 1) := by decide +kernel
theorem dJx4a65c_add_72be8_15 : decode cJx4a65c_add_72be8 15 = .ok (.aload_n 0, 1) := by decide +kernel
theorem dJx4a65c_add_72be8_16 : decode cJx4a65c_add_72be8 16 = .ok (.iload_n 3, 1) := by decide +kernel
theorem dJx4a65c_add_72be8_17 : decode cJx4a65c_add_72be8 17 = .ok (.iconst 1, 1) := by decide +kernel
theorem dJx4a65c_add_72be8_18 : decode cJx4a65c_add_72be8 18 = .ok (.iadd, 1) := by decide +kernel
theorem dJx4a65c_add_72be8_19 : decode cJx4a65c_add_72be8 19 = .ok (.putfield 48, 3) := by decide +kernel
theorem dJx4a65c_add_72be8_22 : decode cJx4a65c_add_72be8 22 = .ok (.return_, 1) := by decide +kernel
theorem dJx4a65c_add_9ea2d_0 : decode cJx4a65c_add_9ea2d 0 = .ok (.aload_n 0, 1) := by decide +kernel
theorem dJx4a65c_add_9ea2d_1 : decode cJx4a65c_add_9ea2d 1 = .ok (.dup, 1) := by decide +kernel
theorem dJx4a65c_add_9ea2d_2 : decode cJx4a65c_add_9ea2d 2 = .ok (.getfield 63, 3) := by decide +kernel
theorem dJx4a65c_add_9ea2d_5 : decode cJx4a65c_add_9ea2d 5 = .ok (.iconst 1, 1) := by decide +kernel
theorem dJx4a65c_add_9ea2d_6 : decode cJx4a65c_add_9ea2d 6 = .ok (.iadd, 1) := by decide +kernel
theorem dJx4a65c_add_9ea2d_7 : decode cJx4a65c_add_9ea2d 7 = .ok (.putfield 63, 3) := by decide +kernel
theorem dJx4a65c_add_9ea2d_10 : decode cJx4a65c_add_9ea2d 10 = .ok (.aload_n 0, 1) := by decide +kernel
theorem dJx4a65c_add_9ea2d_11 : decode cJx4a65c_add_9ea2d 11 = .ok (.aload_n 1, 1) := by decide +kernel
theorem dJx4a65c_add_9ea2d_12 : decode cJx4a65c_add_9ea2d 12 = .ok (.aload_n 0, 1) := by decide +kernel
theorem dJx4a65c_add_9ea2d_13 : decode cJx4a65c_add_9ea2d 13 = .ok (.getfield 9, 3) := by decide +kernel
theorem dJx4a65c_add_9ea2d_16 : decode cJx4a65c_add_9ea2d 16 = .ok (.aload_n 0, 1) := by decide +kernel
theorem dJx4a65c_add_9ea2d_17 : decode cJx4a65c_add_9ea2d 17 = .ok (.getfield 48, 3) := by decide +kernel
theorem dJx4a65c_add_9ea2d_20 : decode cJx4a65c_add_9ea2d 20 = .ok (.invokevirtual 131, 3) := by decide +kernel
theorem dJx4a65c_add_9ea2d_23 : decode cJx4a65c_add_9ea2d 23 = .ok (.iconst 1, 1) := by decide +kernel
theorem dJx4a65c_add_9ea2d_24 : decode cJx4a65c_add_9ea2d 24 = .ok (.ireturn, 1) := by decide +kernel
theorem dJx4a65c_remove_915e3_0 : decode cJx4a65c_remove_915e3 0 = .ok (.iload_n 1, 1) := by decide +kernel
theorem dJx4a65c_remove_915e3_1 : decode cJx4a65c_remove_915e3 1 = .ok (.aload_n 0, 1) := by decide +kernel
theorem dJx4a65c_remove_915e3_2 : decode cJx4a65c_remove_915e3 2 = .ok (.getfield 48, 3) := by decide +kernel
theorem dJx4a65c_remove_915e3_5 : decode cJx4a65c_remove_915e3 5 = .ok (.invokestatic 118, 3) := by decide +kernel
theorem dJx4a65c_remove_915e3_8 : decode cJx4a65c_remove_915e3 8 = .ok (.pop, 1) := by decide +kernel
theorem dJx4a65c_remove_915e3_9 : decode cJx4a65c_remove_915e3 9 = .ok (.aload_n 0, 1) := by decide +kernel
theorem dJx4a65c_remove_915e3_10 : decode cJx4a65c_remove_915e3 10 = .ok (.getfield 9, 3) := by decide +kernel
theorem dJx4a65c_remove_915e3_13 : decode cJx4a65c_remove_915e3 13 = .ok (.astore_n 2, 1) := by decide +kernel
theorem dJx4a65c_remove_915e3_14 : decode cJx4a65c_remove_915e3 14 = .ok (.aload_n 2, 1) := by decide +kernel
theorem dJx4a65c_remove_915e3_15 : decode cJx4a65c_remove_915e3 15 = .ok (.iload_n 1, 1) := by decide +kernel
theorem dJx4a65c_remove_915e3_16 : decode cJx4a65c_remove_915e3 16 = .ok (.aaload, 1) := by decide +kernel
theorem dJx4a65c_remove_915e3_17 : decode cJx4a65c_remove_915e3 17 = .ok (.astore_n 3, 1) := by decide +kernel
theorem dJx4a65c_remove_915e3_18 : decode cJx4a65c_remove_915e3 18 = .ok (.aload_n 0, 1) := by decide +kernel
theorem dJx4a65c_remove_915e3_19 : decode cJx4a65c_remove_915e3 19 = .ok (.aload_n 2, 1) := by decide +kernel
theorem dJx4a65c_remove_915e3_20 : decode cJx4a65c_remove_915e3 20 = .ok (.iload_n 1, 1) := by decide +kernel
theorem dJx4a65c_remove_915e3_21 : decode cJx4a65c_remove_915e3 21 = .ok (.invokevirtual 144, 3) := by decide +kernel
theorem dJx4a65c_remove_915e3_24 : decode cJx4a65c_remove_915e3 24 = .ok (.aload_n 3, 1) := by decide +kernel
theorem dJx4a65c_remove_915e3_25 : decode cJx4a65c_remove_915e3 25 = .ok (.areturn, 1) := by decide +kernel
theorem dJx4a65c_fastRemove_b59b0_0 : decode cJx4a65c_fastRemove_b59b0 0 = .ok (.aload_n 0, 1) := by decide +kernel
theorem dJx4a65c_fastRemove_b59b0_1 : decode cJx4a65c_fastRemove_b59b0 1 = .ok (.dup, 1) := by decide +kernel
theorem dJx4a65c_fastRemove_b59b0_2 : decode cJx4a65c_fastRemove_b59b0 2 = .ok (.getfield 63, 3) := by decide +kernel
theorem dJx4a65c_fastRemove_b59b0_5 : decode cJx4a65c_fastRemove_b59b0 5 = .ok (.iconst 1, 1) := by decide +kernel
theorem dJx4a65c_fastRemove_b59b0_6 : decode cJx4a65c_fastRemove_b59b0 6 = .ok (.iadd, 1) := by decide +kernel
theorem dJx4a65c_fastRemove_b59b0_7 : decode cJx4a65c_fastRemove_b59b0 7 = .ok (.putfield 63, 3) := by decide +kernel
theorem dJx4a65c_fastRemove_b59b0_10 : decode cJx4a65c_fastRemove_b59b0 10 = .ok (.aload_n 0, 1) := by decide +kernel
theorem dJx4a65c_fastRemove_b59b0_11 : decode cJx4a65c_fastRemove_b59b0 11 = .ok (.getfield 48, 3) := by decide +kernel
theorem dJx4a65c_fastRemove_b59b0_14 : decode cJx4a65c_fastRemove_b59b0 14 = .ok (.iconst 1, 1) := by decide +kernel
theorem dJx4a65c_fastRemove_b59b0_15 : decode cJx4a65c_fastRemove_b59b0 15 = .ok (.isub, 1) := by decide +kernel
theorem dJx4a65c_fastRemove_b59b0_16 : decode cJx4a65c_fastRemove_b59b0 16 = .ok (.dup, 1) := by decide +kernel
theorem dJx4a65c_fastRemove_b59b0_17 : decode cJx4a65c_fastRemove_b59b0 17 = .ok (.istore_n 3, 1) := by decide +kernel
theorem dJx4a65c_fastRemove_b59b0_18 : decode cJx4a65c_fastRemove_b59b0 18 = .ok (.iload_n 2, 1) := by decide +kernel
theorem dJx4a65c_fastRemove_b59b0_19 : decode cJx4a65c_fastRemove_b59b0 19 = .ok (.if_icmp .le 15, 3) := by decide +kernel
theorem dJx4a65c_fastRemove_b59b0_22 : decode cJx4a65c_fastRemove_b59b0 22 = .ok (.aload_n 1, 1) := by decide +kernel
theorem dJx4a65c_fastRemove_b59b0_23 : decode cJx4a65c_fastRemove_b59b0 23 = .ok (.iload_n 2, 1) := by decide +kernel
theorem dJx4a65c_fastRemove_b59b0_24 : decode cJx4a65c_fastRemove_b59b0 24 = .ok (.iconst 1, 1) := by decide +kernel
theorem dJx4a65c_fastRemove_b59b0_25 : decode cJx4a65c_fastRemove_b59b0 25 = .ok (.iadd, 1) := by decide +kernel
theorem dJx4a65c_fastRemove_b59b0_26 : decode cJx4a65c_fastRemove_b59b0 26 = .ok (.aload_n 1, 1) := by decide +kernel
theorem dJx4a65c_fastRemove_b59b0_27 : decode cJx4a65c_fastRemove_b59b0 27 = .ok (.iload_n 2, 1) := by decide +kernel
theorem dJx4a65c_fastRemove_b59b0_28 : decode cJx4a65c_fastRemove_b59b0 28 = .ok (.iload_n 3, 1) := by decide +kernel
theorem dJx4a65c_fastRemove_b59b0_29 : decode cJx4a65c_fastRemove_b59b0 29 = .ok (.iload_n 2, 1) := by decide +kernel
theorem dJx4a65c_fastRemove_b59b0_30 : decode cJx4a65c_fastRemove_b59b0 30 = .ok (.isub, 1) := by decide +kernel
theorem dJx4a65c_fastRemove_b59b0_31 : decode cJx4a65c_fastRemove_b59b0 31 = .ok (.invokestatic 112, 3) := by decide +kernel
theorem dJx4a65c_fastRemove_b59b0_34 : decode cJx4a65c_fastRemove_b59b0 34 = .ok (.aload_n 1, 1) := by decide +kernel
theorem dJx4a65c_fastRemove_b59b0_35 : decode cJx4a65c_fastRemove_b59b0 35 = .ok (.aload_n 0, 1) := by decide +kernel
theorem dJx4a65c_fastRemove_b59b0_36 : decode cJx4a65c_fastRemove_b59b0 36 = .ok (.iload_n 3, 1) := by decide +kernel
theorem dJx4a65c_fastRemove_b59b0_37 : decode cJx4a65c_fastRemove_b59b0 37 = .ok (.dup_x1, 1) := by decide +kernel
theorem dJx4a65c_fastRemove_b59b0_38 : decode cJx4a65c_fastRemove_b59b0 38 = .ok (.putfield 48, 3) := by decide +kernel
theorem dJx4a65c_fastRemove_b59b0_41 : decode cJx4a65c_fastRemove_b59b0 41 = .ok (.aconst_null, 1) := by decide +kernel
theorem dJx4a65c_fastRemove_b59b0_42 : decode cJx4a65c_fastRemove_b59b0 42 = .ok (.aastore, 1) := by decide +kernel
theorem dJx4a65c_fastRemove_b59b0_43 : decode cJx4a65c_fastRemove_b59b0 43 = .ok (.return_, 1) := by decide +kernel
theorem dJx4a65c_clear_da8c8_0 : decode cJx4a65c_clear_da8c8 0 = .ok (.aload_n 0, 1) := by decide +kernel
theorem dJx4a65c_clear_da8c8_1 : decode cJx4a65c_clear_da8c8 1 = .ok (.dup, 1) := by decide +kernel
theorem dJx4a65c_clear_da8c8_2 : decode cJx4a65c_clear_da8c8 2 = .ok (.getfield 63, 3) := by decide +kernel
theorem dJx4a65c_clear_da8c8_5 : decode cJx4a65c_clear_da8c8 5 = .ok (.iconst 1, 1) := by decide +kernel
theorem dJx4a65c_clear_da8c8_6 : decode cJx4a65c_clear_da8c8 6 = .ok (.iadd, 1) := by decide +kernel
theorem dJx4a65c_clear_da8c8_7 : decode cJx4a65c_clear_da8c8 7 = .ok (.putfield 63, 3) := by decide +kernel
theorem dJx4a65c_clear_da8c8_10 : decode cJx4a65c_clear_da8c8 10 = .ok (.aload_n 0, 1) := by decide +kernel
theorem dJx4a65c_clear_da8c8_11 : decode cJx4a65c_clear_da8c8 11 = .ok (.getfield 9, 3) := by decide +kernel
theorem dJx4a65c_clear_da8c8_14 : decode cJx4a65c_clear_da8c8 14 = .ok (.astore_n 1, 1) := by decide +kernel
theorem dJx4a65c_clear_da8c8_15 : decode cJx4a65c_clear_da8c8 15 = .ok (.aload_n 0, 1) := by decide +kernel
theorem dJx4a65c_clear_da8c8_16 : decode cJx4a65c_clear_da8c8 16 = .ok (.getfield 48, 3) := by decide +kernel
theorem dJx4a65c_clear_da8c8_19 : decode cJx4a65c_clear_da8c8 19 = .ok (.istore_n 2, 1) := by decide +kernel
theorem dJx4a65c_clear_da8c8_20 : decode cJx4a65c_clear_da8c8 20 = .ok (.aload_n 0, 1) := by decide +kernel
theorem dJx4a65c_clear_da8c8_21 : decode cJx4a65c_clear_da8c8 21 = .ok (.iconst 0, 1) := by decide +kernel
theorem dJx4a65c_clear_da8c8_22 : decode cJx4a65c_clear_da8c8 22 = .ok (.dup_x1, 1) := by decide +kernel
theorem dJx4a65c_clear_da8c8_23 : decode cJx4a65c_clear_da8c8 23 = .ok (.putfield 48, 3) := by decide +kernel
theorem dJx4a65c_clear_da8c8_26 : decode cJx4a65c_clear_da8c8 26 = .ok (.istore_n 3, 1) := by decide +kernel
theorem dJx4a65c_clear_da8c8_27 : decode cJx4a65c_clear_da8c8 27 = .ok (.iload_n 3, 1) := by decide +kernel
theorem dJx4a65c_clear_da8c8_28 : decode cJx4a65c_clear_da8c8 28 = .ok (.iload_n 2, 1) := by decide +kernel
theorem dJx4a65c_clear_da8c8_29 : decode cJx4a65c_clear_da8c8 29 = .ok (.if_icmp .ge 13, 3) := by decide +kernel
theorem dJx4a65c_clear_da8c8_32 : decode cJx4a65c_clear_da8c8 32 = .ok (.aload_n 1, 1) := by decide +kernel
theorem dJx4a65c_clear_da8c8_33 : decode cJx4a65c_clear_da8c8 33 = .ok (.iload_n 3, 1) := by decide +kernel
theorem dJx4a65c_clear_da8c8_34 : decode cJx4a65c_clear_da8c8 34 = .ok (.aconst_null, 1) := by decide +kernel
theorem dJx4a65c_clear_da8c8_35 : decode cJx4a65c_clear_da8c8 35 = .ok (.aastore, 1) := by decide +kernel
theorem dJx4a65c_clear_da8c8_36 : decode cJx4a65c_clear_da8c8 36 = .ok (.iinc 3 1, 3) := by decide +kernel
theorem dJx4a65c_clear_da8c8_39 : decode cJx4a65c_clear_da8c8 39 = .ok (.goto (-12), 3) := by decide +kernel
theorem dJx4a65c_clear_da8c8_42 : decode cJx4a65c_clear_da8c8 42 = .ok (.return_, 1) := by decide +kernel
theorem dJ7_copyOf_1904c_0 : decode cJ7_copyOf_1904c 0 = .ok (.aload_n 0, 1) := by decide +kernel
theorem dJ7_copyOf_1904c_1 : decode cJ7_copyOf_1904c 1 = .ok (.iload_n 1, 1) := by decide +kernel
theorem dJ7_copyOf_1904c_2 : decode cJ7_copyOf_1904c 2 = .ok (.aload_n 0, 1) := by decide +kernel
theorem dJ7_copyOf_1904c_3 : decode cJ7_copyOf_1904c 3 = .ok (.invokevirtual 86, 3) := by decide +kernel
theorem dJ7_copyOf_1904c_6 : decode cJ7_copyOf_1904c 6 = .ok (.invokestatic 300, 3) := by decide +kernel
theorem dJ7_copyOf_1904c_9 : decode cJ7_copyOf_1904c 9 = .ok (.areturn, 1) := by decide +kernel
theorem dJ7_copyOf_6403c_0 : decode cJ7_copyOf_6403c 0 = .ok (.aload_n 2, 1) := by decide +kernel
theorem dJ7_copyOf_6403c_1 : decode cJ7_copyOf_6403c 1 = .ok (.ldc 110, 2) := by decide +kernel
theorem dJ7_copyOf_6403c_3 : decode cJ7_copyOf_6403c 3 = .ok (.if_acmp .ne 10, 3) := by decide +kernel
theorem dJ7_copyOf_6403c_6 : decode cJ7_copyOf_6403c 6 = .ok (.iload_n 1, 1) := by decide +kernel
theorem dJ7_copyOf_6403c_7 : decode cJ7_copyOf_6403c 7 = .ok (.anewarray 2, 3) := by decide +kernel
theorem dJ7_copyOf_6403c_10 : decode cJ7_copyOf_6403c 10 = .ok (.goto 14, 3) := by decide +kernel
theorem dJ7_copyOf_6403c_13 : decode cJ7_copyOf_6403c 13 = .ok (.aload_n 2, 1) := by decide +kernel
theorem dJ7_copyOf_6403c_14 : decode cJ7_copyOf_6403c 14 = .ok (.invokevirtual 90, 3) := by decide +kernel
theorem dJ7_copyOf_6403c_17 : decode cJ7_copyOf_6403c 17 = .ok (.iload_n 1, 1) := by decide +kernel
theorem dJ7_copyOf_6403c_18 : decode cJ7_copyOf_6403c 18 = .ok (.invokestatic 95, 3) := by decide +kernel
theorem dJ7_copyOf_6403c_21 : decode cJ7_copyOf_6403c 21 = .ok (.checkcast 110, 3) := by decide +kernel
theorem dJ7_copyOf_6403c_24 : decode cJ7_copyOf_6403c 24 = .ok (.astore_n 3, 1) := by decide +kernel
theorem dJ7_copyOf_6403c_25 : decode cJ7_copyOf_6403c 25 = .ok (.aload_n 0, 1) := by decide +kernel
theorem dJ7_copyOf_6403c_26 : decode cJ7_copyOf_6403c 26 = .ok (.iconst 0, 1) := by decide +kernel
theorem dJ7_copyOf_6403c_27 : decode cJ7_copyOf_6403c 27 = .ok (.aload_n 3, 1) := by decide +kernel
theorem dJ7_copyOf_6403c_28 : decode cJ7_copyOf_6403c 28 = .ok (.iconst 0, 1) := by decide +kernel
theorem dJ7_copyOf_6403c_29 : decode cJ7_copyOf_6403c 29 = .ok (.aload_n 0, 1) := by decide +kernel
theorem dJ7_copyOf_6403c_30 : decode cJ7_copyOf_6403c 30 = .ok (.arraylength, 1) := by decide +kernel
theorem dJ7_copyOf_6403c_31 : decode cJ7_copyOf_6403c 31 = .ok (.iload_n 1, 1) := by decide +kernel
theorem dJ7_copyOf_6403c_32 : decode cJ7_copyOf_6403c 32 = .ok (.invokestatic 304, 3) := by decide +kernel
theorem dJ7_copyOf_6403c_35 : decode cJ7_copyOf_6403c 35 = .ok (.invokestatic 150, 3) := by decide +kernel
theorem dJ7_copyOf_6403c_38 : decode cJ7_copyOf_6403c 38 = .ok (.aload_n 3, 1) := by decide +kernel
theorem dJ7_copyOf_6403c_39 : decode cJ7_copyOf_6403c 39 = .ok (.areturn, 1) := by decide +kernel
theorem dJ15_checkIndex_7cf53_0 : decode cJ15_checkIndex_7cf53 0 = .ok (.iload_n 0, 1) := by decide +kernel
theorem dJ15_checkIndex_7cf53_1 : decode cJ15_checkIndex_7cf53 1 = .ok (.iload_n 1, 1) := by decide +kernel
theorem dJ15_checkIndex_7cf53_2 : decode cJ15_checkIndex_7cf53 2 = .ok (.aconst_null, 1) := by decide +kernel
theorem dJ15_checkIndex_7cf53_3 : decode cJ15_checkIndex_7cf53 3 = .ok (.invokestatic 105, 3) := by decide +kernel
theorem dJ15_checkIndex_7cf53_6 : decode cJ15_checkIndex_7cf53 6 = .ok (.ireturn, 1) := by decide +kernel
theorem dJ8_newLength_cabcc_0 : decode cJ8_newLength_cabcc 0 = .ok (.iload_n 0, 1) := by decide +kernel
theorem dJ8_newLength_cabcc_1 : decode cJ8_newLength_cabcc 1 = .ok (.iload_n 1, 1) := by decide +kernel
theorem dJ8_newLength_cabcc_2 : decode cJ8_newLength_cabcc 2 = .ok (.iload_n 2, 1) := by decide +kernel
theorem dJ8_newLength_cabcc_3 : decode cJ8_newLength_cabcc 3 = .ok (.invokestatic 194, 3) := by decide +kernel
theorem dJ8_newLength_cabcc_6 : decode cJ8_newLength_cabcc 6 = .ok (.iadd, 1) := by decide +kernel
theorem dJ8_newLength_cabcc_7 : decode cJ8_newLength_cabcc 7 = .ok (.istore_n 3, 1) := by decide +kernel
theorem dJ8_newLength_cabcc_8 : decode cJ8_newLength_cabcc 8 = .ok (.iconst 0, 1) := by decide +kernel
theorem dJ8_newLength_cabcc_9 : decode cJ8_newLength_cabcc 9 = .ok (.iload_n 3, 1) := by decide +kernel
theorem dJ8_newLength_cabcc_10 : decode cJ8_newLength_cabcc 10 = .ok (.if_icmp .ge 11, 3) := by decide +kernel
theorem dJ8_newLength_cabcc_13 : decode cJ8_newLength_cabcc 13 = .ok (.iload_n 3, 1) := by decide +kernel
theorem dJ8_newLength_cabcc_14 : decode cJ8_newLength_cabcc 14 = .ok (.ldc 200, 2) := by decide +kernel
theorem dJ8_newLength_cabcc_16 : decode cJ8_newLength_cabcc 16 = .ok (.if_icmp .gt 5, 3) := by decide +kernel
theorem dJ8_newLength_cabcc_19 : decode cJ8_newLength_cabcc 19 = .ok (.iload_n 3, 1) := by decide +kernel
theorem dJ8_newLength_cabcc_20 : decode cJ8_newLength_cabcc 20 = .ok (.ireturn, 1) := by decide +kernel
theorem dJ8_newLength_cabcc_21 : decode cJ8_newLength_cabcc 21 = .ok (.iload_n 0, 1) := by decide +kernel
theorem dJ8_newLength_cabcc_22 : decode cJ8_newLength_cabcc 22 = .ok (.iload_n 1, 1) := by decide +kernel
theorem dJ8_newLength_cabcc_23 : decode cJ8_newLength_cabcc 23 = .ok (.invokestatic 201, 3) := by decide +kernel
theorem dJ8_newLength_cabcc_26 : decode cJ8_newLength_cabcc 26 = .ok (.ireturn, 1) := by decide +kernel
theorem dJ8_hugeLength_7cf53_0 : decode cJ8_hugeLength_7cf53 0 = .ok (.iload_n 0, 1) := by decide +kernel
theorem dJ8_hugeLength_7cf53_1 : decode cJ8_hugeLength_7cf53 1 = .ok (.iload_n 1, 1) := by decide +kernel
theorem dJ8_hugeLength_7cf53_2 : decode cJ8_hugeLength_7cf53 2 = .ok (.iadd, 1) := by decide +kernel
theorem dJ8_hugeLength_7cf53_3 : decode cJ8_hugeLength_7cf53 3 = .ok (.istore_n 2, 1) := by decide +kernel
theorem dJ8_hugeLength_7cf53_4 : decode cJ8_hugeLength_7cf53 4 = .ok (.iload_n 2, 1) := by decide +kernel
theorem dJ8_hugeLength_7cf53_5 : decode cJ8_hugeLength_7cf53 5 = .ok (.ifCond .ge 44, 3) := by decide +kernel
theorem dJ8_hugeLength_7cf53_8 : decode cJ8_hugeLength_7cf53 8 = .ok (.new 204, 3) := by decide +kernel
theorem dJ8_hugeLength_7cf53_11 : decode cJ8_hugeLength_7cf53 11 = .ok (.dup, 1) := by decide +kernel
theorem dJ8_hugeLength_7cf53_12 : decode cJ8_hugeLength_7cf53 12 = .ok (.new 89, 3) := by decide +kernel
theorem dJ8_hugeLength_7cf53_15 : decode cJ8_hugeLength_7cf53 15 = .ok (.dup, 1) := by decide +kernel
theorem dJ8_hugeLength_7cf53_16 : decode cJ8_hugeLength_7cf53 16 = .ok (.invokespecial 91, 3) := by decide +kernel
theorem dJ8_hugeLength_7cf53_19 : decode cJ8_hugeLength_7cf53 19 = .ok (.ldc 206, 2) := by decide +kernel
theorem dJ8_hugeLength_7cf53_21 : decode cJ8_hugeLength_7cf53 21 = .ok (.invokevirtual 94, 3) := by decide +kernel
theorem dJ8_hugeLength_7cf53_24 : decode cJ8_hugeLength_7cf53 24 = .ok (.iload_n 0, 1) := by decide +kernel
theorem dJ8_hugeLength_7cf53_25 : decode cJ8_hugeLength_7cf53 25 = .ok (.invokevirtual 98, 3) := by decide +kernel
theorem dJ8_hugeLength_7cf53_28 : decode cJ8_hugeLength_7cf53 28 = .ok (.ldc 208, 2) := by decide +kernel
theorem dJ8_hugeLength_7cf53_30 : decode cJ8_hugeLength_7cf53 30 = .ok (.invokevirtual 94, 3) := by decide +kernel
theorem dJ8_hugeLength_7cf53_33 : decode cJ8_hugeLength_7cf53 33 = .ok (.iload_n 1, 1) := by decide +kernel
theorem dJ8_hugeLength_7cf53_34 : decode cJ8_hugeLength_7cf53 34 = .ok (.invokevirtual 98, 3) := by decide +kernel
theorem dJ8_hugeLength_7cf53_37 : decode cJ8_hugeLength_7cf53 37 = .ok (.ldc 210, 2) := by decide +kernel
theorem dJ8_hugeLength_7cf53_39 : decode cJ8_hugeLength_7cf53 39 = .ok (.invokevirtual 94, 3) := by decide +kernel
theorem dJ8_hugeLength_7cf53_42 : decode cJ8_hugeLength_7cf53 42 = .ok (.invokevirtual 101, 3) := by decide +kernel
theorem dJ8_hugeLength_7cf53_45 : decode cJ8_hugeLength_7cf53 45 = .ok (.invokespecial 212, 3) := by decide +kernel
theorem dJ8_hugeLength_7cf53_48 : decode cJ8_hugeLength_7cf53 48 = .ok (.athrow, 1) := by decide +kernel
theorem dJ8_hugeLength_7cf53_49 : decode cJ8_hugeLength_7cf53 49 = .ok (.iload_n 2, 1) := by decide +kernel
theorem dJ8_hugeLength_7cf53_50 : decode cJ8_hugeLength_7cf53 50 = .ok (.ldc 200, 2) := by decide +kernel
theorem dJ8_hugeLength_7cf53_52 : decode cJ8_hugeLength_7cf53 52 = .ok (.if_icmp .gt 6, 3) := by decide +kernel
theorem dJ8_hugeLength_7cf53_55 : decode cJ8_hugeLength_7cf53 55 = .ok (.ldc 200, 2) := by decide +kernel
theorem dJ8_hugeLength_7cf53_57 : decode cJ8_hugeLength_7cf53 57 = .ok (.ireturn, 1) := by decide +kernel
theorem dJ8_hugeLength_7cf53_58 : decode cJ8_hugeLength_7cf53 58 = .ok (.iload_n 2, 1) := by decide +kernel
theorem dJ8_hugeLength_7cf53_59 : decode cJ8_hugeLength_7cf53 59 = .ok (.ireturn, 1) := by decide +kernel
theorem dJ3_checkIndex_8e157_0 : decode cJ3_checkIndex_8e157 0 = .ok (.iload_n 0, 1) := by decide +kernel
theorem dJ3_checkIndex_8e157_1 : decode cJ3_checkIndex_8e157 1 = .ok (.ifCond .lt 8, 3) := by decide +kernel
theorem dJ3_checkIndex_8e157_4 : decode cJ3_checkIndex_8e157 4 = .ok (.iload_n 0, 1) := by decide +kernel
theorem dJ3_checkIndex_8e157_5 : decode cJ3_checkIndex_8e157 5 = .ok (.iload_n 1, 1) := by decide +kernel
theorem dJ3_checkIndex_8e157_6 : decode cJ3_checkIndex_8e157 6 = .ok (.if_icmp .lt 10, 3) := by decide +kernel
theorem dJ3_checkIndex_8e157_9 : decode cJ3_checkIndex_8e157 9 = .ok (.aload_n 2, 1) := by decide +kernel
theorem dJ3_checkIndex_8e157_10 : decode cJ3_checkIndex_8e157 10 = .ok (.iload_n 0, 1) := by decide +kernel
theorem dJ3_checkIndex_8e157_11 : decode cJ3_checkIndex_8e157 11 = .ok (.iload_n 1, 1) := by decide +kernel
theorem dJ3_checkIndex_8e157_12 : decode cJ3_checkIndex_8e157 12 = .ok (.invokestatic 95, 3) := by decide +kernel
theorem dJ3_checkIndex_8e157_15 : decode cJ3_checkIndex_8e157 15 = .ok (.athrow, 1) := by decide +kernel
theorem dJ3_checkIndex_8e157_16 : decode cJ3_checkIndex_8e157 16 = .ok (.iload_n 0, 1) := by decide +kernel
theorem dJ3_checkIndex_8e157_17 : decode cJ3_checkIndex_8e157 17 = .ok (.ireturn, 1) := by decide +kernel
