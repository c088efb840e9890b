theorem dX0_init_0 : decode cX0_init 0 = .ok (.aload_n 0, 1) := by decide +kernel
theorem dX0_init_1 : decode cX0_init 1 = .ok (.invokespecial 3, 3) := by decide +kernel
theorem dX0_init_4 : decode cX0_init 4 = .ok (.aload_n 0, 1) := by decide +kernel
theorem dX0_init_5 : decode cX0_init 5 = .ok (.sipush 256, 3) := by decide +kernel
theorem dX0_init_8 : decode cX0_init 8 = .ok (.newarray .int, 2) := by decide +kernel
theorem dX0_init_10 : decode cX0_init 10 = .ok (.putfield 9, 3) := by decide +kernel
theorem dX0_init_13 : decode cX0_init 13 = .ok (.aload_n 0, 1) := by decide +kernel
theorem dX0_init_14 : decode cX0_init 14 = .ok (.sipush 256, 3) := by decide +kernel
theorem dX0_init_17 : decode cX0_init 17 = .ok (.newarray .int, 2) := by decide +kernel
theorem dX0_init_19 : decode cX0_init 19 = .ok (.putfield 15, 3) := by decide +kernel
theorem dX0_init_22 : decode cX0_init 22 = .ok (.aload_n 0, 1) := by decide +kernel
theorem dX0_init_23 : decode cX0_init 23 = .ok (.bipush 12, 2) := by decide +kernel
theorem dX0_init_25 : decode cX0_init 25 = .ok (.newarray .int, 2) := by decide +kernel
theorem dX0_init_27 : decode cX0_init 27 = .ok (.putfield 18, 3) := by decide +kernel
theorem dX0_init_30 : decode cX0_init 30 = .ok (.aload_n 0, 1) := by decide +kernel
theorem dX0_init_31 : decode cX0_init 31 = .ok (.bipush 12, 2) := by decide +kernel
theorem dX0_init_33 : decode cX0_init 33 = .ok (.newarray .int, 2) := by decide +kernel
theorem dX0_init_35 : decode cX0_init 35 = .ok (.putfield 21, 3) := by decide +kernel
theorem dX0_init_38 : decode cX0_init 38 = .ok (.aload_n 0, 1) := by decide +kernel
theorem dX0_init_39 : decode cX0_init 39 = .ok (.iconst 0, 1) := by decide +kernel
theorem dX0_init_40 : decode cX0_init 40 = .ok (.putfield 24, 3) := by decide +kernel
theorem dX0_init_43 : decode cX0_init 43 = .ok (.return_, 1) := by decide +kernel
theorem dX0_fillAnswers_0 : decode cX0_fillAnswers 0 = .ok (.aload_n 0, 1) := by decide +kernel
theorem dX0_fillAnswers_1 : decode cX0_fillAnswers 1 = .ok (.aload_n 1, 1) := by decide +kernel
theorem dX0_fillAnswers_2 : decode cX0_fillAnswers 2 = .ok (.invokevirtual 28, 3) := by decide +kernel
theorem dX0_fillAnswers_5 : decode cX0_fillAnswers 5 = .ok (.iconst 0, 1) := by decide +kernel
theorem dX0_fillAnswers_6 : decode cX0_fillAnswers 6 = .ok (.istore_n 2, 1) := by decide +kernel
theorem dX0_fillAnswers_7 : decode cX0_fillAnswers 7 = .ok (.iload_n 2, 1) := by decide +kernel
theorem dX0_fillAnswers_8 : decode cX0_fillAnswers 8 = .ok (.aload_n 1, 1) := by decide +kernel
theorem dX0_fillAnswers_9 : decode cX0_fillAnswers 9 = .ok (.getfield 32, 3) := by decide +kernel
theorem dX0_fillAnswers_12 : decode cX0_fillAnswers 12 = .ok (.if_icmp .ge 46, 3) := by decide +kernel
theorem dX0_fillAnswers_15 : decode cX0_fillAnswers 15 = .ok (.aload_n 0, 1) := by decide +kernel
theorem dX0_fillAnswers_16 : decode cX0_fillAnswers 16 = .ok (.aload_n 1, 1) := by decide +kernel
theorem dX0_fillAnswers_17 : decode cX0_fillAnswers 17 = .ok (.iload_n 2, 1) := by decide +kernel
theorem dX0_fillAnswers_18 : decode cX0_fillAnswers 18 = .ok (.invokevirtual 37, 3) := by decide +kernel
theorem dX0_fillAnswers_21 : decode cX0_fillAnswers 21 = .ok (.iconst 0, 1) := by decide +kernel
theorem dX0_fillAnswers_22 : decode cX0_fillAnswers 22 = .ok (.istore_n 3, 1) := by decide +kernel
theorem dX0_fillAnswers_23 : decode cX0_fillAnswers 23 = .ok (.iload_n 3, 1) := by decide +kernel
theorem dX0_fillAnswers_24 : decode cX0_fillAnswers 24 = .ok (.aload_n 1, 1) := by decide +kernel
theorem dX0_fillAnswers_25 : decode cX0_fillAnswers 25 = .ok (.getfield 41, 3) := by decide +kernel
theorem dX0_fillAnswers_28 : decode cX0_fillAnswers 28 = .ok (.if_icmp .ge 24, 3) := by decide +kernel
theorem dX0_fillAnswers_31 : decode cX0_fillAnswers 31 = .ok (.aload_n 1, 1) := by decide +kernel
theorem dX0_fillAnswers_32 : decode cX0_fillAnswers 32 = .ok (.iload_n 3, 1) := by decide +kernel
theorem dX0_fillAnswers_33 : decode cX0_fillAnswers 33 = .ok (.invokevirtual 44, 3) := by decide +kernel
theorem dX0_fillAnswers_36 : decode cX0_fillAnswers 36 = .ok (.ifCond .eq 10, 3) := by decide +kernel
theorem dX0_fillAnswers_39 : decode cX0_fillAnswers 39 = .ok (.aload_n 0, 1) := by decide +kernel
theorem dX0_fillAnswers_40 : decode cX0_fillAnswers 40 = .ok (.aload_n 1, 1) := by decide +kernel
theorem dX0_fillAnswers_41 : decode cX0_fillAnswers 41 = .ok (.iload_n 2, 1) := by decide +kernel
theorem dX0_fillAnswers_42 : decode cX0_fillAnswers 42 = .ok (.iload_n 3, 1) := by decide +kernel
theorem dX0_fillAnswers_43 : decode cX0_fillAnswers 43 = .ok (.invokevirtual 48, 3) := by decide +kernel
theorem dX0_fillAnswers_46 : decode cX0_fillAnswers 46 = .ok (.iinc 3 1, 3) := by decide +kernel
theorem dX0_fillAnswers_49 : decode cX0_fillAnswers 49 = .ok (.goto (-26), 3) := by decide +kernel
theorem dX0_fillAnswers_52 : decode cX0_fillAnswers 52 = .ok (.iinc 2 1, 3) := by decide +kernel
theorem dX0_fillAnswers_55 : decode cX0_fillAnswers 55 = .ok (.goto (-48), 3) := by decide +kernel
theorem dX0_fillAnswers_58 : decode cX0_fillAnswers 58 = .ok (.return_, 1) := by decide +kernel
theorem dX0_relateSayings_0 : decode cX0_relateSayings 0 = .ok (.aload_n 0, 1) := by decide +kernel
theorem dX0_relateSayings_1 : decode cX0_relateSayings 1 = .ok (.iconst 0, 1) := by decide +kernel
theorem dX0_relateSayings_2 : decode cX0_relateSayings 2 = .ok (.putfield 24, 3) := by decide +kernel
theorem dX0_relateSayings_5 : decode cX0_relateSayings 5 = .ok (.aload_n 0, 1) := by decide +kernel
theorem dX0_relateSayings_6 : decode cX0_relateSayings 6 = .ok (.getfield 18, 3) := by decide +kernel
theorem dX0_relateSayings_9 : decode cX0_relateSayings 9 = .ok (.iconst 0, 1) := by decide +kernel
theorem dX0_relateSayings_10 : decode cX0_relateSayings 10 = .ok (.invokestatic 52, 3) := by decide +kernel
theorem dX0_relateSayings_13 : decode cX0_relateSayings 13 = .ok (.aload_n 0, 1) := by decide +kernel
theorem dX0_relateSayings_14 : decode cX0_relateSayings 14 = .ok (.getfield 21, 3) := by decide +kernel
theorem dX0_relateSayings_17 : decode cX0_relateSayings 17 = .ok (.iconst 0, 1) := by decide +kernel
theorem dX0_relateSayings_18 : decode cX0_relateSayings 18 = .ok (.invokestatic 52, 3) := by decide +kernel
theorem dX0_relateSayings_21 : decode cX0_relateSayings 21 = .ok (.iconst 0, 1) := by decide +kernel
theorem dX0_relateSayings_22 : decode cX0_relateSayings 22 = .ok (.istore_n 2, 1) := by decide +kernel
theorem dX0_relateSayings_23 : decode cX0_relateSayings 23 = .ok (.iload_n 2, 1) := by decide +kernel
theorem dX0_relateSayings_24 : decode cX0_relateSayings 24 = .ok (.aload_n 1, 1) := by decide +kernel
theorem dX0_relateSayings_25 : decode cX0_relateSayings 25 = .ok (.getfield 41, 3) := by decide +kernel
theorem dX0_relateSayings_28 : decode cX0_relateSayings 28 = .ok (.if_icmp .ge 104, 3) := by decide +kernel
theorem dX0_relateSayings_31 : decode cX0_relateSayings 31 = .ok (.aload_n 1, 1) := by decide +kernel
theorem dX0_relateSayings_32 : decode cX0_relateSayings 32 = .ok (.iload_n 2, 1) := by decide +kernel
theorem dX0_relateSayings_33 : decode cX0_relateSayings 33 = .ok (.invokevirtual 44, 3) := by decide +kernel
theorem dX0_relateSayings_36 : decode cX0_relateSayings 36 = .ok (.ifCond .ne 6, 3) := by decide +kernel
theorem dX0_relateSayings_39 : decode cX0_relateSayings 39 = .ok (.goto 87, 3) := by decide +kernel
theorem dX0_relateSayings_42 : decode cX0_relateSayings 42 = .ok (.aload_n 1, 1) := by decide +kernel
theorem dX0_relateSayings_43 : decode cX0_relateSayings 43 = .ok (.getfield 58, 3) := by decide +kernel
theorem dX0_relateSayings_46 : decode cX0_relateSayings 46 = .ok (.iload_n 2, 1) := by decide +kernel
theorem dX0_relateSayings_47 : decode cX0_relateSayings 47 = .ok (.iaload, 1) := by decide +kernel
theorem dX0_relateSayings_48 : decode cX0_relateSayings 48 = .ok (.aload_n 1, 1) := by decide +kernel
theorem dX0_relateSayings_49 : decode cX0_relateSayings 49 = .ok (.getfield 58, 3) := by decide +kernel
theorem dX0_relateSayings_52 : decode cX0_relateSayings 52 = .ok (.iload_n 2, 1) := by decide +kernel
theorem dX0_relateSayings_53 : decode cX0_relateSayings 53 = .ok (.iaload, 1) := by decide +kernel
theorem dX0_relateSayings_54 : decode cX0_relateSayings 54 = .ok (.iconst (-1), 1) := by decide +kernel
theorem dX0_relateSayings_55 : decode cX0_relateSayings 55 = .ok (.ixor, 1) := by decide +kernel
theorem dX0_relateSayings_56 : decode cX0_relateSayings 56 = .ok (.invokestatic 61, 3) := by decide +kernel
theorem dX0_relateSayings_59 : decode cX0_relateSayings 59 = .ok (.istore_n 3, 1) := by decide +kernel
theorem dX0_relateSayings_60 : decode cX0_relateSayings 60 = .ok (.aload_n 0, 1) := by decide +kernel
theorem dX0_relateSayings_61 : decode cX0_relateSayings 61 = .ok (.dup, 1) := by decide +kernel
theorem dX0_relateSayings_62 : decode cX0_relateSayings 62 = .ok (.getfield 24, 3) := by decide +kernel
theorem dX0_relateSayings_65 : decode cX0_relateSayings 65 = .ok (.iload_n 3, 1) := by decide +kernel
theorem dX0_relateSayings_66 : decode cX0_relateSayings 66 = .ok (.iconst (-1), 1) := by decide +kernel
theorem dX0_relateSayings_67 : decode cX0_relateSayings 67 = .ok (.ixor, 1) := by decide +kernel
theorem dX0_relateSayings_68 : decode cX0_relateSayings 68 = .ok (.ior, 1) := by decide +kernel
theorem dX0_relateSayings_69 : decode cX0_relateSayings 69 = .ok (.putfield 24, 3) := by decide +kernel
theorem dX0_relateSayings_72 : decode cX0_relateSayings 72 = .ok (.iconst 0, 1) := by decide +kernel
theorem dX0_relateSayings_73 : decode cX0_relateSayings 73 = .ok (.istore 4, 2) := by decide +kernel
theorem dX0_relateSayings_75 : decode cX0_relateSayings 75 = .ok (.iload 4, 2) := by decide +kernel
theorem dX0_relateSayings_77 : decode cX0_relateSayings 77 = .ok (.aload_n 1, 1) := by decide +kernel
theorem dX0_relateSayings_78 : decode cX0_relateSayings 78 = .ok (.getfield 65, 3) := by decide +kernel
theorem dX0_relateSayings_81 : decode cX0_relateSayings 81 = .ok (.if_icmp .ge 45, 3) := by decide +kernel
theorem dX0_relateSayings_84 : decode cX0_relateSayings 84 = .ok (.aload_n 1, 1) := by decide +kernel
theorem dX0_relateSayings_85 : decode cX0_relateSayings 85 = .ok (.iload 4, 2) := by decide +kernel
theorem dX0_relateSayings_87 : decode cX0_relateSayings 87 = .ok (.iload_n 2, 1) := by decide +kernel
theorem dX0_relateSayings_88 : decode cX0_relateSayings 88 = .ok (.invokevirtual 68, 3) := by decide +kernel
theorem dX0_relateSayings_91 : decode cX0_relateSayings 91 = .ok (.iconst 1, 1) := by decide +kernel
theorem dX0_relateSayings_92 : decode cX0_relateSayings 92 = .ok (.if_icmp .ne 17, 3) := by decide +kernel
theorem dX0_relateSayings_95 : decode cX0_relateSayings 95 = .ok (.aload_n 0, 1) := by decide +kernel
theorem dX0_relateSayings_96 : decode cX0_relateSayings 96 = .ok (.getfield 18, 3) := by decide +kernel
theorem dX0_relateSayings_99 : decode cX0_relateSayings 99 = .ok (.iload 4, 2) := by decide +kernel
theorem dX0_relateSayings_101 : decode cX0_relateSayings 101 = .ok (.dup2, 1) := by decide +kernel
theorem dX0_relateSayings_102 : decode cX0_relateSayings 102 = .ok (.iaload, 1) := by decide +kernel
theorem dX0_relateSayings_103 : decode cX0_relateSayings 103 = .ok (.iload_n 3, 1) := by decide +kernel
theorem dX0_relateSayings_104 : decode cX0_relateSayings 104 = .ok (.ior, 1) := by decide +kernel
theorem dX0_relateSayings_105 : decode cX0_relateSayings 105 = .ok (.iastore, 1) := by decide +kernel
theorem dX0_relateSayings_106 : decode cX0_relateSayings 106 = .ok (.goto 14, 3) := by decide +kernel
theorem dX0_relateSayings_109 : decode cX0_relateSayings 109 = .ok (.aload_n 0, 1) := by decide +kernel
theorem dX0_relateSayings_110 : decode cX0_relateSayings 110 = .ok (.getfield 21, 3) := by decide +kernel
theorem dX0_relateSayings_113 : decode cX0_relateSayings 113 = .ok (.iload 4, 2) := by decide +kernel
theorem dX0_relateSayings_115 : decode cX0_relateSayings 115 = .ok (.dup2, 1) := by decide +kernel
theorem dX0_relateSayings_116 : decode cX0_relateSayings 116 = .ok (.iaload, 1) := by decide +kernel
theorem dX0_relateSayings_117 : decode cX0_relateSayings 117 = .ok (.iload_n 3, 1) := by decide +kernel
theorem dX0_relateSayings_118 : decode cX0_relateSayings 118 = .ok (.ior, 1) := by decide +kernel
theorem dX0_relateSayings_119 : decode cX0_relateSayings 119 = .ok (.iastore, 1) := by decide +kernel
theorem dX0_relateSayings_120 : decode cX0_relateSayings 120 = .ok (.iinc 4 1, 3) := by decide +kernel
theorem dX0_relateSayings_123 : decode cX0_relateSayings 123 = .ok (.goto (-48), 3) := by decide +kernel
theorem dX0_relateSayings_126 : decode cX0_relateSayings 126 = .ok (.iinc 2 1, 3) := by decide +kernel
theorem dX0_relateSayings_129 : decode cX0_relateSayings 129 = .ok (.goto (-106), 3) := by decide +kernel
theorem dX0_relateSayings_132 : decode cX0_relateSayings 132 = .ok (.return_, 1) := by decide +kernel
theorem dX0_gatherKnown_0 : decode cX0_gatherKnown 0 = .ok (.aload_n 0, 1) := by decide +kernel
theorem dX0_gatherKnown_1 : decode cX0_gatherKnown 1 = .ok (.getfield 9, 3) := by decide +kernel
theorem dX0_gatherKnown_4 : decode cX0_gatherKnown 4 = .ok (.iconst (-1), 1) := by decide +kernel
theorem dX0_gatherKnown_5 : decode cX0_gatherKnown 5 = .ok (.invokestatic 52, 3) := by decide +kernel
theorem dX0_gatherKnown_8 : decode cX0_gatherKnown 8 = .ok (.aload_n 0, 1) := by decide +kernel
theorem dX0_gatherKnown_9 : decode cX0_gatherKnown 9 = .ok (.getfield 15, 3) := by decide +kernel
theorem dX0_gatherKnown_12 : decode cX0_gatherKnown 12 = .ok (.iconst 0, 1) := by decide +kernel
theorem dX0_gatherKnown_13 : decode cX0_gatherKnown 13 = .ok (.invokestatic 52, 3) := by decide +kernel
theorem dX0_gatherKnown_16 : decode cX0_gatherKnown 16 = .ok (.iconst 0, 1) := by decide +kernel
theorem dX0_gatherKnown_17 : decode cX0_gatherKnown 17 = .ok (.istore_n 3, 1) := by decide +kernel
theorem dX0_gatherKnown_18 : decode cX0_gatherKnown 18 = .ok (.iload_n 3, 1) := by decide +kernel
theorem dX0_gatherKnown_19 : decode cX0_gatherKnown 19 = .ok (.aload_n 1, 1) := by decide +kernel
theorem dX0_gatherKnown_20 : decode cX0_gatherKnown 20 = .ok (.getfield 41, 3) := by decide +kernel
theorem dX0_gatherKnown_23 : decode cX0_gatherKnown 23 = .ok (.if_icmp .ge 57, 3) := by decide +kernel
theorem dX0_gatherKnown_26 : decode cX0_gatherKnown 26 = .ok (.aload_n 1, 1) := by decide +kernel
theorem dX0_gatherKnown_27 : decode cX0_gatherKnown 27 = .ok (.iload_n 3, 1) := by decide +kernel
theorem dX0_gatherKnown_28 : decode cX0_gatherKnown 28 = .ok (.invokevirtual 44, 3) := by decide +kernel
theorem dX0_gatherKnown_31 : decode cX0_gatherKnown 31 = .ok (.ifCond .eq 43, 3) := by decide +kernel
theorem dX0_gatherKnown_34 : decode cX0_gatherKnown 34 = .ok (.aload_n 1, 1) := by decide +kernel
theorem dX0_gatherKnown_35 : decode cX0_gatherKnown 35 = .ok (.iload_n 2, 1) := by decide +kernel
theorem dX0_gatherKnown_36 : decode cX0_gatherKnown 36 = .ok (.iload_n 3, 1) := by decide +kernel
theorem dX0_gatherKnown_37 : decode cX0_gatherKnown 37 = .ok (.invokestatic 71, 3) := by decide +kernel
theorem dX0_gatherKnown_40 : decode cX0_gatherKnown 40 = .ok (.istore 4, 2) := by decide +kernel
theorem dX0_gatherKnown_42 : decode cX0_gatherKnown 42 = .ok (.aload_n 0, 1) := by decide +kernel
theorem dX0_gatherKnown_43 : decode cX0_gatherKnown 43 = .ok (.getfield 9, 3) := by decide +kernel
theorem dX0_gatherKnown_46 : decode cX0_gatherKnown 46 = .ok (.iload 4, 2) := by decide +kernel
theorem dX0_gatherKnown_48 : decode cX0_gatherKnown 48 = .ok (.dup2, 1) := by decide +kernel
theorem dX0_gatherKnown_49 : decode cX0_gatherKnown 49 = .ok (.iaload, 1) := by decide +kernel
theorem dX0_gatherKnown_50 : decode cX0_gatherKnown 50 = .ok (.aload_n 1, 1) := by decide +kernel
theorem dX0_gatherKnown_51 : decode cX0_gatherKnown 51 = .ok (.getfield 58, 3) := by decide +kernel
theorem dX0_gatherKnown_54 : decode cX0_gatherKnown 54 = .ok (.iload_n 3, 1) := by decide +kernel
theorem dX0_gatherKnown_55 : decode cX0_gatherKnown 55 = .ok (.iaload, 1) := by decide +kernel
theorem dX0_gatherKnown_56 : decode cX0_gatherKnown 56 = .ok (.iand, 1) := by decide +kernel
theorem dX0_gatherKnown_57 : decode cX0_gatherKnown 57 = .ok (.iastore, 1) := by decide +kernel
theorem dX0_gatherKnown_58 : decode cX0_gatherKnown 58 = .ok (.aload_n 0, 1) := by decide +kernel
theorem dX0_gatherKnown_59 : decode cX0_gatherKnown 59 = .ok (.getfield 15, 3) := by decide +kernel
theorem dX0_gatherKnown_62 : decode cX0_gatherKnown 62 = .ok (.iload 4, 2) := by decide +kernel
theorem dX0_gatherKnown_64 : decode cX0_gatherKnown 64 = .ok (.dup2, 1) := by decide +kernel
theorem dX0_gatherKnown_65 : decode cX0_gatherKnown 65 = .ok (.iaload, 1) := by decide +kernel
theorem dX0_gatherKnown_66 : decode cX0_gatherKnown 66 = .ok (.aload_n 1, 1) := by decide +kernel
theorem dX0_gatherKnown_67 : decode cX0_gatherKnown 67 = .ok (.getfield 58, 3) := by decide +kernel
theorem dX0_gatherKnown_70 : decode cX0_gatherKnown 70 = .ok (.iload_n 3, 1) := by decide +kernel
theorem dX0_gatherKnown_71 : decode cX0_gatherKnown 71 = .ok (.iaload, 1) := by decide +kernel
theorem dX0_gatherKnown_72 : decode cX0_gatherKnown 72 = .ok (.ior, 1) := by decide +kernel
theorem dX0_gatherKnown_73 : decode cX0_gatherKnown 73 = .ok (.iastore, 1) := by decide +kernel
theorem dX0_gatherKnown_74 : decode cX0_gatherKnown 74 = .ok (.iinc 3 1, 3) := by decide +kernel
theorem dX0_gatherKnown_77 : decode cX0_gatherKnown 77 = .ok (.goto (-59), 3) := by decide +kernel
theorem dX0_gatherKnown_80 : decode cX0_gatherKnown 80 = .ok (.return_, 1) := by decide +kernel
theorem dX0_knownIn_0 : decode cX0_knownIn 0 = .ok (.iconst 0, 1) := by decide +kernel
theorem dX0_knownIn_1 : decode cX0_knownIn 1 = .ok (.istore_n 3, 1) := by decide +kernel
theorem dX0_knownIn_2 : decode cX0_knownIn 2 = .ok (.iconst 0, 1) := by decide +kernel
theorem dX0_knownIn_3 : decode cX0_knownIn 3 = .ok (.istore 4, 2) := by decide +kernel
theorem dX0_knownIn_5 : decode cX0_knownIn 5 = .ok (.iload 4, 2) := by decide +kernel
theorem dX0_knownIn_7 : decode cX0_knownIn 7 = .ok (.aload_n 0, 1) := by decide +kernel
theorem dX0_knownIn_8 : decode cX0_knownIn 8 = .ok (.getfield 75, 3) := by decide +kernel
theorem dX0_knownIn_11 : decode cX0_knownIn 11 = .ok (.if_icmp .ge 49, 3) := by decide +kernel
theorem dX0_knownIn_14 : decode cX0_knownIn 14 = .ok (.aload_n 0, 1) := by decide +kernel
theorem dX0_knownIn_15 : decode cX0_knownIn 15 = .ok (.getfield 78, 3) := by decide +kernel
theorem dX0_knownIn_18 : decode cX0_knownIn 18 = .ok (.iload_n 1, 1) := by decide +kernel
theorem dX0_knownIn_19 : decode cX0_knownIn 19 = .ok (.iaload, 1) := by decide +kernel
theorem dX0_knownIn_20 : decode cX0_knownIn 20 = .ok (.iload 4, 2) := by decide +kernel
theorem dX0_knownIn_22 : decode cX0_knownIn 22 = .ok (.ishr, 1) := by decide +kernel
theorem dX0_knownIn_23 : decode cX0_knownIn 23 = .ok (.iconst 1, 1) := by decide +kernel
theorem dX0_knownIn_24 : decode cX0_knownIn 24 = .ok (.iand, 1) := by decide +kernel
theorem dX0_knownIn_25 : decode cX0_knownIn 25 = .ok (.ifCond .eq 29, 3) := by decide +kernel
theorem dX0_knownIn_28 : decode cX0_knownIn 28 = .ok (.iload_n 3, 1) := by decide +kernel
theorem dX0_knownIn_29 : decode cX0_knownIn 29 = .ok (.aload_n 0, 1) := by decide +kernel
theorem dX0_knownIn_30 : decode cX0_knownIn 30 = .ok (.iload_n 2, 1) := by decide +kernel
theorem dX0_knownIn_31 : decode cX0_knownIn 31 = .ok (.iload 4, 2) := by decide +kernel
theorem dX0_knownIn_33 : decode cX0_knownIn 33 = .ok (.invokevirtual 81, 3) := by decide +kernel
theorem dX0_knownIn_36 : decode cX0_knownIn 36 = .ok (.aload_n 0, 1) := by decide +kernel
theorem dX0_knownIn_37 : decode cX0_knownIn 37 = .ok (.getfield 84, 3) := by decide +kernel
theorem dX0_knownIn_40 : decode cX0_knownIn 40 = .ok (.iload 4, 2) := by decide +kernel
theorem dX0_knownIn_42 : decode cX0_knownIn 42 = .ok (.iaload, 1) := by decide +kernel
theorem dX0_knownIn_43 : decode cX0_knownIn 43 = .ok (.isub, 1) := by decide +kernel
theorem dX0_knownIn_44 : decode cX0_knownIn 44 = .ok (.aload_n 0, 1) := by decide +kernel
theorem dX0_knownIn_45 : decode cX0_knownIn 45 = .ok (.getfield 87, 3) := by decide +kernel
theorem dX0_knownIn_48 : decode cX0_knownIn 48 = .ok (.iload 4, 2) := by decide +kernel
theorem dX0_knownIn_50 : decode cX0_knownIn 50 = .ok (.iaload, 1) := by decide +kernel
theorem dX0_knownIn_51 : decode cX0_knownIn 51 = .ok (.imul, 1) := by decide +kernel
theorem dX0_knownIn_52 : decode cX0_knownIn 52 = .ok (.iadd, 1) := by decide +kernel
theorem dX0_knownIn_53 : decode cX0_knownIn 53 = .ok (.istore_n 3, 1) := by decide +kernel
theorem dX0_knownIn_54 : decode cX0_knownIn 54 = .ok (.iinc 4 1, 3) := by decide +kernel
theorem dX0_knownIn_57 : decode cX0_knownIn 57 = .ok (.goto (-52), 3) := by decide +kernel
theorem dX0_knownIn_60 : decode cX0_knownIn 60 = .ok (.iload_n 3, 1) := by decide +kernel
theorem dX0_knownIn_61 : decode cX0_knownIn 61 = .ok (.ireturn, 1) := by decide +kernel
theorem dX0_fillWorld_0 : decode cX0_fillWorld 0 = .ok (.aload_n 1, 1) := by decide +kernel
theorem dX0_fillWorld_1 : decode cX0_fillWorld 1 = .ok (.iload_n 2, 1) := by decide +kernel
theorem dX0_fillWorld_2 : decode cX0_fillWorld 2 = .ok (.iload_n 3, 1) := by decide +kernel
theorem dX0_fillWorld_3 : decode cX0_fillWorld 3 = .ok (.invokestatic 71, 3) := by decide +kernel
theorem dX0_fillWorld_6 : decode cX0_fillWorld 6 = .ok (.istore 4, 2) := by decide +kernel
theorem dX0_fillWorld_8 : decode cX0_fillWorld 8 = .ok (.aload_n 0, 1) := by decide +kernel
theorem dX0_fillWorld_9 : decode cX0_fillWorld 9 = .ok (.getfield 9, 3) := by decide +kernel
theorem dX0_fillWorld_12 : decode cX0_fillWorld 12 = .ok (.iload 4, 2) := by decide +kernel
theorem dX0_fillWorld_14 : decode cX0_fillWorld 14 = .ok (.iaload, 1) := by decide +kernel
theorem dX0_fillWorld_15 : decode cX0_fillWorld 15 = .ok (.aload_n 0, 1) := by decide +kernel
theorem dX0_fillWorld_16 : decode cX0_fillWorld 16 = .ok (.getfield 15, 3) := by decide +kernel
theorem dX0_fillWorld_19 : decode cX0_fillWorld 19 = .ok (.iload 4, 2) := by decide +kernel
theorem dX0_fillWorld_21 : decode cX0_fillWorld 21 = .ok (.iaload, 1) := by decide +kernel
theorem dX0_fillWorld_22 : decode cX0_fillWorld 22 = .ok (.iconst (-1), 1) := by decide +kernel
theorem dX0_fillWorld_23 : decode cX0_fillWorld 23 = .ok (.ixor, 1) := by decide +kernel
theorem dX0_fillWorld_24 : decode cX0_fillWorld 24 = .ok (.invokestatic 61, 3) := by decide +kernel
theorem dX0_fillWorld_27 : decode cX0_fillWorld 27 = .ok (.iconst 1, 1) := by decide +kernel
theorem dX0_fillWorld_28 : decode cX0_fillWorld 28 = .ok (.iconst 2, 1) := by decide +kernel
theorem dX0_fillWorld_29 : decode cX0_fillWorld 29 = .ok (.aload_n 1, 1) := by decide +kernel
theorem dX0_fillWorld_30 : decode cX0_fillWorld 30 = .ok (.getfield 65, 3) := by decide +kernel
theorem dX0_fillWorld_33 : decode cX0_fillWorld 33 = .ok (.imul, 1) := by decide +kernel
theorem dX0_fillWorld_34 : decode cX0_fillWorld 34 = .ok (.ishl, 1) := by decide +kernel
theorem dX0_fillWorld_35 : decode cX0_fillWorld 35 = .ok (.iconst 1, 1) := by decide +kernel
theorem dX0_fillWorld_36 : decode cX0_fillWorld 36 = .ok (.isub, 1) := by decide +kernel
theorem dX0_fillWorld_37 : decode cX0_fillWorld 37 = .ok (.iand, 1) := by decide +kernel
theorem dX0_fillWorld_38 : decode cX0_fillWorld 38 = .ok (.istore 5, 2) := by decide +kernel
theorem dX0_fillWorld_40 : decode cX0_fillWorld 40 = .ok (.iconst 0, 1) := by decide +kernel
theorem dX0_fillWorld_41 : decode cX0_fillWorld 41 = .ok (.istore 6, 2) := by decide +kernel
theorem dX0_fillWorld_43 : decode cX0_fillWorld 43 = .ok (.iload 6, 2) := by decide +kernel
theorem dX0_fillWorld_45 : decode cX0_fillWorld 45 = .ok (.aload_n 1, 1) := by decide +kernel
theorem dX0_fillWorld_46 : decode cX0_fillWorld 46 = .ok (.getfield 65, 3) := by decide +kernel
theorem dX0_fillWorld_49 : decode cX0_fillWorld 49 = .ok (.if_icmp .ge 116, 3) := by decide +kernel
theorem dX0_fillWorld_52 : decode cX0_fillWorld 52 = .ok (.iconst 2, 1) := by decide +kernel
theorem dX0_fillWorld_53 : decode cX0_fillWorld 53 = .ok (.iload 6, 2) := by decide +kernel
theorem dX0_fillWorld_55 : decode cX0_fillWorld 55 = .ok (.imul, 1) := by decide +kernel
theorem dX0_fillWorld_56 : decode cX0_fillWorld 56 = .ok (.istore 7, 2) := by decide +kernel
theorem dX0_fillWorld_58 : decode cX0_fillWorld 58 = .ok (.iload 5, 2) := by decide +kernel
theorem dX0_fillWorld_60 : decode cX0_fillWorld 60 = .ok (.aload_n 0, 1) := by decide +kernel
theorem dX0_fillWorld_61 : decode cX0_fillWorld 61 = .ok (.iload 6, 2) := by decide +kernel
theorem dX0_fillWorld_63 : decode cX0_fillWorld 63 = .ok (.invokevirtual 90, 3) := by decide +kernel
theorem dX0_fillWorld_66 : decode cX0_fillWorld 66 = .ok (.iand, 1) := by decide +kernel
theorem dX0_fillWorld_67 : decode cX0_fillWorld 67 = .ok (.iload 7, 2) := by decide +kernel
theorem dX0_fillWorld_69 : decode cX0_fillWorld 69 = .ok (.invokestatic 94, 3) := by decide +kernel
theorem dX0_fillWorld_72 : decode cX0_fillWorld 72 = .ok (.istore 8, 2) := by decide +kernel
theorem dX0_fillWorld_74 : decode cX0_fillWorld 74 = .ok (.iload 8, 2) := by decide +kernel
theorem dX0_fillWorld_76 : decode cX0_fillWorld 76 = .ok (.istore 9, 2) := by decide +kernel
theorem dX0_fillWorld_78 : decode cX0_fillWorld 78 = .ok (.iload 8, 2) := by decide +kernel
theorem dX0_fillWorld_80 : decode cX0_fillWorld 80 = .ok (.istore 10, 2) := by decide +kernel
theorem dX0_fillWorld_82 : decode cX0_fillWorld 82 = .ok (.aload_n 1, 1) := by decide +kernel
theorem dX0_fillWorld_83 : decode cX0_fillWorld 83 = .ok (.getfield 97, 3) := by decide +kernel
theorem dX0_fillWorld_86 : decode cX0_fillWorld 86 = .ok (.iload_n 2, 1) := by decide +kernel
theorem dX0_fillWorld_87 : decode cX0_fillWorld 87 = .ok (.iaload, 1) := by decide +kernel
theorem dX0_fillWorld_88 : decode cX0_fillWorld 88 = .ok (.iload 6, 2) := by decide +kernel
theorem dX0_fillWorld_90 : decode cX0_fillWorld 90 = .ok (.ishr, 1) := by decide +kernel
theorem dX0_fillWorld_91 : decode cX0_fillWorld 91 = .ok (.iconst 1, 1) := by decide +kernel
theorem dX0_fillWorld_92 : decode cX0_fillWorld 92 = .ok (.iand, 1) := by decide +kernel
theorem dX0_fillWorld_93 : decode cX0_fillWorld 93 = .ok (.ifCond .ne 39, 3) := by decide +kernel
theorem dX0_fillWorld_96 : decode cX0_fillWorld 96 = .ok (.iload 5, 2) := by decide +kernel
theorem dX0_fillWorld_98 : decode cX0_fillWorld 98 = .ok (.aload_n 0, 1) := by decide +kernel
theorem dX0_fillWorld_99 : decode cX0_fillWorld 99 = .ok (.iload 6, 2) := by decide +kernel
theorem dX0_fillWorld_101 : decode cX0_fillWorld 101 = .ok (.iload 4, 2) := by decide +kernel
theorem dX0_fillWorld_103 : decode cX0_fillWorld 103 = .ok (.invokevirtual 100, 3) := by decide +kernel
theorem dX0_fillWorld_106 : decode cX0_fillWorld 106 = .ok (.iand, 1) := by decide +kernel
theorem dX0_fillWorld_107 : decode cX0_fillWorld 107 = .ok (.iload 7, 2) := by decide +kernel
theorem dX0_fillWorld_109 : decode cX0_fillWorld 109 = .ok (.invokestatic 94, 3) := by decide +kernel
theorem dX0_fillWorld_112 : decode cX0_fillWorld 112 = .ok (.istore 9, 2) := by decide +kernel
theorem dX0_fillWorld_114 : decode cX0_fillWorld 114 = .ok (.iload 9, 2) := by decide +kernel
theorem dX0_fillWorld_116 : decode cX0_fillWorld 116 = .ok (.iload 7, 2) := by decide +kernel
theorem dX0_fillWorld_118 : decode cX0_fillWorld 118 = .ok (.if_icmp .ne 8, 3) := by decide +kernel
theorem dX0_fillWorld_121 : decode cX0_fillWorld 121 = .ok (.iload 7, 2) := by decide +kernel
theorem dX0_fillWorld_123 : decode cX0_fillWorld 123 = .ok (.goto 7, 3) := by decide +kernel
theorem dX0_fillWorld_126 : decode cX0_fillWorld 126 = .ok (.iload 9, 2) := by decide +kernel
theorem dX0_fillWorld_128 : decode cX0_fillWorld 128 = .ok (.iconst 1, 1) := by decide +kernel
theorem dX0_fillWorld_129 : decode cX0_fillWorld 129 = .ok (.ixor, 1) := by decide +kernel
theorem dX0_fillWorld_130 : decode cX0_fillWorld 130 = .ok (.istore 10, 2) := by decide +kernel
theorem dX0_fillWorld_132 : decode cX0_fillWorld 132 = .ok (.aload_n 1, 1) := by decide +kernel
theorem dX0_fillWorld_133 : decode cX0_fillWorld 133 = .ok (.iload_n 2, 1) := by decide +kernel
theorem dX0_fillWorld_134 : decode cX0_fillWorld 134 = .ok (.iload 6, 2) := by decide +kernel
theorem dX0_fillWorld_136 : decode cX0_fillWorld 136 = .ok (.iload_n 3, 1) := by decide +kernel
theorem dX0_fillWorld_137 : decode cX0_fillWorld 137 = .ok (.iload 9, 2) := by decide +kernel
theorem dX0_fillWorld_139 : decode cX0_fillWorld 139 = .ok (.iload 10, 2) := by decide +kernel
theorem dX0_fillWorld_141 : decode cX0_fillWorld 141 = .ok (.iconst 5, 1) := by decide +kernel
theorem dX0_fillWorld_142 : decode cX0_fillWorld 142 = .ok (.ishl, 1) := by decide +kernel
theorem dX0_fillWorld_143 : decode cX0_fillWorld 143 = .ok (.ior, 1) := by decide +kernel
theorem dX0_fillWorld_144 : decode cX0_fillWorld 144 = .ok (.iload 8, 2) := by decide +kernel
theorem dX0_fillWorld_146 : decode cX0_fillWorld 146 = .ok (.bipush 10, 2) := by decide +kernel
theorem dX0_fillWorld_148 : decode cX0_fillWorld 148 = .ok (.ishl, 1) := by decide +kernel
theorem dX0_fillWorld_149 : decode cX0_fillWorld 149 = .ok (.ior, 1) := by decide +kernel
theorem dX0_fillWorld_150 : decode cX0_fillWorld 150 = .ok (.iload 7, 2) := by decide +kernel
theorem dX0_fillWorld_152 : decode cX0_fillWorld 152 = .ok (.bipush 15, 2) := by decide +kernel
theorem dX0_fillWorld_154 : decode cX0_fillWorld 154 = .ok (.ishl, 1) := by decide +kernel
theorem dX0_fillWorld_155 : decode cX0_fillWorld 155 = .ok (.ior, 1) := by decide +kernel
theorem dX0_fillWorld_156 : decode cX0_fillWorld 156 = .ok (.invokevirtual 103, 3) := by decide +kernel
theorem dX0_fillWorld_159 : decode cX0_fillWorld 159 = .ok (.iinc 6 1, 3) := by decide +kernel
theorem dX0_fillWorld_162 : decode cX0_fillWorld 162 = .ok (.goto (-119), 3) := by decide +kernel
theorem dX0_fillWorld_165 : decode cX0_fillWorld 165 = .ok (.return_, 1) := by decide +kernel
theorem dX0_honestTo_0 : decode cX0_honestTo 0 = .ok (.aload_n 0, 1) := by decide +kernel
theorem dX0_honestTo_1 : decode cX0_honestTo 1 = .ok (.getfield 9, 3) := by decide +kernel
theorem dX0_honestTo_4 : decode cX0_honestTo 4 = .ok (.iload_n 2, 1) := by decide +kernel
theorem dX0_honestTo_5 : decode cX0_honestTo 5 = .ok (.iaload, 1) := by decide +kernel
theorem dX0_honestTo_6 : decode cX0_honestTo 6 = .ok (.iload_n 1, 1) := by decide +kernel
theorem dX0_honestTo_7 : decode cX0_honestTo 7 = .ok (.ishr, 1) := by decide +kernel
theorem dX0_honestTo_8 : decode cX0_honestTo 8 = .ok (.iconst 1, 1) := by decide +kernel
theorem dX0_honestTo_9 : decode cX0_honestTo 9 = .ok (.iand, 1) := by decide +kernel
theorem dX0_honestTo_10 : decode cX0_honestTo 10 = .ok (.ifCond .eq 20, 3) := by decide +kernel
theorem dX0_honestTo_13 : decode cX0_honestTo 13 = .ok (.aload_n 0, 1) := by decide +kernel
theorem dX0_honestTo_14 : decode cX0_honestTo 14 = .ok (.getfield 21, 3) := by decide +kernel
theorem dX0_honestTo_17 : decode cX0_honestTo 17 = .ok (.iload_n 1, 1) := by decide +kernel
theorem dX0_honestTo_18 : decode cX0_honestTo 18 = .ok (.iaload, 1) := by decide +kernel
theorem dX0_honestTo_19 : decode cX0_honestTo 19 = .ok (.iconst (-1), 1) := by decide +kernel
theorem dX0_honestTo_20 : decode cX0_honestTo 20 = .ok (.ixor, 1) := by decide +kernel
theorem dX0_honestTo_21 : decode cX0_honestTo 21 = .ok (.iconst 1, 1) := by decide +kernel
theorem dX0_honestTo_22 : decode cX0_honestTo 22 = .ok (.iconst 2, 1) := by decide +kernel
theorem dX0_honestTo_23 : decode cX0_honestTo 23 = .ok (.iload_n 1, 1) := by decide +kernel
theorem dX0_honestTo_24 : decode cX0_honestTo 24 = .ok (.imul, 1) := by decide +kernel
theorem dX0_honestTo_25 : decode cX0_honestTo 25 = .ok (.ishl, 1) := by decide +kernel
theorem dX0_honestTo_26 : decode cX0_honestTo 26 = .ok (.iconst (-1), 1) := by decide +kernel
theorem dX0_honestTo_27 : decode cX0_honestTo 27 = .ok (.ixor, 1) := by decide +kernel
theorem dX0_honestTo_28 : decode cX0_honestTo 28 = .ok (.iand, 1) := by decide +kernel
theorem dX0_honestTo_29 : decode cX0_honestTo 29 = .ok (.ireturn, 1) := by decide +kernel
theorem dX0_honestTo_30 : decode cX0_honestTo 30 = .ok (.aload_n 0, 1) := by decide +kernel
theorem dX0_honestTo_31 : decode cX0_honestTo 31 = .ok (.getfield 15, 3) := by decide +kernel
theorem dX0_honestTo_34 : decode cX0_honestTo 34 = .ok (.iload_n 2, 1) := by decide +kernel
theorem dX0_honestTo_35 : decode cX0_honestTo 35 = .ok (.iaload, 1) := by decide +kernel
theorem dX0_honestTo_36 : decode cX0_honestTo 36 = .ok (.iload_n 1, 1) := by decide +kernel
theorem dX0_honestTo_37 : decode cX0_honestTo 37 = .ok (.ishr, 1) := by decide +kernel
theorem dX0_honestTo_38 : decode cX0_honestTo 38 = .ok (.iconst 1, 1) := by decide +kernel
theorem dX0_honestTo_39 : decode cX0_honestTo 39 = .ok (.iand, 1) := by decide +kernel
theorem dX0_honestTo_40 : decode cX0_honestTo 40 = .ok (.ifCond .ne 14, 3) := by decide +kernel
theorem dX0_honestTo_43 : decode cX0_honestTo 43 = .ok (.aload_n 0, 1) := by decide +kernel
theorem dX0_honestTo_44 : decode cX0_honestTo 44 = .ok (.getfield 18, 3) := by decide +kernel
theorem dX0_honestTo_47 : decode cX0_honestTo 47 = .ok (.iload_n 1, 1) := by decide +kernel
theorem dX0_honestTo_48 : decode cX0_honestTo 48 = .ok (.iaload, 1) := by decide +kernel
theorem dX0_honestTo_49 : decode cX0_honestTo 49 = .ok (.iconst (-1), 1) := by decide +kernel
theorem dX0_honestTo_50 : decode cX0_honestTo 50 = .ok (.ixor, 1) := by decide +kernel
theorem dX0_honestTo_51 : decode cX0_honestTo 51 = .ok (.goto 4, 3) := by decide +kernel
theorem dX0_honestTo_54 : decode cX0_honestTo 54 = .ok (.iconst 0, 1) := by decide +kernel
theorem dX0_honestTo_55 : decode cX0_honestTo 55 = .ok (.ireturn, 1) := by decide +kernel
theorem dX0_otherThan_0 : decode cX0_otherThan 0 = .ok (.aload_n 0, 1) := by decide +kernel
theorem dX0_otherThan_1 : decode cX0_otherThan 1 = .ok (.getfield 18, 3) := by decide +kernel
theorem dX0_otherThan_4 : decode cX0_otherThan 4 = .ok (.iload_n 1, 1) := by decide +kernel
theorem dX0_otherThan_5 : decode cX0_otherThan 5 = .ok (.iaload, 1) := by decide +kernel
theorem dX0_otherThan_6 : decode cX0_otherThan 6 = .ok (.aload_n 0, 1) := by decide +kernel
theorem dX0_otherThan_7 : decode cX0_otherThan 7 = .ok (.getfield 21, 3) := by decide +kernel
theorem dX0_otherThan_10 : decode cX0_otherThan 10 = .ok (.iload_n 1, 1) := by decide +kernel
theorem dX0_otherThan_11 : decode cX0_otherThan 11 = .ok (.iaload, 1) := by decide +kernel
theorem dX0_otherThan_12 : decode cX0_otherThan 12 = .ok (.iand, 1) := by decide +kernel
theorem dX0_otherThan_13 : decode cX0_otherThan 13 = .ok (.aload_n 0, 1) := by decide +kernel
theorem dX0_otherThan_14 : decode cX0_otherThan 14 = .ok (.getfield 24, 3) := by decide +kernel
theorem dX0_otherThan_17 : decode cX0_otherThan 17 = .ok (.iand, 1) := by decide +kernel
theorem dX0_otherThan_18 : decode cX0_otherThan 18 = .ok (.iconst 3, 1) := by decide +kernel
theorem dX0_otherThan_19 : decode cX0_otherThan 19 = .ok (.iconst 2, 1) := by decide +kernel
theorem dX0_otherThan_20 : decode cX0_otherThan 20 = .ok (.iload_n 1, 1) := by decide +kernel
theorem dX0_otherThan_21 : decode cX0_otherThan 21 = .ok (.imul, 1) := by decide +kernel
theorem dX0_otherThan_22 : decode cX0_otherThan 22 = .ok (.ishl, 1) := by decide +kernel
theorem dX0_otherThan_23 : decode cX0_otherThan 23 = .ok (.iconst (-1), 1) := by decide +kernel
theorem dX0_otherThan_24 : decode cX0_otherThan 24 = .ok (.ixor, 1) := by decide +kernel
theorem dX0_otherThan_25 : decode cX0_otherThan 25 = .ok (.iand, 1) := by decide +kernel
theorem dX0_otherThan_26 : decode cX0_otherThan 26 = .ok (.ireturn, 1) := by decide +kernel
theorem dX0_sayingsOf_0 : decode cX0_sayingsOf 0 = .ok (.iconst 0, 1) := by decide +kernel
theorem dX0_sayingsOf_1 : decode cX0_sayingsOf 1 = .ok (.istore_n 2, 1) := by decide +kernel
theorem dX0_sayingsOf_2 : decode cX0_sayingsOf 2 = .ok (.iconst 0, 1) := by decide +kernel
theorem dX0_sayingsOf_3 : decode cX0_sayingsOf 3 = .ok (.istore_n 3, 1) := by decide +kernel
theorem dX0_sayingsOf_4 : decode cX0_sayingsOf 4 = .ok (.iload_n 3, 1) := by decide +kernel
theorem dX0_sayingsOf_5 : decode cX0_sayingsOf 5 = .ok (.bipush 12, 2) := by decide +kernel
theorem dX0_sayingsOf_7 : decode cX0_sayingsOf 7 = .ok (.if_icmp .ge 33, 3) := by decide +kernel
theorem dX0_sayingsOf_10 : decode cX0_sayingsOf 10 = .ok (.iload_n 2, 1) := by decide +kernel
theorem dX0_sayingsOf_11 : decode cX0_sayingsOf 11 = .ok (.iload_n 0, 1) := by decide +kernel
theorem dX0_sayingsOf_12 : decode cX0_sayingsOf 12 = .ok (.iload_n 3, 1) := by decide +kernel
theorem dX0_sayingsOf_13 : decode cX0_sayingsOf 13 = .ok (.ishr, 1) := by decide +kernel
theorem dX0_sayingsOf_14 : decode cX0_sayingsOf 14 = .ok (.iconst 1, 1) := by decide +kernel
theorem dX0_sayingsOf_15 : decode cX0_sayingsOf 15 = .ok (.iand, 1) := by decide +kernel
theorem dX0_sayingsOf_16 : decode cX0_sayingsOf 16 = .ok (.iconst 2, 1) := by decide +kernel
theorem dX0_sayingsOf_17 : decode cX0_sayingsOf 17 = .ok (.iload_n 3, 1) := by decide +kernel
theorem dX0_sayingsOf_18 : decode cX0_sayingsOf 18 = .ok (.imul, 1) := by decide +kernel
theorem dX0_sayingsOf_19 : decode cX0_sayingsOf 19 = .ok (.ishl, 1) := by decide +kernel
theorem dX0_sayingsOf_20 : decode cX0_sayingsOf 20 = .ok (.iload_n 1, 1) := by decide +kernel
theorem dX0_sayingsOf_21 : decode cX0_sayingsOf 21 = .ok (.iload_n 3, 1) := by decide +kernel
theorem dX0_sayingsOf_22 : decode cX0_sayingsOf 22 = .ok (.ishr, 1) := by decide +kernel
theorem dX0_sayingsOf_23 : decode cX0_sayingsOf 23 = .ok (.iconst 1, 1) := by decide +kernel
theorem dX0_sayingsOf_24 : decode cX0_sayingsOf 24 = .ok (.iand, 1) := by decide +kernel
theorem dX0_sayingsOf_25 : decode cX0_sayingsOf 25 = .ok (.iconst 2, 1) := by decide +kernel
theorem dX0_sayingsOf_26 : decode cX0_sayingsOf 26 = .ok (.iload_n 3, 1) := by decide +kernel
theorem dX0_sayingsOf_27 : decode cX0_sayingsOf 27 = .ok (.imul, 1) := by decide +kernel
theorem dX0_sayingsOf_28 : decode cX0_sayingsOf 28 = .ok (.iconst 1, 1) := by decide +kernel
theorem dX0_sayingsOf_29 : decode cX0_sayingsOf 29 = .ok (.iadd, 1) := by decide +kernel
theorem dX0_sayingsOf_30 : decode cX0_sayingsOf 30 = .ok (.ishl, 1) := by decide +kernel
theorem dX0_sayingsOf_31 : decode cX0_sayingsOf 31 = .ok (.ior, 1) := by decide +kernel
theorem dX0_sayingsOf_32 : decode cX0_sayingsOf 32 = .ok (.ior, 1) := by decide +kernel
theorem dX0_sayingsOf_33 : decode cX0_sayingsOf 33 = .ok (.istore_n 2, 1) := by decide +kernel
theorem dX0_sayingsOf_34 : decode cX0_sayingsOf 34 = .ok (.iinc 3 1, 3) := by decide +kernel
theorem dX0_sayingsOf_37 : decode cX0_sayingsOf 37 = .ok (.goto (-33), 3) := by decide +kernel
theorem dX0_sayingsOf_40 : decode cX0_sayingsOf 40 = .ok (.iload_n 2, 1) := by decide +kernel
theorem dX0_sayingsOf_41 : decode cX0_sayingsOf 41 = .ok (.ireturn, 1) := by decide +kernel
theorem dX0_firstOr_0 : decode cX0_firstOr 0 = .ok (.iload_n 0, 1) := by decide +kernel
theorem dX0_firstOr_1 : decode cX0_firstOr 1 = .ok (.ifCond .ne 7, 3) := by decide +kernel
theorem dX0_firstOr_4 : decode cX0_firstOr 4 = .ok (.iload_n 1, 1) := by decide +kernel
theorem dX0_firstOr_5 : decode cX0_firstOr 5 = .ok (.goto 12, 3) := by decide +kernel
theorem dX0_firstOr_8 : decode cX0_firstOr 8 = .ok (.iload_n 0, 1) := by decide +kernel
theorem dX0_firstOr_9 : decode cX0_firstOr 9 = .ok (.iload_n 0, 1) := by decide +kernel
theorem dX0_firstOr_10 : decode cX0_firstOr 10 = .ok (.ineg, 1) := by decide +kernel
theorem dX0_firstOr_11 : decode cX0_firstOr 11 = .ok (.iand, 1) := by decide +kernel
theorem dX0_firstOr_12 : decode cX0_firstOr 12 = .ok (.iconst 1, 1) := by decide +kernel
theorem dX0_firstOr_13 : decode cX0_firstOr 13 = .ok (.isub, 1) := by decide +kernel
theorem dX0_firstOr_14 : decode cX0_firstOr 14 = .ok (.invokestatic 107, 3) := by decide +kernel
theorem dX0_firstOr_17 : decode cX0_firstOr 17 = .ok (.ireturn, 1) := by decide +kernel
theorem dX1_init_0 : decode cX1_init 0 = .ok (.aload_n 0, 1) := by decide +kernel
theorem dX1_init_1 : decode cX1_init 1 = .ok (.invokespecial 3, 3) := by decide +kernel
theorem dX1_init_4 : decode cX1_init 4 = .ok (.aload_n 0, 1) := by decide +kernel
theorem dX1_init_5 : decode cX1_init 5 = .ok (.new 9, 3) := by decide +kernel
theorem dX1_init_8 : decode cX1_init 8 = .ok (.dup, 1) := by decide +kernel
theorem dX1_init_9 : decode cX1_init 9 = .ok (.invokespecial 11, 3) := by decide +kernel
theorem dX1_init_12 : decode cX1_init 12 = .ok (.putfield 12, 3) := by decide +kernel
theorem dX1_init_15 : decode cX1_init 15 = .ok (.aload_n 0, 1) := by decide +kernel
theorem dX1_init_16 : decode cX1_init 16 = .ok (.iconst 5, 1) := by decide +kernel
theorem dX1_init_17 : decode cX1_init 17 = .ok (.newarray .int, 2) := by decide +kernel
theorem dX1_init_19 : decode cX1_init 19 = .ok (.putfield 18, 3) := by decide +kernel
theorem dX1_init_22 : decode cX1_init 22 = .ok (.aload_n 0, 1) := by decide +kernel
theorem dX1_init_23 : decode cX1_init 23 = .ok (.iconst 4, 1) := by decide +kernel
theorem dX1_init_24 : decode cX1_init 24 = .ok (.newarray .int, 2) := by decide +kernel
theorem dX1_init_26 : decode cX1_init 26 = .ok (.putfield 22, 3) := by decide +kernel
theorem dX1_init_29 : decode cX1_init 29 = .ok (.aload_n 0, 1) := by decide +kernel
theorem dX1_init_30 : decode cX1_init 30 = .ok (.bipush 24, 2) := by decide +kernel
theorem dX1_init_32 : decode cX1_init 32 = .ok (.newarray .int, 2) := by decide +kernel
theorem dX1_init_34 : decode cX1_init 34 = .ok (.putfield 25, 3) := by decide +kernel
theorem dX1_init_37 : decode cX1_init 37 = .ok (.aload_n 0, 1) := by decide +kernel
theorem dX1_init_38 : decode cX1_init 38 = .ok (.bipush 24, 2) := by decide +kernel
theorem dX1_init_40 : decode cX1_init 40 = .ok (.newarray .int, 2) := by decide +kernel
theorem dX1_init_42 : decode cX1_init 42 = .ok (.putfield 28, 3) := by decide +kernel
theorem dX1_init_45 : decode cX1_init 45 = .ok (.aload_n 0, 1) := by decide +kernel
theorem dX1_init_46 : decode cX1_init 46 = .ok (.sipush 256, 3) := by decide +kernel
theorem dX1_init_49 : decode cX1_init 49 = .ok (.newarray .int, 2) := by decide +kernel
theorem dX1_init_51 : decode cX1_init 51 = .ok (.putfield 31, 3) := by decide +kernel
theorem dX1_init_54 : decode cX1_init 54 = .ok (.aload_n 0, 1) := by decide +kernel
theorem dX1_init_55 : decode cX1_init 55 = .ok (.sipush 256, 3) := by decide +kernel
theorem dX1_init_58 : decode cX1_init 58 = .ok (.newarray .int, 2) := by decide +kernel
theorem dX1_init_60 : decode cX1_init 60 = .ok (.putfield 34, 3) := by decide +kernel
theorem dX1_init_63 : decode cX1_init 63 = .ok (.aload_n 0, 1) := by decide +kernel
theorem dX1_init_64 : decode cX1_init 64 = .ok (.bipush 12, 2) := by decide +kernel
theorem dX1_init_66 : decode cX1_init 66 = .ok (.newarray .int, 2) := by decide +kernel
theorem dX1_init_68 : decode cX1_init 68 = .ok (.putfield 37, 3) := by decide +kernel
theorem dX1_init_71 : decode cX1_init 71 = .ok (.aload_n 0, 1) := by decide +kernel
theorem dX1_init_72 : decode cX1_init 72 = .ok (.bipush 16, 2) := by decide +kernel
theorem dX1_init_74 : decode cX1_init 74 = .ok (.newarray .int, 2) := by decide +kernel
theorem dX1_init_76 : decode cX1_init 76 = .ok (.putfield 40, 3) := by decide +kernel
theorem dX1_init_79 : decode cX1_init 79 = .ok (.aload_n 0, 1) := by decide +kernel
theorem dX1_init_80 : decode cX1_init 80 = .ok (.iconst 4, 1) := by decide +kernel
theorem dX1_init_81 : decode cX1_init 81 = .ok (.newarray .int, 2) := by decide +kernel
theorem dX1_init_83 : decode cX1_init 83 = .ok (.putfield 43, 3) := by decide +kernel
theorem dX1_init_86 : decode cX1_init 86 = .ok (.aload_n 0, 1) := by decide +kernel
theorem dX1_init_87 : decode cX1_init 87 = .ok (.iconst 4, 1) := by decide +kernel
theorem dX1_init_88 : decode cX1_init 88 = .ok (.newarray .int, 2) := by decide +kernel
theorem dX1_init_90 : decode cX1_init 90 = .ok (.putfield 46, 3) := by decide +kernel
theorem dX1_init_93 : decode cX1_init 93 = .ok (.aload_n 0, 1) := by decide +kernel
theorem dX1_init_94 : decode cX1_init 94 = .ok (.sipush 12288, 3) := by decide +kernel
theorem dX1_init_97 : decode cX1_init 97 = .ok (.newarray .int, 2) := by decide +kernel
theorem dX1_init_99 : decode cX1_init 99 = .ok (.putfield 49, 3) := by decide +kernel
theorem dX1_init_102 : decode cX1_init 102 = .ok (.aload_n 0, 1) := by decide +kernel
theorem dX1_init_103 : decode cX1_init 103 = .ok (.invokevirtual 52, 3) := by decide +kernel
theorem dX1_init_106 : decode cX1_init 106 = .ok (.return_, 1) := by decide +kernel
theorem dX1_clear_0 : decode cX1_clear 0 = .ok (.aload_n 0, 1) := by decide +kernel
theorem dX1_clear_1 : decode cX1_clear 1 = .ok (.getfield 12, 3) := by decide +kernel
theorem dX1_clear_4 : decode cX1_clear 4 = .ok (.iconst 0, 1) := by decide +kernel
theorem dX1_clear_5 : decode cX1_clear 5 = .ok (.putfield 55, 3) := by decide +kernel
theorem dX1_clear_8 : decode cX1_clear 8 = .ok (.aload_n 0, 1) := by decide +kernel
theorem dX1_clear_9 : decode cX1_clear 9 = .ok (.iconst 0, 1) := by decide +kernel
theorem dX1_clear_10 : decode cX1_clear 10 = .ok (.putfield 59, 3) := by decide +kernel
theorem dX1_clear_13 : decode cX1_clear 13 = .ok (.aload_n 0, 1) := by decide +kernel
theorem dX1_clear_14 : decode cX1_clear 14 = .ok (.iconst 0, 1) := by decide +kernel
theorem dX1_clear_15 : decode cX1_clear 15 = .ok (.putfield 62, 3) := by decide +kernel
theorem dX1_clear_18 : decode cX1_clear 18 = .ok (.aload_n 0, 1) := by decide +kernel
theorem dX1_clear_19 : decode cX1_clear 19 = .ok (.iconst 0, 1) := by decide +kernel
theorem dX1_clear_20 : decode cX1_clear 20 = .ok (.putfield 65, 3) := by decide +kernel
theorem dX1_clear_23 : decode cX1_clear 23 = .ok (.aload_n 0, 1) := by decide +kernel
theorem dX1_clear_24 : decode cX1_clear 24 = .ok (.iconst 0, 1) := by decide +kernel
theorem dX1_clear_25 : decode cX1_clear 25 = .ok (.putfield 68, 3) := by decide +kernel
theorem dX1_clear_28 : decode cX1_clear 28 = .ok (.aload_n 0, 1) := by decide +kernel
theorem dX1_clear_29 : decode cX1_clear 29 = .ok (.iconst 1, 1) := by decide +kernel
theorem dX1_clear_30 : decode cX1_clear 30 = .ok (.putfield 71, 3) := by decide +kernel
theorem dX1_clear_33 : decode cX1_clear 33 = .ok (.aload_n 0, 1) := by decide +kernel
theorem dX1_clear_34 : decode cX1_clear 34 = .ok (.iconst 1, 1) := by decide +kernel
theorem dX1_clear_35 : decode cX1_clear 35 = .ok (.putfield 74, 3) := by decide +kernel
theorem dX1_clear_38 : decode cX1_clear 38 = .ok (.aload_n 0, 1) := by decide +kernel
theorem dX1_clear_39 : decode cX1_clear 39 = .ok (.getfield 31, 3) := by decide +kernel
theorem dX1_clear_42 : decode cX1_clear 42 = .ok (.iconst 0, 1) := by decide +kernel
theorem dX1_clear_43 : decode cX1_clear 43 = .ok (.iconst 1, 1) := by decide +kernel
theorem dX1_clear_44 : decode cX1_clear 44 = .ok (.iastore, 1) := by decide +kernel
theorem dX1_clear_45 : decode cX1_clear 45 = .ok (.aload_n 0, 1) := by decide +kernel
theorem dX1_clear_46 : decode cX1_clear 46 = .ok (.getfield 34, 3) := by decide +kernel
theorem dX1_clear_49 : decode cX1_clear 49 = .ok (.iconst 0, 1) := by decide +kernel
theorem dX1_clear_50 : decode cX1_clear 50 = .ok (.iconst 0, 1) := by decide +kernel
theorem dX1_clear_51 : decode cX1_clear 51 = .ok (.iastore, 1) := by decide +kernel
theorem dX1_clear_52 : decode cX1_clear 52 = .ok (.aload_n 0, 1) := by decide +kernel
theorem dX1_clear_53 : decode cX1_clear 53 = .ok (.ldc 77, 2) := by decide +kernel
theorem dX1_clear_55 : decode cX1_clear 55 = .ok (.putfield 78, 3) := by decide +kernel
theorem dX1_clear_58 : decode cX1_clear 58 = .ok (.aload_n 0, 1) := by decide +kernel
theorem dX1_clear_59 : decode cX1_clear 59 = .ok (.getfield 40, 3) := by decide +kernel
theorem dX1_clear_62 : decode cX1_clear 62 = .ok (.iconst 0, 1) := by decide +kernel
theorem dX1_clear_63 : decode cX1_clear 63 = .ok (.invokestatic 81, 3) := by decide +kernel
theorem dX1_clear_66 : decode cX1_clear 66 = .ok (.aload_n 0, 1) := by decide +kernel
theorem dX1_clear_67 : decode cX1_clear 67 = .ok (.getfield 43, 3) := by decide +kernel
theorem dX1_clear_70 : decode cX1_clear 70 = .ok (.iconst 0, 1) := by decide +kernel
theorem dX1_clear_71 : decode cX1_clear 71 = .ok (.invokestatic 81, 3) := by decide +kernel
theorem dX1_clear_74 : decode cX1_clear 74 = .ok (.aload_n 0, 1) := by decide +kernel
theorem dX1_clear_75 : decode cX1_clear 75 = .ok (.getfield 46, 3) := by decide +kernel
theorem dX1_clear_78 : decode cX1_clear 78 = .ok (.iconst 0, 1) := by decide +kernel
theorem dX1_clear_79 : decode cX1_clear 79 = .ok (.invokestatic 81, 3) := by decide +kernel
theorem dX1_clear_82 : decode cX1_clear 82 = .ok (.return_, 1) := by decide +kernel
theorem dX1_valueIn_0 : decode cX1_valueIn 0 = .ok (.aload_n 0, 1) := by decide +kernel
theorem dX1_valueIn_1 : decode cX1_valueIn 1 = .ok (.getfield 18, 3) := by decide +kernel
theorem dX1_valueIn_4 : decode cX1_valueIn 4 = .ok (.iload_n 2, 1) := by decide +kernel
theorem dX1_valueIn_5 : decode cX1_valueIn 5 = .ok (.iconst 1, 1) := by decide +kernel
theorem dX1_valueIn_6 : decode cX1_valueIn 6 = .ok (.iadd, 1) := by decide +kernel
theorem dX1_valueIn_7 : decode cX1_valueIn 7 = .ok (.iaload, 1) := by decide +kernel
theorem dX1_valueIn_8 : decode cX1_valueIn 8 = .ok (.aload_n 0, 1) := by decide +kernel
theorem dX1_valueIn_9 : decode cX1_valueIn 9 = .ok (.getfield 18, 3) := by decide +kernel
theorem dX1_valueIn_12 : decode cX1_valueIn 12 = .ok (.iload_n 2, 1) := by decide +kernel
theorem dX1_valueIn_13 : decode cX1_valueIn 13 = .ok (.iaload, 1) := by decide +kernel
theorem dX1_valueIn_14 : decode cX1_valueIn 14 = .ok (.isub, 1) := by decide +kernel
theorem dX1_valueIn_15 : decode cX1_valueIn 15 = .ok (.istore_n 3, 1) := by decide +kernel
theorem dX1_valueIn_16 : decode cX1_valueIn 16 = .ok (.aload_n 0, 1) := by decide +kernel
theorem dX1_valueIn_17 : decode cX1_valueIn 17 = .ok (.getfield 22, 3) := by decide +kernel
theorem dX1_valueIn_20 : decode cX1_valueIn 20 = .ok (.iload_n 2, 1) := by decide +kernel
theorem dX1_valueIn_21 : decode cX1_valueIn 21 = .ok (.iaload, 1) := by decide +kernel
theorem dX1_valueIn_22 : decode cX1_valueIn 22 = .ok (.iconst 1, 1) := by decide +kernel
theorem dX1_valueIn_23 : decode cX1_valueIn 23 = .ok (.if_icmp .lt 8, 3) := by decide +kernel
theorem dX1_valueIn_26 : decode cX1_valueIn 26 = .ok (.iload_n 3, 1) := by decide +kernel
theorem dX1_valueIn_27 : decode cX1_valueIn 27 = .ok (.iconst 1, 1) := by decide +kernel
theorem dX1_valueIn_28 : decode cX1_valueIn 28 = .ok (.if_icmp .ge 5, 3) := by decide +kernel
theorem dX1_valueIn_31 : decode cX1_valueIn 31 = .ok (.iconst (-1), 1) := by decide +kernel
theorem dX1_valueIn_32 : decode cX1_valueIn 32 = .ok (.ireturn, 1) := by decide +kernel
theorem dX1_valueIn_33 : decode cX1_valueIn 33 = .ok (.aload_n 0, 1) := by decide +kernel
theorem dX1_valueIn_34 : decode cX1_valueIn 34 = .ok (.getfield 18, 3) := by decide +kernel
theorem dX1_valueIn_37 : decode cX1_valueIn 37 = .ok (.iload_n 2, 1) := by decide +kernel
theorem dX1_valueIn_38 : decode cX1_valueIn 38 = .ok (.iaload, 1) := by decide +kernel
theorem dX1_valueIn_39 : decode cX1_valueIn 39 = .ok (.iload_n 1, 1) := by decide +kernel
theorem dX1_valueIn_40 : decode cX1_valueIn 40 = .ok (.aload_n 0, 1) := by decide +kernel
theorem dX1_valueIn_41 : decode cX1_valueIn 41 = .ok (.getfield 22, 3) := by decide +kernel
theorem dX1_valueIn_44 : decode cX1_valueIn 44 = .ok (.iload_n 2, 1) := by decide +kernel
theorem dX1_valueIn_45 : decode cX1_valueIn 45 = .ok (.iaload, 1) := by decide +kernel
theorem dX1_valueIn_46 : decode cX1_valueIn 46 = .ok (.idiv, 1) := by decide +kernel
theorem dX1_valueIn_47 : decode cX1_valueIn 47 = .ok (.iload_n 3, 1) := by decide +kernel
theorem dX1_valueIn_48 : decode cX1_valueIn 48 = .ok (.irem, 1) := by decide +kernel
theorem dX1_valueIn_49 : decode cX1_valueIn 49 = .ok (.iadd, 1) := by decide +kernel
theorem dX1_valueIn_50 : decode cX1_valueIn 50 = .ok (.ireturn, 1) := by decide +kernel
theorem dX1_canBe_0 : decode cX1_canBe 0 = .ok (.aload_n 0, 1) := by decide +kernel
theorem dX1_canBe_1 : decode cX1_canBe 1 = .ok (.getfield 31, 3) := by decide +kernel
theorem dX1_canBe_4 : decode cX1_canBe 4 = .ok (.iload_n 1, 1) := by decide +kernel
theorem dX1_canBe_5 : decode cX1_canBe 5 = .ok (.iaload, 1) := by decide +kernel
theorem dX1_canBe_6 : decode cX1_canBe 6 = .ok (.ifCond .le 7, 3) := by decide +kernel
theorem dX1_canBe_9 : decode cX1_canBe 9 = .ok (.iconst 1, 1) := by decide +kernel
theorem dX1_canBe_10 : decode cX1_canBe 10 = .ok (.goto 4, 3) := by decide +kernel
theorem dX1_canBe_13 : decode cX1_canBe 13 = .ok (.iconst 0, 1) := by decide +kernel
theorem dX1_canBe_14 : decode cX1_canBe 14 = .ok (.ireturn, 1) := by decide +kernel
theorem dX1_inQuestion_0 : decode cX1_inQuestion 0 = .ok (.aload_n 0, 1) := by decide +kernel
theorem dX1_inQuestion_1 : decode cX1_inQuestion 1 = .ok (.getfield 34, 3) := by decide +kernel
theorem dX1_inQuestion_4 : decode cX1_inQuestion 4 = .ok (.iload_n 2, 1) := by decide +kernel
theorem dX1_inQuestion_5 : decode cX1_inQuestion 5 = .ok (.iaload, 1) := by decide +kernel
theorem dX1_inQuestion_6 : decode cX1_inQuestion 6 = .ok (.iload_n 1, 1) := by decide +kernel
theorem dX1_inQuestion_7 : decode cX1_inQuestion 7 = .ok (.ishr, 1) := by decide +kernel
theorem dX1_inQuestion_8 : decode cX1_inQuestion 8 = .ok (.iconst 1, 1) := by decide +kernel
theorem dX1_inQuestion_9 : decode cX1_inQuestion 9 = .ok (.iand, 1) := by decide +kernel
theorem dX1_inQuestion_10 : decode cX1_inQuestion 10 = .ok (.ireturn, 1) := by decide +kernel
theorem dX1_makeWorlds_0 : decode cX1_makeWorlds 0 = .ok (.iconst 1, 1) := by decide +kernel
theorem dX1_makeWorlds_1 : decode cX1_makeWorlds 1 = .ok (.istore_n 2, 1) := by decide +kernel
theorem dX1_makeWorlds_2 : decode cX1_makeWorlds 2 = .ok (.aload_n 0, 1) := by decide +kernel
theorem dX1_makeWorlds_3 : decode cX1_makeWorlds 3 = .ok (.getfield 59, 3) := by decide +kernel
theorem dX1_makeWorlds_6 : decode cX1_makeWorlds 6 = .ok (.iconst 1, 1) := by decide +kernel
theorem dX1_makeWorlds_7 : decode cX1_makeWorlds 7 = .ok (.isub, 1) := by decide +kernel
theorem dX1_makeWorlds_8 : decode cX1_makeWorlds 8 = .ok (.istore_n 3, 1) := by decide +kernel
theorem dX1_makeWorlds_9 : decode cX1_makeWorlds 9 = .ok (.iload_n 3, 1) := by decide +kernel
theorem dX1_makeWorlds_10 : decode cX1_makeWorlds 10 = .ok (.ifCond .lt 34, 3) := by decide +kernel
theorem dX1_makeWorlds_13 : decode cX1_makeWorlds 13 = .ok (.aload_n 0, 1) := by decide +kernel
theorem dX1_makeWorlds_14 : decode cX1_makeWorlds 14 = .ok (.getfield 22, 3) := by decide +kernel
theorem dX1_makeWorlds_17 : decode cX1_makeWorlds 17 = .ok (.iload_n 3, 1) := by decide +kernel
theorem dX1_makeWorlds_18 : decode cX1_makeWorlds 18 = .ok (.iload_n 2, 1) := by decide +kernel
theorem dX1_makeWorlds_19 : decode cX1_makeWorlds 19 = .ok (.iastore, 1) := by decide +kernel
theorem dX1_makeWorlds_20 : decode cX1_makeWorlds 20 = .ok (.iload_n 2, 1) := by decide +kernel
theorem dX1_makeWorlds_21 : decode cX1_makeWorlds 21 = .ok (.aload_n 0, 1) := by decide +kernel
theorem dX1_makeWorlds_22 : decode cX1_makeWorlds 22 = .ok (.getfield 18, 3) := by decide +kernel
theorem dX1_makeWorlds_25 : decode cX1_makeWorlds 25 = .ok (.iload_n 3, 1) := by decide +kernel
theorem dX1_makeWorlds_26 : decode cX1_makeWorlds 26 = .ok (.iconst 1, 1) := by decide +kernel
theorem dX1_makeWorlds_27 : decode cX1_makeWorlds 27 = .ok (.iadd, 1) := by decide +kernel
theorem dX1_makeWorlds_28 : decode cX1_makeWorlds 28 = .ok (.iaload, 1) := by decide +kernel
theorem dX1_makeWorlds_29 : decode cX1_makeWorlds 29 = .ok (.aload_n 0, 1) := by decide +kernel
theorem dX1_makeWorlds_30 : decode cX1_makeWorlds 30 = .ok (.getfield 18, 3) := by decide +kernel
theorem dX1_makeWorlds_33 : decode cX1_makeWorlds 33 = .ok (.iload_n 3, 1) := by decide +kernel
theorem dX1_makeWorlds_34 : decode cX1_makeWorlds 34 = .ok (.iaload, 1) := by decide +kernel
theorem dX1_makeWorlds_35 : decode cX1_makeWorlds 35 = .ok (.isub, 1) := by decide +kernel
theorem dX1_makeWorlds_36 : decode cX1_makeWorlds 36 = .ok (.imul, 1) := by decide +kernel
theorem dX1_makeWorlds_37 : decode cX1_makeWorlds 37 = .ok (.istore_n 2, 1) := by decide +kernel
theorem dX1_makeWorlds_38 : decode cX1_makeWorlds 38 = .ok (.iinc 3 (-1), 3) := by decide +kernel
theorem dX1_makeWorlds_41 : decode cX1_makeWorlds 41 = .ok (.goto (-32), 3) := by decide +kernel
theorem dX1_makeWorlds_44 : decode cX1_makeWorlds 44 = .ok (.aload_n 0, 1) := by decide +kernel
theorem dX1_makeWorlds_45 : decode cX1_makeWorlds 45 = .ok (.iload_n 2, 1) := by decide +kernel
theorem dX1_makeWorlds_46 : decode cX1_makeWorlds 46 = .ok (.sipush 256, 3) := by decide +kernel
theorem dX1_makeWorlds_49 : decode cX1_makeWorlds 49 = .ok (.invokestatic 87, 3) := by decide +kernel
theorem dX1_makeWorlds_52 : decode cX1_makeWorlds 52 = .ok (.putfield 71, 3) := by decide +kernel
theorem dX1_makeWorlds_55 : decode cX1_makeWorlds 55 = .ok (.aload_n 0, 1) := by decide +kernel
theorem dX1_makeWorlds_56 : decode cX1_makeWorlds 56 = .ok (.iconst 0, 1) := by decide +kernel
theorem dX1_makeWorlds_57 : decode cX1_makeWorlds 57 = .ok (.putfield 74, 3) := by decide +kernel
theorem dX1_makeWorlds_60 : decode cX1_makeWorlds 60 = .ok (.iconst 0, 1) := by decide +kernel
theorem dX1_makeWorlds_61 : decode cX1_makeWorlds 61 = .ok (.istore_n 3, 1) := by decide +kernel
theorem dX1_makeWorlds_62 : decode cX1_makeWorlds 62 = .ok (.iload_n 3, 1) := by decide +kernel
theorem dX1_makeWorlds_63 : decode cX1_makeWorlds 63 = .ok (.aload_n 0, 1) := by decide +kernel
theorem dX1_makeWorlds_64 : decode cX1_makeWorlds 64 = .ok (.getfield 71, 3) := by decide +kernel
theorem dX1_makeWorlds_67 : decode cX1_makeWorlds 67 = .ok (.if_icmp .ge 47, 3) := by decide +kernel
theorem dX1_makeWorlds_70 : decode cX1_makeWorlds 70 = .ok (.aload_n 0, 1) := by decide +kernel
theorem dX1_makeWorlds_71 : decode cX1_makeWorlds 71 = .ok (.getfield 34, 3) := by decide +kernel
theorem dX1_makeWorlds_74 : decode cX1_makeWorlds 74 = .ok (.iload_n 3, 1) := by decide +kernel
theorem dX1_makeWorlds_75 : decode cX1_makeWorlds 75 = .ok (.iconst 0, 1) := by decide +kernel
theorem dX1_makeWorlds_76 : decode cX1_makeWorlds 76 = .ok (.iastore, 1) := by decide +kernel
theorem dX1_makeWorlds_77 : decode cX1_makeWorlds 77 = .ok (.aload_n 0, 1) := by decide +kernel
theorem dX1_makeWorlds_78 : decode cX1_makeWorlds 78 = .ok (.getfield 31, 3) := by decide +kernel
theorem dX1_makeWorlds_81 : decode cX1_makeWorlds 81 = .ok (.iload_n 3, 1) := by decide +kernel
theorem dX1_makeWorlds_82 : decode cX1_makeWorlds 82 = .ok (.aload_n 0, 1) := by decide +kernel
theorem dX1_makeWorlds_83 : decode cX1_makeWorlds 83 = .ok (.iload_n 3, 1) := by decide +kernel
theorem dX1_makeWorlds_84 : decode cX1_makeWorlds 84 = .ok (.aload_n 1, 1) := by decide +kernel
theorem dX1_makeWorlds_85 : decode cX1_makeWorlds 85 = .ok (.invokevirtual 93, 3) := by decide +kernel
theorem dX1_makeWorlds_88 : decode cX1_makeWorlds 88 = .ok (.iastore, 1) := by decide +kernel
theorem dX1_makeWorlds_89 : decode cX1_makeWorlds 89 = .ok (.aload_n 0, 1) := by decide +kernel
theorem dX1_makeWorlds_90 : decode cX1_makeWorlds 90 = .ok (.getfield 31, 3) := by decide +kernel
theorem dX1_makeWorlds_93 : decode cX1_makeWorlds 93 = .ok (.iload_n 3, 1) := by decide +kernel
theorem dX1_makeWorlds_94 : decode cX1_makeWorlds 94 = .ok (.iaload, 1) := by decide +kernel
theorem dX1_makeWorlds_95 : decode cX1_makeWorlds 95 = .ok (.ifCond .le 13, 3) := by decide +kernel
theorem dX1_makeWorlds_98 : decode cX1_makeWorlds 98 = .ok (.aload_n 0, 1) := by decide +kernel
theorem dX1_makeWorlds_99 : decode cX1_makeWorlds 99 = .ok (.dup, 1) := by decide +kernel
theorem dX1_makeWorlds_100 : decode cX1_makeWorlds 100 = .ok (.getfield 74, 3) := by decide +kernel
theorem dX1_makeWorlds_103 : decode cX1_makeWorlds 103 = .ok (.iconst 1, 1) := by decide +kernel
theorem dX1_makeWorlds_104 : decode cX1_makeWorlds 104 = .ok (.iadd, 1) := by decide +kernel
theorem dX1_makeWorlds_105 : decode cX1_makeWorlds 105 = .ok (.putfield 74, 3) := by decide +kernel
theorem dX1_makeWorlds_108 : decode cX1_makeWorlds 108 = .ok (.iinc 3 1, 3) := by decide +kernel
theorem dX1_makeWorlds_111 : decode cX1_makeWorlds 111 = .ok (.goto (-49), 3) := by decide +kernel
theorem dX1_makeWorlds_114 : decode cX1_makeWorlds 114 = .ok (.return_, 1) := by decide +kernel
theorem dX1_weigh_0 : decode cX1_weigh 0 = .ok (.iconst 1, 1) := by decide +kernel
theorem dX1_weigh_1 : decode cX1_weigh 1 = .ok (.istore_n 3, 1) := by decide +kernel
theorem dX1_weigh_2 : decode cX1_weigh 2 = .ok (.iconst 0, 1) := by decide +kernel
theorem dX1_weigh_3 : decode cX1_weigh 3 = .ok (.istore 4, 2) := by decide +kernel
theorem dX1_weigh_5 : decode cX1_weigh 5 = .ok (.iconst 0, 1) := by decide +kernel
theorem dX1_weigh_6 : decode cX1_weigh 6 = .ok (.istore 5, 2) := by decide +kernel
theorem dX1_weigh_8 : decode cX1_weigh 8 = .ok (.iload 5, 2) := by decide +kernel
theorem dX1_weigh_10 : decode cX1_weigh 10 = .ok (.aload_n 0, 1) := by decide +kernel
theorem dX1_weigh_11 : decode cX1_weigh 11 = .ok (.getfield 59, 3) := by decide +kernel
theorem dX1_weigh_14 : decode cX1_weigh 14 = .ok (.if_icmp .ge 54, 3) := by decide +kernel
theorem dX1_weigh_17 : decode cX1_weigh 17 = .ok (.aload_n 0, 1) := by decide +kernel
theorem dX1_weigh_18 : decode cX1_weigh 18 = .ok (.iload_n 1, 1) := by decide +kernel
theorem dX1_weigh_19 : decode cX1_weigh 19 = .ok (.iload 5, 2) := by decide +kernel
theorem dX1_weigh_21 : decode cX1_weigh 21 = .ok (.invokevirtual 97, 3) := by decide +kernel
theorem dX1_weigh_24 : decode cX1_weigh 24 = .ok (.istore 6, 2) := by decide +kernel
theorem dX1_weigh_26 : decode cX1_weigh 26 = .ok (.iload 6, 2) := by decide +kernel
theorem dX1_weigh_28 : decode cX1_weigh 28 = .ok (.ifCond .lt 13, 3) := by decide +kernel
theorem dX1_weigh_31 : decode cX1_weigh 31 = .ok (.aload_n 2, 1) := by decide +kernel
theorem dX1_weigh_32 : decode cX1_weigh 32 = .ok (.iload 6, 2) := by decide +kernel
theorem dX1_weigh_34 : decode cX1_weigh 34 = .ok (.iaload, 1) := by decide +kernel
theorem dX1_weigh_35 : decode cX1_weigh 35 = .ok (.iload 4, 2) := by decide +kernel
theorem dX1_weigh_37 : decode cX1_weigh 37 = .ok (.iand, 1) := by decide +kernel
theorem dX1_weigh_38 : decode cX1_weigh 38 = .ok (.ifCond .eq 5, 3) := by decide +kernel
theorem dX1_weigh_41 : decode cX1_weigh 41 = .ok (.iconst 0, 1) := by decide +kernel
theorem dX1_weigh_42 : decode cX1_weigh 42 = .ok (.ireturn, 1) := by decide +kernel
theorem dX1_weigh_43 : decode cX1_weigh 43 = .ok (.iload 4, 2) := by decide +kernel
theorem dX1_weigh_45 : decode cX1_weigh 45 = .ok (.iconst 1, 1) := by decide +kernel
theorem dX1_weigh_46 : decode cX1_weigh 46 = .ok (.iload 6, 2) := by decide +kernel
theorem dX1_weigh_48 : decode cX1_weigh 48 = .ok (.ishl, 1) := by decide +kernel
theorem dX1_weigh_49 : decode cX1_weigh 49 = .ok (.ior, 1) := by decide +kernel
theorem dX1_weigh_50 : decode cX1_weigh 50 = .ok (.istore 4, 2) := by decide +kernel
theorem dX1_weigh_52 : decode cX1_weigh 52 = .ok (.iload_n 3, 1) := by decide +kernel
theorem dX1_weigh_53 : decode cX1_weigh 53 = .ok (.aload_n 0, 1) := by decide +kernel
theorem dX1_weigh_54 : decode cX1_weigh 54 = .ok (.getfield 28, 3) := by decide +kernel
theorem dX1_weigh_57 : decode cX1_weigh 57 = .ok (.iload 6, 2) := by decide +kernel
theorem dX1_weigh_59 : decode cX1_weigh 59 = .ok (.iaload, 1) := by decide +kernel
theorem dX1_weigh_60 : decode cX1_weigh 60 = .ok (.imul, 1) := by decide +kernel
theorem dX1_weigh_61 : decode cX1_weigh 61 = .ok (.istore_n 3, 1) := by decide +kernel
theorem dX1_weigh_62 : decode cX1_weigh 62 = .ok (.iinc 5 1, 3) := by decide +kernel
theorem dX1_weigh_65 : decode cX1_weigh 65 = .ok (.goto (-57), 3) := by decide +kernel
theorem dX1_weigh_68 : decode cX1_weigh 68 = .ok (.iload_n 3, 1) := by decide +kernel
theorem dX1_weigh_69 : decode cX1_weigh 69 = .ok (.ireturn, 1) := by decide +kernel
theorem dX1_keepAnswers_0 : decode cX1_keepAnswers 0 = .ok (.aload_n 0, 1) := by decide +kernel
theorem dX1_keepAnswers_1 : decode cX1_keepAnswers 1 = .ok (.getfield 49, 3) := by decide +kernel
theorem dX1_keepAnswers_4 : decode cX1_keepAnswers 4 = .ok (.iload_n 1, 1) := by decide +kernel
theorem dX1_keepAnswers_5 : decode cX1_keepAnswers 5 = .ok (.bipush 12, 2) := by decide +kernel
theorem dX1_keepAnswers_7 : decode cX1_keepAnswers 7 = .ok (.imul, 1) := by decide +kernel
theorem dX1_keepAnswers_8 : decode cX1_keepAnswers 8 = .ok (.iload_n 2, 1) := by decide +kernel
theorem dX1_keepAnswers_9 : decode cX1_keepAnswers 9 = .ok (.iadd, 1) := by decide +kernel
theorem dX1_keepAnswers_10 : decode cX1_keepAnswers 10 = .ok (.sipush 256, 3) := by decide +kernel
theorem dX1_keepAnswers_13 : decode cX1_keepAnswers 13 = .ok (.imul, 1) := by decide +kernel
theorem dX1_keepAnswers_14 : decode cX1_keepAnswers 14 = .ok (.iload_n 3, 1) := by decide +kernel
theorem dX1_keepAnswers_15 : decode cX1_keepAnswers 15 = .ok (.iadd, 1) := by decide +kernel
theorem dX1_keepAnswers_16 : decode cX1_keepAnswers 16 = .ok (.iload 4, 2) := by decide +kernel
theorem dX1_keepAnswers_18 : decode cX1_keepAnswers 18 = .ok (.iastore, 1) := by decide +kernel
theorem dX1_keepAnswers_19 : decode cX1_keepAnswers 19 = .ok (.return_, 1) := by decide +kernel
theorem dX1_packedAnswers_0 : decode cX1_packedAnswers 0 = .ok (.aload_n 0, 1) := by decide +kernel
theorem dX1_packedAnswers_1 : decode cX1_packedAnswers 1 = .ok (.getfield 49, 3) := by decide +kernel
theorem dX1_packedAnswers_4 : decode cX1_packedAnswers 4 = .ok (.iload_n 1, 1) := by decide +kernel
theorem dX1_packedAnswers_5 : decode cX1_packedAnswers 5 = .ok (.bipush 12, 2) := by decide +kernel
theorem dX1_packedAnswers_7 : decode cX1_packedAnswers 7 = .ok (.imul, 1) := by decide +kernel
theorem dX1_packedAnswers_8 : decode cX1_packedAnswers 8 = .ok (.iload_n 2, 1) := by decide +kernel
theorem dX1_packedAnswers_9 : decode cX1_packedAnswers 9 = .ok (.iadd, 1) := by decide +kernel
theorem dX1_packedAnswers_10 : decode cX1_packedAnswers 10 = .ok (.sipush 256, 3) := by decide +kernel
theorem dX1_packedAnswers_13 : decode cX1_packedAnswers 13 = .ok (.imul, 1) := by decide +kernel
theorem dX1_packedAnswers_14 : decode cX1_packedAnswers 14 = .ok (.iload_n 3, 1) := by decide +kernel
theorem dX1_packedAnswers_15 : decode cX1_packedAnswers 15 = .ok (.iadd, 1) := by decide +kernel
theorem dX1_packedAnswers_16 : decode cX1_packedAnswers 16 = .ok (.iaload, 1) := by decide +kernel
theorem dX1_packedAnswers_17 : decode cX1_packedAnswers 17 = .ok (.ireturn, 1) := by decide +kernel
theorem dX1_answerOf_0 : decode cX1_answerOf 0 = .ok (.iload_n 0, 1) := by decide +kernel
theorem dX1_answerOf_1 : decode cX1_answerOf 1 = .ok (.iload_n 1, 1) := by decide +kernel
theorem dX1_answerOf_2 : decode cX1_answerOf 2 = .ok (.iconst 5, 1) := by decide +kernel
theorem dX1_answerOf_3 : decode cX1_answerOf 3 = .ok (.imul, 1) := by decide +kernel
theorem dX1_answerOf_4 : decode cX1_answerOf 4 = .ok (.ishr, 1) := by decide +kernel
theorem dX1_answerOf_5 : decode cX1_answerOf 5 = .ok (.bipush 31, 2) := by decide +kernel
theorem dX1_answerOf_7 : decode cX1_answerOf 7 = .ok (.iand, 1) := by decide +kernel
theorem dX1_answerOf_8 : decode cX1_answerOf 8 = .ok (.ireturn, 1) := by decide +kernel
theorem dX1_kindsAnswering_0 : decode cX1_kindsAnswering 0 = .ok (.iconst 0, 1) := by decide +kernel
theorem dX1_kindsAnswering_1 : decode cX1_kindsAnswering 1 = .ok (.istore_n 2, 1) := by decide +kernel
theorem dX1_kindsAnswering_2 : decode cX1_kindsAnswering 2 = .ok (.iload_n 0, 1) := by decide +kernel
theorem dX1_kindsAnswering_3 : decode cX1_kindsAnswering 3 = .ok (.istore_n 3, 1) := by decide +kernel
theorem dX1_kindsAnswering_4 : decode cX1_kindsAnswering 4 = .ok (.iconst 0, 1) := by decide +kernel
theorem dX1_kindsAnswering_5 : decode cX1_kindsAnswering 5 = .ok (.istore 4, 2) := by decide +kernel
theorem dX1_kindsAnswering_7 : decode cX1_kindsAnswering 7 = .ok (.iload 4, 2) := by decide +kernel
theorem dX1_kindsAnswering_9 : decode cX1_kindsAnswering 9 = .ok (.iconst 4, 1) := by decide +kernel
theorem dX1_kindsAnswering_10 : decode cX1_kindsAnswering 10 = .ok (.if_icmp .ge 28, 3) := by decide +kernel
theorem dX1_kindsAnswering_13 : decode cX1_kindsAnswering 13 = .ok (.iload_n 3, 1) := by decide +kernel
theorem dX1_kindsAnswering_14 : decode cX1_kindsAnswering 14 = .ok (.bipush 31, 2) := by decide +kernel
theorem dX1_kindsAnswering_16 : decode cX1_kindsAnswering 16 = .ok (.iand, 1) := by decide +kernel
theorem dX1_kindsAnswering_17 : decode cX1_kindsAnswering 17 = .ok (.iload_n 1, 1) := by decide +kernel
theorem dX1_kindsAnswering_18 : decode cX1_kindsAnswering 18 = .ok (.if_icmp .ne 10, 3) := by decide +kernel
theorem dX1_kindsAnswering_21 : decode cX1_kindsAnswering 21 = .ok (.iload_n 2, 1) := by decide +kernel
theorem dX1_kindsAnswering_22 : decode cX1_kindsAnswering 22 = .ok (.iconst 1, 1) := by decide +kernel
theorem dX1_kindsAnswering_23 : decode cX1_kindsAnswering 23 = .ok (.iload 4, 2) := by decide +kernel
theorem dX1_kindsAnswering_25 : decode cX1_kindsAnswering 25 = .ok (.ishl, 1) := by decide +kernel
theorem dX1_kindsAnswering_26 : decode cX1_kindsAnswering 26 = .ok (.ior, 1) := by decide +kernel
theorem dX1_kindsAnswering_27 : decode cX1_kindsAnswering 27 = .ok (.istore_n 2, 1) := by decide +kernel
theorem dX1_kindsAnswering_28 : decode cX1_kindsAnswering 28 = .ok (.iload_n 3, 1) := by decide +kernel
theorem dX1_kindsAnswering_29 : decode cX1_kindsAnswering 29 = .ok (.iconst 5, 1) := by decide +kernel
theorem dX1_kindsAnswering_30 : decode cX1_kindsAnswering 30 = .ok (.ishr, 1) := by decide +kernel
theorem dX1_kindsAnswering_31 : decode cX1_kindsAnswering 31 = .ok (.istore_n 3, 1) := by decide +kernel
theorem dX1_kindsAnswering_32 : decode cX1_kindsAnswering 32 = .ok (.iinc 4 1, 3) := by decide +kernel
theorem dX1_kindsAnswering_35 : decode cX1_kindsAnswering 35 = .ok (.goto (-28), 3) := by decide +kernel
theorem dX1_kindsAnswering_38 : decode cX1_kindsAnswering 38 = .ok (.iload_n 2, 1) := by decide +kernel
theorem dX1_kindsAnswering_39 : decode cX1_kindsAnswering 39 = .ok (.ireturn, 1) := by decide +kernel
theorem dX1_answersOf_0 : decode cX1_answersOf 0 = .ok (.iconst 0, 1) := by decide +kernel
theorem dX1_answersOf_1 : decode cX1_answersOf 1 = .ok (.istore_n 2, 1) := by decide +kernel
theorem dX1_answersOf_2 : decode cX1_answersOf 2 = .ok (.iload_n 0, 1) := by decide +kernel
theorem dX1_answersOf_3 : decode cX1_answersOf 3 = .ok (.istore_n 3, 1) := by decide +kernel
theorem dX1_answersOf_4 : decode cX1_answersOf 4 = .ok (.iconst 0, 1) := by decide +kernel
theorem dX1_answersOf_5 : decode cX1_answersOf 5 = .ok (.istore 4, 2) := by decide +kernel
theorem dX1_answersOf_7 : decode cX1_answersOf 7 = .ok (.iload 4, 2) := by decide +kernel
theorem dX1_answersOf_9 : decode cX1_answersOf 9 = .ok (.iconst 4, 1) := by decide +kernel
theorem dX1_answersOf_10 : decode cX1_answersOf 10 = .ok (.if_icmp .ge 31, 3) := by decide +kernel
theorem dX1_answersOf_13 : decode cX1_answersOf 13 = .ok (.iload_n 1, 1) := by decide +kernel
theorem dX1_answersOf_14 : decode cX1_answersOf 14 = .ok (.iload 4, 2) := by decide +kernel
theorem dX1_answersOf_16 : decode cX1_answersOf 16 = .ok (.ishr, 1) := by decide +kernel
theorem dX1_answersOf_17 : decode cX1_answersOf 17 = .ok (.iconst 1, 1) := by decide +kernel
theorem dX1_answersOf_18 : decode cX1_answersOf 18 = .ok (.iand, 1) := by decide +kernel
theorem dX1_answersOf_19 : decode cX1_answersOf 19 = .ok (.ifCond .eq 12, 3) := by decide +kernel
theorem dX1_answersOf_22 : decode cX1_answersOf 22 = .ok (.iload_n 2, 1) := by decide +kernel
theorem dX1_answersOf_23 : decode cX1_answersOf 23 = .ok (.iconst 1, 1) := by decide +kernel
theorem dX1_answersOf_24 : decode cX1_answersOf 24 = .ok (.iload_n 3, 1) := by decide +kernel
theorem dX1_answersOf_25 : decode cX1_answersOf 25 = .ok (.bipush 31, 2) := by decide +kernel
theorem dX1_answersOf_27 : decode cX1_answersOf 27 = .ok (.iand, 1) := by decide +kernel
theorem dX1_answersOf_28 : decode cX1_answersOf 28 = .ok (.ishl, 1) := by decide +kernel
theorem dX1_answersOf_29 : decode cX1_answersOf 29 = .ok (.ior, 1) := by decide +kernel
theorem dX1_answersOf_30 : decode cX1_answersOf 30 = .ok (.istore_n 2, 1) := by decide +kernel
theorem dX1_answersOf_31 : decode cX1_answersOf 31 = .ok (.iload_n 3, 1) := by decide +kernel
theorem dX1_answersOf_32 : decode cX1_answersOf 32 = .ok (.iconst 5, 1) := by decide +kernel
theorem dX1_answersOf_33 : decode cX1_answersOf 33 = .ok (.ishr, 1) := by decide +kernel
theorem dX1_answersOf_34 : decode cX1_answersOf 34 = .ok (.istore_n 3, 1) := by decide +kernel
theorem dX1_answersOf_35 : decode cX1_answersOf 35 = .ok (.iinc 4 1, 3) := by decide +kernel
theorem dX1_answersOf_38 : decode cX1_answersOf 38 = .ok (.goto (-31), 3) := by decide +kernel
theorem dX1_answersOf_41 : decode cX1_answersOf 41 = .ok (.iload_n 2, 1) := by decide +kernel
theorem dX1_answersOf_42 : decode cX1_answersOf 42 = .ok (.ireturn, 1) := by decide +kernel
theorem dX2_init_0 : decode cX2_init 0 = .ok (.aload_n 0, 1) := by decide +kernel
theorem dX2_init_1 : decode cX2_init 1 = .ok (.invokespecial 3, 3) := by decide +kernel
theorem dX2_init_4 : decode cX2_init 4 = .ok (.aload_n 0, 1) := by decide +kernel
theorem dX2_init_5 : decode cX2_init 5 = .ok (.new 9, 3) := by decide +kernel
theorem dX2_init_8 : decode cX2_init 8 = .ok (.dup, 1) := by decide +kernel
theorem dX2_init_9 : decode cX2_init 9 = .ok (.invokespecial 11, 3) := by decide +kernel
theorem dX2_init_12 : decode cX2_init 12 = .ok (.putfield 12, 3) := by decide +kernel
theorem dX2_init_15 : decode cX2_init 15 = .ok (.aload_n 0, 1) := by decide +kernel
theorem dX2_init_16 : decode cX2_init 16 = .ok (.bipush 24, 2) := by decide +kernel
theorem dX2_init_18 : decode cX2_init 18 = .ok (.newarray .int, 2) := by decide +kernel
theorem dX2_init_20 : decode cX2_init 20 = .ok (.putfield 18, 3) := by decide +kernel
theorem dX2_init_23 : decode cX2_init 23 = .ok (.aload_n 0, 1) := by decide +kernel
theorem dX2_init_24 : decode cX2_init 24 = .ok (.bipush 96, 2) := by decide +kernel
theorem dX2_init_26 : decode cX2_init 26 = .ok (.newarray .long, 2) := by decide +kernel
theorem dX2_init_28 : decode cX2_init 28 = .ok (.putfield 22, 3) := by decide +kernel
theorem dX2_init_31 : decode cX2_init 31 = .ok (.aload_n 0, 1) := by decide +kernel
theorem dX2_init_32 : decode cX2_init 32 = .ok (.iconst 4, 1) := by decide +kernel
theorem dX2_init_33 : decode cX2_init 33 = .ok (.newarray .long, 2) := by decide +kernel
theorem dX2_init_35 : decode cX2_init 35 = .ok (.putfield 26, 3) := by decide +kernel
theorem dX2_init_38 : decode cX2_init 38 = .ok (.aload_n 0, 1) := by decide +kernel
theorem dX2_init_39 : decode cX2_init 39 = .ok (.bipush 84, 2) := by decide +kernel
theorem dX2_init_41 : decode cX2_init 41 = .ok (.newarray .long, 2) := by decide +kernel
theorem dX2_init_43 : decode cX2_init 43 = .ok (.putfield 29, 3) := by decide +kernel
theorem dX2_init_46 : decode cX2_init 46 = .ok (.aload_n 0, 1) := by decide +kernel
theorem dX2_init_47 : decode cX2_init 47 = .ok (.iconst 0, 1) := by decide +kernel
theorem dX2_init_48 : decode cX2_init 48 = .ok (.putfield 32, 3) := by decide +kernel
theorem dX2_init_51 : decode cX2_init 51 = .ok (.aload_n 0, 1) := by decide +kernel
theorem dX2_init_52 : decode cX2_init 52 = .ok (.aload_n 1, 1) := by decide +kernel
theorem dX2_init_53 : decode cX2_init 53 = .ok (.putfield 36, 3) := by decide +kernel
theorem dX2_init_56 : decode cX2_init 56 = .ok (.aload_n 0, 1) := by decide +kernel
theorem dX2_init_57 : decode cX2_init 57 = .ok (.aload_n 2, 1) := by decide +kernel
theorem dX2_init_58 : decode cX2_init 58 = .ok (.putfield 40, 3) := by decide +kernel
theorem dX2_init_61 : decode cX2_init 61 = .ok (.return_, 1) := by decide +kernel
theorem dX2_readCase_0 : decode cX2_readCase 0 = .ok (.aload_n 0, 1) := by decide +kernel
theorem dX2_readCase_1 : decode cX2_readCase 1 = .ok (.aload_n 1, 1) := by decide +kernel
theorem dX2_readCase_2 : decode cX2_readCase 2 = .ok (.putfield 40, 3) := by decide +kernel
theorem dX2_readCase_5 : decode cX2_readCase 5 = .ok (.aload_n 0, 1) := by decide +kernel
theorem dX2_readCase_6 : decode cX2_readCase 6 = .ok (.getfield 40, 3) := by decide +kernel
theorem dX2_readCase_9 : decode cX2_readCase 9 = .ok (.invokevirtual 44, 3) := by decide +kernel
theorem dX2_readCase_12 : decode cX2_readCase 12 = .ok (.aload_n 0, 1) := by decide +kernel
theorem dX2_readCase_13 : decode cX2_readCase 13 = .ok (.iconst 0, 1) := by decide +kernel
theorem dX2_readCase_14 : decode cX2_readCase 14 = .ok (.putfield 32, 3) := by decide +kernel
theorem dX2_readCase_17 : decode cX2_readCase 17 = .ok (.aload_n 0, 1) := by decide +kernel
theorem dX2_readCase_18 : decode cX2_readCase 18 = .ok (.getfield 18, 3) := by decide +kernel
theorem dX2_readCase_21 : decode cX2_readCase 21 = .ok (.iconst 0, 1) := by decide +kernel
theorem dX2_readCase_22 : decode cX2_readCase 22 = .ok (.invokestatic 49, 3) := by decide +kernel
theorem dX2_readCase_25 : decode cX2_readCase 25 = .ok (.iconst 1, 1) := by decide +kernel
theorem dX2_readCase_26 : decode cX2_readCase 26 = .ok (.istore_n 2, 1) := by decide +kernel
theorem dX2_readCase_27 : decode cX2_readCase 27 = .ok (.iconst 0, 1) := by decide +kernel
theorem dX2_readCase_28 : decode cX2_readCase 28 = .ok (.istore_n 3, 1) := by decide +kernel
theorem dX2_readCase_29 : decode cX2_readCase 29 = .ok (.iload_n 3, 1) := by decide +kernel
theorem dX2_readCase_30 : decode cX2_readCase 30 = .ok (.sipush 901, 3) := by decide +kernel
theorem dX2_readCase_33 : decode cX2_readCase 33 = .ok (.if_icmp .ge 114, 3) := by decide +kernel
theorem dX2_readCase_36 : decode cX2_readCase 36 = .ok (.iload_n 2, 1) := by decide +kernel
theorem dX2_readCase_37 : decode cX2_readCase 37 = .ok (.ifCond .eq 110, 3) := by decide +kernel
theorem dX2_readCase_40 : decode cX2_readCase 40 = .ok (.aload_n 0, 1) := by decide +kernel
theorem dX2_readCase_41 : decode cX2_readCase 41 = .ok (.getfield 36, 3) := by decide +kernel
theorem dX2_readCase_44 : decode cX2_readCase 44 = .ok (.getfield 55, 3) := by decide +kernel
theorem dX2_readCase_47 : decode cX2_readCase 47 = .ok (.ifCond .eq 100, 3) := by decide +kernel
theorem dX2_readCase_50 : decode cX2_readCase 50 = .ok (.aload_n 0, 1) := by decide +kernel
theorem dX2_readCase_51 : decode cX2_readCase 51 = .ok (.getfield 36, 3) := by decide +kernel
theorem dX2_readCase_54 : decode cX2_readCase 54 = .ok (.getfield 55, 3) := by decide +kernel
theorem dX2_readCase_57 : decode cX2_readCase 57 = .ok (.tableswitch 75 8 14 #[43, 75, 51, 59, 75, 75, 67], 43) := by decide +kernel
theorem dX2_readCase_100 : decode cX2_readCase 100 = .ok (.aload_n 0, 1) := by decide +kernel
theorem dX2_readCase_101 : decode cX2_readCase 101 = .ok (.invokevirtual 61, 3) := by decide +kernel
theorem dX2_readCase_104 : decode cX2_readCase 104 = .ok (.istore_n 2, 1) := by decide +kernel
theorem dX2_readCase_105 : decode cX2_readCase 105 = .ok (.goto 36, 3) := by decide +kernel
theorem dX2_readCase_108 : decode cX2_readCase 108 = .ok (.aload_n 0, 1) := by decide +kernel
theorem dX2_readCase_109 : decode cX2_readCase 109 = .ok (.invokevirtual 65, 3) := by decide +kernel
theorem dX2_readCase_112 : decode cX2_readCase 112 = .ok (.istore_n 2, 1) := by decide +kernel
theorem dX2_readCase_113 : decode cX2_readCase 113 = .ok (.goto 28, 3) := by decide +kernel
theorem dX2_readCase_116 : decode cX2_readCase 116 = .ok (.aload_n 0, 1) := by decide +kernel
theorem dX2_readCase_117 : decode cX2_readCase 117 = .ok (.invokevirtual 68, 3) := by decide +kernel
theorem dX2_readCase_120 : decode cX2_readCase 120 = .ok (.istore_n 2, 1) := by decide +kernel
theorem dX2_readCase_121 : decode cX2_readCase 121 = .ok (.goto 20, 3) := by decide +kernel
theorem dX2_readCase_124 : decode cX2_readCase 124 = .ok (.aload_n 0, 1) := by decide +kernel
theorem dX2_readCase_125 : decode cX2_readCase 125 = .ok (.invokevirtual 71, 3) := by decide +kernel
theorem dX2_readCase_128 : decode cX2_readCase 128 = .ok (.istore_n 2, 1) := by decide +kernel
theorem dX2_readCase_129 : decode cX2_readCase 129 = .ok (.goto 12, 3) := by decide +kernel
theorem dX2_readCase_132 : decode cX2_readCase 132 = .ok (.aload_n 0, 1) := by decide +kernel
theorem dX2_readCase_133 : decode cX2_readCase 133 = .ok (.getfield 36, 3) := by decide +kernel
theorem dX2_readCase_136 : decode cX2_readCase 136 = .ok (.iconst 2, 1) := by decide +kernel
theorem dX2_readCase_137 : decode cX2_readCase 137 = .ok (.invokevirtual 74, 3) := by decide +kernel
theorem dX2_readCase_140 : decode cX2_readCase 140 = .ok (.istore_n 2, 1) := by decide +kernel
theorem dX2_readCase_141 : decode cX2_readCase 141 = .ok (.iinc 3 1, 3) := by decide +kernel
theorem dX2_readCase_144 : decode cX2_readCase 144 = .ok (.goto (-115), 3) := by decide +kernel
theorem dX2_readCase_147 : decode cX2_readCase 147 = .ok (.iload_n 2, 1) := by decide +kernel
theorem dX2_readCase_148 : decode cX2_readCase 148 = .ok (.ifCond .eq 18, 3) := by decide +kernel
theorem dX2_readCase_151 : decode cX2_readCase 151 = .ok (.aload_n 0, 1) := by decide +kernel
theorem dX2_readCase_152 : decode cX2_readCase 152 = .ok (.invokevirtual 78, 3) := by decide +kernel
theorem dX2_readCase_155 : decode cX2_readCase 155 = .ok (.aload_n 0, 1) := by decide +kernel
theorem dX2_readCase_156 : decode cX2_readCase 156 = .ok (.getfield 12, 3) := by decide +kernel
theorem dX2_readCase_159 : decode cX2_readCase 159 = .ok (.aload_n 0, 1) := by decide +kernel
theorem dX2_readCase_160 : decode cX2_readCase 160 = .ok (.getfield 40, 3) := by decide +kernel
theorem dX2_readCase_163 : decode cX2_readCase 163 = .ok (.invokevirtual 81, 3) := by decide +kernel
theorem dX2_readCase_166 : decode cX2_readCase 166 = .ok (.iload_n 2, 1) := by decide +kernel
theorem dX2_readCase_167 : decode cX2_readCase 167 = .ok (.ireturn, 1) := by decide +kernel
theorem dX2_readFact_0 : decode cX2_readFact 0 = .ok (.aload_n 0, 1) := by decide +kernel
theorem dX2_readFact_1 : decode cX2_readFact 1 = .ok (.getfield 40, 3) := by decide +kernel
theorem dX2_readFact_4 : decode cX2_readFact 4 = .ok (.getfield 85, 3) := by decide +kernel
theorem dX2_readFact_7 : decode cX2_readFact 7 = .ok (.iconst 4, 1) := by decide +kernel
theorem dX2_readFact_8 : decode cX2_readFact 8 = .ok (.if_icmp .lt 13, 3) := by decide +kernel
theorem dX2_readFact_11 : decode cX2_readFact 11 = .ok (.aload_n 0, 1) := by decide +kernel
theorem dX2_readFact_12 : decode cX2_readFact 12 = .ok (.getfield 36, 3) := by decide +kernel
theorem dX2_readFact_15 : decode cX2_readFact 15 = .ok (.bipush 6, 2) := by decide +kernel
theorem dX2_readFact_17 : decode cX2_readFact 17 = .ok (.invokevirtual 74, 3) := by decide +kernel
theorem dX2_readFact_20 : decode cX2_readFact 20 = .ok (.ireturn, 1) := by decide +kernel
theorem dX2_readFact_21 : decode cX2_readFact 21 = .ok (.aload_n 0, 1) := by decide +kernel
theorem dX2_readFact_22 : decode cX2_readFact 22 = .ok (.getfield 40, 3) := by decide +kernel
theorem dX2_readFact_25 : decode cX2_readFact 25 = .ok (.getfield 88, 3) := by decide +kernel
theorem dX2_readFact_28 : decode cX2_readFact 28 = .ok (.ifCond .le 13, 3) := by decide +kernel
theorem dX2_readFact_31 : decode cX2_readFact 31 = .ok (.aload_n 0, 1) := by decide +kernel
theorem dX2_readFact_32 : decode cX2_readFact 32 = .ok (.getfield 36, 3) := by decide +kernel
theorem dX2_readFact_35 : decode cX2_readFact 35 = .ok (.bipush 7, 2) := by decide +kernel
theorem dX2_readFact_37 : decode cX2_readFact 37 = .ok (.invokevirtual 74, 3) := by decide +kernel
theorem dX2_readFact_40 : decode cX2_readFact 40 = .ok (.ireturn, 1) := by decide +kernel
theorem dX2_readFact_41 : decode cX2_readFact 41 = .ok (.aload_n 0, 1) := by decide +kernel
theorem dX2_readFact_42 : decode cX2_readFact 42 = .ok (.getfield 36, 3) := by decide +kernel
theorem dX2_readFact_45 : decode cX2_readFact 45 = .ok (.invokevirtual 91, 3) := by decide +kernel
theorem dX2_readFact_48 : decode cX2_readFact 48 = .ok (.aload_n 0, 1) := by decide +kernel
theorem dX2_readFact_49 : decode cX2_readFact 49 = .ok (.iconst 0, 1) := by decide +kernel
theorem dX2_readFact_50 : decode cX2_readFact 50 = .ok (.aload_n 0, 1) := by decide +kernel
theorem dX2_readFact_51 : decode cX2_readFact 51 = .ok (.getfield 40, 3) := by decide +kernel
theorem dX2_readFact_54 : decode cX2_readFact 54 = .ok (.getfield 85, 3) := by decide +kernel
theorem dX2_readFact_57 : decode cX2_readFact 57 = .ok (.invokevirtual 94, 3) := by decide +kernel
theorem dX2_readFact_60 : decode cX2_readFact 60 = .ok (.ifCond .eq 15, 3) := by decide +kernel
theorem dX2_readFact_63 : decode cX2_readFact 63 = .ok (.aload_n 0, 1) := by decide +kernel
theorem dX2_readFact_64 : decode cX2_readFact 64 = .ok (.getfield 36, 3) := by decide +kernel
theorem dX2_readFact_67 : decode cX2_readFact 67 = .ok (.bipush 9, 2) := by decide +kernel
theorem dX2_readFact_69 : decode cX2_readFact 69 = .ok (.invokevirtual 98, 3) := by decide +kernel
theorem dX2_readFact_72 : decode cX2_readFact 72 = .ok (.ifCond .ne 5, 3) := by decide +kernel
theorem dX2_readFact_75 : decode cX2_readFact 75 = .ok (.iconst 0, 1) := by decide +kernel
theorem dX2_readFact_76 : decode cX2_readFact 76 = .ok (.ireturn, 1) := by decide +kernel
theorem dX2_readFact_77 : decode cX2_readFact 77 = .ok (.aload_n 0, 1) := by decide +kernel
theorem dX2_readFact_78 : decode cX2_readFact 78 = .ok (.getfield 40, 3) := by decide +kernel
theorem dX2_readFact_81 : decode cX2_readFact 81 = .ok (.getfield 101, 3) := by decide +kernel
theorem dX2_readFact_84 : decode cX2_readFact 84 = .ok (.aload_n 0, 1) := by decide +kernel
theorem dX2_readFact_85 : decode cX2_readFact 85 = .ok (.getfield 40, 3) := by decide +kernel
theorem dX2_readFact_88 : decode cX2_readFact 88 = .ok (.getfield 85, 3) := by decide +kernel
theorem dX2_readFact_91 : decode cX2_readFact 91 = .ok (.aload_n 0, 1) := by decide +kernel
theorem dX2_readFact_92 : decode cX2_readFact 92 = .ok (.getfield 40, 3) := by decide +kernel
theorem dX2_readFact_95 : decode cX2_readFact 95 = .ok (.getfield 104, 3) := by decide +kernel
theorem dX2_readFact_98 : decode cX2_readFact 98 = .ok (.iastore, 1) := by decide +kernel
theorem dX2_readFact_99 : decode cX2_readFact 99 = .ok (.iconst 0, 1) := by decide +kernel
theorem dX2_readFact_100 : decode cX2_readFact 100 = .ok (.istore_n 1, 1) := by decide +kernel
theorem dX2_readFact_101 : decode cX2_readFact 101 = .ok (.iload_n 1, 1) := by decide +kernel
theorem dX2_readFact_102 : decode cX2_readFact 102 = .ok (.bipush 6, 2) := by decide +kernel
theorem dX2_readFact_104 : decode cX2_readFact 104 = .ok (.if_icmp .gt 34, 3) := by decide +kernel
theorem dX2_readFact_107 : decode cX2_readFact 107 = .ok (.iload_n 1, 1) := by decide +kernel
theorem dX2_readFact_108 : decode cX2_readFact 108 = .ok (.ifCond .eq 14, 3) := by decide +kernel
theorem dX2_readFact_111 : decode cX2_readFact 111 = .ok (.aload_n 0, 1) := by decide +kernel
theorem dX2_readFact_112 : decode cX2_readFact 112 = .ok (.getfield 36, 3) := by decide +kernel
theorem dX2_readFact_115 : decode cX2_readFact 115 = .ok (.getfield 55, 3) := by decide +kernel
theorem dX2_readFact_118 : decode cX2_readFact 118 = .ok (.iconst 3, 1) := by decide +kernel
theorem dX2_readFact_119 : decode cX2_readFact 119 = .ok (.if_icmp .eq 19, 3) := by decide +kernel
theorem dX2_readFact_122 : decode cX2_readFact 122 = .ok (.aload_n 0, 1) := by decide +kernel
theorem dX2_readFact_123 : decode cX2_readFact 123 = .ok (.iload_n 1, 1) := by decide +kernel
theorem dX2_readFact_124 : decode cX2_readFact 124 = .ok (.invokevirtual 107, 3) := by decide +kernel
theorem dX2_readFact_127 : decode cX2_readFact 127 = .ok (.ifCond .ne 5, 3) := by decide +kernel
theorem dX2_readFact_130 : decode cX2_readFact 130 = .ok (.iconst 0, 1) := by decide +kernel
theorem dX2_readFact_131 : decode cX2_readFact 131 = .ok (.ireturn, 1) := by decide +kernel
theorem dX2_readFact_132 : decode cX2_readFact 132 = .ok (.iinc 1 1, 3) := by decide +kernel
theorem dX2_readFact_135 : decode cX2_readFact 135 = .ok (.goto (-34), 3) := by decide +kernel
theorem dX2_readFact_138 : decode cX2_readFact 138 = .ok (.aload_n 0, 1) := by decide +kernel
theorem dX2_readFact_139 : decode cX2_readFact 139 = .ok (.invokevirtual 110, 3) := by decide +kernel
theorem dX2_readFact_142 : decode cX2_readFact 142 = .ok (.ireturn, 1) := by decide +kernel
theorem dX2_readValue_0 : decode cX2_readValue 0 = .ok (.aload_n 0, 1) := by decide +kernel
theorem dX2_readValue_1 : decode cX2_readValue 1 = .ok (.invokevirtual 113, 3) := by decide +kernel
theorem dX2_readValue_4 : decode cX2_readValue 4 = .ok (.ifCond .ne 5, 3) := by decide +kernel
theorem dX2_readValue_7 : decode cX2_readValue 7 = .ok (.iconst 0, 1) := by decide +kernel
theorem dX2_readValue_8 : decode cX2_readValue 8 = .ok (.ireturn, 1) := by decide +kernel
theorem dX2_readValue_9 : decode cX2_readValue 9 = .ok (.iload_n 1, 1) := by decide +kernel
theorem dX2_readValue_10 : decode cX2_readValue 10 = .ok (.bipush 6, 2) := by decide +kernel
theorem dX2_readValue_12 : decode cX2_readValue 12 = .ok (.if_icmp .lt 13, 3) := by decide +kernel
theorem dX2_readValue_15 : decode cX2_readValue 15 = .ok (.aload_n 0, 1) := by decide +kernel
theorem dX2_readValue_16 : decode cX2_readValue 16 = .ok (.getfield 36, 3) := by decide +kernel
theorem dX2_readValue_19 : decode cX2_readValue 19 = .ok (.bipush 6, 2) := by decide +kernel
theorem dX2_readValue_21 : decode cX2_readValue 21 = .ok (.invokevirtual 74, 3) := by decide +kernel
theorem dX2_readValue_24 : decode cX2_readValue 24 = .ok (.ireturn, 1) := by decide +kernel
theorem dX2_readValue_25 : decode cX2_readValue 25 = .ok (.aload_n 0, 1) := by decide +kernel
theorem dX2_readValue_26 : decode cX2_readValue 26 = .ok (.getfield 40, 3) := by decide +kernel
theorem dX2_readValue_29 : decode cX2_readValue 29 = .ok (.getfield 104, 3) := by decide +kernel
theorem dX2_readValue_32 : decode cX2_readValue 32 = .ok (.istore_n 2, 1) := by decide +kernel
theorem dX2_readValue_33 : decode cX2_readValue 33 = .ok (.aload_n 0, 1) := by decide +kernel
theorem dX2_readValue_34 : decode cX2_readValue 34 = .ok (.getfield 40, 3) := by decide +kernel
theorem dX2_readValue_37 : decode cX2_readValue 37 = .ok (.getfield 116, 3) := by decide +kernel
theorem dX2_readValue_40 : decode cX2_readValue 40 = .ok (.aload_n 0, 1) := by decide +kernel
theorem dX2_readValue_41 : decode cX2_readValue 41 = .ok (.getfield 36, 3) := by decide +kernel
theorem dX2_readValue_44 : decode cX2_readValue 44 = .ok (.getfield 120, 3) := by decide +kernel
theorem dX2_readValue_47 : decode cX2_readValue 47 = .ok (.iconst 1, 1) := by decide +kernel
theorem dX2_readValue_48 : decode cX2_readValue 48 = .ok (.iload_n 2, 1) := by decide +kernel
theorem dX2_readValue_49 : decode cX2_readValue 49 = .ok (.invokevirtual 124, 3) := by decide +kernel
theorem dX2_readValue_52 : decode cX2_readValue 52 = .ok (.aload_n 0, 1) := by decide +kernel
theorem dX2_readValue_53 : decode cX2_readValue 53 = .ok (.getfield 40, 3) := by decide +kernel
theorem dX2_readValue_56 : decode cX2_readValue 56 = .ok (.getfield 130, 3) := by decide +kernel
theorem dX2_readValue_59 : decode cX2_readValue 59 = .ok (.iload_n 2, 1) := by decide +kernel
theorem dX2_readValue_60 : decode cX2_readValue 60 = .ok (.aload_n 0, 1) := by decide +kernel
theorem dX2_readValue_61 : decode cX2_readValue 61 = .ok (.getfield 40, 3) := by decide +kernel
theorem dX2_readValue_64 : decode cX2_readValue 64 = .ok (.getfield 85, 3) := by decide +kernel
theorem dX2_readValue_67 : decode cX2_readValue 67 = .ok (.iastore, 1) := by decide +kernel
theorem dX2_readValue_68 : decode cX2_readValue 68 = .ok (.aload_n 0, 1) := by decide +kernel
theorem dX2_readValue_69 : decode cX2_readValue 69 = .ok (.getfield 40, 3) := by decide +kernel
theorem dX2_readValue_72 : decode cX2_readValue 72 = .ok (.getfield 133, 3) := by decide +kernel
theorem dX2_readValue_75 : decode cX2_readValue 75 = .ok (.iload_n 2, 1) := by decide +kernel
theorem dX2_readValue_76 : decode cX2_readValue 76 = .ok (.iconst 1, 1) := by decide +kernel
theorem dX2_readValue_77 : decode cX2_readValue 77 = .ok (.iastore, 1) := by decide +kernel
theorem dX2_readValue_78 : decode cX2_readValue 78 = .ok (.aload_n 0, 1) := by decide +kernel
theorem dX2_readValue_79 : decode cX2_readValue 79 = .ok (.getfield 40, 3) := by decide +kernel
theorem dX2_readValue_82 : decode cX2_readValue 82 = .ok (.dup, 1) := by decide +kernel
theorem dX2_readValue_83 : decode cX2_readValue 83 = .ok (.getfield 104, 3) := by decide +kernel
theorem dX2_readValue_86 : decode cX2_readValue 86 = .ok (.iconst 1, 1) := by decide +kernel
theorem dX2_readValue_87 : decode cX2_readValue 87 = .ok (.iadd, 1) := by decide +kernel
theorem dX2_readValue_88 : decode cX2_readValue 88 = .ok (.putfield 104, 3) := by decide +kernel
theorem dX2_readValue_91 : decode cX2_readValue 91 = .ok (.aload_n 0, 1) := by decide +kernel
theorem dX2_readValue_92 : decode cX2_readValue 92 = .ok (.getfield 36, 3) := by decide +kernel
theorem dX2_readValue_95 : decode cX2_readValue 95 = .ok (.invokevirtual 91, 3) := by decide +kernel
theorem dX2_readValue_98 : decode cX2_readValue 98 = .ok (.aload_n 0, 1) := by decide +kernel
theorem dX2_readValue_99 : decode cX2_readValue 99 = .ok (.getfield 36, 3) := by decide +kernel
theorem dX2_readValue_102 : decode cX2_readValue 102 = .ok (.getfield 55, 3) := by decide +kernel
theorem dX2_readValue_105 : decode cX2_readValue 105 = .ok (.iconst 2, 1) := by decide +kernel
theorem dX2_readValue_106 : decode cX2_readValue 106 = .ok (.if_icmp .ne 22, 3) := by decide +kernel
theorem dX2_readValue_109 : decode cX2_readValue 109 = .ok (.aload_n 0, 1) := by decide +kernel
theorem dX2_readValue_110 : decode cX2_readValue 110 = .ok (.getfield 40, 3) := by decide +kernel
theorem dX2_readValue_113 : decode cX2_readValue 113 = .ok (.getfield 133, 3) := by decide +kernel
theorem dX2_readValue_116 : decode cX2_readValue 116 = .ok (.iload_n 2, 1) := by decide +kernel
theorem dX2_readValue_117 : decode cX2_readValue 117 = .ok (.aload_n 0, 1) := by decide +kernel
theorem dX2_readValue_118 : decode cX2_readValue 118 = .ok (.getfield 36, 3) := by decide +kernel
theorem dX2_readValue_121 : decode cX2_readValue 121 = .ok (.iconst 1, 1) := by decide +kernel
theorem dX2_readValue_122 : decode cX2_readValue 122 = .ok (.bipush 9, 2) := by decide +kernel
theorem dX2_readValue_124 : decode cX2_readValue 124 = .ok (.invokevirtual 136, 3) := by decide +kernel
theorem dX2_readValue_127 : decode cX2_readValue 127 = .ok (.iastore, 1) := by decide +kernel
theorem dX2_readValue_128 : decode cX2_readValue 128 = .ok (.aload_n 0, 1) := by decide +kernel
theorem dX2_readValue_129 : decode cX2_readValue 129 = .ok (.getfield 36, 3) := by decide +kernel
theorem dX2_readValue_132 : decode cX2_readValue 132 = .ok (.getfield 140, 3) := by decide +kernel
theorem dX2_readValue_135 : decode cX2_readValue 135 = .ok (.ifCond .ne 7, 3) := by decide +kernel
theorem dX2_readValue_138 : decode cX2_readValue 138 = .ok (.iconst 1, 1) := by decide +kernel
theorem dX2_readValue_139 : decode cX2_readValue 139 = .ok (.goto 4, 3) := by decide +kernel
theorem dX2_readValue_142 : decode cX2_readValue 142 = .ok (.iconst 0, 1) := by decide +kernel
theorem dX2_readValue_143 : decode cX2_readValue 143 = .ok (.ireturn, 1) := by decide +kernel
theorem dX2_closeFact_0 : decode cX2_closeFact 0 = .ok (.aload_n 0, 1) := by decide +kernel
theorem dX2_closeFact_1 : decode cX2_closeFact 1 = .ok (.getfield 40, 3) := by decide +kernel
theorem dX2_closeFact_4 : decode cX2_closeFact 4 = .ok (.getfield 104, 3) := by decide +kernel
theorem dX2_closeFact_7 : decode cX2_closeFact 7 = .ok (.aload_n 0, 1) := by decide +kernel
theorem dX2_closeFact_8 : decode cX2_closeFact 8 = .ok (.getfield 40, 3) := by decide +kernel
theorem dX2_closeFact_11 : decode cX2_closeFact 11 = .ok (.getfield 101, 3) := by decide +kernel
theorem dX2_closeFact_14 : decode cX2_closeFact 14 = .ok (.aload_n 0, 1) := by decide +kernel
theorem dX2_closeFact_15 : decode cX2_closeFact 15 = .ok (.getfield 40, 3) := by decide +kernel
theorem dX2_closeFact_18 : decode cX2_closeFact 18 = .ok (.getfield 85, 3) := by decide +kernel
theorem dX2_closeFact_21 : decode cX2_closeFact 21 = .ok (.iaload, 1) := by decide +kernel
theorem dX2_closeFact_22 : decode cX2_closeFact 22 = .ok (.isub, 1) := by decide +kernel
theorem dX2_closeFact_23 : decode cX2_closeFact 23 = .ok (.istore_n 1, 1) := by decide +kernel
theorem dX2_closeFact_24 : decode cX2_closeFact 24 = .ok (.iload_n 1, 1) := by decide +kernel
theorem dX2_closeFact_25 : decode cX2_closeFact 25 = .ok (.iconst 2, 1) := by decide +kernel
theorem dX2_closeFact_26 : decode cX2_closeFact 26 = .ok (.if_icmp .lt 18, 3) := by decide +kernel
theorem dX2_closeFact_29 : decode cX2_closeFact 29 = .ok (.aload_n 0, 1) := by decide +kernel
theorem dX2_closeFact_30 : decode cX2_closeFact 30 = .ok (.getfield 40, 3) := by decide +kernel
theorem dX2_closeFact_33 : decode cX2_closeFact 33 = .ok (.getfield 143, 3) := by decide +kernel
theorem dX2_closeFact_36 : decode cX2_closeFact 36 = .ok (.iload_n 1, 1) := by decide +kernel
theorem dX2_closeFact_37 : decode cX2_closeFact 37 = .ok (.imul, 1) := by decide +kernel
theorem dX2_closeFact_38 : decode cX2_closeFact 38 = .ok (.sipush 256, 3) := by decide +kernel
theorem dX2_closeFact_41 : decode cX2_closeFact 41 = .ok (.if_icmp .le 13, 3) := by decide +kernel
theorem dX2_closeFact_44 : decode cX2_closeFact 44 = .ok (.aload_n 0, 1) := by decide +kernel
theorem dX2_closeFact_45 : decode cX2_closeFact 45 = .ok (.getfield 36, 3) := by decide +kernel
theorem dX2_closeFact_48 : decode cX2_closeFact 48 = .ok (.bipush 8, 2) := by decide +kernel
theorem dX2_closeFact_50 : decode cX2_closeFact 50 = .ok (.invokevirtual 74, 3) := by decide +kernel
theorem dX2_closeFact_53 : decode cX2_closeFact 53 = .ok (.ireturn, 1) := by decide +kernel
theorem dX2_closeFact_54 : decode cX2_closeFact 54 = .ok (.aload_n 0, 1) := by decide +kernel
theorem dX2_closeFact_55 : decode cX2_closeFact 55 = .ok (.getfield 40, 3) := by decide +kernel
theorem dX2_closeFact_58 : decode cX2_closeFact 58 = .ok (.dup, 1) := by decide +kernel
theorem dX2_closeFact_59 : decode cX2_closeFact 59 = .ok (.getfield 143, 3) := by decide +kernel
theorem dX2_closeFact_62 : decode cX2_closeFact 62 = .ok (.iload_n 1, 1) := by decide +kernel
theorem dX2_closeFact_63 : decode cX2_closeFact 63 = .ok (.imul, 1) := by decide +kernel
theorem dX2_closeFact_64 : decode cX2_closeFact 64 = .ok (.putfield 143, 3) := by decide +kernel
theorem dX2_closeFact_67 : decode cX2_closeFact 67 = .ok (.aload_n 0, 1) := by decide +kernel
theorem dX2_closeFact_68 : decode cX2_closeFact 68 = .ok (.getfield 40, 3) := by decide +kernel
theorem dX2_closeFact_71 : decode cX2_closeFact 71 = .ok (.dup, 1) := by decide +kernel
theorem dX2_closeFact_72 : decode cX2_closeFact 72 = .ok (.getfield 85, 3) := by decide +kernel
theorem dX2_closeFact_75 : decode cX2_closeFact 75 = .ok (.iconst 1, 1) := by decide +kernel
theorem dX2_closeFact_76 : decode cX2_closeFact 76 = .ok (.iadd, 1) := by decide +kernel
theorem dX2_closeFact_77 : decode cX2_closeFact 77 = .ok (.putfield 85, 3) := by decide +kernel
theorem dX2_closeFact_80 : decode cX2_closeFact 80 = .ok (.aload_n 0, 1) := by decide +kernel
theorem dX2_closeFact_81 : decode cX2_closeFact 81 = .ok (.getfield 40, 3) := by decide +kernel
theorem dX2_closeFact_84 : decode cX2_closeFact 84 = .ok (.getfield 101, 3) := by decide +kernel
theorem dX2_closeFact_87 : decode cX2_closeFact 87 = .ok (.aload_n 0, 1) := by decide +kernel
theorem dX2_closeFact_88 : decode cX2_closeFact 88 = .ok (.getfield 40, 3) := by decide +kernel
theorem dX2_closeFact_91 : decode cX2_closeFact 91 = .ok (.getfield 85, 3) := by decide +kernel
theorem dX2_closeFact_94 : decode cX2_closeFact 94 = .ok (.aload_n 0, 1) := by decide +kernel
theorem dX2_closeFact_95 : decode cX2_closeFact 95 = .ok (.getfield 40, 3) := by decide +kernel
theorem dX2_closeFact_98 : decode cX2_closeFact 98 = .ok (.getfield 104, 3) := by decide +kernel
theorem dX2_closeFact_101 : decode cX2_closeFact 101 = .ok (.iastore, 1) := by decide +kernel
theorem dX2_closeFact_102 : decode cX2_closeFact 102 = .ok (.aload_n 0, 1) := by decide +kernel
theorem dX2_closeFact_103 : decode cX2_closeFact 103 = .ok (.getfield 36, 3) := by decide +kernel
theorem dX2_closeFact_106 : decode cX2_closeFact 106 = .ok (.iconst 3, 1) := by decide +kernel
theorem dX2_closeFact_107 : decode cX2_closeFact 107 = .ok (.invokevirtual 98, 3) := by decide +kernel
theorem dX2_closeFact_110 : decode cX2_closeFact 110 = .ok (.ireturn, 1) := by decide +kernel
theorem dX2_readNever_0 : decode cX2_readNever 0 = .ok (.aload_n 0, 1) := by decide +kernel
theorem dX2_readNever_1 : decode cX2_readNever 1 = .ok (.getfield 40, 3) := by decide +kernel
theorem dX2_readNever_4 : decode cX2_readNever 4 = .ok (.getfield 88, 3) := by decide +kernel
theorem dX2_readNever_7 : decode cX2_readNever 7 = .ok (.ifCond .le 13, 3) := by decide +kernel
theorem dX2_readNever_10 : decode cX2_readNever 10 = .ok (.aload_n 0, 1) := by decide +kernel
theorem dX2_readNever_11 : decode cX2_readNever 11 = .ok (.getfield 36, 3) := by decide +kernel
theorem dX2_readNever_14 : decode cX2_readNever 14 = .ok (.bipush 7, 2) := by decide +kernel
theorem dX2_readNever_16 : decode cX2_readNever 16 = .ok (.invokevirtual 74, 3) := by decide +kernel
theorem dX2_readNever_19 : decode cX2_readNever 19 = .ok (.ireturn, 1) := by decide +kernel
theorem dX2_readNever_20 : decode cX2_readNever 20 = .ok (.aload_n 0, 1) := by decide +kernel
theorem dX2_readNever_21 : decode cX2_readNever 21 = .ok (.getfield 36, 3) := by decide +kernel
theorem dX2_readNever_24 : decode cX2_readNever 24 = .ok (.invokevirtual 91, 3) := by decide +kernel
theorem dX2_readNever_27 : decode cX2_readNever 27 = .ok (.aload_n 0, 1) := by decide +kernel
theorem dX2_readNever_28 : decode cX2_readNever 28 = .ok (.getfield 36, 3) := by decide +kernel
theorem dX2_readNever_31 : decode cX2_readNever 31 = .ok (.aload_n 0, 1) := by decide +kernel
theorem dX2_readNever_32 : decode cX2_readNever 32 = .ok (.getfield 40, 3) := by decide +kernel
theorem dX2_readNever_35 : decode cX2_readNever 35 = .ok (.getfield 116, 3) := by decide +kernel
theorem dX2_readNever_38 : decode cX2_readNever 38 = .ok (.iconst 1, 1) := by decide +kernel
theorem dX2_readNever_39 : decode cX2_readNever 39 = .ok (.invokevirtual 146, 3) := by decide +kernel
theorem dX2_readNever_42 : decode cX2_readNever 42 = .ok (.istore_n 1, 1) := by decide +kernel
theorem dX2_readNever_43 : decode cX2_readNever 43 = .ok (.iload_n 1, 1) := by decide +kernel
theorem dX2_readNever_44 : decode cX2_readNever 44 = .ok (.iconst (-1), 1) := by decide +kernel
theorem dX2_readNever_45 : decode cX2_readNever 45 = .ok (.if_icmp .ne 5, 3) := by decide +kernel
theorem dX2_readNever_48 : decode cX2_readNever 48 = .ok (.iconst 0, 1) := by decide +kernel
theorem dX2_readNever_49 : decode cX2_readNever 49 = .ok (.ireturn, 1) := by decide +kernel
theorem dX2_readNever_50 : decode cX2_readNever 50 = .ok (.aload_n 0, 1) := by decide +kernel
theorem dX2_readNever_51 : decode cX2_readNever 51 = .ok (.getfield 36, 3) := by decide +kernel
theorem dX2_readNever_54 : decode cX2_readNever 54 = .ok (.aload_n 0, 1) := by decide +kernel
theorem dX2_readNever_55 : decode cX2_readNever 55 = .ok (.getfield 40, 3) := by decide +kernel
theorem dX2_readNever_58 : decode cX2_readNever 58 = .ok (.getfield 116, 3) := by decide +kernel
theorem dX2_readNever_61 : decode cX2_readNever 61 = .ok (.iconst 1, 1) := by decide +kernel
theorem dX2_readNever_62 : decode cX2_readNever 62 = .ok (.invokevirtual 150, 3) := by decide +kernel
theorem dX2_readNever_65 : decode cX2_readNever 65 = .ok (.istore_n 2, 1) := by decide +kernel
theorem dX2_readNever_66 : decode cX2_readNever 66 = .ok (.iload_n 2, 1) := by decide +kernel
theorem dX2_readNever_67 : decode cX2_readNever 67 = .ok (.iconst (-1), 1) := by decide +kernel
theorem dX2_readNever_68 : decode cX2_readNever 68 = .ok (.if_icmp .ne 5, 3) := by decide +kernel
theorem dX2_readNever_71 : decode cX2_readNever 71 = .ok (.iconst 0, 1) := by decide +kernel
theorem dX2_readNever_72 : decode cX2_readNever 72 = .ok (.ireturn, 1) := by decide +kernel
theorem dX2_readNever_73 : decode cX2_readNever 73 = .ok (.aload_n 0, 1) := by decide +kernel
theorem dX2_readNever_74 : decode cX2_readNever 74 = .ok (.getfield 40, 3) := by decide +kernel
theorem dX2_readNever_77 : decode cX2_readNever 77 = .ok (.getfield 130, 3) := by decide +kernel
theorem dX2_readNever_80 : decode cX2_readNever 80 = .ok (.iload_n 1, 1) := by decide +kernel
theorem dX2_readNever_81 : decode cX2_readNever 81 = .ok (.iaload, 1) := by decide +kernel
theorem dX2_readNever_82 : decode cX2_readNever 82 = .ok (.aload_n 0, 1) := by decide +kernel
theorem dX2_readNever_83 : decode cX2_readNever 83 = .ok (.getfield 40, 3) := by decide +kernel
theorem dX2_readNever_86 : decode cX2_readNever 86 = .ok (.getfield 130, 3) := by decide +kernel
theorem dX2_readNever_89 : decode cX2_readNever 89 = .ok (.iload_n 2, 1) := by decide +kernel
theorem dX2_readNever_90 : decode cX2_readNever 90 = .ok (.iaload, 1) := by decide +kernel
theorem dX2_readNever_91 : decode cX2_readNever 91 = .ok (.if_icmp .ne 12, 3) := by decide +kernel
theorem dX2_readNever_94 : decode cX2_readNever 94 = .ok (.aload_n 0, 1) := by decide +kernel
theorem dX2_readNever_95 : decode cX2_readNever 95 = .ok (.getfield 36, 3) := by decide +kernel
theorem dX2_readNever_98 : decode cX2_readNever 98 = .ok (.iconst 5, 1) := by decide +kernel
theorem dX2_readNever_99 : decode cX2_readNever 99 = .ok (.invokevirtual 74, 3) := by decide +kernel
theorem dX2_readNever_102 : decode cX2_readNever 102 = .ok (.ireturn, 1) := by decide +kernel
theorem dX2_readNever_103 : decode cX2_readNever 103 = .ok (.aload_n 0, 1) := by decide +kernel
theorem dX2_readNever_104 : decode cX2_readNever 104 = .ok (.getfield 18, 3) := by decide +kernel
theorem dX2_readNever_107 : decode cX2_readNever 107 = .ok (.iload_n 1, 1) := by decide +kernel
theorem dX2_readNever_108 : decode cX2_readNever 108 = .ok (.dup2, 1) := by decide +kernel
theorem dX2_readNever_109 : decode cX2_readNever 109 = .ok (.iaload, 1) := by decide +kernel
theorem dX2_readNever_110 : decode cX2_readNever 110 = .ok (.iconst 1, 1) := by decide +kernel
theorem dX2_readNever_111 : decode cX2_readNever 111 = .ok (.iload_n 2, 1) := by decide +kernel
theorem dX2_readNever_112 : decode cX2_readNever 112 = .ok (.ishl, 1) := by decide +kernel
theorem dX2_readNever_113 : decode cX2_readNever 113 = .ok (.ior, 1) := by decide +kernel
theorem dX2_readNever_114 : decode cX2_readNever 114 = .ok (.iastore, 1) := by decide +kernel
theorem dX2_readNever_115 : decode cX2_readNever 115 = .ok (.aload_n 0, 1) := by decide +kernel
theorem dX2_readNever_116 : decode cX2_readNever 116 = .ok (.getfield 18, 3) := by decide +kernel
theorem dX2_readNever_119 : decode cX2_readNever 119 = .ok (.iload_n 2, 1) := by decide +kernel
theorem dX2_readNever_120 : decode cX2_readNever 120 = .ok (.dup2, 1) := by decide +kernel
theorem dX2_readNever_121 : decode cX2_readNever 121 = .ok (.iaload, 1) := by decide +kernel
theorem dX2_readNever_122 : decode cX2_readNever 122 = .ok (.iconst 1, 1) := by decide +kernel
theorem dX2_readNever_123 : decode cX2_readNever 123 = .ok (.iload_n 1, 1) := by decide +kernel
theorem dX2_readNever_124 : decode cX2_readNever 124 = .ok (.ishl, 1) := by decide +kernel
theorem dX2_readNever_125 : decode cX2_readNever 125 = .ok (.ior, 1) := by decide +kernel
theorem dX2_readNever_126 : decode cX2_readNever 126 = .ok (.iastore, 1) := by decide +kernel
theorem dX2_readNever_127 : decode cX2_readNever 127 = .ok (.aload_n 0, 1) := by decide +kernel
theorem dX2_readNever_128 : decode cX2_readNever 128 = .ok (.getfield 36, 3) := by decide +kernel
theorem dX2_readNever_131 : decode cX2_readNever 131 = .ok (.invokevirtual 91, 3) := by decide +kernel
theorem dX2_readNever_134 : decode cX2_readNever 134 = .ok (.aload_n 0, 1) := by decide +kernel
theorem dX2_readNever_135 : decode cX2_readNever 135 = .ok (.getfield 36, 3) := by decide +kernel
theorem dX2_readNever_138 : decode cX2_readNever 138 = .ok (.iconst 3, 1) := by decide +kernel
theorem dX2_readNever_139 : decode cX2_readNever 139 = .ok (.invokevirtual 98, 3) := by decide +kernel
theorem dX2_readNever_142 : decode cX2_readNever 142 = .ok (.ireturn, 1) := by decide +kernel
theorem dX2_readQuestion_0 : decode cX2_readQuestion 0 = .ok (.aload_n 0, 1) := by decide +kernel
theorem dX2_readQuestion_1 : decode cX2_readQuestion 1 = .ok (.getfield 40, 3) := by decide +kernel
theorem dX2_readQuestion_4 : decode cX2_readQuestion 4 = .ok (.getfield 88, 3) := by decide +kernel
theorem dX2_readQuestion_7 : decode cX2_readQuestion 7 = .ok (.istore_n 1, 1) := by decide +kernel
theorem dX2_readQuestion_8 : decode cX2_readQuestion 8 = .ok (.iload_n 1, 1) := by decide +kernel
theorem dX2_readQuestion_9 : decode cX2_readQuestion 9 = .ok (.bipush 12, 2) := by decide +kernel
theorem dX2_readQuestion_11 : decode cX2_readQuestion 11 = .ok (.if_icmp .lt 13, 3) := by decide +kernel
theorem dX2_readQuestion_14 : decode cX2_readQuestion 14 = .ok (.aload_n 0, 1) := by decide +kernel
theorem dX2_readQuestion_15 : decode cX2_readQuestion 15 = .ok (.getfield 36, 3) := by decide +kernel
theorem dX2_readQuestion_18 : decode cX2_readQuestion 18 = .ok (.bipush 6, 2) := by decide +kernel
theorem dX2_readQuestion_20 : decode cX2_readQuestion 20 = .ok (.invokevirtual 74, 3) := by decide +kernel
theorem dX2_readQuestion_23 : decode cX2_readQuestion 23 = .ok (.ireturn, 1) := by decide +kernel
theorem dX2_readQuestion_24 : decode cX2_readQuestion 24 = .ok (.aload_n 0, 1) := by decide +kernel
theorem dX2_readQuestion_25 : decode cX2_readQuestion 25 = .ok (.getfield 36, 3) := by decide +kernel
theorem dX2_readQuestion_28 : decode cX2_readQuestion 28 = .ok (.invokevirtual 91, 3) := by decide +kernel
theorem dX2_readQuestion_31 : decode cX2_readQuestion 31 = .ok (.aload_n 0, 1) := by decide +kernel
theorem dX2_readQuestion_32 : decode cX2_readQuestion 32 = .ok (.iconst 2, 1) := by decide +kernel
theorem dX2_readQuestion_33 : decode cX2_readQuestion 33 = .ok (.iload_n 1, 1) := by decide +kernel
theorem dX2_readQuestion_34 : decode cX2_readQuestion 34 = .ok (.invokevirtual 94, 3) := by decide +kernel
theorem dX2_readQuestion_37 : decode cX2_readQuestion 37 = .ok (.ifCond .eq 15, 3) := by decide +kernel
theorem dX2_readQuestion_40 : decode cX2_readQuestion 40 = .ok (.aload_n 0, 1) := by decide +kernel
theorem dX2_readQuestion_41 : decode cX2_readQuestion 41 = .ok (.getfield 36, 3) := by decide +kernel
theorem dX2_readQuestion_44 : decode cX2_readQuestion 44 = .ok (.bipush 12, 2) := by decide +kernel
theorem dX2_readQuestion_46 : decode cX2_readQuestion 46 = .ok (.invokevirtual 98, 3) := by decide +kernel
theorem dX2_readQuestion_49 : decode cX2_readQuestion 49 = .ok (.ifCond .ne 5, 3) := by decide +kernel
theorem dX2_readQuestion_52 : decode cX2_readQuestion 52 = .ok (.iconst 0, 1) := by decide +kernel
theorem dX2_readQuestion_53 : decode cX2_readQuestion 53 = .ok (.ireturn, 1) := by decide +kernel
theorem dX2_readQuestion_54 : decode cX2_readQuestion 54 = .ok (.aload_n 0, 1) := by decide +kernel
theorem dX2_readQuestion_55 : decode cX2_readQuestion 55 = .ok (.getfield 36, 3) := by decide +kernel
theorem dX2_readQuestion_58 : decode cX2_readQuestion 58 = .ok (.iconst 0, 1) := by decide +kernel
theorem dX2_readQuestion_59 : decode cX2_readQuestion 59 = .ok (.bipush 99, 2) := by decide +kernel
theorem dX2_readQuestion_61 : decode cX2_readQuestion 61 = .ok (.invokevirtual 136, 3) := by decide +kernel
theorem dX2_readQuestion_64 : decode cX2_readQuestion 64 = .ok (.istore_n 2, 1) := by decide +kernel
theorem dX2_readQuestion_65 : decode cX2_readQuestion 65 = .ok (.iload_n 2, 1) := by decide +kernel
theorem dX2_readQuestion_66 : decode cX2_readQuestion 66 = .ok (.iconst (-1), 1) := by decide +kernel
theorem dX2_readQuestion_67 : decode cX2_readQuestion 67 = .ok (.if_icmp .eq 15, 3) := by decide +kernel
theorem dX2_readQuestion_70 : decode cX2_readQuestion 70 = .ok (.aload_n 0, 1) := by decide +kernel
theorem dX2_readQuestion_71 : decode cX2_readQuestion 71 = .ok (.getfield 36, 3) := by decide +kernel
theorem dX2_readQuestion_74 : decode cX2_readQuestion 74 = .ok (.bipush 13, 2) := by decide +kernel
theorem dX2_readQuestion_76 : decode cX2_readQuestion 76 = .ok (.invokevirtual 98, 3) := by decide +kernel
theorem dX2_readQuestion_79 : decode cX2_readQuestion 79 = .ok (.ifCond .ne 5, 3) := by decide +kernel
theorem dX2_readQuestion_82 : decode cX2_readQuestion 82 = .ok (.iconst 0, 1) := by decide +kernel
theorem dX2_readQuestion_83 : decode cX2_readQuestion 83 = .ok (.ireturn, 1) := by decide +kernel
theorem dX2_readQuestion_84 : decode cX2_readQuestion 84 = .ok (.aload_n 0, 1) := by decide +kernel
theorem dX2_readQuestion_85 : decode cX2_readQuestion 85 = .ok (.invokevirtual 78, 3) := by decide +kernel
theorem dX2_readQuestion_88 : decode cX2_readQuestion 88 = .ok (.aload_n 0, 1) := by decide +kernel
theorem dX2_readQuestion_89 : decode cX2_readQuestion 89 = .ok (.iconst 0, 1) := by decide +kernel
theorem dX2_readQuestion_90 : decode cX2_readQuestion 90 = .ok (.invokevirtual 153, 3) := by decide +kernel
theorem dX2_readQuestion_93 : decode cX2_readQuestion 93 = .ok (.ifCond .eq 14, 3) := by decide +kernel
theorem dX2_readQuestion_96 : decode cX2_readQuestion 96 = .ok (.aload_n 0, 1) := by decide +kernel
theorem dX2_readQuestion_97 : decode cX2_readQuestion 97 = .ok (.getfield 36, 3) := by decide +kernel
theorem dX2_readQuestion_100 : decode cX2_readQuestion 100 = .ok (.iconst 3, 1) := by decide +kernel
theorem dX2_readQuestion_101 : decode cX2_readQuestion 101 = .ok (.invokevirtual 98, 3) := by decide +kernel
theorem dX2_readQuestion_104 : decode cX2_readQuestion 104 = .ok (.ifCond .ne 5, 3) := by decide +kernel
theorem dX2_readQuestion_107 : decode cX2_readQuestion 107 = .ok (.iconst 0, 1) := by decide +kernel
theorem dX2_readQuestion_108 : decode cX2_readQuestion 108 = .ok (.ireturn, 1) := by decide +kernel
theorem dX2_readQuestion_109 : decode cX2_readQuestion 109 = .ok (.aload_n 0, 1) := by decide +kernel
theorem dX2_readQuestion_110 : decode cX2_readQuestion 110 = .ok (.getfield 40, 3) := by decide +kernel
theorem dX2_readQuestion_113 : decode cX2_readQuestion 113 = .ok (.getfield 156, 3) := by decide +kernel
theorem dX2_readQuestion_116 : decode cX2_readQuestion 116 = .ok (.iload_n 1, 1) := by decide +kernel
theorem dX2_readQuestion_117 : decode cX2_readQuestion 117 = .ok (.iload_n 2, 1) := by decide +kernel
theorem dX2_readQuestion_118 : decode cX2_readQuestion 118 = .ok (.iastore, 1) := by decide +kernel
theorem dX2_readQuestion_119 : decode cX2_readQuestion 119 = .ok (.iconst 0, 1) := by decide +kernel
theorem dX2_readQuestion_120 : decode cX2_readQuestion 120 = .ok (.istore_n 3, 1) := by decide +kernel
theorem dX2_readQuestion_121 : decode cX2_readQuestion 121 = .ok (.iload_n 3, 1) := by decide +kernel
theorem dX2_readQuestion_122 : decode cX2_readQuestion 122 = .ok (.aload_n 0, 1) := by decide +kernel
theorem dX2_readQuestion_123 : decode cX2_readQuestion 123 = .ok (.getfield 40, 3) := by decide +kernel
theorem dX2_readQuestion_126 : decode cX2_readQuestion 126 = .ok (.getfield 143, 3) := by decide +kernel
theorem dX2_readQuestion_129 : decode cX2_readQuestion 129 = .ok (.if_icmp .ge 45, 3) := by decide +kernel
theorem dX2_readQuestion_132 : decode cX2_readQuestion 132 = .ok (.aload_n 0, 1) := by decide +kernel
theorem dX2_readQuestion_133 : decode cX2_readQuestion 133 = .ok (.getfield 29, 3) := by decide +kernel
theorem dX2_readQuestion_136 : decode cX2_readQuestion 136 = .ok (.iload_n 3, 1) := by decide +kernel
theorem dX2_readQuestion_137 : decode cX2_readQuestion 137 = .ok (.bipush 6, 2) := by decide +kernel
theorem dX2_readQuestion_139 : decode cX2_readQuestion 139 = .ok (.ishr, 1) := by decide +kernel
theorem dX2_readQuestion_140 : decode cX2_readQuestion 140 = .ok (.laload, 1) := by decide +kernel
theorem dX2_readQuestion_141 : decode cX2_readQuestion 141 = .ok (.iload_n 3, 1) := by decide +kernel
theorem dX2_readQuestion_142 : decode cX2_readQuestion 142 = .ok (.bipush 63, 2) := by decide +kernel
theorem dX2_readQuestion_144 : decode cX2_readQuestion 144 = .ok (.iand, 1) := by decide +kernel
theorem dX2_readQuestion_145 : decode cX2_readQuestion 145 = .ok (.lshr, 1) := by decide +kernel
theorem dX2_readQuestion_146 : decode cX2_readQuestion 146 = .ok (.lconst 1, 1) := by decide +kernel
theorem dX2_readQuestion_147 : decode cX2_readQuestion 147 = .ok (.land, 1) := by decide +kernel
theorem dX2_readQuestion_148 : decode cX2_readQuestion 148 = .ok (.lconst 0, 1) := by decide +kernel
theorem dX2_readQuestion_149 : decode cX2_readQuestion 149 = .ok (.lcmp, 1) := by decide +kernel
theorem dX2_readQuestion_150 : decode cX2_readQuestion 150 = .ok (.ifCond .eq 18, 3) := by decide +kernel
theorem dX2_readQuestion_153 : decode cX2_readQuestion 153 = .ok (.aload_n 0, 1) := by decide +kernel
theorem dX2_readQuestion_154 : decode cX2_readQuestion 154 = .ok (.getfield 40, 3) := by decide +kernel
theorem dX2_readQuestion_157 : decode cX2_readQuestion 157 = .ok (.getfield 159, 3) := by decide +kernel
theorem dX2_readQuestion_160 : decode cX2_readQuestion 160 = .ok (.iload_n 3, 1) := by decide +kernel
theorem dX2_readQuestion_161 : decode cX2_readQuestion 161 = .ok (.dup2, 1) := by decide +kernel
theorem dX2_readQuestion_162 : decode cX2_readQuestion 162 = .ok (.iaload, 1) := by decide +kernel
theorem dX2_readQuestion_163 : decode cX2_readQuestion 163 = .ok (.iconst 1, 1) := by decide +kernel
theorem dX2_readQuestion_164 : decode cX2_readQuestion 164 = .ok (.iload_n 1, 1) := by decide +kernel
theorem dX2_readQuestion_165 : decode cX2_readQuestion 165 = .ok (.ishl, 1) := by decide +kernel
theorem dX2_readQuestion_166 : decode cX2_readQuestion 166 = .ok (.ior, 1) := by decide +kernel
theorem dX2_readQuestion_167 : decode cX2_readQuestion 167 = .ok (.iastore, 1) := by decide +kernel
theorem dX2_readQuestion_168 : decode cX2_readQuestion 168 = .ok (.iinc 3 1, 3) := by decide +kernel
theorem dX2_readQuestion_171 : decode cX2_readQuestion 171 = .ok (.goto (-50), 3) := by decide +kernel
theorem dX2_readQuestion_174 : decode cX2_readQuestion 174 = .ok (.aload_n 0, 1) := by decide +kernel
theorem dX2_readQuestion_175 : decode cX2_readQuestion 175 = .ok (.getfield 40, 3) := by decide +kernel
theorem dX2_readQuestion_178 : decode cX2_readQuestion 178 = .ok (.dup, 1) := by decide +kernel
theorem dX2_readQuestion_179 : decode cX2_readQuestion 179 = .ok (.getfield 88, 3) := by decide +kernel
theorem dX2_readQuestion_182 : decode cX2_readQuestion 182 = .ok (.iconst 1, 1) := by decide +kernel
theorem dX2_readQuestion_183 : decode cX2_readQuestion 183 = .ok (.iadd, 1) := by decide +kernel
theorem dX2_readQuestion_184 : decode cX2_readQuestion 184 = .ok (.putfield 88, 3) := by decide +kernel
theorem dX2_readQuestion_187 : decode cX2_readQuestion 187 = .ok (.iconst 1, 1) := by decide +kernel
theorem dX2_readQuestion_188 : decode cX2_readQuestion 188 = .ok (.ireturn, 1) := by decide +kernel
theorem dX2_readWitness_0 : decode cX2_readWitness 0 = .ok (.aload_n 0, 1) := by decide +kernel
theorem dX2_readWitness_1 : decode cX2_readWitness 1 = .ok (.getfield 40, 3) := by decide +kernel
theorem dX2_readWitness_4 : decode cX2_readWitness 4 = .ok (.getfield 162, 3) := by decide +kernel
theorem dX2_readWitness_7 : decode cX2_readWitness 7 = .ok (.istore_n 1, 1) := by decide +kernel
theorem dX2_readWitness_8 : decode cX2_readWitness 8 = .ok (.iload_n 1, 1) := by decide +kernel
theorem dX2_readWitness_9 : decode cX2_readWitness 9 = .ok (.iconst 4, 1) := by decide +kernel
theorem dX2_readWitness_10 : decode cX2_readWitness 10 = .ok (.if_icmp .lt 13, 3) := by decide +kernel
theorem dX2_readWitness_13 : decode cX2_readWitness 13 = .ok (.aload_n 0, 1) := by decide +kernel
theorem dX2_readWitness_14 : decode cX2_readWitness 14 = .ok (.getfield 36, 3) := by decide +kernel
theorem dX2_readWitness_17 : decode cX2_readWitness 17 = .ok (.bipush 6, 2) := by decide +kernel
theorem dX2_readWitness_19 : decode cX2_readWitness 19 = .ok (.invokevirtual 74, 3) := by decide +kernel
theorem dX2_readWitness_22 : decode cX2_readWitness 22 = .ok (.ireturn, 1) := by decide +kernel
theorem dX2_readWitness_23 : decode cX2_readWitness 23 = .ok (.aload_n 0, 1) := by decide +kernel
theorem dX2_readWitness_24 : decode cX2_readWitness 24 = .ok (.getfield 36, 3) := by decide +kernel
theorem dX2_readWitness_27 : decode cX2_readWitness 27 = .ok (.invokevirtual 91, 3) := by decide +kernel
theorem dX2_readWitness_30 : decode cX2_readWitness 30 = .ok (.aload_n 0, 1) := by decide +kernel
theorem dX2_readWitness_31 : decode cX2_readWitness 31 = .ok (.iconst 3, 1) := by decide +kernel
theorem dX2_readWitness_32 : decode cX2_readWitness 32 = .ok (.iload_n 1, 1) := by decide +kernel
theorem dX2_readWitness_33 : decode cX2_readWitness 33 = .ok (.invokevirtual 94, 3) := by decide +kernel
theorem dX2_readWitness_36 : decode cX2_readWitness 36 = .ok (.ifCond .ne 5, 3) := by decide +kernel
theorem dX2_readWitness_39 : decode cX2_readWitness 39 = .ok (.iconst 0, 1) := by decide +kernel
theorem dX2_readWitness_40 : decode cX2_readWitness 40 = .ok (.ireturn, 1) := by decide +kernel
theorem dX2_readWitness_41 : decode cX2_readWitness 41 = .ok (.aload_n 0, 1) := by decide +kernel
theorem dX2_readWitness_42 : decode cX2_readWitness 42 = .ok (.getfield 36, 3) := by decide +kernel
theorem dX2_readWitness_45 : decode cX2_readWitness 45 = .ok (.getfield 55, 3) := by decide +kernel
theorem dX2_readWitness_48 : decode cX2_readWitness 48 = .ok (.bipush 15, 2) := by decide +kernel
theorem dX2_readWitness_50 : decode cX2_readWitness 50 = .ok (.if_icmp .ne 26, 3) := by decide +kernel
theorem dX2_readWitness_53 : decode cX2_readWitness 53 = .ok (.aload_n 0, 1) := by decide +kernel
theorem dX2_readWitness_54 : decode cX2_readWitness 54 = .ok (.getfield 36, 3) := by decide +kernel
theorem dX2_readWitness_57 : decode cX2_readWitness 57 = .ok (.invokevirtual 91, 3) := by decide +kernel
theorem dX2_readWitness_60 : decode cX2_readWitness 60 = .ok (.aload_n 0, 1) := by decide +kernel
theorem dX2_readWitness_61 : decode cX2_readWitness 61 = .ok (.getfield 40, 3) := by decide +kernel
theorem dX2_readWitness_64 : decode cX2_readWitness 64 = .ok (.getfield 165, 3) := by decide +kernel
theorem dX2_readWitness_67 : decode cX2_readWitness 67 = .ok (.iload_n 1, 1) := by decide +kernel
theorem dX2_readWitness_68 : decode cX2_readWitness 68 = .ok (.aload_n 0, 1) := by decide +kernel
theorem dX2_readWitness_69 : decode cX2_readWitness 69 = .ok (.iconst 0, 1) := by decide +kernel
theorem dX2_readWitness_70 : decode cX2_readWitness 70 = .ok (.bipush 16, 2) := by decide +kernel
theorem dX2_readWitness_72 : decode cX2_readWitness 72 = .ok (.invokevirtual 168, 3) := by decide +kernel
theorem dX2_readWitness_75 : decode cX2_readWitness 75 = .ok (.iastore, 1) := by decide +kernel
theorem dX2_readWitness_76 : decode cX2_readWitness 76 = .ok (.aload_n 0, 1) := by decide +kernel
theorem dX2_readWitness_77 : decode cX2_readWitness 77 = .ok (.getfield 36, 3) := by decide +kernel
theorem dX2_readWitness_80 : decode cX2_readWitness 80 = .ok (.getfield 140, 3) := by decide +kernel
theorem dX2_readWitness_83 : decode cX2_readWitness 83 = .ok (.ifCond .ne 23, 3) := by decide +kernel
theorem dX2_readWitness_86 : decode cX2_readWitness 86 = .ok (.aload_n 0, 1) := by decide +kernel
theorem dX2_readWitness_87 : decode cX2_readWitness 87 = .ok (.getfield 36, 3) := by decide +kernel
theorem dX2_readWitness_90 : decode cX2_readWitness 90 = .ok (.bipush 16, 2) := by decide +kernel
theorem dX2_readWitness_92 : decode cX2_readWitness 92 = .ok (.invokevirtual 98, 3) := by decide +kernel
theorem dX2_readWitness_95 : decode cX2_readWitness 95 = .ok (.ifCond .eq 11, 3) := by decide +kernel
theorem dX2_readWitness_98 : decode cX2_readWitness 98 = .ok (.aload_n 0, 1) := by decide +kernel
theorem dX2_readWitness_99 : decode cX2_readWitness 99 = .ok (.iload_n 1, 1) := by decide +kernel
theorem dX2_readWitness_100 : decode cX2_readWitness 100 = .ok (.invokevirtual 171, 3) := by decide +kernel
theorem dX2_readWitness_103 : decode cX2_readWitness 103 = .ok (.ifCond .ne 5, 3) := by decide +kernel
theorem dX2_readWitness_106 : decode cX2_readWitness 106 = .ok (.iconst 0, 1) := by decide +kernel
theorem dX2_readWitness_107 : decode cX2_readWitness 107 = .ok (.ireturn, 1) := by decide +kernel
theorem dX2_readWitness_108 : decode cX2_readWitness 108 = .ok (.aload_n 0, 1) := by decide +kernel
theorem dX2_readWitness_109 : decode cX2_readWitness 109 = .ok (.getfield 36, 3) := by decide +kernel
theorem dX2_readWitness_112 : decode cX2_readWitness 112 = .ok (.getfield 55, 3) := by decide +kernel
theorem dX2_readWitness_115 : decode cX2_readWitness 115 = .ok (.bipush 17, 2) := by decide +kernel
theorem dX2_readWitness_117 : decode cX2_readWitness 117 = .ok (.if_icmp .ne 25, 3) := by decide +kernel
theorem dX2_readWitness_120 : decode cX2_readWitness 120 = .ok (.aload_n 0, 1) := by decide +kernel
theorem dX2_readWitness_121 : decode cX2_readWitness 121 = .ok (.getfield 36, 3) := by decide +kernel
theorem dX2_readWitness_124 : decode cX2_readWitness 124 = .ok (.invokevirtual 91, 3) := by decide +kernel
theorem dX2_readWitness_127 : decode cX2_readWitness 127 = .ok (.aload_n 0, 1) := by decide +kernel
theorem dX2_readWitness_128 : decode cX2_readWitness 128 = .ok (.getfield 40, 3) := by decide +kernel
theorem dX2_readWitness_131 : decode cX2_readWitness 131 = .ok (.getfield 174, 3) := by decide +kernel
theorem dX2_readWitness_134 : decode cX2_readWitness 134 = .ok (.iload_n 1, 1) := by decide +kernel
theorem dX2_readWitness_135 : decode cX2_readWitness 135 = .ok (.aload_n 0, 1) := by decide +kernel
theorem dX2_readWitness_136 : decode cX2_readWitness 136 = .ok (.iconst 2, 1) := by decide +kernel
theorem dX2_readWitness_137 : decode cX2_readWitness 137 = .ok (.iconst 3, 1) := by decide +kernel
theorem dX2_readWitness_138 : decode cX2_readWitness 138 = .ok (.invokevirtual 168, 3) := by decide +kernel
theorem dX2_readWitness_141 : decode cX2_readWitness 141 = .ok (.iastore, 1) := by decide +kernel
theorem dX2_readWitness_142 : decode cX2_readWitness 142 = .ok (.aload_n 0, 1) := by decide +kernel
theorem dX2_readWitness_143 : decode cX2_readWitness 143 = .ok (.getfield 40, 3) := by decide +kernel
theorem dX2_readWitness_146 : decode cX2_readWitness 146 = .ok (.dup, 1) := by decide +kernel
theorem dX2_readWitness_147 : decode cX2_readWitness 147 = .ok (.getfield 162, 3) := by decide +kernel
theorem dX2_readWitness_150 : decode cX2_readWitness 150 = .ok (.iconst 1, 1) := by decide +kernel
theorem dX2_readWitness_151 : decode cX2_readWitness 151 = .ok (.iadd, 1) := by decide +kernel
theorem dX2_readWitness_152 : decode cX2_readWitness 152 = .ok (.putfield 162, 3) := by decide +kernel
theorem dX2_readWitness_155 : decode cX2_readWitness 155 = .ok (.aload_n 0, 1) := by decide +kernel
theorem dX2_readWitness_156 : decode cX2_readWitness 156 = .ok (.getfield 36, 3) := by decide +kernel
theorem dX2_readWitness_159 : decode cX2_readWitness 159 = .ok (.getfield 140, 3) := by decide +kernel
theorem dX2_readWitness_162 : decode cX2_readWitness 162 = .ok (.ifCond .ne 18, 3) := by decide +kernel
theorem dX2_readWitness_165 : decode cX2_readWitness 165 = .ok (.aload_n 0, 1) := by decide +kernel
theorem dX2_readWitness_166 : decode cX2_readWitness 166 = .ok (.getfield 36, 3) := by decide +kernel
theorem dX2_readWitness_169 : decode cX2_readWitness 169 = .ok (.iconst 3, 1) := by decide +kernel
theorem dX2_readWitness_170 : decode cX2_readWitness 170 = .ok (.invokevirtual 98, 3) := by decide +kernel
theorem dX2_readWitness_173 : decode cX2_readWitness 173 = .ok (.ifCond .eq 7, 3) := by decide +kernel
theorem dX2_readWitness_176 : decode cX2_readWitness 176 = .ok (.iconst 1, 1) := by decide +kernel
theorem dX2_readWitness_177 : decode cX2_readWitness 177 = .ok (.goto 4, 3) := by decide +kernel
theorem dX2_readWitness_180 : decode cX2_readWitness 180 = .ok (.iconst 0, 1) := by decide +kernel
theorem dX2_readWitness_181 : decode cX2_readWitness 181 = .ok (.ireturn, 1) := by decide +kernel
theorem dX2_takeNames_0 : decode cX2_takeNames 0 = .ok (.iconst 0, 1) := by decide +kernel
theorem dX2_takeNames_1 : decode cX2_takeNames 1 = .ok (.istore_n 3, 1) := by decide +kernel
theorem dX2_takeNames_2 : decode cX2_takeNames 2 = .ok (.iconst 0, 1) := by decide +kernel
theorem dX2_takeNames_3 : decode cX2_takeNames 3 = .ok (.istore 4, 2) := by decide +kernel
theorem dX2_takeNames_5 : decode cX2_takeNames 5 = .ok (.iload 4, 2) := by decide +kernel
theorem dX2_takeNames_7 : decode cX2_takeNames 7 = .ok (.sipush 901, 3) := by decide +kernel
theorem dX2_takeNames_10 : decode cX2_takeNames 10 = .ok (.if_icmp .ge 84, 3) := by decide +kernel
theorem dX2_takeNames_13 : decode cX2_takeNames 13 = .ok (.iload 4, 2) := by decide +kernel
theorem dX2_takeNames_15 : decode cX2_takeNames 15 = .ok (.ifCond .eq 14, 3) := by decide +kernel
theorem dX2_takeNames_18 : decode cX2_takeNames 18 = .ok (.aload_n 0, 1) := by decide +kernel
theorem dX2_takeNames_19 : decode cX2_takeNames 19 = .ok (.getfield 36, 3) := by decide +kernel
theorem dX2_takeNames_22 : decode cX2_takeNames 22 = .ok (.getfield 55, 3) := by decide +kernel
theorem dX2_takeNames_25 : decode cX2_takeNames 25 = .ok (.iload_n 2, 1) := by decide +kernel
theorem dX2_takeNames_26 : decode cX2_takeNames 26 = .ok (.if_icmp .eq 68, 3) := by decide +kernel
theorem dX2_takeNames_29 : decode cX2_takeNames 29 = .ok (.aload_n 0, 1) := by decide +kernel
theorem dX2_takeNames_30 : decode cX2_takeNames 30 = .ok (.getfield 36, 3) := by decide +kernel
theorem dX2_takeNames_33 : decode cX2_takeNames 33 = .ok (.aload_n 0, 1) := by decide +kernel
theorem dX2_takeNames_34 : decode cX2_takeNames 34 = .ok (.getfield 40, 3) := by decide +kernel
theorem dX2_takeNames_37 : decode cX2_takeNames 37 = .ok (.getfield 116, 3) := by decide +kernel
theorem dX2_takeNames_40 : decode cX2_takeNames 40 = .ok (.iload_n 1, 1) := by decide +kernel
theorem dX2_takeNames_41 : decode cX2_takeNames 41 = .ok (.invokevirtual 150, 3) := by decide +kernel
theorem dX2_takeNames_44 : decode cX2_takeNames 44 = .ok (.istore 5, 2) := by decide +kernel
theorem dX2_takeNames_46 : decode cX2_takeNames 46 = .ok (.iload 5, 2) := by decide +kernel
theorem dX2_takeNames_48 : decode cX2_takeNames 48 = .ok (.iconst (-1), 1) := by decide +kernel
theorem dX2_takeNames_49 : decode cX2_takeNames 49 = .ok (.if_icmp .ne 5, 3) := by decide +kernel
theorem dX2_takeNames_52 : decode cX2_takeNames 52 = .ok (.iconst 0, 1) := by decide +kernel
theorem dX2_takeNames_53 : decode cX2_takeNames 53 = .ok (.ireturn, 1) := by decide +kernel
theorem dX2_takeNames_54 : decode cX2_takeNames 54 = .ok (.iload_n 3, 1) := by decide +kernel
theorem dX2_takeNames_55 : decode cX2_takeNames 55 = .ok (.iload 5, 2) := by decide +kernel
theorem dX2_takeNames_57 : decode cX2_takeNames 57 = .ok (.ishr, 1) := by decide +kernel
theorem dX2_takeNames_58 : decode cX2_takeNames 58 = .ok (.iconst 1, 1) := by decide +kernel
theorem dX2_takeNames_59 : decode cX2_takeNames 59 = .ok (.iand, 1) := by decide +kernel
theorem dX2_takeNames_60 : decode cX2_takeNames 60 = .ok (.ifCond .eq 14, 3) := by decide +kernel
theorem dX2_takeNames_63 : decode cX2_takeNames 63 = .ok (.aload_n 0, 1) := by decide +kernel
theorem dX2_takeNames_64 : decode cX2_takeNames 64 = .ok (.getfield 36, 3) := by decide +kernel
theorem dX2_takeNames_67 : decode cX2_takeNames 67 = .ok (.iconst 5, 1) := by decide +kernel
theorem dX2_takeNames_68 : decode cX2_takeNames 68 = .ok (.invokevirtual 74, 3) := by decide +kernel
theorem dX2_takeNames_71 : decode cX2_takeNames 71 = .ok (.pop, 1) := by decide +kernel
theorem dX2_takeNames_72 : decode cX2_takeNames 72 = .ok (.iconst 0, 1) := by decide +kernel
theorem dX2_takeNames_73 : decode cX2_takeNames 73 = .ok (.ireturn, 1) := by decide +kernel
theorem dX2_takeNames_74 : decode cX2_takeNames 74 = .ok (.iload_n 3, 1) := by decide +kernel
theorem dX2_takeNames_75 : decode cX2_takeNames 75 = .ok (.iconst 1, 1) := by decide +kernel
theorem dX2_takeNames_76 : decode cX2_takeNames 76 = .ok (.iload 5, 2) := by decide +kernel
theorem dX2_takeNames_78 : decode cX2_takeNames 78 = .ok (.ishl, 1) := by decide +kernel
theorem dX2_takeNames_79 : decode cX2_takeNames 79 = .ok (.ior, 1) := by decide +kernel
theorem dX2_takeNames_80 : decode cX2_takeNames 80 = .ok (.istore_n 3, 1) := by decide +kernel
theorem dX2_takeNames_81 : decode cX2_takeNames 81 = .ok (.aload_n 0, 1) := by decide +kernel
theorem dX2_takeNames_82 : decode cX2_takeNames 82 = .ok (.getfield 36, 3) := by decide +kernel
theorem dX2_takeNames_85 : decode cX2_takeNames 85 = .ok (.invokevirtual 91, 3) := by decide +kernel
theorem dX2_takeNames_88 : decode cX2_takeNames 88 = .ok (.iinc 4 1, 3) := by decide +kernel
theorem dX2_takeNames_91 : decode cX2_takeNames 91 = .ok (.goto (-86), 3) := by decide +kernel
theorem dX2_takeNames_94 : decode cX2_takeNames 94 = .ok (.iload_n 3, 1) := by decide +kernel
theorem dX2_takeNames_95 : decode cX2_takeNames 95 = .ok (.ireturn, 1) := by decide +kernel
theorem dX2_readKinds_0 : decode cX2_readKinds 0 = .ok (.iconst 0, 1) := by decide +kernel
theorem dX2_readKinds_1 : decode cX2_readKinds 1 = .ok (.istore_n 2, 1) := by decide +kernel
theorem dX2_readKinds_2 : decode cX2_readKinds 2 = .ok (.iconst 0, 1) := by decide +kernel
theorem dX2_readKinds_3 : decode cX2_readKinds 3 = .ok (.istore_n 3, 1) := by decide +kernel
theorem dX2_readKinds_4 : decode cX2_readKinds 4 = .ok (.iconst 0, 1) := by decide +kernel
theorem dX2_readKinds_5 : decode cX2_readKinds 5 = .ok (.istore 4, 2) := by decide +kernel
theorem dX2_readKinds_7 : decode cX2_readKinds 7 = .ok (.iload 4, 2) := by decide +kernel
theorem dX2_readKinds_9 : decode cX2_readKinds 9 = .ok (.sipush 901, 3) := by decide +kernel
theorem dX2_readKinds_12 : decode cX2_readKinds 12 = .ok (.if_icmp .ge 134, 3) := by decide +kernel
theorem dX2_readKinds_15 : decode cX2_readKinds 15 = .ok (.iload 4, 2) := by decide +kernel
theorem dX2_readKinds_17 : decode cX2_readKinds 17 = .ok (.ifCond .eq 16, 3) := by decide +kernel
theorem dX2_readKinds_20 : decode cX2_readKinds 20 = .ok (.aload_n 0, 1) := by decide +kernel
theorem dX2_readKinds_21 : decode cX2_readKinds 21 = .ok (.getfield 36, 3) := by decide +kernel
theorem dX2_readKinds_24 : decode cX2_readKinds 24 = .ok (.getfield 55, 3) := by decide +kernel
theorem dX2_readKinds_27 : decode cX2_readKinds 27 = .ok (.invokestatic 177, 3) := by decide +kernel
theorem dX2_readKinds_30 : decode cX2_readKinds 30 = .ok (.ifCond .eq 116, 3) := by decide +kernel
theorem dX2_readKinds_33 : decode cX2_readKinds 33 = .ok (.aload_n 0, 1) := by decide +kernel
theorem dX2_readKinds_34 : decode cX2_readKinds 34 = .ok (.getfield 36, 3) := by decide +kernel
theorem dX2_readKinds_37 : decode cX2_readKinds 37 = .ok (.getfield 55, 3) := by decide +kernel
theorem dX2_readKinds_40 : decode cX2_readKinds 40 = .ok (.invokestatic 177, 3) := by decide +kernel
theorem dX2_readKinds_43 : decode cX2_readKinds 43 = .ok (.ifCond .ne 12, 3) := by decide +kernel
theorem dX2_readKinds_46 : decode cX2_readKinds 46 = .ok (.aload_n 0, 1) := by decide +kernel
theorem dX2_readKinds_47 : decode cX2_readKinds 47 = .ok (.getfield 36, 3) := by decide +kernel
theorem dX2_readKinds_50 : decode cX2_readKinds 50 = .ok (.iconst 2, 1) := by decide +kernel
theorem dX2_readKinds_51 : decode cX2_readKinds 51 = .ok (.invokevirtual 74, 3) := by decide +kernel
theorem dX2_readKinds_54 : decode cX2_readKinds 54 = .ok (.ireturn, 1) := by decide +kernel
theorem dX2_readKinds_55 : decode cX2_readKinds 55 = .ok (.aload_n 0, 1) := by decide +kernel
theorem dX2_readKinds_56 : decode cX2_readKinds 56 = .ok (.getfield 36, 3) := by decide +kernel
theorem dX2_readKinds_59 : decode cX2_readKinds 59 = .ok (.getfield 55, 3) := by decide +kernel
theorem dX2_readKinds_62 : decode cX2_readKinds 62 = .ok (.bipush 21, 2) := by decide +kernel
theorem dX2_readKinds_64 : decode cX2_readKinds 64 = .ok (.isub, 1) := by decide +kernel
theorem dX2_readKinds_65 : decode cX2_readKinds 65 = .ok (.istore 5, 2) := by decide +kernel
theorem dX2_readKinds_67 : decode cX2_readKinds 67 = .ok (.iload_n 2, 1) := by decide +kernel
theorem dX2_readKinds_68 : decode cX2_readKinds 68 = .ok (.iload 5, 2) := by decide +kernel
theorem dX2_readKinds_70 : decode cX2_readKinds 70 = .ok (.ishr, 1) := by decide +kernel
theorem dX2_readKinds_71 : decode cX2_readKinds 71 = .ok (.iconst 1, 1) := by decide +kernel
theorem dX2_readKinds_72 : decode cX2_readKinds 72 = .ok (.iand, 1) := by decide +kernel
theorem dX2_readKinds_73 : decode cX2_readKinds 73 = .ok (.ifCond .eq 12, 3) := by decide +kernel
theorem dX2_readKinds_76 : decode cX2_readKinds 76 = .ok (.aload_n 0, 1) := by decide +kernel
theorem dX2_readKinds_77 : decode cX2_readKinds 77 = .ok (.getfield 36, 3) := by decide +kernel
theorem dX2_readKinds_80 : decode cX2_readKinds 80 = .ok (.iconst 5, 1) := by decide +kernel
theorem dX2_readKinds_81 : decode cX2_readKinds 81 = .ok (.invokevirtual 74, 3) := by decide +kernel
theorem dX2_readKinds_84 : decode cX2_readKinds 84 = .ok (.ireturn, 1) := by decide +kernel
theorem dX2_readKinds_85 : decode cX2_readKinds 85 = .ok (.iload_n 2, 1) := by decide +kernel
theorem dX2_readKinds_86 : decode cX2_readKinds 86 = .ok (.iconst 1, 1) := by decide +kernel
theorem dX2_readKinds_87 : decode cX2_readKinds 87 = .ok (.iload 5, 2) := by decide +kernel
theorem dX2_readKinds_89 : decode cX2_readKinds 89 = .ok (.ishl, 1) := by decide +kernel
theorem dX2_readKinds_90 : decode cX2_readKinds 90 = .ok (.ior, 1) := by decide +kernel
theorem dX2_readKinds_91 : decode cX2_readKinds 91 = .ok (.istore_n 2, 1) := by decide +kernel
theorem dX2_readKinds_92 : decode cX2_readKinds 92 = .ok (.aload_n 0, 1) := by decide +kernel
theorem dX2_readKinds_93 : decode cX2_readKinds 93 = .ok (.getfield 36, 3) := by decide +kernel
theorem dX2_readKinds_96 : decode cX2_readKinds 96 = .ok (.invokevirtual 91, 3) := by decide +kernel
theorem dX2_readKinds_99 : decode cX2_readKinds 99 = .ok (.aload_n 0, 1) := by decide +kernel
theorem dX2_readKinds_100 : decode cX2_readKinds 100 = .ok (.getfield 36, 3) := by decide +kernel
theorem dX2_readKinds_103 : decode cX2_readKinds 103 = .ok (.iconst 1, 1) := by decide +kernel
theorem dX2_readKinds_104 : decode cX2_readKinds 104 = .ok (.bipush 16, 2) := by decide +kernel
theorem dX2_readKinds_106 : decode cX2_readKinds 106 = .ok (.invokevirtual 136, 3) := by decide +kernel
theorem dX2_readKinds_109 : decode cX2_readKinds 109 = .ok (.istore 6, 2) := by decide +kernel
theorem dX2_readKinds_111 : decode cX2_readKinds 111 = .ok (.iload 6, 2) := by decide +kernel
theorem dX2_readKinds_113 : decode cX2_readKinds 113 = .ok (.iconst (-1), 1) := by decide +kernel
theorem dX2_readKinds_114 : decode cX2_readKinds 114 = .ok (.if_icmp .ne 5, 3) := by decide +kernel
theorem dX2_readKinds_117 : decode cX2_readKinds 117 = .ok (.iconst 0, 1) := by decide +kernel
theorem dX2_readKinds_118 : decode cX2_readKinds 118 = .ok (.ireturn, 1) := by decide +kernel
theorem dX2_readKinds_119 : decode cX2_readKinds 119 = .ok (.aload_n 0, 1) := by decide +kernel
theorem dX2_readKinds_120 : decode cX2_readKinds 120 = .ok (.getfield 40, 3) := by decide +kernel
theorem dX2_readKinds_123 : decode cX2_readKinds 123 = .ok (.getfield 180, 3) := by decide +kernel
theorem dX2_readKinds_126 : decode cX2_readKinds 126 = .ok (.iload_n 1, 1) := by decide +kernel
theorem dX2_readKinds_127 : decode cX2_readKinds 127 = .ok (.iconst 4, 1) := by decide +kernel
theorem dX2_readKinds_128 : decode cX2_readKinds 128 = .ok (.imul, 1) := by decide +kernel
theorem dX2_readKinds_129 : decode cX2_readKinds 129 = .ok (.iload 5, 2) := by decide +kernel
theorem dX2_readKinds_131 : decode cX2_readKinds 131 = .ok (.iadd, 1) := by decide +kernel
theorem dX2_readKinds_132 : decode cX2_readKinds 132 = .ok (.iload 6, 2) := by decide +kernel
theorem dX2_readKinds_134 : decode cX2_readKinds 134 = .ok (.iastore, 1) := by decide +kernel
theorem dX2_readKinds_135 : decode cX2_readKinds 135 = .ok (.iload_n 3, 1) := by decide +kernel
theorem dX2_readKinds_136 : decode cX2_readKinds 136 = .ok (.iload 6, 2) := by decide +kernel
theorem dX2_readKinds_138 : decode cX2_readKinds 138 = .ok (.iadd, 1) := by decide +kernel
theorem dX2_readKinds_139 : decode cX2_readKinds 139 = .ok (.istore_n 3, 1) := by decide +kernel
theorem dX2_readKinds_140 : decode cX2_readKinds 140 = .ok (.iinc 4 1, 3) := by decide +kernel
theorem dX2_readKinds_143 : decode cX2_readKinds 143 = .ok (.goto (-136), 3) := by decide +kernel
theorem dX2_readKinds_146 : decode cX2_readKinds 146 = .ok (.aload_n 0, 1) := by decide +kernel
theorem dX2_readKinds_147 : decode cX2_readKinds 147 = .ok (.getfield 36, 3) := by decide +kernel
theorem dX2_readKinds_150 : decode cX2_readKinds 150 = .ok (.getfield 55, 3) := by decide +kernel
theorem dX2_readKinds_153 : decode cX2_readKinds 153 = .ok (.bipush 17, 2) := by decide +kernel
theorem dX2_readKinds_155 : decode cX2_readKinds 155 = .ok (.if_icmp .eq 23, 3) := by decide +kernel
theorem dX2_readKinds_158 : decode cX2_readKinds 158 = .ok (.aload_n 0, 1) := by decide +kernel
theorem dX2_readKinds_159 : decode cX2_readKinds 159 = .ok (.getfield 36, 3) := by decide +kernel
theorem dX2_readKinds_162 : decode cX2_readKinds 162 = .ok (.getfield 55, 3) := by decide +kernel
theorem dX2_readKinds_165 : decode cX2_readKinds 165 = .ok (.iconst 3, 1) := by decide +kernel
theorem dX2_readKinds_166 : decode cX2_readKinds 166 = .ok (.if_icmp .eq 12, 3) := by decide +kernel
theorem dX2_readKinds_169 : decode cX2_readKinds 169 = .ok (.aload_n 0, 1) := by decide +kernel
theorem dX2_readKinds_170 : decode cX2_readKinds 170 = .ok (.getfield 36, 3) := by decide +kernel
theorem dX2_readKinds_173 : decode cX2_readKinds 173 = .ok (.iconst 2, 1) := by decide +kernel
theorem dX2_readKinds_174 : decode cX2_readKinds 174 = .ok (.invokevirtual 74, 3) := by decide +kernel
theorem dX2_readKinds_177 : decode cX2_readKinds 177 = .ok (.ireturn, 1) := by decide +kernel
theorem dX2_readKinds_178 : decode cX2_readKinds 178 = .ok (.aload_n 0, 1) := by decide +kernel
theorem dX2_readKinds_179 : decode cX2_readKinds 179 = .ok (.getfield 40, 3) := by decide +kernel
theorem dX2_readKinds_182 : decode cX2_readKinds 182 = .ok (.dup, 1) := by decide +kernel
theorem dX2_readKinds_183 : decode cX2_readKinds 183 = .ok (.getfield 183, 3) := by decide +kernel
theorem dX2_readKinds_186 : decode cX2_readKinds 186 = .ok (.bipush 15, 2) := by decide +kernel
theorem dX2_readKinds_188 : decode cX2_readKinds 188 = .ok (.iload_n 1, 1) := by decide +kernel
theorem dX2_readKinds_189 : decode cX2_readKinds 189 = .ok (.iconst 4, 1) := by decide +kernel
theorem dX2_readKinds_190 : decode cX2_readKinds 190 = .ok (.imul, 1) := by decide +kernel
theorem dX2_readKinds_191 : decode cX2_readKinds 191 = .ok (.ishl, 1) := by decide +kernel
theorem dX2_readKinds_192 : decode cX2_readKinds 192 = .ok (.iconst (-1), 1) := by decide +kernel
theorem dX2_readKinds_193 : decode cX2_readKinds 193 = .ok (.ixor, 1) := by decide +kernel
theorem dX2_readKinds_194 : decode cX2_readKinds 194 = .ok (.iload_n 2, 1) := by decide +kernel
theorem dX2_readKinds_195 : decode cX2_readKinds 195 = .ok (.iload_n 1, 1) := by decide +kernel
theorem dX2_readKinds_196 : decode cX2_readKinds 196 = .ok (.iconst 4, 1) := by decide +kernel
theorem dX2_readKinds_197 : decode cX2_readKinds 197 = .ok (.imul, 1) := by decide +kernel
theorem dX2_readKinds_198 : decode cX2_readKinds 198 = .ok (.ishl, 1) := by decide +kernel
theorem dX2_readKinds_199 : decode cX2_readKinds 199 = .ok (.ior, 1) := by decide +kernel
theorem dX2_readKinds_200 : decode cX2_readKinds 200 = .ok (.iand, 1) := by decide +kernel
theorem dX2_readKinds_201 : decode cX2_readKinds 201 = .ok (.putfield 183, 3) := by decide +kernel
theorem dX2_readKinds_204 : decode cX2_readKinds 204 = .ok (.iload_n 3, 1) := by decide +kernel
theorem dX2_readKinds_205 : decode cX2_readKinds 205 = .ok (.bipush 16, 2) := by decide +kernel
theorem dX2_readKinds_207 : decode cX2_readKinds 207 = .ok (.if_icmp .eq 15, 3) := by decide +kernel
theorem dX2_readKinds_210 : decode cX2_readKinds 210 = .ok (.aload_n 0, 1) := by decide +kernel
theorem dX2_readKinds_211 : decode cX2_readKinds 211 = .ok (.getfield 36, 3) := by decide +kernel
theorem dX2_readKinds_214 : decode cX2_readKinds 214 = .ok (.bipush 8, 2) := by decide +kernel
theorem dX2_readKinds_216 : decode cX2_readKinds 216 = .ok (.invokevirtual 74, 3) := by decide +kernel
theorem dX2_readKinds_219 : decode cX2_readKinds 219 = .ok (.ifCond .eq 7, 3) := by decide +kernel
theorem dX2_readKinds_222 : decode cX2_readKinds 222 = .ok (.iconst 1, 1) := by decide +kernel
theorem dX2_readKinds_223 : decode cX2_readKinds 223 = .ok (.goto 4, 3) := by decide +kernel
theorem dX2_readKinds_226 : decode cX2_readKinds 226 = .ok (.iconst 0, 1) := by decide +kernel
theorem dX2_readKinds_227 : decode cX2_readKinds 227 = .ok (.ireturn, 1) := by decide +kernel
theorem dX2_isKind_0 : decode cX2_isKind 0 = .ok (.iload_n 0, 1) := by decide +kernel
theorem dX2_isKind_1 : decode cX2_isKind 1 = .ok (.bipush 21, 2) := by decide +kernel
theorem dX2_isKind_3 : decode cX2_isKind 3 = .ok (.if_icmp .lt 13, 3) := by decide +kernel
theorem dX2_isKind_6 : decode cX2_isKind 6 = .ok (.iload_n 0, 1) := by decide +kernel
theorem dX2_isKind_7 : decode cX2_isKind 7 = .ok (.bipush 24, 2) := by decide +kernel
theorem dX2_isKind_9 : decode cX2_isKind 9 = .ok (.if_icmp .gt 7, 3) := by decide +kernel
theorem dX2_isKind_12 : decode cX2_isKind 12 = .ok (.iconst 1, 1) := by decide +kernel
theorem dX2_isKind_13 : decode cX2_isKind 13 = .ok (.goto 4, 3) := by decide +kernel
theorem dX2_isKind_16 : decode cX2_isKind 16 = .ok (.iconst 0, 1) := by decide +kernel
theorem dX2_isKind_17 : decode cX2_isKind 17 = .ok (.ireturn, 1) := by decide +kernel
theorem dX2_isNewName_0 : decode cX2_isNewName 0 = .ok (.aload_n 0, 1) := by decide +kernel
theorem dX2_isNewName_1 : decode cX2_isNewName 1 = .ok (.getfield 36, 3) := by decide +kernel
theorem dX2_isNewName_4 : decode cX2_isNewName 4 = .ok (.getfield 55, 3) := by decide +kernel
theorem dX2_isNewName_7 : decode cX2_isNewName 7 = .ok (.bipush 6, 2) := by decide +kernel
theorem dX2_isNewName_9 : decode cX2_isNewName 9 = .ok (.if_icmp .eq 12, 3) := by decide +kernel
theorem dX2_isNewName_12 : decode cX2_isNewName 12 = .ok (.aload_n 0, 1) := by decide +kernel
theorem dX2_isNewName_13 : decode cX2_isNewName 13 = .ok (.getfield 36, 3) := by decide +kernel
theorem dX2_isNewName_16 : decode cX2_isNewName 16 = .ok (.iconst 2, 1) := by decide +kernel
theorem dX2_isNewName_17 : decode cX2_isNewName 17 = .ok (.invokevirtual 74, 3) := by decide +kernel
theorem dX2_isNewName_20 : decode cX2_isNewName 20 = .ok (.ireturn, 1) := by decide +kernel
theorem dX2_isNewName_21 : decode cX2_isNewName 21 = .ok (.aload_n 0, 1) := by decide +kernel
theorem dX2_isNewName_22 : decode cX2_isNewName 22 = .ok (.getfield 40, 3) := by decide +kernel
theorem dX2_isNewName_25 : decode cX2_isNewName 25 = .ok (.getfield 116, 3) := by decide +kernel
theorem dX2_isNewName_28 : decode cX2_isNewName 28 = .ok (.aload_n 0, 1) := by decide +kernel
theorem dX2_isNewName_29 : decode cX2_isNewName 29 = .ok (.getfield 36, 3) := by decide +kernel
theorem dX2_isNewName_32 : decode cX2_isNewName 32 = .ok (.getfield 120, 3) := by decide +kernel
theorem dX2_isNewName_35 : decode cX2_isNewName 35 = .ok (.invokevirtual 186, 3) := by decide +kernel
theorem dX2_isNewName_38 : decode cX2_isNewName 38 = .ok (.ifCond .eq 14, 3) := by decide +kernel
theorem dX2_isNewName_41 : decode cX2_isNewName 41 = .ok (.aload_n 0, 1) := by decide +kernel
theorem dX2_isNewName_42 : decode cX2_isNewName 42 = .ok (.getfield 36, 3) := by decide +kernel
theorem dX2_isNewName_45 : decode cX2_isNewName 45 = .ok (.iconst 3, 1) := by decide +kernel
theorem dX2_isNewName_46 : decode cX2_isNewName 46 = .ok (.invokevirtual 74, 3) := by decide +kernel
theorem dX2_isNewName_49 : decode cX2_isNewName 49 = .ok (.ifCond .eq 7, 3) := by decide +kernel
theorem dX2_isNewName_52 : decode cX2_isNewName 52 = .ok (.iconst 1, 1) := by decide +kernel
theorem dX2_isNewName_53 : decode cX2_isNewName 53 = .ok (.goto 4, 3) := by decide +kernel
theorem dX2_isNewName_56 : decode cX2_isNewName 56 = .ok (.iconst 0, 1) := by decide +kernel
theorem dX2_isNewName_57 : decode cX2_isNewName 57 = .ok (.ireturn, 1) := by decide +kernel
theorem dX2_takeNewName_0 : decode cX2_takeNewName 0 = .ok (.aload_n 0, 1) := by decide +kernel
theorem dX2_takeNewName_1 : decode cX2_takeNewName 1 = .ok (.invokevirtual 113, 3) := by decide +kernel
theorem dX2_takeNewName_4 : decode cX2_takeNewName 4 = .ok (.ifCond .ne 5, 3) := by decide +kernel
theorem dX2_takeNewName_7 : decode cX2_takeNewName 7 = .ok (.iconst 0, 1) := by decide +kernel
theorem dX2_takeNewName_8 : decode cX2_takeNewName 8 = .ok (.ireturn, 1) := by decide +kernel
theorem dX2_takeNewName_9 : decode cX2_takeNewName 9 = .ok (.aload_n 0, 1) := by decide +kernel
theorem dX2_takeNewName_10 : decode cX2_takeNewName 10 = .ok (.getfield 40, 3) := by decide +kernel
theorem dX2_takeNewName_13 : decode cX2_takeNewName 13 = .ok (.getfield 116, 3) := by decide +kernel
theorem dX2_takeNewName_16 : decode cX2_takeNewName 16 = .ok (.aload_n 0, 1) := by decide +kernel
theorem dX2_takeNewName_17 : decode cX2_takeNewName 17 = .ok (.getfield 36, 3) := by decide +kernel
theorem dX2_takeNewName_20 : decode cX2_takeNewName 20 = .ok (.getfield 120, 3) := by decide +kernel
theorem dX2_takeNewName_23 : decode cX2_takeNewName 23 = .ok (.iload_n 1, 1) := by decide +kernel
theorem dX2_takeNewName_24 : decode cX2_takeNewName 24 = .ok (.iload_n 2, 1) := by decide +kernel
theorem dX2_takeNewName_25 : decode cX2_takeNewName 25 = .ok (.invokevirtual 124, 3) := by decide +kernel
theorem dX2_takeNewName_28 : decode cX2_takeNewName 28 = .ok (.aload_n 0, 1) := by decide +kernel
theorem dX2_takeNewName_29 : decode cX2_takeNewName 29 = .ok (.getfield 36, 3) := by decide +kernel
theorem dX2_takeNewName_32 : decode cX2_takeNewName 32 = .ok (.invokevirtual 91, 3) := by decide +kernel
theorem dX2_takeNewName_35 : decode cX2_takeNewName 35 = .ok (.iconst 1, 1) := by decide +kernel
theorem dX2_takeNewName_36 : decode cX2_takeNewName 36 = .ok (.ireturn, 1) := by decide +kernel
theorem dX2_makeWorldsOnce_0 : decode cX2_makeWorldsOnce 0 = .ok (.aload_n 0, 1) := by decide +kernel
theorem dX2_makeWorldsOnce_1 : decode cX2_makeWorldsOnce 1 = .ok (.getfield 32, 3) := by decide +kernel
theorem dX2_makeWorldsOnce_4 : decode cX2_makeWorldsOnce 4 = .ok (.ifCond .eq 4, 3) := by decide +kernel
theorem dX2_makeWorldsOnce_7 : decode cX2_makeWorldsOnce 7 = .ok (.return_, 1) := by decide +kernel
theorem dX2_makeWorldsOnce_8 : decode cX2_makeWorldsOnce 8 = .ok (.aload_n 0, 1) := by decide +kernel
theorem dX2_makeWorldsOnce_9 : decode cX2_makeWorldsOnce 9 = .ok (.iconst 1, 1) := by decide +kernel
theorem dX2_makeWorldsOnce_10 : decode cX2_makeWorldsOnce 10 = .ok (.putfield 32, 3) := by decide +kernel
theorem dX2_makeWorldsOnce_13 : decode cX2_makeWorldsOnce 13 = .ok (.aload_n 0, 1) := by decide +kernel
theorem dX2_makeWorldsOnce_14 : decode cX2_makeWorldsOnce 14 = .ok (.getfield 40, 3) := by decide +kernel
theorem dX2_makeWorldsOnce_17 : decode cX2_makeWorldsOnce 17 = .ok (.aload_n 0, 1) := by decide +kernel
theorem dX2_makeWorldsOnce_18 : decode cX2_makeWorldsOnce 18 = .ok (.getfield 18, 3) := by decide +kernel
theorem dX2_makeWorldsOnce_21 : decode cX2_makeWorldsOnce 21 = .ok (.invokevirtual 190, 3) := by decide +kernel
theorem dX2_makeWorldsOnce_24 : decode cX2_makeWorldsOnce 24 = .ok (.aload_n 0, 1) := by decide +kernel
theorem dX2_makeWorldsOnce_25 : decode cX2_makeWorldsOnce 25 = .ok (.getfield 26, 3) := by decide +kernel
theorem dX2_makeWorldsOnce_28 : decode cX2_makeWorldsOnce 28 = .ok (.lconst 0, 1) := by decide +kernel
theorem dX2_makeWorldsOnce_29 : decode cX2_makeWorldsOnce 29 = .ok (.invokestatic 194, 3) := by decide +kernel
theorem dX2_makeWorldsOnce_32 : decode cX2_makeWorldsOnce 32 = .ok (.aload_n 0, 1) := by decide +kernel
theorem dX2_makeWorldsOnce_33 : decode cX2_makeWorldsOnce 33 = .ok (.getfield 22, 3) := by decide +kernel
theorem dX2_makeWorldsOnce_36 : decode cX2_makeWorldsOnce 36 = .ok (.lconst 0, 1) := by decide +kernel
theorem dX2_makeWorldsOnce_37 : decode cX2_makeWorldsOnce 37 = .ok (.invokestatic 194, 3) := by decide +kernel
theorem dX2_makeWorldsOnce_40 : decode cX2_makeWorldsOnce 40 = .ok (.iconst 0, 1) := by decide +kernel
theorem dX2_makeWorldsOnce_41 : decode cX2_makeWorldsOnce 41 = .ok (.istore_n 1, 1) := by decide +kernel
theorem dX2_makeWorldsOnce_42 : decode cX2_makeWorldsOnce 42 = .ok (.iload_n 1, 1) := by decide +kernel
theorem dX2_makeWorldsOnce_43 : decode cX2_makeWorldsOnce 43 = .ok (.aload_n 0, 1) := by decide +kernel
theorem dX2_makeWorldsOnce_44 : decode cX2_makeWorldsOnce 44 = .ok (.getfield 40, 3) := by decide +kernel
theorem dX2_makeWorldsOnce_47 : decode cX2_makeWorldsOnce 47 = .ok (.getfield 143, 3) := by decide +kernel
theorem dX2_makeWorldsOnce_50 : decode cX2_makeWorldsOnce 50 = .ok (.if_icmp .ge 87, 3) := by decide +kernel
theorem dX2_makeWorldsOnce_53 : decode cX2_makeWorldsOnce 53 = .ok (.aload_n 0, 1) := by decide +kernel
theorem dX2_makeWorldsOnce_54 : decode cX2_makeWorldsOnce 54 = .ok (.getfield 40, 3) := by decide +kernel
theorem dX2_makeWorldsOnce_57 : decode cX2_makeWorldsOnce 57 = .ok (.iload_n 1, 1) := by decide +kernel
theorem dX2_makeWorldsOnce_58 : decode cX2_makeWorldsOnce 58 = .ok (.invokevirtual 197, 3) := by decide +kernel
theorem dX2_makeWorldsOnce_61 : decode cX2_makeWorldsOnce 61 = .ok (.ifCond .eq 70, 3) := by decide +kernel
theorem dX2_makeWorldsOnce_64 : decode cX2_makeWorldsOnce 64 = .ok (.lconst 1, 1) := by decide +kernel
theorem dX2_makeWorldsOnce_65 : decode cX2_makeWorldsOnce 65 = .ok (.iload_n 1, 1) := by decide +kernel
theorem dX2_makeWorldsOnce_66 : decode cX2_makeWorldsOnce 66 = .ok (.bipush 63, 2) := by decide +kernel
theorem dX2_makeWorldsOnce_68 : decode cX2_makeWorldsOnce 68 = .ok (.iand, 1) := by decide +kernel
theorem dX2_makeWorldsOnce_69 : decode cX2_makeWorldsOnce 69 = .ok (.lshl, 1) := by decide +kernel
theorem dX2_makeWorldsOnce_70 : decode cX2_makeWorldsOnce 70 = .ok (.lstore_n 2, 1) := by decide +kernel
theorem dX2_makeWorldsOnce_71 : decode cX2_makeWorldsOnce 71 = .ok (.aload_n 0, 1) := by decide +kernel
theorem dX2_makeWorldsOnce_72 : decode cX2_makeWorldsOnce 72 = .ok (.getfield 26, 3) := by decide +kernel
theorem dX2_makeWorldsOnce_75 : decode cX2_makeWorldsOnce 75 = .ok (.iload_n 1, 1) := by decide +kernel
theorem dX2_makeWorldsOnce_76 : decode cX2_makeWorldsOnce 76 = .ok (.bipush 6, 2) := by decide +kernel
theorem dX2_makeWorldsOnce_78 : decode cX2_makeWorldsOnce 78 = .ok (.ishr, 1) := by decide +kernel
theorem dX2_makeWorldsOnce_79 : decode cX2_makeWorldsOnce 79 = .ok (.dup2, 1) := by decide +kernel
theorem dX2_makeWorldsOnce_80 : decode cX2_makeWorldsOnce 80 = .ok (.laload, 1) := by decide +kernel
theorem dX2_makeWorldsOnce_81 : decode cX2_makeWorldsOnce 81 = .ok (.lload_n 2, 1) := by decide +kernel
theorem dX2_makeWorldsOnce_82 : decode cX2_makeWorldsOnce 82 = .ok (.lor, 1) := by decide +kernel
theorem dX2_makeWorldsOnce_83 : decode cX2_makeWorldsOnce 83 = .ok (.lastore, 1) := by decide +kernel
theorem dX2_makeWorldsOnce_84 : decode cX2_makeWorldsOnce 84 = .ok (.iconst 0, 1) := by decide +kernel
theorem dX2_makeWorldsOnce_85 : decode cX2_makeWorldsOnce 85 = .ok (.istore 4, 2) := by decide +kernel
theorem dX2_makeWorldsOnce_87 : decode cX2_makeWorldsOnce 87 = .ok (.iload 4, 2) := by decide +kernel
theorem dX2_makeWorldsOnce_89 : decode cX2_makeWorldsOnce 89 = .ok (.aload_n 0, 1) := by decide +kernel
theorem dX2_makeWorldsOnce_90 : decode cX2_makeWorldsOnce 90 = .ok (.getfield 40, 3) := by decide +kernel
theorem dX2_makeWorldsOnce_93 : decode cX2_makeWorldsOnce 93 = .ok (.getfield 85, 3) := by decide +kernel
theorem dX2_makeWorldsOnce_96 : decode cX2_makeWorldsOnce 96 = .ok (.if_icmp .ge 35, 3) := by decide +kernel
theorem dX2_makeWorldsOnce_99 : decode cX2_makeWorldsOnce 99 = .ok (.aload_n 0, 1) := by decide +kernel
theorem dX2_makeWorldsOnce_100 : decode cX2_makeWorldsOnce 100 = .ok (.getfield 22, 3) := by decide +kernel
theorem dX2_makeWorldsOnce_103 : decode cX2_makeWorldsOnce 103 = .ok (.aload_n 0, 1) := by decide +kernel
theorem dX2_makeWorldsOnce_104 : decode cX2_makeWorldsOnce 104 = .ok (.getfield 40, 3) := by decide +kernel
theorem dX2_makeWorldsOnce_107 : decode cX2_makeWorldsOnce 107 = .ok (.iload_n 1, 1) := by decide +kernel
theorem dX2_makeWorldsOnce_108 : decode cX2_makeWorldsOnce 108 = .ok (.iload 4, 2) := by decide +kernel
theorem dX2_makeWorldsOnce_110 : decode cX2_makeWorldsOnce 110 = .ok (.invokevirtual 200, 3) := by decide +kernel
theorem dX2_makeWorldsOnce_113 : decode cX2_makeWorldsOnce 113 = .ok (.iconst 4, 1) := by decide +kernel
theorem dX2_makeWorldsOnce_114 : decode cX2_makeWorldsOnce 114 = .ok (.imul, 1) := by decide +kernel
theorem dX2_makeWorldsOnce_115 : decode cX2_makeWorldsOnce 115 = .ok (.iload_n 1, 1) := by decide +kernel
theorem dX2_makeWorldsOnce_116 : decode cX2_makeWorldsOnce 116 = .ok (.bipush 6, 2) := by decide +kernel
theorem dX2_makeWorldsOnce_118 : decode cX2_makeWorldsOnce 118 = .ok (.ishr, 1) := by decide +kernel
theorem dX2_makeWorldsOnce_119 : decode cX2_makeWorldsOnce 119 = .ok (.iadd, 1) := by decide +kernel
theorem dX2_makeWorldsOnce_120 : decode cX2_makeWorldsOnce 120 = .ok (.dup2, 1) := by decide +kernel
theorem dX2_makeWorldsOnce_121 : decode cX2_makeWorldsOnce 121 = .ok (.laload, 1) := by decide +kernel
theorem dX2_makeWorldsOnce_122 : decode cX2_makeWorldsOnce 122 = .ok (.lload_n 2, 1) := by decide +kernel
theorem dX2_makeWorldsOnce_123 : decode cX2_makeWorldsOnce 123 = .ok (.lor, 1) := by decide +kernel
theorem dX2_makeWorldsOnce_124 : decode cX2_makeWorldsOnce 124 = .ok (.lastore, 1) := by decide +kernel
theorem dX2_makeWorldsOnce_125 : decode cX2_makeWorldsOnce 125 = .ok (.iinc 4 1, 3) := by decide +kernel
theorem dX2_makeWorldsOnce_128 : decode cX2_makeWorldsOnce 128 = .ok (.goto (-41), 3) := by decide +kernel
theorem dX2_makeWorldsOnce_131 : decode cX2_makeWorldsOnce 131 = .ok (.iinc 1 1, 3) := by decide +kernel
theorem dX2_makeWorldsOnce_134 : decode cX2_makeWorldsOnce 134 = .ok (.goto (-92), 3) := by decide +kernel
theorem dX2_makeWorldsOnce_137 : decode cX2_makeWorldsOnce 137 = .ok (.return_, 1) := by decide +kernel
theorem dX2_readEither_0 : decode cX2_readEither 0 = .ok (.iload_n 1, 1) := by decide +kernel
theorem dX2_readEither_1 : decode cX2_readEither 1 = .ok (.iconst 3, 1) := by decide +kernel
theorem dX2_readEither_2 : decode cX2_readEither 2 = .ok (.imul, 1) := by decide +kernel
theorem dX2_readEither_3 : decode cX2_readEither 3 = .ok (.iconst 4, 1) := by decide +kernel
theorem dX2_readEither_4 : decode cX2_readEither 4 = .ok (.imul, 1) := by decide +kernel
theorem dX2_readEither_5 : decode cX2_readEither 5 = .ok (.istore_n 2, 1) := by decide +kernel
theorem dX2_readEither_6 : decode cX2_readEither 6 = .ok (.iload_n 2, 1) := by decide +kernel
theorem dX2_readEither_7 : decode cX2_readEither 7 = .ok (.iconst 4, 1) := by decide +kernel
theorem dX2_readEither_8 : decode cX2_readEither 8 = .ok (.iadd, 1) := by decide +kernel
theorem dX2_readEither_9 : decode cX2_readEither 9 = .ok (.istore_n 3, 1) := by decide +kernel
theorem dX2_readEither_10 : decode cX2_readEither 10 = .ok (.aload_n 0, 1) := by decide +kernel
theorem dX2_readEither_11 : decode cX2_readEither 11 = .ok (.iload_n 1, 1) := by decide +kernel
theorem dX2_readEither_12 : decode cX2_readEither 12 = .ok (.invokevirtual 203, 3) := by decide +kernel
theorem dX2_readEither_15 : decode cX2_readEither 15 = .ok (.ifCond .ne 5, 3) := by decide +kernel
theorem dX2_readEither_18 : decode cX2_readEither 18 = .ok (.iconst 0, 1) := by decide +kernel
theorem dX2_readEither_19 : decode cX2_readEither 19 = .ok (.ireturn, 1) := by decide +kernel
theorem dX2_readEither_20 : decode cX2_readEither 20 = .ok (.aload_n 0, 1) := by decide +kernel
theorem dX2_readEither_21 : decode cX2_readEither 21 = .ok (.getfield 29, 3) := by decide +kernel
theorem dX2_readEither_24 : decode cX2_readEither 24 = .ok (.iload_n 3, 1) := by decide +kernel
theorem dX2_readEither_25 : decode cX2_readEither 25 = .ok (.aload_n 0, 1) := by decide +kernel
theorem dX2_readEither_26 : decode cX2_readEither 26 = .ok (.getfield 29, 3) := by decide +kernel
theorem dX2_readEither_29 : decode cX2_readEither 29 = .ok (.iload_n 2, 1) := by decide +kernel
theorem dX2_readEither_30 : decode cX2_readEither 30 = .ok (.iconst 4, 1) := by decide +kernel
theorem dX2_readEither_31 : decode cX2_readEither 31 = .ok (.invokestatic 206, 3) := by decide +kernel
theorem dX2_readEither_34 : decode cX2_readEither 34 = .ok (.iconst 0, 1) := by decide +kernel
theorem dX2_readEither_35 : decode cX2_readEither 35 = .ok (.istore 4, 2) := by decide +kernel
theorem dX2_readEither_37 : decode cX2_readEither 37 = .ok (.iload 4, 2) := by decide +kernel
theorem dX2_readEither_39 : decode cX2_readEither 39 = .ok (.sipush 901, 3) := by decide +kernel
theorem dX2_readEither_42 : decode cX2_readEither 42 = .ok (.if_icmp .ge 74, 3) := by decide +kernel
theorem dX2_readEither_45 : decode cX2_readEither 45 = .ok (.aload_n 0, 1) := by decide +kernel
theorem dX2_readEither_46 : decode cX2_readEither 46 = .ok (.getfield 36, 3) := by decide +kernel
theorem dX2_readEither_49 : decode cX2_readEither 49 = .ok (.getfield 55, 3) := by decide +kernel
theorem dX2_readEither_52 : decode cX2_readEither 52 = .ok (.bipush 18, 2) := by decide +kernel
theorem dX2_readEither_54 : decode cX2_readEither 54 = .ok (.if_icmp .ne 62, 3) := by decide +kernel
theorem dX2_readEither_57 : decode cX2_readEither 57 = .ok (.aload_n 0, 1) := by decide +kernel
theorem dX2_readEither_58 : decode cX2_readEither 58 = .ok (.getfield 36, 3) := by decide +kernel
theorem dX2_readEither_61 : decode cX2_readEither 61 = .ok (.invokevirtual 91, 3) := by decide +kernel
theorem dX2_readEither_64 : decode cX2_readEither 64 = .ok (.aload_n 0, 1) := by decide +kernel
theorem dX2_readEither_65 : decode cX2_readEither 65 = .ok (.iload_n 1, 1) := by decide +kernel
theorem dX2_readEither_66 : decode cX2_readEither 66 = .ok (.invokevirtual 203, 3) := by decide +kernel
theorem dX2_readEither_69 : decode cX2_readEither 69 = .ok (.ifCond .ne 5, 3) := by decide +kernel
theorem dX2_readEither_72 : decode cX2_readEither 72 = .ok (.iconst 0, 1) := by decide +kernel
theorem dX2_readEither_73 : decode cX2_readEither 73 = .ok (.ireturn, 1) := by decide +kernel
theorem dX2_readEither_74 : decode cX2_readEither 74 = .ok (.iconst 0, 1) := by decide +kernel
theorem dX2_readEither_75 : decode cX2_readEither 75 = .ok (.istore 5, 2) := by decide +kernel
theorem dX2_readEither_77 : decode cX2_readEither 77 = .ok (.iload 5, 2) := by decide +kernel
theorem dX2_readEither_79 : decode cX2_readEither 79 = .ok (.iconst 4, 1) := by decide +kernel
theorem dX2_readEither_80 : decode cX2_readEither 80 = .ok (.if_icmp .ge 30, 3) := by decide +kernel
theorem dX2_readEither_83 : decode cX2_readEither 83 = .ok (.aload_n 0, 1) := by decide +kernel
theorem dX2_readEither_84 : decode cX2_readEither 84 = .ok (.getfield 29, 3) := by decide +kernel
theorem dX2_readEither_87 : decode cX2_readEither 87 = .ok (.iload_n 2, 1) := by decide +kernel
theorem dX2_readEither_88 : decode cX2_readEither 88 = .ok (.iload 5, 2) := by decide +kernel
theorem dX2_readEither_90 : decode cX2_readEither 90 = .ok (.iadd, 1) := by decide +kernel
theorem dX2_readEither_91 : decode cX2_readEither 91 = .ok (.dup2, 1) := by decide +kernel
theorem dX2_readEither_92 : decode cX2_readEither 92 = .ok (.laload, 1) := by decide +kernel
theorem dX2_readEither_93 : decode cX2_readEither 93 = .ok (.aload_n 0, 1) := by decide +kernel
theorem dX2_readEither_94 : decode cX2_readEither 94 = .ok (.getfield 29, 3) := by decide +kernel
theorem dX2_readEither_97 : decode cX2_readEither 97 = .ok (.iload_n 3, 1) := by decide +kernel
theorem dX2_readEither_98 : decode cX2_readEither 98 = .ok (.iload 5, 2) := by decide +kernel
theorem dX2_readEither_100 : decode cX2_readEither 100 = .ok (.iadd, 1) := by decide +kernel
theorem dX2_readEither_101 : decode cX2_readEither 101 = .ok (.laload, 1) := by decide +kernel
theorem dX2_readEither_102 : decode cX2_readEither 102 = .ok (.lor, 1) := by decide +kernel
theorem dX2_readEither_103 : decode cX2_readEither 103 = .ok (.lastore, 1) := by decide +kernel
theorem dX2_readEither_104 : decode cX2_readEither 104 = .ok (.iinc 5 1, 3) := by decide +kernel
theorem dX2_readEither_107 : decode cX2_readEither 107 = .ok (.goto (-30), 3) := by decide +kernel
theorem dX2_readEither_110 : decode cX2_readEither 110 = .ok (.iinc 4 1, 3) := by decide +kernel
theorem dX2_readEither_113 : decode cX2_readEither 113 = .ok (.goto (-76), 3) := by decide +kernel
theorem dX2_readEither_116 : decode cX2_readEither 116 = .ok (.iconst 1, 1) := by decide +kernel
theorem dX2_readEither_117 : decode cX2_readEither 117 = .ok (.ireturn, 1) := by decide +kernel
theorem dX2_readBoth_0 : decode cX2_readBoth 0 = .ok (.iload_n 1, 1) := by decide +kernel
theorem dX2_readBoth_1 : decode cX2_readBoth 1 = .ok (.iconst 3, 1) := by decide +kernel
theorem dX2_readBoth_2 : decode cX2_readBoth 2 = .ok (.imul, 1) := by decide +kernel
theorem dX2_readBoth_3 : decode cX2_readBoth 3 = .ok (.iconst 1, 1) := by decide +kernel
theorem dX2_readBoth_4 : decode cX2_readBoth 4 = .ok (.iadd, 1) := by decide +kernel
theorem dX2_readBoth_5 : decode cX2_readBoth 5 = .ok (.iconst 4, 1) := by decide +kernel
theorem dX2_readBoth_6 : decode cX2_readBoth 6 = .ok (.imul, 1) := by decide +kernel
theorem dX2_readBoth_7 : decode cX2_readBoth 7 = .ok (.istore_n 2, 1) := by decide +kernel
theorem dX2_readBoth_8 : decode cX2_readBoth 8 = .ok (.iload_n 2, 1) := by decide +kernel
theorem dX2_readBoth_9 : decode cX2_readBoth 9 = .ok (.iconst 4, 1) := by decide +kernel
theorem dX2_readBoth_10 : decode cX2_readBoth 10 = .ok (.iadd, 1) := by decide +kernel
theorem dX2_readBoth_11 : decode cX2_readBoth 11 = .ok (.istore_n 3, 1) := by decide +kernel
theorem dX2_readBoth_12 : decode cX2_readBoth 12 = .ok (.aload_n 0, 1) := by decide +kernel
theorem dX2_readBoth_13 : decode cX2_readBoth 13 = .ok (.iload_n 1, 1) := by decide +kernel
theorem dX2_readBoth_14 : decode cX2_readBoth 14 = .ok (.invokevirtual 212, 3) := by decide +kernel
theorem dX2_readBoth_17 : decode cX2_readBoth 17 = .ok (.ifCond .ne 5, 3) := by decide +kernel
theorem dX2_readBoth_20 : decode cX2_readBoth 20 = .ok (.iconst 0, 1) := by decide +kernel
theorem dX2_readBoth_21 : decode cX2_readBoth 21 = .ok (.ireturn, 1) := by decide +kernel
theorem dX2_readBoth_22 : decode cX2_readBoth 22 = .ok (.aload_n 0, 1) := by decide +kernel
theorem dX2_readBoth_23 : decode cX2_readBoth 23 = .ok (.getfield 29, 3) := by decide +kernel
theorem dX2_readBoth_26 : decode cX2_readBoth 26 = .ok (.iload_n 3, 1) := by decide +kernel
theorem dX2_readBoth_27 : decode cX2_readBoth 27 = .ok (.aload_n 0, 1) := by decide +kernel
theorem dX2_readBoth_28 : decode cX2_readBoth 28 = .ok (.getfield 29, 3) := by decide +kernel
theorem dX2_readBoth_31 : decode cX2_readBoth 31 = .ok (.iload_n 2, 1) := by decide +kernel
theorem dX2_readBoth_32 : decode cX2_readBoth 32 = .ok (.iconst 4, 1) := by decide +kernel
theorem dX2_readBoth_33 : decode cX2_readBoth 33 = .ok (.invokestatic 206, 3) := by decide +kernel
theorem dX2_readBoth_36 : decode cX2_readBoth 36 = .ok (.iconst 0, 1) := by decide +kernel
theorem dX2_readBoth_37 : decode cX2_readBoth 37 = .ok (.istore 4, 2) := by decide +kernel
theorem dX2_readBoth_39 : decode cX2_readBoth 39 = .ok (.iload 4, 2) := by decide +kernel
theorem dX2_readBoth_41 : decode cX2_readBoth 41 = .ok (.sipush 901, 3) := by decide +kernel
theorem dX2_readBoth_44 : decode cX2_readBoth 44 = .ok (.if_icmp .ge 74, 3) := by decide +kernel
theorem dX2_readBoth_47 : decode cX2_readBoth 47 = .ok (.aload_n 0, 1) := by decide +kernel
theorem dX2_readBoth_48 : decode cX2_readBoth 48 = .ok (.getfield 36, 3) := by decide +kernel
theorem dX2_readBoth_51 : decode cX2_readBoth 51 = .ok (.getfield 55, 3) := by decide +kernel
theorem dX2_readBoth_54 : decode cX2_readBoth 54 = .ok (.bipush 19, 2) := by decide +kernel
theorem dX2_readBoth_56 : decode cX2_readBoth 56 = .ok (.if_icmp .ne 62, 3) := by decide +kernel
theorem dX2_readBoth_59 : decode cX2_readBoth 59 = .ok (.aload_n 0, 1) := by decide +kernel
theorem dX2_readBoth_60 : decode cX2_readBoth 60 = .ok (.getfield 36, 3) := by decide +kernel
theorem dX2_readBoth_63 : decode cX2_readBoth 63 = .ok (.invokevirtual 91, 3) := by decide +kernel
theorem dX2_readBoth_66 : decode cX2_readBoth 66 = .ok (.aload_n 0, 1) := by decide +kernel
theorem dX2_readBoth_67 : decode cX2_readBoth 67 = .ok (.iload_n 1, 1) := by decide +kernel
theorem dX2_readBoth_68 : decode cX2_readBoth 68 = .ok (.invokevirtual 212, 3) := by decide +kernel
theorem dX2_readBoth_71 : decode cX2_readBoth 71 = .ok (.ifCond .ne 5, 3) := by decide +kernel
theorem dX2_readBoth_74 : decode cX2_readBoth 74 = .ok (.iconst 0, 1) := by decide +kernel
theorem dX2_readBoth_75 : decode cX2_readBoth 75 = .ok (.ireturn, 1) := by decide +kernel
theorem dX2_readBoth_76 : decode cX2_readBoth 76 = .ok (.iconst 0, 1) := by decide +kernel
theorem dX2_readBoth_77 : decode cX2_readBoth 77 = .ok (.istore 5, 2) := by decide +kernel
theorem dX2_readBoth_79 : decode cX2_readBoth 79 = .ok (.iload 5, 2) := by decide +kernel
theorem dX2_readBoth_81 : decode cX2_readBoth 81 = .ok (.iconst 4, 1) := by decide +kernel
theorem dX2_readBoth_82 : decode cX2_readBoth 82 = .ok (.if_icmp .ge 30, 3) := by decide +kernel
theorem dX2_readBoth_85 : decode cX2_readBoth 85 = .ok (.aload_n 0, 1) := by decide +kernel
theorem dX2_readBoth_86 : decode cX2_readBoth 86 = .ok (.getfield 29, 3) := by decide +kernel
theorem dX2_readBoth_89 : decode cX2_readBoth 89 = .ok (.iload_n 2, 1) := by decide +kernel
theorem dX2_readBoth_90 : decode cX2_readBoth 90 = .ok (.iload 5, 2) := by decide +kernel
theorem dX2_readBoth_92 : decode cX2_readBoth 92 = .ok (.iadd, 1) := by decide +kernel
theorem dX2_readBoth_93 : decode cX2_readBoth 93 = .ok (.dup2, 1) := by decide +kernel
theorem dX2_readBoth_94 : decode cX2_readBoth 94 = .ok (.laload, 1) := by decide +kernel
theorem dX2_readBoth_95 : decode cX2_readBoth 95 = .ok (.aload_n 0, 1) := by decide +kernel
theorem dX2_readBoth_96 : decode cX2_readBoth 96 = .ok (.getfield 29, 3) := by decide +kernel
theorem dX2_readBoth_99 : decode cX2_readBoth 99 = .ok (.iload_n 3, 1) := by decide +kernel
theorem dX2_readBoth_100 : decode cX2_readBoth 100 = .ok (.iload 5, 2) := by decide +kernel
theorem dX2_readBoth_102 : decode cX2_readBoth 102 = .ok (.iadd, 1) := by decide +kernel
theorem dX2_readBoth_103 : decode cX2_readBoth 103 = .ok (.laload, 1) := by decide +kernel
theorem dX2_readBoth_104 : decode cX2_readBoth 104 = .ok (.land, 1) := by decide +kernel
theorem dX2_readBoth_105 : decode cX2_readBoth 105 = .ok (.lastore, 1) := by decide +kernel
theorem dX2_readBoth_106 : decode cX2_readBoth 106 = .ok (.iinc 5 1, 3) := by decide +kernel
theorem dX2_readBoth_109 : decode cX2_readBoth 109 = .ok (.goto (-30), 3) := by decide +kernel
theorem dX2_readBoth_112 : decode cX2_readBoth 112 = .ok (.iinc 4 1, 3) := by decide +kernel
theorem dX2_readBoth_115 : decode cX2_readBoth 115 = .ok (.goto (-76), 3) := by decide +kernel
theorem dX2_readBoth_118 : decode cX2_readBoth 118 = .ok (.iconst 1, 1) := by decide +kernel
theorem dX2_readBoth_119 : decode cX2_readBoth 119 = .ok (.ireturn, 1) := by decide +kernel
theorem dX2_readOne_0 : decode cX2_readOne 0 = .ok (.iload_n 1, 1) := by decide +kernel
theorem dX2_readOne_1 : decode cX2_readOne 1 = .ok (.iconst 3, 1) := by decide +kernel
theorem dX2_readOne_2 : decode cX2_readOne 2 = .ok (.imul, 1) := by decide +kernel
theorem dX2_readOne_3 : decode cX2_readOne 3 = .ok (.iconst 2, 1) := by decide +kernel
theorem dX2_readOne_4 : decode cX2_readOne 4 = .ok (.iadd, 1) := by decide +kernel
theorem dX2_readOne_5 : decode cX2_readOne 5 = .ok (.iconst 4, 1) := by decide +kernel
theorem dX2_readOne_6 : decode cX2_readOne 6 = .ok (.imul, 1) := by decide +kernel
theorem dX2_readOne_7 : decode cX2_readOne 7 = .ok (.istore_n 2, 1) := by decide +kernel
theorem dX2_readOne_8 : decode cX2_readOne 8 = .ok (.iload_n 1, 1) := by decide +kernel
theorem dX2_readOne_9 : decode cX2_readOne 9 = .ok (.iconst 1, 1) := by decide +kernel
theorem dX2_readOne_10 : decode cX2_readOne 10 = .ok (.iadd, 1) := by decide +kernel
theorem dX2_readOne_11 : decode cX2_readOne 11 = .ok (.iconst 3, 1) := by decide +kernel
theorem dX2_readOne_12 : decode cX2_readOne 12 = .ok (.imul, 1) := by decide +kernel
theorem dX2_readOne_13 : decode cX2_readOne 13 = .ok (.iconst 4, 1) := by decide +kernel
theorem dX2_readOne_14 : decode cX2_readOne 14 = .ok (.imul, 1) := by decide +kernel
theorem dX2_readOne_15 : decode cX2_readOne 15 = .ok (.istore_n 3, 1) := by decide +kernel
theorem dX2_readOne_16 : decode cX2_readOne 16 = .ok (.aload_n 0, 1) := by decide +kernel
theorem dX2_readOne_17 : decode cX2_readOne 17 = .ok (.getfield 36, 3) := by decide +kernel
theorem dX2_readOne_20 : decode cX2_readOne 20 = .ok (.getfield 55, 3) := by decide +kernel
theorem dX2_readOne_23 : decode cX2_readOne 23 = .ok (.bipush 20, 2) := by decide +kernel
theorem dX2_readOne_25 : decode cX2_readOne 25 = .ok (.if_icmp .eq 65, 3) := by decide +kernel
theorem dX2_readOne_28 : decode cX2_readOne 28 = .ok (.aload_n 0, 1) := by decide +kernel
theorem dX2_readOne_29 : decode cX2_readOne 29 = .ok (.getfield 36, 3) := by decide +kernel
theorem dX2_readOne_32 : decode cX2_readOne 32 = .ok (.getfield 55, 3) := by decide +kernel
theorem dX2_readOne_35 : decode cX2_readOne 35 = .ok (.iconst 4, 1) := by decide +kernel
theorem dX2_readOne_36 : decode cX2_readOne 36 = .ok (.if_icmp .eq 54, 3) := by decide +kernel
theorem dX2_readOne_39 : decode cX2_readOne 39 = .ok (.aload_n 0, 1) := by decide +kernel
theorem dX2_readOne_40 : decode cX2_readOne 40 = .ok (.getfield 36, 3) := by decide +kernel
theorem dX2_readOne_43 : decode cX2_readOne 43 = .ok (.aload_n 0, 1) := by decide +kernel
theorem dX2_readOne_44 : decode cX2_readOne 44 = .ok (.getfield 40, 3) := by decide +kernel
theorem dX2_readOne_47 : decode cX2_readOne 47 = .ok (.getfield 116, 3) := by decide +kernel
theorem dX2_readOne_50 : decode cX2_readOne 50 = .ok (.iconst 1, 1) := by decide +kernel
theorem dX2_readOne_51 : decode cX2_readOne 51 = .ok (.invokevirtual 150, 3) := by decide +kernel
theorem dX2_readOne_54 : decode cX2_readOne 54 = .ok (.istore 4, 2) := by decide +kernel
theorem dX2_readOne_56 : decode cX2_readOne 56 = .ok (.iload 4, 2) := by decide +kernel
theorem dX2_readOne_58 : decode cX2_readOne 58 = .ok (.iconst (-1), 1) := by decide +kernel
theorem dX2_readOne_59 : decode cX2_readOne 59 = .ok (.if_icmp .ne 5, 3) := by decide +kernel
theorem dX2_readOne_62 : decode cX2_readOne 62 = .ok (.iconst 0, 1) := by decide +kernel
theorem dX2_readOne_63 : decode cX2_readOne 63 = .ok (.ireturn, 1) := by decide +kernel
theorem dX2_readOne_64 : decode cX2_readOne 64 = .ok (.aload_n 0, 1) := by decide +kernel
theorem dX2_readOne_65 : decode cX2_readOne 65 = .ok (.getfield 36, 3) := by decide +kernel
theorem dX2_readOne_68 : decode cX2_readOne 68 = .ok (.invokevirtual 91, 3) := by decide +kernel
theorem dX2_readOne_71 : decode cX2_readOne 71 = .ok (.aload_n 0, 1) := by decide +kernel
theorem dX2_readOne_72 : decode cX2_readOne 72 = .ok (.getfield 22, 3) := by decide +kernel
theorem dX2_readOne_75 : decode cX2_readOne 75 = .ok (.iload 4, 2) := by decide +kernel
theorem dX2_readOne_77 : decode cX2_readOne 77 = .ok (.iconst 4, 1) := by decide +kernel
theorem dX2_readOne_78 : decode cX2_readOne 78 = .ok (.imul, 1) := by decide +kernel
theorem dX2_readOne_79 : decode cX2_readOne 79 = .ok (.aload_n 0, 1) := by decide +kernel
theorem dX2_readOne_80 : decode cX2_readOne 80 = .ok (.getfield 29, 3) := by decide +kernel
theorem dX2_readOne_83 : decode cX2_readOne 83 = .ok (.iload_n 2, 1) := by decide +kernel
theorem dX2_readOne_84 : decode cX2_readOne 84 = .ok (.iconst 4, 1) := by decide +kernel
theorem dX2_readOne_85 : decode cX2_readOne 85 = .ok (.invokestatic 206, 3) := by decide +kernel
theorem dX2_readOne_88 : decode cX2_readOne 88 = .ok (.iconst 1, 1) := by decide +kernel
theorem dX2_readOne_89 : decode cX2_readOne 89 = .ok (.ireturn, 1) := by decide +kernel
theorem dX2_readOne_90 : decode cX2_readOne 90 = .ok (.iload_n 1, 1) := by decide +kernel
theorem dX2_readOne_91 : decode cX2_readOne 91 = .ok (.bipush 6, 2) := by decide +kernel
theorem dX2_readOne_93 : decode cX2_readOne 93 = .ok (.if_icmp .lt 13, 3) := by decide +kernel
theorem dX2_readOne_96 : decode cX2_readOne 96 = .ok (.aload_n 0, 1) := by decide +kernel
theorem dX2_readOne_97 : decode cX2_readOne 97 = .ok (.getfield 36, 3) := by decide +kernel
theorem dX2_readOne_100 : decode cX2_readOne 100 = .ok (.bipush 7, 2) := by decide +kernel
theorem dX2_readOne_102 : decode cX2_readOne 102 = .ok (.invokevirtual 74, 3) := by decide +kernel
theorem dX2_readOne_105 : decode cX2_readOne 105 = .ok (.ireturn, 1) := by decide +kernel
theorem dX2_readOne_106 : decode cX2_readOne 106 = .ok (.aload_n 0, 1) := by decide +kernel
theorem dX2_readOne_107 : decode cX2_readOne 107 = .ok (.getfield 36, 3) := by decide +kernel
theorem dX2_readOne_110 : decode cX2_readOne 110 = .ok (.getfield 55, 3) := by decide +kernel
theorem dX2_readOne_113 : decode cX2_readOne 113 = .ok (.bipush 20, 2) := by decide +kernel
theorem dX2_readOne_115 : decode cX2_readOne 115 = .ok (.if_icmp .ne 72, 3) := by decide +kernel
theorem dX2_readOne_118 : decode cX2_readOne 118 = .ok (.aload_n 0, 1) := by decide +kernel
theorem dX2_readOne_119 : decode cX2_readOne 119 = .ok (.getfield 36, 3) := by decide +kernel
theorem dX2_readOne_122 : decode cX2_readOne 122 = .ok (.invokevirtual 91, 3) := by decide +kernel
theorem dX2_readOne_125 : decode cX2_readOne 125 = .ok (.aload_n 0, 1) := by decide +kernel
theorem dX2_readOne_126 : decode cX2_readOne 126 = .ok (.iload_n 1, 1) := by decide +kernel
theorem dX2_readOne_127 : decode cX2_readOne 127 = .ok (.iconst 1, 1) := by decide +kernel
theorem dX2_readOne_128 : decode cX2_readOne 128 = .ok (.iadd, 1) := by decide +kernel
theorem dX2_readOne_129 : decode cX2_readOne 129 = .ok (.invokevirtual 212, 3) := by decide +kernel
theorem dX2_readOne_132 : decode cX2_readOne 132 = .ok (.ifCond .ne 5, 3) := by decide +kernel
theorem dX2_readOne_135 : decode cX2_readOne 135 = .ok (.iconst 0, 1) := by decide +kernel
theorem dX2_readOne_136 : decode cX2_readOne 136 = .ok (.ireturn, 1) := by decide +kernel
theorem dX2_readOne_137 : decode cX2_readOne 137 = .ok (.iconst 0, 1) := by decide +kernel
theorem dX2_readOne_138 : decode cX2_readOne 138 = .ok (.istore 4, 2) := by decide +kernel
theorem dX2_readOne_140 : decode cX2_readOne 140 = .ok (.iload 4, 2) := by decide +kernel
theorem dX2_readOne_142 : decode cX2_readOne 142 = .ok (.iconst 4, 1) := by decide +kernel
theorem dX2_readOne_143 : decode cX2_readOne 143 = .ok (.if_icmp .ge 42, 3) := by decide +kernel
theorem dX2_readOne_146 : decode cX2_readOne 146 = .ok (.aload_n 0, 1) := by decide +kernel
theorem dX2_readOne_147 : decode cX2_readOne 147 = .ok (.getfield 29, 3) := by decide +kernel
theorem dX2_readOne_150 : decode cX2_readOne 150 = .ok (.iload_n 2, 1) := by decide +kernel
theorem dX2_readOne_151 : decode cX2_readOne 151 = .ok (.iload 4, 2) := by decide +kernel
theorem dX2_readOne_153 : decode cX2_readOne 153 = .ok (.iadd, 1) := by decide +kernel
theorem dX2_readOne_154 : decode cX2_readOne 154 = .ok (.aload_n 0, 1) := by decide +kernel
theorem dX2_readOne_155 : decode cX2_readOne 155 = .ok (.getfield 26, 3) := by decide +kernel
theorem dX2_readOne_158 : decode cX2_readOne 158 = .ok (.iload 4, 2) := by decide +kernel
theorem dX2_readOne_160 : decode cX2_readOne 160 = .ok (.laload, 1) := by decide +kernel
theorem dX2_readOne_161 : decode cX2_readOne 161 = .ok (.aload_n 0, 1) := by decide +kernel
theorem dX2_readOne_162 : decode cX2_readOne 162 = .ok (.getfield 29, 3) := by decide +kernel
theorem dX2_readOne_165 : decode cX2_readOne 165 = .ok (.iload_n 3, 1) := by decide +kernel
theorem dX2_readOne_166 : decode cX2_readOne 166 = .ok (.bipush 8, 2) := by decide +kernel
theorem dX2_readOne_168 : decode cX2_readOne 168 = .ok (.iadd, 1) := by decide +kernel
theorem dX2_readOne_169 : decode cX2_readOne 169 = .ok (.iload 4, 2) := by decide +kernel
theorem dX2_readOne_171 : decode cX2_readOne 171 = .ok (.iadd, 1) := by decide +kernel
theorem dX2_readOne_172 : decode cX2_readOne 172 = .ok (.laload, 1) := by decide +kernel
theorem dX2_readOne_173 : decode cX2_readOne 173 = .ok (.ldc2_w 215, 3) := by decide +kernel
theorem dX2_readOne_176 : decode cX2_readOne 176 = .ok (.lxor, 1) := by decide +kernel
theorem dX2_readOne_177 : decode cX2_readOne 177 = .ok (.land, 1) := by decide +kernel
theorem dX2_readOne_178 : decode cX2_readOne 178 = .ok (.lastore, 1) := by decide +kernel
theorem dX2_readOne_179 : decode cX2_readOne 179 = .ok (.iinc 4 1, 3) := by decide +kernel
theorem dX2_readOne_182 : decode cX2_readOne 182 = .ok (.goto (-42), 3) := by decide +kernel
theorem dX2_readOne_185 : decode cX2_readOne 185 = .ok (.iconst 1, 1) := by decide +kernel
theorem dX2_readOne_186 : decode cX2_readOne 186 = .ok (.ireturn, 1) := by decide +kernel
theorem dX2_readOne_187 : decode cX2_readOne 187 = .ok (.aload_n 0, 1) := by decide +kernel
theorem dX2_readOne_188 : decode cX2_readOne 188 = .ok (.getfield 36, 3) := by decide +kernel
theorem dX2_readOne_191 : decode cX2_readOne 191 = .ok (.invokevirtual 91, 3) := by decide +kernel
theorem dX2_readOne_194 : decode cX2_readOne 194 = .ok (.aload_n 0, 1) := by decide +kernel
theorem dX2_readOne_195 : decode cX2_readOne 195 = .ok (.iload_n 1, 1) := by decide +kernel
theorem dX2_readOne_196 : decode cX2_readOne 196 = .ok (.iconst 1, 1) := by decide +kernel
theorem dX2_readOne_197 : decode cX2_readOne 197 = .ok (.iadd, 1) := by decide +kernel
theorem dX2_readOne_198 : decode cX2_readOne 198 = .ok (.invokevirtual 153, 3) := by decide +kernel
theorem dX2_readOne_201 : decode cX2_readOne 201 = .ok (.ifCond .eq 14, 3) := by decide +kernel
theorem dX2_readOne_204 : decode cX2_readOne 204 = .ok (.aload_n 0, 1) := by decide +kernel
theorem dX2_readOne_205 : decode cX2_readOne 205 = .ok (.getfield 36, 3) := by decide +kernel
theorem dX2_readOne_208 : decode cX2_readOne 208 = .ok (.iconst 5, 1) := by decide +kernel
theorem dX2_readOne_209 : decode cX2_readOne 209 = .ok (.invokevirtual 98, 3) := by decide +kernel
theorem dX2_readOne_212 : decode cX2_readOne 212 = .ok (.ifCond .ne 5, 3) := by decide +kernel
theorem dX2_readOne_215 : decode cX2_readOne 215 = .ok (.iconst 0, 1) := by decide +kernel
theorem dX2_readOne_216 : decode cX2_readOne 216 = .ok (.ireturn, 1) := by decide +kernel
theorem dX2_readOne_217 : decode cX2_readOne 217 = .ok (.aload_n 0, 1) := by decide +kernel
theorem dX2_readOne_218 : decode cX2_readOne 218 = .ok (.getfield 29, 3) := by decide +kernel
theorem dX2_readOne_221 : decode cX2_readOne 221 = .ok (.iload_n 3, 1) := by decide +kernel
theorem dX2_readOne_222 : decode cX2_readOne 222 = .ok (.aload_n 0, 1) := by decide +kernel
theorem dX2_readOne_223 : decode cX2_readOne 223 = .ok (.getfield 29, 3) := by decide +kernel
theorem dX2_readOne_226 : decode cX2_readOne 226 = .ok (.iload_n 2, 1) := by decide +kernel
theorem dX2_readOne_227 : decode cX2_readOne 227 = .ok (.iconst 4, 1) := by decide +kernel
theorem dX2_readOne_228 : decode cX2_readOne 228 = .ok (.invokestatic 206, 3) := by decide +kernel
theorem dX2_readOne_231 : decode cX2_readOne 231 = .ok (.iconst 1, 1) := by decide +kernel
theorem dX2_readOne_232 : decode cX2_readOne 232 = .ok (.ireturn, 1) := by decide +kernel
theorem dX3_init_0 : decode cX3_init 0 = .ok (.aload_n 0, 1) := by decide +kernel
theorem dX3_init_1 : decode cX3_init 1 = .ok (.invokespecial 3, 3) := by decide +kernel
theorem dX3_init_4 : decode cX3_init 4 = .ok (.aload_n 0, 1) := by decide +kernel
theorem dX3_init_5 : decode cX3_init 5 = .ok (.new 9, 3) := by decide +kernel
theorem dX3_init_8 : decode cX3_init 8 = .ok (.dup, 1) := by decide +kernel
theorem dX3_init_9 : decode cX3_init 9 = .ok (.invokespecial 11, 3) := by decide +kernel
theorem dX3_init_12 : decode cX3_init 12 = .ok (.putfield 12, 3) := by decide +kernel
theorem dX3_init_15 : decode cX3_init 15 = .ok (.aload_n 0, 1) := by decide +kernel
theorem dX3_init_16 : decode cX3_init 16 = .ok (.sipush 256, 3) := by decide +kernel
theorem dX3_init_19 : decode cX3_init 19 = .ok (.newarray .int, 2) := by decide +kernel
theorem dX3_init_21 : decode cX3_init 21 = .ok (.putfield 18, 3) := by decide +kernel
theorem dX3_init_24 : decode cX3_init 24 = .ok (.aload_n 0, 1) := by decide +kernel
theorem dX3_init_25 : decode cX3_init 25 = .ok (.sipush 256, 3) := by decide +kernel
theorem dX3_init_28 : decode cX3_init 28 = .ok (.newarray .int, 2) := by decide +kernel
theorem dX3_init_30 : decode cX3_init 30 = .ok (.putfield 22, 3) := by decide +kernel
theorem dX3_init_33 : decode cX3_init 33 = .ok (.aload_n 0, 1) := by decide +kernel
theorem dX3_init_34 : decode cX3_init 34 = .ok (.bipush 24, 2) := by decide +kernel
theorem dX3_init_36 : decode cX3_init 36 = .ok (.newarray .int, 2) := by decide +kernel
theorem dX3_init_38 : decode cX3_init 38 = .ok (.putfield 25, 3) := by decide +kernel
theorem dX3_init_41 : decode cX3_init 41 = .ok (.aload_n 0, 1) := by decide +kernel
theorem dX3_init_42 : decode cX3_init 42 = .ok (.iconst 0, 1) := by decide +kernel
theorem dX3_init_43 : decode cX3_init 43 = .ok (.putfield 28, 3) := by decide +kernel
theorem dX3_init_46 : decode cX3_init 46 = .ok (.aload_n 0, 1) := by decide +kernel
theorem dX3_init_47 : decode cX3_init 47 = .ok (.iconst 0, 1) := by decide +kernel
theorem dX3_init_48 : decode cX3_init 48 = .ok (.putfield 32, 3) := by decide +kernel
theorem dX3_init_51 : decode cX3_init 51 = .ok (.aload_n 0, 1) := by decide +kernel
theorem dX3_init_52 : decode cX3_init 52 = .ok (.aload_n 1, 1) := by decide +kernel
theorem dX3_init_53 : decode cX3_init 53 = .ok (.putfield 35, 3) := by decide +kernel
theorem dX3_init_56 : decode cX3_init 56 = .ok (.aload_n 0, 1) := by decide +kernel
theorem dX3_init_57 : decode cX3_init 57 = .ok (.invokevirtual 39, 3) := by decide +kernel
theorem dX3_init_60 : decode cX3_init 60 = .ok (.return_, 1) := by decide +kernel
theorem dX3_begin_0 : decode cX3_begin 0 = .ok (.aload_n 0, 1) := by decide +kernel
theorem dX3_begin_1 : decode cX3_begin 1 = .ok (.aload_n 1, 1) := by decide +kernel
theorem dX3_begin_2 : decode cX3_begin 2 = .ok (.putfield 35, 3) := by decide +kernel
theorem dX3_begin_5 : decode cX3_begin 5 = .ok (.aload_n 0, 1) := by decide +kernel
theorem dX3_begin_6 : decode cX3_begin 6 = .ok (.getfield 12, 3) := by decide +kernel
theorem dX3_begin_9 : decode cX3_begin 9 = .ok (.iconst 0, 1) := by decide +kernel
theorem dX3_begin_10 : decode cX3_begin 10 = .ok (.putfield 42, 3) := by decide +kernel
theorem dX3_begin_13 : decode cX3_begin 13 = .ok (.aload_n 0, 1) := by decide +kernel
theorem dX3_begin_14 : decode cX3_begin 14 = .ok (.getfield 12, 3) := by decide +kernel
theorem dX3_begin_17 : decode cX3_begin 17 = .ok (.iconst 0, 1) := by decide +kernel
theorem dX3_begin_18 : decode cX3_begin 18 = .ok (.putfield 45, 3) := by decide +kernel
theorem dX3_begin_21 : decode cX3_begin 21 = .ok (.aload_n 0, 1) := by decide +kernel
theorem dX3_begin_22 : decode cX3_begin 22 = .ok (.invokevirtual 39, 3) := by decide +kernel
theorem dX3_begin_25 : decode cX3_begin 25 = .ok (.return_, 1) := by decide +kernel
theorem dX3_resume_0 : decode cX3_resume 0 = .ok (.aload_n 0, 1) := by decide +kernel
theorem dX3_resume_1 : decode cX3_resume 1 = .ok (.aload_n 1, 1) := by decide +kernel
theorem dX3_resume_2 : decode cX3_resume 2 = .ok (.putfield 35, 3) := by decide +kernel
theorem dX3_resume_5 : decode cX3_resume 5 = .ok (.aload_n 0, 1) := by decide +kernel
theorem dX3_resume_6 : decode cX3_resume 6 = .ok (.getfield 12, 3) := by decide +kernel
theorem dX3_resume_9 : decode cX3_resume 9 = .ok (.aload_n 2, 1) := by decide +kernel
theorem dX3_resume_10 : decode cX3_resume 10 = .ok (.invokevirtual 48, 3) := by decide +kernel
theorem dX3_resume_13 : decode cX3_resume 13 = .ok (.aload_n 0, 1) := by decide +kernel
theorem dX3_resume_14 : decode cX3_resume 14 = .ok (.invokevirtual 39, 3) := by decide +kernel
theorem dX3_resume_17 : decode cX3_resume 17 = .ok (.return_, 1) := by decide +kernel
theorem dX3_enter_0 : decode cX3_enter 0 = .ok (.aload_n 0, 1) := by decide +kernel
theorem dX3_enter_1 : decode cX3_enter 1 = .ok (.getfield 12, 3) := by decide +kernel
theorem dX3_enter_4 : decode cX3_enter 4 = .ok (.iload_n 1, 1) := by decide +kernel
theorem dX3_enter_5 : decode cX3_enter 5 = .ok (.iload_n 2, 1) := by decide +kernel
theorem dX3_enter_6 : decode cX3_enter 6 = .ok (.iload_n 3, 1) := by decide +kernel
theorem dX3_enter_7 : decode cX3_enter 7 = .ok (.invokevirtual 52, 3) := by decide +kernel
theorem dX3_enter_10 : decode cX3_enter 10 = .ok (.aload_n 0, 1) := by decide +kernel
theorem dX3_enter_11 : decode cX3_enter 11 = .ok (.aload_n 0, 1) := by decide +kernel
theorem dX3_enter_12 : decode cX3_enter 12 = .ok (.getfield 12, 3) := by decide +kernel
theorem dX3_enter_15 : decode cX3_enter 15 = .ok (.getfield 42, 3) := by decide +kernel
theorem dX3_enter_18 : decode cX3_enter 18 = .ok (.iconst 1, 1) := by decide +kernel
theorem dX3_enter_19 : decode cX3_enter 19 = .ok (.isub, 1) := by decide +kernel
theorem dX3_enter_20 : decode cX3_enter 20 = .ok (.invokevirtual 56, 3) := by decide +kernel
theorem dX3_enter_23 : decode cX3_enter 23 = .ok (.return_, 1) := by decide +kernel
theorem dX3_strike_0 : decode cX3_strike 0 = .ok (.aload_n 0, 1) := by decide +kernel
theorem dX3_strike_1 : decode cX3_strike 1 = .ok (.getfield 12, 3) := by decide +kernel
theorem dX3_strike_4 : decode cX3_strike 4 = .ok (.dup, 1) := by decide +kernel
theorem dX3_strike_5 : decode cX3_strike 5 = .ok (.getfield 42, 3) := by decide +kernel
theorem dX3_strike_8 : decode cX3_strike 8 = .ok (.iconst 1, 1) := by decide +kernel
theorem dX3_strike_9 : decode cX3_strike 9 = .ok (.isub, 1) := by decide +kernel
theorem dX3_strike_10 : decode cX3_strike 10 = .ok (.putfield 42, 3) := by decide +kernel
theorem dX3_strike_13 : decode cX3_strike 13 = .ok (.aload_n 0, 1) := by decide +kernel
theorem dX3_strike_14 : decode cX3_strike 14 = .ok (.invokevirtual 39, 3) := by decide +kernel
theorem dX3_strike_17 : decode cX3_strike 17 = .ok (.return_, 1) := by decide +kernel
theorem dX3_rebuild_0 : decode cX3_rebuild 0 = .ok (.aload_n 0, 1) := by decide +kernel
theorem dX3_rebuild_1 : decode cX3_rebuild 1 = .ok (.iconst 0, 1) := by decide +kernel
theorem dX3_rebuild_2 : decode cX3_rebuild 2 = .ok (.putfield 28, 3) := by decide +kernel
theorem dX3_rebuild_5 : decode cX3_rebuild 5 = .ok (.aload_n 0, 1) := by decide +kernel
theorem dX3_rebuild_6 : decode cX3_rebuild 6 = .ok (.iconst 0, 1) := by decide +kernel
theorem dX3_rebuild_7 : decode cX3_rebuild 7 = .ok (.putfield 32, 3) := by decide +kernel
theorem dX3_rebuild_10 : decode cX3_rebuild 10 = .ok (.iconst 0, 1) := by decide +kernel
theorem dX3_rebuild_11 : decode cX3_rebuild 11 = .ok (.istore_n 1, 1) := by decide +kernel
theorem dX3_rebuild_12 : decode cX3_rebuild 12 = .ok (.iload_n 1, 1) := by decide +kernel
theorem dX3_rebuild_13 : decode cX3_rebuild 13 = .ok (.aload_n 0, 1) := by decide +kernel
theorem dX3_rebuild_14 : decode cX3_rebuild 14 = .ok (.getfield 35, 3) := by decide +kernel
theorem dX3_rebuild_17 : decode cX3_rebuild 17 = .ok (.getfield 60, 3) := by decide +kernel
theorem dX3_rebuild_20 : decode cX3_rebuild 20 = .ok (.if_icmp .ge 48, 3) := by decide +kernel
theorem dX3_rebuild_23 : decode cX3_rebuild 23 = .ok (.aload_n 0, 1) := by decide +kernel
theorem dX3_rebuild_24 : decode cX3_rebuild 24 = .ok (.getfield 18, 3) := by decide +kernel
theorem dX3_rebuild_27 : decode cX3_rebuild 27 = .ok (.iload_n 1, 1) := by decide +kernel
theorem dX3_rebuild_28 : decode cX3_rebuild 28 = .ok (.ldc 65, 2) := by decide +kernel
theorem dX3_rebuild_30 : decode cX3_rebuild 30 = .ok (.iastore, 1) := by decide +kernel
theorem dX3_rebuild_31 : decode cX3_rebuild 31 = .ok (.aload_n 0, 1) := by decide +kernel
theorem dX3_rebuild_32 : decode cX3_rebuild 32 = .ok (.getfield 35, 3) := by decide +kernel
theorem dX3_rebuild_35 : decode cX3_rebuild 35 = .ok (.iload_n 1, 1) := by decide +kernel
theorem dX3_rebuild_36 : decode cX3_rebuild 36 = .ok (.invokevirtual 66, 3) := by decide +kernel
theorem dX3_rebuild_39 : decode cX3_rebuild 39 = .ok (.ifCond .eq 23, 3) := by decide +kernel
theorem dX3_rebuild_42 : decode cX3_rebuild 42 = .ok (.aload_n 0, 1) := by decide +kernel
theorem dX3_rebuild_43 : decode cX3_rebuild 43 = .ok (.getfield 22, 3) := by decide +kernel
theorem dX3_rebuild_46 : decode cX3_rebuild 46 = .ok (.aload_n 0, 1) := by decide +kernel
theorem dX3_rebuild_47 : decode cX3_rebuild 47 = .ok (.getfield 28, 3) := by decide +kernel
theorem dX3_rebuild_50 : decode cX3_rebuild 50 = .ok (.iload_n 1, 1) := by decide +kernel
theorem dX3_rebuild_51 : decode cX3_rebuild 51 = .ok (.iastore, 1) := by decide +kernel
theorem dX3_rebuild_52 : decode cX3_rebuild 52 = .ok (.aload_n 0, 1) := by decide +kernel
theorem dX3_rebuild_53 : decode cX3_rebuild 53 = .ok (.dup, 1) := by decide +kernel
theorem dX3_rebuild_54 : decode cX3_rebuild 54 = .ok (.getfield 28, 3) := by decide +kernel
theorem dX3_rebuild_57 : decode cX3_rebuild 57 = .ok (.iconst 1, 1) := by decide +kernel
theorem dX3_rebuild_58 : decode cX3_rebuild 58 = .ok (.iadd, 1) := by decide +kernel
theorem dX3_rebuild_59 : decode cX3_rebuild 59 = .ok (.putfield 28, 3) := by decide +kernel
theorem dX3_rebuild_62 : decode cX3_rebuild 62 = .ok (.iinc 1 1, 3) := by decide +kernel
theorem dX3_rebuild_65 : decode cX3_rebuild 65 = .ok (.goto (-53), 3) := by decide +kernel
theorem dX3_rebuild_68 : decode cX3_rebuild 68 = .ok (.iconst 0, 1) := by decide +kernel
theorem dX3_rebuild_69 : decode cX3_rebuild 69 = .ok (.istore_n 1, 1) := by decide +kernel
theorem dX3_rebuild_70 : decode cX3_rebuild 70 = .ok (.iload_n 1, 1) := by decide +kernel
theorem dX3_rebuild_71 : decode cX3_rebuild 71 = .ok (.aload_n 0, 1) := by decide +kernel
theorem dX3_rebuild_72 : decode cX3_rebuild 72 = .ok (.getfield 12, 3) := by decide +kernel
theorem dX3_rebuild_75 : decode cX3_rebuild 75 = .ok (.getfield 42, 3) := by decide +kernel
theorem dX3_rebuild_78 : decode cX3_rebuild 78 = .ok (.if_icmp .ge 14, 3) := by decide +kernel
theorem dX3_rebuild_81 : decode cX3_rebuild 81 = .ok (.aload_n 0, 1) := by decide +kernel
theorem dX3_rebuild_82 : decode cX3_rebuild 82 = .ok (.iload_n 1, 1) := by decide +kernel
theorem dX3_rebuild_83 : decode cX3_rebuild 83 = .ok (.invokevirtual 56, 3) := by decide +kernel
theorem dX3_rebuild_86 : decode cX3_rebuild 86 = .ok (.iinc 1 1, 3) := by decide +kernel
theorem dX3_rebuild_89 : decode cX3_rebuild 89 = .ok (.goto (-19), 3) := by decide +kernel
theorem dX3_rebuild_92 : decode cX3_rebuild 92 = .ok (.return_, 1) := by decide +kernel
theorem dX3_narrow_0 : decode cX3_narrow 0 = .ok (.aload_n 0, 1) := by decide +kernel
theorem dX3_narrow_1 : decode cX3_narrow 1 = .ok (.dup, 1) := by decide +kernel
theorem dX3_narrow_2 : decode cX3_narrow 2 = .ok (.getfield 32, 3) := by decide +kernel
theorem dX3_narrow_5 : decode cX3_narrow 5 = .ok (.iconst 1, 1) := by decide +kernel
theorem dX3_narrow_6 : decode cX3_narrow 6 = .ok (.aload_n 0, 1) := by decide +kernel
theorem dX3_narrow_7 : decode cX3_narrow 7 = .ok (.getfield 12, 3) := by decide +kernel
theorem dX3_narrow_10 : decode cX3_narrow 10 = .ok (.getfield 70, 3) := by decide +kernel
theorem dX3_narrow_13 : decode cX3_narrow 13 = .ok (.iload_n 1, 1) := by decide +kernel
theorem dX3_narrow_14 : decode cX3_narrow 14 = .ok (.iaload, 1) := by decide +kernel
theorem dX3_narrow_15 : decode cX3_narrow 15 = .ok (.ishl, 1) := by decide +kernel
theorem dX3_narrow_16 : decode cX3_narrow 16 = .ok (.ior, 1) := by decide +kernel
theorem dX3_narrow_17 : decode cX3_narrow 17 = .ok (.putfield 32, 3) := by decide +kernel
theorem dX3_narrow_20 : decode cX3_narrow 20 = .ok (.iconst 0, 1) := by decide +kernel
theorem dX3_narrow_21 : decode cX3_narrow 21 = .ok (.istore_n 2, 1) := by decide +kernel
theorem dX3_narrow_22 : decode cX3_narrow 22 = .ok (.iload_n 2, 1) := by decide +kernel
theorem dX3_narrow_23 : decode cX3_narrow 23 = .ok (.aload_n 0, 1) := by decide +kernel
theorem dX3_narrow_24 : decode cX3_narrow 24 = .ok (.getfield 35, 3) := by decide +kernel
theorem dX3_narrow_27 : decode cX3_narrow 27 = .ok (.getfield 60, 3) := by decide +kernel
theorem dX3_narrow_30 : decode cX3_narrow 30 = .ok (.if_icmp .ge 35, 3) := by decide +kernel
theorem dX3_narrow_33 : decode cX3_narrow 33 = .ok (.aload_n 0, 1) := by decide +kernel
theorem dX3_narrow_34 : decode cX3_narrow 34 = .ok (.getfield 35, 3) := by decide +kernel
theorem dX3_narrow_37 : decode cX3_narrow 37 = .ok (.iload_n 2, 1) := by decide +kernel
theorem dX3_narrow_38 : decode cX3_narrow 38 = .ok (.invokevirtual 66, 3) := by decide +kernel
theorem dX3_narrow_41 : decode cX3_narrow 41 = .ok (.ifCond .eq 18, 3) := by decide +kernel
theorem dX3_narrow_44 : decode cX3_narrow 44 = .ok (.aload_n 0, 1) := by decide +kernel
theorem dX3_narrow_45 : decode cX3_narrow 45 = .ok (.getfield 18, 3) := by decide +kernel
theorem dX3_narrow_48 : decode cX3_narrow 48 = .ok (.iload_n 2, 1) := by decide +kernel
theorem dX3_narrow_49 : decode cX3_narrow 49 = .ok (.dup2, 1) := by decide +kernel
theorem dX3_narrow_50 : decode cX3_narrow 50 = .ok (.iaload, 1) := by decide +kernel
theorem dX3_narrow_51 : decode cX3_narrow 51 = .ok (.aload_n 0, 1) := by decide +kernel
theorem dX3_narrow_52 : decode cX3_narrow 52 = .ok (.iload_n 1, 1) := by decide +kernel
theorem dX3_narrow_53 : decode cX3_narrow 53 = .ok (.iload_n 2, 1) := by decide +kernel
theorem dX3_narrow_54 : decode cX3_narrow 54 = .ok (.invokevirtual 73, 3) := by decide +kernel
theorem dX3_narrow_57 : decode cX3_narrow 57 = .ok (.iand, 1) := by decide +kernel
theorem dX3_narrow_58 : decode cX3_narrow 58 = .ok (.iastore, 1) := by decide +kernel
theorem dX3_narrow_59 : decode cX3_narrow 59 = .ok (.iinc 2 1, 3) := by decide +kernel
theorem dX3_narrow_62 : decode cX3_narrow 62 = .ok (.goto (-40), 3) := by decide +kernel
theorem dX3_narrow_65 : decode cX3_narrow 65 = .ok (.iconst 0, 1) := by decide +kernel
theorem dX3_narrow_66 : decode cX3_narrow 66 = .ok (.istore_n 2, 1) := by decide +kernel
theorem dX3_narrow_67 : decode cX3_narrow 67 = .ok (.iconst 0, 1) := by decide +kernel
theorem dX3_narrow_68 : decode cX3_narrow 68 = .ok (.istore_n 3, 1) := by decide +kernel
theorem dX3_narrow_69 : decode cX3_narrow 69 = .ok (.iload_n 3, 1) := by decide +kernel
theorem dX3_narrow_70 : decode cX3_narrow 70 = .ok (.aload_n 0, 1) := by decide +kernel
theorem dX3_narrow_71 : decode cX3_narrow 71 = .ok (.getfield 28, 3) := by decide +kernel
theorem dX3_narrow_74 : decode cX3_narrow 74 = .ok (.if_icmp .ge 46, 3) := by decide +kernel
theorem dX3_narrow_77 : decode cX3_narrow 77 = .ok (.aload_n 0, 1) := by decide +kernel
theorem dX3_narrow_78 : decode cX3_narrow 78 = .ok (.aload_n 0, 1) := by decide +kernel
theorem dX3_narrow_79 : decode cX3_narrow 79 = .ok (.getfield 12, 3) := by decide +kernel
theorem dX3_narrow_82 : decode cX3_narrow 82 = .ok (.getfield 77, 3) := by decide +kernel
theorem dX3_narrow_85 : decode cX3_narrow 85 = .ok (.iload_n 1, 1) := by decide +kernel
theorem dX3_narrow_86 : decode cX3_narrow 86 = .ok (.iaload, 1) := by decide +kernel
theorem dX3_narrow_87 : decode cX3_narrow 87 = .ok (.aload_n 0, 1) := by decide +kernel
theorem dX3_narrow_88 : decode cX3_narrow 88 = .ok (.getfield 22, 3) := by decide +kernel
theorem dX3_narrow_91 : decode cX3_narrow 91 = .ok (.iload_n 3, 1) := by decide +kernel
theorem dX3_narrow_92 : decode cX3_narrow 92 = .ok (.iaload, 1) := by decide +kernel
theorem dX3_narrow_93 : decode cX3_narrow 93 = .ok (.invokevirtual 80, 3) := by decide +kernel
theorem dX3_narrow_96 : decode cX3_narrow 96 = .ok (.ifCond .eq 18, 3) := by decide +kernel
theorem dX3_narrow_99 : decode cX3_narrow 99 = .ok (.aload_n 0, 1) := by decide +kernel
theorem dX3_narrow_100 : decode cX3_narrow 100 = .ok (.getfield 22, 3) := by decide +kernel
theorem dX3_narrow_103 : decode cX3_narrow 103 = .ok (.iload_n 2, 1) := by decide +kernel
theorem dX3_narrow_104 : decode cX3_narrow 104 = .ok (.aload_n 0, 1) := by decide +kernel
theorem dX3_narrow_105 : decode cX3_narrow 105 = .ok (.getfield 22, 3) := by decide +kernel
theorem dX3_narrow_108 : decode cX3_narrow 108 = .ok (.iload_n 3, 1) := by decide +kernel
theorem dX3_narrow_109 : decode cX3_narrow 109 = .ok (.iaload, 1) := by decide +kernel
theorem dX3_narrow_110 : decode cX3_narrow 110 = .ok (.iastore, 1) := by decide +kernel
theorem dX3_narrow_111 : decode cX3_narrow 111 = .ok (.iinc 2 1, 3) := by decide +kernel
theorem dX3_narrow_114 : decode cX3_narrow 114 = .ok (.iinc 3 1, 3) := by decide +kernel
theorem dX3_narrow_117 : decode cX3_narrow 117 = .ok (.goto (-48), 3) := by decide +kernel
theorem dX3_narrow_120 : decode cX3_narrow 120 = .ok (.aload_n 0, 1) := by decide +kernel
theorem dX3_narrow_121 : decode cX3_narrow 121 = .ok (.iload_n 2, 1) := by decide +kernel
theorem dX3_narrow_122 : decode cX3_narrow 122 = .ok (.putfield 28, 3) := by decide +kernel
theorem dX3_narrow_125 : decode cX3_narrow 125 = .ok (.return_, 1) := by decide +kernel
theorem dX3_agreeing_0 : decode cX3_agreeing 0 = .ok (.aload_n 0, 1) := by decide +kernel
theorem dX3_agreeing_1 : decode cX3_agreeing 1 = .ok (.getfield 12, 3) := by decide +kernel
theorem dX3_agreeing_4 : decode cX3_agreeing 4 = .ok (.getfield 77, 3) := by decide +kernel
theorem dX3_agreeing_7 : decode cX3_agreeing 7 = .ok (.iload_n 1, 1) := by decide +kernel
theorem dX3_agreeing_8 : decode cX3_agreeing 8 = .ok (.iaload, 1) := by decide +kernel
theorem dX3_agreeing_9 : decode cX3_agreeing 9 = .ok (.iconst 4, 1) := by decide +kernel
theorem dX3_agreeing_10 : decode cX3_agreeing 10 = .ok (.imul, 1) := by decide +kernel
theorem dX3_agreeing_11 : decode cX3_agreeing 11 = .ok (.istore_n 3, 1) := by decide +kernel
theorem dX3_agreeing_12 : decode cX3_agreeing 12 = .ok (.aload_n 0, 1) := by decide +kernel
theorem dX3_agreeing_13 : decode cX3_agreeing 13 = .ok (.getfield 35, 3) := by decide +kernel
theorem dX3_agreeing_16 : decode cX3_agreeing 16 = .ok (.aload_n 0, 1) := by decide +kernel
theorem dX3_agreeing_17 : decode cX3_agreeing 17 = .ok (.getfield 12, 3) := by decide +kernel
theorem dX3_agreeing_20 : decode cX3_agreeing 20 = .ok (.getfield 77, 3) := by decide +kernel
theorem dX3_agreeing_23 : decode cX3_agreeing 23 = .ok (.iload_n 1, 1) := by decide +kernel
theorem dX3_agreeing_24 : decode cX3_agreeing 24 = .ok (.iaload, 1) := by decide +kernel
theorem dX3_agreeing_25 : decode cX3_agreeing 25 = .ok (.aload_n 0, 1) := by decide +kernel
theorem dX3_agreeing_26 : decode cX3_agreeing 26 = .ok (.getfield 12, 3) := by decide +kernel
theorem dX3_agreeing_29 : decode cX3_agreeing 29 = .ok (.getfield 70, 3) := by decide +kernel
theorem dX3_agreeing_32 : decode cX3_agreeing 32 = .ok (.iload_n 1, 1) := by decide +kernel
theorem dX3_agreeing_33 : decode cX3_agreeing 33 = .ok (.iaload, 1) := by decide +kernel
theorem dX3_agreeing_34 : decode cX3_agreeing 34 = .ok (.iload_n 2, 1) := by decide +kernel
theorem dX3_agreeing_35 : decode cX3_agreeing 35 = .ok (.invokevirtual 83, 3) := by decide +kernel
theorem dX3_agreeing_38 : decode cX3_agreeing 38 = .ok (.istore 4, 2) := by decide +kernel
theorem dX3_agreeing_40 : decode cX3_agreeing 40 = .ok (.iload 4, 2) := by decide +kernel
theorem dX3_agreeing_42 : decode cX3_agreeing 42 = .ok (.aload_n 0, 1) := by decide +kernel
theorem dX3_agreeing_43 : decode cX3_agreeing 43 = .ok (.getfield 12, 3) := by decide +kernel
theorem dX3_agreeing_46 : decode cX3_agreeing 46 = .ok (.getfield 87, 3) := by decide +kernel
theorem dX3_agreeing_49 : decode cX3_agreeing 49 = .ok (.iload_n 1, 1) := by decide +kernel
theorem dX3_agreeing_50 : decode cX3_agreeing 50 = .ok (.iaload, 1) := by decide +kernel
theorem dX3_agreeing_51 : decode cX3_agreeing 51 = .ok (.invokestatic 90, 3) := by decide +kernel
theorem dX3_agreeing_54 : decode cX3_agreeing 54 = .ok (.istore 5, 2) := by decide +kernel
theorem dX3_agreeing_56 : decode cX3_agreeing 56 = .ok (.ldc 65, 2) := by decide +kernel
theorem dX3_agreeing_58 : decode cX3_agreeing 58 = .ok (.bipush 15, 2) := by decide +kernel
theorem dX3_agreeing_60 : decode cX3_agreeing 60 = .ok (.iload_n 3, 1) := by decide +kernel
theorem dX3_agreeing_61 : decode cX3_agreeing 61 = .ok (.ishl, 1) := by decide +kernel
theorem dX3_agreeing_62 : decode cX3_agreeing 62 = .ok (.iconst (-1), 1) := by decide +kernel
theorem dX3_agreeing_63 : decode cX3_agreeing 63 = .ok (.ixor, 1) := by decide +kernel
theorem dX3_agreeing_64 : decode cX3_agreeing 64 = .ok (.iand, 1) := by decide +kernel
theorem dX3_agreeing_65 : decode cX3_agreeing 65 = .ok (.iload 5, 2) := by decide +kernel
theorem dX3_agreeing_67 : decode cX3_agreeing 67 = .ok (.iload_n 3, 1) := by decide +kernel
theorem dX3_agreeing_68 : decode cX3_agreeing 68 = .ok (.ishl, 1) := by decide +kernel
theorem dX3_agreeing_69 : decode cX3_agreeing 69 = .ok (.ior, 1) := by decide +kernel
theorem dX3_agreeing_70 : decode cX3_agreeing 70 = .ok (.ireturn, 1) := by decide +kernel
theorem dX3_kindsLeft_0 : decode cX3_kindsLeft 0 = .ok (.aload_n 0, 1) := by decide +kernel
theorem dX3_kindsLeft_1 : decode cX3_kindsLeft 1 = .ok (.getfield 18, 3) := by decide +kernel
theorem dX3_kindsLeft_4 : decode cX3_kindsLeft 4 = .ok (.iload_n 2, 1) := by decide +kernel
theorem dX3_kindsLeft_5 : decode cX3_kindsLeft 5 = .ok (.iaload, 1) := by decide +kernel
theorem dX3_kindsLeft_6 : decode cX3_kindsLeft 6 = .ok (.aload_n 0, 1) := by decide +kernel
theorem dX3_kindsLeft_7 : decode cX3_kindsLeft 7 = .ok (.getfield 35, 3) := by decide +kernel
theorem dX3_kindsLeft_10 : decode cX3_kindsLeft 10 = .ok (.getfield 93, 3) := by decide +kernel
theorem dX3_kindsLeft_13 : decode cX3_kindsLeft 13 = .ok (.iand, 1) := by decide +kernel
theorem dX3_kindsLeft_14 : decode cX3_kindsLeft 14 = .ok (.iload_n 1, 1) := by decide +kernel
theorem dX3_kindsLeft_15 : decode cX3_kindsLeft 15 = .ok (.iconst 4, 1) := by decide +kernel
theorem dX3_kindsLeft_16 : decode cX3_kindsLeft 16 = .ok (.imul, 1) := by decide +kernel
theorem dX3_kindsLeft_17 : decode cX3_kindsLeft 17 = .ok (.ishr, 1) := by decide +kernel
theorem dX3_kindsLeft_18 : decode cX3_kindsLeft 18 = .ok (.bipush 15, 2) := by decide +kernel
theorem dX3_kindsLeft_20 : decode cX3_kindsLeft 20 = .ok (.iand, 1) := by decide +kernel
theorem dX3_kindsLeft_21 : decode cX3_kindsLeft 21 = .ok (.ireturn, 1) := by decide +kernel
theorem dX3_lives_0 : decode cX3_lives 0 = .ok (.iconst 0, 1) := by decide +kernel
theorem dX3_lives_1 : decode cX3_lives 1 = .ok (.istore_n 2, 1) := by decide +kernel
theorem dX3_lives_2 : decode cX3_lives 2 = .ok (.iload_n 2, 1) := by decide +kernel
theorem dX3_lives_3 : decode cX3_lives 3 = .ok (.aload_n 0, 1) := by decide +kernel
theorem dX3_lives_4 : decode cX3_lives 4 = .ok (.getfield 28, 3) := by decide +kernel
theorem dX3_lives_7 : decode cX3_lives 7 = .ok (.if_icmp .ge 21, 3) := by decide +kernel
theorem dX3_lives_10 : decode cX3_lives 10 = .ok (.aload_n 0, 1) := by decide +kernel
theorem dX3_lives_11 : decode cX3_lives 11 = .ok (.getfield 22, 3) := by decide +kernel
theorem dX3_lives_14 : decode cX3_lives 14 = .ok (.iload_n 2, 1) := by decide +kernel
theorem dX3_lives_15 : decode cX3_lives 15 = .ok (.iaload, 1) := by decide +kernel
theorem dX3_lives_16 : decode cX3_lives 16 = .ok (.iload_n 1, 1) := by decide +kernel
theorem dX3_lives_17 : decode cX3_lives 17 = .ok (.if_icmp .ne 5, 3) := by decide +kernel
theorem dX3_lives_20 : decode cX3_lives 20 = .ok (.iconst 1, 1) := by decide +kernel
theorem dX3_lives_21 : decode cX3_lives 21 = .ok (.ireturn, 1) := by decide +kernel
theorem dX3_lives_22 : decode cX3_lives 22 = .ok (.iinc 2 1, 3) := by decide +kernel
theorem dX3_lives_25 : decode cX3_lives 25 = .ok (.goto (-23), 3) := by decide +kernel
theorem dX3_lives_28 : decode cX3_lives 28 = .ok (.iconst 0, 1) := by decide +kernel
theorem dX3_lives_29 : decode cX3_lives 29 = .ok (.ireturn, 1) := by decide +kernel
theorem dX3_wasPut_0 : decode cX3_wasPut 0 = .ok (.aload_n 0, 1) := by decide +kernel
theorem dX3_wasPut_1 : decode cX3_wasPut 1 = .ok (.getfield 32, 3) := by decide +kernel
theorem dX3_wasPut_4 : decode cX3_wasPut 4 = .ok (.iload_n 1, 1) := by decide +kernel
theorem dX3_wasPut_5 : decode cX3_wasPut 5 = .ok (.ishr, 1) := by decide +kernel
theorem dX3_wasPut_6 : decode cX3_wasPut 6 = .ok (.iconst 1, 1) := by decide +kernel
theorem dX3_wasPut_7 : decode cX3_wasPut 7 = .ok (.iand, 1) := by decide +kernel
theorem dX3_wasPut_8 : decode cX3_wasPut 8 = .ok (.ifCond .eq 7, 3) := by decide +kernel
theorem dX3_wasPut_11 : decode cX3_wasPut 11 = .ok (.iconst 1, 1) := by decide +kernel
theorem dX3_wasPut_12 : decode cX3_wasPut 12 = .ok (.goto 4, 3) := by decide +kernel
theorem dX3_wasPut_15 : decode cX3_wasPut 15 = .ok (.iconst 0, 1) := by decide +kernel
theorem dX3_wasPut_16 : decode cX3_wasPut 16 = .ok (.ireturn, 1) := by decide +kernel
theorem dX3_certainty_0 : decode cX3_certainty 0 = .ok (.iconst 0, 1) := by decide +kernel
theorem dX3_certainty_1 : decode cX3_certainty 1 = .ok (.istore_n 2, 1) := by decide +kernel
theorem dX3_certainty_2 : decode cX3_certainty 2 = .ok (.iconst 0, 1) := by decide +kernel
theorem dX3_certainty_3 : decode cX3_certainty 3 = .ok (.istore_n 3, 1) := by decide +kernel
theorem dX3_certainty_4 : decode cX3_certainty 4 = .ok (.iload_n 3, 1) := by decide +kernel
theorem dX3_certainty_5 : decode cX3_certainty 5 = .ok (.aload_n 0, 1) := by decide +kernel
theorem dX3_certainty_6 : decode cX3_certainty 6 = .ok (.getfield 28, 3) := by decide +kernel
theorem dX3_certainty_9 : decode cX3_certainty 9 = .ok (.if_icmp .ge 26, 3) := by decide +kernel
theorem dX3_certainty_12 : decode cX3_certainty 12 = .ok (.iload_n 2, 1) := by decide +kernel
theorem dX3_certainty_13 : decode cX3_certainty 13 = .ok (.aload_n 0, 1) := by decide +kernel
theorem dX3_certainty_14 : decode cX3_certainty 14 = .ok (.getfield 35, 3) := by decide +kernel
theorem dX3_certainty_17 : decode cX3_certainty 17 = .ok (.iload_n 1, 1) := by decide +kernel
theorem dX3_certainty_18 : decode cX3_certainty 18 = .ok (.aload_n 0, 1) := by decide +kernel
theorem dX3_certainty_19 : decode cX3_certainty 19 = .ok (.getfield 22, 3) := by decide +kernel
theorem dX3_certainty_22 : decode cX3_certainty 22 = .ok (.iload_n 3, 1) := by decide +kernel
theorem dX3_certainty_23 : decode cX3_certainty 23 = .ok (.iaload, 1) := by decide +kernel
theorem dX3_certainty_24 : decode cX3_certainty 24 = .ok (.invokevirtual 96, 3) := by decide +kernel
theorem dX3_certainty_27 : decode cX3_certainty 27 = .ok (.iadd, 1) := by decide +kernel
theorem dX3_certainty_28 : decode cX3_certainty 28 = .ok (.istore_n 2, 1) := by decide +kernel
theorem dX3_certainty_29 : decode cX3_certainty 29 = .ok (.iinc 3 1, 3) := by decide +kernel
theorem dX3_certainty_32 : decode cX3_certainty 32 = .ok (.goto (-28), 3) := by decide +kernel
theorem dX3_certainty_35 : decode cX3_certainty 35 = .ok (.aload_n 0, 1) := by decide +kernel
theorem dX3_certainty_36 : decode cX3_certainty 36 = .ok (.getfield 28, 3) := by decide +kernel
theorem dX3_certainty_39 : decode cX3_certainty 39 = .ok (.ifCond .eq 15, 3) := by decide +kernel
theorem dX3_certainty_42 : decode cX3_certainty 42 = .ok (.iload_n 2, 1) := by decide +kernel
theorem dX3_certainty_43 : decode cX3_certainty 43 = .ok (.ifCond .eq 13, 3) := by decide +kernel
theorem dX3_certainty_46 : decode cX3_certainty 46 = .ok (.iload_n 2, 1) := by decide +kernel
theorem dX3_certainty_47 : decode cX3_certainty 47 = .ok (.aload_n 0, 1) := by decide +kernel
theorem dX3_certainty_48 : decode cX3_certainty 48 = .ok (.getfield 28, 3) := by decide +kernel
theorem dX3_certainty_51 : decode cX3_certainty 51 = .ok (.if_icmp .eq 5, 3) := by decide +kernel
theorem dX3_certainty_54 : decode cX3_certainty 54 = .ok (.iconst (-1), 1) := by decide +kernel
theorem dX3_certainty_55 : decode cX3_certainty 55 = .ok (.ireturn, 1) := by decide +kernel
theorem dX3_certainty_56 : decode cX3_certainty 56 = .ok (.iload_n 2, 1) := by decide +kernel
theorem dX3_certainty_57 : decode cX3_certainty 57 = .ok (.ifCond .ne 7, 3) := by decide +kernel
theorem dX3_certainty_60 : decode cX3_certainty 60 = .ok (.iconst 0, 1) := by decide +kernel
theorem dX3_certainty_61 : decode cX3_certainty 61 = .ok (.goto 4, 3) := by decide +kernel
theorem dX3_certainty_64 : decode cX3_certainty 64 = .ok (.iconst 1, 1) := by decide +kernel
theorem dX3_certainty_65 : decode cX3_certainty 65 = .ok (.ireturn, 1) := by decide +kernel
theorem dX3_weightOfAll_0 : decode cX3_weightOfAll 0 = .ok (.aload_n 0, 1) := by decide +kernel
theorem dX3_weightOfAll_1 : decode cX3_weightOfAll 1 = .ok (.iconst (-1), 1) := by decide +kernel
theorem dX3_weightOfAll_2 : decode cX3_weightOfAll 2 = .ok (.iconst (-1), 1) := by decide +kernel
theorem dX3_weightOfAll_3 : decode cX3_weightOfAll 3 = .ok (.invokevirtual 99, 3) := by decide +kernel
theorem dX3_weightOfAll_6 : decode cX3_weightOfAll 6 = .ok (.lreturn, 1) := by decide +kernel
theorem dX3_weightIn_0 : decode cX3_weightIn 0 = .ok (.lconst 0, 1) := by decide +kernel
theorem dX3_weightIn_1 : decode cX3_weightIn 1 = .ok (.lstore_n 2, 1) := by decide +kernel
theorem dX3_weightIn_2 : decode cX3_weightIn 2 = .ok (.iconst 0, 1) := by decide +kernel
theorem dX3_weightIn_3 : decode cX3_weightIn 3 = .ok (.istore 4, 2) := by decide +kernel
theorem dX3_weightIn_5 : decode cX3_weightIn 5 = .ok (.iload 4, 2) := by decide +kernel
theorem dX3_weightIn_7 : decode cX3_weightIn 7 = .ok (.aload_n 0, 1) := by decide +kernel
theorem dX3_weightIn_8 : decode cX3_weightIn 8 = .ok (.getfield 28, 3) := by decide +kernel
theorem dX3_weightIn_11 : decode cX3_weightIn 11 = .ok (.if_icmp .ge 44, 3) := by decide +kernel
theorem dX3_weightIn_14 : decode cX3_weightIn 14 = .ok (.aload_n 0, 1) := by decide +kernel
theorem dX3_weightIn_15 : decode cX3_weightIn 15 = .ok (.getfield 35, 3) := by decide +kernel
theorem dX3_weightIn_18 : decode cX3_weightIn 18 = .ok (.iload_n 1, 1) := by decide +kernel
theorem dX3_weightIn_19 : decode cX3_weightIn 19 = .ok (.aload_n 0, 1) := by decide +kernel
theorem dX3_weightIn_20 : decode cX3_weightIn 20 = .ok (.getfield 22, 3) := by decide +kernel
theorem dX3_weightIn_23 : decode cX3_weightIn 23 = .ok (.iload 4, 2) := by decide +kernel
theorem dX3_weightIn_25 : decode cX3_weightIn 25 = .ok (.iaload, 1) := by decide +kernel
theorem dX3_weightIn_26 : decode cX3_weightIn 26 = .ok (.invokevirtual 96, 3) := by decide +kernel
theorem dX3_weightIn_29 : decode cX3_weightIn 29 = .ok (.iconst 1, 1) := by decide +kernel
theorem dX3_weightIn_30 : decode cX3_weightIn 30 = .ok (.if_icmp .ne 19, 3) := by decide +kernel
theorem dX3_weightIn_33 : decode cX3_weightIn 33 = .ok (.lload_n 2, 1) := by decide +kernel
theorem dX3_weightIn_34 : decode cX3_weightIn 34 = .ok (.aload_n 0, 1) := by decide +kernel
theorem dX3_weightIn_35 : decode cX3_weightIn 35 = .ok (.aload_n 0, 1) := by decide +kernel
theorem dX3_weightIn_36 : decode cX3_weightIn 36 = .ok (.getfield 22, 3) := by decide +kernel
theorem dX3_weightIn_39 : decode cX3_weightIn 39 = .ok (.iload 4, 2) := by decide +kernel
theorem dX3_weightIn_41 : decode cX3_weightIn 41 = .ok (.iaload, 1) := by decide +kernel
theorem dX3_weightIn_42 : decode cX3_weightIn 42 = .ok (.iconst (-1), 1) := by decide +kernel
theorem dX3_weightIn_43 : decode cX3_weightIn 43 = .ok (.iconst (-1), 1) := by decide +kernel
theorem dX3_weightIn_44 : decode cX3_weightIn 44 = .ok (.invokevirtual 103, 3) := by decide +kernel
theorem dX3_weightIn_47 : decode cX3_weightIn 47 = .ok (.ladd, 1) := by decide +kernel
theorem dX3_weightIn_48 : decode cX3_weightIn 48 = .ok (.lstore_n 2, 1) := by decide +kernel
theorem dX3_weightIn_49 : decode cX3_weightIn 49 = .ok (.iinc 4 1, 3) := by decide +kernel
theorem dX3_weightIn_52 : decode cX3_weightIn 52 = .ok (.goto (-47), 3) := by decide +kernel
theorem dX3_weightIn_55 : decode cX3_weightIn 55 = .ok (.lload_n 2, 1) := by decide +kernel
theorem dX3_weightIn_56 : decode cX3_weightIn 56 = .ok (.lreturn, 1) := by decide +kernel
theorem dX3_weightWith_0 : decode cX3_weightWith 0 = .ok (.lconst 0, 1) := by decide +kernel
theorem dX3_weightWith_1 : decode cX3_weightWith 1 = .ok (.lstore_n 3, 1) := by decide +kernel
theorem dX3_weightWith_2 : decode cX3_weightWith 2 = .ok (.iconst 0, 1) := by decide +kernel
theorem dX3_weightWith_3 : decode cX3_weightWith 3 = .ok (.istore 5, 2) := by decide +kernel
theorem dX3_weightWith_5 : decode cX3_weightWith 5 = .ok (.iload 5, 2) := by decide +kernel
theorem dX3_weightWith_7 : decode cX3_weightWith 7 = .ok (.aload_n 0, 1) := by decide +kernel
theorem dX3_weightWith_8 : decode cX3_weightWith 8 = .ok (.getfield 28, 3) := by decide +kernel
theorem dX3_weightWith_11 : decode cX3_weightWith 11 = .ok (.if_icmp .ge 25, 3) := by decide +kernel
theorem dX3_weightWith_14 : decode cX3_weightWith 14 = .ok (.lload_n 3, 1) := by decide +kernel
theorem dX3_weightWith_15 : decode cX3_weightWith 15 = .ok (.aload_n 0, 1) := by decide +kernel
theorem dX3_weightWith_16 : decode cX3_weightWith 16 = .ok (.aload_n 0, 1) := by decide +kernel
theorem dX3_weightWith_17 : decode cX3_weightWith 17 = .ok (.getfield 22, 3) := by decide +kernel
theorem dX3_weightWith_20 : decode cX3_weightWith 20 = .ok (.iload 5, 2) := by decide +kernel
theorem dX3_weightWith_22 : decode cX3_weightWith 22 = .ok (.iaload, 1) := by decide +kernel
theorem dX3_weightWith_23 : decode cX3_weightWith 23 = .ok (.iload_n 1, 1) := by decide +kernel
theorem dX3_weightWith_24 : decode cX3_weightWith 24 = .ok (.iload_n 2, 1) := by decide +kernel
theorem dX3_weightWith_25 : decode cX3_weightWith 25 = .ok (.invokevirtual 103, 3) := by decide +kernel
theorem dX3_weightWith_28 : decode cX3_weightWith 28 = .ok (.ladd, 1) := by decide +kernel
theorem dX3_weightWith_29 : decode cX3_weightWith 29 = .ok (.lstore_n 3, 1) := by decide +kernel
theorem dX3_weightWith_30 : decode cX3_weightWith 30 = .ok (.iinc 5 1, 3) := by decide +kernel
theorem dX3_weightWith_33 : decode cX3_weightWith 33 = .ok (.goto (-28), 3) := by decide +kernel
theorem dX3_weightWith_36 : decode cX3_weightWith 36 = .ok (.lload_n 3, 1) := by decide +kernel
theorem dX3_weightWith_37 : decode cX3_weightWith 37 = .ok (.lreturn, 1) := by decide +kernel
theorem dX3_weightOf_0 : decode cX3_weightOf 0 = .ok (.aload_n 0, 1) := by decide +kernel
theorem dX3_weightOf_1 : decode cX3_weightOf 1 = .ok (.getfield 35, 3) := by decide +kernel
theorem dX3_weightOf_4 : decode cX3_weightOf 4 = .ok (.getfield 107, 3) := by decide +kernel
theorem dX3_weightOf_7 : decode cX3_weightOf 7 = .ok (.iload_n 1, 1) := by decide +kernel
theorem dX3_weightOf_8 : decode cX3_weightOf 8 = .ok (.iaload, 1) := by decide +kernel
theorem dX3_weightOf_9 : decode cX3_weightOf 9 = .ok (.i2l, 1) := by decide +kernel
theorem dX3_weightOf_10 : decode cX3_weightOf 10 = .ok (.lstore 4, 2) := by decide +kernel
theorem dX3_weightOf_12 : decode cX3_weightOf 12 = .ok (.iconst 0, 1) := by decide +kernel
theorem dX3_weightOf_13 : decode cX3_weightOf 13 = .ok (.istore 6, 2) := by decide +kernel
theorem dX3_weightOf_15 : decode cX3_weightOf 15 = .ok (.iload 6, 2) := by decide +kernel
theorem dX3_weightOf_17 : decode cX3_weightOf 17 = .ok (.aload_n 0, 1) := by decide +kernel
theorem dX3_weightOf_18 : decode cX3_weightOf 18 = .ok (.getfield 35, 3) := by decide +kernel
theorem dX3_weightOf_21 : decode cX3_weightOf 21 = .ok (.getfield 110, 3) := by decide +kernel
theorem dX3_weightOf_24 : decode cX3_weightOf 24 = .ok (.if_icmp .ge 86, 3) := by decide +kernel
theorem dX3_weightOf_27 : decode cX3_weightOf 27 = .ok (.aload_n 0, 1) := by decide +kernel
theorem dX3_weightOf_28 : decode cX3_weightOf 28 = .ok (.iload 6, 2) := by decide +kernel
theorem dX3_weightOf_30 : decode cX3_weightOf 30 = .ok (.iload_n 1, 1) := by decide +kernel
theorem dX3_weightOf_31 : decode cX3_weightOf 31 = .ok (.invokevirtual 80, 3) := by decide +kernel
theorem dX3_weightOf_34 : decode cX3_weightOf 34 = .ok (.istore 7, 2) := by decide +kernel
theorem dX3_weightOf_36 : decode cX3_weightOf 36 = .ok (.iconst 0, 1) := by decide +kernel
theorem dX3_weightOf_37 : decode cX3_weightOf 37 = .ok (.istore 8, 2) := by decide +kernel
theorem dX3_weightOf_39 : decode cX3_weightOf 39 = .ok (.iconst 0, 1) := by decide +kernel
theorem dX3_weightOf_40 : decode cX3_weightOf 40 = .ok (.istore 9, 2) := by decide +kernel
theorem dX3_weightOf_42 : decode cX3_weightOf 42 = .ok (.iload 9, 2) := by decide +kernel
theorem dX3_weightOf_44 : decode cX3_weightOf 44 = .ok (.iconst 4, 1) := by decide +kernel
theorem dX3_weightOf_45 : decode cX3_weightOf 45 = .ok (.if_icmp .ge 51, 3) := by decide +kernel
theorem dX3_weightOf_48 : decode cX3_weightOf 48 = .ok (.iload 7, 2) := by decide +kernel
theorem dX3_weightOf_50 : decode cX3_weightOf 50 = .ok (.iload 9, 2) := by decide +kernel
theorem dX3_weightOf_52 : decode cX3_weightOf 52 = .ok (.ishr, 1) := by decide +kernel
theorem dX3_weightOf_53 : decode cX3_weightOf 53 = .ok (.iconst 1, 1) := by decide +kernel
theorem dX3_weightOf_54 : decode cX3_weightOf 54 = .ok (.iand, 1) := by decide +kernel
theorem dX3_weightOf_55 : decode cX3_weightOf 55 = .ok (.ifCond .eq 35, 3) := by decide +kernel
theorem dX3_weightOf_58 : decode cX3_weightOf 58 = .ok (.iload 6, 2) := by decide +kernel
theorem dX3_weightOf_60 : decode cX3_weightOf 60 = .ok (.iload_n 2, 1) := by decide +kernel
theorem dX3_weightOf_61 : decode cX3_weightOf 61 = .ok (.if_icmp .ne 9, 3) := by decide +kernel
theorem dX3_weightOf_64 : decode cX3_weightOf 64 = .ok (.iload 9, 2) := by decide +kernel
theorem dX3_weightOf_66 : decode cX3_weightOf 66 = .ok (.iload_n 3, 1) := by decide +kernel
theorem dX3_weightOf_67 : decode cX3_weightOf 67 = .ok (.if_icmp .ne 23, 3) := by decide +kernel
theorem dX3_weightOf_70 : decode cX3_weightOf 70 = .ok (.iload 8, 2) := by decide +kernel
theorem dX3_weightOf_72 : decode cX3_weightOf 72 = .ok (.aload_n 0, 1) := by decide +kernel
theorem dX3_weightOf_73 : decode cX3_weightOf 73 = .ok (.getfield 35, 3) := by decide +kernel
theorem dX3_weightOf_76 : decode cX3_weightOf 76 = .ok (.getfield 113, 3) := by decide +kernel
theorem dX3_weightOf_79 : decode cX3_weightOf 79 = .ok (.iload 6, 2) := by decide +kernel
theorem dX3_weightOf_81 : decode cX3_weightOf 81 = .ok (.iconst 4, 1) := by decide +kernel
theorem dX3_weightOf_82 : decode cX3_weightOf 82 = .ok (.imul, 1) := by decide +kernel
theorem dX3_weightOf_83 : decode cX3_weightOf 83 = .ok (.iload 9, 2) := by decide +kernel
theorem dX3_weightOf_85 : decode cX3_weightOf 85 = .ok (.iadd, 1) := by decide +kernel
theorem dX3_weightOf_86 : decode cX3_weightOf 86 = .ok (.iaload, 1) := by decide +kernel
theorem dX3_weightOf_87 : decode cX3_weightOf 87 = .ok (.iadd, 1) := by decide +kernel
theorem dX3_weightOf_88 : decode cX3_weightOf 88 = .ok (.istore 8, 2) := by decide +kernel
theorem dX3_weightOf_90 : decode cX3_weightOf 90 = .ok (.iinc 9 1, 3) := by decide +kernel
theorem dX3_weightOf_93 : decode cX3_weightOf 93 = .ok (.goto (-51), 3) := by decide +kernel
theorem dX3_weightOf_96 : decode cX3_weightOf 96 = .ok (.lload 4, 2) := by decide +kernel
theorem dX3_weightOf_98 : decode cX3_weightOf 98 = .ok (.iload 8, 2) := by decide +kernel
theorem dX3_weightOf_100 : decode cX3_weightOf 100 = .ok (.i2l, 1) := by decide +kernel
theorem dX3_weightOf_101 : decode cX3_weightOf 101 = .ok (.lmul, 1) := by decide +kernel
theorem dX3_weightOf_102 : decode cX3_weightOf 102 = .ok (.lstore 4, 2) := by decide +kernel
theorem dX3_weightOf_104 : decode cX3_weightOf 104 = .ok (.iinc 6 1, 3) := by decide +kernel
theorem dX3_weightOf_107 : decode cX3_weightOf 107 = .ok (.goto (-92), 3) := by decide +kernel
theorem dX3_weightOf_110 : decode cX3_weightOf 110 = .ok (.lload 4, 2) := by decide +kernel
theorem dX3_weightOf_112 : decode cX3_weightOf 112 = .ok (.lreturn, 1) := by decide +kernel
theorem dX3_takenAwayBy_0 : decode cX3_takenAwayBy 0 = .ok (.iconst 0, 1) := by decide +kernel
theorem dX3_takenAwayBy_1 : decode cX3_takenAwayBy 1 = .ok (.istore_n 2, 1) := by decide +kernel
theorem dX3_takenAwayBy_2 : decode cX3_takenAwayBy 2 = .ok (.iconst 0, 1) := by decide +kernel
theorem dX3_takenAwayBy_3 : decode cX3_takenAwayBy 3 = .ok (.istore_n 3, 1) := by decide +kernel
theorem dX3_takenAwayBy_4 : decode cX3_takenAwayBy 4 = .ok (.iload_n 3, 1) := by decide +kernel
theorem dX3_takenAwayBy_5 : decode cX3_takenAwayBy 5 = .ok (.aload_n 0, 1) := by decide +kernel
theorem dX3_takenAwayBy_6 : decode cX3_takenAwayBy 6 = .ok (.getfield 35, 3) := by decide +kernel
theorem dX3_takenAwayBy_9 : decode cX3_takenAwayBy 9 = .ok (.getfield 60, 3) := by decide +kernel
theorem dX3_takenAwayBy_12 : decode cX3_takenAwayBy 12 = .ok (.if_icmp .ge 59, 3) := by decide +kernel
theorem dX3_takenAwayBy_15 : decode cX3_takenAwayBy 15 = .ok (.aload_n 0, 1) := by decide +kernel
theorem dX3_takenAwayBy_16 : decode cX3_takenAwayBy 16 = .ok (.getfield 12, 3) := by decide +kernel
theorem dX3_takenAwayBy_19 : decode cX3_takenAwayBy 19 = .ok (.getfield 77, 3) := by decide +kernel
theorem dX3_takenAwayBy_22 : decode cX3_takenAwayBy 22 = .ok (.iload_n 1, 1) := by decide +kernel
theorem dX3_takenAwayBy_23 : decode cX3_takenAwayBy 23 = .ok (.iaload, 1) := by decide +kernel
theorem dX3_takenAwayBy_24 : decode cX3_takenAwayBy 24 = .ok (.iconst 4, 1) := by decide +kernel
theorem dX3_takenAwayBy_25 : decode cX3_takenAwayBy 25 = .ok (.imul, 1) := by decide +kernel
theorem dX3_takenAwayBy_26 : decode cX3_takenAwayBy 26 = .ok (.istore 4, 2) := by decide +kernel
theorem dX3_takenAwayBy_28 : decode cX3_takenAwayBy 28 = .ok (.aload_n 0, 1) := by decide +kernel
theorem dX3_takenAwayBy_29 : decode cX3_takenAwayBy 29 = .ok (.getfield 35, 3) := by decide +kernel
theorem dX3_takenAwayBy_32 : decode cX3_takenAwayBy 32 = .ok (.iload_n 3, 1) := by decide +kernel
theorem dX3_takenAwayBy_33 : decode cX3_takenAwayBy 33 = .ok (.invokevirtual 66, 3) := by decide +kernel
theorem dX3_takenAwayBy_36 : decode cX3_takenAwayBy 36 = .ok (.ifCond .eq 29, 3) := by decide +kernel
theorem dX3_takenAwayBy_39 : decode cX3_takenAwayBy 39 = .ok (.aload_n 0, 1) := by decide +kernel
theorem dX3_takenAwayBy_40 : decode cX3_takenAwayBy 40 = .ok (.iload_n 1, 1) := by decide +kernel
theorem dX3_takenAwayBy_41 : decode cX3_takenAwayBy 41 = .ok (.iload_n 3, 1) := by decide +kernel
theorem dX3_takenAwayBy_42 : decode cX3_takenAwayBy 42 = .ok (.invokevirtual 73, 3) := by decide +kernel
theorem dX3_takenAwayBy_45 : decode cX3_takenAwayBy 45 = .ok (.aload_n 0, 1) := by decide +kernel
theorem dX3_takenAwayBy_46 : decode cX3_takenAwayBy 46 = .ok (.getfield 35, 3) := by decide +kernel
theorem dX3_takenAwayBy_49 : decode cX3_takenAwayBy 49 = .ok (.getfield 93, 3) := by decide +kernel
theorem dX3_takenAwayBy_52 : decode cX3_takenAwayBy 52 = .ok (.iand, 1) := by decide +kernel
theorem dX3_takenAwayBy_53 : decode cX3_takenAwayBy 53 = .ok (.bipush 15, 2) := by decide +kernel
theorem dX3_takenAwayBy_55 : decode cX3_takenAwayBy 55 = .ok (.iload 4, 2) := by decide +kernel
theorem dX3_takenAwayBy_57 : decode cX3_takenAwayBy 57 = .ok (.ishl, 1) := by decide +kernel
theorem dX3_takenAwayBy_58 : decode cX3_takenAwayBy 58 = .ok (.iand, 1) := by decide +kernel
theorem dX3_takenAwayBy_59 : decode cX3_takenAwayBy 59 = .ok (.ifCond .ne 6, 3) := by decide +kernel
theorem dX3_takenAwayBy_62 : decode cX3_takenAwayBy 62 = .ok (.iinc 2 1, 3) := by decide +kernel
theorem dX3_takenAwayBy_65 : decode cX3_takenAwayBy 65 = .ok (.iinc 3 1, 3) := by decide +kernel
theorem dX3_takenAwayBy_68 : decode cX3_takenAwayBy 68 = .ok (.goto (-64), 3) := by decide +kernel
theorem dX3_takenAwayBy_71 : decode cX3_takenAwayBy 71 = .ok (.iload_n 2, 1) := by decide +kernel
theorem dX3_takenAwayBy_72 : decode cX3_takenAwayBy 72 = .ok (.ireturn, 1) := by decide +kernel
theorem dX3_costs_0 : decode cX3_costs 0 = .ok (.iconst 0, 1) := by decide +kernel
theorem dX3_costs_1 : decode cX3_costs 1 = .ok (.istore_n 1, 1) := by decide +kernel
theorem dX3_costs_2 : decode cX3_costs 2 = .ok (.iconst 0, 1) := by decide +kernel
theorem dX3_costs_3 : decode cX3_costs 3 = .ok (.istore_n 2, 1) := by decide +kernel
theorem dX3_costs_4 : decode cX3_costs 4 = .ok (.iload_n 2, 1) := by decide +kernel
theorem dX3_costs_5 : decode cX3_costs 5 = .ok (.aload_n 0, 1) := by decide +kernel
theorem dX3_costs_6 : decode cX3_costs 6 = .ok (.getfield 12, 3) := by decide +kernel
theorem dX3_costs_9 : decode cX3_costs 9 = .ok (.getfield 42, 3) := by decide +kernel
theorem dX3_costs_12 : decode cX3_costs 12 = .ok (.if_icmp .ge 65, 3) := by decide +kernel
theorem dX3_costs_15 : decode cX3_costs 15 = .ok (.aload_n 0, 1) := by decide +kernel
theorem dX3_costs_16 : decode cX3_costs 16 = .ok (.getfield 12, 3) := by decide +kernel
theorem dX3_costs_19 : decode cX3_costs 19 = .ok (.getfield 87, 3) := by decide +kernel
theorem dX3_costs_22 : decode cX3_costs 22 = .ok (.iload_n 2, 1) := by decide +kernel
theorem dX3_costs_23 : decode cX3_costs 23 = .ok (.iaload, 1) := by decide +kernel
theorem dX3_costs_24 : decode cX3_costs 24 = .ok (.iconst 1, 1) := by decide +kernel
theorem dX3_costs_25 : decode cX3_costs 25 = .ok (.iand, 1) := by decide +kernel
theorem dX3_costs_26 : decode cX3_costs 26 = .ok (.iconst 1, 1) := by decide +kernel
theorem dX3_costs_27 : decode cX3_costs 27 = .ok (.iadd, 1) := by decide +kernel
theorem dX3_costs_28 : decode cX3_costs 28 = .ok (.istore_n 3, 1) := by decide +kernel
theorem dX3_costs_29 : decode cX3_costs 29 = .ok (.iload_n 1, 1) := by decide +kernel
theorem dX3_costs_30 : decode cX3_costs 30 = .ok (.aload_n 0, 1) := by decide +kernel
theorem dX3_costs_31 : decode cX3_costs 31 = .ok (.getfield 35, 3) := by decide +kernel
theorem dX3_costs_34 : decode cX3_costs 34 = .ok (.getfield 116, 3) := by decide +kernel
theorem dX3_costs_37 : decode cX3_costs 37 = .ok (.aload_n 0, 1) := by decide +kernel
theorem dX3_costs_38 : decode cX3_costs 38 = .ok (.getfield 12, 3) := by decide +kernel
theorem dX3_costs_41 : decode cX3_costs 41 = .ok (.getfield 70, 3) := by decide +kernel
theorem dX3_costs_44 : decode cX3_costs 44 = .ok (.iload_n 2, 1) := by decide +kernel
theorem dX3_costs_45 : decode cX3_costs 45 = .ok (.iaload, 1) := by decide +kernel
theorem dX3_costs_46 : decode cX3_costs 46 = .ok (.iaload, 1) := by decide +kernel
theorem dX3_costs_47 : decode cX3_costs 47 = .ok (.iload_n 3, 1) := by decide +kernel
theorem dX3_costs_48 : decode cX3_costs 48 = .ok (.aload_n 0, 1) := by decide +kernel
theorem dX3_costs_49 : decode cX3_costs 49 = .ok (.getfield 35, 3) := by decide +kernel
theorem dX3_costs_52 : decode cX3_costs 52 = .ok (.getfield 116, 3) := by decide +kernel
theorem dX3_costs_55 : decode cX3_costs 55 = .ok (.aload_n 0, 1) := by decide +kernel
theorem dX3_costs_56 : decode cX3_costs 56 = .ok (.getfield 12, 3) := by decide +kernel
theorem dX3_costs_59 : decode cX3_costs 59 = .ok (.getfield 87, 3) := by decide +kernel
theorem dX3_costs_62 : decode cX3_costs 62 = .ok (.iload_n 2, 1) := by decide +kernel
theorem dX3_costs_63 : decode cX3_costs 63 = .ok (.iaload, 1) := by decide +kernel
theorem dX3_costs_64 : decode cX3_costs 64 = .ok (.iconst 1, 1) := by decide +kernel
theorem dX3_costs_65 : decode cX3_costs 65 = .ok (.ishr, 1) := by decide +kernel
theorem dX3_costs_66 : decode cX3_costs 66 = .ok (.iaload, 1) := by decide +kernel
theorem dX3_costs_67 : decode cX3_costs 67 = .ok (.imul, 1) := by decide +kernel
theorem dX3_costs_68 : decode cX3_costs 68 = .ok (.iadd, 1) := by decide +kernel
theorem dX3_costs_69 : decode cX3_costs 69 = .ok (.iadd, 1) := by decide +kernel
theorem dX3_costs_70 : decode cX3_costs 70 = .ok (.istore_n 1, 1) := by decide +kernel
theorem dX3_costs_71 : decode cX3_costs 71 = .ok (.iinc 2 1, 3) := by decide +kernel
theorem dX3_costs_74 : decode cX3_costs 74 = .ok (.goto (-70), 3) := by decide +kernel
theorem dX3_costs_77 : decode cX3_costs 77 = .ok (.iload_n 1, 1) := by decide +kernel
theorem dX3_costs_78 : decode cX3_costs 78 = .ok (.ireturn, 1) := by decide +kernel
theorem dX3_mostLeftBehind_0 : decode cX3_mostLeftBehind 0 = .ok (.aload_n 0, 1) := by decide +kernel
theorem dX3_mostLeftBehind_1 : decode cX3_mostLeftBehind 1 = .ok (.getfield 25, 3) := by decide +kernel
theorem dX3_mostLeftBehind_4 : decode cX3_mostLeftBehind 4 = .ok (.iconst 0, 1) := by decide +kernel
theorem dX3_mostLeftBehind_5 : decode cX3_mostLeftBehind 5 = .ok (.invokestatic 119, 3) := by decide +kernel
theorem dX3_mostLeftBehind_8 : decode cX3_mostLeftBehind 8 = .ok (.iconst 0, 1) := by decide +kernel
theorem dX3_mostLeftBehind_9 : decode cX3_mostLeftBehind 9 = .ok (.istore_n 3, 1) := by decide +kernel
theorem dX3_mostLeftBehind_10 : decode cX3_mostLeftBehind 10 = .ok (.iload_n 3, 1) := by decide +kernel
theorem dX3_mostLeftBehind_11 : decode cX3_mostLeftBehind 11 = .ok (.aload_n 0, 1) := by decide +kernel
theorem dX3_mostLeftBehind_12 : decode cX3_mostLeftBehind 12 = .ok (.getfield 28, 3) := by decide +kernel
theorem dX3_mostLeftBehind_15 : decode cX3_mostLeftBehind 15 = .ok (.if_icmp .ge 108, 3) := by decide +kernel
theorem dX3_mostLeftBehind_18 : decode cX3_mostLeftBehind 18 = .ok (.aload_n 0, 1) := by decide +kernel
theorem dX3_mostLeftBehind_19 : decode cX3_mostLeftBehind 19 = .ok (.iload_n 1, 1) := by decide +kernel
theorem dX3_mostLeftBehind_20 : decode cX3_mostLeftBehind 20 = .ok (.aload_n 0, 1) := by decide +kernel
theorem dX3_mostLeftBehind_21 : decode cX3_mostLeftBehind 21 = .ok (.getfield 22, 3) := by decide +kernel
theorem dX3_mostLeftBehind_24 : decode cX3_mostLeftBehind 24 = .ok (.iload_n 3, 1) := by decide +kernel
theorem dX3_mostLeftBehind_25 : decode cX3_mostLeftBehind 25 = .ok (.iaload, 1) := by decide +kernel
theorem dX3_mostLeftBehind_26 : decode cX3_mostLeftBehind 26 = .ok (.invokevirtual 80, 3) := by decide +kernel
theorem dX3_mostLeftBehind_29 : decode cX3_mostLeftBehind 29 = .ok (.istore 4, 2) := by decide +kernel
theorem dX3_mostLeftBehind_31 : decode cX3_mostLeftBehind 31 = .ok (.aload_n 0, 1) := by decide +kernel
theorem dX3_mostLeftBehind_32 : decode cX3_mostLeftBehind 32 = .ok (.getfield 35, 3) := by decide +kernel
theorem dX3_mostLeftBehind_35 : decode cX3_mostLeftBehind 35 = .ok (.iload_n 1, 1) := by decide +kernel
theorem dX3_mostLeftBehind_36 : decode cX3_mostLeftBehind 36 = .ok (.iload_n 2, 1) := by decide +kernel
theorem dX3_mostLeftBehind_37 : decode cX3_mostLeftBehind 37 = .ok (.aload_n 0, 1) := by decide +kernel
theorem dX3_mostLeftBehind_38 : decode cX3_mostLeftBehind 38 = .ok (.getfield 22, 3) := by decide +kernel
theorem dX3_mostLeftBehind_41 : decode cX3_mostLeftBehind 41 = .ok (.iload_n 3, 1) := by decide +kernel
theorem dX3_mostLeftBehind_42 : decode cX3_mostLeftBehind 42 = .ok (.iaload, 1) := by decide +kernel
theorem dX3_mostLeftBehind_43 : decode cX3_mostLeftBehind 43 = .ok (.invokevirtual 83, 3) := by decide +kernel
theorem dX3_mostLeftBehind_46 : decode cX3_mostLeftBehind 46 = .ok (.istore 5, 2) := by decide +kernel
theorem dX3_mostLeftBehind_48 : decode cX3_mostLeftBehind 48 = .ok (.iconst 0, 1) := by decide +kernel
theorem dX3_mostLeftBehind_49 : decode cX3_mostLeftBehind 49 = .ok (.istore 6, 2) := by decide +kernel
theorem dX3_mostLeftBehind_51 : decode cX3_mostLeftBehind 51 = .ok (.iconst 0, 1) := by decide +kernel
theorem dX3_mostLeftBehind_52 : decode cX3_mostLeftBehind 52 = .ok (.istore 7, 2) := by decide +kernel
theorem dX3_mostLeftBehind_54 : decode cX3_mostLeftBehind 54 = .ok (.iload 7, 2) := by decide +kernel
theorem dX3_mostLeftBehind_56 : decode cX3_mostLeftBehind 56 = .ok (.iconst 4, 1) := by decide +kernel
theorem dX3_mostLeftBehind_57 : decode cX3_mostLeftBehind 57 = .ok (.if_icmp .ge 60, 3) := by decide +kernel
theorem dX3_mostLeftBehind_60 : decode cX3_mostLeftBehind 60 = .ok (.iload 5, 2) := by decide +kernel
theorem dX3_mostLeftBehind_62 : decode cX3_mostLeftBehind 62 = .ok (.bipush 31, 2) := by decide +kernel
theorem dX3_mostLeftBehind_64 : decode cX3_mostLeftBehind 64 = .ok (.iand, 1) := by decide +kernel
theorem dX3_mostLeftBehind_65 : decode cX3_mostLeftBehind 65 = .ok (.istore 8, 2) := by decide +kernel
theorem dX3_mostLeftBehind_67 : decode cX3_mostLeftBehind 67 = .ok (.iload 4, 2) := by decide +kernel
theorem dX3_mostLeftBehind_69 : decode cX3_mostLeftBehind 69 = .ok (.iload 7, 2) := by decide +kernel
theorem dX3_mostLeftBehind_71 : decode cX3_mostLeftBehind 71 = .ok (.ishr, 1) := by decide +kernel
theorem dX3_mostLeftBehind_72 : decode cX3_mostLeftBehind 72 = .ok (.iconst 1, 1) := by decide +kernel
theorem dX3_mostLeftBehind_73 : decode cX3_mostLeftBehind 73 = .ok (.iand, 1) := by decide +kernel
theorem dX3_mostLeftBehind_74 : decode cX3_mostLeftBehind 74 = .ok (.iload 6, 2) := by decide +kernel
theorem dX3_mostLeftBehind_76 : decode cX3_mostLeftBehind 76 = .ok (.iload 8, 2) := by decide +kernel
theorem dX3_mostLeftBehind_78 : decode cX3_mostLeftBehind 78 = .ok (.ishr, 1) := by decide +kernel
theorem dX3_mostLeftBehind_79 : decode cX3_mostLeftBehind 79 = .ok (.iconst (-1), 1) := by decide +kernel
theorem dX3_mostLeftBehind_80 : decode cX3_mostLeftBehind 80 = .ok (.ixor, 1) := by decide +kernel
theorem dX3_mostLeftBehind_81 : decode cX3_mostLeftBehind 81 = .ok (.iand, 1) := by decide +kernel
theorem dX3_mostLeftBehind_82 : decode cX3_mostLeftBehind 82 = .ok (.ifCond .eq 23, 3) := by decide +kernel
theorem dX3_mostLeftBehind_85 : decode cX3_mostLeftBehind 85 = .ok (.iload 6, 2) := by decide +kernel
theorem dX3_mostLeftBehind_87 : decode cX3_mostLeftBehind 87 = .ok (.iconst 1, 1) := by decide +kernel
theorem dX3_mostLeftBehind_88 : decode cX3_mostLeftBehind 88 = .ok (.iload 8, 2) := by decide +kernel
theorem dX3_mostLeftBehind_90 : decode cX3_mostLeftBehind 90 = .ok (.ishl, 1) := by decide +kernel
theorem dX3_mostLeftBehind_91 : decode cX3_mostLeftBehind 91 = .ok (.ior, 1) := by decide +kernel
theorem dX3_mostLeftBehind_92 : decode cX3_mostLeftBehind 92 = .ok (.istore 6, 2) := by decide +kernel
theorem dX3_mostLeftBehind_94 : decode cX3_mostLeftBehind 94 = .ok (.aload_n 0, 1) := by decide +kernel
theorem dX3_mostLeftBehind_95 : decode cX3_mostLeftBehind 95 = .ok (.getfield 25, 3) := by decide +kernel
theorem dX3_mostLeftBehind_98 : decode cX3_mostLeftBehind 98 = .ok (.iload 8, 2) := by decide +kernel
theorem dX3_mostLeftBehind_100 : decode cX3_mostLeftBehind 100 = .ok (.dup2, 1) := by decide +kernel
theorem dX3_mostLeftBehind_101 : decode cX3_mostLeftBehind 101 = .ok (.iaload, 1) := by decide +kernel
theorem dX3_mostLeftBehind_102 : decode cX3_mostLeftBehind 102 = .ok (.iconst 1, 1) := by decide +kernel
theorem dX3_mostLeftBehind_103 : decode cX3_mostLeftBehind 103 = .ok (.iadd, 1) := by decide +kernel
theorem dX3_mostLeftBehind_104 : decode cX3_mostLeftBehind 104 = .ok (.iastore, 1) := by decide +kernel
theorem dX3_mostLeftBehind_105 : decode cX3_mostLeftBehind 105 = .ok (.iload 5, 2) := by decide +kernel
theorem dX3_mostLeftBehind_107 : decode cX3_mostLeftBehind 107 = .ok (.iconst 5, 1) := by decide +kernel
theorem dX3_mostLeftBehind_108 : decode cX3_mostLeftBehind 108 = .ok (.ishr, 1) := by decide +kernel
theorem dX3_mostLeftBehind_109 : decode cX3_mostLeftBehind 109 = .ok (.istore 5, 2) := by decide +kernel
theorem dX3_mostLeftBehind_111 : decode cX3_mostLeftBehind 111 = .ok (.iinc 7 1, 3) := by decide +kernel
theorem dX3_mostLeftBehind_114 : decode cX3_mostLeftBehind 114 = .ok (.goto (-60), 3) := by decide +kernel
theorem dX3_mostLeftBehind_117 : decode cX3_mostLeftBehind 117 = .ok (.iinc 3 1, 3) := by decide +kernel
theorem dX3_mostLeftBehind_120 : decode cX3_mostLeftBehind 120 = .ok (.goto (-110), 3) := by decide +kernel
theorem dX3_mostLeftBehind_123 : decode cX3_mostLeftBehind 123 = .ok (.iconst 0, 1) := by decide +kernel
theorem dX3_mostLeftBehind_124 : decode cX3_mostLeftBehind 124 = .ok (.istore_n 3, 1) := by decide +kernel
theorem dX3_mostLeftBehind_125 : decode cX3_mostLeftBehind 125 = .ok (.iconst 0, 1) := by decide +kernel
theorem dX3_mostLeftBehind_126 : decode cX3_mostLeftBehind 126 = .ok (.istore 4, 2) := by decide +kernel
theorem dX3_mostLeftBehind_128 : decode cX3_mostLeftBehind 128 = .ok (.iload 4, 2) := by decide +kernel
theorem dX3_mostLeftBehind_130 : decode cX3_mostLeftBehind 130 = .ok (.bipush 24, 2) := by decide +kernel
theorem dX3_mostLeftBehind_132 : decode cX3_mostLeftBehind 132 = .ok (.if_icmp .ge 21, 3) := by decide +kernel
theorem dX3_mostLeftBehind_135 : decode cX3_mostLeftBehind 135 = .ok (.iload_n 3, 1) := by decide +kernel
theorem dX3_mostLeftBehind_136 : decode cX3_mostLeftBehind 136 = .ok (.aload_n 0, 1) := by decide +kernel
theorem dX3_mostLeftBehind_137 : decode cX3_mostLeftBehind 137 = .ok (.getfield 25, 3) := by decide +kernel
theorem dX3_mostLeftBehind_140 : decode cX3_mostLeftBehind 140 = .ok (.iload 4, 2) := by decide +kernel
theorem dX3_mostLeftBehind_142 : decode cX3_mostLeftBehind 142 = .ok (.iaload, 1) := by decide +kernel
theorem dX3_mostLeftBehind_143 : decode cX3_mostLeftBehind 143 = .ok (.invokestatic 125, 3) := by decide +kernel
theorem dX3_mostLeftBehind_146 : decode cX3_mostLeftBehind 146 = .ok (.istore_n 3, 1) := by decide +kernel
theorem dX3_mostLeftBehind_147 : decode cX3_mostLeftBehind 147 = .ok (.iinc 4 1, 3) := by decide +kernel
theorem dX3_mostLeftBehind_150 : decode cX3_mostLeftBehind 150 = .ok (.goto (-22), 3) := by decide +kernel
theorem dX3_mostLeftBehind_153 : decode cX3_mostLeftBehind 153 = .ok (.iload_n 3, 1) := by decide +kernel
theorem dX3_mostLeftBehind_154 : decode cX3_mostLeftBehind 154 = .ok (.ireturn, 1) := by decide +kernel
theorem dX3_bestFor_0 : decode cX3_bestFor 0 = .ok (.iconst (-1), 1) := by decide +kernel
theorem dX3_bestFor_1 : decode cX3_bestFor 1 = .ok (.istore_n 2, 1) := by decide +kernel
theorem dX3_bestFor_2 : decode cX3_bestFor 2 = .ok (.sipush 257, 3) := by decide +kernel
theorem dX3_bestFor_5 : decode cX3_bestFor 5 = .ok (.istore_n 3, 1) := by decide +kernel
theorem dX3_bestFor_6 : decode cX3_bestFor 6 = .ok (.iconst 0, 1) := by decide +kernel
theorem dX3_bestFor_7 : decode cX3_bestFor 7 = .ok (.istore 4, 2) := by decide +kernel
theorem dX3_bestFor_9 : decode cX3_bestFor 9 = .ok (.iload 4, 2) := by decide +kernel
theorem dX3_bestFor_11 : decode cX3_bestFor 11 = .ok (.aload_n 0, 1) := by decide +kernel
theorem dX3_bestFor_12 : decode cX3_bestFor 12 = .ok (.getfield 35, 3) := by decide +kernel
theorem dX3_bestFor_15 : decode cX3_bestFor 15 = .ok (.getfield 130, 3) := by decide +kernel
theorem dX3_bestFor_18 : decode cX3_bestFor 18 = .ok (.if_icmp .ge 46, 3) := by decide +kernel
theorem dX3_bestFor_21 : decode cX3_bestFor 21 = .ok (.aload_n 0, 1) := by decide +kernel
theorem dX3_bestFor_22 : decode cX3_bestFor 22 = .ok (.getfield 28, 3) := by decide +kernel
theorem dX3_bestFor_25 : decode cX3_bestFor 25 = .ok (.ifCond .le 39, 3) := by decide +kernel
theorem dX3_bestFor_28 : decode cX3_bestFor 28 = .ok (.aload_n 0, 1) := by decide +kernel
theorem dX3_bestFor_29 : decode cX3_bestFor 29 = .ok (.iload 4, 2) := by decide +kernel
theorem dX3_bestFor_31 : decode cX3_bestFor 31 = .ok (.invokevirtual 133, 3) := by decide +kernel
theorem dX3_bestFor_34 : decode cX3_bestFor 34 = .ok (.ifCond .ne 24, 3) := by decide +kernel
theorem dX3_bestFor_37 : decode cX3_bestFor 37 = .ok (.aload_n 0, 1) := by decide +kernel
theorem dX3_bestFor_38 : decode cX3_bestFor 38 = .ok (.iload_n 1, 1) := by decide +kernel
theorem dX3_bestFor_39 : decode cX3_bestFor 39 = .ok (.iload 4, 2) := by decide +kernel
theorem dX3_bestFor_41 : decode cX3_bestFor 41 = .ok (.invokevirtual 136, 3) := by decide +kernel
theorem dX3_bestFor_44 : decode cX3_bestFor 44 = .ok (.istore 5, 2) := by decide +kernel
theorem dX3_bestFor_46 : decode cX3_bestFor 46 = .ok (.iload 5, 2) := by decide +kernel
theorem dX3_bestFor_48 : decode cX3_bestFor 48 = .ok (.iload_n 3, 1) := by decide +kernel
theorem dX3_bestFor_49 : decode cX3_bestFor 49 = .ok (.if_icmp .ge 9, 3) := by decide +kernel
theorem dX3_bestFor_52 : decode cX3_bestFor 52 = .ok (.iload 5, 2) := by decide +kernel
theorem dX3_bestFor_54 : decode cX3_bestFor 54 = .ok (.istore_n 3, 1) := by decide +kernel
theorem dX3_bestFor_55 : decode cX3_bestFor 55 = .ok (.iload 4, 2) := by decide +kernel
theorem dX3_bestFor_57 : decode cX3_bestFor 57 = .ok (.istore_n 2, 1) := by decide +kernel
theorem dX3_bestFor_58 : decode cX3_bestFor 58 = .ok (.iinc 4 1, 3) := by decide +kernel
theorem dX3_bestFor_61 : decode cX3_bestFor 61 = .ok (.goto (-52), 3) := by decide +kernel
theorem dX3_bestFor_64 : decode cX3_bestFor 64 = .ok (.iload_n 2, 1) := by decide +kernel
theorem dX3_bestFor_65 : decode cX3_bestFor 65 = .ok (.ireturn, 1) := by decide +kernel
theorem dX3_leftIfHonest_0 : decode cX3_leftIfHonest 0 = .ok (.iconst 0, 1) := by decide +kernel
theorem dX3_leftIfHonest_1 : decode cX3_leftIfHonest 1 = .ok (.istore_n 1, 1) := by decide +kernel
theorem dX3_leftIfHonest_2 : decode cX3_leftIfHonest 2 = .ok (.iconst 0, 1) := by decide +kernel
theorem dX3_leftIfHonest_3 : decode cX3_leftIfHonest 3 = .ok (.istore_n 2, 1) := by decide +kernel
theorem dX3_leftIfHonest_4 : decode cX3_leftIfHonest 4 = .ok (.iload_n 2, 1) := by decide +kernel
theorem dX3_leftIfHonest_5 : decode cX3_leftIfHonest 5 = .ok (.aload_n 0, 1) := by decide +kernel
theorem dX3_leftIfHonest_6 : decode cX3_leftIfHonest 6 = .ok (.getfield 35, 3) := by decide +kernel
theorem dX3_leftIfHonest_9 : decode cX3_leftIfHonest 9 = .ok (.getfield 60, 3) := by decide +kernel
theorem dX3_leftIfHonest_12 : decode cX3_leftIfHonest 12 = .ok (.if_icmp .ge 39, 3) := by decide +kernel
theorem dX3_leftIfHonest_15 : decode cX3_leftIfHonest 15 = .ok (.aload_n 0, 1) := by decide +kernel
theorem dX3_leftIfHonest_16 : decode cX3_leftIfHonest 16 = .ok (.getfield 35, 3) := by decide +kernel
theorem dX3_leftIfHonest_19 : decode cX3_leftIfHonest 19 = .ok (.iload_n 2, 1) := by decide +kernel
theorem dX3_leftIfHonest_20 : decode cX3_leftIfHonest 20 = .ok (.invokevirtual 66, 3) := by decide +kernel
theorem dX3_leftIfHonest_23 : decode cX3_leftIfHonest 23 = .ok (.ifCond .eq 22, 3) := by decide +kernel
theorem dX3_leftIfHonest_26 : decode cX3_leftIfHonest 26 = .ok (.aload_n 0, 1) := by decide +kernel
theorem dX3_leftIfHonest_27 : decode cX3_leftIfHonest 27 = .ok (.getfield 18, 3) := by decide +kernel
theorem dX3_leftIfHonest_30 : decode cX3_leftIfHonest 30 = .ok (.iload_n 2, 1) := by decide +kernel
theorem dX3_leftIfHonest_31 : decode cX3_leftIfHonest 31 = .ok (.iaload, 1) := by decide +kernel
theorem dX3_leftIfHonest_32 : decode cX3_leftIfHonest 32 = .ok (.sipush 4369, 3) := by decide +kernel
theorem dX3_leftIfHonest_35 : decode cX3_leftIfHonest 35 = .ok (.iand, 1) := by decide +kernel
theorem dX3_leftIfHonest_36 : decode cX3_leftIfHonest 36 = .ok (.sipush 4369, 3) := by decide +kernel
theorem dX3_leftIfHonest_39 : decode cX3_leftIfHonest 39 = .ok (.if_icmp .ne 6, 3) := by decide +kernel
theorem dX3_leftIfHonest_42 : decode cX3_leftIfHonest 42 = .ok (.iinc 1 1, 3) := by decide +kernel
theorem dX3_leftIfHonest_45 : decode cX3_leftIfHonest 45 = .ok (.iinc 2 1, 3) := by decide +kernel
theorem dX3_leftIfHonest_48 : decode cX3_leftIfHonest 48 = .ok (.goto (-44), 3) := by decide +kernel
theorem dX3_leftIfHonest_51 : decode cX3_leftIfHonest 51 = .ok (.iload_n 1, 1) := by decide +kernel
theorem dX3_leftIfHonest_52 : decode cX3_leftIfHonest 52 = .ok (.ireturn, 1) := by decide +kernel
theorem dX3_firstClash_0 : decode cX3_firstClash 0 = .ok (.aload_n 0, 1) := by decide +kernel
theorem dX3_firstClash_1 : decode cX3_firstClash 1 = .ok (.getfield 12, 3) := by decide +kernel
theorem dX3_firstClash_4 : decode cX3_firstClash 4 = .ok (.getfield 42, 3) := by decide +kernel
theorem dX3_firstClash_7 : decode cX3_firstClash 7 = .ok (.ifCond .ne 5, 3) := by decide +kernel
theorem dX3_firstClash_10 : decode cX3_firstClash 10 = .ok (.iconst (-1), 1) := by decide +kernel
theorem dX3_firstClash_11 : decode cX3_firstClash 11 = .ok (.ireturn, 1) := by decide +kernel
theorem dX3_firstClash_12 : decode cX3_firstClash 12 = .ok (.iconst 0, 1) := by decide +kernel
theorem dX3_firstClash_13 : decode cX3_firstClash 13 = .ok (.istore_n 1, 1) := by decide +kernel
theorem dX3_firstClash_14 : decode cX3_firstClash 14 = .ok (.iconst 0, 1) := by decide +kernel
theorem dX3_firstClash_15 : decode cX3_firstClash 15 = .ok (.istore_n 2, 1) := by decide +kernel
theorem dX3_firstClash_16 : decode cX3_firstClash 16 = .ok (.iload_n 2, 1) := by decide +kernel
theorem dX3_firstClash_17 : decode cX3_firstClash 17 = .ok (.aload_n 0, 1) := by decide +kernel
theorem dX3_firstClash_18 : decode cX3_firstClash 18 = .ok (.getfield 35, 3) := by decide +kernel
theorem dX3_firstClash_21 : decode cX3_firstClash 21 = .ok (.getfield 60, 3) := by decide +kernel
theorem dX3_firstClash_24 : decode cX3_firstClash 24 = .ok (.if_icmp .ge 39, 3) := by decide +kernel
theorem dX3_firstClash_27 : decode cX3_firstClash 27 = .ok (.aload_n 0, 1) := by decide +kernel
theorem dX3_firstClash_28 : decode cX3_firstClash 28 = .ok (.getfield 35, 3) := by decide +kernel
theorem dX3_firstClash_31 : decode cX3_firstClash 31 = .ok (.iload_n 2, 1) := by decide +kernel
theorem dX3_firstClash_32 : decode cX3_firstClash 32 = .ok (.invokevirtual 66, 3) := by decide +kernel
theorem dX3_firstClash_35 : decode cX3_firstClash 35 = .ok (.ifCond .eq 22, 3) := by decide +kernel
theorem dX3_firstClash_38 : decode cX3_firstClash 38 = .ok (.aload_n 0, 1) := by decide +kernel
theorem dX3_firstClash_39 : decode cX3_firstClash 39 = .ok (.iload_n 2, 1) := by decide +kernel
theorem dX3_firstClash_40 : decode cX3_firstClash 40 = .ok (.invokevirtual 139, 3) := by decide +kernel
theorem dX3_firstClash_43 : decode cX3_firstClash 43 = .ok (.istore_n 3, 1) := by decide +kernel
theorem dX3_firstClash_44 : decode cX3_firstClash 44 = .ok (.iload_n 3, 1) := by decide +kernel
theorem dX3_firstClash_45 : decode cX3_firstClash 45 = .ok (.iconst (-1), 1) := by decide +kernel
theorem dX3_firstClash_46 : decode cX3_firstClash 46 = .ok (.if_icmp .ne 5, 3) := by decide +kernel
theorem dX3_firstClash_49 : decode cX3_firstClash 49 = .ok (.iconst (-1), 1) := by decide +kernel
theorem dX3_firstClash_50 : decode cX3_firstClash 50 = .ok (.ireturn, 1) := by decide +kernel
theorem dX3_firstClash_51 : decode cX3_firstClash 51 = .ok (.iload_n 1, 1) := by decide +kernel
theorem dX3_firstClash_52 : decode cX3_firstClash 52 = .ok (.iload_n 3, 1) := by decide +kernel
theorem dX3_firstClash_53 : decode cX3_firstClash 53 = .ok (.invokestatic 125, 3) := by decide +kernel
theorem dX3_firstClash_56 : decode cX3_firstClash 56 = .ok (.istore_n 1, 1) := by decide +kernel
theorem dX3_firstClash_57 : decode cX3_firstClash 57 = .ok (.iinc 2 1, 3) := by decide +kernel
theorem dX3_firstClash_60 : decode cX3_firstClash 60 = .ok (.goto (-44), 3) := by decide +kernel
theorem dX3_firstClash_63 : decode cX3_firstClash 63 = .ok (.iload_n 1, 1) := by decide +kernel
theorem dX3_firstClash_64 : decode cX3_firstClash 64 = .ok (.ireturn, 1) := by decide +kernel
theorem dX3_firstDoubt_0 : decode cX3_firstDoubt 0 = .ok (.iconst 0, 1) := by decide +kernel
theorem dX3_firstDoubt_1 : decode cX3_firstDoubt 1 = .ok (.istore_n 2, 1) := by decide +kernel
theorem dX3_firstDoubt_2 : decode cX3_firstDoubt 2 = .ok (.iload_n 2, 1) := by decide +kernel
theorem dX3_firstDoubt_3 : decode cX3_firstDoubt 3 = .ok (.aload_n 0, 1) := by decide +kernel
theorem dX3_firstDoubt_4 : decode cX3_firstDoubt 4 = .ok (.getfield 12, 3) := by decide +kernel
theorem dX3_firstDoubt_7 : decode cX3_firstDoubt 7 = .ok (.getfield 42, 3) := by decide +kernel
theorem dX3_firstDoubt_10 : decode cX3_firstDoubt 10 = .ok (.if_icmp .ge 27, 3) := by decide +kernel
theorem dX3_firstDoubt_13 : decode cX3_firstDoubt 13 = .ok (.aload_n 0, 1) := by decide +kernel
theorem dX3_firstDoubt_14 : decode cX3_firstDoubt 14 = .ok (.iload_n 2, 1) := by decide +kernel
theorem dX3_firstDoubt_15 : decode cX3_firstDoubt 15 = .ok (.iload_n 1, 1) := by decide +kernel
theorem dX3_firstDoubt_16 : decode cX3_firstDoubt 16 = .ok (.invokevirtual 73, 3) := by decide +kernel
theorem dX3_firstDoubt_19 : decode cX3_firstDoubt 19 = .ok (.sipush 4369, 3) := by decide +kernel
theorem dX3_firstDoubt_22 : decode cX3_firstDoubt 22 = .ok (.iand, 1) := by decide +kernel
theorem dX3_firstDoubt_23 : decode cX3_firstDoubt 23 = .ok (.sipush 4369, 3) := by decide +kernel
theorem dX3_firstDoubt_26 : decode cX3_firstDoubt 26 = .ok (.if_icmp .eq 5, 3) := by decide +kernel
theorem dX3_firstDoubt_29 : decode cX3_firstDoubt 29 = .ok (.iload_n 2, 1) := by decide +kernel
theorem dX3_firstDoubt_30 : decode cX3_firstDoubt 30 = .ok (.ireturn, 1) := by decide +kernel
theorem dX3_firstDoubt_31 : decode cX3_firstDoubt 31 = .ok (.iinc 2 1, 3) := by decide +kernel
theorem dX3_firstDoubt_34 : decode cX3_firstDoubt 34 = .ok (.goto (-32), 3) := by decide +kernel
theorem dX3_firstDoubt_37 : decode cX3_firstDoubt 37 = .ok (.iconst (-1), 1) := by decide +kernel
theorem dX3_firstDoubt_38 : decode cX3_firstDoubt 38 = .ok (.ireturn, 1) := by decide +kernel
theorem dX3_neverHonest_0 : decode cX3_neverHonest 0 = .ok (.iconst 0, 1) := by decide +kernel
theorem dX3_neverHonest_1 : decode cX3_neverHonest 1 = .ok (.istore_n 1, 1) := by decide +kernel
theorem dX3_neverHonest_2 : decode cX3_neverHonest 2 = .ok (.iconst 0, 1) := by decide +kernel
theorem dX3_neverHonest_3 : decode cX3_neverHonest 3 = .ok (.istore_n 2, 1) := by decide +kernel
theorem dX3_neverHonest_4 : decode cX3_neverHonest 4 = .ok (.iload_n 2, 1) := by decide +kernel
theorem dX3_neverHonest_5 : decode cX3_neverHonest 5 = .ok (.aload_n 0, 1) := by decide +kernel
theorem dX3_neverHonest_6 : decode cX3_neverHonest 6 = .ok (.getfield 28, 3) := by decide +kernel
theorem dX3_neverHonest_9 : decode cX3_neverHonest 9 = .ok (.if_icmp .ge 23, 3) := by decide +kernel
theorem dX3_neverHonest_12 : decode cX3_neverHonest 12 = .ok (.iload_n 1, 1) := by decide +kernel
theorem dX3_neverHonest_13 : decode cX3_neverHonest 13 = .ok (.aload_n 0, 1) := by decide +kernel
theorem dX3_neverHonest_14 : decode cX3_neverHonest 14 = .ok (.getfield 18, 3) := by decide +kernel
theorem dX3_neverHonest_17 : decode cX3_neverHonest 17 = .ok (.aload_n 0, 1) := by decide +kernel
theorem dX3_neverHonest_18 : decode cX3_neverHonest 18 = .ok (.getfield 22, 3) := by decide +kernel
theorem dX3_neverHonest_21 : decode cX3_neverHonest 21 = .ok (.iload_n 2, 1) := by decide +kernel
theorem dX3_neverHonest_22 : decode cX3_neverHonest 22 = .ok (.iaload, 1) := by decide +kernel
theorem dX3_neverHonest_23 : decode cX3_neverHonest 23 = .ok (.iaload, 1) := by decide +kernel
theorem dX3_neverHonest_24 : decode cX3_neverHonest 24 = .ok (.ior, 1) := by decide +kernel
theorem dX3_neverHonest_25 : decode cX3_neverHonest 25 = .ok (.istore_n 1, 1) := by decide +kernel
theorem dX3_neverHonest_26 : decode cX3_neverHonest 26 = .ok (.iinc 2 1, 3) := by decide +kernel
theorem dX3_neverHonest_29 : decode cX3_neverHonest 29 = .ok (.goto (-25), 3) := by decide +kernel
theorem dX3_neverHonest_32 : decode cX3_neverHonest 32 = .ok (.iconst 0, 1) := by decide +kernel
theorem dX3_neverHonest_33 : decode cX3_neverHonest 33 = .ok (.istore_n 2, 1) := by decide +kernel
theorem dX3_neverHonest_34 : decode cX3_neverHonest 34 = .ok (.iconst 0, 1) := by decide +kernel
theorem dX3_neverHonest_35 : decode cX3_neverHonest 35 = .ok (.istore_n 3, 1) := by decide +kernel
theorem dX3_neverHonest_36 : decode cX3_neverHonest 36 = .ok (.iload_n 3, 1) := by decide +kernel
theorem dX3_neverHonest_37 : decode cX3_neverHonest 37 = .ok (.aload_n 0, 1) := by decide +kernel
theorem dX3_neverHonest_38 : decode cX3_neverHonest 38 = .ok (.getfield 35, 3) := by decide +kernel
theorem dX3_neverHonest_41 : decode cX3_neverHonest 41 = .ok (.getfield 110, 3) := by decide +kernel
theorem dX3_neverHonest_44 : decode cX3_neverHonest 44 = .ok (.if_icmp .ge 25, 3) := by decide +kernel
theorem dX3_neverHonest_47 : decode cX3_neverHonest 47 = .ok (.iload_n 1, 1) := by decide +kernel
theorem dX3_neverHonest_48 : decode cX3_neverHonest 48 = .ok (.iload_n 3, 1) := by decide +kernel
theorem dX3_neverHonest_49 : decode cX3_neverHonest 49 = .ok (.iconst 4, 1) := by decide +kernel
theorem dX3_neverHonest_50 : decode cX3_neverHonest 50 = .ok (.imul, 1) := by decide +kernel
theorem dX3_neverHonest_51 : decode cX3_neverHonest 51 = .ok (.ishr, 1) := by decide +kernel
theorem dX3_neverHonest_52 : decode cX3_neverHonest 52 = .ok (.iconst 1, 1) := by decide +kernel
theorem dX3_neverHonest_53 : decode cX3_neverHonest 53 = .ok (.iand, 1) := by decide +kernel
theorem dX3_neverHonest_54 : decode cX3_neverHonest 54 = .ok (.ifCond .ne 9, 3) := by decide +kernel
theorem dX3_neverHonest_57 : decode cX3_neverHonest 57 = .ok (.iload_n 2, 1) := by decide +kernel
theorem dX3_neverHonest_58 : decode cX3_neverHonest 58 = .ok (.iconst 1, 1) := by decide +kernel
theorem dX3_neverHonest_59 : decode cX3_neverHonest 59 = .ok (.iload_n 3, 1) := by decide +kernel
theorem dX3_neverHonest_60 : decode cX3_neverHonest 60 = .ok (.ishl, 1) := by decide +kernel
theorem dX3_neverHonest_61 : decode cX3_neverHonest 61 = .ok (.ior, 1) := by decide +kernel
theorem dX3_neverHonest_62 : decode cX3_neverHonest 62 = .ok (.istore_n 2, 1) := by decide +kernel
theorem dX3_neverHonest_63 : decode cX3_neverHonest 63 = .ok (.iinc 3 1, 3) := by decide +kernel
theorem dX3_neverHonest_66 : decode cX3_neverHonest 66 = .ok (.goto (-30), 3) := by decide +kernel
theorem dX3_neverHonest_69 : decode cX3_neverHonest 69 = .ok (.iload_n 2, 1) := by decide +kernel
theorem dX3_neverHonest_70 : decode cX3_neverHonest 70 = .ok (.ireturn, 1) := by decide +kernel
theorem dX4_init_0 : decode cX4_init 0 = .ok (.aload_n 0, 1) := by decide +kernel
theorem dX4_init_1 : decode cX4_init 1 = .ok (.invokespecial 3, 3) := by decide +kernel
theorem dX4_init_4 : decode cX4_init 4 = .ok (.aload_n 0, 1) := by decide +kernel
theorem dX4_init_5 : decode cX4_init 5 = .ok (.sipush 900, 3) := by decide +kernel
theorem dX4_init_8 : decode cX4_init 8 = .ok (.newarray .byte, 2) := by decide +kernel
theorem dX4_init_10 : decode cX4_init 10 = .ok (.putfield 9, 3) := by decide +kernel
theorem dX4_init_13 : decode cX4_init 13 = .ok (.aload_n 0, 1) := by decide +kernel
theorem dX4_init_14 : decode cX4_init 14 = .ok (.bipush 27, 2) := by decide +kernel
theorem dX4_init_16 : decode cX4_init 16 = .ok (.newarray .long, 2) := by decide +kernel
theorem dX4_init_18 : decode cX4_init 18 = .ok (.putfield 15, 3) := by decide +kernel
theorem dX4_init_21 : decode cX4_init 21 = .ok (.aload_n 0, 1) := by decide +kernel
theorem dX4_init_22 : decode cX4_init 22 = .ok (.sipush 901, 3) := by decide +kernel
theorem dX4_init_25 : decode cX4_init 25 = .ok (.newarray .int, 2) := by decide +kernel
theorem dX4_init_27 : decode cX4_init 27 = .ok (.putfield 19, 3) := by decide +kernel
theorem dX4_init_30 : decode cX4_init 30 = .ok (.aload_n 0, 1) := by decide +kernel
theorem dX4_init_31 : decode cX4_init 31 = .ok (.sipush 901, 3) := by decide +kernel
theorem dX4_init_34 : decode cX4_init 34 = .ok (.newarray .int, 2) := by decide +kernel
theorem dX4_init_36 : decode cX4_init 36 = .ok (.putfield 23, 3) := by decide +kernel
theorem dX4_init_39 : decode cX4_init 39 = .ok (.aload_n 0, 1) := by decide +kernel
theorem dX4_init_40 : decode cX4_init 40 = .ok (.sipush 901, 3) := by decide +kernel
theorem dX4_init_43 : decode cX4_init 43 = .ok (.newarray .int, 2) := by decide +kernel
theorem dX4_init_45 : decode cX4_init 45 = .ok (.putfield 26, 3) := by decide +kernel
theorem dX4_init_48 : decode cX4_init 48 = .ok (.aload_n 0, 1) := by decide +kernel
theorem dX4_init_49 : decode cX4_init 49 = .ok (.sipush 901, 3) := by decide +kernel
theorem dX4_init_52 : decode cX4_init 52 = .ok (.newarray .long, 2) := by decide +kernel
theorem dX4_init_54 : decode cX4_init 54 = .ok (.putfield 29, 3) := by decide +kernel
theorem dX4_init_57 : decode cX4_init 57 = .ok (.aload_n 0, 1) := by decide +kernel
theorem dX4_init_58 : decode cX4_init 58 = .ok (.iconst 0, 1) := by decide +kernel
theorem dX4_init_59 : decode cX4_init 59 = .ok (.putfield 32, 3) := by decide +kernel
theorem dX4_init_62 : decode cX4_init 62 = .ok (.aload_n 0, 1) := by decide +kernel
theorem dX4_init_63 : decode cX4_init 63 = .ok (.iconst 0, 1) := by decide +kernel
theorem dX4_init_64 : decode cX4_init 64 = .ok (.putfield 36, 3) := by decide +kernel
theorem dX4_init_67 : decode cX4_init 67 = .ok (.aload_n 0, 1) := by decide +kernel
theorem dX4_init_68 : decode cX4_init 68 = .ok (.iconst 0, 1) := by decide +kernel
theorem dX4_init_69 : decode cX4_init 69 = .ok (.putfield 39, 3) := by decide +kernel
theorem dX4_init_72 : decode cX4_init 72 = .ok (.aload_n 0, 1) := by decide +kernel
theorem dX4_init_73 : decode cX4_init 73 = .ok (.iconst 0, 1) := by decide +kernel
theorem dX4_init_74 : decode cX4_init 74 = .ok (.putfield 42, 3) := by decide +kernel
theorem dX4_init_77 : decode cX4_init 77 = .ok (.aload_n 0, 1) := by decide +kernel
theorem dX4_init_78 : decode cX4_init 78 = .ok (.iconst 0, 1) := by decide +kernel
theorem dX4_init_79 : decode cX4_init 79 = .ok (.putfield 45, 3) := by decide +kernel
theorem dX4_init_82 : decode cX4_init 82 = .ok (.aload_n 0, 1) := by decide +kernel
theorem dX4_init_83 : decode cX4_init 83 = .ok (.lconst 0, 1) := by decide +kernel
theorem dX4_init_84 : decode cX4_init 84 = .ok (.putfield 48, 3) := by decide +kernel
theorem dX4_init_87 : decode cX4_init 87 = .ok (.aload_n 0, 1) := by decide +kernel
theorem dX4_init_88 : decode cX4_init 88 = .ok (.iconst (-1), 1) := by decide +kernel
theorem dX4_init_89 : decode cX4_init 89 = .ok (.putfield 52, 3) := by decide +kernel
theorem dX4_init_92 : decode cX4_init 92 = .ok (.aload_n 0, 1) := by decide +kernel
theorem dX4_init_93 : decode cX4_init 93 = .ok (.iconst (-1), 1) := by decide +kernel
theorem dX4_init_94 : decode cX4_init 94 = .ok (.putfield 55, 3) := by decide +kernel
theorem dX4_init_97 : decode cX4_init 97 = .ok (.lconst 0, 1) := by decide +kernel
theorem dX4_init_98 : decode cX4_init 98 = .ok (.lstore_n 1, 1) := by decide +kernel
theorem dX4_init_99 : decode cX4_init 99 = .ok (.iconst 0, 1) := by decide +kernel
theorem dX4_init_100 : decode cX4_init 100 = .ok (.istore_n 3, 1) := by decide +kernel
theorem dX4_init_101 : decode cX4_init 101 = .ok (.iconst 0, 1) := by decide +kernel
theorem dX4_init_102 : decode cX4_init 102 = .ok (.istore 4, 2) := by decide +kernel
theorem dX4_init_104 : decode cX4_init 104 = .ok (.iload 4, 2) := by decide +kernel
theorem dX4_init_106 : decode cX4_init 106 = .ok (.ldc 58, 2) := by decide +kernel
theorem dX4_init_108 : decode cX4_init 108 = .ok (.invokevirtual 60, 3) := by decide +kernel
theorem dX4_init_111 : decode cX4_init 111 = .ok (.if_icmp .ge 53, 3) := by decide +kernel
theorem dX4_init_114 : decode cX4_init 114 = .ok (.iload_n 3, 1) := by decide +kernel
theorem dX4_init_115 : decode cX4_init 115 = .ok (.bipush 27, 2) := by decide +kernel
theorem dX4_init_117 : decode cX4_init 117 = .ok (.if_icmp .ge 47, 3) := by decide +kernel
theorem dX4_init_120 : decode cX4_init 120 = .ok (.ldc 58, 2) := by decide +kernel
theorem dX4_init_122 : decode cX4_init 122 = .ok (.iload 4, 2) := by decide +kernel
theorem dX4_init_124 : decode cX4_init 124 = .ok (.invokevirtual 65, 3) := by decide +kernel
theorem dX4_init_127 : decode cX4_init 127 = .ok (.istore 5, 2) := by decide +kernel
theorem dX4_init_129 : decode cX4_init 129 = .ok (.iload 5, 2) := by decide +kernel
theorem dX4_init_131 : decode cX4_init 131 = .ok (.bipush 32, 2) := by decide +kernel
theorem dX4_init_133 : decode cX4_init 133 = .ok (.if_icmp .ne 18, 3) := by decide +kernel
theorem dX4_init_136 : decode cX4_init 136 = .ok (.aload_n 0, 1) := by decide +kernel
theorem dX4_init_137 : decode cX4_init 137 = .ok (.getfield 15, 3) := by decide +kernel
theorem dX4_init_140 : decode cX4_init 140 = .ok (.iload_n 3, 1) := by decide +kernel
theorem dX4_init_141 : decode cX4_init 141 = .ok (.lload_n 1, 1) := by decide +kernel
theorem dX4_init_142 : decode cX4_init 142 = .ok (.lastore, 1) := by decide +kernel
theorem dX4_init_143 : decode cX4_init 143 = .ok (.iinc 3 1, 3) := by decide +kernel
theorem dX4_init_146 : decode cX4_init 146 = .ok (.lconst 0, 1) := by decide +kernel
theorem dX4_init_147 : decode cX4_init 147 = .ok (.lstore_n 1, 1) := by decide +kernel
theorem dX4_init_148 : decode cX4_init 148 = .ok (.goto 10, 3) := by decide +kernel
theorem dX4_init_151 : decode cX4_init 151 = .ok (.lload_n 1, 1) := by decide +kernel
theorem dX4_init_152 : decode cX4_init 152 = .ok (.iload 5, 2) := by decide +kernel
theorem dX4_init_154 : decode cX4_init 154 = .ok (.invokestatic 69, 3) := by decide +kernel
theorem dX4_init_157 : decode cX4_init 157 = .ok (.lstore_n 1, 1) := by decide +kernel
theorem dX4_init_158 : decode cX4_init 158 = .ok (.iinc 4 1, 3) := by decide +kernel
theorem dX4_init_161 : decode cX4_init 161 = .ok (.goto (-57), 3) := by decide +kernel
theorem dX4_init_164 : decode cX4_init 164 = .ok (.return_, 1) := by decide +kernel
theorem dX4_putBytes_0 : decode cX4_putBytes 0 = .ok (.bipush 24, 2) := by decide +kernel
theorem dX4_putBytes_2 : decode cX4_putBytes 2 = .ok (.istore_n 2, 1) := by decide +kernel
theorem dX4_putBytes_3 : decode cX4_putBytes 3 = .ok (.iload_n 2, 1) := by decide +kernel
theorem dX4_putBytes_4 : decode cX4_putBytes 4 = .ok (.ifCond .lt 42, 3) := by decide +kernel
theorem dX4_putBytes_7 : decode cX4_putBytes 7 = .ok (.aload_n 0, 1) := by decide +kernel
theorem dX4_putBytes_8 : decode cX4_putBytes 8 = .ok (.getfield 32, 3) := by decide +kernel
theorem dX4_putBytes_11 : decode cX4_putBytes 11 = .ok (.sipush 900, 3) := by decide +kernel
theorem dX4_putBytes_14 : decode cX4_putBytes 14 = .ok (.if_icmp .ge 32, 3) := by decide +kernel
theorem dX4_putBytes_17 : decode cX4_putBytes 17 = .ok (.aload_n 0, 1) := by decide +kernel
theorem dX4_putBytes_18 : decode cX4_putBytes 18 = .ok (.getfield 9, 3) := by decide +kernel
theorem dX4_putBytes_21 : decode cX4_putBytes 21 = .ok (.aload_n 0, 1) := by decide +kernel
theorem dX4_putBytes_22 : decode cX4_putBytes 22 = .ok (.getfield 32, 3) := by decide +kernel
theorem dX4_putBytes_25 : decode cX4_putBytes 25 = .ok (.iload_n 1, 1) := by decide +kernel
theorem dX4_putBytes_26 : decode cX4_putBytes 26 = .ok (.iload_n 2, 1) := by decide +kernel
theorem dX4_putBytes_27 : decode cX4_putBytes 27 = .ok (.ishr, 1) := by decide +kernel
theorem dX4_putBytes_28 : decode cX4_putBytes 28 = .ok (.i2b, 1) := by decide +kernel
theorem dX4_putBytes_29 : decode cX4_putBytes 29 = .ok (.bastore, 1) := by decide +kernel
theorem dX4_putBytes_30 : decode cX4_putBytes 30 = .ok (.aload_n 0, 1) := by decide +kernel
theorem dX4_putBytes_31 : decode cX4_putBytes 31 = .ok (.dup, 1) := by decide +kernel
theorem dX4_putBytes_32 : decode cX4_putBytes 32 = .ok (.getfield 32, 3) := by decide +kernel
theorem dX4_putBytes_35 : decode cX4_putBytes 35 = .ok (.iconst 1, 1) := by decide +kernel
theorem dX4_putBytes_36 : decode cX4_putBytes 36 = .ok (.iadd, 1) := by decide +kernel
theorem dX4_putBytes_37 : decode cX4_putBytes 37 = .ok (.putfield 32, 3) := by decide +kernel
theorem dX4_putBytes_40 : decode cX4_putBytes 40 = .ok (.iinc 2 (-8), 3) := by decide +kernel
theorem dX4_putBytes_43 : decode cX4_putBytes 43 = .ok (.goto (-40), 3) := by decide +kernel
theorem dX4_putBytes_46 : decode cX4_putBytes 46 = .ok (.return_, 1) := by decide +kernel
theorem dX4_open_0 : decode cX4_open 0 = .ok (.aload_n 0, 1) := by decide +kernel
theorem dX4_open_1 : decode cX4_open 1 = .ok (.iload_n 1, 1) := by decide +kernel
theorem dX4_open_2 : decode cX4_open 2 = .ok (.putfield 36, 3) := by decide +kernel
theorem dX4_open_5 : decode cX4_open 5 = .ok (.aload_n 0, 1) := by decide +kernel
theorem dX4_open_6 : decode cX4_open 6 = .ok (.iconst 0, 1) := by decide +kernel
theorem dX4_open_7 : decode cX4_open 7 = .ok (.putfield 32, 3) := by decide +kernel
theorem dX4_open_10 : decode cX4_open 10 = .ok (.aload_n 0, 1) := by decide +kernel
theorem dX4_open_11 : decode cX4_open 11 = .ok (.iconst 0, 1) := by decide +kernel
theorem dX4_open_12 : decode cX4_open 12 = .ok (.putfield 39, 3) := by decide +kernel
theorem dX4_open_15 : decode cX4_open 15 = .ok (.aload_n 0, 1) := by decide +kernel
theorem dX4_open_16 : decode cX4_open 16 = .ok (.iconst 0, 1) := by decide +kernel
theorem dX4_open_17 : decode cX4_open 17 = .ok (.putfield 52, 3) := by decide +kernel
theorem dX4_open_20 : decode cX4_open 20 = .ok (.aload_n 0, 1) := by decide +kernel
theorem dX4_open_21 : decode cX4_open 21 = .ok (.iconst (-1), 1) := by decide +kernel
theorem dX4_open_22 : decode cX4_open 22 = .ok (.putfield 55, 3) := by decide +kernel
theorem dX4_open_25 : decode cX4_open 25 = .ok (.iconst 1, 1) := by decide +kernel
theorem dX4_open_26 : decode cX4_open 26 = .ok (.istore_n 2, 1) := by decide +kernel
theorem dX4_open_27 : decode cX4_open 27 = .ok (.iconst 0, 1) := by decide +kernel
theorem dX4_open_28 : decode cX4_open 28 = .ok (.istore_n 3, 1) := by decide +kernel
theorem dX4_open_29 : decode cX4_open 29 = .ok (.iload_n 3, 1) := by decide +kernel
theorem dX4_open_30 : decode cX4_open 30 = .ok (.sipush 901, 3) := by decide +kernel
theorem dX4_open_33 : decode cX4_open 33 = .ok (.if_icmp .ge 49, 3) := by decide +kernel
theorem dX4_open_36 : decode cX4_open 36 = .ok (.iload_n 2, 1) := by decide +kernel
theorem dX4_open_37 : decode cX4_open 37 = .ok (.ifCond .eq 45, 3) := by decide +kernel
theorem dX4_open_40 : decode cX4_open 40 = .ok (.aload_n 0, 1) := by decide +kernel
theorem dX4_open_41 : decode cX4_open 41 = .ok (.getfield 19, 3) := by decide +kernel
theorem dX4_open_44 : decode cX4_open 44 = .ok (.iload_n 3, 1) := by decide +kernel
theorem dX4_open_45 : decode cX4_open 45 = .ok (.aload_n 0, 1) := by decide +kernel
theorem dX4_open_46 : decode cX4_open 46 = .ok (.iload_n 3, 1) := by decide +kernel
theorem dX4_open_47 : decode cX4_open 47 = .ok (.invokevirtual 73, 3) := by decide +kernel
theorem dX4_open_50 : decode cX4_open 50 = .ok (.iastore, 1) := by decide +kernel
theorem dX4_open_51 : decode cX4_open 51 = .ok (.aload_n 0, 1) := by decide +kernel
theorem dX4_open_52 : decode cX4_open 52 = .ok (.getfield 19, 3) := by decide +kernel
theorem dX4_open_55 : decode cX4_open 55 = .ok (.iload_n 3, 1) := by decide +kernel
theorem dX4_open_56 : decode cX4_open 56 = .ok (.iaload, 1) := by decide +kernel
theorem dX4_open_57 : decode cX4_open 57 = .ok (.ifCond .eq 17, 3) := by decide +kernel
theorem dX4_open_60 : decode cX4_open 60 = .ok (.aload_n 0, 1) := by decide +kernel
theorem dX4_open_61 : decode cX4_open 61 = .ok (.getfield 19, 3) := by decide +kernel
theorem dX4_open_64 : decode cX4_open 64 = .ok (.iload_n 3, 1) := by decide +kernel
theorem dX4_open_65 : decode cX4_open 65 = .ok (.iaload, 1) := by decide +kernel
theorem dX4_open_66 : decode cX4_open 66 = .ok (.iconst 1, 1) := by decide +kernel
theorem dX4_open_67 : decode cX4_open 67 = .ok (.if_icmp .eq 7, 3) := by decide +kernel
theorem dX4_open_70 : decode cX4_open 70 = .ok (.iconst 1, 1) := by decide +kernel
theorem dX4_open_71 : decode cX4_open 71 = .ok (.goto 4, 3) := by decide +kernel
theorem dX4_open_74 : decode cX4_open 74 = .ok (.iconst 0, 1) := by decide +kernel
theorem dX4_open_75 : decode cX4_open 75 = .ok (.istore_n 2, 1) := by decide +kernel
theorem dX4_open_76 : decode cX4_open 76 = .ok (.iinc 3 1, 3) := by decide +kernel
theorem dX4_open_79 : decode cX4_open 79 = .ok (.goto (-50), 3) := by decide +kernel
theorem dX4_open_82 : decode cX4_open 82 = .ok (.aload_n 0, 1) := by decide +kernel
theorem dX4_open_83 : decode cX4_open 83 = .ok (.iconst (-1), 1) := by decide +kernel
theorem dX4_open_84 : decode cX4_open 84 = .ok (.putfield 42, 3) := by decide +kernel
theorem dX4_open_87 : decode cX4_open 87 = .ok (.aload_n 0, 1) := by decide +kernel
theorem dX4_open_88 : decode cX4_open 88 = .ok (.invokevirtual 77, 3) := by decide +kernel
theorem dX4_open_91 : decode cX4_open 91 = .ok (.return_, 1) := by decide +kernel
theorem dX4_scan_0 : decode cX4_scan 0 = .ok (.aload_n 0, 1) := by decide +kernel
theorem dX4_scan_1 : decode cX4_scan 1 = .ok (.getfield 39, 3) := by decide +kernel
theorem dX4_scan_4 : decode cX4_scan 4 = .ok (.aload_n 0, 1) := by decide +kernel
theorem dX4_scan_5 : decode cX4_scan 5 = .ok (.getfield 36, 3) := by decide +kernel
theorem dX4_scan_8 : decode cX4_scan 8 = .ok (.if_icmp .ge 31, 3) := by decide +kernel
theorem dX4_scan_11 : decode cX4_scan 11 = .ok (.aload_n 0, 1) := by decide +kernel
theorem dX4_scan_12 : decode cX4_scan 12 = .ok (.getfield 9, 3) := by decide +kernel
theorem dX4_scan_15 : decode cX4_scan 15 = .ok (.aload_n 0, 1) := by decide +kernel
theorem dX4_scan_16 : decode cX4_scan 16 = .ok (.getfield 39, 3) := by decide +kernel
theorem dX4_scan_19 : decode cX4_scan 19 = .ok (.baload, 1) := by decide +kernel
theorem dX4_scan_20 : decode cX4_scan 20 = .ok (.invokestatic 80, 3) := by decide +kernel
theorem dX4_scan_23 : decode cX4_scan 23 = .ok (.ifCond .eq 16, 3) := by decide +kernel
theorem dX4_scan_26 : decode cX4_scan 26 = .ok (.aload_n 0, 1) := by decide +kernel
theorem dX4_scan_27 : decode cX4_scan 27 = .ok (.dup, 1) := by decide +kernel
theorem dX4_scan_28 : decode cX4_scan 28 = .ok (.getfield 39, 3) := by decide +kernel
theorem dX4_scan_31 : decode cX4_scan 31 = .ok (.iconst 1, 1) := by decide +kernel
theorem dX4_scan_32 : decode cX4_scan 32 = .ok (.iadd, 1) := by decide +kernel
theorem dX4_scan_33 : decode cX4_scan 33 = .ok (.putfield 39, 3) := by decide +kernel
theorem dX4_scan_36 : decode cX4_scan 36 = .ok (.goto (-36), 3) := by decide +kernel
theorem dX4_scan_39 : decode cX4_scan 39 = .ok (.aload_n 0, 1) := by decide +kernel
theorem dX4_scan_40 : decode cX4_scan 40 = .ok (.getfield 23, 3) := by decide +kernel
theorem dX4_scan_43 : decode cX4_scan 43 = .ok (.iload_n 1, 1) := by decide +kernel
theorem dX4_scan_44 : decode cX4_scan 44 = .ok (.aload_n 0, 1) := by decide +kernel
theorem dX4_scan_45 : decode cX4_scan 45 = .ok (.getfield 39, 3) := by decide +kernel
theorem dX4_scan_48 : decode cX4_scan 48 = .ok (.iastore, 1) := by decide +kernel
theorem dX4_scan_49 : decode cX4_scan 49 = .ok (.aload_n 0, 1) := by decide +kernel
theorem dX4_scan_50 : decode cX4_scan 50 = .ok (.getfield 39, 3) := by decide +kernel
theorem dX4_scan_53 : decode cX4_scan 53 = .ok (.aload_n 0, 1) := by decide +kernel
theorem dX4_scan_54 : decode cX4_scan 54 = .ok (.getfield 36, 3) := by decide +kernel
theorem dX4_scan_57 : decode cX4_scan 57 = .ok (.if_icmp .lt 5, 3) := by decide +kernel
theorem dX4_scan_60 : decode cX4_scan 60 = .ok (.iconst 0, 1) := by decide +kernel
theorem dX4_scan_61 : decode cX4_scan 61 = .ok (.ireturn, 1) := by decide +kernel
theorem dX4_scan_62 : decode cX4_scan 62 = .ok (.aload_n 0, 1) := by decide +kernel
theorem dX4_scan_63 : decode cX4_scan 63 = .ok (.getfield 9, 3) := by decide +kernel
theorem dX4_scan_66 : decode cX4_scan 66 = .ok (.aload_n 0, 1) := by decide +kernel
theorem dX4_scan_67 : decode cX4_scan 67 = .ok (.getfield 39, 3) := by decide +kernel
theorem dX4_scan_70 : decode cX4_scan 70 = .ok (.baload, 1) := by decide +kernel
theorem dX4_scan_71 : decode cX4_scan 71 = .ok (.invokestatic 84, 3) := by decide +kernel
theorem dX4_scan_74 : decode cX4_scan 74 = .ok (.ifCond .eq 9, 3) := by decide +kernel
theorem dX4_scan_77 : decode cX4_scan 77 = .ok (.aload_n 0, 1) := by decide +kernel
theorem dX4_scan_78 : decode cX4_scan 78 = .ok (.iload_n 1, 1) := by decide +kernel
theorem dX4_scan_79 : decode cX4_scan 79 = .ok (.invokevirtual 87, 3) := by decide +kernel
theorem dX4_scan_82 : decode cX4_scan 82 = .ok (.ireturn, 1) := by decide +kernel
theorem dX4_scan_83 : decode cX4_scan 83 = .ok (.aload_n 0, 1) := by decide +kernel
theorem dX4_scan_84 : decode cX4_scan 84 = .ok (.getfield 9, 3) := by decide +kernel
theorem dX4_scan_87 : decode cX4_scan 87 = .ok (.aload_n 0, 1) := by decide +kernel
theorem dX4_scan_88 : decode cX4_scan 88 = .ok (.getfield 39, 3) := by decide +kernel
theorem dX4_scan_91 : decode cX4_scan 91 = .ok (.baload, 1) := by decide +kernel
theorem dX4_scan_92 : decode cX4_scan 92 = .ok (.invokestatic 90, 3) := by decide +kernel
theorem dX4_scan_95 : decode cX4_scan 95 = .ok (.ifCond .eq 9, 3) := by decide +kernel
theorem dX4_scan_98 : decode cX4_scan 98 = .ok (.aload_n 0, 1) := by decide +kernel
theorem dX4_scan_99 : decode cX4_scan 99 = .ok (.iload_n 1, 1) := by decide +kernel
theorem dX4_scan_100 : decode cX4_scan 100 = .ok (.invokevirtual 93, 3) := by decide +kernel
theorem dX4_scan_103 : decode cX4_scan 103 = .ok (.ireturn, 1) := by decide +kernel
theorem dX4_scan_104 : decode cX4_scan 104 = .ok (.aload_n 0, 1) := by decide +kernel
theorem dX4_scan_105 : decode cX4_scan 105 = .ok (.dup, 1) := by decide +kernel
theorem dX4_scan_106 : decode cX4_scan 106 = .ok (.getfield 39, 3) := by decide +kernel
theorem dX4_scan_109 : decode cX4_scan 109 = .ok (.iconst 1, 1) := by decide +kernel
theorem dX4_scan_110 : decode cX4_scan 110 = .ok (.iadd, 1) := by decide +kernel
theorem dX4_scan_111 : decode cX4_scan 111 = .ok (.putfield 39, 3) := by decide +kernel
theorem dX4_scan_114 : decode cX4_scan 114 = .ok (.aload_n 0, 1) := by decide +kernel
theorem dX4_scan_115 : decode cX4_scan 115 = .ok (.getfield 9, 3) := by decide +kernel
theorem dX4_scan_118 : decode cX4_scan 118 = .ok (.aload_n 0, 1) := by decide +kernel
theorem dX4_scan_119 : decode cX4_scan 119 = .ok (.getfield 39, 3) := by decide +kernel
theorem dX4_scan_122 : decode cX4_scan 122 = .ok (.iconst 1, 1) := by decide +kernel
theorem dX4_scan_123 : decode cX4_scan 123 = .ok (.isub, 1) := by decide +kernel
theorem dX4_scan_124 : decode cX4_scan 124 = .ok (.baload, 1) := by decide +kernel
theorem dX4_scan_125 : decode cX4_scan 125 = .ok (.invokestatic 96, 3) := by decide +kernel
theorem dX4_scan_128 : decode cX4_scan 128 = .ok (.ireturn, 1) := by decide +kernel
theorem dX4_scanWord_0 : decode cX4_scanWord 0 = .ok (.lconst 0, 1) := by decide +kernel
theorem dX4_scanWord_1 : decode cX4_scanWord 1 = .ok (.lstore_n 2, 1) := by decide +kernel
theorem dX4_scanWord_2 : decode cX4_scanWord 2 = .ok (.iconst 0, 1) := by decide +kernel
theorem dX4_scanWord_3 : decode cX4_scanWord 3 = .ok (.istore 4, 2) := by decide +kernel
theorem dX4_scanWord_5 : decode cX4_scanWord 5 = .ok (.aload_n 0, 1) := by decide +kernel
theorem dX4_scanWord_6 : decode cX4_scanWord 6 = .ok (.getfield 39, 3) := by decide +kernel
theorem dX4_scanWord_9 : decode cX4_scanWord 9 = .ok (.aload_n 0, 1) := by decide +kernel
theorem dX4_scanWord_10 : decode cX4_scanWord 10 = .ok (.getfield 36, 3) := by decide +kernel
theorem dX4_scanWord_13 : decode cX4_scanWord 13 = .ok (.if_icmp .ge 55, 3) := by decide +kernel
theorem dX4_scanWord_16 : decode cX4_scanWord 16 = .ok (.aload_n 0, 1) := by decide +kernel
theorem dX4_scanWord_17 : decode cX4_scanWord 17 = .ok (.getfield 9, 3) := by decide +kernel
theorem dX4_scanWord_20 : decode cX4_scanWord 20 = .ok (.aload_n 0, 1) := by decide +kernel
theorem dX4_scanWord_21 : decode cX4_scanWord 21 = .ok (.getfield 39, 3) := by decide +kernel
theorem dX4_scanWord_24 : decode cX4_scanWord 24 = .ok (.baload, 1) := by decide +kernel
theorem dX4_scanWord_25 : decode cX4_scanWord 25 = .ok (.invokestatic 84, 3) := by decide +kernel
theorem dX4_scanWord_28 : decode cX4_scanWord 28 = .ok (.ifCond .eq 40, 3) := by decide +kernel
theorem dX4_scanWord_31 : decode cX4_scanWord 31 = .ok (.iload 4, 2) := by decide +kernel
theorem dX4_scanWord_33 : decode cX4_scanWord 33 = .ok (.bipush 8, 2) := by decide +kernel
theorem dX4_scanWord_35 : decode cX4_scanWord 35 = .ok (.if_icmp .ge 17, 3) := by decide +kernel
theorem dX4_scanWord_38 : decode cX4_scanWord 38 = .ok (.lload_n 2, 1) := by decide +kernel
theorem dX4_scanWord_39 : decode cX4_scanWord 39 = .ok (.aload_n 0, 1) := by decide +kernel
theorem dX4_scanWord_40 : decode cX4_scanWord 40 = .ok (.getfield 9, 3) := by decide +kernel
theorem dX4_scanWord_43 : decode cX4_scanWord 43 = .ok (.aload_n 0, 1) := by decide +kernel
theorem dX4_scanWord_44 : decode cX4_scanWord 44 = .ok (.getfield 39, 3) := by decide +kernel
theorem dX4_scanWord_47 : decode cX4_scanWord 47 = .ok (.baload, 1) := by decide +kernel
theorem dX4_scanWord_48 : decode cX4_scanWord 48 = .ok (.invokestatic 69, 3) := by decide +kernel
theorem dX4_scanWord_51 : decode cX4_scanWord 51 = .ok (.lstore_n 2, 1) := by decide +kernel
theorem dX4_scanWord_52 : decode cX4_scanWord 52 = .ok (.iinc 4 1, 3) := by decide +kernel
theorem dX4_scanWord_55 : decode cX4_scanWord 55 = .ok (.aload_n 0, 1) := by decide +kernel
theorem dX4_scanWord_56 : decode cX4_scanWord 56 = .ok (.dup, 1) := by decide +kernel
theorem dX4_scanWord_57 : decode cX4_scanWord 57 = .ok (.getfield 39, 3) := by decide +kernel
theorem dX4_scanWord_60 : decode cX4_scanWord 60 = .ok (.iconst 1, 1) := by decide +kernel
theorem dX4_scanWord_61 : decode cX4_scanWord 61 = .ok (.iadd, 1) := by decide +kernel
theorem dX4_scanWord_62 : decode cX4_scanWord 62 = .ok (.putfield 39, 3) := by decide +kernel
theorem dX4_scanWord_65 : decode cX4_scanWord 65 = .ok (.goto (-60), 3) := by decide +kernel
theorem dX4_scanWord_68 : decode cX4_scanWord 68 = .ok (.aload_n 0, 1) := by decide +kernel
theorem dX4_scanWord_69 : decode cX4_scanWord 69 = .ok (.getfield 29, 3) := by decide +kernel
theorem dX4_scanWord_72 : decode cX4_scanWord 72 = .ok (.iload_n 1, 1) := by decide +kernel
theorem dX4_scanWord_73 : decode cX4_scanWord 73 = .ok (.lload_n 2, 1) := by decide +kernel
theorem dX4_scanWord_74 : decode cX4_scanWord 74 = .ok (.lastore, 1) := by decide +kernel
theorem dX4_scanWord_75 : decode cX4_scanWord 75 = .ok (.iload 4, 2) := by decide +kernel
theorem dX4_scanWord_77 : decode cX4_scanWord 77 = .ok (.bipush 8, 2) := by decide +kernel
theorem dX4_scanWord_79 : decode cX4_scanWord 79 = .ok (.if_icmp .le 6, 3) := by decide +kernel
theorem dX4_scanWord_82 : decode cX4_scanWord 82 = .ok (.bipush 7, 2) := by decide +kernel
theorem dX4_scanWord_84 : decode cX4_scanWord 84 = .ok (.ireturn, 1) := by decide +kernel
theorem dX4_scanWord_85 : decode cX4_scanWord 85 = .ok (.iconst 0, 1) := by decide +kernel
theorem dX4_scanWord_86 : decode cX4_scanWord 86 = .ok (.istore 5, 2) := by decide +kernel
theorem dX4_scanWord_88 : decode cX4_scanWord 88 = .ok (.iload 5, 2) := by decide +kernel
theorem dX4_scanWord_90 : decode cX4_scanWord 90 = .ok (.bipush 27, 2) := by decide +kernel
theorem dX4_scanWord_92 : decode cX4_scanWord 92 = .ok (.if_icmp .ge 27, 3) := by decide +kernel
theorem dX4_scanWord_95 : decode cX4_scanWord 95 = .ok (.aload_n 0, 1) := by decide +kernel
theorem dX4_scanWord_96 : decode cX4_scanWord 96 = .ok (.getfield 15, 3) := by decide +kernel
theorem dX4_scanWord_99 : decode cX4_scanWord 99 = .ok (.iload 5, 2) := by decide +kernel
theorem dX4_scanWord_101 : decode cX4_scanWord 101 = .ok (.laload, 1) := by decide +kernel
theorem dX4_scanWord_102 : decode cX4_scanWord 102 = .ok (.lload_n 2, 1) := by decide +kernel
theorem dX4_scanWord_103 : decode cX4_scanWord 103 = .ok (.lcmp, 1) := by decide +kernel
theorem dX4_scanWord_104 : decode cX4_scanWord 104 = .ok (.ifCond .ne 9, 3) := by decide +kernel
theorem dX4_scanWord_107 : decode cX4_scanWord 107 = .ok (.bipush 8, 2) := by decide +kernel
theorem dX4_scanWord_109 : decode cX4_scanWord 109 = .ok (.iload 5, 2) := by decide +kernel
theorem dX4_scanWord_111 : decode cX4_scanWord 111 = .ok (.iadd, 1) := by decide +kernel
theorem dX4_scanWord_112 : decode cX4_scanWord 112 = .ok (.ireturn, 1) := by decide +kernel
theorem dX4_scanWord_113 : decode cX4_scanWord 113 = .ok (.iinc 5 1, 3) := by decide +kernel
theorem dX4_scanWord_116 : decode cX4_scanWord 116 = .ok (.goto (-28), 3) := by decide +kernel
theorem dX4_scanWord_119 : decode cX4_scanWord 119 = .ok (.bipush 6, 2) := by decide +kernel
theorem dX4_scanWord_121 : decode cX4_scanWord 121 = .ok (.ireturn, 1) := by decide +kernel
theorem dX4_scanNumber_0 : decode cX4_scanNumber 0 = .ok (.iconst 0, 1) := by decide +kernel
theorem dX4_scanNumber_1 : decode cX4_scanNumber 1 = .ok (.istore_n 2, 1) := by decide +kernel
theorem dX4_scanNumber_2 : decode cX4_scanNumber 2 = .ok (.iconst 0, 1) := by decide +kernel
theorem dX4_scanNumber_3 : decode cX4_scanNumber 3 = .ok (.istore_n 3, 1) := by decide +kernel
theorem dX4_scanNumber_4 : decode cX4_scanNumber 4 = .ok (.aload_n 0, 1) := by decide +kernel
theorem dX4_scanNumber_5 : decode cX4_scanNumber 5 = .ok (.getfield 39, 3) := by decide +kernel
theorem dX4_scanNumber_8 : decode cX4_scanNumber 8 = .ok (.aload_n 0, 1) := by decide +kernel
theorem dX4_scanNumber_9 : decode cX4_scanNumber 9 = .ok (.getfield 36, 3) := by decide +kernel
theorem dX4_scanNumber_12 : decode cX4_scanNumber 12 = .ok (.if_icmp .ge 57, 3) := by decide +kernel
theorem dX4_scanNumber_15 : decode cX4_scanNumber 15 = .ok (.aload_n 0, 1) := by decide +kernel
theorem dX4_scanNumber_16 : decode cX4_scanNumber 16 = .ok (.getfield 9, 3) := by decide +kernel
theorem dX4_scanNumber_19 : decode cX4_scanNumber 19 = .ok (.aload_n 0, 1) := by decide +kernel
theorem dX4_scanNumber_20 : decode cX4_scanNumber 20 = .ok (.getfield 39, 3) := by decide +kernel
theorem dX4_scanNumber_23 : decode cX4_scanNumber 23 = .ok (.baload, 1) := by decide +kernel
theorem dX4_scanNumber_24 : decode cX4_scanNumber 24 = .ok (.invokestatic 90, 3) := by decide +kernel
theorem dX4_scanNumber_27 : decode cX4_scanNumber 27 = .ok (.ifCond .eq 42, 3) := by decide +kernel
theorem dX4_scanNumber_30 : decode cX4_scanNumber 30 = .ok (.iload_n 3, 1) := by decide +kernel
theorem dX4_scanNumber_31 : decode cX4_scanNumber 31 = .ok (.iconst 4, 1) := by decide +kernel
theorem dX4_scanNumber_32 : decode cX4_scanNumber 32 = .ok (.if_icmp .ge 21, 3) := by decide +kernel
theorem dX4_scanNumber_35 : decode cX4_scanNumber 35 = .ok (.iload_n 2, 1) := by decide +kernel
theorem dX4_scanNumber_36 : decode cX4_scanNumber 36 = .ok (.bipush 10, 2) := by decide +kernel
theorem dX4_scanNumber_38 : decode cX4_scanNumber 38 = .ok (.imul, 1) := by decide +kernel
theorem dX4_scanNumber_39 : decode cX4_scanNumber 39 = .ok (.aload_n 0, 1) := by decide +kernel
theorem dX4_scanNumber_40 : decode cX4_scanNumber 40 = .ok (.getfield 9, 3) := by decide +kernel
theorem dX4_scanNumber_43 : decode cX4_scanNumber 43 = .ok (.aload_n 0, 1) := by decide +kernel
theorem dX4_scanNumber_44 : decode cX4_scanNumber 44 = .ok (.getfield 39, 3) := by decide +kernel
theorem dX4_scanNumber_47 : decode cX4_scanNumber 47 = .ok (.baload, 1) := by decide +kernel
theorem dX4_scanNumber_48 : decode cX4_scanNumber 48 = .ok (.bipush 48, 2) := by decide +kernel
theorem dX4_scanNumber_50 : decode cX4_scanNumber 50 = .ok (.isub, 1) := by decide +kernel
theorem dX4_scanNumber_51 : decode cX4_scanNumber 51 = .ok (.iadd, 1) := by decide +kernel
theorem dX4_scanNumber_52 : decode cX4_scanNumber 52 = .ok (.istore_n 2, 1) := by decide +kernel
theorem dX4_scanNumber_53 : decode cX4_scanNumber 53 = .ok (.iinc 3 1, 3) := by decide +kernel
theorem dX4_scanNumber_56 : decode cX4_scanNumber 56 = .ok (.aload_n 0, 1) := by decide +kernel
theorem dX4_scanNumber_57 : decode cX4_scanNumber 57 = .ok (.dup, 1) := by decide +kernel
theorem dX4_scanNumber_58 : decode cX4_scanNumber 58 = .ok (.getfield 39, 3) := by decide +kernel
theorem dX4_scanNumber_61 : decode cX4_scanNumber 61 = .ok (.iconst 1, 1) := by decide +kernel
theorem dX4_scanNumber_62 : decode cX4_scanNumber 62 = .ok (.iadd, 1) := by decide +kernel
theorem dX4_scanNumber_63 : decode cX4_scanNumber 63 = .ok (.putfield 39, 3) := by decide +kernel
theorem dX4_scanNumber_66 : decode cX4_scanNumber 66 = .ok (.goto (-62), 3) := by decide +kernel
theorem dX4_scanNumber_69 : decode cX4_scanNumber 69 = .ok (.aload_n 0, 1) := by decide +kernel
theorem dX4_scanNumber_70 : decode cX4_scanNumber 70 = .ok (.getfield 26, 3) := by decide +kernel
theorem dX4_scanNumber_73 : decode cX4_scanNumber 73 = .ok (.iload_n 1, 1) := by decide +kernel
theorem dX4_scanNumber_74 : decode cX4_scanNumber 74 = .ok (.iload_n 2, 1) := by decide +kernel
theorem dX4_scanNumber_75 : decode cX4_scanNumber 75 = .ok (.iastore, 1) := by decide +kernel
theorem dX4_scanNumber_76 : decode cX4_scanNumber 76 = .ok (.iload_n 3, 1) := by decide +kernel
theorem dX4_scanNumber_77 : decode cX4_scanNumber 77 = .ok (.iconst 4, 1) := by decide +kernel
theorem dX4_scanNumber_78 : decode cX4_scanNumber 78 = .ok (.if_icmp .le 7, 3) := by decide +kernel
theorem dX4_scanNumber_81 : decode cX4_scanNumber 81 = .ok (.iconst 1, 1) := by decide +kernel
theorem dX4_scanNumber_82 : decode cX4_scanNumber 82 = .ok (.goto 4, 3) := by decide +kernel
theorem dX4_scanNumber_85 : decode cX4_scanNumber 85 = .ok (.iconst 2, 1) := by decide +kernel
theorem dX4_scanNumber_86 : decode cX4_scanNumber 86 = .ok (.ireturn, 1) := by decide +kernel
theorem dX4_advance_0 : decode cX4_advance 0 = .ok (.aload_n 0, 1) := by decide +kernel
theorem dX4_advance_1 : decode cX4_advance 1 = .ok (.getfield 42, 3) := by decide +kernel
theorem dX4_advance_4 : decode cX4_advance 4 = .ok (.sipush 900, 3) := by decide +kernel
theorem dX4_advance_7 : decode cX4_advance 7 = .ok (.if_icmp .ge 13, 3) := by decide +kernel
theorem dX4_advance_10 : decode cX4_advance 10 = .ok (.aload_n 0, 1) := by decide +kernel
theorem dX4_advance_11 : decode cX4_advance 11 = .ok (.dup, 1) := by decide +kernel
theorem dX4_advance_12 : decode cX4_advance 12 = .ok (.getfield 42, 3) := by decide +kernel
theorem dX4_advance_15 : decode cX4_advance 15 = .ok (.iconst 1, 1) := by decide +kernel
theorem dX4_advance_16 : decode cX4_advance 16 = .ok (.iadd, 1) := by decide +kernel
theorem dX4_advance_17 : decode cX4_advance 17 = .ok (.putfield 42, 3) := by decide +kernel
theorem dX4_advance_20 : decode cX4_advance 20 = .ok (.aload_n 0, 1) := by decide +kernel
theorem dX4_advance_21 : decode cX4_advance 21 = .ok (.aload_n 0, 1) := by decide +kernel
theorem dX4_advance_22 : decode cX4_advance 22 = .ok (.getfield 19, 3) := by decide +kernel
theorem dX4_advance_25 : decode cX4_advance 25 = .ok (.aload_n 0, 1) := by decide +kernel
theorem dX4_advance_26 : decode cX4_advance 26 = .ok (.getfield 42, 3) := by decide +kernel
theorem dX4_advance_29 : decode cX4_advance 29 = .ok (.iaload, 1) := by decide +kernel
theorem dX4_advance_30 : decode cX4_advance 30 = .ok (.putfield 45, 3) := by decide +kernel
theorem dX4_advance_33 : decode cX4_advance 33 = .ok (.aload_n 0, 1) := by decide +kernel
theorem dX4_advance_34 : decode cX4_advance 34 = .ok (.aload_n 0, 1) := by decide +kernel
theorem dX4_advance_35 : decode cX4_advance 35 = .ok (.getfield 29, 3) := by decide +kernel
theorem dX4_advance_38 : decode cX4_advance 38 = .ok (.aload_n 0, 1) := by decide +kernel
theorem dX4_advance_39 : decode cX4_advance 39 = .ok (.getfield 42, 3) := by decide +kernel
theorem dX4_advance_42 : decode cX4_advance 42 = .ok (.laload, 1) := by decide +kernel
theorem dX4_advance_43 : decode cX4_advance 43 = .ok (.putfield 48, 3) := by decide +kernel
theorem dX4_advance_46 : decode cX4_advance 46 = .ok (.return_, 1) := by decide +kernel
theorem dX4_take_0 : decode cX4_take 0 = .ok (.aload_n 0, 1) := by decide +kernel
theorem dX4_take_1 : decode cX4_take 1 = .ok (.getfield 45, 3) := by decide +kernel
theorem dX4_take_4 : decode cX4_take 4 = .ok (.iload_n 1, 1) := by decide +kernel
theorem dX4_take_5 : decode cX4_take 5 = .ok (.if_icmp .eq 9, 3) := by decide +kernel
theorem dX4_take_8 : decode cX4_take 8 = .ok (.aload_n 0, 1) := by decide +kernel
theorem dX4_take_9 : decode cX4_take 9 = .ok (.iconst 2, 1) := by decide +kernel
theorem dX4_take_10 : decode cX4_take 10 = .ok (.invokevirtual 99, 3) := by decide +kernel
theorem dX4_take_13 : decode cX4_take 13 = .ok (.ireturn, 1) := by decide +kernel
theorem dX4_take_14 : decode cX4_take 14 = .ok (.aload_n 0, 1) := by decide +kernel
theorem dX4_take_15 : decode cX4_take 15 = .ok (.invokevirtual 77, 3) := by decide +kernel
theorem dX4_take_18 : decode cX4_take 18 = .ok (.iconst 1, 1) := by decide +kernel
theorem dX4_take_19 : decode cX4_take 19 = .ok (.ireturn, 1) := by decide +kernel
theorem dX4_takeNumber_0 : decode cX4_takeNumber 0 = .ok (.aload_n 0, 1) := by decide +kernel
theorem dX4_takeNumber_1 : decode cX4_takeNumber 1 = .ok (.getfield 45, 3) := by decide +kernel
theorem dX4_takeNumber_4 : decode cX4_takeNumber 4 = .ok (.iconst 2, 1) := by decide +kernel
theorem dX4_takeNumber_5 : decode cX4_takeNumber 5 = .ok (.if_icmp .eq 11, 3) := by decide +kernel
theorem dX4_takeNumber_8 : decode cX4_takeNumber 8 = .ok (.aload_n 0, 1) := by decide +kernel
theorem dX4_takeNumber_9 : decode cX4_takeNumber 9 = .ok (.iconst 2, 1) := by decide +kernel
theorem dX4_takeNumber_10 : decode cX4_takeNumber 10 = .ok (.invokevirtual 99, 3) := by decide +kernel
theorem dX4_takeNumber_13 : decode cX4_takeNumber 13 = .ok (.pop, 1) := by decide +kernel
theorem dX4_takeNumber_14 : decode cX4_takeNumber 14 = .ok (.iconst (-1), 1) := by decide +kernel
theorem dX4_takeNumber_15 : decode cX4_takeNumber 15 = .ok (.ireturn, 1) := by decide +kernel
theorem dX4_takeNumber_16 : decode cX4_takeNumber 16 = .ok (.aload_n 0, 1) := by decide +kernel
theorem dX4_takeNumber_17 : decode cX4_takeNumber 17 = .ok (.getfield 26, 3) := by decide +kernel
theorem dX4_takeNumber_20 : decode cX4_takeNumber 20 = .ok (.aload_n 0, 1) := by decide +kernel
theorem dX4_takeNumber_21 : decode cX4_takeNumber 21 = .ok (.getfield 42, 3) := by decide +kernel
theorem dX4_takeNumber_24 : decode cX4_takeNumber 24 = .ok (.iaload, 1) := by decide +kernel
theorem dX4_takeNumber_25 : decode cX4_takeNumber 25 = .ok (.istore_n 3, 1) := by decide +kernel
theorem dX4_takeNumber_26 : decode cX4_takeNumber 26 = .ok (.iload_n 3, 1) := by decide +kernel
theorem dX4_takeNumber_27 : decode cX4_takeNumber 27 = .ok (.iload_n 1, 1) := by decide +kernel
theorem dX4_takeNumber_28 : decode cX4_takeNumber 28 = .ok (.if_icmp .lt 8, 3) := by decide +kernel
theorem dX4_takeNumber_31 : decode cX4_takeNumber 31 = .ok (.iload_n 3, 1) := by decide +kernel
theorem dX4_takeNumber_32 : decode cX4_takeNumber 32 = .ok (.iload_n 2, 1) := by decide +kernel
theorem dX4_takeNumber_33 : decode cX4_takeNumber 33 = .ok (.if_icmp .le 11, 3) := by decide +kernel
theorem dX4_takeNumber_36 : decode cX4_takeNumber 36 = .ok (.aload_n 0, 1) := by decide +kernel
theorem dX4_takeNumber_37 : decode cX4_takeNumber 37 = .ok (.iconst 4, 1) := by decide +kernel
theorem dX4_takeNumber_38 : decode cX4_takeNumber 38 = .ok (.invokevirtual 99, 3) := by decide +kernel
theorem dX4_takeNumber_41 : decode cX4_takeNumber 41 = .ok (.pop, 1) := by decide +kernel
theorem dX4_takeNumber_42 : decode cX4_takeNumber 42 = .ok (.iconst (-1), 1) := by decide +kernel
theorem dX4_takeNumber_43 : decode cX4_takeNumber 43 = .ok (.ireturn, 1) := by decide +kernel
theorem dX4_takeNumber_44 : decode cX4_takeNumber 44 = .ok (.aload_n 0, 1) := by decide +kernel
theorem dX4_takeNumber_45 : decode cX4_takeNumber 45 = .ok (.invokevirtual 77, 3) := by decide +kernel
theorem dX4_takeNumber_48 : decode cX4_takeNumber 48 = .ok (.iload_n 3, 1) := by decide +kernel
theorem dX4_takeNumber_49 : decode cX4_takeNumber 49 = .ok (.ireturn, 1) := by decide +kernel
theorem dX4_seekName_0 : decode cX4_seekName 0 = .ok (.aload_n 0, 1) := by decide +kernel
theorem dX4_seekName_1 : decode cX4_seekName 1 = .ok (.getfield 45, 3) := by decide +kernel
theorem dX4_seekName_4 : decode cX4_seekName 4 = .ok (.bipush 6, 2) := by decide +kernel
theorem dX4_seekName_6 : decode cX4_seekName 6 = .ok (.if_icmp .eq 11, 3) := by decide +kernel
theorem dX4_seekName_9 : decode cX4_seekName 9 = .ok (.aload_n 0, 1) := by decide +kernel
theorem dX4_seekName_10 : decode cX4_seekName 10 = .ok (.iconst 2, 1) := by decide +kernel
theorem dX4_seekName_11 : decode cX4_seekName 11 = .ok (.invokevirtual 99, 3) := by decide +kernel
theorem dX4_seekName_14 : decode cX4_seekName 14 = .ok (.pop, 1) := by decide +kernel
theorem dX4_seekName_15 : decode cX4_seekName 15 = .ok (.iconst (-1), 1) := by decide +kernel
theorem dX4_seekName_16 : decode cX4_seekName 16 = .ok (.ireturn, 1) := by decide +kernel
theorem dX4_seekName_17 : decode cX4_seekName 17 = .ok (.aload_n 1, 1) := by decide +kernel
theorem dX4_seekName_18 : decode cX4_seekName 18 = .ok (.aload_n 0, 1) := by decide +kernel
theorem dX4_seekName_19 : decode cX4_seekName 19 = .ok (.getfield 48, 3) := by decide +kernel
theorem dX4_seekName_22 : decode cX4_seekName 22 = .ok (.iload_n 2, 1) := by decide +kernel
theorem dX4_seekName_23 : decode cX4_seekName 23 = .ok (.invokevirtual 102, 3) := by decide +kernel
theorem dX4_seekName_26 : decode cX4_seekName 26 = .ok (.istore_n 3, 1) := by decide +kernel
theorem dX4_seekName_27 : decode cX4_seekName 27 = .ok (.iload_n 3, 1) := by decide +kernel
theorem dX4_seekName_28 : decode cX4_seekName 28 = .ok (.iconst (-1), 1) := by decide +kernel
theorem dX4_seekName_29 : decode cX4_seekName 29 = .ok (.if_icmp .ne 9, 3) := by decide +kernel
theorem dX4_seekName_32 : decode cX4_seekName 32 = .ok (.aload_n 0, 1) := by decide +kernel
theorem dX4_seekName_33 : decode cX4_seekName 33 = .ok (.iconst 3, 1) := by decide +kernel
theorem dX4_seekName_34 : decode cX4_seekName 34 = .ok (.invokevirtual 99, 3) := by decide +kernel
theorem dX4_seekName_37 : decode cX4_seekName 37 = .ok (.pop, 1) := by decide +kernel
theorem dX4_seekName_38 : decode cX4_seekName 38 = .ok (.iload_n 3, 1) := by decide +kernel
theorem dX4_seekName_39 : decode cX4_seekName 39 = .ok (.ireturn, 1) := by decide +kernel
theorem dX4_takeName_0 : decode cX4_takeName 0 = .ok (.aload_n 0, 1) := by decide +kernel
theorem dX4_takeName_1 : decode cX4_takeName 1 = .ok (.aload_n 1, 1) := by decide +kernel
theorem dX4_takeName_2 : decode cX4_takeName 2 = .ok (.iload_n 2, 1) := by decide +kernel
theorem dX4_takeName_3 : decode cX4_takeName 3 = .ok (.invokevirtual 108, 3) := by decide +kernel
theorem dX4_takeName_6 : decode cX4_takeName 6 = .ok (.istore_n 3, 1) := by decide +kernel
theorem dX4_takeName_7 : decode cX4_takeName 7 = .ok (.iload_n 3, 1) := by decide +kernel
theorem dX4_takeName_8 : decode cX4_takeName 8 = .ok (.iconst (-1), 1) := by decide +kernel
theorem dX4_takeName_9 : decode cX4_takeName 9 = .ok (.if_icmp .eq 7, 3) := by decide +kernel
theorem dX4_takeName_12 : decode cX4_takeName 12 = .ok (.aload_n 0, 1) := by decide +kernel
theorem dX4_takeName_13 : decode cX4_takeName 13 = .ok (.invokevirtual 77, 3) := by decide +kernel
theorem dX4_takeName_16 : decode cX4_takeName 16 = .ok (.iload_n 3, 1) := by decide +kernel
theorem dX4_takeName_17 : decode cX4_takeName 17 = .ok (.ireturn, 1) := by decide +kernel
theorem dX4_refuseHere_0 : decode cX4_refuseHere 0 = .ok (.aload_n 0, 1) := by decide +kernel
theorem dX4_refuseHere_1 : decode cX4_refuseHere 1 = .ok (.aload_n 0, 1) := by decide +kernel
theorem dX4_refuseHere_2 : decode cX4_refuseHere 2 = .ok (.getfield 45, 3) := by decide +kernel
theorem dX4_refuseHere_5 : decode cX4_refuseHere 5 = .ok (.iconst 1, 1) := by decide +kernel
theorem dX4_refuseHere_6 : decode cX4_refuseHere 6 = .ok (.if_icmp .ne 7, 3) := by decide +kernel
theorem dX4_refuseHere_9 : decode cX4_refuseHere 9 = .ok (.iconst 1, 1) := by decide +kernel
theorem dX4_refuseHere_10 : decode cX4_refuseHere 10 = .ok (.goto 4, 3) := by decide +kernel
theorem dX4_refuseHere_13 : decode cX4_refuseHere 13 = .ok (.iload_n 1, 1) := by decide +kernel
theorem dX4_refuseHere_14 : decode cX4_refuseHere 14 = .ok (.putfield 52, 3) := by decide +kernel
theorem dX4_refuseHere_17 : decode cX4_refuseHere 17 = .ok (.aload_n 0, 1) := by decide +kernel
theorem dX4_refuseHere_18 : decode cX4_refuseHere 18 = .ok (.aload_n 0, 1) := by decide +kernel
theorem dX4_refuseHere_19 : decode cX4_refuseHere 19 = .ok (.getfield 23, 3) := by decide +kernel
theorem dX4_refuseHere_22 : decode cX4_refuseHere 22 = .ok (.aload_n 0, 1) := by decide +kernel
theorem dX4_refuseHere_23 : decode cX4_refuseHere 23 = .ok (.getfield 42, 3) := by decide +kernel
theorem dX4_refuseHere_26 : decode cX4_refuseHere 26 = .ok (.iaload, 1) := by decide +kernel
theorem dX4_refuseHere_27 : decode cX4_refuseHere 27 = .ok (.putfield 55, 3) := by decide +kernel
theorem dX4_refuseHere_30 : decode cX4_refuseHere 30 = .ok (.iconst 0, 1) := by decide +kernel
theorem dX4_refuseHere_31 : decode cX4_refuseHere 31 = .ok (.ireturn, 1) := by decide +kernel
theorem dX4_isBlank_0 : decode cX4_isBlank 0 = .ok (.iload_n 0, 1) := by decide +kernel
theorem dX4_isBlank_1 : decode cX4_isBlank 1 = .ok (.bipush 10, 2) := by decide +kernel
theorem dX4_isBlank_3 : decode cX4_isBlank 3 = .ok (.if_icmp .eq 9, 3) := by decide +kernel
theorem dX4_isBlank_6 : decode cX4_isBlank 6 = .ok (.iload_n 0, 1) := by decide +kernel
theorem dX4_isBlank_7 : decode cX4_isBlank 7 = .ok (.bipush 32, 2) := by decide +kernel
theorem dX4_isBlank_9 : decode cX4_isBlank 9 = .ok (.if_icmp .ne 7, 3) := by decide +kernel
theorem dX4_isBlank_12 : decode cX4_isBlank 12 = .ok (.iconst 1, 1) := by decide +kernel
theorem dX4_isBlank_13 : decode cX4_isBlank 13 = .ok (.goto 4, 3) := by decide +kernel
theorem dX4_isBlank_16 : decode cX4_isBlank 16 = .ok (.iconst 0, 1) := by decide +kernel
theorem dX4_isBlank_17 : decode cX4_isBlank 17 = .ok (.ireturn, 1) := by decide +kernel
theorem dX4_isLetter_0 : decode cX4_isLetter 0 = .ok (.iload_n 0, 1) := by decide +kernel
theorem dX4_isLetter_1 : decode cX4_isLetter 1 = .ok (.bipush 97, 2) := by decide +kernel
theorem dX4_isLetter_3 : decode cX4_isLetter 3 = .ok (.if_icmp .lt 13, 3) := by decide +kernel
theorem dX4_isLetter_6 : decode cX4_isLetter 6 = .ok (.iload_n 0, 1) := by decide +kernel
theorem dX4_isLetter_7 : decode cX4_isLetter 7 = .ok (.bipush 122, 2) := by decide +kernel
theorem dX4_isLetter_9 : decode cX4_isLetter 9 = .ok (.if_icmp .gt 7, 3) := by decide +kernel
theorem dX4_isLetter_12 : decode cX4_isLetter 12 = .ok (.iconst 1, 1) := by decide +kernel
theorem dX4_isLetter_13 : decode cX4_isLetter 13 = .ok (.goto 4, 3) := by decide +kernel
theorem dX4_isLetter_16 : decode cX4_isLetter 16 = .ok (.iconst 0, 1) := by decide +kernel
theorem dX4_isLetter_17 : decode cX4_isLetter 17 = .ok (.ireturn, 1) := by decide +kernel
theorem dX4_isDigit_0 : decode cX4_isDigit 0 = .ok (.iload_n 0, 1) := by decide +kernel
theorem dX4_isDigit_1 : decode cX4_isDigit 1 = .ok (.bipush 48, 2) := by decide +kernel
theorem dX4_isDigit_3 : decode cX4_isDigit 3 = .ok (.if_icmp .lt 13, 3) := by decide +kernel
theorem dX4_isDigit_6 : decode cX4_isDigit 6 = .ok (.iload_n 0, 1) := by decide +kernel
theorem dX4_isDigit_7 : decode cX4_isDigit 7 = .ok (.bipush 57, 2) := by decide +kernel
theorem dX4_isDigit_9 : decode cX4_isDigit 9 = .ok (.if_icmp .gt 7, 3) := by decide +kernel
theorem dX4_isDigit_12 : decode cX4_isDigit 12 = .ok (.iconst 1, 1) := by decide +kernel
theorem dX4_isDigit_13 : decode cX4_isDigit 13 = .ok (.goto 4, 3) := by decide +kernel
theorem dX4_isDigit_16 : decode cX4_isDigit 16 = .ok (.iconst 0, 1) := by decide +kernel
theorem dX4_isDigit_17 : decode cX4_isDigit 17 = .ok (.ireturn, 1) := by decide +kernel
theorem dX4_signOf_0 : decode cX4_signOf 0 = .ok (.iload_n 0, 1) := by decide +kernel
theorem dX4_signOf_1 : decode cX4_signOf 1 = .ok (.lookupswitch 41 #[(40, 37), (41, 39), (59, 35)], 35) := by decide +kernel
theorem dX4_signOf_36 : decode cX4_signOf 36 = .ok (.iconst 3, 1) := by decide +kernel
theorem dX4_signOf_37 : decode cX4_signOf 37 = .ok (.ireturn, 1) := by decide +kernel
theorem dX4_signOf_38 : decode cX4_signOf 38 = .ok (.iconst 4, 1) := by decide +kernel
theorem dX4_signOf_39 : decode cX4_signOf 39 = .ok (.ireturn, 1) := by decide +kernel
theorem dX4_signOf_40 : decode cX4_signOf 40 = .ok (.iconst 5, 1) := by decide +kernel
theorem dX4_signOf_41 : decode cX4_signOf 41 = .ok (.ireturn, 1) := by decide +kernel
theorem dX4_signOf_42 : decode cX4_signOf 42 = .ok (.iconst 1, 1) := by decide +kernel
theorem dX4_signOf_43 : decode cX4_signOf 43 = .ok (.ireturn, 1) := by decide +kernel
theorem dX4_withLetter_0 : decode cX4_withLetter 0 = .ok (.lload_n 0, 1) := by decide +kernel
theorem dX4_withLetter_1 : decode cX4_withLetter 1 = .ok (.iconst 5, 1) := by decide +kernel
theorem dX4_withLetter_2 : decode cX4_withLetter 2 = .ok (.lshl, 1) := by decide +kernel
theorem dX4_withLetter_3 : decode cX4_withLetter 3 = .ok (.iload_n 2, 1) := by decide +kernel
theorem dX4_withLetter_4 : decode cX4_withLetter 4 = .ok (.bipush 97, 2) := by decide +kernel
theorem dX4_withLetter_6 : decode cX4_withLetter 6 = .ok (.isub, 1) := by decide +kernel
theorem dX4_withLetter_7 : decode cX4_withLetter 7 = .ok (.iconst 1, 1) := by decide +kernel
theorem dX4_withLetter_8 : decode cX4_withLetter 8 = .ok (.iadd, 1) := by decide +kernel
theorem dX4_withLetter_9 : decode cX4_withLetter 9 = .ok (.i2l, 1) := by decide +kernel
theorem dX4_withLetter_10 : decode cX4_withLetter 10 = .ok (.lor, 1) := by decide +kernel
theorem dX4_withLetter_11 : decode cX4_withLetter 11 = .ok (.lreturn, 1) := by decide +kernel
theorem dX5_init_0 : decode cX5_init 0 = .ok (.aload_n 0, 1) := by decide +kernel
theorem dX5_init_1 : decode cX5_init 1 = .ok (.invokespecial 1, 3) := by decide +kernel
theorem dX5_init_4 : decode cX5_init 4 = .ok (.aload_n 0, 1) := by decide +kernel
theorem dX5_init_5 : decode cX5_init 5 = .ok (.new 7, 3) := by decide +kernel
theorem dX5_init_8 : decode cX5_init 8 = .ok (.dup, 1) := by decide +kernel
theorem dX5_init_9 : decode cX5_init 9 = .ok (.invokespecial 9, 3) := by decide +kernel
theorem dX5_init_12 : decode cX5_init 12 = .ok (.putfield 10, 3) := by decide +kernel
theorem dX5_init_15 : decode cX5_init 15 = .ok (.aload_n 0, 1) := by decide +kernel
theorem dX5_init_16 : decode cX5_init 16 = .ok (.new 16, 3) := by decide +kernel
theorem dX5_init_19 : decode cX5_init 19 = .ok (.dup, 1) := by decide +kernel
theorem dX5_init_20 : decode cX5_init 20 = .ok (.invokespecial 18, 3) := by decide +kernel
theorem dX5_init_23 : decode cX5_init 23 = .ok (.putfield 19, 3) := by decide +kernel
theorem dX5_init_26 : decode cX5_init 26 = .ok (.aload_n 0, 1) := by decide +kernel
theorem dX5_init_27 : decode cX5_init 27 = .ok (.aload_n 1, 1) := by decide +kernel
theorem dX5_init_28 : decode cX5_init 28 = .ok (.putfield 23, 3) := by decide +kernel
theorem dX5_init_31 : decode cX5_init 31 = .ok (.return_, 1) := by decide +kernel
theorem dX5_keep_0 : decode cX5_keep 0 = .ok (.aload_n 0, 1) := by decide +kernel
theorem dX5_keep_1 : decode cX5_keep 1 = .ok (.aload_n 1, 1) := by decide +kernel
theorem dX5_keep_2 : decode cX5_keep 2 = .ok (.putfield 23, 3) := by decide +kernel
theorem dX5_keep_5 : decode cX5_keep 5 = .ok (.aload_n 0, 1) := by decide +kernel
theorem dX5_keep_6 : decode cX5_keep 6 = .ok (.getfield 10, 3) := by decide +kernel
theorem dX5_keep_9 : decode cX5_keep 9 = .ok (.aload_n 2, 1) := by decide +kernel
theorem dX5_keep_10 : decode cX5_keep 10 = .ok (.invokevirtual 27, 3) := by decide +kernel
theorem dX5_keep_13 : decode cX5_keep 13 = .ok (.aload_n 0, 1) := by decide +kernel
theorem dX5_keep_14 : decode cX5_keep 14 = .ok (.getfield 19, 3) := by decide +kernel
theorem dX5_keep_17 : decode cX5_keep 17 = .ok (.aload_n 3, 1) := by decide +kernel
theorem dX5_keep_18 : decode cX5_keep 18 = .ok (.invokevirtual 31, 3) := by decide +kernel
theorem dX5_keep_21 : decode cX5_keep 21 = .ok (.return_, 1) := by decide +kernel
theorem dX6_init_0 : decode cX6_init 0 = .ok (.aload_n 0, 1) := by decide +kernel
theorem dX6_init_1 : decode cX6_init 1 = .ok (.invokespecial 3, 3) := by decide +kernel
theorem dX6_init_4 : decode cX6_init 4 = .ok (.aload_n 0, 1) := by decide +kernel
theorem dX6_init_5 : decode cX6_init 5 = .ok (.bipush 12, 2) := by decide +kernel
theorem dX6_init_7 : decode cX6_init 7 = .ok (.newarray .int, 2) := by decide +kernel
theorem dX6_init_9 : decode cX6_init 9 = .ok (.putfield 9, 3) := by decide +kernel
theorem dX6_init_12 : decode cX6_init 12 = .ok (.aload_n 0, 1) := by decide +kernel
theorem dX6_init_13 : decode cX6_init 13 = .ok (.bipush 12, 2) := by decide +kernel
theorem dX6_init_15 : decode cX6_init 15 = .ok (.newarray .int, 2) := by decide +kernel
theorem dX6_init_17 : decode cX6_init 17 = .ok (.putfield 15, 3) := by decide +kernel
theorem dX6_init_20 : decode cX6_init 20 = .ok (.aload_n 0, 1) := by decide +kernel
theorem dX6_init_21 : decode cX6_init 21 = .ok (.bipush 12, 2) := by decide +kernel
theorem dX6_init_23 : decode cX6_init 23 = .ok (.newarray .int, 2) := by decide +kernel
theorem dX6_init_25 : decode cX6_init 25 = .ok (.putfield 18, 3) := by decide +kernel
theorem dX6_init_28 : decode cX6_init 28 = .ok (.aload_n 0, 1) := by decide +kernel
theorem dX6_init_29 : decode cX6_init 29 = .ok (.bipush 12, 2) := by decide +kernel
theorem dX6_init_31 : decode cX6_init 31 = .ok (.newarray .int, 2) := by decide +kernel
theorem dX6_init_33 : decode cX6_init 33 = .ok (.putfield 21, 3) := by decide +kernel
theorem dX6_init_36 : decode cX6_init 36 = .ok (.aload_n 0, 1) := by decide +kernel
theorem dX6_init_37 : decode cX6_init 37 = .ok (.iconst 0, 1) := by decide +kernel
theorem dX6_init_38 : decode cX6_init 38 = .ok (.putfield 24, 3) := by decide +kernel
theorem dX6_init_41 : decode cX6_init 41 = .ok (.aload_n 0, 1) := by decide +kernel
theorem dX6_init_42 : decode cX6_init 42 = .ok (.iconst 0, 1) := by decide +kernel
theorem dX6_init_43 : decode cX6_init 43 = .ok (.putfield 28, 3) := by decide +kernel
theorem dX6_init_46 : decode cX6_init 46 = .ok (.return_, 1) := by decide +kernel
theorem dX6_add_0 : decode cX6_add 0 = .ok (.aload_n 0, 1) := by decide +kernel
theorem dX6_add_1 : decode cX6_add 1 = .ok (.getfield 24, 3) := by decide +kernel
theorem dX6_add_4 : decode cX6_add 4 = .ok (.bipush 12, 2) := by decide +kernel
theorem dX6_add_6 : decode cX6_add 6 = .ok (.if_icmp .ge 56, 3) := by decide +kernel
theorem dX6_add_9 : decode cX6_add 9 = .ok (.aload_n 0, 1) := by decide +kernel
theorem dX6_add_10 : decode cX6_add 10 = .ok (.getfield 9, 3) := by decide +kernel
theorem dX6_add_13 : decode cX6_add 13 = .ok (.aload_n 0, 1) := by decide +kernel
theorem dX6_add_14 : decode cX6_add 14 = .ok (.getfield 24, 3) := by decide +kernel
theorem dX6_add_17 : decode cX6_add 17 = .ok (.iload_n 1, 1) := by decide +kernel
theorem dX6_add_18 : decode cX6_add 18 = .ok (.iastore, 1) := by decide +kernel
theorem dX6_add_19 : decode cX6_add 19 = .ok (.aload_n 0, 1) := by decide +kernel
theorem dX6_add_20 : decode cX6_add 20 = .ok (.getfield 15, 3) := by decide +kernel
theorem dX6_add_23 : decode cX6_add 23 = .ok (.aload_n 0, 1) := by decide +kernel
theorem dX6_add_24 : decode cX6_add 24 = .ok (.getfield 24, 3) := by decide +kernel
theorem dX6_add_27 : decode cX6_add 27 = .ok (.iload_n 2, 1) := by decide +kernel
theorem dX6_add_28 : decode cX6_add 28 = .ok (.iastore, 1) := by decide +kernel
theorem dX6_add_29 : decode cX6_add 29 = .ok (.aload_n 0, 1) := by decide +kernel
theorem dX6_add_30 : decode cX6_add 30 = .ok (.getfield 18, 3) := by decide +kernel
theorem dX6_add_33 : decode cX6_add 33 = .ok (.aload_n 0, 1) := by decide +kernel
theorem dX6_add_34 : decode cX6_add 34 = .ok (.getfield 24, 3) := by decide +kernel
theorem dX6_add_37 : decode cX6_add 37 = .ok (.iload_n 3, 1) := by decide +kernel
theorem dX6_add_38 : decode cX6_add 38 = .ok (.iastore, 1) := by decide +kernel
theorem dX6_add_39 : decode cX6_add 39 = .ok (.aload_n 0, 1) := by decide +kernel
theorem dX6_add_40 : decode cX6_add 40 = .ok (.getfield 21, 3) := by decide +kernel
theorem dX6_add_43 : decode cX6_add 43 = .ok (.aload_n 0, 1) := by decide +kernel
theorem dX6_add_44 : decode cX6_add 44 = .ok (.getfield 24, 3) := by decide +kernel
theorem dX6_add_47 : decode cX6_add 47 = .ok (.aload_n 0, 1) := by decide +kernel
theorem dX6_add_48 : decode cX6_add 48 = .ok (.getfield 28, 3) := by decide +kernel
theorem dX6_add_51 : decode cX6_add 51 = .ok (.iastore, 1) := by decide +kernel
theorem dX6_add_52 : decode cX6_add 52 = .ok (.aload_n 0, 1) := by decide +kernel
theorem dX6_add_53 : decode cX6_add 53 = .ok (.dup, 1) := by decide +kernel
theorem dX6_add_54 : decode cX6_add 54 = .ok (.getfield 24, 3) := by decide +kernel
theorem dX6_add_57 : decode cX6_add 57 = .ok (.iconst 1, 1) := by decide +kernel
theorem dX6_add_58 : decode cX6_add 58 = .ok (.iadd, 1) := by decide +kernel
theorem dX6_add_59 : decode cX6_add 59 = .ok (.putfield 24, 3) := by decide +kernel
theorem dX6_add_62 : decode cX6_add 62 = .ok (.return_, 1) := by decide +kernel
theorem dX6_putToday_0 : decode cX6_putToday 0 = .ok (.iconst 0, 1) := by decide +kernel
theorem dX6_putToday_1 : decode cX6_putToday 1 = .ok (.istore_n 1, 1) := by decide +kernel
theorem dX6_putToday_2 : decode cX6_putToday 2 = .ok (.iconst 0, 1) := by decide +kernel
theorem dX6_putToday_3 : decode cX6_putToday 3 = .ok (.istore_n 2, 1) := by decide +kernel
theorem dX6_putToday_4 : decode cX6_putToday 4 = .ok (.iload_n 2, 1) := by decide +kernel
theorem dX6_putToday_5 : decode cX6_putToday 5 = .ok (.aload_n 0, 1) := by decide +kernel
theorem dX6_putToday_6 : decode cX6_putToday 6 = .ok (.getfield 24, 3) := by decide +kernel
theorem dX6_putToday_9 : decode cX6_putToday 9 = .ok (.if_icmp .ge 25, 3) := by decide +kernel
theorem dX6_putToday_12 : decode cX6_putToday 12 = .ok (.aload_n 0, 1) := by decide +kernel
theorem dX6_putToday_13 : decode cX6_putToday 13 = .ok (.getfield 21, 3) := by decide +kernel
theorem dX6_putToday_16 : decode cX6_putToday 16 = .ok (.iload_n 2, 1) := by decide +kernel
theorem dX6_putToday_17 : decode cX6_putToday 17 = .ok (.iaload, 1) := by decide +kernel
theorem dX6_putToday_18 : decode cX6_putToday 18 = .ok (.aload_n 0, 1) := by decide +kernel
theorem dX6_putToday_19 : decode cX6_putToday 19 = .ok (.getfield 28, 3) := by decide +kernel
theorem dX6_putToday_22 : decode cX6_putToday 22 = .ok (.if_icmp .ne 6, 3) := by decide +kernel
theorem dX6_putToday_25 : decode cX6_putToday 25 = .ok (.iinc 1 1, 3) := by decide +kernel
theorem dX6_putToday_28 : decode cX6_putToday 28 = .ok (.iinc 2 1, 3) := by decide +kernel
theorem dX6_putToday_31 : decode cX6_putToday 31 = .ok (.goto (-27), 3) := by decide +kernel
theorem dX6_putToday_34 : decode cX6_putToday 34 = .ok (.iload_n 1, 1) := by decide +kernel
theorem dX6_putToday_35 : decode cX6_putToday 35 = .ok (.ireturn, 1) := by decide +kernel
theorem dX6_copyFrom_0 : decode cX6_copyFrom 0 = .ok (.aload_n 1, 1) := by decide +kernel
theorem dX6_copyFrom_1 : decode cX6_copyFrom 1 = .ok (.getfield 9, 3) := by decide +kernel
theorem dX6_copyFrom_4 : decode cX6_copyFrom 4 = .ok (.iconst 0, 1) := by decide +kernel
theorem dX6_copyFrom_5 : decode cX6_copyFrom 5 = .ok (.aload_n 0, 1) := by decide +kernel
theorem dX6_copyFrom_6 : decode cX6_copyFrom 6 = .ok (.getfield 9, 3) := by decide +kernel
theorem dX6_copyFrom_9 : decode cX6_copyFrom 9 = .ok (.iconst 0, 1) := by decide +kernel
theorem dX6_copyFrom_10 : decode cX6_copyFrom 10 = .ok (.bipush 12, 2) := by decide +kernel
theorem dX6_copyFrom_12 : decode cX6_copyFrom 12 = .ok (.invokestatic 31, 3) := by decide +kernel
theorem dX6_copyFrom_15 : decode cX6_copyFrom 15 = .ok (.aload_n 1, 1) := by decide +kernel
theorem dX6_copyFrom_16 : decode cX6_copyFrom 16 = .ok (.getfield 15, 3) := by decide +kernel
theorem dX6_copyFrom_19 : decode cX6_copyFrom 19 = .ok (.iconst 0, 1) := by decide +kernel
theorem dX6_copyFrom_20 : decode cX6_copyFrom 20 = .ok (.aload_n 0, 1) := by decide +kernel
theorem dX6_copyFrom_21 : decode cX6_copyFrom 21 = .ok (.getfield 15, 3) := by decide +kernel
theorem dX6_copyFrom_24 : decode cX6_copyFrom 24 = .ok (.iconst 0, 1) := by decide +kernel
theorem dX6_copyFrom_25 : decode cX6_copyFrom 25 = .ok (.bipush 12, 2) := by decide +kernel
theorem dX6_copyFrom_27 : decode cX6_copyFrom 27 = .ok (.invokestatic 31, 3) := by decide +kernel
theorem dX6_copyFrom_30 : decode cX6_copyFrom 30 = .ok (.aload_n 1, 1) := by decide +kernel
theorem dX6_copyFrom_31 : decode cX6_copyFrom 31 = .ok (.getfield 18, 3) := by decide +kernel
theorem dX6_copyFrom_34 : decode cX6_copyFrom 34 = .ok (.iconst 0, 1) := by decide +kernel
theorem dX6_copyFrom_35 : decode cX6_copyFrom 35 = .ok (.aload_n 0, 1) := by decide +kernel
theorem dX6_copyFrom_36 : decode cX6_copyFrom 36 = .ok (.getfield 18, 3) := by decide +kernel
theorem dX6_copyFrom_39 : decode cX6_copyFrom 39 = .ok (.iconst 0, 1) := by decide +kernel
theorem dX6_copyFrom_40 : decode cX6_copyFrom 40 = .ok (.bipush 12, 2) := by decide +kernel
theorem dX6_copyFrom_42 : decode cX6_copyFrom 42 = .ok (.invokestatic 31, 3) := by decide +kernel
theorem dX6_copyFrom_45 : decode cX6_copyFrom 45 = .ok (.aload_n 1, 1) := by decide +kernel
theorem dX6_copyFrom_46 : decode cX6_copyFrom 46 = .ok (.getfield 21, 3) := by decide +kernel
theorem dX6_copyFrom_49 : decode cX6_copyFrom 49 = .ok (.iconst 0, 1) := by decide +kernel
theorem dX6_copyFrom_50 : decode cX6_copyFrom 50 = .ok (.aload_n 0, 1) := by decide +kernel
theorem dX6_copyFrom_51 : decode cX6_copyFrom 51 = .ok (.getfield 21, 3) := by decide +kernel
theorem dX6_copyFrom_54 : decode cX6_copyFrom 54 = .ok (.iconst 0, 1) := by decide +kernel
theorem dX6_copyFrom_55 : decode cX6_copyFrom 55 = .ok (.bipush 12, 2) := by decide +kernel
theorem dX6_copyFrom_57 : decode cX6_copyFrom 57 = .ok (.invokestatic 31, 3) := by decide +kernel
theorem dX6_copyFrom_60 : decode cX6_copyFrom 60 = .ok (.aload_n 0, 1) := by decide +kernel
theorem dX6_copyFrom_61 : decode cX6_copyFrom 61 = .ok (.aload_n 1, 1) := by decide +kernel
theorem dX6_copyFrom_62 : decode cX6_copyFrom 62 = .ok (.getfield 24, 3) := by decide +kernel
theorem dX6_copyFrom_65 : decode cX6_copyFrom 65 = .ok (.putfield 24, 3) := by decide +kernel
theorem dX6_copyFrom_68 : decode cX6_copyFrom 68 = .ok (.aload_n 0, 1) := by decide +kernel
theorem dX6_copyFrom_69 : decode cX6_copyFrom 69 = .ok (.aload_n 1, 1) := by decide +kernel
theorem dX6_copyFrom_70 : decode cX6_copyFrom 70 = .ok (.getfield 28, 3) := by decide +kernel
theorem dX6_copyFrom_73 : decode cX6_copyFrom 73 = .ok (.putfield 28, 3) := by decide +kernel
theorem dX6_copyFrom_76 : decode cX6_copyFrom 76 = .ok (.return_, 1) := by decide +kernel
theorem dX7_init_0 : decode cX7_init 0 = .ok (.aload_n 0, 1) := by decide +kernel
theorem dX7_init_1 : decode cX7_init 1 = .ok (.invokespecial 3, 3) := by decide +kernel
theorem dX7_init_4 : decode cX7_init 4 = .ok (.aload_n 0, 1) := by decide +kernel
theorem dX7_init_5 : decode cX7_init 5 = .ok (.bipush 44, 2) := by decide +kernel
theorem dX7_init_7 : decode cX7_init 7 = .ok (.newarray .long, 2) := by decide +kernel
theorem dX7_init_9 : decode cX7_init 9 = .ok (.putfield 9, 3) := by decide +kernel
theorem dX7_init_12 : decode cX7_init 12 = .ok (.aload_n 0, 1) := by decide +kernel
theorem dX7_init_13 : decode cX7_init 13 = .ok (.bipush 44, 2) := by decide +kernel
theorem dX7_init_15 : decode cX7_init 15 = .ok (.newarray .int, 2) := by decide +kernel
theorem dX7_init_17 : decode cX7_init 17 = .ok (.putfield 15, 3) := by decide +kernel
theorem dX7_init_20 : decode cX7_init 20 = .ok (.aload_n 0, 1) := by decide +kernel
theorem dX7_init_21 : decode cX7_init 21 = .ok (.bipush 44, 2) := by decide +kernel
theorem dX7_init_23 : decode cX7_init 23 = .ok (.newarray .int, 2) := by decide +kernel
theorem dX7_init_25 : decode cX7_init 25 = .ok (.putfield 19, 3) := by decide +kernel
theorem dX7_init_28 : decode cX7_init 28 = .ok (.aload_n 0, 1) := by decide +kernel
theorem dX7_init_29 : decode cX7_init 29 = .ok (.iconst 0, 1) := by decide +kernel
theorem dX7_init_30 : decode cX7_init 30 = .ok (.putfield 22, 3) := by decide +kernel
theorem dX7_init_33 : decode cX7_init 33 = .ok (.return_, 1) := by decide +kernel
theorem dX7_add_0 : decode cX7_add 0 = .ok (.aload_n 0, 1) := by decide +kernel
theorem dX7_add_1 : decode cX7_add 1 = .ok (.getfield 22, 3) := by decide +kernel
theorem dX7_add_4 : decode cX7_add 4 = .ok (.bipush 44, 2) := by decide +kernel
theorem dX7_add_6 : decode cX7_add 6 = .ok (.if_icmp .ge 44, 3) := by decide +kernel
theorem dX7_add_9 : decode cX7_add 9 = .ok (.aload_n 0, 1) := by decide +kernel
theorem dX7_add_10 : decode cX7_add 10 = .ok (.getfield 9, 3) := by decide +kernel
theorem dX7_add_13 : decode cX7_add 13 = .ok (.aload_n 0, 1) := by decide +kernel
theorem dX7_add_14 : decode cX7_add 14 = .ok (.getfield 22, 3) := by decide +kernel
theorem dX7_add_17 : decode cX7_add 17 = .ok (.lload_n 1, 1) := by decide +kernel
theorem dX7_add_18 : decode cX7_add 18 = .ok (.lastore, 1) := by decide +kernel
theorem dX7_add_19 : decode cX7_add 19 = .ok (.aload_n 0, 1) := by decide +kernel
theorem dX7_add_20 : decode cX7_add 20 = .ok (.getfield 15, 3) := by decide +kernel
theorem dX7_add_23 : decode cX7_add 23 = .ok (.aload_n 0, 1) := by decide +kernel
theorem dX7_add_24 : decode cX7_add 24 = .ok (.getfield 22, 3) := by decide +kernel
theorem dX7_add_27 : decode cX7_add 27 = .ok (.iload_n 3, 1) := by decide +kernel
theorem dX7_add_28 : decode cX7_add 28 = .ok (.iastore, 1) := by decide +kernel
theorem dX7_add_29 : decode cX7_add 29 = .ok (.aload_n 0, 1) := by decide +kernel
theorem dX7_add_30 : decode cX7_add 30 = .ok (.getfield 19, 3) := by decide +kernel
theorem dX7_add_33 : decode cX7_add 33 = .ok (.aload_n 0, 1) := by decide +kernel
theorem dX7_add_34 : decode cX7_add 34 = .ok (.getfield 22, 3) := by decide +kernel
theorem dX7_add_37 : decode cX7_add 37 = .ok (.iload 4, 2) := by decide +kernel
theorem dX7_add_39 : decode cX7_add 39 = .ok (.iastore, 1) := by decide +kernel
theorem dX7_add_40 : decode cX7_add 40 = .ok (.aload_n 0, 1) := by decide +kernel
theorem dX7_add_41 : decode cX7_add 41 = .ok (.dup, 1) := by decide +kernel
theorem dX7_add_42 : decode cX7_add 42 = .ok (.getfield 22, 3) := by decide +kernel
theorem dX7_add_45 : decode cX7_add 45 = .ok (.iconst 1, 1) := by decide +kernel
theorem dX7_add_46 : decode cX7_add 46 = .ok (.iadd, 1) := by decide +kernel
theorem dX7_add_47 : decode cX7_add 47 = .ok (.putfield 22, 3) := by decide +kernel
theorem dX7_add_50 : decode cX7_add 50 = .ok (.return_, 1) := by decide +kernel
theorem dX7_isTaken_0 : decode cX7_isTaken 0 = .ok (.iconst 0, 1) := by decide +kernel
theorem dX7_isTaken_1 : decode cX7_isTaken 1 = .ok (.istore_n 3, 1) := by decide +kernel
theorem dX7_isTaken_2 : decode cX7_isTaken 2 = .ok (.iload_n 3, 1) := by decide +kernel
theorem dX7_isTaken_3 : decode cX7_isTaken 3 = .ok (.aload_n 0, 1) := by decide +kernel
theorem dX7_isTaken_4 : decode cX7_isTaken 4 = .ok (.getfield 22, 3) := by decide +kernel
theorem dX7_isTaken_7 : decode cX7_isTaken 7 = .ok (.if_icmp .ge 22, 3) := by decide +kernel
theorem dX7_isTaken_10 : decode cX7_isTaken 10 = .ok (.aload_n 0, 1) := by decide +kernel
theorem dX7_isTaken_11 : decode cX7_isTaken 11 = .ok (.getfield 9, 3) := by decide +kernel
theorem dX7_isTaken_14 : decode cX7_isTaken 14 = .ok (.iload_n 3, 1) := by decide +kernel
theorem dX7_isTaken_15 : decode cX7_isTaken 15 = .ok (.laload, 1) := by decide +kernel
theorem dX7_isTaken_16 : decode cX7_isTaken 16 = .ok (.lload_n 1, 1) := by decide +kernel
theorem dX7_isTaken_17 : decode cX7_isTaken 17 = .ok (.lcmp, 1) := by decide +kernel
theorem dX7_isTaken_18 : decode cX7_isTaken 18 = .ok (.ifCond .ne 5, 3) := by decide +kernel
theorem dX7_isTaken_21 : decode cX7_isTaken 21 = .ok (.iconst 1, 1) := by decide +kernel
theorem dX7_isTaken_22 : decode cX7_isTaken 22 = .ok (.ireturn, 1) := by decide +kernel
theorem dX7_isTaken_23 : decode cX7_isTaken 23 = .ok (.iinc 3 1, 3) := by decide +kernel
theorem dX7_isTaken_26 : decode cX7_isTaken 26 = .ok (.goto (-24), 3) := by decide +kernel
theorem dX7_isTaken_29 : decode cX7_isTaken 29 = .ok (.iconst 0, 1) := by decide +kernel
theorem dX7_isTaken_30 : decode cX7_isTaken 30 = .ok (.ireturn, 1) := by decide +kernel
theorem dX7_numberOf_0 : decode cX7_numberOf 0 = .ok (.iconst 0, 1) := by decide +kernel
theorem dX7_numberOf_1 : decode cX7_numberOf 1 = .ok (.istore 4, 2) := by decide +kernel
theorem dX7_numberOf_3 : decode cX7_numberOf 3 = .ok (.iload 4, 2) := by decide +kernel
theorem dX7_numberOf_5 : decode cX7_numberOf 5 = .ok (.aload_n 0, 1) := by decide +kernel
theorem dX7_numberOf_6 : decode cX7_numberOf 6 = .ok (.getfield 22, 3) := by decide +kernel
theorem dX7_numberOf_9 : decode cX7_numberOf 9 = .ok (.if_icmp .ge 40, 3) := by decide +kernel
theorem dX7_numberOf_12 : decode cX7_numberOf 12 = .ok (.aload_n 0, 1) := by decide +kernel
theorem dX7_numberOf_13 : decode cX7_numberOf 13 = .ok (.getfield 9, 3) := by decide +kernel
theorem dX7_numberOf_16 : decode cX7_numberOf 16 = .ok (.iload 4, 2) := by decide +kernel
theorem dX7_numberOf_18 : decode cX7_numberOf 18 = .ok (.laload, 1) := by decide +kernel
theorem dX7_numberOf_19 : decode cX7_numberOf 19 = .ok (.lload_n 1, 1) := by decide +kernel
theorem dX7_numberOf_20 : decode cX7_numberOf 20 = .ok (.lcmp, 1) := by decide +kernel
theorem dX7_numberOf_21 : decode cX7_numberOf 21 = .ok (.ifCond .ne 22, 3) := by decide +kernel
theorem dX7_numberOf_24 : decode cX7_numberOf 24 = .ok (.aload_n 0, 1) := by decide +kernel
theorem dX7_numberOf_25 : decode cX7_numberOf 25 = .ok (.getfield 15, 3) := by decide +kernel
theorem dX7_numberOf_28 : decode cX7_numberOf 28 = .ok (.iload 4, 2) := by decide +kernel
theorem dX7_numberOf_30 : decode cX7_numberOf 30 = .ok (.iaload, 1) := by decide +kernel
theorem dX7_numberOf_31 : decode cX7_numberOf 31 = .ok (.iload_n 3, 1) := by decide +kernel
theorem dX7_numberOf_32 : decode cX7_numberOf 32 = .ok (.if_icmp .ne 11, 3) := by decide +kernel
theorem dX7_numberOf_35 : decode cX7_numberOf 35 = .ok (.aload_n 0, 1) := by decide +kernel
theorem dX7_numberOf_36 : decode cX7_numberOf 36 = .ok (.getfield 19, 3) := by decide +kernel
theorem dX7_numberOf_39 : decode cX7_numberOf 39 = .ok (.iload 4, 2) := by decide +kernel
theorem dX7_numberOf_41 : decode cX7_numberOf 41 = .ok (.iaload, 1) := by decide +kernel
theorem dX7_numberOf_42 : decode cX7_numberOf 42 = .ok (.ireturn, 1) := by decide +kernel
theorem dX7_numberOf_43 : decode cX7_numberOf 43 = .ok (.iinc 4 1, 3) := by decide +kernel
theorem dX7_numberOf_46 : decode cX7_numberOf 46 = .ok (.goto (-43), 3) := by decide +kernel
theorem dX7_numberOf_49 : decode cX7_numberOf 49 = .ok (.iconst (-1), 1) := by decide +kernel
theorem dX7_numberOf_50 : decode cX7_numberOf 50 = .ok (.ireturn, 1) := by decide +kernel
theorem dX8_init_0 : decode cX8_init 0 = .ok (.aload_n 0, 1) := by decide +kernel
theorem dX8_init_1 : decode cX8_init 1 = .ok (.invokespecial 3, 3) := by decide +kernel
theorem dX8_init_4 : decode cX8_init 4 = .ok (.aload_n 0, 1) := by decide +kernel
theorem dX8_init_5 : decode cX8_init 5 = .ok (.bipush 30, 2) := by decide +kernel
theorem dX8_init_7 : decode cX8_init 7 = .ok (.newarray .int, 2) := by decide +kernel
theorem dX8_init_9 : decode cX8_init 9 = .ok (.putfield 9, 3) := by decide +kernel
theorem dX8_init_12 : decode cX8_init 12 = .ok (.aload_n 0, 1) := by decide +kernel
theorem dX8_init_13 : decode cX8_init 13 = .ok (.bipush 30, 2) := by decide +kernel
theorem dX8_init_15 : decode cX8_init 15 = .ok (.newarray .int, 2) := by decide +kernel
theorem dX8_init_17 : decode cX8_init 17 = .ok (.putfield 15, 3) := by decide +kernel
theorem dX8_init_20 : decode cX8_init 20 = .ok (.aload_n 0, 1) := by decide +kernel
theorem dX8_init_21 : decode cX8_init 21 = .ok (.bipush 30, 2) := by decide +kernel
theorem dX8_init_23 : decode cX8_init 23 = .ok (.newarray .int, 2) := by decide +kernel
theorem dX8_init_25 : decode cX8_init 25 = .ok (.putfield 18, 3) := by decide +kernel
theorem dX8_init_28 : decode cX8_init 28 = .ok (.aload_n 0, 1) := by decide +kernel
theorem dX8_init_29 : decode cX8_init 29 = .ok (.bipush 30, 2) := by decide +kernel
theorem dX8_init_31 : decode cX8_init 31 = .ok (.newarray .int, 2) := by decide +kernel
theorem dX8_init_33 : decode cX8_init 33 = .ok (.putfield 21, 3) := by decide +kernel
theorem dX8_init_36 : decode cX8_init 36 = .ok (.aload_n 0, 1) := by decide +kernel
theorem dX8_init_37 : decode cX8_init 37 = .ok (.iconst 3, 1) := by decide +kernel
theorem dX8_init_38 : decode cX8_init 38 = .ok (.newarray .int, 2) := by decide +kernel
theorem dX8_init_40 : decode cX8_init 40 = .ok (.putfield 24, 3) := by decide +kernel
theorem dX8_init_43 : decode cX8_init 43 = .ok (.aload_n 0, 1) := by decide +kernel
theorem dX8_init_44 : decode cX8_init 44 = .ok (.iconst 0, 1) := by decide +kernel
theorem dX8_init_45 : decode cX8_init 45 = .ok (.putfield 27, 3) := by decide +kernel
theorem dX8_init_48 : decode cX8_init 48 = .ok (.aload_n 0, 1) := by decide +kernel
theorem dX8_init_49 : decode cX8_init 49 = .ok (.iconst 0, 1) := by decide +kernel
theorem dX8_init_50 : decode cX8_init 50 = .ok (.putfield 31, 3) := by decide +kernel
theorem dX8_init_53 : decode cX8_init 53 = .ok (.aload_n 0, 1) := by decide +kernel
theorem dX8_init_54 : decode cX8_init 54 = .ok (.iconst 0, 1) := by decide +kernel
theorem dX8_init_55 : decode cX8_init 55 = .ok (.putfield 34, 3) := by decide +kernel
theorem dX8_init_58 : decode cX8_init 58 = .ok (.return_, 1) := by decide +kernel
theorem dX8_readSteps_0 : decode cX8_readSteps 0 = .ok (.aload_n 0, 1) := by decide +kernel
theorem dX8_readSteps_1 : decode cX8_readSteps 1 = .ok (.iconst 0, 1) := by decide +kernel
theorem dX8_readSteps_2 : decode cX8_readSteps 2 = .ok (.putfield 31, 3) := by decide +kernel
theorem dX8_readSteps_5 : decode cX8_readSteps 5 = .ok (.aload_n 0, 1) := by decide +kernel
theorem dX8_readSteps_6 : decode cX8_readSteps 6 = .ok (.iconst 0, 1) := by decide +kernel
theorem dX8_readSteps_7 : decode cX8_readSteps 7 = .ok (.putfield 27, 3) := by decide +kernel
theorem dX8_readSteps_10 : decode cX8_readSteps 10 = .ok (.aload_n 0, 1) := by decide +kernel
theorem dX8_readSteps_11 : decode cX8_readSteps 11 = .ok (.iconst 1, 1) := by decide +kernel
theorem dX8_readSteps_12 : decode cX8_readSteps 12 = .ok (.putfield 34, 3) := by decide +kernel
theorem dX8_readSteps_15 : decode cX8_readSteps 15 = .ok (.iconst 0, 1) := by decide +kernel
theorem dX8_readSteps_16 : decode cX8_readSteps 16 = .ok (.istore_n 3, 1) := by decide +kernel
theorem dX8_readSteps_17 : decode cX8_readSteps 17 = .ok (.iload_n 3, 1) := by decide +kernel
theorem dX8_readSteps_18 : decode cX8_readSteps 18 = .ok (.sipush 901, 3) := by decide +kernel
theorem dX8_readSteps_21 : decode cX8_readSteps 21 = .ok (.if_icmp .ge 47, 3) := by decide +kernel
theorem dX8_readSteps_24 : decode cX8_readSteps 24 = .ok (.aload_n 1, 1) := by decide +kernel
theorem dX8_readSteps_25 : decode cX8_readSteps 25 = .ok (.getfield 38, 3) := by decide +kernel
theorem dX8_readSteps_28 : decode cX8_readSteps 28 = .ok (.ifCond .eq 40, 3) := by decide +kernel
theorem dX8_readSteps_31 : decode cX8_readSteps 31 = .ok (.aload_n 1, 1) := by decide +kernel
theorem dX8_readSteps_32 : decode cX8_readSteps 32 = .ok (.getfield 38, 3) := by decide +kernel
theorem dX8_readSteps_35 : decode cX8_readSteps 35 = .ok (.bipush 34, 2) := by decide +kernel
theorem dX8_readSteps_37 : decode cX8_readSteps 37 = .ok (.if_icmp .ne 14, 3) := by decide +kernel
theorem dX8_readSteps_40 : decode cX8_readSteps 40 = .ok (.aload_n 0, 1) := by decide +kernel
theorem dX8_readSteps_41 : decode cX8_readSteps 41 = .ok (.aload_n 1, 1) := by decide +kernel
theorem dX8_readSteps_42 : decode cX8_readSteps 42 = .ok (.invokevirtual 43, 3) := by decide +kernel
theorem dX8_readSteps_45 : decode cX8_readSteps 45 = .ok (.ifCond .eq 15, 3) := by decide +kernel
theorem dX8_readSteps_48 : decode cX8_readSteps 48 = .ok (.goto 14, 3) := by decide +kernel
theorem dX8_readSteps_51 : decode cX8_readSteps 51 = .ok (.aload_n 0, 1) := by decide +kernel
theorem dX8_readSteps_52 : decode cX8_readSteps 52 = .ok (.aload_n 1, 1) := by decide +kernel
theorem dX8_readSteps_53 : decode cX8_readSteps 53 = .ok (.aload_n 2, 1) := by decide +kernel
theorem dX8_readSteps_54 : decode cX8_readSteps 54 = .ok (.invokevirtual 47, 3) := by decide +kernel
theorem dX8_readSteps_57 : decode cX8_readSteps 57 = .ok (.ifCond .ne 5, 3) := by decide +kernel
theorem dX8_readSteps_60 : decode cX8_readSteps 60 = .ok (.iconst 0, 1) := by decide +kernel
theorem dX8_readSteps_61 : decode cX8_readSteps 61 = .ok (.ireturn, 1) := by decide +kernel
theorem dX8_readSteps_62 : decode cX8_readSteps 62 = .ok (.iinc 3 1, 3) := by decide +kernel
theorem dX8_readSteps_65 : decode cX8_readSteps 65 = .ok (.goto (-48), 3) := by decide +kernel
theorem dX8_readSteps_68 : decode cX8_readSteps 68 = .ok (.aload_n 0, 1) := by decide +kernel
theorem dX8_readSteps_69 : decode cX8_readSteps 69 = .ok (.getfield 27, 3) := by decide +kernel
theorem dX8_readSteps_72 : decode cX8_readSteps 72 = .ok (.ifCond .eq 11, 3) := by decide +kernel
theorem dX8_readSteps_75 : decode cX8_readSteps 75 = .ok (.aload_n 1, 1) := by decide +kernel
theorem dX8_readSteps_76 : decode cX8_readSteps 76 = .ok (.iconst 2, 1) := by decide +kernel
theorem dX8_readSteps_77 : decode cX8_readSteps 77 = .ok (.invokevirtual 51, 3) := by decide +kernel
theorem dX8_readSteps_80 : decode cX8_readSteps 80 = .ok (.ifCond .eq 7, 3) := by decide +kernel
theorem dX8_readSteps_83 : decode cX8_readSteps 83 = .ok (.iconst 1, 1) := by decide +kernel
theorem dX8_readSteps_84 : decode cX8_readSteps 84 = .ok (.goto 4, 3) := by decide +kernel
theorem dX8_readSteps_87 : decode cX8_readSteps 87 = .ok (.iconst 0, 1) := by decide +kernel
theorem dX8_readSteps_88 : decode cX8_readSteps 88 = .ok (.ireturn, 1) := by decide +kernel
theorem dX8_readEnd_0 : decode cX8_readEnd 0 = .ok (.aload_n 0, 1) := by decide +kernel
theorem dX8_readEnd_1 : decode cX8_readEnd 1 = .ok (.getfield 27, 3) := by decide +kernel
theorem dX8_readEnd_4 : decode cX8_readEnd 4 = .ok (.ifCond .ne 9, 3) := by decide +kernel
theorem dX8_readEnd_7 : decode cX8_readEnd 7 = .ok (.aload_n 1, 1) := by decide +kernel
theorem dX8_readEnd_8 : decode cX8_readEnd 8 = .ok (.iconst 2, 1) := by decide +kernel
theorem dX8_readEnd_9 : decode cX8_readEnd 9 = .ok (.invokevirtual 51, 3) := by decide +kernel
theorem dX8_readEnd_12 : decode cX8_readEnd 12 = .ok (.ireturn, 1) := by decide +kernel
theorem dX8_readEnd_13 : decode cX8_readEnd 13 = .ok (.aload_n 0, 1) := by decide +kernel
theorem dX8_readEnd_14 : decode cX8_readEnd 14 = .ok (.dup, 1) := by decide +kernel
theorem dX8_readEnd_15 : decode cX8_readEnd 15 = .ok (.getfield 27, 3) := by decide +kernel
theorem dX8_readEnd_18 : decode cX8_readEnd 18 = .ok (.iconst 1, 1) := by decide +kernel
theorem dX8_readEnd_19 : decode cX8_readEnd 19 = .ok (.isub, 1) := by decide +kernel
theorem dX8_readEnd_20 : decode cX8_readEnd 20 = .ok (.putfield 27, 3) := by decide +kernel
theorem dX8_readEnd_23 : decode cX8_readEnd 23 = .ok (.aload_n 0, 1) := by decide +kernel
theorem dX8_readEnd_24 : decode cX8_readEnd 24 = .ok (.getfield 21, 3) := by decide +kernel
theorem dX8_readEnd_27 : decode cX8_readEnd 27 = .ok (.aload_n 0, 1) := by decide +kernel
theorem dX8_readEnd_28 : decode cX8_readEnd 28 = .ok (.getfield 24, 3) := by decide +kernel
theorem dX8_readEnd_31 : decode cX8_readEnd 31 = .ok (.aload_n 0, 1) := by decide +kernel
theorem dX8_readEnd_32 : decode cX8_readEnd 32 = .ok (.getfield 27, 3) := by decide +kernel
theorem dX8_readEnd_35 : decode cX8_readEnd 35 = .ok (.iaload, 1) := by decide +kernel
theorem dX8_readEnd_36 : decode cX8_readEnd 36 = .ok (.aload_n 0, 1) := by decide +kernel
theorem dX8_readEnd_37 : decode cX8_readEnd 37 = .ok (.getfield 31, 3) := by decide +kernel
theorem dX8_readEnd_40 : decode cX8_readEnd 40 = .ok (.iastore, 1) := by decide +kernel
theorem dX8_readEnd_41 : decode cX8_readEnd 41 = .ok (.aload_n 1, 1) := by decide +kernel
theorem dX8_readEnd_42 : decode cX8_readEnd 42 = .ok (.invokevirtual 55, 3) := by decide +kernel
theorem dX8_readEnd_45 : decode cX8_readEnd 45 = .ok (.aload_n 1, 1) := by decide +kernel
theorem dX8_readEnd_46 : decode cX8_readEnd 46 = .ok (.iconst 3, 1) := by decide +kernel
theorem dX8_readEnd_47 : decode cX8_readEnd 47 = .ok (.invokevirtual 58, 3) := by decide +kernel
theorem dX8_readEnd_50 : decode cX8_readEnd 50 = .ok (.ireturn, 1) := by decide +kernel
theorem dX8_readStep_0 : decode cX8_readStep 0 = .ok (.aload_n 1, 1) := by decide +kernel
theorem dX8_readStep_1 : decode cX8_readStep 1 = .ok (.getfield 38, 3) := by decide +kernel
theorem dX8_readStep_4 : decode cX8_readStep 4 = .ok (.istore_n 3, 1) := by decide +kernel
theorem dX8_readStep_5 : decode cX8_readStep 5 = .ok (.iload_n 3, 1) := by decide +kernel
theorem dX8_readStep_6 : decode cX8_readStep 6 = .ok (.bipush 25, 2) := by decide +kernel
theorem dX8_readStep_8 : decode cX8_readStep 8 = .ok (.if_icmp .lt 9, 3) := by decide +kernel
theorem dX8_readStep_11 : decode cX8_readStep 11 = .ok (.iload_n 3, 1) := by decide +kernel
theorem dX8_readStep_12 : decode cX8_readStep 12 = .ok (.bipush 29, 2) := by decide +kernel
theorem dX8_readStep_14 : decode cX8_readStep 14 = .ok (.if_icmp .le 9, 3) := by decide +kernel
theorem dX8_readStep_17 : decode cX8_readStep 17 = .ok (.aload_n 1, 1) := by decide +kernel
theorem dX8_readStep_18 : decode cX8_readStep 18 = .ok (.iconst 2, 1) := by decide +kernel
theorem dX8_readStep_19 : decode cX8_readStep 19 = .ok (.invokevirtual 51, 3) := by decide +kernel
theorem dX8_readStep_22 : decode cX8_readStep 22 = .ok (.ireturn, 1) := by decide +kernel
theorem dX8_readStep_23 : decode cX8_readStep 23 = .ok (.aload_n 0, 1) := by decide +kernel
theorem dX8_readStep_24 : decode cX8_readStep 24 = .ok (.getfield 31, 3) := by decide +kernel
theorem dX8_readStep_27 : decode cX8_readStep 27 = .ok (.bipush 30, 2) := by decide +kernel
theorem dX8_readStep_29 : decode cX8_readStep 29 = .ok (.if_icmp .lt 10, 3) := by decide +kernel
theorem dX8_readStep_32 : decode cX8_readStep 32 = .ok (.aload_n 1, 1) := by decide +kernel
theorem dX8_readStep_33 : decode cX8_readStep 33 = .ok (.bipush 6, 2) := by decide +kernel
theorem dX8_readStep_35 : decode cX8_readStep 35 = .ok (.invokevirtual 51, 3) := by decide +kernel
theorem dX8_readStep_38 : decode cX8_readStep 38 = .ok (.ireturn, 1) := by decide +kernel
theorem dX8_readStep_39 : decode cX8_readStep 39 = .ok (.iload_n 3, 1) := by decide +kernel
theorem dX8_readStep_40 : decode cX8_readStep 40 = .ok (.bipush 29, 2) := by decide +kernel
theorem dX8_readStep_42 : decode cX8_readStep 42 = .ok (.if_icmp .ne 18, 3) := by decide +kernel
theorem dX8_readStep_45 : decode cX8_readStep 45 = .ok (.aload_n 0, 1) := by decide +kernel
theorem dX8_readStep_46 : decode cX8_readStep 46 = .ok (.getfield 27, 3) := by decide +kernel
theorem dX8_readStep_49 : decode cX8_readStep 49 = .ok (.iconst 3, 1) := by decide +kernel
theorem dX8_readStep_50 : decode cX8_readStep 50 = .ok (.if_icmp .lt 10, 3) := by decide +kernel
theorem dX8_readStep_53 : decode cX8_readStep 53 = .ok (.aload_n 1, 1) := by decide +kernel
theorem dX8_readStep_54 : decode cX8_readStep 54 = .ok (.bipush 7, 2) := by decide +kernel
theorem dX8_readStep_56 : decode cX8_readStep 56 = .ok (.invokevirtual 51, 3) := by decide +kernel
theorem dX8_readStep_59 : decode cX8_readStep 59 = .ok (.ireturn, 1) := by decide +kernel
theorem dX8_readStep_60 : decode cX8_readStep 60 = .ok (.aload_n 1, 1) := by decide +kernel
theorem dX8_readStep_61 : decode cX8_readStep 61 = .ok (.invokevirtual 55, 3) := by decide +kernel
theorem dX8_readStep_64 : decode cX8_readStep 64 = .ok (.aload_n 0, 1) := by decide +kernel
theorem dX8_readStep_65 : decode cX8_readStep 65 = .ok (.getfield 9, 3) := by decide +kernel
theorem dX8_readStep_68 : decode cX8_readStep 68 = .ok (.aload_n 0, 1) := by decide +kernel
theorem dX8_readStep_69 : decode cX8_readStep 69 = .ok (.getfield 31, 3) := by decide +kernel
theorem dX8_readStep_72 : decode cX8_readStep 72 = .ok (.iload_n 3, 1) := by decide +kernel
theorem dX8_readStep_73 : decode cX8_readStep 73 = .ok (.iastore, 1) := by decide +kernel
theorem dX8_readStep_74 : decode cX8_readStep 74 = .ok (.iload_n 3, 1) := by decide +kernel
theorem dX8_readStep_75 : decode cX8_readStep 75 = .ok (.bipush 29, 2) := by decide +kernel
theorem dX8_readStep_77 : decode cX8_readStep 77 = .ok (.if_icmp .ne 15, 3) := by decide +kernel
theorem dX8_readStep_80 : decode cX8_readStep 80 = .ok (.aload_n 0, 1) := by decide +kernel
theorem dX8_readStep_81 : decode cX8_readStep 81 = .ok (.aload_n 1, 1) := by decide +kernel
theorem dX8_readStep_82 : decode cX8_readStep 82 = .ok (.aload_n 2, 1) := by decide +kernel
theorem dX8_readStep_83 : decode cX8_readStep 83 = .ok (.invokevirtual 61, 3) := by decide +kernel
theorem dX8_readStep_86 : decode cX8_readStep 86 = .ok (.ifCond .eq 15, 3) := by decide +kernel
theorem dX8_readStep_89 : decode cX8_readStep 89 = .ok (.goto 14, 3) := by decide +kernel
theorem dX8_readStep_92 : decode cX8_readStep 92 = .ok (.aload_n 0, 1) := by decide +kernel
theorem dX8_readStep_93 : decode cX8_readStep 93 = .ok (.aload_n 1, 1) := by decide +kernel
theorem dX8_readStep_94 : decode cX8_readStep 94 = .ok (.aload_n 2, 1) := by decide +kernel
theorem dX8_readStep_95 : decode cX8_readStep 95 = .ok (.invokevirtual 64, 3) := by decide +kernel
theorem dX8_readStep_98 : decode cX8_readStep 98 = .ok (.ifCond .ne 5, 3) := by decide +kernel
theorem dX8_readStep_101 : decode cX8_readStep 101 = .ok (.iconst 0, 1) := by decide +kernel
theorem dX8_readStep_102 : decode cX8_readStep 102 = .ok (.ireturn, 1) := by decide +kernel
theorem dX8_readStep_103 : decode cX8_readStep 103 = .ok (.aload_n 0, 1) := by decide +kernel
theorem dX8_readStep_104 : decode cX8_readStep 104 = .ok (.dup, 1) := by decide +kernel
theorem dX8_readStep_105 : decode cX8_readStep 105 = .ok (.getfield 31, 3) := by decide +kernel
theorem dX8_readStep_108 : decode cX8_readStep 108 = .ok (.iconst 1, 1) := by decide +kernel
theorem dX8_readStep_109 : decode cX8_readStep 109 = .ok (.iadd, 1) := by decide +kernel
theorem dX8_readStep_110 : decode cX8_readStep 110 = .ok (.putfield 31, 3) := by decide +kernel
theorem dX8_readStep_113 : decode cX8_readStep 113 = .ok (.aload_n 1, 1) := by decide +kernel
theorem dX8_readStep_114 : decode cX8_readStep 114 = .ok (.iconst 3, 1) := by decide +kernel
theorem dX8_readStep_115 : decode cX8_readStep 115 = .ok (.invokevirtual 58, 3) := by decide +kernel
theorem dX8_readStep_118 : decode cX8_readStep 118 = .ok (.ireturn, 1) := by decide +kernel
theorem dX8_readNames_0 : decode cX8_readNames 0 = .ok (.aload_n 0, 1) := by decide +kernel
theorem dX8_readNames_1 : decode cX8_readNames 1 = .ok (.getfield 9, 3) := by decide +kernel
theorem dX8_readNames_4 : decode cX8_readNames 4 = .ok (.aload_n 0, 1) := by decide +kernel
theorem dX8_readNames_5 : decode cX8_readNames 5 = .ok (.getfield 31, 3) := by decide +kernel
theorem dX8_readNames_8 : decode cX8_readNames 8 = .ok (.iaload, 1) := by decide +kernel
theorem dX8_readNames_9 : decode cX8_readNames 9 = .ok (.istore_n 3, 1) := by decide +kernel
theorem dX8_readNames_10 : decode cX8_readNames 10 = .ok (.iload_n 3, 1) := by decide +kernel
theorem dX8_readNames_11 : decode cX8_readNames 11 = .ok (.bipush 25, 2) := by decide +kernel
theorem dX8_readNames_13 : decode cX8_readNames 13 = .ok (.if_icmp .eq 9, 3) := by decide +kernel
theorem dX8_readNames_16 : decode cX8_readNames 16 = .ok (.iload_n 3, 1) := by decide +kernel
theorem dX8_readNames_17 : decode cX8_readNames 17 = .ok (.bipush 26, 2) := by decide +kernel
theorem dX8_readNames_19 : decode cX8_readNames 19 = .ok (.if_icmp .ne 21, 3) := by decide +kernel
theorem dX8_readNames_22 : decode cX8_readNames 22 = .ok (.aload_n 0, 1) := by decide +kernel
theorem dX8_readNames_23 : decode cX8_readNames 23 = .ok (.getfield 15, 3) := by decide +kernel
theorem dX8_readNames_26 : decode cX8_readNames 26 = .ok (.aload_n 0, 1) := by decide +kernel
theorem dX8_readNames_27 : decode cX8_readNames 27 = .ok (.getfield 31, 3) := by decide +kernel
theorem dX8_readNames_30 : decode cX8_readNames 30 = .ok (.aload_n 1, 1) := by decide +kernel
theorem dX8_readNames_31 : decode cX8_readNames 31 = .ok (.aload_n 2, 1) := by decide +kernel
theorem dX8_readNames_32 : decode cX8_readNames 32 = .ok (.iconst 3, 1) := by decide +kernel
theorem dX8_readNames_33 : decode cX8_readNames 33 = .ok (.invokevirtual 67, 3) := by decide +kernel
theorem dX8_readNames_36 : decode cX8_readNames 36 = .ok (.iastore, 1) := by decide +kernel
theorem dX8_readNames_37 : decode cX8_readNames 37 = .ok (.goto 24, 3) := by decide +kernel
theorem dX8_readNames_40 : decode cX8_readNames 40 = .ok (.iload_n 3, 1) := by decide +kernel
theorem dX8_readNames_41 : decode cX8_readNames 41 = .ok (.bipush 28, 2) := by decide +kernel
theorem dX8_readNames_43 : decode cX8_readNames 43 = .ok (.if_icmp .ne 18, 3) := by decide +kernel
theorem dX8_readNames_46 : decode cX8_readNames 46 = .ok (.aload_n 0, 1) := by decide +kernel
theorem dX8_readNames_47 : decode cX8_readNames 47 = .ok (.getfield 15, 3) := by decide +kernel
theorem dX8_readNames_50 : decode cX8_readNames 50 = .ok (.aload_n 0, 1) := by decide +kernel
theorem dX8_readNames_51 : decode cX8_readNames 51 = .ok (.getfield 31, 3) := by decide +kernel
theorem dX8_readNames_54 : decode cX8_readNames 54 = .ok (.aload_n 1, 1) := by decide +kernel
theorem dX8_readNames_55 : decode cX8_readNames 55 = .ok (.aload_n 2, 1) := by decide +kernel
theorem dX8_readNames_56 : decode cX8_readNames 56 = .ok (.iconst 2, 1) := by decide +kernel
theorem dX8_readNames_57 : decode cX8_readNames 57 = .ok (.invokevirtual 67, 3) := by decide +kernel
theorem dX8_readNames_60 : decode cX8_readNames 60 = .ok (.iastore, 1) := by decide +kernel
theorem dX8_readNames_61 : decode cX8_readNames 61 = .ok (.iload_n 3, 1) := by decide +kernel
theorem dX8_readNames_62 : decode cX8_readNames 62 = .ok (.bipush 25, 2) := by decide +kernel
theorem dX8_readNames_64 : decode cX8_readNames 64 = .ok (.if_icmp .ne 25, 3) := by decide +kernel
theorem dX8_readNames_67 : decode cX8_readNames 67 = .ok (.aload_n 1, 1) := by decide +kernel
theorem dX8_readNames_68 : decode cX8_readNames 68 = .ok (.getfield 71, 3) := by decide +kernel
theorem dX8_readNames_71 : decode cX8_readNames 71 = .ok (.ifCond .ne 18, 3) := by decide +kernel
theorem dX8_readNames_74 : decode cX8_readNames 74 = .ok (.aload_n 0, 1) := by decide +kernel
theorem dX8_readNames_75 : decode cX8_readNames 75 = .ok (.getfield 18, 3) := by decide +kernel
theorem dX8_readNames_78 : decode cX8_readNames 78 = .ok (.aload_n 0, 1) := by decide +kernel
theorem dX8_readNames_79 : decode cX8_readNames 79 = .ok (.getfield 31, 3) := by decide +kernel
theorem dX8_readNames_82 : decode cX8_readNames 82 = .ok (.aload_n 1, 1) := by decide +kernel
theorem dX8_readNames_83 : decode cX8_readNames 83 = .ok (.aload_n 2, 1) := by decide +kernel
theorem dX8_readNames_84 : decode cX8_readNames 84 = .ok (.iconst 2, 1) := by decide +kernel
theorem dX8_readNames_85 : decode cX8_readNames 85 = .ok (.invokevirtual 67, 3) := by decide +kernel
theorem dX8_readNames_88 : decode cX8_readNames 88 = .ok (.iastore, 1) := by decide +kernel
theorem dX8_readNames_89 : decode cX8_readNames 89 = .ok (.aload_n 1, 1) := by decide +kernel
theorem dX8_readNames_90 : decode cX8_readNames 90 = .ok (.getfield 71, 3) := by decide +kernel
theorem dX8_readNames_93 : decode cX8_readNames 93 = .ok (.ifCond .ne 7, 3) := by decide +kernel
theorem dX8_readNames_96 : decode cX8_readNames 96 = .ok (.iconst 1, 1) := by decide +kernel
theorem dX8_readNames_97 : decode cX8_readNames 97 = .ok (.goto 4, 3) := by decide +kernel
theorem dX8_readNames_100 : decode cX8_readNames 100 = .ok (.iconst 0, 1) := by decide +kernel
theorem dX8_readNames_101 : decode cX8_readNames 101 = .ok (.ireturn, 1) := by decide +kernel
theorem dX8_readTest_0 : decode cX8_readTest 0 = .ok (.aload_n 1, 1) := by decide +kernel
theorem dX8_readTest_1 : decode cX8_readTest 1 = .ok (.getfield 38, 3) := by decide +kernel
theorem dX8_readTest_4 : decode cX8_readTest 4 = .ok (.istore_n 3, 1) := by decide +kernel
theorem dX8_readTest_5 : decode cX8_readTest 5 = .ok (.iload_n 3, 1) := by decide +kernel
theorem dX8_readTest_6 : decode cX8_readTest 6 = .ok (.bipush 30, 2) := by decide +kernel
theorem dX8_readTest_8 : decode cX8_readTest 8 = .ok (.if_icmp .lt 9, 3) := by decide +kernel
theorem dX8_readTest_11 : decode cX8_readTest 11 = .ok (.iload_n 3, 1) := by decide +kernel
theorem dX8_readTest_12 : decode cX8_readTest 12 = .ok (.bipush 33, 2) := by decide +kernel
theorem dX8_readTest_14 : decode cX8_readTest 14 = .ok (.if_icmp .le 9, 3) := by decide +kernel
theorem dX8_readTest_17 : decode cX8_readTest 17 = .ok (.aload_n 1, 1) := by decide +kernel
theorem dX8_readTest_18 : decode cX8_readTest 18 = .ok (.iconst 2, 1) := by decide +kernel
theorem dX8_readTest_19 : decode cX8_readTest 19 = .ok (.invokevirtual 51, 3) := by decide +kernel
theorem dX8_readTest_22 : decode cX8_readTest 22 = .ok (.ireturn, 1) := by decide +kernel
theorem dX8_readTest_23 : decode cX8_readTest 23 = .ok (.aload_n 0, 1) := by decide +kernel
theorem dX8_readTest_24 : decode cX8_readTest 24 = .ok (.getfield 9, 3) := by decide +kernel
theorem dX8_readTest_27 : decode cX8_readTest 27 = .ok (.aload_n 0, 1) := by decide +kernel
theorem dX8_readTest_28 : decode cX8_readTest 28 = .ok (.getfield 31, 3) := by decide +kernel
theorem dX8_readTest_31 : decode cX8_readTest 31 = .ok (.iload_n 3, 1) := by decide +kernel
theorem dX8_readTest_32 : decode cX8_readTest 32 = .ok (.iastore, 1) := by decide +kernel
theorem dX8_readTest_33 : decode cX8_readTest 33 = .ok (.aload_n 0, 1) := by decide +kernel
theorem dX8_readTest_34 : decode cX8_readTest 34 = .ok (.getfield 24, 3) := by decide +kernel
theorem dX8_readTest_37 : decode cX8_readTest 37 = .ok (.aload_n 0, 1) := by decide +kernel
theorem dX8_readTest_38 : decode cX8_readTest 38 = .ok (.getfield 27, 3) := by decide +kernel
theorem dX8_readTest_41 : decode cX8_readTest 41 = .ok (.aload_n 0, 1) := by decide +kernel
theorem dX8_readTest_42 : decode cX8_readTest 42 = .ok (.getfield 31, 3) := by decide +kernel
theorem dX8_readTest_45 : decode cX8_readTest 45 = .ok (.iastore, 1) := by decide +kernel
theorem dX8_readTest_46 : decode cX8_readTest 46 = .ok (.aload_n 0, 1) := by decide +kernel
theorem dX8_readTest_47 : decode cX8_readTest 47 = .ok (.dup, 1) := by decide +kernel
theorem dX8_readTest_48 : decode cX8_readTest 48 = .ok (.getfield 27, 3) := by decide +kernel
theorem dX8_readTest_51 : decode cX8_readTest 51 = .ok (.iconst 1, 1) := by decide +kernel
theorem dX8_readTest_52 : decode cX8_readTest 52 = .ok (.iadd, 1) := by decide +kernel
theorem dX8_readTest_53 : decode cX8_readTest 53 = .ok (.putfield 27, 3) := by decide +kernel
theorem dX8_readTest_56 : decode cX8_readTest 56 = .ok (.aload_n 1, 1) := by decide +kernel
theorem dX8_readTest_57 : decode cX8_readTest 57 = .ok (.invokevirtual 55, 3) := by decide +kernel
theorem dX8_readTest_60 : decode cX8_readTest 60 = .ok (.aload_n 0, 1) := by decide +kernel
theorem dX8_readTest_61 : decode cX8_readTest 61 = .ok (.getfield 15, 3) := by decide +kernel
theorem dX8_readTest_64 : decode cX8_readTest 64 = .ok (.aload_n 0, 1) := by decide +kernel
theorem dX8_readTest_65 : decode cX8_readTest 65 = .ok (.getfield 31, 3) := by decide +kernel
theorem dX8_readTest_68 : decode cX8_readTest 68 = .ok (.iload_n 3, 1) := by decide +kernel
theorem dX8_readTest_69 : decode cX8_readTest 69 = .ok (.bipush 33, 2) := by decide +kernel
theorem dX8_readTest_71 : decode cX8_readTest 71 = .ok (.if_icmp .ne 14, 3) := by decide +kernel
theorem dX8_readTest_74 : decode cX8_readTest 74 = .ok (.aload_n 1, 1) := by decide +kernel
theorem dX8_readTest_75 : decode cX8_readTest 75 = .ok (.iconst 0, 1) := by decide +kernel
theorem dX8_readTest_76 : decode cX8_readTest 76 = .ok (.sipush 256, 3) := by decide +kernel
theorem dX8_readTest_79 : decode cX8_readTest 79 = .ok (.invokevirtual 74, 3) := by decide +kernel
theorem dX8_readTest_82 : decode cX8_readTest 82 = .ok (.goto 9, 3) := by decide +kernel
theorem dX8_readTest_85 : decode cX8_readTest 85 = .ok (.aload_n 1, 1) := by decide +kernel
theorem dX8_readTest_86 : decode cX8_readTest 86 = .ok (.aload_n 2, 1) := by decide +kernel
theorem dX8_readTest_87 : decode cX8_readTest 87 = .ok (.iconst 2, 1) := by decide +kernel
theorem dX8_readTest_88 : decode cX8_readTest 88 = .ok (.invokevirtual 67, 3) := by decide +kernel
theorem dX8_readTest_91 : decode cX8_readTest 91 = .ok (.iastore, 1) := by decide +kernel
theorem dX8_readTest_92 : decode cX8_readTest 92 = .ok (.aload_n 1, 1) := by decide +kernel
theorem dX8_readTest_93 : decode cX8_readTest 93 = .ok (.getfield 71, 3) := by decide +kernel
theorem dX8_readTest_96 : decode cX8_readTest 96 = .ok (.ifCond .ne 7, 3) := by decide +kernel
theorem dX8_readTest_99 : decode cX8_readTest 99 = .ok (.iconst 1, 1) := by decide +kernel
theorem dX8_readTest_100 : decode cX8_readTest 100 = .ok (.goto 4, 3) := by decide +kernel
theorem dX8_readTest_103 : decode cX8_readTest 103 = .ok (.iconst 0, 1) := by decide +kernel
theorem dX8_readTest_104 : decode cX8_readTest 104 = .ok (.ireturn, 1) := by decide +kernel
theorem dX8_copyFrom_0 : decode cX8_copyFrom 0 = .ok (.aload_n 1, 1) := by decide +kernel
theorem dX8_copyFrom_1 : decode cX8_copyFrom 1 = .ok (.getfield 9, 3) := by decide +kernel
theorem dX8_copyFrom_4 : decode cX8_copyFrom 4 = .ok (.iconst 0, 1) := by decide +kernel
theorem dX8_copyFrom_5 : decode cX8_copyFrom 5 = .ok (.aload_n 0, 1) := by decide +kernel
theorem dX8_copyFrom_6 : decode cX8_copyFrom 6 = .ok (.getfield 9, 3) := by decide +kernel
theorem dX8_copyFrom_9 : decode cX8_copyFrom 9 = .ok (.iconst 0, 1) := by decide +kernel
theorem dX8_copyFrom_10 : decode cX8_copyFrom 10 = .ok (.bipush 30, 2) := by decide +kernel
theorem dX8_copyFrom_12 : decode cX8_copyFrom 12 = .ok (.invokestatic 78, 3) := by decide +kernel
theorem dX8_copyFrom_15 : decode cX8_copyFrom 15 = .ok (.aload_n 1, 1) := by decide +kernel
theorem dX8_copyFrom_16 : decode cX8_copyFrom 16 = .ok (.getfield 15, 3) := by decide +kernel
theorem dX8_copyFrom_19 : decode cX8_copyFrom 19 = .ok (.iconst 0, 1) := by decide +kernel
theorem dX8_copyFrom_20 : decode cX8_copyFrom 20 = .ok (.aload_n 0, 1) := by decide +kernel
theorem dX8_copyFrom_21 : decode cX8_copyFrom 21 = .ok (.getfield 15, 3) := by decide +kernel
theorem dX8_copyFrom_24 : decode cX8_copyFrom 24 = .ok (.iconst 0, 1) := by decide +kernel
theorem dX8_copyFrom_25 : decode cX8_copyFrom 25 = .ok (.bipush 30, 2) := by decide +kernel
theorem dX8_copyFrom_27 : decode cX8_copyFrom 27 = .ok (.invokestatic 78, 3) := by decide +kernel
theorem dX8_copyFrom_30 : decode cX8_copyFrom 30 = .ok (.aload_n 1, 1) := by decide +kernel
theorem dX8_copyFrom_31 : decode cX8_copyFrom 31 = .ok (.getfield 18, 3) := by decide +kernel
theorem dX8_copyFrom_34 : decode cX8_copyFrom 34 = .ok (.iconst 0, 1) := by decide +kernel
theorem dX8_copyFrom_35 : decode cX8_copyFrom 35 = .ok (.aload_n 0, 1) := by decide +kernel
theorem dX8_copyFrom_36 : decode cX8_copyFrom 36 = .ok (.getfield 18, 3) := by decide +kernel
theorem dX8_copyFrom_39 : decode cX8_copyFrom 39 = .ok (.iconst 0, 1) := by decide +kernel
theorem dX8_copyFrom_40 : decode cX8_copyFrom 40 = .ok (.bipush 30, 2) := by decide +kernel
theorem dX8_copyFrom_42 : decode cX8_copyFrom 42 = .ok (.invokestatic 78, 3) := by decide +kernel
theorem dX8_copyFrom_45 : decode cX8_copyFrom 45 = .ok (.aload_n 1, 1) := by decide +kernel
theorem dX8_copyFrom_46 : decode cX8_copyFrom 46 = .ok (.getfield 21, 3) := by decide +kernel
theorem dX8_copyFrom_49 : decode cX8_copyFrom 49 = .ok (.iconst 0, 1) := by decide +kernel
theorem dX8_copyFrom_50 : decode cX8_copyFrom 50 = .ok (.aload_n 0, 1) := by decide +kernel
theorem dX8_copyFrom_51 : decode cX8_copyFrom 51 = .ok (.getfield 21, 3) := by decide +kernel
theorem dX8_copyFrom_54 : decode cX8_copyFrom 54 = .ok (.iconst 0, 1) := by decide +kernel
theorem dX8_copyFrom_55 : decode cX8_copyFrom 55 = .ok (.bipush 30, 2) := by decide +kernel
theorem dX8_copyFrom_57 : decode cX8_copyFrom 57 = .ok (.invokestatic 78, 3) := by decide +kernel
theorem dX8_copyFrom_60 : decode cX8_copyFrom 60 = .ok (.aload_n 0, 1) := by decide +kernel
theorem dX8_copyFrom_61 : decode cX8_copyFrom 61 = .ok (.aload_n 1, 1) := by decide +kernel
theorem dX8_copyFrom_62 : decode cX8_copyFrom 62 = .ok (.getfield 31, 3) := by decide +kernel
theorem dX8_copyFrom_65 : decode cX8_copyFrom 65 = .ok (.putfield 31, 3) := by decide +kernel
theorem dX8_copyFrom_68 : decode cX8_copyFrom 68 = .ok (.aload_n 0, 1) := by decide +kernel
theorem dX8_copyFrom_69 : decode cX8_copyFrom 69 = .ok (.aload_n 1, 1) := by decide +kernel
theorem dX8_copyFrom_70 : decode cX8_copyFrom 70 = .ok (.getfield 34, 3) := by decide +kernel
theorem dX8_copyFrom_73 : decode cX8_copyFrom 73 = .ok (.putfield 34, 3) := by decide +kernel
theorem dX8_copyFrom_76 : decode cX8_copyFrom 76 = .ok (.return_, 1) := by decide +kernel
theorem dX9_init_0 : decode cX9_init 0 = .ok (.aload_n 0, 1) := by decide +kernel
theorem dX9_init_1 : decode cX9_init 1 = .ok (.invokespecial 3, 3) := by decide +kernel
theorem dX9_init_4 : decode cX9_init 4 = .ok (.aload_n 0, 1) := by decide +kernel
theorem dX9_init_5 : decode cX9_init 5 = .ok (.sipush 768, 3) := by decide +kernel
theorem dX9_init_8 : decode cX9_init 8 = .ok (.newarray .int, 2) := by decide +kernel
theorem dX9_init_10 : decode cX9_init 10 = .ok (.putfield 9, 3) := by decide +kernel
theorem dX9_init_13 : decode cX9_init 13 = .ok (.aload_n 0, 1) := by decide +kernel
theorem dX9_init_14 : decode cX9_init 14 = .ok (.sipush 768, 3) := by decide +kernel
theorem dX9_init_17 : decode cX9_init 17 = .ok (.newarray .int, 2) := by decide +kernel
theorem dX9_init_19 : decode cX9_init 19 = .ok (.putfield 15, 3) := by decide +kernel
theorem dX9_init_22 : decode cX9_init 22 = .ok (.aload_n 0, 1) := by decide +kernel
theorem dX9_init_23 : decode cX9_init 23 = .ok (.iconst 3, 1) := by decide +kernel
theorem dX9_init_24 : decode cX9_init 24 = .ok (.newarray .int, 2) := by decide +kernel
theorem dX9_init_26 : decode cX9_init 26 = .ok (.putfield 18, 3) := by decide +kernel
theorem dX9_init_29 : decode cX9_init 29 = .ok (.aload_n 0, 1) := by decide +kernel
theorem dX9_init_30 : decode cX9_init 30 = .ok (.sipush 3072, 3) := by decide +kernel
theorem dX9_init_33 : decode cX9_init 33 = .ok (.newarray .int, 2) := by decide +kernel
theorem dX9_init_35 : decode cX9_init 35 = .ok (.putfield 21, 3) := by decide +kernel
theorem dX9_init_38 : decode cX9_init 38 = .ok (.aload_n 0, 1) := by decide +kernel
theorem dX9_init_39 : decode cX9_init 39 = .ok (.iconst 0, 1) := by decide +kernel
theorem dX9_init_40 : decode cX9_init 40 = .ok (.putfield 24, 3) := by decide +kernel
theorem dX9_init_43 : decode cX9_init 43 = .ok (.aload_n 0, 1) := by decide +kernel
theorem dX9_init_44 : decode cX9_init 44 = .ok (.iconst 0, 1) := by decide +kernel
theorem dX9_init_45 : decode cX9_init 45 = .ok (.putfield 28, 3) := by decide +kernel
theorem dX9_init_48 : decode cX9_init 48 = .ok (.aload_n 0, 1) := by decide +kernel
theorem dX9_init_49 : decode cX9_init 49 = .ok (.iconst 0, 1) := by decide +kernel
theorem dX9_init_50 : decode cX9_init 50 = .ok (.putfield 31, 3) := by decide +kernel
theorem dX9_init_53 : decode cX9_init 53 = .ok (.aload_n 0, 1) := by decide +kernel
theorem dX9_init_54 : decode cX9_init 54 = .ok (.iconst (-1), 1) := by decide +kernel
theorem dX9_init_55 : decode cX9_init 55 = .ok (.putfield 34, 3) := by decide +kernel
theorem dX9_init_58 : decode cX9_init 58 = .ok (.aload_n 0, 1) := by decide +kernel
theorem dX9_init_59 : decode cX9_init 59 = .ok (.aload_n 1, 1) := by decide +kernel
theorem dX9_init_60 : decode cX9_init 60 = .ok (.putfield 37, 3) := by decide +kernel
theorem dX9_init_63 : decode cX9_init 63 = .ok (.return_, 1) := by decide +kernel
theorem dX9_begin_0 : decode cX9_begin 0 = .ok (.aload_n 0, 1) := by decide +kernel
theorem dX9_begin_1 : decode cX9_begin 1 = .ok (.iload_n 1, 1) := by decide +kernel
theorem dX9_begin_2 : decode cX9_begin 2 = .ok (.putfield 31, 3) := by decide +kernel
theorem dX9_begin_5 : decode cX9_begin 5 = .ok (.aload_n 0, 1) := by decide +kernel
theorem dX9_begin_6 : decode cX9_begin 6 = .ok (.iload_n 2, 1) := by decide +kernel
theorem dX9_begin_7 : decode cX9_begin 7 = .ok (.putfield 34, 3) := by decide +kernel
theorem dX9_begin_10 : decode cX9_begin 10 = .ok (.aload_n 0, 1) := by decide +kernel
theorem dX9_begin_11 : decode cX9_begin 11 = .ok (.getfield 18, 3) := by decide +kernel
theorem dX9_begin_14 : decode cX9_begin 14 = .ok (.iconst 0, 1) := by decide +kernel
theorem dX9_begin_15 : decode cX9_begin 15 = .ok (.aload_n 0, 1) := by decide +kernel
theorem dX9_begin_16 : decode cX9_begin 16 = .ok (.getfield 37, 3) := by decide +kernel
theorem dX9_begin_19 : decode cX9_begin 19 = .ok (.getfield 41, 3) := by decide +kernel
theorem dX9_begin_22 : decode cX9_begin 22 = .ok (.iastore, 1) := by decide +kernel
theorem dX9_begin_23 : decode cX9_begin 23 = .ok (.iconst 0, 1) := by decide +kernel
theorem dX9_begin_24 : decode cX9_begin 24 = .ok (.istore_n 3, 1) := by decide +kernel
theorem dX9_begin_25 : decode cX9_begin 25 = .ok (.iload_n 3, 1) := by decide +kernel
theorem dX9_begin_26 : decode cX9_begin 26 = .ok (.aload_n 0, 1) := by decide +kernel
theorem dX9_begin_27 : decode cX9_begin 27 = .ok (.getfield 37, 3) := by decide +kernel
theorem dX9_begin_30 : decode cX9_begin 30 = .ok (.getfield 41, 3) := by decide +kernel
theorem dX9_begin_33 : decode cX9_begin 33 = .ok (.if_icmp .ge 58, 3) := by decide +kernel
theorem dX9_begin_36 : decode cX9_begin 36 = .ok (.aload_n 0, 1) := by decide +kernel
theorem dX9_begin_37 : decode cX9_begin 37 = .ok (.getfield 9, 3) := by decide +kernel
theorem dX9_begin_40 : decode cX9_begin 40 = .ok (.iload_n 3, 1) := by decide +kernel
theorem dX9_begin_41 : decode cX9_begin 41 = .ok (.aload_n 0, 1) := by decide +kernel
theorem dX9_begin_42 : decode cX9_begin 42 = .ok (.getfield 37, 3) := by decide +kernel
theorem dX9_begin_45 : decode cX9_begin 45 = .ok (.getfield 46, 3) := by decide +kernel
theorem dX9_begin_48 : decode cX9_begin 48 = .ok (.iload_n 3, 1) := by decide +kernel
theorem dX9_begin_49 : decode cX9_begin 49 = .ok (.iaload, 1) := by decide +kernel
theorem dX9_begin_50 : decode cX9_begin 50 = .ok (.iastore, 1) := by decide +kernel
theorem dX9_begin_51 : decode cX9_begin 51 = .ok (.aload_n 0, 1) := by decide +kernel
theorem dX9_begin_52 : decode cX9_begin 52 = .ok (.getfield 15, 3) := by decide +kernel
theorem dX9_begin_55 : decode cX9_begin 55 = .ok (.iload_n 3, 1) := by decide +kernel
theorem dX9_begin_56 : decode cX9_begin 56 = .ok (.aload_n 0, 1) := by decide +kernel
theorem dX9_begin_57 : decode cX9_begin 57 = .ok (.getfield 37, 3) := by decide +kernel
theorem dX9_begin_60 : decode cX9_begin 60 = .ok (.getfield 49, 3) := by decide +kernel
theorem dX9_begin_63 : decode cX9_begin 63 = .ok (.aload_n 0, 1) := by decide +kernel
theorem dX9_begin_64 : decode cX9_begin 64 = .ok (.getfield 37, 3) := by decide +kernel
theorem dX9_begin_67 : decode cX9_begin 67 = .ok (.getfield 46, 3) := by decide +kernel
theorem dX9_begin_70 : decode cX9_begin 70 = .ok (.iload_n 3, 1) := by decide +kernel
theorem dX9_begin_71 : decode cX9_begin 71 = .ok (.iaload, 1) := by decide +kernel
theorem dX9_begin_72 : decode cX9_begin 72 = .ok (.iaload, 1) := by decide +kernel
theorem dX9_begin_73 : decode cX9_begin 73 = .ok (.aload_n 0, 1) := by decide +kernel
theorem dX9_begin_74 : decode cX9_begin 74 = .ok (.getfield 37, 3) := by decide +kernel
theorem dX9_begin_77 : decode cX9_begin 77 = .ok (.getfield 52, 3) := by decide +kernel
theorem dX9_begin_80 : decode cX9_begin 80 = .ok (.getfield 56, 3) := by decide +kernel
theorem dX9_begin_83 : decode cX9_begin 83 = .ok (.iand, 1) := by decide +kernel
theorem dX9_begin_84 : decode cX9_begin 84 = .ok (.iastore, 1) := by decide +kernel
theorem dX9_begin_85 : decode cX9_begin 85 = .ok (.iinc 3 1, 3) := by decide +kernel
theorem dX9_begin_88 : decode cX9_begin 88 = .ok (.goto (-63), 3) := by decide +kernel
theorem dX9_begin_91 : decode cX9_begin 91 = .ok (.return_, 1) := by decide +kernel
theorem dX9_firstOf_0 : decode cX9_firstOf 0 = .ok (.aload_n 0, 1) := by decide +kernel
theorem dX9_firstOf_1 : decode cX9_firstOf 1 = .ok (.getfield 37, 3) := by decide +kernel
theorem dX9_firstOf_4 : decode cX9_firstOf 4 = .ok (.getfield 52, 3) := by decide +kernel
theorem dX9_firstOf_7 : decode cX9_firstOf 7 = .ok (.astore 4, 2) := by decide +kernel
theorem dX9_firstOf_9 : decode cX9_firstOf 9 = .ok (.iconst 0, 1) := by decide +kernel
theorem dX9_firstOf_10 : decode cX9_firstOf 10 = .ok (.istore 5, 2) := by decide +kernel
theorem dX9_firstOf_12 : decode cX9_firstOf 12 = .ok (.iload 5, 2) := by decide +kernel
theorem dX9_firstOf_14 : decode cX9_firstOf 14 = .ok (.aload 4, 2) := by decide +kernel
theorem dX9_firstOf_16 : decode cX9_firstOf 16 = .ok (.getfield 61, 3) := by decide +kernel
theorem dX9_firstOf_19 : decode cX9_firstOf 19 = .ok (.if_icmp .ge 80, 3) := by decide +kernel
theorem dX9_firstOf_22 : decode cX9_firstOf 22 = .ok (.aload_n 0, 1) := by decide +kernel
theorem dX9_firstOf_23 : decode cX9_firstOf 23 = .ok (.getfield 34, 3) := by decide +kernel
theorem dX9_firstOf_26 : decode cX9_firstOf 26 = .ok (.iconst (-1), 1) := by decide +kernel
theorem dX9_firstOf_27 : decode cX9_firstOf 27 = .ok (.if_icmp .eq 15, 3) := by decide +kernel
theorem dX9_firstOf_30 : decode cX9_firstOf 30 = .ok (.iload 5, 2) := by decide +kernel
theorem dX9_firstOf_32 : decode cX9_firstOf 32 = .ok (.aload_n 0, 1) := by decide +kernel
theorem dX9_firstOf_33 : decode cX9_firstOf 33 = .ok (.getfield 34, 3) := by decide +kernel
theorem dX9_firstOf_36 : decode cX9_firstOf 36 = .ok (.if_icmp .eq 6, 3) := by decide +kernel
theorem dX9_firstOf_39 : decode cX9_firstOf 39 = .ok (.goto 54, 3) := by decide +kernel
theorem dX9_firstOf_42 : decode cX9_firstOf 42 = .ok (.iconst 0, 1) := by decide +kernel
theorem dX9_firstOf_43 : decode cX9_firstOf 43 = .ok (.istore 6, 2) := by decide +kernel
theorem dX9_firstOf_45 : decode cX9_firstOf 45 = .ok (.iload 6, 2) := by decide +kernel
theorem dX9_firstOf_47 : decode cX9_firstOf 47 = .ok (.aload 4, 2) := by decide +kernel
theorem dX9_firstOf_49 : decode cX9_firstOf 49 = .ok (.getfield 64, 3) := by decide +kernel
theorem dX9_firstOf_52 : decode cX9_firstOf 52 = .ok (.if_icmp .ge 41, 3) := by decide +kernel
theorem dX9_firstOf_55 : decode cX9_firstOf 55 = .ok (.iload_n 3, 1) := by decide +kernel
theorem dX9_firstOf_56 : decode cX9_firstOf 56 = .ok (.iload 6, 2) := by decide +kernel
theorem dX9_firstOf_58 : decode cX9_firstOf 58 = .ok (.ishr, 1) := by decide +kernel
theorem dX9_firstOf_59 : decode cX9_firstOf 59 = .ok (.iconst 1, 1) := by decide +kernel
theorem dX9_firstOf_60 : decode cX9_firstOf 60 = .ok (.iand, 1) := by decide +kernel
theorem dX9_firstOf_61 : decode cX9_firstOf 61 = .ok (.ifCond .ne 26, 3) := by decide +kernel
theorem dX9_firstOf_64 : decode cX9_firstOf 64 = .ok (.aload_n 0, 1) := by decide +kernel
theorem dX9_firstOf_65 : decode cX9_firstOf 65 = .ok (.iload_n 1, 1) := by decide +kernel
theorem dX9_firstOf_66 : decode cX9_firstOf 66 = .ok (.iload 5, 2) := by decide +kernel
theorem dX9_firstOf_68 : decode cX9_firstOf 68 = .ok (.iload 6, 2) := by decide +kernel
theorem dX9_firstOf_70 : decode cX9_firstOf 70 = .ok (.iload_n 2, 1) := by decide +kernel
theorem dX9_firstOf_71 : decode cX9_firstOf 71 = .ok (.iload_n 3, 1) := by decide +kernel
theorem dX9_firstOf_72 : decode cX9_firstOf 72 = .ok (.invokevirtual 67, 3) := by decide +kernel
theorem dX9_firstOf_75 : decode cX9_firstOf 75 = .ok (.ifCond .eq 12, 3) := by decide +kernel
theorem dX9_firstOf_78 : decode cX9_firstOf 78 = .ok (.iload 5, 2) := by decide +kernel
theorem dX9_firstOf_80 : decode cX9_firstOf 80 = .ok (.bipush 12, 2) := by decide +kernel
theorem dX9_firstOf_82 : decode cX9_firstOf 82 = .ok (.imul, 1) := by decide +kernel
theorem dX9_firstOf_83 : decode cX9_firstOf 83 = .ok (.iload 6, 2) := by decide +kernel
theorem dX9_firstOf_85 : decode cX9_firstOf 85 = .ok (.iadd, 1) := by decide +kernel
theorem dX9_firstOf_86 : decode cX9_firstOf 86 = .ok (.ireturn, 1) := by decide +kernel
theorem dX9_firstOf_87 : decode cX9_firstOf 87 = .ok (.iinc 6 1, 3) := by decide +kernel
theorem dX9_firstOf_90 : decode cX9_firstOf 90 = .ok (.goto (-45), 3) := by decide +kernel
theorem dX9_firstOf_93 : decode cX9_firstOf 93 = .ok (.iinc 5 1, 3) := by decide +kernel
theorem dX9_firstOf_96 : decode cX9_firstOf 96 = .ok (.goto (-84), 3) := by decide +kernel
theorem dX9_firstOf_99 : decode cX9_firstOf 99 = .ok (.iconst (-1), 1) := by decide +kernel
theorem dX9_firstOf_100 : decode cX9_firstOf 100 = .ok (.ireturn, 1) := by decide +kernel
theorem dX9_settles_0 : decode cX9_settles 0 = .ok (.aload_n 0, 1) := by decide +kernel
theorem dX9_settles_1 : decode cX9_settles 1 = .ok (.iload_n 1, 1) := by decide +kernel
theorem dX9_settles_2 : decode cX9_settles 2 = .ok (.iload_n 2, 1) := by decide +kernel
theorem dX9_settles_3 : decode cX9_settles 3 = .ok (.iload_n 3, 1) := by decide +kernel
theorem dX9_settles_4 : decode cX9_settles 4 = .ok (.iload 4, 2) := by decide +kernel
theorem dX9_settles_6 : decode cX9_settles 6 = .ok (.iconst 1, 1) := by decide +kernel
theorem dX9_settles_7 : decode cX9_settles 7 = .ok (.if_icmp .ne 7, 3) := by decide +kernel
theorem dX9_settles_10 : decode cX9_settles 10 = .ok (.iconst 1, 1) := by decide +kernel
theorem dX9_settles_11 : decode cX9_settles 11 = .ok (.goto 4, 3) := by decide +kernel
theorem dX9_settles_14 : decode cX9_settles 14 = .ok (.iconst 0, 1) := by decide +kernel
theorem dX9_settles_15 : decode cX9_settles 15 = .ok (.invokevirtual 71, 3) := by decide +kernel
theorem dX9_settles_18 : decode cX9_settles 18 = .ok (.istore 6, 2) := by decide +kernel
theorem dX9_settles_20 : decode cX9_settles 20 = .ok (.iload 6, 2) := by decide +kernel
theorem dX9_settles_22 : decode cX9_settles 22 = .ok (.ifCond .ne 5, 3) := by decide +kernel
theorem dX9_settles_25 : decode cX9_settles 25 = .ok (.iconst 1, 1) := by decide +kernel
theorem dX9_settles_26 : decode cX9_settles 26 = .ok (.ireturn, 1) := by decide +kernel
theorem dX9_settles_27 : decode cX9_settles 27 = .ok (.iload 4, 2) := by decide +kernel
theorem dX9_settles_29 : decode cX9_settles 29 = .ok (.iconst 1, 1) := by decide +kernel
theorem dX9_settles_30 : decode cX9_settles 30 = .ok (.if_icmp .eq 10, 3) := by decide +kernel
theorem dX9_settles_33 : decode cX9_settles 33 = .ok (.iload_n 1, 1) := by decide +kernel
theorem dX9_settles_34 : decode cX9_settles 34 = .ok (.iconst 1, 1) := by decide +kernel
theorem dX9_settles_35 : decode cX9_settles 35 = .ok (.iadd, 1) := by decide +kernel
theorem dX9_settles_36 : decode cX9_settles 36 = .ok (.iconst 3, 1) := by decide +kernel
theorem dX9_settles_37 : decode cX9_settles 37 = .ok (.if_icmp .lt 5, 3) := by decide +kernel
theorem dX9_settles_40 : decode cX9_settles 40 = .ok (.iconst 0, 1) := by decide +kernel
theorem dX9_settles_41 : decode cX9_settles 41 = .ok (.ireturn, 1) := by decide +kernel
theorem dX9_settles_42 : decode cX9_settles 42 = .ok (.iconst 0, 1) := by decide +kernel
theorem dX9_settles_43 : decode cX9_settles 43 = .ok (.istore 7, 2) := by decide +kernel
theorem dX9_settles_45 : decode cX9_settles 45 = .ok (.iload 7, 2) := by decide +kernel
theorem dX9_settles_47 : decode cX9_settles 47 = .ok (.bipush 24, 2) := by decide +kernel
theorem dX9_settles_49 : decode cX9_settles 49 = .ok (.if_icmp .ge 59, 3) := by decide +kernel
theorem dX9_settles_52 : decode cX9_settles 52 = .ok (.iload 6, 2) := by decide +kernel
theorem dX9_settles_54 : decode cX9_settles 54 = .ok (.iload 7, 2) := by decide +kernel
theorem dX9_settles_56 : decode cX9_settles 56 = .ok (.ishr, 1) := by decide +kernel
theorem dX9_settles_57 : decode cX9_settles 57 = .ok (.ifCond .eq 51, 3) := by decide +kernel
theorem dX9_settles_60 : decode cX9_settles 60 = .ok (.iload 6, 2) := by decide +kernel
theorem dX9_settles_62 : decode cX9_settles 62 = .ok (.iload 7, 2) := by decide +kernel
theorem dX9_settles_64 : decode cX9_settles 64 = .ok (.ishr, 1) := by decide +kernel
theorem dX9_settles_65 : decode cX9_settles 65 = .ok (.iconst 1, 1) := by decide +kernel
theorem dX9_settles_66 : decode cX9_settles 66 = .ok (.iand, 1) := by decide +kernel
theorem dX9_settles_67 : decode cX9_settles 67 = .ok (.ifCond .eq 35, 3) := by decide +kernel
theorem dX9_settles_70 : decode cX9_settles 70 = .ok (.aload_n 0, 1) := by decide +kernel
theorem dX9_settles_71 : decode cX9_settles 71 = .ok (.iload_n 1, 1) := by decide +kernel
theorem dX9_settles_72 : decode cX9_settles 72 = .ok (.iload_n 2, 1) := by decide +kernel
theorem dX9_settles_73 : decode cX9_settles 73 = .ok (.iload_n 3, 1) := by decide +kernel
theorem dX9_settles_74 : decode cX9_settles 74 = .ok (.iload 7, 2) := by decide +kernel
theorem dX9_settles_76 : decode cX9_settles 76 = .ok (.invokevirtual 75, 3) := by decide +kernel
theorem dX9_settles_79 : decode cX9_settles 79 = .ok (.aload_n 0, 1) := by decide +kernel
theorem dX9_settles_80 : decode cX9_settles 80 = .ok (.iload_n 1, 1) := by decide +kernel
theorem dX9_settles_81 : decode cX9_settles 81 = .ok (.iconst 1, 1) := by decide +kernel
theorem dX9_settles_82 : decode cX9_settles 82 = .ok (.iadd, 1) := by decide +kernel
theorem dX9_settles_83 : decode cX9_settles 83 = .ok (.iload 4, 2) := by decide +kernel
theorem dX9_settles_85 : decode cX9_settles 85 = .ok (.iconst 1, 1) := by decide +kernel
theorem dX9_settles_86 : decode cX9_settles 86 = .ok (.isub, 1) := by decide +kernel
theorem dX9_settles_87 : decode cX9_settles 87 = .ok (.iload 5, 2) := by decide +kernel
theorem dX9_settles_89 : decode cX9_settles 89 = .ok (.iconst 1, 1) := by decide +kernel
theorem dX9_settles_90 : decode cX9_settles 90 = .ok (.iload_n 3, 1) := by decide +kernel
theorem dX9_settles_91 : decode cX9_settles 91 = .ok (.ishl, 1) := by decide +kernel
theorem dX9_settles_92 : decode cX9_settles 92 = .ok (.ior, 1) := by decide +kernel
theorem dX9_settles_93 : decode cX9_settles 93 = .ok (.invokevirtual 79, 3) := by decide +kernel
theorem dX9_settles_96 : decode cX9_settles 96 = .ok (.iconst (-1), 1) := by decide +kernel
theorem dX9_settles_97 : decode cX9_settles 97 = .ok (.if_icmp .ne 5, 3) := by decide +kernel
theorem dX9_settles_100 : decode cX9_settles 100 = .ok (.iconst 0, 1) := by decide +kernel
theorem dX9_settles_101 : decode cX9_settles 101 = .ok (.ireturn, 1) := by decide +kernel
theorem dX9_settles_102 : decode cX9_settles 102 = .ok (.iinc 7 1, 3) := by decide +kernel
theorem dX9_settles_105 : decode cX9_settles 105 = .ok (.goto (-60), 3) := by decide +kernel
theorem dX9_settles_108 : decode cX9_settles 108 = .ok (.iconst 1, 1) := by decide +kernel
theorem dX9_settles_109 : decode cX9_settles 109 = .ok (.ireturn, 1) := by decide +kernel
theorem dX9_openBehind_0 : decode cX9_openBehind 0 = .ok (.aload_n 0, 1) := by decide +kernel
theorem dX9_openBehind_1 : decode cX9_openBehind 1 = .ok (.getfield 37, 3) := by decide +kernel
theorem dX9_openBehind_4 : decode cX9_openBehind 4 = .ok (.getfield 52, 3) := by decide +kernel
theorem dX9_openBehind_7 : decode cX9_openBehind 7 = .ok (.astore 5, 2) := by decide +kernel
theorem dX9_openBehind_9 : decode cX9_openBehind 9 = .ok (.iload_n 1, 1) := by decide +kernel
theorem dX9_openBehind_10 : decode cX9_openBehind 10 = .ok (.sipush 256, 3) := by decide +kernel
theorem dX9_openBehind_13 : decode cX9_openBehind 13 = .ok (.imul, 1) := by decide +kernel
theorem dX9_openBehind_14 : decode cX9_openBehind 14 = .ok (.istore 6, 2) := by decide +kernel
theorem dX9_openBehind_16 : decode cX9_openBehind 16 = .ok (.iconst 0, 1) := by decide +kernel
theorem dX9_openBehind_17 : decode cX9_openBehind 17 = .ok (.istore 7, 2) := by decide +kernel
theorem dX9_openBehind_19 : decode cX9_openBehind 19 = .ok (.iconst 0, 1) := by decide +kernel
theorem dX9_openBehind_20 : decode cX9_openBehind 20 = .ok (.istore 8, 2) := by decide +kernel
theorem dX9_openBehind_22 : decode cX9_openBehind 22 = .ok (.iload 6, 2) := by decide +kernel
theorem dX9_openBehind_24 : decode cX9_openBehind 24 = .ok (.istore 9, 2) := by decide +kernel
theorem dX9_openBehind_26 : decode cX9_openBehind 26 = .ok (.iload 9, 2) := by decide +kernel
theorem dX9_openBehind_28 : decode cX9_openBehind 28 = .ok (.iload 6, 2) := by decide +kernel
theorem dX9_openBehind_30 : decode cX9_openBehind 30 = .ok (.aload_n 0, 1) := by decide +kernel
theorem dX9_openBehind_31 : decode cX9_openBehind 31 = .ok (.getfield 18, 3) := by decide +kernel
theorem dX9_openBehind_34 : decode cX9_openBehind 34 = .ok (.iload_n 1, 1) := by decide +kernel
theorem dX9_openBehind_35 : decode cX9_openBehind 35 = .ok (.iaload, 1) := by decide +kernel
theorem dX9_openBehind_36 : decode cX9_openBehind 36 = .ok (.iadd, 1) := by decide +kernel
theorem dX9_openBehind_37 : decode cX9_openBehind 37 = .ok (.if_icmp .ge 96, 3) := by decide +kernel
theorem dX9_openBehind_40 : decode cX9_openBehind 40 = .ok (.iload 4, 2) := by decide +kernel
theorem dX9_openBehind_42 : decode cX9_openBehind 42 = .ok (.ifCond .eq 11, 3) := by decide +kernel
theorem dX9_openBehind_45 : decode cX9_openBehind 45 = .ok (.iload 7, 2) := by decide +kernel
theorem dX9_openBehind_47 : decode cX9_openBehind 47 = .ok (.iload 8, 2) := by decide +kernel
theorem dX9_openBehind_49 : decode cX9_openBehind 49 = .ok (.iand, 1) := by decide +kernel
theorem dX9_openBehind_50 : decode cX9_openBehind 50 = .ok (.ifCond .ne 83, 3) := by decide +kernel
theorem dX9_openBehind_53 : decode cX9_openBehind 53 = .ok (.aload_n 0, 1) := by decide +kernel
theorem dX9_openBehind_54 : decode cX9_openBehind 54 = .ok (.getfield 15, 3) := by decide +kernel
theorem dX9_openBehind_57 : decode cX9_openBehind 57 = .ok (.iload 9, 2) := by decide +kernel
theorem dX9_openBehind_59 : decode cX9_openBehind 59 = .ok (.iaload, 1) := by decide +kernel
theorem dX9_openBehind_60 : decode cX9_openBehind 60 = .ok (.iload_n 2, 1) := by decide +kernel
theorem dX9_openBehind_61 : decode cX9_openBehind 61 = .ok (.iconst 4, 1) := by decide +kernel
theorem dX9_openBehind_62 : decode cX9_openBehind 62 = .ok (.imul, 1) := by decide +kernel
theorem dX9_openBehind_63 : decode cX9_openBehind 63 = .ok (.ishr, 1) := by decide +kernel
theorem dX9_openBehind_64 : decode cX9_openBehind 64 = .ok (.bipush 15, 2) := by decide +kernel
theorem dX9_openBehind_66 : decode cX9_openBehind 66 = .ok (.iand, 1) := by decide +kernel
theorem dX9_openBehind_67 : decode cX9_openBehind 67 = .ok (.istore 10, 2) := by decide +kernel
theorem dX9_openBehind_69 : decode cX9_openBehind 69 = .ok (.aload 5, 2) := by decide +kernel
theorem dX9_openBehind_71 : decode cX9_openBehind 71 = .ok (.iload_n 2, 1) := by decide +kernel
theorem dX9_openBehind_72 : decode cX9_openBehind 72 = .ok (.iload_n 3, 1) := by decide +kernel
theorem dX9_openBehind_73 : decode cX9_openBehind 73 = .ok (.aload_n 0, 1) := by decide +kernel
theorem dX9_openBehind_74 : decode cX9_openBehind 74 = .ok (.getfield 9, 3) := by decide +kernel
theorem dX9_openBehind_77 : decode cX9_openBehind 77 = .ok (.iload 9, 2) := by decide +kernel
theorem dX9_openBehind_79 : decode cX9_openBehind 79 = .ok (.iaload, 1) := by decide +kernel
theorem dX9_openBehind_80 : decode cX9_openBehind 80 = .ok (.invokevirtual 83, 3) := by decide +kernel
theorem dX9_openBehind_83 : decode cX9_openBehind 83 = .ok (.iload 10, 2) := by decide +kernel
theorem dX9_openBehind_85 : decode cX9_openBehind 85 = .ok (.invokestatic 86, 3) := by decide +kernel
theorem dX9_openBehind_88 : decode cX9_openBehind 88 = .ok (.istore 11, 2) := by decide +kernel
theorem dX9_openBehind_90 : decode cX9_openBehind 90 = .ok (.aload 5, 2) := by decide +kernel
theorem dX9_openBehind_92 : decode cX9_openBehind 92 = .ok (.aload_n 0, 1) := by decide +kernel
theorem dX9_openBehind_93 : decode cX9_openBehind 93 = .ok (.getfield 31, 3) := by decide +kernel
theorem dX9_openBehind_96 : decode cX9_openBehind 96 = .ok (.aload_n 0, 1) := by decide +kernel
theorem dX9_openBehind_97 : decode cX9_openBehind 97 = .ok (.getfield 9, 3) := by decide +kernel
theorem dX9_openBehind_100 : decode cX9_openBehind 100 = .ok (.iload 9, 2) := by decide +kernel
theorem dX9_openBehind_102 : decode cX9_openBehind 102 = .ok (.iaload, 1) := by decide +kernel
theorem dX9_openBehind_103 : decode cX9_openBehind 103 = .ok (.invokevirtual 90, 3) := by decide +kernel
theorem dX9_openBehind_106 : decode cX9_openBehind 106 = .ok (.iconst 1, 1) := by decide +kernel
theorem dX9_openBehind_107 : decode cX9_openBehind 107 = .ok (.if_icmp .ne 13, 3) := by decide +kernel
theorem dX9_openBehind_110 : decode cX9_openBehind 110 = .ok (.iload 7, 2) := by decide +kernel
theorem dX9_openBehind_112 : decode cX9_openBehind 112 = .ok (.iload 11, 2) := by decide +kernel
theorem dX9_openBehind_114 : decode cX9_openBehind 114 = .ok (.ior, 1) := by decide +kernel
theorem dX9_openBehind_115 : decode cX9_openBehind 115 = .ok (.istore 7, 2) := by decide +kernel
theorem dX9_openBehind_117 : decode cX9_openBehind 117 = .ok (.goto 10, 3) := by decide +kernel
theorem dX9_openBehind_120 : decode cX9_openBehind 120 = .ok (.iload 8, 2) := by decide +kernel
theorem dX9_openBehind_122 : decode cX9_openBehind 122 = .ok (.iload 11, 2) := by decide +kernel
theorem dX9_openBehind_124 : decode cX9_openBehind 124 = .ok (.ior, 1) := by decide +kernel
theorem dX9_openBehind_125 : decode cX9_openBehind 125 = .ok (.istore 8, 2) := by decide +kernel
theorem dX9_openBehind_127 : decode cX9_openBehind 127 = .ok (.iinc 9 1, 3) := by decide +kernel
theorem dX9_openBehind_130 : decode cX9_openBehind 130 = .ok (.goto (-104), 3) := by decide +kernel
theorem dX9_openBehind_133 : decode cX9_openBehind 133 = .ok (.iload 7, 2) := by decide +kernel
theorem dX9_openBehind_135 : decode cX9_openBehind 135 = .ok (.iload 8, 2) := by decide +kernel
theorem dX9_openBehind_137 : decode cX9_openBehind 137 = .ok (.iand, 1) := by decide +kernel
theorem dX9_openBehind_138 : decode cX9_openBehind 138 = .ok (.ireturn, 1) := by decide +kernel
theorem dX9_descend_0 : decode cX9_descend 0 = .ok (.iload_n 1, 1) := by decide +kernel
theorem dX9_descend_1 : decode cX9_descend 1 = .ok (.sipush 256, 3) := by decide +kernel
theorem dX9_descend_4 : decode cX9_descend 4 = .ok (.imul, 1) := by decide +kernel
theorem dX9_descend_5 : decode cX9_descend 5 = .ok (.istore 5, 2) := by decide +kernel
theorem dX9_descend_7 : decode cX9_descend 7 = .ok (.iload 5, 2) := by decide +kernel
theorem dX9_descend_9 : decode cX9_descend 9 = .ok (.sipush 256, 3) := by decide +kernel
theorem dX9_descend_12 : decode cX9_descend 12 = .ok (.iadd, 1) := by decide +kernel
theorem dX9_descend_13 : decode cX9_descend 13 = .ok (.istore 6, 2) := by decide +kernel
theorem dX9_descend_15 : decode cX9_descend 15 = .ok (.iload_n 2, 1) := by decide +kernel
theorem dX9_descend_16 : decode cX9_descend 16 = .ok (.iconst 4, 1) := by decide +kernel
theorem dX9_descend_17 : decode cX9_descend 17 = .ok (.imul, 1) := by decide +kernel
theorem dX9_descend_18 : decode cX9_descend 18 = .ok (.istore 7, 2) := by decide +kernel
theorem dX9_descend_20 : decode cX9_descend 20 = .ok (.iconst 0, 1) := by decide +kernel
theorem dX9_descend_21 : decode cX9_descend 21 = .ok (.istore 8, 2) := by decide +kernel
theorem dX9_descend_23 : decode cX9_descend 23 = .ok (.iload 5, 2) := by decide +kernel
theorem dX9_descend_25 : decode cX9_descend 25 = .ok (.istore 9, 2) := by decide +kernel
theorem dX9_descend_27 : decode cX9_descend 27 = .ok (.iload 9, 2) := by decide +kernel
theorem dX9_descend_29 : decode cX9_descend 29 = .ok (.iload 5, 2) := by decide +kernel
theorem dX9_descend_31 : decode cX9_descend 31 = .ok (.aload_n 0, 1) := by decide +kernel
theorem dX9_descend_32 : decode cX9_descend 32 = .ok (.getfield 18, 3) := by decide +kernel
theorem dX9_descend_35 : decode cX9_descend 35 = .ok (.iload_n 1, 1) := by decide +kernel
theorem dX9_descend_36 : decode cX9_descend 36 = .ok (.iaload, 1) := by decide +kernel
theorem dX9_descend_37 : decode cX9_descend 37 = .ok (.iadd, 1) := by decide +kernel
theorem dX9_descend_38 : decode cX9_descend 38 = .ok (.if_icmp .ge 113, 3) := by decide +kernel
theorem dX9_descend_41 : decode cX9_descend 41 = .ok (.aload_n 0, 1) := by decide +kernel
theorem dX9_descend_42 : decode cX9_descend 42 = .ok (.getfield 15, 3) := by decide +kernel
theorem dX9_descend_45 : decode cX9_descend 45 = .ok (.iload 9, 2) := by decide +kernel
theorem dX9_descend_47 : decode cX9_descend 47 = .ok (.iaload, 1) := by decide +kernel
theorem dX9_descend_48 : decode cX9_descend 48 = .ok (.iload 7, 2) := by decide +kernel
theorem dX9_descend_50 : decode cX9_descend 50 = .ok (.ishr, 1) := by decide +kernel
theorem dX9_descend_51 : decode cX9_descend 51 = .ok (.bipush 15, 2) := by decide +kernel
theorem dX9_descend_53 : decode cX9_descend 53 = .ok (.iand, 1) := by decide +kernel
theorem dX9_descend_54 : decode cX9_descend 54 = .ok (.istore 10, 2) := by decide +kernel
theorem dX9_descend_56 : decode cX9_descend 56 = .ok (.aload_n 0, 1) := by decide +kernel
theorem dX9_descend_57 : decode cX9_descend 57 = .ok (.getfield 37, 3) := by decide +kernel
theorem dX9_descend_60 : decode cX9_descend 60 = .ok (.getfield 52, 3) := by decide +kernel
theorem dX9_descend_63 : decode cX9_descend 63 = .ok (.iload_n 2, 1) := by decide +kernel
theorem dX9_descend_64 : decode cX9_descend 64 = .ok (.iload_n 3, 1) := by decide +kernel
theorem dX9_descend_65 : decode cX9_descend 65 = .ok (.aload_n 0, 1) := by decide +kernel
theorem dX9_descend_66 : decode cX9_descend 66 = .ok (.getfield 9, 3) := by decide +kernel
theorem dX9_descend_69 : decode cX9_descend 69 = .ok (.iload 9, 2) := by decide +kernel
theorem dX9_descend_71 : decode cX9_descend 71 = .ok (.iaload, 1) := by decide +kernel
theorem dX9_descend_72 : decode cX9_descend 72 = .ok (.invokevirtual 83, 3) := by decide +kernel
theorem dX9_descend_75 : decode cX9_descend 75 = .ok (.istore 11, 2) := by decide +kernel
theorem dX9_descend_77 : decode cX9_descend 77 = .ok (.iload 10, 2) := by decide +kernel
theorem dX9_descend_79 : decode cX9_descend 79 = .ok (.iload 11, 2) := by decide +kernel
theorem dX9_descend_81 : decode cX9_descend 81 = .ok (.iload 4, 2) := by decide +kernel
theorem dX9_descend_83 : decode cX9_descend 83 = .ok (.invokestatic 93, 3) := by decide +kernel
theorem dX9_descend_86 : decode cX9_descend 86 = .ok (.iand, 1) := by decide +kernel
theorem dX9_descend_87 : decode cX9_descend 87 = .ok (.istore 12, 2) := by decide +kernel
theorem dX9_descend_89 : decode cX9_descend 89 = .ok (.iload 12, 2) := by decide +kernel
theorem dX9_descend_91 : decode cX9_descend 91 = .ok (.ifCond .eq 54, 3) := by decide +kernel
theorem dX9_descend_94 : decode cX9_descend 94 = .ok (.aload_n 0, 1) := by decide +kernel
theorem dX9_descend_95 : decode cX9_descend 95 = .ok (.getfield 9, 3) := by decide +kernel
theorem dX9_descend_98 : decode cX9_descend 98 = .ok (.iload 6, 2) := by decide +kernel
theorem dX9_descend_100 : decode cX9_descend 100 = .ok (.iload 8, 2) := by decide +kernel
theorem dX9_descend_102 : decode cX9_descend 102 = .ok (.iadd, 1) := by decide +kernel
theorem dX9_descend_103 : decode cX9_descend 103 = .ok (.aload_n 0, 1) := by decide +kernel
theorem dX9_descend_104 : decode cX9_descend 104 = .ok (.getfield 9, 3) := by decide +kernel
theorem dX9_descend_107 : decode cX9_descend 107 = .ok (.iload 9, 2) := by decide +kernel
theorem dX9_descend_109 : decode cX9_descend 109 = .ok (.iaload, 1) := by decide +kernel
theorem dX9_descend_110 : decode cX9_descend 110 = .ok (.iastore, 1) := by decide +kernel
theorem dX9_descend_111 : decode cX9_descend 111 = .ok (.aload_n 0, 1) := by decide +kernel
theorem dX9_descend_112 : decode cX9_descend 112 = .ok (.getfield 15, 3) := by decide +kernel
theorem dX9_descend_115 : decode cX9_descend 115 = .ok (.iload 6, 2) := by decide +kernel
theorem dX9_descend_117 : decode cX9_descend 117 = .ok (.iload 8, 2) := by decide +kernel
theorem dX9_descend_119 : decode cX9_descend 119 = .ok (.iadd, 1) := by decide +kernel
theorem dX9_descend_120 : decode cX9_descend 120 = .ok (.aload_n 0, 1) := by decide +kernel
theorem dX9_descend_121 : decode cX9_descend 121 = .ok (.getfield 15, 3) := by decide +kernel
theorem dX9_descend_124 : decode cX9_descend 124 = .ok (.iload 9, 2) := by decide +kernel
theorem dX9_descend_126 : decode cX9_descend 126 = .ok (.iaload, 1) := by decide +kernel
theorem dX9_descend_127 : decode cX9_descend 127 = .ok (.bipush 15, 2) := by decide +kernel
theorem dX9_descend_129 : decode cX9_descend 129 = .ok (.iload 7, 2) := by decide +kernel
theorem dX9_descend_131 : decode cX9_descend 131 = .ok (.ishl, 1) := by decide +kernel
theorem dX9_descend_132 : decode cX9_descend 132 = .ok (.iconst (-1), 1) := by decide +kernel
theorem dX9_descend_133 : decode cX9_descend 133 = .ok (.ixor, 1) := by decide +kernel
theorem dX9_descend_134 : decode cX9_descend 134 = .ok (.iand, 1) := by decide +kernel
theorem dX9_descend_135 : decode cX9_descend 135 = .ok (.iload 12, 2) := by decide +kernel
theorem dX9_descend_137 : decode cX9_descend 137 = .ok (.iload 7, 2) := by decide +kernel
theorem dX9_descend_139 : decode cX9_descend 139 = .ok (.ishl, 1) := by decide +kernel
theorem dX9_descend_140 : decode cX9_descend 140 = .ok (.ior, 1) := by decide +kernel
theorem dX9_descend_141 : decode cX9_descend 141 = .ok (.iastore, 1) := by decide +kernel
theorem dX9_descend_142 : decode cX9_descend 142 = .ok (.iinc 8 1, 3) := by decide +kernel
theorem dX9_descend_145 : decode cX9_descend 145 = .ok (.iinc 9 1, 3) := by decide +kernel
theorem dX9_descend_148 : decode cX9_descend 148 = .ok (.goto (-121), 3) := by decide +kernel
theorem dX9_descend_151 : decode cX9_descend 151 = .ok (.aload_n 0, 1) := by decide +kernel
theorem dX9_descend_152 : decode cX9_descend 152 = .ok (.getfield 18, 3) := by decide +kernel
theorem dX9_descend_155 : decode cX9_descend 155 = .ok (.iload_n 1, 1) := by decide +kernel
theorem dX9_descend_156 : decode cX9_descend 156 = .ok (.iconst 1, 1) := by decide +kernel
theorem dX9_descend_157 : decode cX9_descend 157 = .ok (.iadd, 1) := by decide +kernel
theorem dX9_descend_158 : decode cX9_descend 158 = .ok (.iload 8, 2) := by decide +kernel
theorem dX9_descend_160 : decode cX9_descend 160 = .ok (.iastore, 1) := by decide +kernel
theorem dX9_descend_161 : decode cX9_descend 161 = .ok (.return_, 1) := by decide +kernel
theorem dX9_leastProof_0 : decode cX9_leastProof 0 = .ok (.aload_n 0, 1) := by decide +kernel
theorem dX9_leastProof_1 : decode cX9_leastProof 1 = .ok (.iload_n 1, 1) := by decide +kernel
theorem dX9_leastProof_2 : decode cX9_leastProof 2 = .ok (.iload_n 2, 1) := by decide +kernel
theorem dX9_leastProof_3 : decode cX9_leastProof 3 = .ok (.invokevirtual 96, 3) := by decide +kernel
theorem dX9_leastProof_6 : decode cX9_leastProof 6 = .ok (.aload_n 0, 1) := by decide +kernel
theorem dX9_leastProof_7 : decode cX9_leastProof 7 = .ok (.getfield 37, 3) := by decide +kernel
theorem dX9_leastProof_10 : decode cX9_leastProof 10 = .ok (.getfield 100, 3) := by decide +kernel
theorem dX9_leastProof_13 : decode cX9_leastProof 13 = .ok (.getfield 104, 3) := by decide +kernel
theorem dX9_leastProof_16 : decode cX9_leastProof 16 = .ok (.istore_n 3, 1) := by decide +kernel
theorem dX9_leastProof_17 : decode cX9_leastProof 17 = .ok (.iconst 1, 1) := by decide +kernel
theorem dX9_leastProof_18 : decode cX9_leastProof 18 = .ok (.iload_n 3, 1) := by decide +kernel
theorem dX9_leastProof_19 : decode cX9_leastProof 19 = .ok (.ishl, 1) := by decide +kernel
theorem dX9_leastProof_20 : decode cX9_leastProof 20 = .ok (.iconst 1, 1) := by decide +kernel
theorem dX9_leastProof_21 : decode cX9_leastProof 21 = .ok (.isub, 1) := by decide +kernel
theorem dX9_leastProof_22 : decode cX9_leastProof 22 = .ok (.istore 4, 2) := by decide +kernel
theorem dX9_leastProof_24 : decode cX9_leastProof 24 = .ok (.iconst 0, 1) := by decide +kernel
theorem dX9_leastProof_25 : decode cX9_leastProof 25 = .ok (.istore 5, 2) := by decide +kernel
theorem dX9_leastProof_27 : decode cX9_leastProof 27 = .ok (.iload 5, 2) := by decide +kernel
theorem dX9_leastProof_29 : decode cX9_leastProof 29 = .ok (.iload_n 3, 1) := by decide +kernel
theorem dX9_leastProof_30 : decode cX9_leastProof 30 = .ok (.if_icmp .ge 47, 3) := by decide +kernel
theorem dX9_leastProof_33 : decode cX9_leastProof 33 = .ok (.iconst 0, 1) := by decide +kernel
theorem dX9_leastProof_34 : decode cX9_leastProof 34 = .ok (.istore 6, 2) := by decide +kernel
theorem dX9_leastProof_36 : decode cX9_leastProof 36 = .ok (.iload 6, 2) := by decide +kernel
theorem dX9_leastProof_38 : decode cX9_leastProof 38 = .ok (.iload 4, 2) := by decide +kernel
theorem dX9_leastProof_40 : decode cX9_leastProof 40 = .ok (.if_icmp .ge 31, 3) := by decide +kernel
theorem dX9_leastProof_43 : decode cX9_leastProof 43 = .ok (.iload 6, 2) := by decide +kernel
theorem dX9_leastProof_45 : decode cX9_leastProof 45 = .ok (.invokestatic 109, 3) := by decide +kernel
theorem dX9_leastProof_48 : decode cX9_leastProof 48 = .ok (.iload 5, 2) := by decide +kernel
theorem dX9_leastProof_50 : decode cX9_leastProof 50 = .ok (.if_icmp .ne 15, 3) := by decide +kernel
theorem dX9_leastProof_53 : decode cX9_leastProof 53 = .ok (.aload_n 0, 1) := by decide +kernel
theorem dX9_leastProof_54 : decode cX9_leastProof 54 = .ok (.iload 6, 2) := by decide +kernel
theorem dX9_leastProof_56 : decode cX9_leastProof 56 = .ok (.invokevirtual 115, 3) := by decide +kernel
theorem dX9_leastProof_59 : decode cX9_leastProof 59 = .ok (.ifCond .eq 6, 3) := by decide +kernel
theorem dX9_leastProof_62 : decode cX9_leastProof 62 = .ok (.iload 6, 2) := by decide +kernel
theorem dX9_leastProof_64 : decode cX9_leastProof 64 = .ok (.ireturn, 1) := by decide +kernel
theorem dX9_leastProof_65 : decode cX9_leastProof 65 = .ok (.iinc 6 1, 3) := by decide +kernel
theorem dX9_leastProof_68 : decode cX9_leastProof 68 = .ok (.goto (-32), 3) := by decide +kernel
theorem dX9_leastProof_71 : decode cX9_leastProof 71 = .ok (.iinc 5 1, 3) := by decide +kernel
theorem dX9_leastProof_74 : decode cX9_leastProof 74 = .ok (.goto (-47), 3) := by decide +kernel
theorem dX9_leastProof_77 : decode cX9_leastProof 77 = .ok (.iload 4, 2) := by decide +kernel
theorem dX9_leastProof_79 : decode cX9_leastProof 79 = .ok (.ireturn, 1) := by decide +kernel
theorem dX9_gatherAgainst_0 : decode cX9_gatherAgainst 0 = .ok (.aload_n 0, 1) := by decide +kernel
theorem dX9_gatherAgainst_1 : decode cX9_gatherAgainst 1 = .ok (.getfield 37, 3) := by decide +kernel
theorem dX9_gatherAgainst_4 : decode cX9_gatherAgainst 4 = .ok (.getfield 52, 3) := by decide +kernel
theorem dX9_gatherAgainst_7 : decode cX9_gatherAgainst 7 = .ok (.astore_n 3, 1) := by decide +kernel
theorem dX9_gatherAgainst_8 : decode cX9_gatherAgainst 8 = .ok (.aload_n 0, 1) := by decide +kernel
theorem dX9_gatherAgainst_9 : decode cX9_gatherAgainst 9 = .ok (.iconst 0, 1) := by decide +kernel
theorem dX9_gatherAgainst_10 : decode cX9_gatherAgainst 10 = .ok (.putfield 24, 3) := by decide +kernel
theorem dX9_gatherAgainst_13 : decode cX9_gatherAgainst 13 = .ok (.aload_n 0, 1) := by decide +kernel
theorem dX9_gatherAgainst_14 : decode cX9_gatherAgainst 14 = .ok (.iconst 0, 1) := by decide +kernel
theorem dX9_gatherAgainst_15 : decode cX9_gatherAgainst 15 = .ok (.putfield 28, 3) := by decide +kernel
theorem dX9_gatherAgainst_18 : decode cX9_gatherAgainst 18 = .ok (.iconst 0, 1) := by decide +kernel
theorem dX9_gatherAgainst_19 : decode cX9_gatherAgainst 19 = .ok (.istore 4, 2) := by decide +kernel
theorem dX9_gatherAgainst_21 : decode cX9_gatherAgainst 21 = .ok (.iload 4, 2) := by decide +kernel
theorem dX9_gatherAgainst_23 : decode cX9_gatherAgainst 23 = .ok (.aload_n 3, 1) := by decide +kernel
theorem dX9_gatherAgainst_24 : decode cX9_gatherAgainst 24 = .ok (.getfield 119, 3) := by decide +kernel
theorem dX9_gatherAgainst_27 : decode cX9_gatherAgainst 27 = .ok (.if_icmp .ge 89, 3) := by decide +kernel
theorem dX9_gatherAgainst_30 : decode cX9_gatherAgainst 30 = .ok (.aload_n 3, 1) := by decide +kernel
theorem dX9_gatherAgainst_31 : decode cX9_gatherAgainst 31 = .ok (.iload 4, 2) := by decide +kernel
theorem dX9_gatherAgainst_33 : decode cX9_gatherAgainst 33 = .ok (.invokevirtual 121, 3) := by decide +kernel
theorem dX9_gatherAgainst_36 : decode cX9_gatherAgainst 36 = .ok (.ifCond .eq 74, 3) := by decide +kernel
theorem dX9_gatherAgainst_39 : decode cX9_gatherAgainst 39 = .ok (.aload_n 3, 1) := by decide +kernel
theorem dX9_gatherAgainst_40 : decode cX9_gatherAgainst 40 = .ok (.iload_n 1, 1) := by decide +kernel
theorem dX9_gatherAgainst_41 : decode cX9_gatherAgainst 41 = .ok (.iload 4, 2) := by decide +kernel
theorem dX9_gatherAgainst_43 : decode cX9_gatherAgainst 43 = .ok (.invokevirtual 90, 3) := by decide +kernel
theorem dX9_gatherAgainst_46 : decode cX9_gatherAgainst 46 = .ok (.iload_n 2, 1) := by decide +kernel
theorem dX9_gatherAgainst_47 : decode cX9_gatherAgainst 47 = .ok (.if_icmp .eq 63, 3) := by decide +kernel
theorem dX9_gatherAgainst_50 : decode cX9_gatherAgainst 50 = .ok (.iconst 0, 1) := by decide +kernel
theorem dX9_gatherAgainst_51 : decode cX9_gatherAgainst 51 = .ok (.istore 5, 2) := by decide +kernel
theorem dX9_gatherAgainst_53 : decode cX9_gatherAgainst 53 = .ok (.iload 5, 2) := by decide +kernel
theorem dX9_gatherAgainst_55 : decode cX9_gatherAgainst 55 = .ok (.aload_n 0, 1) := by decide +kernel
theorem dX9_gatherAgainst_56 : decode cX9_gatherAgainst 56 = .ok (.getfield 37, 3) := by decide +kernel
theorem dX9_gatherAgainst_59 : decode cX9_gatherAgainst 59 = .ok (.getfield 100, 3) := by decide +kernel
theorem dX9_gatherAgainst_62 : decode cX9_gatherAgainst 62 = .ok (.getfield 104, 3) := by decide +kernel
theorem dX9_gatherAgainst_65 : decode cX9_gatherAgainst 65 = .ok (.if_icmp .ge 35, 3) := by decide +kernel
theorem dX9_gatherAgainst_68 : decode cX9_gatherAgainst 68 = .ok (.aload_n 0, 1) := by decide +kernel
theorem dX9_gatherAgainst_69 : decode cX9_gatherAgainst 69 = .ok (.getfield 21, 3) := by decide +kernel
theorem dX9_gatherAgainst_72 : decode cX9_gatherAgainst 72 = .ok (.aload_n 0, 1) := by decide +kernel
theorem dX9_gatherAgainst_73 : decode cX9_gatherAgainst 73 = .ok (.getfield 24, 3) := by decide +kernel
theorem dX9_gatherAgainst_76 : decode cX9_gatherAgainst 76 = .ok (.bipush 12, 2) := by decide +kernel
theorem dX9_gatherAgainst_78 : decode cX9_gatherAgainst 78 = .ok (.imul, 1) := by decide +kernel
theorem dX9_gatherAgainst_79 : decode cX9_gatherAgainst 79 = .ok (.iload 5, 2) := by decide +kernel
theorem dX9_gatherAgainst_81 : decode cX9_gatherAgainst 81 = .ok (.iadd, 1) := by decide +kernel
theorem dX9_gatherAgainst_82 : decode cX9_gatherAgainst 82 = .ok (.aload_n 0, 1) := by decide +kernel
theorem dX9_gatherAgainst_83 : decode cX9_gatherAgainst 83 = .ok (.getfield 37, 3) := by decide +kernel
theorem dX9_gatherAgainst_86 : decode cX9_gatherAgainst 86 = .ok (.iload 5, 2) := by decide +kernel
theorem dX9_gatherAgainst_88 : decode cX9_gatherAgainst 88 = .ok (.iload 4, 2) := by decide +kernel
theorem dX9_gatherAgainst_90 : decode cX9_gatherAgainst 90 = .ok (.invokevirtual 124, 3) := by decide +kernel
theorem dX9_gatherAgainst_93 : decode cX9_gatherAgainst 93 = .ok (.iastore, 1) := by decide +kernel
theorem dX9_gatherAgainst_94 : decode cX9_gatherAgainst 94 = .ok (.iinc 5 1, 3) := by decide +kernel
theorem dX9_gatherAgainst_97 : decode cX9_gatherAgainst 97 = .ok (.goto (-44), 3) := by decide +kernel
theorem dX9_gatherAgainst_100 : decode cX9_gatherAgainst 100 = .ok (.aload_n 0, 1) := by decide +kernel
theorem dX9_gatherAgainst_101 : decode cX9_gatherAgainst 101 = .ok (.dup, 1) := by decide +kernel
theorem dX9_gatherAgainst_102 : decode cX9_gatherAgainst 102 = .ok (.getfield 24, 3) := by decide +kernel
theorem dX9_gatherAgainst_105 : decode cX9_gatherAgainst 105 = .ok (.iconst 1, 1) := by decide +kernel
theorem dX9_gatherAgainst_106 : decode cX9_gatherAgainst 106 = .ok (.iadd, 1) := by decide +kernel
theorem dX9_gatherAgainst_107 : decode cX9_gatherAgainst 107 = .ok (.putfield 24, 3) := by decide +kernel
theorem dX9_gatherAgainst_110 : decode cX9_gatherAgainst 110 = .ok (.iinc 4 1, 3) := by decide +kernel
theorem dX9_gatherAgainst_113 : decode cX9_gatherAgainst 113 = .ok (.goto (-92), 3) := by decide +kernel
theorem dX9_gatherAgainst_116 : decode cX9_gatherAgainst 116 = .ok (.return_, 1) := by decide +kernel
theorem dX9_isProof_0 : decode cX9_isProof 0 = .ok (.aload_n 0, 1) := by decide +kernel
theorem dX9_isProof_1 : decode cX9_isProof 1 = .ok (.getfield 24, 3) := by decide +kernel
theorem dX9_isProof_4 : decode cX9_isProof 4 = .ok (.ifCond .le 17, 3) := by decide +kernel
theorem dX9_isProof_7 : decode cX9_isProof 7 = .ok (.aload_n 0, 1) := by decide +kernel
theorem dX9_isProof_8 : decode cX9_isProof 8 = .ok (.aload_n 0, 1) := by decide +kernel
theorem dX9_isProof_9 : decode cX9_isProof 9 = .ok (.getfield 28, 3) := by decide +kernel
theorem dX9_isProof_12 : decode cX9_isProof 12 = .ok (.iload_n 1, 1) := by decide +kernel
theorem dX9_isProof_13 : decode cX9_isProof 13 = .ok (.invokevirtual 126, 3) := by decide +kernel
theorem dX9_isProof_16 : decode cX9_isProof 16 = .ok (.ifCond .eq 5, 3) := by decide +kernel
theorem dX9_isProof_19 : decode cX9_isProof 19 = .ok (.iconst 0, 1) := by decide +kernel
theorem dX9_isProof_20 : decode cX9_isProof 20 = .ok (.ireturn, 1) := by decide +kernel
theorem dX9_isProof_21 : decode cX9_isProof 21 = .ok (.iconst 0, 1) := by decide +kernel
theorem dX9_isProof_22 : decode cX9_isProof 22 = .ok (.istore_n 2, 1) := by decide +kernel
theorem dX9_isProof_23 : decode cX9_isProof 23 = .ok (.iload_n 2, 1) := by decide +kernel
theorem dX9_isProof_24 : decode cX9_isProof 24 = .ok (.aload_n 0, 1) := by decide +kernel
theorem dX9_isProof_25 : decode cX9_isProof 25 = .ok (.getfield 24, 3) := by decide +kernel
theorem dX9_isProof_28 : decode cX9_isProof 28 = .ok (.if_icmp .ge 25, 3) := by decide +kernel
theorem dX9_isProof_31 : decode cX9_isProof 31 = .ok (.aload_n 0, 1) := by decide +kernel
theorem dX9_isProof_32 : decode cX9_isProof 32 = .ok (.iload_n 2, 1) := by decide +kernel
theorem dX9_isProof_33 : decode cX9_isProof 33 = .ok (.iload_n 1, 1) := by decide +kernel
theorem dX9_isProof_34 : decode cX9_isProof 34 = .ok (.invokevirtual 126, 3) := by decide +kernel
theorem dX9_isProof_37 : decode cX9_isProof 37 = .ok (.ifCond .eq 10, 3) := by decide +kernel
theorem dX9_isProof_40 : decode cX9_isProof 40 = .ok (.aload_n 0, 1) := by decide +kernel
theorem dX9_isProof_41 : decode cX9_isProof 41 = .ok (.iload_n 2, 1) := by decide +kernel
theorem dX9_isProof_42 : decode cX9_isProof 42 = .ok (.putfield 28, 3) := by decide +kernel
theorem dX9_isProof_45 : decode cX9_isProof 45 = .ok (.iconst 0, 1) := by decide +kernel
theorem dX9_isProof_46 : decode cX9_isProof 46 = .ok (.ireturn, 1) := by decide +kernel
theorem dX9_isProof_47 : decode cX9_isProof 47 = .ok (.iinc 2 1, 3) := by decide +kernel
theorem dX9_isProof_50 : decode cX9_isProof 50 = .ok (.goto (-27), 3) := by decide +kernel
theorem dX9_isProof_53 : decode cX9_isProof 53 = .ok (.iconst 1, 1) := by decide +kernel
theorem dX9_isProof_54 : decode cX9_isProof 54 = .ok (.ireturn, 1) := by decide +kernel
theorem dX9_standsAgainst_0 : decode cX9_standsAgainst 0 = .ok (.aload_n 0, 1) := by decide +kernel
theorem dX9_standsAgainst_1 : decode cX9_standsAgainst 1 = .ok (.getfield 37, 3) := by decide +kernel
theorem dX9_standsAgainst_4 : decode cX9_standsAgainst 4 = .ok (.getfield 52, 3) := by decide +kernel
theorem dX9_standsAgainst_7 : decode cX9_standsAgainst 7 = .ok (.getfield 56, 3) := by decide +kernel
theorem dX9_standsAgainst_10 : decode cX9_standsAgainst 10 = .ok (.istore_n 3, 1) := by decide +kernel
theorem dX9_standsAgainst_11 : decode cX9_standsAgainst 11 = .ok (.iconst 0, 1) := by decide +kernel
theorem dX9_standsAgainst_12 : decode cX9_standsAgainst 12 = .ok (.istore 4, 2) := by decide +kernel
theorem dX9_standsAgainst_14 : decode cX9_standsAgainst 14 = .ok (.iload_n 2, 1) := by decide +kernel
theorem dX9_standsAgainst_15 : decode cX9_standsAgainst 15 = .ok (.iload 4, 2) := by decide +kernel
theorem dX9_standsAgainst_17 : decode cX9_standsAgainst 17 = .ok (.ishr, 1) := by decide +kernel
theorem dX9_standsAgainst_18 : decode cX9_standsAgainst 18 = .ok (.ifCond .eq 40, 3) := by decide +kernel
theorem dX9_standsAgainst_21 : decode cX9_standsAgainst 21 = .ok (.iload 4, 2) := by decide +kernel
theorem dX9_standsAgainst_23 : decode cX9_standsAgainst 23 = .ok (.bipush 12, 2) := by decide +kernel
theorem dX9_standsAgainst_25 : decode cX9_standsAgainst 25 = .ok (.if_icmp .ge 33, 3) := by decide +kernel
theorem dX9_standsAgainst_28 : decode cX9_standsAgainst 28 = .ok (.iload_n 2, 1) := by decide +kernel
theorem dX9_standsAgainst_29 : decode cX9_standsAgainst 29 = .ok (.iload 4, 2) := by decide +kernel
theorem dX9_standsAgainst_31 : decode cX9_standsAgainst 31 = .ok (.ishr, 1) := by decide +kernel
theorem dX9_standsAgainst_32 : decode cX9_standsAgainst 32 = .ok (.iconst 1, 1) := by decide +kernel
theorem dX9_standsAgainst_33 : decode cX9_standsAgainst 33 = .ok (.iand, 1) := by decide +kernel
theorem dX9_standsAgainst_34 : decode cX9_standsAgainst 34 = .ok (.ifCond .eq 18, 3) := by decide +kernel
theorem dX9_standsAgainst_37 : decode cX9_standsAgainst 37 = .ok (.iload_n 3, 1) := by decide +kernel
theorem dX9_standsAgainst_38 : decode cX9_standsAgainst 38 = .ok (.aload_n 0, 1) := by decide +kernel
theorem dX9_standsAgainst_39 : decode cX9_standsAgainst 39 = .ok (.getfield 21, 3) := by decide +kernel
theorem dX9_standsAgainst_42 : decode cX9_standsAgainst 42 = .ok (.iload_n 1, 1) := by decide +kernel
theorem dX9_standsAgainst_43 : decode cX9_standsAgainst 43 = .ok (.bipush 12, 2) := by decide +kernel
theorem dX9_standsAgainst_45 : decode cX9_standsAgainst 45 = .ok (.imul, 1) := by decide +kernel
theorem dX9_standsAgainst_46 : decode cX9_standsAgainst 46 = .ok (.iload 4, 2) := by decide +kernel
theorem dX9_standsAgainst_48 : decode cX9_standsAgainst 48 = .ok (.iadd, 1) := by decide +kernel
theorem dX9_standsAgainst_49 : decode cX9_standsAgainst 49 = .ok (.iaload, 1) := by decide +kernel
theorem dX9_standsAgainst_50 : decode cX9_standsAgainst 50 = .ok (.iand, 1) := by decide +kernel
theorem dX9_standsAgainst_51 : decode cX9_standsAgainst 51 = .ok (.istore_n 3, 1) := by decide +kernel
theorem dX9_standsAgainst_52 : decode cX9_standsAgainst 52 = .ok (.iinc 4 1, 3) := by decide +kernel
theorem dX9_standsAgainst_55 : decode cX9_standsAgainst 55 = .ok (.goto (-41), 3) := by decide +kernel
theorem dX9_standsAgainst_58 : decode cX9_standsAgainst 58 = .ok (.iconst 0, 1) := by decide +kernel
theorem dX9_standsAgainst_59 : decode cX9_standsAgainst 59 = .ok (.istore 4, 2) := by decide +kernel
theorem dX9_standsAgainst_61 : decode cX9_standsAgainst 61 = .ok (.iload 4, 2) := by decide +kernel
theorem dX9_standsAgainst_63 : decode cX9_standsAgainst 63 = .ok (.iconst 4, 1) := by decide +kernel
theorem dX9_standsAgainst_64 : decode cX9_standsAgainst 64 = .ok (.if_icmp .ge 23, 3) := by decide +kernel
theorem dX9_standsAgainst_67 : decode cX9_standsAgainst 67 = .ok (.iload_n 3, 1) := by decide +kernel
theorem dX9_standsAgainst_68 : decode cX9_standsAgainst 68 = .ok (.iload 4, 2) := by decide +kernel
theorem dX9_standsAgainst_70 : decode cX9_standsAgainst 70 = .ok (.iconst 4, 1) := by decide +kernel
theorem dX9_standsAgainst_71 : decode cX9_standsAgainst 71 = .ok (.imul, 1) := by decide +kernel
theorem dX9_standsAgainst_72 : decode cX9_standsAgainst 72 = .ok (.ishr, 1) := by decide +kernel
theorem dX9_standsAgainst_73 : decode cX9_standsAgainst 73 = .ok (.bipush 15, 2) := by decide +kernel
theorem dX9_standsAgainst_75 : decode cX9_standsAgainst 75 = .ok (.iand, 1) := by decide +kernel
theorem dX9_standsAgainst_76 : decode cX9_standsAgainst 76 = .ok (.ifCond .ne 5, 3) := by decide +kernel
theorem dX9_standsAgainst_79 : decode cX9_standsAgainst 79 = .ok (.iconst 0, 1) := by decide +kernel
theorem dX9_standsAgainst_80 : decode cX9_standsAgainst 80 = .ok (.ireturn, 1) := by decide +kernel
theorem dX9_standsAgainst_81 : decode cX9_standsAgainst 81 = .ok (.iinc 4 1, 3) := by decide +kernel
theorem dX9_standsAgainst_84 : decode cX9_standsAgainst 84 = .ok (.goto (-23), 3) := by decide +kernel
theorem dX9_standsAgainst_87 : decode cX9_standsAgainst 87 = .ok (.iconst 1, 1) := by decide +kernel
theorem dX9_standsAgainst_88 : decode cX9_standsAgainst 88 = .ok (.ireturn, 1) := by decide +kernel
theorem dX10_init_0 : decode cX10_init 0 = .ok (.aload_n 0, 1) := by decide +kernel
theorem dX10_init_1 : decode cX10_init 1 = .ok (.invokespecial 3, 3) := by decide +kernel
theorem dX10_init_4 : decode cX10_init 4 = .ok (.aload_n 0, 1) := by decide +kernel
theorem dX10_init_5 : decode cX10_init 5 = .ok (.iconst 4, 1) := by decide +kernel
theorem dX10_init_6 : decode cX10_init 6 = .ok (.newarray .int, 2) := by decide +kernel
theorem dX10_init_8 : decode cX10_init 8 = .ok (.putfield 9, 3) := by decide +kernel
theorem dX10_init_11 : decode cX10_init 11 = .ok (.aload_n 0, 1) := by decide +kernel
theorem dX10_init_12 : decode cX10_init 12 = .ok (.iconst 0, 1) := by decide +kernel
theorem dX10_init_13 : decode cX10_init 13 = .ok (.putfield 15, 3) := by decide +kernel
theorem dX10_init_16 : decode cX10_init 16 = .ok (.aload_n 0, 1) := by decide +kernel
theorem dX10_init_17 : decode cX10_init 17 = .ok (.iconst 0, 1) := by decide +kernel
theorem dX10_init_18 : decode cX10_init 18 = .ok (.putfield 19, 3) := by decide +kernel
theorem dX10_init_21 : decode cX10_init 21 = .ok (.aload_n 0, 1) := by decide +kernel
theorem dX10_init_22 : decode cX10_init 22 = .ok (.new 22, 3) := by decide +kernel
theorem dX10_init_25 : decode cX10_init 25 = .ok (.dup, 1) := by decide +kernel
theorem dX10_init_26 : decode cX10_init 26 = .ok (.aload_n 1, 1) := by decide +kernel
theorem dX10_init_27 : decode cX10_init 27 = .ok (.invokespecial 24, 3) := by decide +kernel
theorem dX10_init_30 : decode cX10_init 30 = .ok (.putfield 27, 3) := by decide +kernel
theorem dX10_init_33 : decode cX10_init 33 = .ok (.return_, 1) := by decide +kernel
theorem dX10_holdCourt_0 : decode cX10_holdCourt 0 = .ok (.aload_n 0, 1) := by decide +kernel
theorem dX10_holdCourt_1 : decode cX10_holdCourt 1 = .ok (.getfield 27, 3) := by decide +kernel
theorem dX10_holdCourt_4 : decode cX10_holdCourt 4 = .ok (.aload_n 1, 1) := by decide +kernel
theorem dX10_holdCourt_5 : decode cX10_holdCourt 5 = .ok (.invokevirtual 31, 3) := by decide +kernel
theorem dX10_holdCourt_8 : decode cX10_holdCourt 8 = .ok (.aload_n 0, 1) := by decide +kernel
theorem dX10_holdCourt_9 : decode cX10_holdCourt 9 = .ok (.aload_n 1, 1) := by decide +kernel
theorem dX10_holdCourt_10 : decode cX10_holdCourt 10 = .ok (.iload_n 3, 1) := by decide +kernel
theorem dX10_holdCourt_11 : decode cX10_holdCourt 11 = .ok (.invokevirtual 34, 3) := by decide +kernel
theorem dX10_holdCourt_14 : decode cX10_holdCourt 14 = .ok (.iconst 0, 1) := by decide +kernel
theorem dX10_holdCourt_15 : decode cX10_holdCourt 15 = .ok (.istore 4, 2) := by decide +kernel
theorem dX10_holdCourt_17 : decode cX10_holdCourt 17 = .ok (.iconst 0, 1) := by decide +kernel
theorem dX10_holdCourt_18 : decode cX10_holdCourt 18 = .ok (.istore 5, 2) := by decide +kernel
theorem dX10_holdCourt_20 : decode cX10_holdCourt 20 = .ok (.iload 5, 2) := by decide +kernel
theorem dX10_holdCourt_22 : decode cX10_holdCourt 22 = .ok (.aload_n 2, 1) := by decide +kernel
theorem dX10_holdCourt_23 : decode cX10_holdCourt 23 = .ok (.getfield 38, 3) := by decide +kernel
theorem dX10_holdCourt_26 : decode cX10_holdCourt 26 = .ok (.if_icmp .ge 154, 3) := by decide +kernel
theorem dX10_holdCourt_29 : decode cX10_holdCourt 29 = .ok (.iload 5, 2) := by decide +kernel
theorem dX10_holdCourt_31 : decode cX10_holdCourt 31 = .ok (.iload 4, 2) := by decide +kernel
theorem dX10_holdCourt_33 : decode cX10_holdCourt 33 = .ok (.if_icmp .ge 6, 3) := by decide +kernel
theorem dX10_holdCourt_36 : decode cX10_holdCourt 36 = .ok (.goto 138, 3) := by decide +kernel
theorem dX10_holdCourt_39 : decode cX10_holdCourt 39 = .ok (.aload_n 2, 1) := by decide +kernel
theorem dX10_holdCourt_40 : decode cX10_holdCourt 40 = .ok (.getfield 43, 3) := by decide +kernel
theorem dX10_holdCourt_43 : decode cX10_holdCourt 43 = .ok (.iload 5, 2) := by decide +kernel
theorem dX10_holdCourt_45 : decode cX10_holdCourt 45 = .ok (.iaload, 1) := by decide +kernel
theorem dX10_holdCourt_46 : decode cX10_holdCourt 46 = .ok (.istore 6, 2) := by decide +kernel
theorem dX10_holdCourt_48 : decode cX10_holdCourt 48 = .ok (.aload_n 2, 1) := by decide +kernel
theorem dX10_holdCourt_49 : decode cX10_holdCourt 49 = .ok (.getfield 46, 3) := by decide +kernel
theorem dX10_holdCourt_52 : decode cX10_holdCourt 52 = .ok (.iload 5, 2) := by decide +kernel
theorem dX10_holdCourt_54 : decode cX10_holdCourt 54 = .ok (.iaload, 1) := by decide +kernel
theorem dX10_holdCourt_55 : decode cX10_holdCourt 55 = .ok (.tableswitch 89 25 28 #[29, 45, 63, 82], 29) := by decide +kernel
theorem dX10_holdCourt_84 : decode cX10_holdCourt 84 = .ok (.aload_n 0, 1) := by decide +kernel
theorem dX10_holdCourt_85 : decode cX10_holdCourt 85 = .ok (.iload 6, 2) := by decide +kernel
theorem dX10_holdCourt_87 : decode cX10_holdCourt 87 = .ok (.aload_n 2, 1) := by decide +kernel
theorem dX10_holdCourt_88 : decode cX10_holdCourt 88 = .ok (.getfield 49, 3) := by decide +kernel
theorem dX10_holdCourt_91 : decode cX10_holdCourt 91 = .ok (.iload 5, 2) := by decide +kernel
theorem dX10_holdCourt_93 : decode cX10_holdCourt 93 = .ok (.iaload, 1) := by decide +kernel
theorem dX10_holdCourt_94 : decode cX10_holdCourt 94 = .ok (.invokevirtual 52, 3) := by decide +kernel
theorem dX10_holdCourt_97 : decode cX10_holdCourt 97 = .ok (.goto 77, 3) := by decide +kernel
theorem dX10_holdCourt_100 : decode cX10_holdCourt 100 = .ok (.aload_n 0, 1) := by decide +kernel
theorem dX10_holdCourt_101 : decode cX10_holdCourt 101 = .ok (.iload 6, 2) := by decide +kernel
theorem dX10_holdCourt_103 : decode cX10_holdCourt 103 = .ok (.aload_n 0, 1) := by decide +kernel
theorem dX10_holdCourt_104 : decode cX10_holdCourt 104 = .ok (.getfield 27, 3) := by decide +kernel
theorem dX10_holdCourt_107 : decode cX10_holdCourt 107 = .ok (.iload 6, 2) := by decide +kernel
theorem dX10_holdCourt_109 : decode cX10_holdCourt 109 = .ok (.invokevirtual 56, 3) := by decide +kernel
theorem dX10_holdCourt_112 : decode cX10_holdCourt 112 = .ok (.invokevirtual 52, 3) := by decide +kernel
theorem dX10_holdCourt_115 : decode cX10_holdCourt 115 = .ok (.goto 59, 3) := by decide +kernel
theorem dX10_holdCourt_118 : decode cX10_holdCourt 118 = .ok (.aload_n 0, 1) := by decide +kernel
theorem dX10_holdCourt_119 : decode cX10_holdCourt 119 = .ok (.getfield 27, 3) := by decide +kernel
theorem dX10_holdCourt_122 : decode cX10_holdCourt 122 = .ok (.getfield 60, 3) := by decide +kernel
theorem dX10_holdCourt_125 : decode cX10_holdCourt 125 = .ok (.dup, 1) := by decide +kernel
theorem dX10_holdCourt_126 : decode cX10_holdCourt 126 = .ok (.getfield 64, 3) := by decide +kernel
theorem dX10_holdCourt_129 : decode cX10_holdCourt 129 = .ok (.iconst 1, 1) := by decide +kernel
theorem dX10_holdCourt_130 : decode cX10_holdCourt 130 = .ok (.iadd, 1) := by decide +kernel
theorem dX10_holdCourt_131 : decode cX10_holdCourt 131 = .ok (.putfield 64, 3) := by decide +kernel
theorem dX10_holdCourt_134 : decode cX10_holdCourt 134 = .ok (.goto 40, 3) := by decide +kernel
theorem dX10_holdCourt_137 : decode cX10_holdCourt 137 = .ok (.aload_n 0, 1) := by decide +kernel
theorem dX10_holdCourt_138 : decode cX10_holdCourt 138 = .ok (.iload 6, 2) := by decide +kernel
theorem dX10_holdCourt_140 : decode cX10_holdCourt 140 = .ok (.invokevirtual 69, 3) := by decide +kernel
theorem dX10_holdCourt_143 : decode cX10_holdCourt 143 = .ok (.ireturn, 1) := by decide +kernel
theorem dX10_holdCourt_144 : decode cX10_holdCourt 144 = .ok (.aload_n 0, 1) := by decide +kernel
theorem dX10_holdCourt_145 : decode cX10_holdCourt 145 = .ok (.aload_n 2, 1) := by decide +kernel
theorem dX10_holdCourt_146 : decode cX10_holdCourt 146 = .ok (.getfield 46, 3) := by decide +kernel
theorem dX10_holdCourt_149 : decode cX10_holdCourt 149 = .ok (.iload 5, 2) := by decide +kernel
theorem dX10_holdCourt_151 : decode cX10_holdCourt 151 = .ok (.iaload, 1) := by decide +kernel
theorem dX10_holdCourt_152 : decode cX10_holdCourt 152 = .ok (.iload 6, 2) := by decide +kernel
theorem dX10_holdCourt_154 : decode cX10_holdCourt 154 = .ok (.invokevirtual 72, 3) := by decide +kernel
theorem dX10_holdCourt_157 : decode cX10_holdCourt 157 = .ok (.ifCond .eq 8, 3) := by decide +kernel
theorem dX10_holdCourt_160 : decode cX10_holdCourt 160 = .ok (.iload 4, 2) := by decide +kernel
theorem dX10_holdCourt_162 : decode cX10_holdCourt 162 = .ok (.goto 10, 3) := by decide +kernel
theorem dX10_holdCourt_165 : decode cX10_holdCourt 165 = .ok (.aload_n 2, 1) := by decide +kernel
theorem dX10_holdCourt_166 : decode cX10_holdCourt 166 = .ok (.getfield 76, 3) := by decide +kernel
theorem dX10_holdCourt_169 : decode cX10_holdCourt 169 = .ok (.iload 5, 2) := by decide +kernel
theorem dX10_holdCourt_171 : decode cX10_holdCourt 171 = .ok (.iaload, 1) := by decide +kernel
theorem dX10_holdCourt_172 : decode cX10_holdCourt 172 = .ok (.istore 4, 2) := by decide +kernel
theorem dX10_holdCourt_174 : decode cX10_holdCourt 174 = .ok (.iinc 5 1, 3) := by decide +kernel
theorem dX10_holdCourt_177 : decode cX10_holdCourt 177 = .ok (.goto (-157), 3) := by decide +kernel
theorem dX10_holdCourt_180 : decode cX10_holdCourt 180 = .ok (.iconst 2, 1) := by decide +kernel
theorem dX10_holdCourt_181 : decode cX10_holdCourt 181 = .ok (.ireturn, 1) := by decide +kernel
theorem dX10_drawTruth_0 : decode cX10_drawTruth 0 = .ok (.aload_n 0, 1) := by decide +kernel
theorem dX10_drawTruth_1 : decode cX10_drawTruth 1 = .ok (.iload_n 2, 1) := by decide +kernel
theorem dX10_drawTruth_2 : decode cX10_drawTruth 2 = .ok (.putfield 19, 3) := by decide +kernel
theorem dX10_drawTruth_5 : decode cX10_drawTruth 5 = .ok (.iconst 0, 1) := by decide +kernel
theorem dX10_drawTruth_6 : decode cX10_drawTruth 6 = .ok (.istore_n 3, 1) := by decide +kernel
theorem dX10_drawTruth_7 : decode cX10_drawTruth 7 = .ok (.iconst 0, 1) := by decide +kernel
theorem dX10_drawTruth_8 : decode cX10_drawTruth 8 = .ok (.istore 4, 2) := by decide +kernel
theorem dX10_drawTruth_10 : decode cX10_drawTruth 10 = .ok (.iload 4, 2) := by decide +kernel
theorem dX10_drawTruth_12 : decode cX10_drawTruth 12 = .ok (.aload_n 1, 1) := by decide +kernel
theorem dX10_drawTruth_13 : decode cX10_drawTruth 13 = .ok (.getfield 79, 3) := by decide +kernel
theorem dX10_drawTruth_16 : decode cX10_drawTruth 16 = .ok (.if_icmp .ge 19, 3) := by decide +kernel
theorem dX10_drawTruth_19 : decode cX10_drawTruth 19 = .ok (.iload_n 3, 1) := by decide +kernel
theorem dX10_drawTruth_20 : decode cX10_drawTruth 20 = .ok (.aload_n 1, 1) := by decide +kernel
theorem dX10_drawTruth_21 : decode cX10_drawTruth 21 = .ok (.getfield 84, 3) := by decide +kernel
theorem dX10_drawTruth_24 : decode cX10_drawTruth 24 = .ok (.iload 4, 2) := by decide +kernel
theorem dX10_drawTruth_26 : decode cX10_drawTruth 26 = .ok (.iaload, 1) := by decide +kernel
theorem dX10_drawTruth_27 : decode cX10_drawTruth 27 = .ok (.iadd, 1) := by decide +kernel
theorem dX10_drawTruth_28 : decode cX10_drawTruth 28 = .ok (.istore_n 3, 1) := by decide +kernel
theorem dX10_drawTruth_29 : decode cX10_drawTruth 29 = .ok (.iinc 4 1, 3) := by decide +kernel
theorem dX10_drawTruth_32 : decode cX10_drawTruth 32 = .ok (.goto (-22), 3) := by decide +kernel
theorem dX10_drawTruth_35 : decode cX10_drawTruth 35 = .ok (.aload_n 0, 1) := by decide +kernel
theorem dX10_drawTruth_36 : decode cX10_drawTruth 36 = .ok (.aload_n 1, 1) := by decide +kernel
theorem dX10_drawTruth_37 : decode cX10_drawTruth 37 = .ok (.getfield 84, 3) := by decide +kernel
theorem dX10_drawTruth_40 : decode cX10_drawTruth 40 = .ok (.iconst 0, 1) := by decide +kernel
theorem dX10_drawTruth_41 : decode cX10_drawTruth 41 = .ok (.aload_n 1, 1) := by decide +kernel
theorem dX10_drawTruth_42 : decode cX10_drawTruth 42 = .ok (.getfield 79, 3) := by decide +kernel
theorem dX10_drawTruth_45 : decode cX10_drawTruth 45 = .ok (.aload_n 0, 1) := by decide +kernel
theorem dX10_drawTruth_46 : decode cX10_drawTruth 46 = .ok (.iload_n 3, 1) := by decide +kernel
theorem dX10_drawTruth_47 : decode cX10_drawTruth 47 = .ok (.invokevirtual 87, 3) := by decide +kernel
theorem dX10_drawTruth_50 : decode cX10_drawTruth 50 = .ok (.invokestatic 90, 3) := by decide +kernel
theorem dX10_drawTruth_53 : decode cX10_drawTruth 53 = .ok (.putfield 15, 3) := by decide +kernel
theorem dX10_drawTruth_56 : decode cX10_drawTruth 56 = .ok (.iconst 0, 1) := by decide +kernel
theorem dX10_drawTruth_57 : decode cX10_drawTruth 57 = .ok (.istore 4, 2) := by decide +kernel
theorem dX10_drawTruth_59 : decode cX10_drawTruth 59 = .ok (.iload 4, 2) := by decide +kernel
theorem dX10_drawTruth_61 : decode cX10_drawTruth 61 = .ok (.aload_n 1, 1) := by decide +kernel
theorem dX10_drawTruth_62 : decode cX10_drawTruth 62 = .ok (.getfield 94, 3) := by decide +kernel
theorem dX10_drawTruth_65 : decode cX10_drawTruth 65 = .ok (.if_icmp .ge 34, 3) := by decide +kernel
theorem dX10_drawTruth_68 : decode cX10_drawTruth 68 = .ok (.aload_n 0, 1) := by decide +kernel
theorem dX10_drawTruth_69 : decode cX10_drawTruth 69 = .ok (.getfield 9, 3) := by decide +kernel
theorem dX10_drawTruth_72 : decode cX10_drawTruth 72 = .ok (.iload 4, 2) := by decide +kernel
theorem dX10_drawTruth_74 : decode cX10_drawTruth 74 = .ok (.aload_n 1, 1) := by decide +kernel
theorem dX10_drawTruth_75 : decode cX10_drawTruth 75 = .ok (.getfield 97, 3) := by decide +kernel
theorem dX10_drawTruth_78 : decode cX10_drawTruth 78 = .ok (.iload 4, 2) := by decide +kernel
theorem dX10_drawTruth_80 : decode cX10_drawTruth 80 = .ok (.iconst 4, 1) := by decide +kernel
theorem dX10_drawTruth_81 : decode cX10_drawTruth 81 = .ok (.imul, 1) := by decide +kernel
theorem dX10_drawTruth_82 : decode cX10_drawTruth 82 = .ok (.iconst 4, 1) := by decide +kernel
theorem dX10_drawTruth_83 : decode cX10_drawTruth 83 = .ok (.aload_n 0, 1) := by decide +kernel
theorem dX10_drawTruth_84 : decode cX10_drawTruth 84 = .ok (.bipush 16, 2) := by decide +kernel
theorem dX10_drawTruth_86 : decode cX10_drawTruth 86 = .ok (.invokevirtual 87, 3) := by decide +kernel
theorem dX10_drawTruth_89 : decode cX10_drawTruth 89 = .ok (.invokestatic 90, 3) := by decide +kernel
theorem dX10_drawTruth_92 : decode cX10_drawTruth 92 = .ok (.iastore, 1) := by decide +kernel
theorem dX10_drawTruth_93 : decode cX10_drawTruth 93 = .ok (.iinc 4 1, 3) := by decide +kernel
theorem dX10_drawTruth_96 : decode cX10_drawTruth 96 = .ok (.goto (-37), 3) := by decide +kernel
theorem dX10_drawTruth_99 : decode cX10_drawTruth 99 = .ok (.return_, 1) := by decide +kernel
theorem dX10_draw_0 : decode cX10_draw 0 = .ok (.aload_n 0, 1) := by decide +kernel
theorem dX10_draw_1 : decode cX10_draw 1 = .ok (.aload_n 0, 1) := by decide +kernel
theorem dX10_draw_2 : decode cX10_draw 2 = .ok (.getfield 19, 3) := by decide +kernel
theorem dX10_draw_5 : decode cX10_draw 5 = .ok (.sipush 2417, 3) := by decide +kernel
theorem dX10_draw_8 : decode cX10_draw 8 = .ok (.imul, 1) := by decide +kernel
theorem dX10_draw_9 : decode cX10_draw 9 = .ok (.sipush 10613, 3) := by decide +kernel
theorem dX10_draw_12 : decode cX10_draw 12 = .ok (.iadd, 1) := by decide +kernel
theorem dX10_draw_13 : decode cX10_draw 13 = .ok (.ldc 100, 2) := by decide +kernel
theorem dX10_draw_15 : decode cX10_draw 15 = .ok (.irem, 1) := by decide +kernel
theorem dX10_draw_16 : decode cX10_draw 16 = .ok (.putfield 19, 3) := by decide +kernel
theorem dX10_draw_19 : decode cX10_draw 19 = .ok (.iload_n 1, 1) := by decide +kernel
theorem dX10_draw_20 : decode cX10_draw 20 = .ok (.ifCond .le 15, 3) := by decide +kernel
theorem dX10_draw_23 : decode cX10_draw 23 = .ok (.aload_n 0, 1) := by decide +kernel
theorem dX10_draw_24 : decode cX10_draw 24 = .ok (.getfield 19, 3) := by decide +kernel
theorem dX10_draw_27 : decode cX10_draw 27 = .ok (.bipush 8, 2) := by decide +kernel
theorem dX10_draw_29 : decode cX10_draw 29 = .ok (.idiv, 1) := by decide +kernel
theorem dX10_draw_30 : decode cX10_draw 30 = .ok (.iload_n 1, 1) := by decide +kernel
theorem dX10_draw_31 : decode cX10_draw 31 = .ok (.irem, 1) := by decide +kernel
theorem dX10_draw_32 : decode cX10_draw 32 = .ok (.goto 4, 3) := by decide +kernel
theorem dX10_draw_35 : decode cX10_draw 35 = .ok (.iconst 0, 1) := by decide +kernel
theorem dX10_draw_36 : decode cX10_draw 36 = .ok (.ireturn, 1) := by decide +kernel
theorem dX10_firstAbove_0 : decode cX10_firstAbove 0 = .ok (.iconst 0, 1) := by decide +kernel
theorem dX10_firstAbove_1 : decode cX10_firstAbove 1 = .ok (.istore 4, 2) := by decide +kernel
theorem dX10_firstAbove_3 : decode cX10_firstAbove 3 = .ok (.iconst 0, 1) := by decide +kernel
theorem dX10_firstAbove_4 : decode cX10_firstAbove 4 = .ok (.istore 5, 2) := by decide +kernel
theorem dX10_firstAbove_6 : decode cX10_firstAbove 6 = .ok (.iload 5, 2) := by decide +kernel
theorem dX10_firstAbove_8 : decode cX10_firstAbove 8 = .ok (.iload_n 2, 1) := by decide +kernel
theorem dX10_firstAbove_9 : decode cX10_firstAbove 9 = .ok (.if_icmp .ge 29, 3) := by decide +kernel
theorem dX10_firstAbove_12 : decode cX10_firstAbove 12 = .ok (.iload 4, 2) := by decide +kernel
theorem dX10_firstAbove_14 : decode cX10_firstAbove 14 = .ok (.aload_n 0, 1) := by decide +kernel
theorem dX10_firstAbove_15 : decode cX10_firstAbove 15 = .ok (.iload_n 1, 1) := by decide +kernel
theorem dX10_firstAbove_16 : decode cX10_firstAbove 16 = .ok (.iload 5, 2) := by decide +kernel
theorem dX10_firstAbove_18 : decode cX10_firstAbove 18 = .ok (.iadd, 1) := by decide +kernel
theorem dX10_firstAbove_19 : decode cX10_firstAbove 19 = .ok (.iaload, 1) := by decide +kernel
theorem dX10_firstAbove_20 : decode cX10_firstAbove 20 = .ok (.iadd, 1) := by decide +kernel
theorem dX10_firstAbove_21 : decode cX10_firstAbove 21 = .ok (.istore 4, 2) := by decide +kernel
theorem dX10_firstAbove_23 : decode cX10_firstAbove 23 = .ok (.iload 4, 2) := by decide +kernel
theorem dX10_firstAbove_25 : decode cX10_firstAbove 25 = .ok (.iload_n 3, 1) := by decide +kernel
theorem dX10_firstAbove_26 : decode cX10_firstAbove 26 = .ok (.if_icmp .le 6, 3) := by decide +kernel
theorem dX10_firstAbove_29 : decode cX10_firstAbove 29 = .ok (.iload 5, 2) := by decide +kernel
theorem dX10_firstAbove_31 : decode cX10_firstAbove 31 = .ok (.ireturn, 1) := by decide +kernel
theorem dX10_firstAbove_32 : decode cX10_firstAbove 32 = .ok (.iinc 5 1, 3) := by decide +kernel
theorem dX10_firstAbove_35 : decode cX10_firstAbove 35 = .ok (.goto (-29), 3) := by decide +kernel
theorem dX10_firstAbove_38 : decode cX10_firstAbove 38 = .ok (.iconst 0, 1) := by decide +kernel
theorem dX10_firstAbove_39 : decode cX10_firstAbove 39 = .ok (.ireturn, 1) := by decide +kernel
theorem dX10_put_0 : decode cX10_put 0 = .ok (.iload_n 2, 1) := by decide +kernel
theorem dX10_put_1 : decode cX10_put 1 = .ok (.iconst (-1), 1) := by decide +kernel
theorem dX10_put_2 : decode cX10_put 2 = .ok (.if_icmp .eq 29, 3) := by decide +kernel
theorem dX10_put_5 : decode cX10_put 5 = .ok (.aload_n 0, 1) := by decide +kernel
theorem dX10_put_6 : decode cX10_put 6 = .ok (.getfield 27, 3) := by decide +kernel
theorem dX10_put_9 : decode cX10_put 9 = .ok (.iload_n 2, 1) := by decide +kernel
theorem dX10_put_10 : decode cX10_put 10 = .ok (.invokevirtual 101, 3) := by decide +kernel
theorem dX10_put_13 : decode cX10_put 13 = .ok (.ifCond .ne 18, 3) := by decide +kernel
theorem dX10_put_16 : decode cX10_put 16 = .ok (.aload_n 0, 1) := by decide +kernel
theorem dX10_put_17 : decode cX10_put 17 = .ok (.getfield 27, 3) := by decide +kernel
theorem dX10_put_20 : decode cX10_put 20 = .ok (.getfield 60, 3) := by decide +kernel
theorem dX10_put_23 : decode cX10_put 23 = .ok (.invokevirtual 105, 3) := by decide +kernel
theorem dX10_put_26 : decode cX10_put 26 = .ok (.bipush 9, 2) := by decide +kernel
theorem dX10_put_28 : decode cX10_put 28 = .ok (.if_icmp .lt 4, 3) := by decide +kernel
theorem dX10_put_31 : decode cX10_put 31 = .ok (.return_, 1) := by decide +kernel
theorem dX10_put_32 : decode cX10_put 32 = .ok (.aload_n 0, 1) := by decide +kernel
theorem dX10_put_33 : decode cX10_put 33 = .ok (.getfield 27, 3) := by decide +kernel
theorem dX10_put_36 : decode cX10_put 36 = .ok (.getfield 109, 3) := by decide +kernel
theorem dX10_put_39 : decode cX10_put 39 = .ok (.iload_n 1, 1) := by decide +kernel
theorem dX10_put_40 : decode cX10_put 40 = .ok (.iload_n 2, 1) := by decide +kernel
theorem dX10_put_41 : decode cX10_put 41 = .ok (.aload_n 0, 1) := by decide +kernel
theorem dX10_put_42 : decode cX10_put 42 = .ok (.getfield 15, 3) := by decide +kernel
theorem dX10_put_45 : decode cX10_put 45 = .ok (.invokevirtual 113, 3) := by decide +kernel
theorem dX10_put_48 : decode cX10_put 48 = .ok (.istore_n 3, 1) := by decide +kernel
theorem dX10_put_49 : decode cX10_put 49 = .ok (.aload_n 0, 1) := by decide +kernel
