theorem dX10_put_50 : decode cX10_put 50 = .ok (.getfield 27, 3) := by decide +kernel
theorem dX10_put_53 : decode cX10_put 53 = .ok (.iload_n 1, 1) := by decide +kernel
theorem dX10_put_54 : decode cX10_put 54 = .ok (.iload_n 2, 1) := by decide +kernel
theorem dX10_put_55 : decode cX10_put 55 = .ok (.iload_n 3, 1) := by decide +kernel
theorem dX10_put_56 : decode cX10_put 56 = .ok (.aload_n 0, 1) := by decide +kernel
theorem dX10_put_57 : decode cX10_put 57 = .ok (.getfield 9, 3) := by decide +kernel
theorem dX10_put_60 : decode cX10_put 60 = .ok (.iload_n 1, 1) := by decide +kernel
theorem dX10_put_61 : decode cX10_put 61 = .ok (.iaload, 1) := by decide +kernel
theorem dX10_put_62 : decode cX10_put 62 = .ok (.invokestatic 117, 3) := by decide +kernel
theorem dX10_put_65 : decode cX10_put 65 = .ok (.invokevirtual 121, 3) := by decide +kernel
theorem dX10_put_68 : decode cX10_put 68 = .ok (.return_, 1) := by decide +kernel
theorem dX10_passes_0 : decode cX10_passes 0 = .ok (.iload_n 1, 1) := by decide +kernel
theorem dX10_passes_1 : decode cX10_passes 1 = .ok (.tableswitch 80 30 32 #[27, 45, 63], 27) := by decide +kernel
theorem dX10_passes_28 : decode cX10_passes 28 = .ok (.aload_n 0, 1) := by decide +kernel
theorem dX10_passes_29 : decode cX10_passes 29 = .ok (.getfield 27, 3) := by decide +kernel
theorem dX10_passes_32 : decode cX10_passes 32 = .ok (.iload_n 2, 1) := by decide +kernel
theorem dX10_passes_33 : decode cX10_passes 33 = .ok (.invokevirtual 125, 3) := by decide +kernel
theorem dX10_passes_36 : decode cX10_passes 36 = .ok (.iconst (-1), 1) := by decide +kernel
theorem dX10_passes_37 : decode cX10_passes 37 = .ok (.if_icmp .eq 7, 3) := by decide +kernel
theorem dX10_passes_40 : decode cX10_passes 40 = .ok (.iconst 1, 1) := by decide +kernel
theorem dX10_passes_41 : decode cX10_passes 41 = .ok (.goto 4, 3) := by decide +kernel
theorem dX10_passes_44 : decode cX10_passes 44 = .ok (.iconst 0, 1) := by decide +kernel
theorem dX10_passes_45 : decode cX10_passes 45 = .ok (.ireturn, 1) := by decide +kernel
theorem dX10_passes_46 : decode cX10_passes 46 = .ok (.aload_n 0, 1) := by decide +kernel
theorem dX10_passes_47 : decode cX10_passes 47 = .ok (.getfield 27, 3) := by decide +kernel
theorem dX10_passes_50 : decode cX10_passes 50 = .ok (.iload_n 2, 1) := by decide +kernel
theorem dX10_passes_51 : decode cX10_passes 51 = .ok (.invokevirtual 125, 3) := by decide +kernel
theorem dX10_passes_54 : decode cX10_passes 54 = .ok (.iconst 1, 1) := by decide +kernel
theorem dX10_passes_55 : decode cX10_passes 55 = .ok (.if_icmp .ne 7, 3) := by decide +kernel
theorem dX10_passes_58 : decode cX10_passes 58 = .ok (.iconst 1, 1) := by decide +kernel
theorem dX10_passes_59 : decode cX10_passes 59 = .ok (.goto 4, 3) := by decide +kernel
theorem dX10_passes_62 : decode cX10_passes 62 = .ok (.iconst 0, 1) := by decide +kernel
theorem dX10_passes_63 : decode cX10_passes 63 = .ok (.ireturn, 1) := by decide +kernel
theorem dX10_passes_64 : decode cX10_passes 64 = .ok (.aload_n 0, 1) := by decide +kernel
theorem dX10_passes_65 : decode cX10_passes 65 = .ok (.getfield 27, 3) := by decide +kernel
theorem dX10_passes_68 : decode cX10_passes 68 = .ok (.iload_n 2, 1) := by decide +kernel
theorem dX10_passes_69 : decode cX10_passes 69 = .ok (.invokevirtual 125, 3) := by decide +kernel
theorem dX10_passes_72 : decode cX10_passes 72 = .ok (.ifCond .ne 7, 3) := by decide +kernel
theorem dX10_passes_75 : decode cX10_passes 75 = .ok (.iconst 1, 1) := by decide +kernel
theorem dX10_passes_76 : decode cX10_passes 76 = .ok (.goto 4, 3) := by decide +kernel
theorem dX10_passes_79 : decode cX10_passes 79 = .ok (.iconst 0, 1) := by decide +kernel
theorem dX10_passes_80 : decode cX10_passes 80 = .ok (.ireturn, 1) := by decide +kernel
theorem dX10_passes_81 : decode cX10_passes 81 = .ok (.aload_n 0, 1) := by decide +kernel
theorem dX10_passes_82 : decode cX10_passes 82 = .ok (.getfield 27, 3) := by decide +kernel
theorem dX10_passes_85 : decode cX10_passes 85 = .ok (.getfield 128, 3) := by decide +kernel
theorem dX10_passes_88 : decode cX10_passes 88 = .ok (.iload_n 2, 1) := by decide +kernel
theorem dX10_passes_89 : decode cX10_passes 89 = .ok (.if_icmp .gt 7, 3) := by decide +kernel
theorem dX10_passes_92 : decode cX10_passes 92 = .ok (.iconst 1, 1) := by decide +kernel
theorem dX10_passes_93 : decode cX10_passes 93 = .ok (.goto 4, 3) := by decide +kernel
theorem dX10_passes_96 : decode cX10_passes 96 = .ok (.iconst 0, 1) := by decide +kernel
theorem dX10_passes_97 : decode cX10_passes 97 = .ok (.ireturn, 1) := by decide +kernel
theorem dX10_judge_0 : decode cX10_judge 0 = .ok (.aload_n 0, 1) := by decide +kernel
theorem dX10_judge_1 : decode cX10_judge 1 = .ok (.getfield 27, 3) := by decide +kernel
theorem dX10_judge_4 : decode cX10_judge 4 = .ok (.iload_n 1, 1) := by decide +kernel
theorem dX10_judge_5 : decode cX10_judge 5 = .ok (.invokevirtual 125, 3) := by decide +kernel
theorem dX10_judge_8 : decode cX10_judge 8 = .ok (.istore_n 2, 1) := by decide +kernel
theorem dX10_judge_9 : decode cX10_judge 9 = .ok (.iload_n 2, 1) := by decide +kernel
theorem dX10_judge_10 : decode cX10_judge 10 = .ok (.iconst (-1), 1) := by decide +kernel
theorem dX10_judge_11 : decode cX10_judge 11 = .ok (.if_icmp .ne 32, 3) := by decide +kernel
theorem dX10_judge_14 : decode cX10_judge 14 = .ok (.ldc2_w 131, 3) := by decide +kernel
theorem dX10_judge_17 : decode cX10_judge 17 = .ok (.aload_n 0, 1) := by decide +kernel
theorem dX10_judge_18 : decode cX10_judge 18 = .ok (.getfield 27, 3) := by decide +kernel
theorem dX10_judge_21 : decode cX10_judge 21 = .ok (.iload_n 1, 1) := by decide +kernel
theorem dX10_judge_22 : decode cX10_judge 22 = .ok (.invokevirtual 133, 3) := by decide +kernel
theorem dX10_judge_25 : decode cX10_judge 25 = .ok (.lmul, 1) := by decide +kernel
theorem dX10_judge_26 : decode cX10_judge 26 = .ok (.aload_n 0, 1) := by decide +kernel
theorem dX10_judge_27 : decode cX10_judge 27 = .ok (.getfield 27, 3) := by decide +kernel
theorem dX10_judge_30 : decode cX10_judge 30 = .ok (.invokevirtual 137, 3) := by decide +kernel
theorem dX10_judge_33 : decode cX10_judge 33 = .ok (.lcmp, 1) := by decide +kernel
theorem dX10_judge_34 : decode cX10_judge 34 = .ok (.ifCond .lt 7, 3) := by decide +kernel
theorem dX10_judge_37 : decode cX10_judge 37 = .ok (.iconst 1, 1) := by decide +kernel
theorem dX10_judge_38 : decode cX10_judge 38 = .ok (.goto 4, 3) := by decide +kernel
theorem dX10_judge_41 : decode cX10_judge 41 = .ok (.iconst 0, 1) := by decide +kernel
theorem dX10_judge_42 : decode cX10_judge 42 = .ok (.istore_n 2, 1) := by decide +kernel
theorem dX10_judge_43 : decode cX10_judge 43 = .ok (.iload_n 2, 1) := by decide +kernel
theorem dX10_judge_44 : decode cX10_judge 44 = .ok (.aload_n 0, 1) := by decide +kernel
theorem dX10_judge_45 : decode cX10_judge 45 = .ok (.getfield 27, 3) := by decide +kernel
theorem dX10_judge_48 : decode cX10_judge 48 = .ok (.getfield 109, 3) := by decide +kernel
theorem dX10_judge_51 : decode cX10_judge 51 = .ok (.iload_n 1, 1) := by decide +kernel
theorem dX10_judge_52 : decode cX10_judge 52 = .ok (.aload_n 0, 1) := by decide +kernel
theorem dX10_judge_53 : decode cX10_judge 53 = .ok (.getfield 15, 3) := by decide +kernel
theorem dX10_judge_56 : decode cX10_judge 56 = .ok (.invokevirtual 141, 3) := by decide +kernel
theorem dX10_judge_59 : decode cX10_judge 59 = .ok (.if_icmp .ne 7, 3) := by decide +kernel
theorem dX10_judge_62 : decode cX10_judge 62 = .ok (.iconst 0, 1) := by decide +kernel
theorem dX10_judge_63 : decode cX10_judge 63 = .ok (.goto 4, 3) := by decide +kernel
theorem dX10_judge_66 : decode cX10_judge 66 = .ok (.iconst 1, 1) := by decide +kernel
theorem dX10_judge_67 : decode cX10_judge 67 = .ok (.ireturn, 1) := by decide +kernel
theorem dX10_dishonest_0 : decode cX10_dishonest 0 = .ok (.iconst 0, 1) := by decide +kernel
theorem dX10_dishonest_1 : decode cX10_dishonest 1 = .ok (.istore_n 1, 1) := by decide +kernel
theorem dX10_dishonest_2 : decode cX10_dishonest 2 = .ok (.iconst 0, 1) := by decide +kernel
theorem dX10_dishonest_3 : decode cX10_dishonest 3 = .ok (.istore_n 2, 1) := by decide +kernel
theorem dX10_dishonest_4 : decode cX10_dishonest 4 = .ok (.iload_n 2, 1) := by decide +kernel
theorem dX10_dishonest_5 : decode cX10_dishonest 5 = .ok (.aload_n 0, 1) := by decide +kernel
theorem dX10_dishonest_6 : decode cX10_dishonest 6 = .ok (.getfield 27, 3) := by decide +kernel
theorem dX10_dishonest_9 : decode cX10_dishonest 9 = .ok (.getfield 109, 3) := by decide +kernel
theorem dX10_dishonest_12 : decode cX10_dishonest 12 = .ok (.getfield 94, 3) := by decide +kernel
theorem dX10_dishonest_15 : decode cX10_dishonest 15 = .ok (.if_icmp .ge 24, 3) := by decide +kernel
theorem dX10_dishonest_18 : decode cX10_dishonest 18 = .ok (.aload_n 0, 1) := by decide +kernel
theorem dX10_dishonest_19 : decode cX10_dishonest 19 = .ok (.getfield 9, 3) := by decide +kernel
theorem dX10_dishonest_22 : decode cX10_dishonest 22 = .ok (.iload_n 2, 1) := by decide +kernel
theorem dX10_dishonest_23 : decode cX10_dishonest 23 = .ok (.iaload, 1) := by decide +kernel
theorem dX10_dishonest_24 : decode cX10_dishonest 24 = .ok (.ifCond .eq 9, 3) := by decide +kernel
theorem dX10_dishonest_27 : decode cX10_dishonest 27 = .ok (.iload_n 1, 1) := by decide +kernel
theorem dX10_dishonest_28 : decode cX10_dishonest 28 = .ok (.iconst 1, 1) := by decide +kernel
theorem dX10_dishonest_29 : decode cX10_dishonest 29 = .ok (.iload_n 2, 1) := by decide +kernel
theorem dX10_dishonest_30 : decode cX10_dishonest 30 = .ok (.ishl, 1) := by decide +kernel
theorem dX10_dishonest_31 : decode cX10_dishonest 31 = .ok (.ior, 1) := by decide +kernel
theorem dX10_dishonest_32 : decode cX10_dishonest 32 = .ok (.istore_n 1, 1) := by decide +kernel
theorem dX10_dishonest_33 : decode cX10_dishonest 33 = .ok (.iinc 2 1, 3) := by decide +kernel
theorem dX10_dishonest_36 : decode cX10_dishonest 36 = .ok (.goto (-32), 3) := by decide +kernel
theorem dX10_dishonest_39 : decode cX10_dishonest 39 = .ok (.iload_n 1, 1) := by decide +kernel
theorem dX10_dishonest_40 : decode cX10_dishonest 40 = .ok (.ireturn, 1) := by decide +kernel
theorem dX11_init_0 : decode cX11_init 0 = .ok (.aload_n 0, 1) := by decide +kernel
theorem dX11_init_1 : decode cX11_init 1 = .ok (.invokespecial 1, 3) := by decide +kernel
theorem dX11_init_4 : decode cX11_init 4 = .ok (.aload_n 0, 1) := by decide +kernel
theorem dX11_init_5 : decode cX11_init 5 = .ok (.iconst 4, 1) := by decide +kernel
theorem dX11_init_6 : decode cX11_init 6 = .ok (.newarray .int, 2) := by decide +kernel
theorem dX11_init_8 : decode cX11_init 8 = .ok (.putfield 9, 3) := by decide +kernel
theorem dX11_init_11 : decode cX11_init 11 = .ok (.aload_n 0, 1) := by decide +kernel
theorem dX11_init_12 : decode cX11_init 12 = .ok (.iconst 4, 1) := by decide +kernel
theorem dX11_init_13 : decode cX11_init 13 = .ok (.newarray .int, 2) := by decide +kernel
theorem dX11_init_15 : decode cX11_init 15 = .ok (.putfield 13, 3) := by decide +kernel
theorem dX11_init_18 : decode cX11_init 18 = .ok (.aload_n 0, 1) := by decide +kernel
theorem dX11_init_19 : decode cX11_init 19 = .ok (.sipush 240, 3) := by decide +kernel
theorem dX11_init_22 : decode cX11_init 22 = .ok (.newarray .long, 2) := by decide +kernel
theorem dX11_init_24 : decode cX11_init 24 = .ok (.putfield 16, 3) := by decide +kernel
theorem dX11_init_27 : decode cX11_init 27 = .ok (.aload_n 0, 1) := by decide +kernel
theorem dX11_init_28 : decode cX11_init 28 = .ok (.new 20, 3) := by decide +kernel
theorem dX11_init_31 : decode cX11_init 31 = .ok (.dup, 1) := by decide +kernel
theorem dX11_init_32 : decode cX11_init 32 = .ok (.invokespecial 22, 3) := by decide +kernel
theorem dX11_init_35 : decode cX11_init 35 = .ok (.putfield 23, 3) := by decide +kernel
theorem dX11_init_38 : decode cX11_init 38 = .ok (.aload_n 0, 1) := by decide +kernel
theorem dX11_init_39 : decode cX11_init 39 = .ok (.iconst 5, 1) := by decide +kernel
theorem dX11_init_40 : decode cX11_init 40 = .ok (.anewarray 27, 3) := by decide +kernel
theorem dX11_init_43 : decode cX11_init 43 = .ok (.putfield 29, 3) := by decide +kernel
theorem dX11_init_46 : decode cX11_init 46 = .ok (.aload_n 0, 1) := by decide +kernel
theorem dX11_init_47 : decode cX11_init 47 = .ok (.iconst 3, 1) := by decide +kernel
theorem dX11_init_48 : decode cX11_init 48 = .ok (.anewarray 33, 3) := by decide +kernel
theorem dX11_init_51 : decode cX11_init 51 = .ok (.putfield 35, 3) := by decide +kernel
theorem dX11_init_54 : decode cX11_init 54 = .ok (.aload_n 0, 1) := by decide +kernel
theorem dX11_init_55 : decode cX11_init 55 = .ok (.bipush 6, 2) := by decide +kernel
theorem dX11_init_57 : decode cX11_init 57 = .ok (.newarray .int, 2) := by decide +kernel
theorem dX11_init_59 : decode cX11_init 59 = .ok (.putfield 39, 3) := by decide +kernel
theorem dX11_init_62 : decode cX11_init 62 = .ok (.aload_n 0, 1) := by decide +kernel
theorem dX11_init_63 : decode cX11_init 63 = .ok (.new 42, 3) := by decide +kernel
theorem dX11_init_66 : decode cX11_init 66 = .ok (.dup, 1) := by decide +kernel
theorem dX11_init_67 : decode cX11_init 67 = .ok (.invokespecial 44, 3) := by decide +kernel
theorem dX11_init_70 : decode cX11_init 70 = .ok (.putfield 45, 3) := by decide +kernel
theorem dX11_init_73 : decode cX11_init 73 = .ok (.aload_n 0, 1) := by decide +kernel
theorem dX11_init_74 : decode cX11_init 74 = .ok (.new 42, 3) := by decide +kernel
theorem dX11_init_77 : decode cX11_init 77 = .ok (.dup, 1) := by decide +kernel
theorem dX11_init_78 : decode cX11_init 78 = .ok (.invokespecial 44, 3) := by decide +kernel
theorem dX11_init_81 : decode cX11_init 81 = .ok (.putfield 49, 3) := by decide +kernel
theorem dX11_init_84 : decode cX11_init 84 = .ok (.aload_n 0, 1) := by decide +kernel
theorem dX11_init_85 : decode cX11_init 85 = .ok (.iconst 0, 1) := by decide +kernel
theorem dX11_init_86 : decode cX11_init 86 = .ok (.putfield 52, 3) := by decide +kernel
theorem dX11_init_89 : decode cX11_init 89 = .ok (.aload_n 0, 1) := by decide +kernel
theorem dX11_init_90 : decode cX11_init 90 = .ok (.iconst (-1), 1) := by decide +kernel
theorem dX11_init_91 : decode cX11_init 91 = .ok (.putfield 56, 3) := by decide +kernel
theorem dX11_init_94 : decode cX11_init 94 = .ok (.aload_n 0, 1) := by decide +kernel
theorem dX11_init_95 : decode cX11_init 95 = .ok (.iconst 0, 1) := by decide +kernel
theorem dX11_init_96 : decode cX11_init 96 = .ok (.putfield 59, 3) := by decide +kernel
theorem dX11_init_99 : decode cX11_init 99 = .ok (.aload_n 0, 1) := by decide +kernel
theorem dX11_init_100 : decode cX11_init 100 = .ok (.iconst 0, 1) := by decide +kernel
theorem dX11_init_101 : decode cX11_init 101 = .ok (.putfield 63, 3) := by decide +kernel
theorem dX11_init_104 : decode cX11_init 104 = .ok (.aload_n 0, 1) := by decide +kernel
theorem dX11_init_105 : decode cX11_init 105 = .ok (.lconst 0, 1) := by decide +kernel
theorem dX11_init_106 : decode cX11_init 106 = .ok (.putfield 66, 3) := by decide +kernel
theorem dX11_init_109 : decode cX11_init 109 = .ok (.aload_n 0, 1) := by decide +kernel
theorem dX11_init_110 : decode cX11_init 110 = .ok (.lconst 1, 1) := by decide +kernel
theorem dX11_init_111 : decode cX11_init 111 = .ok (.putfield 70, 3) := by decide +kernel
theorem dX11_init_114 : decode cX11_init 114 = .ok (.new 27, 3) := by decide +kernel
theorem dX11_init_117 : decode cX11_init 117 = .ok (.dup, 1) := by decide +kernel
theorem dX11_init_118 : decode cX11_init 118 = .ok (.invokespecial 73, 3) := by decide +kernel
theorem dX11_init_121 : decode cX11_init 121 = .ok (.astore_n 1, 1) := by decide +kernel
theorem dX11_init_122 : decode cX11_init 122 = .ok (.aload_n 0, 1) := by decide +kernel
theorem dX11_init_123 : decode cX11_init 123 = .ok (.aload_n 1, 1) := by decide +kernel
theorem dX11_init_124 : decode cX11_init 124 = .ok (.putfield 74, 3) := by decide +kernel
theorem dX11_init_127 : decode cX11_init 127 = .ok (.aload_n 0, 1) := by decide +kernel
theorem dX11_init_128 : decode cX11_init 128 = .ok (.getfield 29, 3) := by decide +kernel
theorem dX11_init_131 : decode cX11_init 131 = .ok (.iconst 0, 1) := by decide +kernel
theorem dX11_init_132 : decode cX11_init 132 = .ok (.aload_n 1, 1) := by decide +kernel
theorem dX11_init_133 : decode cX11_init 133 = .ok (.aastore, 1) := by decide +kernel
theorem dX11_init_134 : decode cX11_init 134 = .ok (.aload_n 0, 1) := by decide +kernel
theorem dX11_init_135 : decode cX11_init 135 = .ok (.new 78, 3) := by decide +kernel
theorem dX11_init_138 : decode cX11_init 138 = .ok (.dup, 1) := by decide +kernel
theorem dX11_init_139 : decode cX11_init 139 = .ok (.aload_n 0, 1) := by decide +kernel
theorem dX11_init_140 : decode cX11_init 140 = .ok (.getfield 23, 3) := by decide +kernel
theorem dX11_init_143 : decode cX11_init 143 = .ok (.aload_n 1, 1) := by decide +kernel
theorem dX11_init_144 : decode cX11_init 144 = .ok (.invokespecial 80, 3) := by decide +kernel
theorem dX11_init_147 : decode cX11_init 147 = .ok (.putfield 83, 3) := by decide +kernel
theorem dX11_init_150 : decode cX11_init 150 = .ok (.aload_n 0, 1) := by decide +kernel
theorem dX11_init_151 : decode cX11_init 151 = .ok (.new 87, 3) := by decide +kernel
theorem dX11_init_154 : decode cX11_init 154 = .ok (.dup, 1) := by decide +kernel
theorem dX11_init_155 : decode cX11_init 155 = .ok (.aload_n 1, 1) := by decide +kernel
theorem dX11_init_156 : decode cX11_init 156 = .ok (.invokespecial 89, 3) := by decide +kernel
theorem dX11_init_159 : decode cX11_init 159 = .ok (.putfield 92, 3) := by decide +kernel
theorem dX11_init_162 : decode cX11_init 162 = .ok (.aload_n 0, 1) := by decide +kernel
theorem dX11_init_163 : decode cX11_init 163 = .ok (.new 96, 3) := by decide +kernel
theorem dX11_init_166 : decode cX11_init 166 = .ok (.dup, 1) := by decide +kernel
theorem dX11_init_167 : decode cX11_init 167 = .ok (.aload_n 0, 1) := by decide +kernel
theorem dX11_init_168 : decode cX11_init 168 = .ok (.getfield 92, 3) := by decide +kernel
theorem dX11_init_171 : decode cX11_init 171 = .ok (.invokespecial 98, 3) := by decide +kernel
theorem dX11_init_174 : decode cX11_init 174 = .ok (.putfield 101, 3) := by decide +kernel
theorem dX11_init_177 : decode cX11_init 177 = .ok (.aload_n 0, 1) := by decide +kernel
theorem dX11_init_178 : decode cX11_init 178 = .ok (.new 105, 3) := by decide +kernel
theorem dX11_init_181 : decode cX11_init 181 = .ok (.dup, 1) := by decide +kernel
theorem dX11_init_182 : decode cX11_init 182 = .ok (.aload_n 1, 1) := by decide +kernel
theorem dX11_init_183 : decode cX11_init 183 = .ok (.invokespecial 107, 3) := by decide +kernel
theorem dX11_init_186 : decode cX11_init 186 = .ok (.putfield 108, 3) := by decide +kernel
theorem dX11_init_189 : decode cX11_init 189 = .ok (.iconst 0, 1) := by decide +kernel
theorem dX11_init_190 : decode cX11_init 190 = .ok (.istore_n 2, 1) := by decide +kernel
theorem dX11_init_191 : decode cX11_init 191 = .ok (.iload_n 2, 1) := by decide +kernel
theorem dX11_init_192 : decode cX11_init 192 = .ok (.iconst 3, 1) := by decide +kernel
theorem dX11_init_193 : decode cX11_init 193 = .ok (.if_icmp .ge 23, 3) := by decide +kernel
theorem dX11_init_196 : decode cX11_init 196 = .ok (.aload_n 0, 1) := by decide +kernel
theorem dX11_init_197 : decode cX11_init 197 = .ok (.getfield 35, 3) := by decide +kernel
theorem dX11_init_200 : decode cX11_init 200 = .ok (.iload_n 2, 1) := by decide +kernel
theorem dX11_init_201 : decode cX11_init 201 = .ok (.new 33, 3) := by decide +kernel
theorem dX11_init_204 : decode cX11_init 204 = .ok (.dup, 1) := by decide +kernel
theorem dX11_init_205 : decode cX11_init 205 = .ok (.aload_n 1, 1) := by decide +kernel
theorem dX11_init_206 : decode cX11_init 206 = .ok (.invokespecial 112, 3) := by decide +kernel
theorem dX11_init_209 : decode cX11_init 209 = .ok (.aastore, 1) := by decide +kernel
theorem dX11_init_210 : decode cX11_init 210 = .ok (.iinc 2 1, 3) := by decide +kernel
theorem dX11_init_213 : decode cX11_init 213 = .ok (.goto (-22), 3) := by decide +kernel
theorem dX11_init_216 : decode cX11_init 216 = .ok (.aload_n 0, 1) := by decide +kernel
theorem dX11_init_217 : decode cX11_init 217 = .ok (.getfield 9, 3) := by decide +kernel
theorem dX11_init_220 : decode cX11_init 220 = .ok (.iconst (-1), 1) := by decide +kernel
theorem dX11_init_221 : decode cX11_init 221 = .ok (.invokestatic 113, 3) := by decide +kernel
theorem dX11_init_224 : decode cX11_init 224 = .ok (.return_, 1) := by decide +kernel
theorem dX11_status_0 : decode cX11_status 0 = .ok (.aload_n 0, 1) := by decide +kernel
theorem dX11_status_1 : decode cX11_status 1 = .ok (.getfield 63, 3) := by decide +kernel
theorem dX11_status_4 : decode cX11_status 4 = .ok (.ireturn, 1) := by decide +kernel
theorem dX11_top_0 : decode cX11_top 0 = .ok (.aload_n 0, 1) := by decide +kernel
theorem dX11_top_1 : decode cX11_top 1 = .ok (.getfield 66, 3) := by decide +kernel
theorem dX11_top_4 : decode cX11_top 4 = .ok (.lreturn, 1) := by decide +kernel
theorem dX11_bottom_0 : decode cX11_bottom 0 = .ok (.aload_n 0, 1) := by decide +kernel
theorem dX11_bottom_1 : decode cX11_bottom 1 = .ok (.getfield 70, 3) := by decide +kernel
theorem dX11_bottom_4 : decode cX11_bottom 4 = .ok (.lreturn, 1) := by decide +kernel
theorem dX11_tray_0 : decode cX11_tray 0 = .ok (.iload_n 1, 1) := by decide +kernel
theorem dX11_tray_1 : decode cX11_tray 1 = .ok (.iconst 4, 1) := by decide +kernel
theorem dX11_tray_2 : decode cX11_tray 2 = .ok (.invokestatic 119, 3) := by decide +kernel
theorem dX11_tray_5 : decode cX11_tray 5 = .ok (.ifCond .eq 20, 3) := by decide +kernel
theorem dX11_tray_8 : decode cX11_tray 8 = .ok (.iload_n 2, 1) := by decide +kernel
theorem dX11_tray_9 : decode cX11_tray 9 = .ok (.iconst 4, 1) := by decide +kernel
theorem dX11_tray_10 : decode cX11_tray 10 = .ok (.invokestatic 119, 3) := by decide +kernel
theorem dX11_tray_13 : decode cX11_tray 13 = .ok (.ifCond .eq 12, 3) := by decide +kernel
theorem dX11_tray_16 : decode cX11_tray 16 = .ok (.iload_n 3, 1) := by decide +kernel
theorem dX11_tray_17 : decode cX11_tray 17 = .ok (.bipush 61, 2) := by decide +kernel
theorem dX11_tray_19 : decode cX11_tray 19 = .ok (.invokestatic 119, 3) := by decide +kernel
theorem dX11_tray_22 : decode cX11_tray 22 = .ok (.ifCond .ne 9, 3) := by decide +kernel
theorem dX11_tray_25 : decode cX11_tray 25 = .ok (.aload_n 0, 1) := by decide +kernel
theorem dX11_tray_26 : decode cX11_tray 26 = .ok (.iconst 1, 1) := by decide +kernel
theorem dX11_tray_27 : decode cX11_tray 27 = .ok (.invokevirtual 123, 3) := by decide +kernel
theorem dX11_tray_30 : decode cX11_tray 30 = .ok (.ireturn, 1) := by decide +kernel
theorem dX11_tray_31 : decode cX11_tray 31 = .ok (.aload_n 0, 1) := by decide +kernel
theorem dX11_tray_32 : decode cX11_tray 32 = .ok (.getfield 9, 3) := by decide +kernel
theorem dX11_tray_35 : decode cX11_tray 35 = .ok (.iload_n 1, 1) := by decide +kernel
theorem dX11_tray_36 : decode cX11_tray 36 = .ok (.iload_n 2, 1) := by decide +kernel
theorem dX11_tray_37 : decode cX11_tray 37 = .ok (.iastore, 1) := by decide +kernel
theorem dX11_tray_38 : decode cX11_tray 38 = .ok (.aload_n 0, 1) := by decide +kernel
theorem dX11_tray_39 : decode cX11_tray 39 = .ok (.getfield 13, 3) := by decide +kernel
theorem dX11_tray_42 : decode cX11_tray 42 = .ok (.iload_n 1, 1) := by decide +kernel
theorem dX11_tray_43 : decode cX11_tray 43 = .ok (.iload_n 3, 1) := by decide +kernel
theorem dX11_tray_44 : decode cX11_tray 44 = .ok (.iastore, 1) := by decide +kernel
theorem dX11_tray_45 : decode cX11_tray 45 = .ok (.iload_n 1, 1) := by decide +kernel
theorem dX11_tray_46 : decode cX11_tray 46 = .ok (.bipush 60, 2) := by decide +kernel
theorem dX11_tray_48 : decode cX11_tray 48 = .ok (.imul, 1) := by decide +kernel
theorem dX11_tray_49 : decode cX11_tray 49 = .ok (.istore 4, 2) := by decide +kernel
theorem dX11_tray_51 : decode cX11_tray 51 = .ok (.aload_n 0, 1) := by decide +kernel
theorem dX11_tray_52 : decode cX11_tray 52 = .ok (.getfield 16, 3) := by decide +kernel
theorem dX11_tray_55 : decode cX11_tray 55 = .ok (.iload 4, 2) := by decide +kernel
theorem dX11_tray_57 : decode cX11_tray 57 = .ok (.iload 4, 2) := by decide +kernel
theorem dX11_tray_59 : decode cX11_tray 59 = .ok (.bipush 60, 2) := by decide +kernel
theorem dX11_tray_61 : decode cX11_tray 61 = .ok (.iadd, 1) := by decide +kernel
theorem dX11_tray_62 : decode cX11_tray 62 = .ok (.lconst 0, 1) := by decide +kernel
theorem dX11_tray_63 : decode cX11_tray 63 = .ok (.invokestatic 127, 3) := by decide +kernel
theorem dX11_tray_66 : decode cX11_tray 66 = .ok (.aload_n 0, 1) := by decide +kernel
theorem dX11_tray_67 : decode cX11_tray 67 = .ok (.invokevirtual 130, 3) := by decide +kernel
theorem dX11_tray_70 : decode cX11_tray 70 = .ok (.ireturn, 1) := by decide +kernel
theorem dX11_write_0 : decode cX11_write 0 = .ok (.aload_n 0, 1) := by decide +kernel
theorem dX11_write_1 : decode cX11_write 1 = .ok (.iload_n 1, 1) := by decide +kernel
theorem dX11_write_2 : decode cX11_write 2 = .ok (.iload_n 2, 1) := by decide +kernel
theorem dX11_write_3 : decode cX11_write 3 = .ok (.invokevirtual 134, 3) := by decide +kernel
theorem dX11_write_6 : decode cX11_write 6 = .ok (.istore 5, 2) := by decide +kernel
theorem dX11_write_8 : decode cX11_write 8 = .ok (.iload 5, 2) := by decide +kernel
theorem dX11_write_10 : decode cX11_write 10 = .ok (.ifCond .eq 10, 3) := by decide +kernel
theorem dX11_write_13 : decode cX11_write 13 = .ok (.aload_n 0, 1) := by decide +kernel
theorem dX11_write_14 : decode cX11_write 14 = .ok (.iload 5, 2) := by decide +kernel
theorem dX11_write_16 : decode cX11_write 16 = .ok (.invokevirtual 123, 3) := by decide +kernel
theorem dX11_write_19 : decode cX11_write 19 = .ok (.ireturn, 1) := by decide +kernel
theorem dX11_write_20 : decode cX11_write 20 = .ok (.aload_n 0, 1) := by decide +kernel
theorem dX11_write_21 : decode cX11_write 21 = .ok (.getfield 16, 3) := by decide +kernel
theorem dX11_write_24 : decode cX11_write 24 = .ok (.iload_n 1, 1) := by decide +kernel
theorem dX11_write_25 : decode cX11_write 25 = .ok (.bipush 60, 2) := by decide +kernel
theorem dX11_write_27 : decode cX11_write 27 = .ok (.imul, 1) := by decide +kernel
theorem dX11_write_28 : decode cX11_write 28 = .ok (.iload_n 2, 1) := by decide +kernel
theorem dX11_write_29 : decode cX11_write 29 = .ok (.iadd, 1) := by decide +kernel
theorem dX11_write_30 : decode cX11_write 30 = .ok (.lload_n 3, 1) := by decide +kernel
theorem dX11_write_31 : decode cX11_write 31 = .ok (.aload_n 0, 1) := by decide +kernel
theorem dX11_write_32 : decode cX11_write 32 = .ok (.getfield 9, 3) := by decide +kernel
theorem dX11_write_35 : decode cX11_write 35 = .ok (.iload_n 1, 1) := by decide +kernel
theorem dX11_write_36 : decode cX11_write 36 = .ok (.iaload, 1) := by decide +kernel
theorem dX11_write_37 : decode cX11_write 37 = .ok (.invokestatic 138, 3) := by decide +kernel
theorem dX11_write_40 : decode cX11_write 40 = .ok (.lastore, 1) := by decide +kernel
theorem dX11_write_41 : decode cX11_write 41 = .ok (.aload_n 0, 1) := by decide +kernel
theorem dX11_write_42 : decode cX11_write 42 = .ok (.invokevirtual 130, 3) := by decide +kernel
theorem dX11_write_45 : decode cX11_write 45 = .ok (.ireturn, 1) := by decide +kernel
theorem dX11_read_0 : decode cX11_read 0 = .ok (.aload_n 0, 1) := by decide +kernel
theorem dX11_read_1 : decode cX11_read 1 = .ok (.iload_n 1, 1) := by decide +kernel
theorem dX11_read_2 : decode cX11_read 2 = .ok (.iload_n 2, 1) := by decide +kernel
theorem dX11_read_3 : decode cX11_read 3 = .ok (.invokevirtual 134, 3) := by decide +kernel
theorem dX11_read_6 : decode cX11_read 6 = .ok (.istore_n 3, 1) := by decide +kernel
theorem dX11_read_7 : decode cX11_read 7 = .ok (.iload_n 3, 1) := by decide +kernel
theorem dX11_read_8 : decode cX11_read 8 = .ok (.ifCond .eq 10, 3) := by decide +kernel
theorem dX11_read_11 : decode cX11_read 11 = .ok (.aload_n 0, 1) := by decide +kernel
theorem dX11_read_12 : decode cX11_read 12 = .ok (.iload_n 3, 1) := by decide +kernel
theorem dX11_read_13 : decode cX11_read 13 = .ok (.invokevirtual 142, 3) := by decide +kernel
theorem dX11_read_16 : decode cX11_read 16 = .ok (.i2l, 1) := by decide +kernel
theorem dX11_read_17 : decode cX11_read 17 = .ok (.lreturn, 1) := by decide +kernel
theorem dX11_read_18 : decode cX11_read 18 = .ok (.aload_n 0, 1) := by decide +kernel
theorem dX11_read_19 : decode cX11_read 19 = .ok (.iconst 0, 1) := by decide +kernel
theorem dX11_read_20 : decode cX11_read 20 = .ok (.putfield 63, 3) := by decide +kernel
theorem dX11_read_23 : decode cX11_read 23 = .ok (.aload_n 0, 1) := by decide +kernel
theorem dX11_read_24 : decode cX11_read 24 = .ok (.getfield 16, 3) := by decide +kernel
theorem dX11_read_27 : decode cX11_read 27 = .ok (.iload_n 1, 1) := by decide +kernel
theorem dX11_read_28 : decode cX11_read 28 = .ok (.bipush 60, 2) := by decide +kernel
theorem dX11_read_30 : decode cX11_read 30 = .ok (.imul, 1) := by decide +kernel
theorem dX11_read_31 : decode cX11_read 31 = .ok (.iload_n 2, 1) := by decide +kernel
theorem dX11_read_32 : decode cX11_read 32 = .ok (.iadd, 1) := by decide +kernel
theorem dX11_read_33 : decode cX11_read 33 = .ok (.laload, 1) := by decide +kernel
theorem dX11_read_34 : decode cX11_read 34 = .ok (.lreturn, 1) := by decide +kernel
theorem dX11_pour_0 : decode cX11_pour 0 = .ok (.iload_n 1, 1) := by decide +kernel
theorem dX11_pour_1 : decode cX11_pour 1 = .ok (.iconst 4, 1) := by decide +kernel
theorem dX11_pour_2 : decode cX11_pour 2 = .ok (.invokestatic 119, 3) := by decide +kernel
theorem dX11_pour_5 : decode cX11_pour 5 = .ok (.ifCond .eq 25, 3) := by decide +kernel
theorem dX11_pour_8 : decode cX11_pour 8 = .ok (.iload_n 3, 1) := by decide +kernel
theorem dX11_pour_9 : decode cX11_pour 9 = .ok (.iconst 4, 1) := by decide +kernel
theorem dX11_pour_10 : decode cX11_pour 10 = .ok (.invokestatic 119, 3) := by decide +kernel
theorem dX11_pour_13 : decode cX11_pour 13 = .ok (.ifCond .eq 17, 3) := by decide +kernel
theorem dX11_pour_16 : decode cX11_pour 16 = .ok (.iload_n 2, 1) := by decide +kernel
theorem dX11_pour_17 : decode cX11_pour 17 = .ok (.ifCond .lt 13, 3) := by decide +kernel
theorem dX11_pour_20 : decode cX11_pour 20 = .ok (.iload 4, 2) := by decide +kernel
theorem dX11_pour_22 : decode cX11_pour 22 = .ok (.ifCond .lt 8, 3) := by decide +kernel
theorem dX11_pour_25 : decode cX11_pour 25 = .ok (.iload 5, 2) := by decide +kernel
theorem dX11_pour_27 : decode cX11_pour 27 = .ok (.ifCond .ge 9, 3) := by decide +kernel
theorem dX11_pour_30 : decode cX11_pour 30 = .ok (.aload_n 0, 1) := by decide +kernel
theorem dX11_pour_31 : decode cX11_pour 31 = .ok (.iconst 1, 1) := by decide +kernel
theorem dX11_pour_32 : decode cX11_pour 32 = .ok (.invokevirtual 123, 3) := by decide +kernel
theorem dX11_pour_35 : decode cX11_pour 35 = .ok (.ireturn, 1) := by decide +kernel
theorem dX11_pour_36 : decode cX11_pour 36 = .ok (.aload_n 0, 1) := by decide +kernel
theorem dX11_pour_37 : decode cX11_pour 37 = .ok (.getfield 9, 3) := by decide +kernel
theorem dX11_pour_40 : decode cX11_pour 40 = .ok (.iload_n 1, 1) := by decide +kernel
theorem dX11_pour_41 : decode cX11_pour 41 = .ok (.iaload, 1) := by decide +kernel
theorem dX11_pour_42 : decode cX11_pour 42 = .ok (.iconst (-1), 1) := by decide +kernel
theorem dX11_pour_43 : decode cX11_pour 43 = .ok (.if_icmp .eq 13, 3) := by decide +kernel
theorem dX11_pour_46 : decode cX11_pour 46 = .ok (.aload_n 0, 1) := by decide +kernel
theorem dX11_pour_47 : decode cX11_pour 47 = .ok (.getfield 9, 3) := by decide +kernel
theorem dX11_pour_50 : decode cX11_pour 50 = .ok (.iload_n 3, 1) := by decide +kernel
theorem dX11_pour_51 : decode cX11_pour 51 = .ok (.iaload, 1) := by decide +kernel
theorem dX11_pour_52 : decode cX11_pour 52 = .ok (.iconst (-1), 1) := by decide +kernel
theorem dX11_pour_53 : decode cX11_pour 53 = .ok (.if_icmp .ne 9, 3) := by decide +kernel
theorem dX11_pour_56 : decode cX11_pour 56 = .ok (.aload_n 0, 1) := by decide +kernel
theorem dX11_pour_57 : decode cX11_pour 57 = .ok (.iconst 2, 1) := by decide +kernel
theorem dX11_pour_58 : decode cX11_pour 58 = .ok (.invokevirtual 123, 3) := by decide +kernel
theorem dX11_pour_61 : decode cX11_pour 61 = .ok (.ireturn, 1) := by decide +kernel
theorem dX11_pour_62 : decode cX11_pour 62 = .ok (.aload_n 0, 1) := by decide +kernel
theorem dX11_pour_63 : decode cX11_pour 63 = .ok (.getfield 9, 3) := by decide +kernel
theorem dX11_pour_66 : decode cX11_pour 66 = .ok (.iload_n 1, 1) := by decide +kernel
theorem dX11_pour_67 : decode cX11_pour 67 = .ok (.iaload, 1) := by decide +kernel
theorem dX11_pour_68 : decode cX11_pour 68 = .ok (.aload_n 0, 1) := by decide +kernel
theorem dX11_pour_69 : decode cX11_pour 69 = .ok (.getfield 9, 3) := by decide +kernel
theorem dX11_pour_72 : decode cX11_pour 72 = .ok (.iload_n 3, 1) := by decide +kernel
theorem dX11_pour_73 : decode cX11_pour 73 = .ok (.iaload, 1) := by decide +kernel
theorem dX11_pour_74 : decode cX11_pour 74 = .ok (.if_icmp .eq 10, 3) := by decide +kernel
theorem dX11_pour_77 : decode cX11_pour 77 = .ok (.aload_n 0, 1) := by decide +kernel
theorem dX11_pour_78 : decode cX11_pour 78 = .ok (.bipush 8, 2) := by decide +kernel
theorem dX11_pour_80 : decode cX11_pour 80 = .ok (.invokevirtual 123, 3) := by decide +kernel
theorem dX11_pour_83 : decode cX11_pour 83 = .ok (.ireturn, 1) := by decide +kernel
theorem dX11_pour_84 : decode cX11_pour 84 = .ok (.iload_n 2, 1) := by decide +kernel
theorem dX11_pour_85 : decode cX11_pour 85 = .ok (.i2l, 1) := by decide +kernel
theorem dX11_pour_86 : decode cX11_pour 86 = .ok (.iload 5, 2) := by decide +kernel
theorem dX11_pour_88 : decode cX11_pour 88 = .ok (.i2l, 1) := by decide +kernel
theorem dX11_pour_89 : decode cX11_pour 89 = .ok (.ladd, 1) := by decide +kernel
theorem dX11_pour_90 : decode cX11_pour 90 = .ok (.aload_n 0, 1) := by decide +kernel
theorem dX11_pour_91 : decode cX11_pour 91 = .ok (.getfield 13, 3) := by decide +kernel
theorem dX11_pour_94 : decode cX11_pour 94 = .ok (.iload_n 1, 1) := by decide +kernel
theorem dX11_pour_95 : decode cX11_pour 95 = .ok (.iaload, 1) := by decide +kernel
theorem dX11_pour_96 : decode cX11_pour 96 = .ok (.i2l, 1) := by decide +kernel
theorem dX11_pour_97 : decode cX11_pour 97 = .ok (.lcmp, 1) := by decide +kernel
theorem dX11_pour_98 : decode cX11_pour 98 = .ok (.ifCond .gt 21, 3) := by decide +kernel
theorem dX11_pour_101 : decode cX11_pour 101 = .ok (.iload 4, 2) := by decide +kernel
theorem dX11_pour_103 : decode cX11_pour 103 = .ok (.i2l, 1) := by decide +kernel
theorem dX11_pour_104 : decode cX11_pour 104 = .ok (.iload 5, 2) := by decide +kernel
theorem dX11_pour_106 : decode cX11_pour 106 = .ok (.i2l, 1) := by decide +kernel
theorem dX11_pour_107 : decode cX11_pour 107 = .ok (.ladd, 1) := by decide +kernel
theorem dX11_pour_108 : decode cX11_pour 108 = .ok (.aload_n 0, 1) := by decide +kernel
theorem dX11_pour_109 : decode cX11_pour 109 = .ok (.getfield 13, 3) := by decide +kernel
theorem dX11_pour_112 : decode cX11_pour 112 = .ok (.iload_n 3, 1) := by decide +kernel
theorem dX11_pour_113 : decode cX11_pour 113 = .ok (.iaload, 1) := by decide +kernel
theorem dX11_pour_114 : decode cX11_pour 114 = .ok (.i2l, 1) := by decide +kernel
theorem dX11_pour_115 : decode cX11_pour 115 = .ok (.lcmp, 1) := by decide +kernel
theorem dX11_pour_116 : decode cX11_pour 116 = .ok (.ifCond .le 9, 3) := by decide +kernel
theorem dX11_pour_119 : decode cX11_pour 119 = .ok (.aload_n 0, 1) := by decide +kernel
theorem dX11_pour_120 : decode cX11_pour 120 = .ok (.iconst 3, 1) := by decide +kernel
theorem dX11_pour_121 : decode cX11_pour 121 = .ok (.invokevirtual 123, 3) := by decide +kernel
theorem dX11_pour_124 : decode cX11_pour 124 = .ok (.ireturn, 1) := by decide +kernel
theorem dX11_pour_125 : decode cX11_pour 125 = .ok (.aload_n 0, 1) := by decide +kernel
theorem dX11_pour_126 : decode cX11_pour 126 = .ok (.getfield 16, 3) := by decide +kernel
theorem dX11_pour_129 : decode cX11_pour 129 = .ok (.iload_n 1, 1) := by decide +kernel
theorem dX11_pour_130 : decode cX11_pour 130 = .ok (.bipush 60, 2) := by decide +kernel
theorem dX11_pour_132 : decode cX11_pour 132 = .ok (.imul, 1) := by decide +kernel
theorem dX11_pour_133 : decode cX11_pour 133 = .ok (.iload_n 2, 1) := by decide +kernel
theorem dX11_pour_134 : decode cX11_pour 134 = .ok (.iadd, 1) := by decide +kernel
theorem dX11_pour_135 : decode cX11_pour 135 = .ok (.aload_n 0, 1) := by decide +kernel
theorem dX11_pour_136 : decode cX11_pour 136 = .ok (.getfield 16, 3) := by decide +kernel
theorem dX11_pour_139 : decode cX11_pour 139 = .ok (.iload_n 3, 1) := by decide +kernel
theorem dX11_pour_140 : decode cX11_pour 140 = .ok (.bipush 60, 2) := by decide +kernel
theorem dX11_pour_142 : decode cX11_pour 142 = .ok (.imul, 1) := by decide +kernel
theorem dX11_pour_143 : decode cX11_pour 143 = .ok (.iload 4, 2) := by decide +kernel
theorem dX11_pour_145 : decode cX11_pour 145 = .ok (.iadd, 1) := by decide +kernel
theorem dX11_pour_146 : decode cX11_pour 146 = .ok (.iload 5, 2) := by decide +kernel
theorem dX11_pour_148 : decode cX11_pour 148 = .ok (.invokestatic 146, 3) := by decide +kernel
theorem dX11_pour_151 : decode cX11_pour 151 = .ok (.aload_n 0, 1) := by decide +kernel
theorem dX11_pour_152 : decode cX11_pour 152 = .ok (.invokevirtual 130, 3) := by decide +kernel
theorem dX11_pour_155 : decode cX11_pour 155 = .ok (.ireturn, 1) := by decide +kernel
theorem dX11_whyNoPlace_0 : decode cX11_whyNoPlace 0 = .ok (.iload_n 1, 1) := by decide +kernel
theorem dX11_whyNoPlace_1 : decode cX11_whyNoPlace 1 = .ok (.iconst 4, 1) := by decide +kernel
theorem dX11_whyNoPlace_2 : decode cX11_whyNoPlace 2 = .ok (.invokestatic 119, 3) := by decide +kernel
theorem dX11_whyNoPlace_5 : decode cX11_whyNoPlace 5 = .ok (.ifCond .ne 5, 3) := by decide +kernel
theorem dX11_whyNoPlace_8 : decode cX11_whyNoPlace 8 = .ok (.iconst 1, 1) := by decide +kernel
theorem dX11_whyNoPlace_9 : decode cX11_whyNoPlace 9 = .ok (.ireturn, 1) := by decide +kernel
theorem dX11_whyNoPlace_10 : decode cX11_whyNoPlace 10 = .ok (.aload_n 0, 1) := by decide +kernel
theorem dX11_whyNoPlace_11 : decode cX11_whyNoPlace 11 = .ok (.getfield 9, 3) := by decide +kernel
theorem dX11_whyNoPlace_14 : decode cX11_whyNoPlace 14 = .ok (.iload_n 1, 1) := by decide +kernel
theorem dX11_whyNoPlace_15 : decode cX11_whyNoPlace 15 = .ok (.iaload, 1) := by decide +kernel
theorem dX11_whyNoPlace_16 : decode cX11_whyNoPlace 16 = .ok (.iconst (-1), 1) := by decide +kernel
theorem dX11_whyNoPlace_17 : decode cX11_whyNoPlace 17 = .ok (.if_icmp .ne 5, 3) := by decide +kernel
theorem dX11_whyNoPlace_20 : decode cX11_whyNoPlace 20 = .ok (.iconst 2, 1) := by decide +kernel
theorem dX11_whyNoPlace_21 : decode cX11_whyNoPlace 21 = .ok (.ireturn, 1) := by decide +kernel
theorem dX11_whyNoPlace_22 : decode cX11_whyNoPlace 22 = .ok (.iload_n 2, 1) := by decide +kernel
theorem dX11_whyNoPlace_23 : decode cX11_whyNoPlace 23 = .ok (.aload_n 0, 1) := by decide +kernel
theorem dX11_whyNoPlace_24 : decode cX11_whyNoPlace 24 = .ok (.getfield 13, 3) := by decide +kernel
theorem dX11_whyNoPlace_27 : decode cX11_whyNoPlace 27 = .ok (.iload_n 1, 1) := by decide +kernel
theorem dX11_whyNoPlace_28 : decode cX11_whyNoPlace 28 = .ok (.iaload, 1) := by decide +kernel
theorem dX11_whyNoPlace_29 : decode cX11_whyNoPlace 29 = .ok (.invokestatic 119, 3) := by decide +kernel
theorem dX11_whyNoPlace_32 : decode cX11_whyNoPlace 32 = .ok (.ifCond .eq 7, 3) := by decide +kernel
theorem dX11_whyNoPlace_35 : decode cX11_whyNoPlace 35 = .ok (.iconst 0, 1) := by decide +kernel
theorem dX11_whyNoPlace_36 : decode cX11_whyNoPlace 36 = .ok (.goto 4, 3) := by decide +kernel
theorem dX11_whyNoPlace_39 : decode cX11_whyNoPlace 39 = .ok (.iconst 3, 1) := by decide +kernel
theorem dX11_whyNoPlace_40 : decode cX11_whyNoPlace 40 = .ok (.ireturn, 1) := by decide +kernel
theorem dX11_cut_0 : decode cX11_cut 0 = .ok (.iload_n 2, 1) := by decide +kernel
theorem dX11_cut_1 : decode cX11_cut 1 = .ok (.tableswitch 41 0 2 #[27, 32, 37], 27) := by decide +kernel
theorem dX11_cut_28 : decode cX11_cut 28 = .ok (.lload_n 0, 1) := by decide +kernel
theorem dX11_cut_29 : decode cX11_cut 29 = .ok (.l2i, 1) := by decide +kernel
theorem dX11_cut_30 : decode cX11_cut 30 = .ok (.i2b, 1) := by decide +kernel
theorem dX11_cut_31 : decode cX11_cut 31 = .ok (.i2l, 1) := by decide +kernel
theorem dX11_cut_32 : decode cX11_cut 32 = .ok (.lreturn, 1) := by decide +kernel
theorem dX11_cut_33 : decode cX11_cut 33 = .ok (.lload_n 0, 1) := by decide +kernel
theorem dX11_cut_34 : decode cX11_cut 34 = .ok (.l2i, 1) := by decide +kernel
theorem dX11_cut_35 : decode cX11_cut 35 = .ok (.i2s, 1) := by decide +kernel
theorem dX11_cut_36 : decode cX11_cut 36 = .ok (.i2l, 1) := by decide +kernel
theorem dX11_cut_37 : decode cX11_cut 37 = .ok (.lreturn, 1) := by decide +kernel
theorem dX11_cut_38 : decode cX11_cut 38 = .ok (.lload_n 0, 1) := by decide +kernel
theorem dX11_cut_39 : decode cX11_cut 39 = .ok (.l2i, 1) := by decide +kernel
theorem dX11_cut_40 : decode cX11_cut 40 = .ok (.i2l, 1) := by decide +kernel
theorem dX11_cut_41 : decode cX11_cut 41 = .ok (.lreturn, 1) := by decide +kernel
theorem dX11_cut_42 : decode cX11_cut 42 = .ok (.lload_n 0, 1) := by decide +kernel
theorem dX11_cut_43 : decode cX11_cut 43 = .ok (.lreturn, 1) := by decide +kernel
theorem dX11_feed_0 : decode cX11_feed 0 = .ok (.aload_n 0, 1) := by decide +kernel
theorem dX11_feed_1 : decode cX11_feed 1 = .ok (.getfield 23, 3) := by decide +kernel
theorem dX11_feed_4 : decode cX11_feed 4 = .ok (.getfield 152, 3) := by decide +kernel
theorem dX11_feed_7 : decode cX11_feed 7 = .ok (.bipush 20, 2) := by decide +kernel
theorem dX11_feed_9 : decode cX11_feed 9 = .ok (.iadd, 1) := by decide +kernel
theorem dX11_feed_10 : decode cX11_feed 10 = .ok (.sipush 900, 3) := by decide +kernel
theorem dX11_feed_13 : decode cX11_feed 13 = .ok (.if_icmp .le 5, 3) := by decide +kernel
theorem dX11_feed_16 : decode cX11_feed 16 = .ok (.iconst (-1), 1) := by decide +kernel
theorem dX11_feed_17 : decode cX11_feed 17 = .ok (.ireturn, 1) := by decide +kernel
theorem dX11_feed_18 : decode cX11_feed 18 = .ok (.aload_n 0, 1) := by decide +kernel
theorem dX11_feed_19 : decode cX11_feed 19 = .ok (.getfield 23, 3) := by decide +kernel
theorem dX11_feed_22 : decode cX11_feed 22 = .ok (.iload_n 1, 1) := by decide +kernel
theorem dX11_feed_23 : decode cX11_feed 23 = .ok (.invokevirtual 155, 3) := by decide +kernel
theorem dX11_feed_26 : decode cX11_feed 26 = .ok (.aload_n 0, 1) := by decide +kernel
theorem dX11_feed_27 : decode cX11_feed 27 = .ok (.getfield 23, 3) := by decide +kernel
theorem dX11_feed_30 : decode cX11_feed 30 = .ok (.iload_n 2, 1) := by decide +kernel
theorem dX11_feed_31 : decode cX11_feed 31 = .ok (.invokevirtual 155, 3) := by decide +kernel
theorem dX11_feed_34 : decode cX11_feed 34 = .ok (.aload_n 0, 1) := by decide +kernel
theorem dX11_feed_35 : decode cX11_feed 35 = .ok (.getfield 23, 3) := by decide +kernel
theorem dX11_feed_38 : decode cX11_feed 38 = .ok (.iload_n 3, 1) := by decide +kernel
theorem dX11_feed_39 : decode cX11_feed 39 = .ok (.invokevirtual 155, 3) := by decide +kernel
theorem dX11_feed_42 : decode cX11_feed 42 = .ok (.aload_n 0, 1) := by decide +kernel
theorem dX11_feed_43 : decode cX11_feed 43 = .ok (.getfield 23, 3) := by decide +kernel
theorem dX11_feed_46 : decode cX11_feed 46 = .ok (.iload 4, 2) := by decide +kernel
theorem dX11_feed_48 : decode cX11_feed 48 = .ok (.invokevirtual 155, 3) := by decide +kernel
theorem dX11_feed_51 : decode cX11_feed 51 = .ok (.aload_n 0, 1) := by decide +kernel
theorem dX11_feed_52 : decode cX11_feed 52 = .ok (.getfield 23, 3) := by decide +kernel
theorem dX11_feed_55 : decode cX11_feed 55 = .ok (.iload 5, 2) := by decide +kernel
theorem dX11_feed_57 : decode cX11_feed 57 = .ok (.invokevirtual 155, 3) := by decide +kernel
theorem dX11_feed_60 : decode cX11_feed 60 = .ok (.aload_n 0, 1) := by decide +kernel
theorem dX11_feed_61 : decode cX11_feed 61 = .ok (.getfield 23, 3) := by decide +kernel
theorem dX11_feed_64 : decode cX11_feed 64 = .ok (.getfield 152, 3) := by decide +kernel
theorem dX11_feed_67 : decode cX11_feed 67 = .ok (.ireturn, 1) := by decide +kernel
theorem dX11_court_0 : decode cX11_court 0 = .ok (.iload_n 1, 1) := by decide +kernel
theorem dX11_court_1 : decode cX11_court 1 = .ok (.aload_n 0, 1) := by decide +kernel
theorem dX11_court_2 : decode cX11_court 2 = .ok (.getfield 23, 3) := by decide +kernel
theorem dX11_court_5 : decode cX11_court 5 = .ok (.getfield 152, 3) := by decide +kernel
theorem dX11_court_8 : decode cX11_court 8 = .ok (.iconst 1, 1) := by decide +kernel
theorem dX11_court_9 : decode cX11_court 9 = .ok (.iadd, 1) := by decide +kernel
theorem dX11_court_10 : decode cX11_court 10 = .ok (.invokestatic 119, 3) := by decide +kernel
theorem dX11_court_13 : decode cX11_court 13 = .ok (.ifCond .ne 9, 3) := by decide +kernel
theorem dX11_court_16 : decode cX11_court 16 = .ok (.aload_n 0, 1) := by decide +kernel
theorem dX11_court_17 : decode cX11_court 17 = .ok (.iconst 1, 1) := by decide +kernel
theorem dX11_court_18 : decode cX11_court 18 = .ok (.invokevirtual 142, 3) := by decide +kernel
theorem dX11_court_21 : decode cX11_court 21 = .ok (.ireturn, 1) := by decide +kernel
theorem dX11_court_22 : decode cX11_court 22 = .ok (.aload_n 0, 1) := by decide +kernel
theorem dX11_court_23 : decode cX11_court 23 = .ok (.invokevirtual 159, 3) := by decide +kernel
theorem dX11_court_26 : decode cX11_court 26 = .ok (.astore_n 2, 1) := by decide +kernel
theorem dX11_court_27 : decode cX11_court 27 = .ok (.aload_n 0, 1) := by decide +kernel
theorem dX11_court_28 : decode cX11_court 28 = .ok (.getfield 23, 3) := by decide +kernel
theorem dX11_court_31 : decode cX11_court 31 = .ok (.iload_n 1, 1) := by decide +kernel
theorem dX11_court_32 : decode cX11_court 32 = .ok (.invokevirtual 163, 3) := by decide +kernel
theorem dX11_court_35 : decode cX11_court 35 = .ok (.aload_n 0, 1) := by decide +kernel
theorem dX11_court_36 : decode cX11_court 36 = .ok (.getfield 83, 3) := by decide +kernel
theorem dX11_court_39 : decode cX11_court 39 = .ok (.aload_n 2, 1) := by decide +kernel
theorem dX11_court_40 : decode cX11_court 40 = .ok (.invokevirtual 166, 3) := by decide +kernel
theorem dX11_court_43 : decode cX11_court 43 = .ok (.ifCond .ne 10, 3) := by decide +kernel
theorem dX11_court_46 : decode cX11_court 46 = .ok (.aload_n 0, 1) := by decide +kernel
theorem dX11_court_47 : decode cX11_court 47 = .ok (.bipush 9, 2) := by decide +kernel
theorem dX11_court_49 : decode cX11_court 49 = .ok (.invokevirtual 142, 3) := by decide +kernel
theorem dX11_court_52 : decode cX11_court 52 = .ok (.ireturn, 1) := by decide +kernel
theorem dX11_court_53 : decode cX11_court 53 = .ok (.aload_n 0, 1) := by decide +kernel
theorem dX11_court_54 : decode cX11_court 54 = .ok (.aload_n 2, 1) := by decide +kernel
theorem dX11_court_55 : decode cX11_court 55 = .ok (.putfield 74, 3) := by decide +kernel
theorem dX11_court_58 : decode cX11_court 58 = .ok (.aload_n 0, 1) := by decide +kernel
theorem dX11_court_59 : decode cX11_court 59 = .ok (.getfield 45, 3) := by decide +kernel
theorem dX11_court_62 : decode cX11_court 62 = .ok (.iconst 0, 1) := by decide +kernel
theorem dX11_court_63 : decode cX11_court 63 = .ok (.putfield 170, 3) := by decide +kernel
theorem dX11_court_66 : decode cX11_court 66 = .ok (.aload_n 0, 1) := by decide +kernel
theorem dX11_court_67 : decode cX11_court 67 = .ok (.getfield 92, 3) := by decide +kernel
theorem dX11_court_70 : decode cX11_court 70 = .ok (.aload_n 2, 1) := by decide +kernel
theorem dX11_court_71 : decode cX11_court 71 = .ok (.invokevirtual 173, 3) := by decide +kernel
theorem dX11_court_74 : decode cX11_court 74 = .ok (.aload_n 0, 1) := by decide +kernel
theorem dX11_court_75 : decode cX11_court 75 = .ok (.aload_n 2, 1) := by decide +kernel
theorem dX11_court_76 : decode cX11_court 76 = .ok (.getfield 176, 3) := by decide +kernel
theorem dX11_court_79 : decode cX11_court 79 = .ok (.invokevirtual 179, 3) := by decide +kernel
theorem dX11_court_82 : decode cX11_court 82 = .ok (.ireturn, 1) := by decide +kernel
theorem dX11_plan_0 : decode cX11_plan 0 = .ok (.iload_n 1, 1) := by decide +kernel
theorem dX11_plan_1 : decode cX11_plan 1 = .ok (.aload_n 0, 1) := by decide +kernel
theorem dX11_plan_2 : decode cX11_plan 2 = .ok (.getfield 23, 3) := by decide +kernel
theorem dX11_plan_5 : decode cX11_plan 5 = .ok (.getfield 152, 3) := by decide +kernel
theorem dX11_plan_8 : decode cX11_plan 8 = .ok (.iconst 1, 1) := by decide +kernel
theorem dX11_plan_9 : decode cX11_plan 9 = .ok (.iadd, 1) := by decide +kernel
theorem dX11_plan_10 : decode cX11_plan 10 = .ok (.invokestatic 119, 3) := by decide +kernel
theorem dX11_plan_13 : decode cX11_plan 13 = .ok (.ifCond .eq 10, 3) := by decide +kernel
theorem dX11_plan_16 : decode cX11_plan 16 = .ok (.iload_n 1, 1) := by decide +kernel
theorem dX11_plan_17 : decode cX11_plan 17 = .ok (.sipush 300, 3) := by decide +kernel
theorem dX11_plan_20 : decode cX11_plan 20 = .ok (.if_icmp .le 9, 3) := by decide +kernel
theorem dX11_plan_23 : decode cX11_plan 23 = .ok (.aload_n 0, 1) := by decide +kernel
theorem dX11_plan_24 : decode cX11_plan 24 = .ok (.iconst 1, 1) := by decide +kernel
theorem dX11_plan_25 : decode cX11_plan 25 = .ok (.invokevirtual 142, 3) := by decide +kernel
theorem dX11_plan_28 : decode cX11_plan 28 = .ok (.ireturn, 1) := by decide +kernel
theorem dX11_plan_29 : decode cX11_plan 29 = .ok (.aload_n 0, 1) := by decide +kernel
theorem dX11_plan_30 : decode cX11_plan 30 = .ok (.getfield 23, 3) := by decide +kernel
theorem dX11_plan_33 : decode cX11_plan 33 = .ok (.iload_n 1, 1) := by decide +kernel
theorem dX11_plan_34 : decode cX11_plan 34 = .ok (.invokevirtual 163, 3) := by decide +kernel
theorem dX11_plan_37 : decode cX11_plan 37 = .ok (.aload_n 0, 1) := by decide +kernel
theorem dX11_plan_38 : decode cX11_plan 38 = .ok (.getfield 49, 3) := by decide +kernel
theorem dX11_plan_41 : decode cX11_plan 41 = .ok (.aload_n 0, 1) := by decide +kernel
theorem dX11_plan_42 : decode cX11_plan 42 = .ok (.getfield 23, 3) := by decide +kernel
theorem dX11_plan_45 : decode cX11_plan 45 = .ok (.aload_n 0, 1) := by decide +kernel
theorem dX11_plan_46 : decode cX11_plan 46 = .ok (.getfield 74, 3) := by decide +kernel
theorem dX11_plan_49 : decode cX11_plan 49 = .ok (.getfield 182, 3) := by decide +kernel
theorem dX11_plan_52 : decode cX11_plan 52 = .ok (.invokevirtual 186, 3) := by decide +kernel
theorem dX11_plan_55 : decode cX11_plan 55 = .ok (.ifCond .ne 10, 3) := by decide +kernel
theorem dX11_plan_58 : decode cX11_plan 58 = .ok (.aload_n 0, 1) := by decide +kernel
theorem dX11_plan_59 : decode cX11_plan 59 = .ok (.bipush 9, 2) := by decide +kernel
theorem dX11_plan_61 : decode cX11_plan 61 = .ok (.invokevirtual 142, 3) := by decide +kernel
theorem dX11_plan_64 : decode cX11_plan 64 = .ok (.ireturn, 1) := by decide +kernel
theorem dX11_plan_65 : decode cX11_plan 65 = .ok (.aload_n 0, 1) := by decide +kernel
theorem dX11_plan_66 : decode cX11_plan 66 = .ok (.getfield 45, 3) := by decide +kernel
theorem dX11_plan_69 : decode cX11_plan 69 = .ok (.astore_n 2, 1) := by decide +kernel
theorem dX11_plan_70 : decode cX11_plan 70 = .ok (.aload_n 0, 1) := by decide +kernel
theorem dX11_plan_71 : decode cX11_plan 71 = .ok (.aload_n 0, 1) := by decide +kernel
theorem dX11_plan_72 : decode cX11_plan 72 = .ok (.getfield 49, 3) := by decide +kernel
theorem dX11_plan_75 : decode cX11_plan 75 = .ok (.putfield 45, 3) := by decide +kernel
theorem dX11_plan_78 : decode cX11_plan 78 = .ok (.aload_n 0, 1) := by decide +kernel
theorem dX11_plan_79 : decode cX11_plan 79 = .ok (.aload_n 2, 1) := by decide +kernel
theorem dX11_plan_80 : decode cX11_plan 80 = .ok (.putfield 49, 3) := by decide +kernel
theorem dX11_plan_83 : decode cX11_plan 83 = .ok (.aload_n 0, 1) := by decide +kernel
theorem dX11_plan_84 : decode cX11_plan 84 = .ok (.aload_n 0, 1) := by decide +kernel
theorem dX11_plan_85 : decode cX11_plan 85 = .ok (.getfield 45, 3) := by decide +kernel
theorem dX11_plan_88 : decode cX11_plan 88 = .ok (.getfield 190, 3) := by decide +kernel
theorem dX11_plan_91 : decode cX11_plan 91 = .ok (.invokevirtual 179, 3) := by decide +kernel
theorem dX11_plan_94 : decode cX11_plan 94 = .ok (.ireturn, 1) := by decide +kernel
theorem dX11_fault_0 : decode cX11_fault 0 = .ok (.iload_n 1, 1) := by decide +kernel
theorem dX11_fault_1 : decode cX11_fault 1 = .ok (.lookupswitch 43 #[(0, 27), (1, 35)], 27) := by decide +kernel
theorem dX11_fault_28 : decode cX11_fault 28 = .ok (.aload_n 0, 1) := by decide +kernel
theorem dX11_fault_29 : decode cX11_fault 29 = .ok (.getfield 23, 3) := by decide +kernel
theorem dX11_fault_32 : decode cX11_fault 32 = .ok (.getfield 193, 3) := by decide +kernel
theorem dX11_fault_35 : decode cX11_fault 35 = .ok (.ireturn, 1) := by decide +kernel
theorem dX11_fault_36 : decode cX11_fault 36 = .ok (.aload_n 0, 1) := by decide +kernel
theorem dX11_fault_37 : decode cX11_fault 37 = .ok (.getfield 23, 3) := by decide +kernel
theorem dX11_fault_40 : decode cX11_fault 40 = .ok (.getfield 196, 3) := by decide +kernel
theorem dX11_fault_43 : decode cX11_fault 43 = .ok (.ireturn, 1) := by decide +kernel
theorem dX11_fault_44 : decode cX11_fault 44 = .ok (.iconst (-1), 1) := by decide +kernel
theorem dX11_fault_45 : decode cX11_fault 45 = .ok (.ireturn, 1) := by decide +kernel
theorem dX11_told_0 : decode cX11_told 0 = .ok (.iload_n 1, 1) := by decide +kernel
theorem dX11_told_1 : decode cX11_told 1 = .ok (.tableswitch 152 0 7 #[47, 59, 71, 83, 95, 107, 122, 137], 47) := by decide +kernel
theorem dX11_told_48 : decode cX11_told 48 = .ok (.aload_n 0, 1) := by decide +kernel
theorem dX11_told_49 : decode cX11_told 49 = .ok (.aload_n 0, 1) := by decide +kernel
theorem dX11_told_50 : decode cX11_told 50 = .ok (.getfield 74, 3) := by decide +kernel
theorem dX11_told_53 : decode cX11_told 53 = .ok (.getfield 199, 3) := by decide +kernel
theorem dX11_told_56 : decode cX11_told 56 = .ok (.invokevirtual 179, 3) := by decide +kernel
theorem dX11_told_59 : decode cX11_told 59 = .ok (.ireturn, 1) := by decide +kernel
theorem dX11_told_60 : decode cX11_told 60 = .ok (.aload_n 0, 1) := by decide +kernel
theorem dX11_told_61 : decode cX11_told 61 = .ok (.aload_n 0, 1) := by decide +kernel
theorem dX11_told_62 : decode cX11_told 62 = .ok (.getfield 74, 3) := by decide +kernel
theorem dX11_told_65 : decode cX11_told 65 = .ok (.getfield 202, 3) := by decide +kernel
theorem dX11_told_68 : decode cX11_told 68 = .ok (.invokevirtual 179, 3) := by decide +kernel
theorem dX11_told_71 : decode cX11_told 71 = .ok (.ireturn, 1) := by decide +kernel
theorem dX11_told_72 : decode cX11_told 72 = .ok (.aload_n 0, 1) := by decide +kernel
theorem dX11_told_73 : decode cX11_told 73 = .ok (.aload_n 0, 1) := by decide +kernel
theorem dX11_told_74 : decode cX11_told 74 = .ok (.getfield 74, 3) := by decide +kernel
theorem dX11_told_77 : decode cX11_told 77 = .ok (.getfield 205, 3) := by decide +kernel
theorem dX11_told_80 : decode cX11_told 80 = .ok (.invokevirtual 179, 3) := by decide +kernel
theorem dX11_told_83 : decode cX11_told 83 = .ok (.ireturn, 1) := by decide +kernel
theorem dX11_told_84 : decode cX11_told 84 = .ok (.aload_n 0, 1) := by decide +kernel
theorem dX11_told_85 : decode cX11_told 85 = .ok (.aload_n 0, 1) := by decide +kernel
theorem dX11_told_86 : decode cX11_told 86 = .ok (.getfield 74, 3) := by decide +kernel
theorem dX11_told_89 : decode cX11_told 89 = .ok (.getfield 208, 3) := by decide +kernel
theorem dX11_told_92 : decode cX11_told 92 = .ok (.invokevirtual 179, 3) := by decide +kernel
theorem dX11_told_95 : decode cX11_told 95 = .ok (.ireturn, 1) := by decide +kernel
theorem dX11_told_96 : decode cX11_told 96 = .ok (.aload_n 0, 1) := by decide +kernel
theorem dX11_told_97 : decode cX11_told 97 = .ok (.aload_n 0, 1) := by decide +kernel
theorem dX11_told_98 : decode cX11_told 98 = .ok (.getfield 74, 3) := by decide +kernel
theorem dX11_told_101 : decode cX11_told 101 = .ok (.getfield 211, 3) := by decide +kernel
theorem dX11_told_104 : decode cX11_told 104 = .ok (.invokevirtual 179, 3) := by decide +kernel
theorem dX11_told_107 : decode cX11_told 107 = .ok (.ireturn, 1) := by decide +kernel
theorem dX11_told_108 : decode cX11_told 108 = .ok (.aload_n 0, 1) := by decide +kernel
theorem dX11_told_109 : decode cX11_told 109 = .ok (.aload_n 0, 1) := by decide +kernel
theorem dX11_told_110 : decode cX11_told 110 = .ok (.getfield 92, 3) := by decide +kernel
theorem dX11_told_113 : decode cX11_told 113 = .ok (.getfield 214, 3) := by decide +kernel
theorem dX11_told_116 : decode cX11_told 116 = .ok (.getfield 218, 3) := by decide +kernel
theorem dX11_told_119 : decode cX11_told 119 = .ok (.invokevirtual 179, 3) := by decide +kernel
theorem dX11_told_122 : decode cX11_told 122 = .ok (.ireturn, 1) := by decide +kernel
theorem dX11_told_123 : decode cX11_told 123 = .ok (.aload_n 0, 1) := by decide +kernel
theorem dX11_told_124 : decode cX11_told 124 = .ok (.aload_n 0, 1) := by decide +kernel
theorem dX11_told_125 : decode cX11_told 125 = .ok (.getfield 92, 3) := by decide +kernel
theorem dX11_told_128 : decode cX11_told 128 = .ok (.getfield 214, 3) := by decide +kernel
theorem dX11_told_131 : decode cX11_told 131 = .ok (.getfield 223, 3) := by decide +kernel
theorem dX11_told_134 : decode cX11_told 134 = .ok (.invokevirtual 179, 3) := by decide +kernel
theorem dX11_told_137 : decode cX11_told 137 = .ok (.ireturn, 1) := by decide +kernel
theorem dX11_told_138 : decode cX11_told 138 = .ok (.aload_n 0, 1) := by decide +kernel
theorem dX11_told_139 : decode cX11_told 139 = .ok (.aload_n 0, 1) := by decide +kernel
theorem dX11_told_140 : decode cX11_told 140 = .ok (.getfield 92, 3) := by decide +kernel
theorem dX11_told_143 : decode cX11_told 143 = .ok (.getfield 214, 3) := by decide +kernel
theorem dX11_told_146 : decode cX11_told 146 = .ok (.invokevirtual 226, 3) := by decide +kernel
theorem dX11_told_149 : decode cX11_told 149 = .ok (.invokevirtual 179, 3) := by decide +kernel
theorem dX11_told_152 : decode cX11_told 152 = .ok (.ireturn, 1) := by decide +kernel
theorem dX11_told_153 : decode cX11_told 153 = .ok (.aload_n 0, 1) := by decide +kernel
theorem dX11_told_154 : decode cX11_told 154 = .ok (.iconst 1, 1) := by decide +kernel
theorem dX11_told_155 : decode cX11_told 155 = .ok (.invokevirtual 142, 3) := by decide +kernel
theorem dX11_told_158 : decode cX11_told 158 = .ok (.ireturn, 1) := by decide +kernel
theorem dX11_value_0 : decode cX11_value 0 = .ok (.iload_n 1, 1) := by decide +kernel
theorem dX11_value_1 : decode cX11_value 1 = .ok (.aload_n 0, 1) := by decide +kernel
theorem dX11_value_2 : decode cX11_value 2 = .ok (.getfield 74, 3) := by decide +kernel
theorem dX11_value_5 : decode cX11_value 5 = .ok (.getfield 202, 3) := by decide +kernel
theorem dX11_value_8 : decode cX11_value 8 = .ok (.invokestatic 119, 3) := by decide +kernel
theorem dX11_value_11 : decode cX11_value 11 = .ok (.ifCond .eq 11, 3) := by decide +kernel
theorem dX11_value_14 : decode cX11_value 14 = .ok (.iload_n 2, 1) := by decide +kernel
theorem dX11_value_15 : decode cX11_value 15 = .ok (.iconst 2, 1) := by decide +kernel
theorem dX11_value_16 : decode cX11_value 16 = .ok (.invokestatic 119, 3) := by decide +kernel
theorem dX11_value_19 : decode cX11_value 19 = .ok (.ifCond .ne 9, 3) := by decide +kernel
theorem dX11_value_22 : decode cX11_value 22 = .ok (.aload_n 0, 1) := by decide +kernel
theorem dX11_value_23 : decode cX11_value 23 = .ok (.iconst 1, 1) := by decide +kernel
theorem dX11_value_24 : decode cX11_value 24 = .ok (.invokevirtual 142, 3) := by decide +kernel
theorem dX11_value_27 : decode cX11_value 27 = .ok (.ireturn, 1) := by decide +kernel
theorem dX11_value_28 : decode cX11_value 28 = .ok (.aload_n 0, 1) := by decide +kernel
theorem dX11_value_29 : decode cX11_value 29 = .ok (.iload_n 2, 1) := by decide +kernel
theorem dX11_value_30 : decode cX11_value 30 = .ok (.ifCond .ne 15, 3) := by decide +kernel
theorem dX11_value_33 : decode cX11_value 33 = .ok (.aload_n 0, 1) := by decide +kernel
theorem dX11_value_34 : decode cX11_value 34 = .ok (.getfield 74, 3) := by decide +kernel
theorem dX11_value_37 : decode cX11_value 37 = .ok (.getfield 230, 3) := by decide +kernel
theorem dX11_value_40 : decode cX11_value 40 = .ok (.iload_n 1, 1) := by decide +kernel
theorem dX11_value_41 : decode cX11_value 41 = .ok (.iaload, 1) := by decide +kernel
theorem dX11_value_42 : decode cX11_value 42 = .ok (.goto 12, 3) := by decide +kernel
theorem dX11_value_45 : decode cX11_value 45 = .ok (.aload_n 0, 1) := by decide +kernel
theorem dX11_value_46 : decode cX11_value 46 = .ok (.getfield 74, 3) := by decide +kernel
theorem dX11_value_49 : decode cX11_value 49 = .ok (.getfield 233, 3) := by decide +kernel
theorem dX11_value_52 : decode cX11_value 52 = .ok (.iload_n 1, 1) := by decide +kernel
theorem dX11_value_53 : decode cX11_value 53 = .ok (.iaload, 1) := by decide +kernel
theorem dX11_value_54 : decode cX11_value 54 = .ok (.invokevirtual 179, 3) := by decide +kernel
theorem dX11_value_57 : decode cX11_value 57 = .ok (.ireturn, 1) := by decide +kernel
theorem dX11_world_0 : decode cX11_world 0 = .ok (.iload_n 1, 1) := by decide +kernel
theorem dX11_world_1 : decode cX11_world 1 = .ok (.aload_n 0, 1) := by decide +kernel
theorem dX11_world_2 : decode cX11_world 2 = .ok (.getfield 74, 3) := by decide +kernel
theorem dX11_world_5 : decode cX11_world 5 = .ok (.getfield 205, 3) := by decide +kernel
theorem dX11_world_8 : decode cX11_world 8 = .ok (.invokestatic 119, 3) := by decide +kernel
theorem dX11_world_11 : decode cX11_world 11 = .ok (.ifCond .eq 17, 3) := by decide +kernel
theorem dX11_world_14 : decode cX11_world 14 = .ok (.iload_n 2, 1) := by decide +kernel
theorem dX11_world_15 : decode cX11_world 15 = .ok (.aload_n 0, 1) := by decide +kernel
theorem dX11_world_16 : decode cX11_world 16 = .ok (.getfield 74, 3) := by decide +kernel
theorem dX11_world_19 : decode cX11_world 19 = .ok (.getfield 199, 3) := by decide +kernel
theorem dX11_world_22 : decode cX11_world 22 = .ok (.invokestatic 119, 3) := by decide +kernel
theorem dX11_world_25 : decode cX11_world 25 = .ok (.ifCond .ne 9, 3) := by decide +kernel
theorem dX11_world_28 : decode cX11_world 28 = .ok (.aload_n 0, 1) := by decide +kernel
theorem dX11_world_29 : decode cX11_world 29 = .ok (.iconst 1, 1) := by decide +kernel
theorem dX11_world_30 : decode cX11_world 30 = .ok (.invokevirtual 142, 3) := by decide +kernel
theorem dX11_world_33 : decode cX11_world 33 = .ok (.ireturn, 1) := by decide +kernel
theorem dX11_world_34 : decode cX11_world 34 = .ok (.aload_n 0, 1) := by decide +kernel
theorem dX11_world_35 : decode cX11_world 35 = .ok (.aload_n 0, 1) := by decide +kernel
theorem dX11_world_36 : decode cX11_world 36 = .ok (.getfield 74, 3) := by decide +kernel
theorem dX11_world_39 : decode cX11_world 39 = .ok (.iload_n 1, 1) := by decide +kernel
theorem dX11_world_40 : decode cX11_world 40 = .ok (.iload_n 2, 1) := by decide +kernel
theorem dX11_world_41 : decode cX11_world 41 = .ok (.invokevirtual 236, 3) := by decide +kernel
theorem dX11_world_44 : decode cX11_world 44 = .ok (.invokevirtual 179, 3) := by decide +kernel
theorem dX11_world_47 : decode cX11_world 47 = .ok (.ireturn, 1) := by decide +kernel
theorem dX11_possible_0 : decode cX11_possible 0 = .ok (.iload_n 1, 1) := by decide +kernel
theorem dX11_possible_1 : decode cX11_possible 1 = .ok (.aload_n 0, 1) := by decide +kernel
theorem dX11_possible_2 : decode cX11_possible 2 = .ok (.getfield 74, 3) := by decide +kernel
theorem dX11_possible_5 : decode cX11_possible 5 = .ok (.getfield 205, 3) := by decide +kernel
theorem dX11_possible_8 : decode cX11_possible 8 = .ok (.invokestatic 119, 3) := by decide +kernel
theorem dX11_possible_11 : decode cX11_possible 11 = .ok (.ifCond .ne 9, 3) := by decide +kernel
theorem dX11_possible_14 : decode cX11_possible 14 = .ok (.aload_n 0, 1) := by decide +kernel
theorem dX11_possible_15 : decode cX11_possible 15 = .ok (.iconst 1, 1) := by decide +kernel
theorem dX11_possible_16 : decode cX11_possible 16 = .ok (.invokevirtual 142, 3) := by decide +kernel
theorem dX11_possible_19 : decode cX11_possible 19 = .ok (.ireturn, 1) := by decide +kernel
theorem dX11_possible_20 : decode cX11_possible 20 = .ok (.aload_n 0, 1) := by decide +kernel
theorem dX11_possible_21 : decode cX11_possible 21 = .ok (.aload_n 0, 1) := by decide +kernel
theorem dX11_possible_22 : decode cX11_possible 22 = .ok (.getfield 74, 3) := by decide +kernel
theorem dX11_possible_25 : decode cX11_possible 25 = .ok (.iload_n 1, 1) := by decide +kernel
theorem dX11_possible_26 : decode cX11_possible 26 = .ok (.invokevirtual 239, 3) := by decide +kernel
theorem dX11_possible_29 : decode cX11_possible 29 = .ok (.ifCond .eq 7, 3) := by decide +kernel
theorem dX11_possible_32 : decode cX11_possible 32 = .ok (.iconst 1, 1) := by decide +kernel
theorem dX11_possible_33 : decode cX11_possible 33 = .ok (.goto 4, 3) := by decide +kernel
theorem dX11_possible_36 : decode cX11_possible 36 = .ok (.iconst 0, 1) := by decide +kernel
theorem dX11_possible_37 : decode cX11_possible 37 = .ok (.invokevirtual 179, 3) := by decide +kernel
theorem dX11_possible_40 : decode cX11_possible 40 = .ok (.ireturn, 1) := by decide +kernel
theorem dX11_holds_0 : decode cX11_holds 0 = .ok (.iload_n 1, 1) := by decide +kernel
theorem dX11_holds_1 : decode cX11_holds 1 = .ok (.aload_n 0, 1) := by decide +kernel
theorem dX11_holds_2 : decode cX11_holds 2 = .ok (.getfield 74, 3) := by decide +kernel
theorem dX11_holds_5 : decode cX11_holds 5 = .ok (.getfield 208, 3) := by decide +kernel
theorem dX11_holds_8 : decode cX11_holds 8 = .ok (.invokestatic 119, 3) := by decide +kernel
theorem dX11_holds_11 : decode cX11_holds 11 = .ok (.ifCond .eq 17, 3) := by decide +kernel
theorem dX11_holds_14 : decode cX11_holds 14 = .ok (.iload_n 2, 1) := by decide +kernel
theorem dX11_holds_15 : decode cX11_holds 15 = .ok (.aload_n 0, 1) := by decide +kernel
theorem dX11_holds_16 : decode cX11_holds 16 = .ok (.getfield 74, 3) := by decide +kernel
theorem dX11_holds_19 : decode cX11_holds 19 = .ok (.getfield 205, 3) := by decide +kernel
theorem dX11_holds_22 : decode cX11_holds 22 = .ok (.invokestatic 119, 3) := by decide +kernel
theorem dX11_holds_25 : decode cX11_holds 25 = .ok (.ifCond .ne 9, 3) := by decide +kernel
theorem dX11_holds_28 : decode cX11_holds 28 = .ok (.aload_n 0, 1) := by decide +kernel
theorem dX11_holds_29 : decode cX11_holds 29 = .ok (.iconst 1, 1) := by decide +kernel
theorem dX11_holds_30 : decode cX11_holds 30 = .ok (.invokevirtual 142, 3) := by decide +kernel
theorem dX11_holds_33 : decode cX11_holds 33 = .ok (.ireturn, 1) := by decide +kernel
theorem dX11_holds_34 : decode cX11_holds 34 = .ok (.aload_n 0, 1) := by decide +kernel
theorem dX11_holds_35 : decode cX11_holds 35 = .ok (.aload_n 0, 1) := by decide +kernel
theorem dX11_holds_36 : decode cX11_holds 36 = .ok (.getfield 74, 3) := by decide +kernel
theorem dX11_holds_39 : decode cX11_holds 39 = .ok (.iload_n 1, 1) := by decide +kernel
theorem dX11_holds_40 : decode cX11_holds 40 = .ok (.iload_n 2, 1) := by decide +kernel
theorem dX11_holds_41 : decode cX11_holds 41 = .ok (.invokevirtual 242, 3) := by decide +kernel
theorem dX11_holds_44 : decode cX11_holds 44 = .ok (.invokevirtual 179, 3) := by decide +kernel
theorem dX11_holds_47 : decode cX11_holds 47 = .ok (.ireturn, 1) := by decide +kernel
theorem dX11_fee_0 : decode cX11_fee 0 = .ok (.iload_n 1, 1) := by decide +kernel
theorem dX11_fee_1 : decode cX11_fee 1 = .ok (.aload_n 0, 1) := by decide +kernel
theorem dX11_fee_2 : decode cX11_fee 2 = .ok (.getfield 74, 3) := by decide +kernel
theorem dX11_fee_5 : decode cX11_fee 5 = .ok (.getfield 208, 3) := by decide +kernel
theorem dX11_fee_8 : decode cX11_fee 8 = .ok (.invokestatic 119, 3) := by decide +kernel
theorem dX11_fee_11 : decode cX11_fee 11 = .ok (.ifCond .ne 9, 3) := by decide +kernel
theorem dX11_fee_14 : decode cX11_fee 14 = .ok (.aload_n 0, 1) := by decide +kernel
theorem dX11_fee_15 : decode cX11_fee 15 = .ok (.iconst 1, 1) := by decide +kernel
theorem dX11_fee_16 : decode cX11_fee 16 = .ok (.invokevirtual 142, 3) := by decide +kernel
theorem dX11_fee_19 : decode cX11_fee 19 = .ok (.ireturn, 1) := by decide +kernel
theorem dX11_fee_20 : decode cX11_fee 20 = .ok (.aload_n 0, 1) := by decide +kernel
theorem dX11_fee_21 : decode cX11_fee 21 = .ok (.aload_n 0, 1) := by decide +kernel
theorem dX11_fee_22 : decode cX11_fee 22 = .ok (.getfield 74, 3) := by decide +kernel
theorem dX11_fee_25 : decode cX11_fee 25 = .ok (.getfield 245, 3) := by decide +kernel
theorem dX11_fee_28 : decode cX11_fee 28 = .ok (.iload_n 1, 1) := by decide +kernel
theorem dX11_fee_29 : decode cX11_fee 29 = .ok (.iaload, 1) := by decide +kernel
theorem dX11_fee_30 : decode cX11_fee 30 = .ok (.invokevirtual 179, 3) := by decide +kernel
theorem dX11_fee_33 : decode cX11_fee 33 = .ok (.ireturn, 1) := by decide +kernel
theorem dX11_witness_0 : decode cX11_witness 0 = .ok (.iload_n 1, 1) := by decide +kernel
theorem dX11_witness_1 : decode cX11_witness 1 = .ok (.aload_n 0, 1) := by decide +kernel
theorem dX11_witness_2 : decode cX11_witness 2 = .ok (.getfield 74, 3) := by decide +kernel
theorem dX11_witness_5 : decode cX11_witness 5 = .ok (.getfield 211, 3) := by decide +kernel
theorem dX11_witness_8 : decode cX11_witness 8 = .ok (.invokestatic 119, 3) := by decide +kernel
theorem dX11_witness_11 : decode cX11_witness 11 = .ok (.ifCond .eq 12, 3) := by decide +kernel
theorem dX11_witness_14 : decode cX11_witness 14 = .ok (.iload_n 2, 1) := by decide +kernel
theorem dX11_witness_15 : decode cX11_witness 15 = .ok (.bipush 6, 2) := by decide +kernel
theorem dX11_witness_17 : decode cX11_witness 17 = .ok (.invokestatic 119, 3) := by decide +kernel
theorem dX11_witness_20 : decode cX11_witness 20 = .ok (.ifCond .ne 9, 3) := by decide +kernel
theorem dX11_witness_23 : decode cX11_witness 23 = .ok (.aload_n 0, 1) := by decide +kernel
theorem dX11_witness_24 : decode cX11_witness 24 = .ok (.iconst 1, 1) := by decide +kernel
theorem dX11_witness_25 : decode cX11_witness 25 = .ok (.invokevirtual 142, 3) := by decide +kernel
theorem dX11_witness_28 : decode cX11_witness 28 = .ok (.ireturn, 1) := by decide +kernel
theorem dX11_witness_29 : decode cX11_witness 29 = .ok (.iload_n 2, 1) := by decide +kernel
theorem dX11_witness_30 : decode cX11_witness 30 = .ok (.iconst 4, 1) := by decide +kernel
theorem dX11_witness_31 : decode cX11_witness 31 = .ok (.if_icmp .ge 21, 3) := by decide +kernel
theorem dX11_witness_34 : decode cX11_witness 34 = .ok (.aload_n 0, 1) := by decide +kernel
theorem dX11_witness_35 : decode cX11_witness 35 = .ok (.aload_n 0, 1) := by decide +kernel
theorem dX11_witness_36 : decode cX11_witness 36 = .ok (.getfield 74, 3) := by decide +kernel
theorem dX11_witness_39 : decode cX11_witness 39 = .ok (.getfield 248, 3) := by decide +kernel
theorem dX11_witness_42 : decode cX11_witness 42 = .ok (.iload_n 1, 1) := by decide +kernel
theorem dX11_witness_43 : decode cX11_witness 43 = .ok (.iconst 4, 1) := by decide +kernel
theorem dX11_witness_44 : decode cX11_witness 44 = .ok (.imul, 1) := by decide +kernel
theorem dX11_witness_45 : decode cX11_witness 45 = .ok (.iload_n 2, 1) := by decide +kernel
theorem dX11_witness_46 : decode cX11_witness 46 = .ok (.iadd, 1) := by decide +kernel
theorem dX11_witness_47 : decode cX11_witness 47 = .ok (.iaload, 1) := by decide +kernel
theorem dX11_witness_48 : decode cX11_witness 48 = .ok (.invokevirtual 179, 3) := by decide +kernel
theorem dX11_witness_51 : decode cX11_witness 51 = .ok (.ireturn, 1) := by decide +kernel
theorem dX11_witness_52 : decode cX11_witness 52 = .ok (.aload_n 0, 1) := by decide +kernel
theorem dX11_witness_53 : decode cX11_witness 53 = .ok (.iload_n 2, 1) := by decide +kernel
theorem dX11_witness_54 : decode cX11_witness 54 = .ok (.iconst 4, 1) := by decide +kernel
theorem dX11_witness_55 : decode cX11_witness 55 = .ok (.if_icmp .ne 15, 3) := by decide +kernel
theorem dX11_witness_58 : decode cX11_witness 58 = .ok (.aload_n 0, 1) := by decide +kernel
theorem dX11_witness_59 : decode cX11_witness 59 = .ok (.getfield 74, 3) := by decide +kernel
theorem dX11_witness_62 : decode cX11_witness 62 = .ok (.getfield 251, 3) := by decide +kernel
theorem dX11_witness_65 : decode cX11_witness 65 = .ok (.iload_n 1, 1) := by decide +kernel
theorem dX11_witness_66 : decode cX11_witness 66 = .ok (.iaload, 1) := by decide +kernel
theorem dX11_witness_67 : decode cX11_witness 67 = .ok (.goto 12, 3) := by decide +kernel
theorem dX11_witness_70 : decode cX11_witness 70 = .ok (.aload_n 0, 1) := by decide +kernel
theorem dX11_witness_71 : decode cX11_witness 71 = .ok (.getfield 74, 3) := by decide +kernel
theorem dX11_witness_74 : decode cX11_witness 74 = .ok (.getfield 254, 3) := by decide +kernel
theorem dX11_witness_77 : decode cX11_witness 77 = .ok (.iload_n 1, 1) := by decide +kernel
theorem dX11_witness_78 : decode cX11_witness 78 = .ok (.iaload, 1) := by decide +kernel
theorem dX11_witness_79 : decode cX11_witness 79 = .ok (.invokevirtual 179, 3) := by decide +kernel
theorem dX11_witness_82 : decode cX11_witness 82 = .ok (.ireturn, 1) := by decide +kernel
theorem dX11_answer_0 : decode cX11_answer 0 = .ok (.iload_n 1, 1) := by decide +kernel
theorem dX11_answer_1 : decode cX11_answer 1 = .ok (.aload_n 0, 1) := by decide +kernel
theorem dX11_answer_2 : decode cX11_answer 2 = .ok (.getfield 74, 3) := by decide +kernel
theorem dX11_answer_5 : decode cX11_answer 5 = .ok (.getfield 211, 3) := by decide +kernel
theorem dX11_answer_8 : decode cX11_answer 8 = .ok (.invokestatic 119, 3) := by decide +kernel
theorem dX11_answer_11 : decode cX11_answer 11 = .ok (.ifCond .eq 40, 3) := by decide +kernel
theorem dX11_answer_14 : decode cX11_answer 14 = .ok (.iload_n 2, 1) := by decide +kernel
theorem dX11_answer_15 : decode cX11_answer 15 = .ok (.aload_n 0, 1) := by decide +kernel
theorem dX11_answer_16 : decode cX11_answer 16 = .ok (.getfield 74, 3) := by decide +kernel
theorem dX11_answer_19 : decode cX11_answer 19 = .ok (.getfield 208, 3) := by decide +kernel
theorem dX11_answer_22 : decode cX11_answer 22 = .ok (.invokestatic 119, 3) := by decide +kernel
theorem dX11_answer_25 : decode cX11_answer 25 = .ok (.ifCond .eq 26, 3) := by decide +kernel
theorem dX11_answer_28 : decode cX11_answer 28 = .ok (.iload_n 3, 1) := by decide +kernel
theorem dX11_answer_29 : decode cX11_answer 29 = .ok (.aload_n 0, 1) := by decide +kernel
theorem dX11_answer_30 : decode cX11_answer 30 = .ok (.getfield 74, 3) := by decide +kernel
theorem dX11_answer_33 : decode cX11_answer 33 = .ok (.getfield 205, 3) := by decide +kernel
theorem dX11_answer_36 : decode cX11_answer 36 = .ok (.invokestatic 119, 3) := by decide +kernel
theorem dX11_answer_39 : decode cX11_answer 39 = .ok (.ifCond .eq 12, 3) := by decide +kernel
theorem dX11_answer_42 : decode cX11_answer 42 = .ok (.iload 4, 2) := by decide +kernel
theorem dX11_answer_44 : decode cX11_answer 44 = .ok (.iconst 4, 1) := by decide +kernel
theorem dX11_answer_45 : decode cX11_answer 45 = .ok (.invokestatic 119, 3) := by decide +kernel
theorem dX11_answer_48 : decode cX11_answer 48 = .ok (.ifCond .ne 9, 3) := by decide +kernel
theorem dX11_answer_51 : decode cX11_answer 51 = .ok (.aload_n 0, 1) := by decide +kernel
theorem dX11_answer_52 : decode cX11_answer 52 = .ok (.iconst 1, 1) := by decide +kernel
theorem dX11_answer_53 : decode cX11_answer 53 = .ok (.invokevirtual 142, 3) := by decide +kernel
theorem dX11_answer_56 : decode cX11_answer 56 = .ok (.ireturn, 1) := by decide +kernel
theorem dX11_answer_57 : decode cX11_answer 57 = .ok (.aload_n 0, 1) := by decide +kernel
theorem dX11_answer_58 : decode cX11_answer 58 = .ok (.getfield 74, 3) := by decide +kernel
theorem dX11_answer_61 : decode cX11_answer 61 = .ok (.iload_n 3, 1) := by decide +kernel
theorem dX11_answer_62 : decode cX11_answer 62 = .ok (.invokevirtual 239, 3) := by decide +kernel
theorem dX11_answer_65 : decode cX11_answer 65 = .ok (.ifCond .ne 10, 3) := by decide +kernel
theorem dX11_answer_68 : decode cX11_answer 68 = .ok (.aload_n 0, 1) := by decide +kernel
theorem dX11_answer_69 : decode cX11_answer 69 = .ok (.bipush 7, 2) := by decide +kernel
theorem dX11_answer_71 : decode cX11_answer 71 = .ok (.invokevirtual 142, 3) := by decide +kernel
theorem dX11_answer_74 : decode cX11_answer 74 = .ok (.ireturn, 1) := by decide +kernel
theorem dX11_answer_75 : decode cX11_answer 75 = .ok (.aload_n 0, 1) := by decide +kernel
theorem dX11_answer_76 : decode cX11_answer 76 = .ok (.aload_n 0, 1) := by decide +kernel
theorem dX11_answer_77 : decode cX11_answer 77 = .ok (.getfield 74, 3) := by decide +kernel
theorem dX11_answer_80 : decode cX11_answer 80 = .ok (.iload_n 1, 1) := by decide +kernel
theorem dX11_answer_81 : decode cX11_answer 81 = .ok (.iload_n 2, 1) := by decide +kernel
theorem dX11_answer_82 : decode cX11_answer 82 = .ok (.iload_n 3, 1) := by decide +kernel
theorem dX11_answer_83 : decode cX11_answer 83 = .ok (.invokevirtual 257, 3) := by decide +kernel
theorem dX11_answer_86 : decode cX11_answer 86 = .ok (.iload 4, 2) := by decide +kernel
theorem dX11_answer_88 : decode cX11_answer 88 = .ok (.invokestatic 261, 3) := by decide +kernel
theorem dX11_answer_91 : decode cX11_answer 91 = .ok (.invokevirtual 179, 3) := by decide +kernel
theorem dX11_answer_94 : decode cX11_answer 94 = .ok (.ireturn, 1) := by decide +kernel
theorem dX11_freeCase_0 : decode cX11_freeCase 0 = .ok (.iconst 0, 1) := by decide +kernel
theorem dX11_freeCase_1 : decode cX11_freeCase 1 = .ok (.istore_n 1, 1) := by decide +kernel
theorem dX11_freeCase_2 : decode cX11_freeCase 2 = .ok (.iload_n 1, 1) := by decide +kernel
theorem dX11_freeCase_3 : decode cX11_freeCase 3 = .ok (.aload_n 0, 1) := by decide +kernel
theorem dX11_freeCase_4 : decode cX11_freeCase 4 = .ok (.getfield 29, 3) := by decide +kernel
theorem dX11_freeCase_7 : decode cX11_freeCase 7 = .ok (.arraylength, 1) := by decide +kernel
theorem dX11_freeCase_8 : decode cX11_freeCase 8 = .ok (.if_icmp .ge 55, 3) := by decide +kernel
theorem dX11_freeCase_11 : decode cX11_freeCase 11 = .ok (.aload_n 0, 1) := by decide +kernel
theorem dX11_freeCase_12 : decode cX11_freeCase 12 = .ok (.getfield 29, 3) := by decide +kernel
theorem dX11_freeCase_15 : decode cX11_freeCase 15 = .ok (.iload_n 1, 1) := by decide +kernel
theorem dX11_freeCase_16 : decode cX11_freeCase 16 = .ok (.aaload, 1) := by decide +kernel
theorem dX11_freeCase_17 : decode cX11_freeCase 17 = .ok (.astore_n 2, 1) := by decide +kernel
theorem dX11_freeCase_18 : decode cX11_freeCase 18 = .ok (.aload_n 2, 1) := by decide +kernel
theorem dX11_freeCase_19 : decode cX11_freeCase 19 = .ok (.ifnonnull 20, 3) := by decide +kernel
theorem dX11_freeCase_22 : decode cX11_freeCase 22 = .ok (.new 27, 3) := by decide +kernel
theorem dX11_freeCase_25 : decode cX11_freeCase 25 = .ok (.dup, 1) := by decide +kernel
theorem dX11_freeCase_26 : decode cX11_freeCase 26 = .ok (.invokespecial 73, 3) := by decide +kernel
theorem dX11_freeCase_29 : decode cX11_freeCase 29 = .ok (.astore_n 2, 1) := by decide +kernel
theorem dX11_freeCase_30 : decode cX11_freeCase 30 = .ok (.aload_n 0, 1) := by decide +kernel
theorem dX11_freeCase_31 : decode cX11_freeCase 31 = .ok (.getfield 29, 3) := by decide +kernel
theorem dX11_freeCase_34 : decode cX11_freeCase 34 = .ok (.iload_n 1, 1) := by decide +kernel
theorem dX11_freeCase_35 : decode cX11_freeCase 35 = .ok (.aload_n 2, 1) := by decide +kernel
theorem dX11_freeCase_36 : decode cX11_freeCase 36 = .ok (.aastore, 1) := by decide +kernel
theorem dX11_freeCase_37 : decode cX11_freeCase 37 = .ok (.aload_n 2, 1) := by decide +kernel
theorem dX11_freeCase_38 : decode cX11_freeCase 38 = .ok (.areturn, 1) := by decide +kernel
theorem dX11_freeCase_39 : decode cX11_freeCase 39 = .ok (.aload_n 2, 1) := by decide +kernel
theorem dX11_freeCase_40 : decode cX11_freeCase 40 = .ok (.aload_n 0, 1) := by decide +kernel
theorem dX11_freeCase_41 : decode cX11_freeCase 41 = .ok (.getfield 74, 3) := by decide +kernel
theorem dX11_freeCase_44 : decode cX11_freeCase 44 = .ok (.if_acmp .eq 13, 3) := by decide +kernel
theorem dX11_freeCase_47 : decode cX11_freeCase 47 = .ok (.aload_n 0, 1) := by decide +kernel
theorem dX11_freeCase_48 : decode cX11_freeCase 48 = .ok (.aload_n 2, 1) := by decide +kernel
theorem dX11_freeCase_49 : decode cX11_freeCase 49 = .ok (.invokevirtual 264, 3) := by decide +kernel
theorem dX11_freeCase_52 : decode cX11_freeCase 52 = .ok (.ifCond .ne 5, 3) := by decide +kernel
theorem dX11_freeCase_55 : decode cX11_freeCase 55 = .ok (.aload_n 2, 1) := by decide +kernel
theorem dX11_freeCase_56 : decode cX11_freeCase 56 = .ok (.areturn, 1) := by decide +kernel
theorem dX11_freeCase_57 : decode cX11_freeCase 57 = .ok (.iinc 1 1, 3) := by decide +kernel
theorem dX11_freeCase_60 : decode cX11_freeCase 60 = .ok (.goto (-58), 3) := by decide +kernel
theorem dX11_freeCase_63 : decode cX11_freeCase 63 = .ok (.new 27, 3) := by decide +kernel
theorem dX11_freeCase_66 : decode cX11_freeCase 66 = .ok (.dup, 1) := by decide +kernel
theorem dX11_freeCase_67 : decode cX11_freeCase 67 = .ok (.invokespecial 73, 3) := by decide +kernel
theorem dX11_freeCase_70 : decode cX11_freeCase 70 = .ok (.areturn, 1) := by decide +kernel
theorem dX11_isMarked_0 : decode cX11_isMarked 0 = .ok (.iconst 0, 1) := by decide +kernel
theorem dX11_isMarked_1 : decode cX11_isMarked 1 = .ok (.istore_n 2, 1) := by decide +kernel
theorem dX11_isMarked_2 : decode cX11_isMarked 2 = .ok (.iload_n 2, 1) := by decide +kernel
theorem dX11_isMarked_3 : decode cX11_isMarked 3 = .ok (.aload_n 0, 1) := by decide +kernel
theorem dX11_isMarked_4 : decode cX11_isMarked 4 = .ok (.getfield 52, 3) := by decide +kernel
theorem dX11_isMarked_7 : decode cX11_isMarked 7 = .ok (.if_icmp .ge 24, 3) := by decide +kernel
theorem dX11_isMarked_10 : decode cX11_isMarked 10 = .ok (.aload_n 0, 1) := by decide +kernel
theorem dX11_isMarked_11 : decode cX11_isMarked 11 = .ok (.getfield 35, 3) := by decide +kernel
theorem dX11_isMarked_14 : decode cX11_isMarked 14 = .ok (.iload_n 2, 1) := by decide +kernel
theorem dX11_isMarked_15 : decode cX11_isMarked 15 = .ok (.aaload, 1) := by decide +kernel
theorem dX11_isMarked_16 : decode cX11_isMarked 16 = .ok (.getfield 267, 3) := by decide +kernel
theorem dX11_isMarked_19 : decode cX11_isMarked 19 = .ok (.aload_n 1, 1) := by decide +kernel
theorem dX11_isMarked_20 : decode cX11_isMarked 20 = .ok (.if_acmp .ne 5, 3) := by decide +kernel
theorem dX11_isMarked_23 : decode cX11_isMarked 23 = .ok (.iconst 1, 1) := by decide +kernel
theorem dX11_isMarked_24 : decode cX11_isMarked 24 = .ok (.ireturn, 1) := by decide +kernel
theorem dX11_isMarked_25 : decode cX11_isMarked 25 = .ok (.iinc 2 1, 3) := by decide +kernel
theorem dX11_isMarked_28 : decode cX11_isMarked 28 = .ok (.goto (-26), 3) := by decide +kernel
theorem dX11_isMarked_31 : decode cX11_isMarked 31 = .ok (.iconst 0, 1) := by decide +kernel
theorem dX11_isMarked_32 : decode cX11_isMarked 32 = .ok (.ireturn, 1) := by decide +kernel
theorem dX11_hear_0 : decode cX11_hear 0 = .ok (.iload_n 1, 1) := by decide +kernel
theorem dX11_hear_1 : decode cX11_hear 1 = .ok (.aload_n 0, 1) := by decide +kernel
theorem dX11_hear_2 : decode cX11_hear 2 = .ok (.getfield 74, 3) := by decide +kernel
theorem dX11_hear_5 : decode cX11_hear 5 = .ok (.getfield 211, 3) := by decide +kernel
theorem dX11_hear_8 : decode cX11_hear 8 = .ok (.invokestatic 119, 3) := by decide +kernel
theorem dX11_hear_11 : decode cX11_hear 11 = .ok (.ifCond .eq 33, 3) := by decide +kernel
theorem dX11_hear_14 : decode cX11_hear 14 = .ok (.iload_n 2, 1) := by decide +kernel
theorem dX11_hear_15 : decode cX11_hear 15 = .ok (.aload_n 0, 1) := by decide +kernel
theorem dX11_hear_16 : decode cX11_hear 16 = .ok (.getfield 74, 3) := by decide +kernel
theorem dX11_hear_19 : decode cX11_hear 19 = .ok (.getfield 208, 3) := by decide +kernel
theorem dX11_hear_22 : decode cX11_hear 22 = .ok (.invokestatic 119, 3) := by decide +kernel
theorem dX11_hear_25 : decode cX11_hear 25 = .ok (.ifCond .eq 19, 3) := by decide +kernel
theorem dX11_hear_28 : decode cX11_hear 28 = .ok (.iload_n 3, 1) := by decide +kernel
theorem dX11_hear_29 : decode cX11_hear 29 = .ok (.iconst 2, 1) := by decide +kernel
theorem dX11_hear_30 : decode cX11_hear 30 = .ok (.aload_n 0, 1) := by decide +kernel
theorem dX11_hear_31 : decode cX11_hear 31 = .ok (.getfield 74, 3) := by decide +kernel
theorem dX11_hear_34 : decode cX11_hear 34 = .ok (.getfield 208, 3) := by decide +kernel
theorem dX11_hear_37 : decode cX11_hear 37 = .ok (.imul, 1) := by decide +kernel
theorem dX11_hear_38 : decode cX11_hear 38 = .ok (.invokestatic 119, 3) := by decide +kernel
theorem dX11_hear_41 : decode cX11_hear 41 = .ok (.ifCond .ne 9, 3) := by decide +kernel
theorem dX11_hear_44 : decode cX11_hear 44 = .ok (.aload_n 0, 1) := by decide +kernel
theorem dX11_hear_45 : decode cX11_hear 45 = .ok (.iconst 1, 1) := by decide +kernel
theorem dX11_hear_46 : decode cX11_hear 46 = .ok (.invokevirtual 123, 3) := by decide +kernel
theorem dX11_hear_49 : decode cX11_hear 49 = .ok (.ireturn, 1) := by decide +kernel
theorem dX11_hear_50 : decode cX11_hear 50 = .ok (.aload_n 0, 1) := by decide +kernel
theorem dX11_hear_51 : decode cX11_hear 51 = .ok (.getfield 92, 3) := by decide +kernel
theorem dX11_hear_54 : decode cX11_hear 54 = .ok (.getfield 214, 3) := by decide +kernel
theorem dX11_hear_57 : decode cX11_hear 57 = .ok (.invokevirtual 226, 3) := by decide +kernel
theorem dX11_hear_60 : decode cX11_hear 60 = .ok (.bipush 9, 2) := by decide +kernel
theorem dX11_hear_62 : decode cX11_hear 62 = .ok (.if_icmp .lt 9, 3) := by decide +kernel
theorem dX11_hear_65 : decode cX11_hear 65 = .ok (.aload_n 0, 1) := by decide +kernel
theorem dX11_hear_66 : decode cX11_hear 66 = .ok (.iconst 4, 1) := by decide +kernel
theorem dX11_hear_67 : decode cX11_hear 67 = .ok (.invokevirtual 123, 3) := by decide +kernel
theorem dX11_hear_70 : decode cX11_hear 70 = .ok (.ireturn, 1) := by decide +kernel
theorem dX11_hear_71 : decode cX11_hear 71 = .ok (.aload_n 0, 1) := by decide +kernel
theorem dX11_hear_72 : decode cX11_hear 72 = .ok (.getfield 92, 3) := by decide +kernel
theorem dX11_hear_75 : decode cX11_hear 75 = .ok (.iload_n 2, 1) := by decide +kernel
theorem dX11_hear_76 : decode cX11_hear 76 = .ok (.invokevirtual 270, 3) := by decide +kernel
theorem dX11_hear_79 : decode cX11_hear 79 = .ok (.ifCond .eq 10, 3) := by decide +kernel
theorem dX11_hear_82 : decode cX11_hear 82 = .ok (.aload_n 0, 1) := by decide +kernel
theorem dX11_hear_83 : decode cX11_hear 83 = .ok (.bipush 7, 2) := by decide +kernel
theorem dX11_hear_85 : decode cX11_hear 85 = .ok (.invokevirtual 123, 3) := by decide +kernel
theorem dX11_hear_88 : decode cX11_hear 88 = .ok (.ireturn, 1) := by decide +kernel
theorem dX11_hear_89 : decode cX11_hear 89 = .ok (.aload_n 0, 1) := by decide +kernel
theorem dX11_hear_90 : decode cX11_hear 90 = .ok (.getfield 92, 3) := by decide +kernel
theorem dX11_hear_93 : decode cX11_hear 93 = .ok (.iload_n 1, 1) := by decide +kernel
theorem dX11_hear_94 : decode cX11_hear 94 = .ok (.iload_n 2, 1) := by decide +kernel
theorem dX11_hear_95 : decode cX11_hear 95 = .ok (.iload_n 3, 1) := by decide +kernel
theorem dX11_hear_96 : decode cX11_hear 96 = .ok (.invokevirtual 273, 3) := by decide +kernel
theorem dX11_hear_99 : decode cX11_hear 99 = .ok (.aload_n 0, 1) := by decide +kernel
theorem dX11_hear_100 : decode cX11_hear 100 = .ok (.invokevirtual 130, 3) := by decide +kernel
theorem dX11_hear_103 : decode cX11_hear 103 = .ok (.ireturn, 1) := by decide +kernel
theorem dX11_unsay_0 : decode cX11_unsay 0 = .ok (.aload_n 0, 1) := by decide +kernel
theorem dX11_unsay_1 : decode cX11_unsay 1 = .ok (.getfield 92, 3) := by decide +kernel
theorem dX11_unsay_4 : decode cX11_unsay 4 = .ok (.getfield 214, 3) := by decide +kernel
theorem dX11_unsay_7 : decode cX11_unsay 7 = .ok (.getfield 223, 3) := by decide +kernel
theorem dX11_unsay_10 : decode cX11_unsay 10 = .ok (.ifCond .ne 10, 3) := by decide +kernel
theorem dX11_unsay_13 : decode cX11_unsay 13 = .ok (.aload_n 0, 1) := by decide +kernel
theorem dX11_unsay_14 : decode cX11_unsay 14 = .ok (.bipush 6, 2) := by decide +kernel
theorem dX11_unsay_16 : decode cX11_unsay 16 = .ok (.invokevirtual 142, 3) := by decide +kernel
theorem dX11_unsay_19 : decode cX11_unsay 19 = .ok (.ireturn, 1) := by decide +kernel
theorem dX11_unsay_20 : decode cX11_unsay 20 = .ok (.aload_n 0, 1) := by decide +kernel
theorem dX11_unsay_21 : decode cX11_unsay 21 = .ok (.getfield 92, 3) := by decide +kernel
theorem dX11_unsay_24 : decode cX11_unsay 24 = .ok (.invokevirtual 277, 3) := by decide +kernel
theorem dX11_unsay_27 : decode cX11_unsay 27 = .ok (.aload_n 0, 1) := by decide +kernel
theorem dX11_unsay_28 : decode cX11_unsay 28 = .ok (.aload_n 0, 1) := by decide +kernel
theorem dX11_unsay_29 : decode cX11_unsay 29 = .ok (.getfield 92, 3) := by decide +kernel
theorem dX11_unsay_32 : decode cX11_unsay 32 = .ok (.getfield 214, 3) := by decide +kernel
theorem dX11_unsay_35 : decode cX11_unsay 35 = .ok (.getfield 223, 3) := by decide +kernel
theorem dX11_unsay_38 : decode cX11_unsay 38 = .ok (.invokevirtual 179, 3) := by decide +kernel
theorem dX11_unsay_41 : decode cX11_unsay 41 = .ok (.ireturn, 1) := by decide +kernel
theorem dX11_nextDay_0 : decode cX11_nextDay 0 = .ok (.aload_n 0, 1) := by decide +kernel
theorem dX11_nextDay_1 : decode cX11_nextDay 1 = .ok (.getfield 92, 3) := by decide +kernel
theorem dX11_nextDay_4 : decode cX11_nextDay 4 = .ok (.getfield 214, 3) := by decide +kernel
theorem dX11_nextDay_7 : decode cX11_nextDay 7 = .ok (.getfield 218, 3) := by decide +kernel
theorem dX11_nextDay_10 : decode cX11_nextDay 10 = .ok (.bipush 99, 2) := by decide +kernel
theorem dX11_nextDay_12 : decode cX11_nextDay 12 = .ok (.if_icmp .lt 9, 3) := by decide +kernel
theorem dX11_nextDay_15 : decode cX11_nextDay 15 = .ok (.aload_n 0, 1) := by decide +kernel
theorem dX11_nextDay_16 : decode cX11_nextDay 16 = .ok (.iconst 4, 1) := by decide +kernel
theorem dX11_nextDay_17 : decode cX11_nextDay 17 = .ok (.invokevirtual 142, 3) := by decide +kernel
theorem dX11_nextDay_20 : decode cX11_nextDay 20 = .ok (.ireturn, 1) := by decide +kernel
theorem dX11_nextDay_21 : decode cX11_nextDay 21 = .ok (.aload_n 0, 1) := by decide +kernel
theorem dX11_nextDay_22 : decode cX11_nextDay 22 = .ok (.getfield 92, 3) := by decide +kernel
theorem dX11_nextDay_25 : decode cX11_nextDay 25 = .ok (.getfield 214, 3) := by decide +kernel
theorem dX11_nextDay_28 : decode cX11_nextDay 28 = .ok (.dup, 1) := by decide +kernel
theorem dX11_nextDay_29 : decode cX11_nextDay 29 = .ok (.getfield 218, 3) := by decide +kernel
theorem dX11_nextDay_32 : decode cX11_nextDay 32 = .ok (.iconst 1, 1) := by decide +kernel
theorem dX11_nextDay_33 : decode cX11_nextDay 33 = .ok (.iadd, 1) := by decide +kernel
theorem dX11_nextDay_34 : decode cX11_nextDay 34 = .ok (.putfield 218, 3) := by decide +kernel
theorem dX11_nextDay_37 : decode cX11_nextDay 37 = .ok (.aload_n 0, 1) := by decide +kernel
theorem dX11_nextDay_38 : decode cX11_nextDay 38 = .ok (.aload_n 0, 1) := by decide +kernel
theorem dX11_nextDay_39 : decode cX11_nextDay 39 = .ok (.getfield 92, 3) := by decide +kernel
theorem dX11_nextDay_42 : decode cX11_nextDay 42 = .ok (.getfield 214, 3) := by decide +kernel
theorem dX11_nextDay_45 : decode cX11_nextDay 45 = .ok (.getfield 218, 3) := by decide +kernel
theorem dX11_nextDay_48 : decode cX11_nextDay 48 = .ok (.invokevirtual 179, 3) := by decide +kernel
theorem dX11_nextDay_51 : decode cX11_nextDay 51 = .ok (.ireturn, 1) := by decide +kernel
theorem dX11_heard_0 : decode cX11_heard 0 = .ok (.iload_n 2, 1) := by decide +kernel
theorem dX11_heard_1 : decode cX11_heard 1 = .ok (.iconst 4, 1) := by decide +kernel
theorem dX11_heard_2 : decode cX11_heard 2 = .ok (.invokestatic 119, 3) := by decide +kernel
theorem dX11_heard_5 : decode cX11_heard 5 = .ok (.ifCond .ne 9, 3) := by decide +kernel
theorem dX11_heard_8 : decode cX11_heard 8 = .ok (.aload_n 0, 1) := by decide +kernel
theorem dX11_heard_9 : decode cX11_heard 9 = .ok (.iconst 1, 1) := by decide +kernel
theorem dX11_heard_10 : decode cX11_heard 10 = .ok (.invokevirtual 142, 3) := by decide +kernel
theorem dX11_heard_13 : decode cX11_heard 13 = .ok (.ireturn, 1) := by decide +kernel
theorem dX11_heard_14 : decode cX11_heard 14 = .ok (.iload_n 1, 1) := by decide +kernel
theorem dX11_heard_15 : decode cX11_heard 15 = .ok (.aload_n 0, 1) := by decide +kernel
theorem dX11_heard_16 : decode cX11_heard 16 = .ok (.getfield 92, 3) := by decide +kernel
theorem dX11_heard_19 : decode cX11_heard 19 = .ok (.getfield 214, 3) := by decide +kernel
theorem dX11_heard_22 : decode cX11_heard 22 = .ok (.getfield 223, 3) := by decide +kernel
theorem dX11_heard_25 : decode cX11_heard 25 = .ok (.invokestatic 119, 3) := by decide +kernel
theorem dX11_heard_28 : decode cX11_heard 28 = .ok (.ifCond .ne 10, 3) := by decide +kernel
theorem dX11_heard_31 : decode cX11_heard 31 = .ok (.aload_n 0, 1) := by decide +kernel
theorem dX11_heard_32 : decode cX11_heard 32 = .ok (.bipush 6, 2) := by decide +kernel
theorem dX11_heard_34 : decode cX11_heard 34 = .ok (.invokevirtual 142, 3) := by decide +kernel
theorem dX11_heard_37 : decode cX11_heard 37 = .ok (.ireturn, 1) := by decide +kernel
theorem dX11_heard_38 : decode cX11_heard 38 = .ok (.iload_n 2, 1) := by decide +kernel
theorem dX11_heard_39 : decode cX11_heard 39 = .ok (.tableswitch 76 0 2 #[25, 42, 59], 25) := by decide +kernel
theorem dX11_heard_64 : decode cX11_heard 64 = .ok (.aload_n 0, 1) := by decide +kernel
theorem dX11_heard_65 : decode cX11_heard 65 = .ok (.aload_n 0, 1) := by decide +kernel
theorem dX11_heard_66 : decode cX11_heard 66 = .ok (.getfield 92, 3) := by decide +kernel
theorem dX11_heard_69 : decode cX11_heard 69 = .ok (.getfield 214, 3) := by decide +kernel
theorem dX11_heard_72 : decode cX11_heard 72 = .ok (.getfield 280, 3) := by decide +kernel
theorem dX11_heard_75 : decode cX11_heard 75 = .ok (.iload_n 1, 1) := by decide +kernel
theorem dX11_heard_76 : decode cX11_heard 76 = .ok (.iaload, 1) := by decide +kernel
theorem dX11_heard_77 : decode cX11_heard 77 = .ok (.invokevirtual 179, 3) := by decide +kernel
theorem dX11_heard_80 : decode cX11_heard 80 = .ok (.ireturn, 1) := by decide +kernel
theorem dX11_heard_81 : decode cX11_heard 81 = .ok (.aload_n 0, 1) := by decide +kernel
theorem dX11_heard_82 : decode cX11_heard 82 = .ok (.aload_n 0, 1) := by decide +kernel
theorem dX11_heard_83 : decode cX11_heard 83 = .ok (.getfield 92, 3) := by decide +kernel
theorem dX11_heard_86 : decode cX11_heard 86 = .ok (.getfield 214, 3) := by decide +kernel
theorem dX11_heard_89 : decode cX11_heard 89 = .ok (.getfield 283, 3) := by decide +kernel
theorem dX11_heard_92 : decode cX11_heard 92 = .ok (.iload_n 1, 1) := by decide +kernel
theorem dX11_heard_93 : decode cX11_heard 93 = .ok (.iaload, 1) := by decide +kernel
theorem dX11_heard_94 : decode cX11_heard 94 = .ok (.invokevirtual 179, 3) := by decide +kernel
theorem dX11_heard_97 : decode cX11_heard 97 = .ok (.ireturn, 1) := by decide +kernel
theorem dX11_heard_98 : decode cX11_heard 98 = .ok (.aload_n 0, 1) := by decide +kernel
theorem dX11_heard_99 : decode cX11_heard 99 = .ok (.aload_n 0, 1) := by decide +kernel
theorem dX11_heard_100 : decode cX11_heard 100 = .ok (.getfield 92, 3) := by decide +kernel
theorem dX11_heard_103 : decode cX11_heard 103 = .ok (.getfield 214, 3) := by decide +kernel
theorem dX11_heard_106 : decode cX11_heard 106 = .ok (.getfield 286, 3) := by decide +kernel
theorem dX11_heard_109 : decode cX11_heard 109 = .ok (.iload_n 1, 1) := by decide +kernel
theorem dX11_heard_110 : decode cX11_heard 110 = .ok (.iaload, 1) := by decide +kernel
theorem dX11_heard_111 : decode cX11_heard 111 = .ok (.invokevirtual 179, 3) := by decide +kernel
theorem dX11_heard_114 : decode cX11_heard 114 = .ok (.ireturn, 1) := by decide +kernel
theorem dX11_heard_115 : decode cX11_heard 115 = .ok (.aload_n 0, 1) := by decide +kernel
theorem dX11_heard_116 : decode cX11_heard 116 = .ok (.aload_n 0, 1) := by decide +kernel
theorem dX11_heard_117 : decode cX11_heard 117 = .ok (.getfield 92, 3) := by decide +kernel
theorem dX11_heard_120 : decode cX11_heard 120 = .ok (.getfield 214, 3) := by decide +kernel
theorem dX11_heard_123 : decode cX11_heard 123 = .ok (.getfield 289, 3) := by decide +kernel
theorem dX11_heard_126 : decode cX11_heard 126 = .ok (.iload_n 1, 1) := by decide +kernel
theorem dX11_heard_127 : decode cX11_heard 127 = .ok (.iaload, 1) := by decide +kernel
theorem dX11_heard_128 : decode cX11_heard 128 = .ok (.invokevirtual 179, 3) := by decide +kernel
theorem dX11_heard_131 : decode cX11_heard 131 = .ok (.ireturn, 1) := by decide +kernel
theorem dX11_left_0 : decode cX11_left 0 = .ok (.aload_n 0, 1) := by decide +kernel
theorem dX11_left_1 : decode cX11_left 1 = .ok (.aload_n 0, 1) := by decide +kernel
theorem dX11_left_2 : decode cX11_left 2 = .ok (.getfield 92, 3) := by decide +kernel
theorem dX11_left_5 : decode cX11_left 5 = .ok (.getfield 292, 3) := by decide +kernel
theorem dX11_left_8 : decode cX11_left 8 = .ok (.invokevirtual 179, 3) := by decide +kernel
theorem dX11_left_11 : decode cX11_left 11 = .ok (.ireturn, 1) := by decide +kernel
theorem dX11_isLeft_0 : decode cX11_isLeft 0 = .ok (.iload_n 1, 1) := by decide +kernel
theorem dX11_isLeft_1 : decode cX11_isLeft 1 = .ok (.aload_n 0, 1) := by decide +kernel
theorem dX11_isLeft_2 : decode cX11_isLeft 2 = .ok (.getfield 74, 3) := by decide +kernel
theorem dX11_isLeft_5 : decode cX11_isLeft 5 = .ok (.getfield 205, 3) := by decide +kernel
theorem dX11_isLeft_8 : decode cX11_isLeft 8 = .ok (.invokestatic 119, 3) := by decide +kernel
theorem dX11_isLeft_11 : decode cX11_isLeft 11 = .ok (.ifCond .ne 9, 3) := by decide +kernel
theorem dX11_isLeft_14 : decode cX11_isLeft 14 = .ok (.aload_n 0, 1) := by decide +kernel
theorem dX11_isLeft_15 : decode cX11_isLeft 15 = .ok (.iconst 1, 1) := by decide +kernel
theorem dX11_isLeft_16 : decode cX11_isLeft 16 = .ok (.invokevirtual 142, 3) := by decide +kernel
theorem dX11_isLeft_19 : decode cX11_isLeft 19 = .ok (.ireturn, 1) := by decide +kernel
theorem dX11_isLeft_20 : decode cX11_isLeft 20 = .ok (.aload_n 0, 1) := by decide +kernel
theorem dX11_isLeft_21 : decode cX11_isLeft 21 = .ok (.aload_n 0, 1) := by decide +kernel
theorem dX11_isLeft_22 : decode cX11_isLeft 22 = .ok (.getfield 92, 3) := by decide +kernel
theorem dX11_isLeft_25 : decode cX11_isLeft 25 = .ok (.iload_n 1, 1) := by decide +kernel
theorem dX11_isLeft_26 : decode cX11_isLeft 26 = .ok (.invokevirtual 295, 3) := by decide +kernel
theorem dX11_isLeft_29 : decode cX11_isLeft 29 = .ok (.ifCond .eq 7, 3) := by decide +kernel
theorem dX11_isLeft_32 : decode cX11_isLeft 32 = .ok (.iconst 1, 1) := by decide +kernel
theorem dX11_isLeft_33 : decode cX11_isLeft 33 = .ok (.goto 4, 3) := by decide +kernel
theorem dX11_isLeft_36 : decode cX11_isLeft 36 = .ok (.iconst 0, 1) := by decide +kernel
theorem dX11_isLeft_37 : decode cX11_isLeft 37 = .ok (.invokevirtual 179, 3) := by decide +kernel
theorem dX11_isLeft_40 : decode cX11_isLeft 40 = .ok (.ireturn, 1) := by decide +kernel
theorem dX11_fits_0 : decode cX11_fits 0 = .ok (.iload_n 1, 1) := by decide +kernel
theorem dX11_fits_1 : decode cX11_fits 1 = .ok (.aload_n 0, 1) := by decide +kernel
theorem dX11_fits_2 : decode cX11_fits 2 = .ok (.getfield 74, 3) := by decide +kernel
theorem dX11_fits_5 : decode cX11_fits 5 = .ok (.getfield 211, 3) := by decide +kernel
theorem dX11_fits_8 : decode cX11_fits 8 = .ok (.invokestatic 119, 3) := by decide +kernel
theorem dX11_fits_11 : decode cX11_fits 11 = .ok (.ifCond .eq 25, 3) := by decide +kernel
theorem dX11_fits_14 : decode cX11_fits 14 = .ok (.iload_n 2, 1) := by decide +kernel
theorem dX11_fits_15 : decode cX11_fits 15 = .ok (.iconst 4, 1) := by decide +kernel
theorem dX11_fits_16 : decode cX11_fits 16 = .ok (.invokestatic 119, 3) := by decide +kernel
theorem dX11_fits_19 : decode cX11_fits 19 = .ok (.ifCond .eq 17, 3) := by decide +kernel
theorem dX11_fits_22 : decode cX11_fits 22 = .ok (.iload_n 3, 1) := by decide +kernel
theorem dX11_fits_23 : decode cX11_fits 23 = .ok (.aload_n 0, 1) := by decide +kernel
theorem dX11_fits_24 : decode cX11_fits 24 = .ok (.getfield 74, 3) := by decide +kernel
theorem dX11_fits_27 : decode cX11_fits 27 = .ok (.getfield 205, 3) := by decide +kernel
theorem dX11_fits_30 : decode cX11_fits 30 = .ok (.invokestatic 119, 3) := by decide +kernel
theorem dX11_fits_33 : decode cX11_fits 33 = .ok (.ifCond .ne 9, 3) := by decide +kernel
theorem dX11_fits_36 : decode cX11_fits 36 = .ok (.aload_n 0, 1) := by decide +kernel
theorem dX11_fits_37 : decode cX11_fits 37 = .ok (.iconst 1, 1) := by decide +kernel
theorem dX11_fits_38 : decode cX11_fits 38 = .ok (.invokevirtual 142, 3) := by decide +kernel
theorem dX11_fits_41 : decode cX11_fits 41 = .ok (.ireturn, 1) := by decide +kernel
theorem dX11_fits_42 : decode cX11_fits 42 = .ok (.aload_n 0, 1) := by decide +kernel
theorem dX11_fits_43 : decode cX11_fits 43 = .ok (.getfield 74, 3) := by decide +kernel
theorem dX11_fits_46 : decode cX11_fits 46 = .ok (.iload_n 3, 1) := by decide +kernel
theorem dX11_fits_47 : decode cX11_fits 47 = .ok (.invokevirtual 239, 3) := by decide +kernel
theorem dX11_fits_50 : decode cX11_fits 50 = .ok (.ifCond .ne 10, 3) := by decide +kernel
theorem dX11_fits_53 : decode cX11_fits 53 = .ok (.aload_n 0, 1) := by decide +kernel
theorem dX11_fits_54 : decode cX11_fits 54 = .ok (.bipush 7, 2) := by decide +kernel
theorem dX11_fits_56 : decode cX11_fits 56 = .ok (.invokevirtual 142, 3) := by decide +kernel
theorem dX11_fits_59 : decode cX11_fits 59 = .ok (.ireturn, 1) := by decide +kernel
theorem dX11_fits_60 : decode cX11_fits 60 = .ok (.aload_n 0, 1) := by decide +kernel
theorem dX11_fits_61 : decode cX11_fits 61 = .ok (.aload_n 0, 1) := by decide +kernel
theorem dX11_fits_62 : decode cX11_fits 62 = .ok (.getfield 92, 3) := by decide +kernel
theorem dX11_fits_65 : decode cX11_fits 65 = .ok (.iload_n 1, 1) := by decide +kernel
theorem dX11_fits_66 : decode cX11_fits 66 = .ok (.iload_n 3, 1) := by decide +kernel
theorem dX11_fits_67 : decode cX11_fits 67 = .ok (.invokevirtual 298, 3) := by decide +kernel
theorem dX11_fits_70 : decode cX11_fits 70 = .ok (.iload_n 2, 1) := by decide +kernel
theorem dX11_fits_71 : decode cX11_fits 71 = .ok (.ishr, 1) := by decide +kernel
theorem dX11_fits_72 : decode cX11_fits 72 = .ok (.iconst 1, 1) := by decide +kernel
theorem dX11_fits_73 : decode cX11_fits 73 = .ok (.iand, 1) := by decide +kernel
theorem dX11_fits_74 : decode cX11_fits 74 = .ok (.invokevirtual 179, 3) := by decide +kernel
theorem dX11_fits_77 : decode cX11_fits 77 = .ok (.ireturn, 1) := by decide +kernel
theorem dX11_sure_0 : decode cX11_sure 0 = .ok (.iload_n 1, 1) := by decide +kernel
theorem dX11_sure_1 : decode cX11_sure 1 = .ok (.aload_n 0, 1) := by decide +kernel
theorem dX11_sure_2 : decode cX11_sure 2 = .ok (.getfield 74, 3) := by decide +kernel
theorem dX11_sure_5 : decode cX11_sure 5 = .ok (.getfield 208, 3) := by decide +kernel
theorem dX11_sure_8 : decode cX11_sure 8 = .ok (.invokestatic 119, 3) := by decide +kernel
theorem dX11_sure_11 : decode cX11_sure 11 = .ok (.ifCond .ne 9, 3) := by decide +kernel
theorem dX11_sure_14 : decode cX11_sure 14 = .ok (.aload_n 0, 1) := by decide +kernel
theorem dX11_sure_15 : decode cX11_sure 15 = .ok (.iconst 1, 1) := by decide +kernel
theorem dX11_sure_16 : decode cX11_sure 16 = .ok (.invokevirtual 142, 3) := by decide +kernel
theorem dX11_sure_19 : decode cX11_sure 19 = .ok (.ireturn, 1) := by decide +kernel
theorem dX11_sure_20 : decode cX11_sure 20 = .ok (.aload_n 0, 1) := by decide +kernel
theorem dX11_sure_21 : decode cX11_sure 21 = .ok (.getfield 92, 3) := by decide +kernel
theorem dX11_sure_24 : decode cX11_sure 24 = .ok (.iload_n 1, 1) := by decide +kernel
theorem dX11_sure_25 : decode cX11_sure 25 = .ok (.invokevirtual 301, 3) := by decide +kernel
theorem dX11_sure_28 : decode cX11_sure 28 = .ok (.istore_n 2, 1) := by decide +kernel
theorem dX11_sure_29 : decode cX11_sure 29 = .ok (.iload_n 2, 1) := by decide +kernel
theorem dX11_sure_30 : decode cX11_sure 30 = .ok (.iconst (-1), 1) := by decide +kernel
theorem dX11_sure_31 : decode cX11_sure 31 = .ok (.if_icmp .ne 12, 3) := by decide +kernel
theorem dX11_sure_34 : decode cX11_sure 34 = .ok (.aload_n 0, 1) := by decide +kernel
theorem dX11_sure_35 : decode cX11_sure 35 = .ok (.bipush 6, 2) := by decide +kernel
theorem dX11_sure_37 : decode cX11_sure 37 = .ok (.invokevirtual 142, 3) := by decide +kernel
theorem dX11_sure_40 : decode cX11_sure 40 = .ok (.goto 8, 3) := by decide +kernel
theorem dX11_sure_43 : decode cX11_sure 43 = .ok (.aload_n 0, 1) := by decide +kernel
theorem dX11_sure_44 : decode cX11_sure 44 = .ok (.iload_n 2, 1) := by decide +kernel
theorem dX11_sure_45 : decode cX11_sure 45 = .ok (.invokevirtual 179, 3) := by decide +kernel
theorem dX11_sure_48 : decode cX11_sure 48 = .ok (.ireturn, 1) := by decide +kernel
theorem dX11_chance_0 : decode cX11_chance 0 = .ok (.iload_n 1, 1) := by decide +kernel
theorem dX11_chance_1 : decode cX11_chance 1 = .ok (.aload_n 0, 1) := by decide +kernel
theorem dX11_chance_2 : decode cX11_chance 2 = .ok (.getfield 74, 3) := by decide +kernel
theorem dX11_chance_5 : decode cX11_chance 5 = .ok (.getfield 208, 3) := by decide +kernel
theorem dX11_chance_8 : decode cX11_chance 8 = .ok (.invokestatic 119, 3) := by decide +kernel
theorem dX11_chance_11 : decode cX11_chance 11 = .ok (.ifCond .ne 9, 3) := by decide +kernel
theorem dX11_chance_14 : decode cX11_chance 14 = .ok (.aload_n 0, 1) := by decide +kernel
theorem dX11_chance_15 : decode cX11_chance 15 = .ok (.iconst 1, 1) := by decide +kernel
theorem dX11_chance_16 : decode cX11_chance 16 = .ok (.invokevirtual 123, 3) := by decide +kernel
theorem dX11_chance_19 : decode cX11_chance 19 = .ok (.ireturn, 1) := by decide +kernel
theorem dX11_chance_20 : decode cX11_chance 20 = .ok (.aload_n 0, 1) := by decide +kernel
theorem dX11_chance_21 : decode cX11_chance 21 = .ok (.getfield 92, 3) := by decide +kernel
theorem dX11_chance_24 : decode cX11_chance 24 = .ok (.getfield 292, 3) := by decide +kernel
theorem dX11_chance_27 : decode cX11_chance 27 = .ok (.ifCond .ne 10, 3) := by decide +kernel
theorem dX11_chance_30 : decode cX11_chance 30 = .ok (.aload_n 0, 1) := by decide +kernel
theorem dX11_chance_31 : decode cX11_chance 31 = .ok (.bipush 6, 2) := by decide +kernel
theorem dX11_chance_33 : decode cX11_chance 33 = .ok (.invokevirtual 123, 3) := by decide +kernel
theorem dX11_chance_36 : decode cX11_chance 36 = .ok (.ireturn, 1) := by decide +kernel
theorem dX11_chance_37 : decode cX11_chance 37 = .ok (.aload_n 0, 1) := by decide +kernel
theorem dX11_chance_38 : decode cX11_chance 38 = .ok (.aload_n 0, 1) := by decide +kernel
theorem dX11_chance_39 : decode cX11_chance 39 = .ok (.getfield 92, 3) := by decide +kernel
theorem dX11_chance_42 : decode cX11_chance 42 = .ok (.iload_n 1, 1) := by decide +kernel
theorem dX11_chance_43 : decode cX11_chance 43 = .ok (.invokevirtual 304, 3) := by decide +kernel
theorem dX11_chance_46 : decode cX11_chance 46 = .ok (.aload_n 0, 1) := by decide +kernel
theorem dX11_chance_47 : decode cX11_chance 47 = .ok (.getfield 92, 3) := by decide +kernel
theorem dX11_chance_50 : decode cX11_chance 50 = .ok (.invokevirtual 308, 3) := by decide +kernel
theorem dX11_chance_53 : decode cX11_chance 53 = .ok (.invokevirtual 312, 3) := by decide +kernel
theorem dX11_chance_56 : decode cX11_chance 56 = .ok (.aload_n 0, 1) := by decide +kernel
theorem dX11_chance_57 : decode cX11_chance 57 = .ok (.invokevirtual 130, 3) := by decide +kernel
theorem dX11_chance_60 : decode cX11_chance 60 = .ok (.ireturn, 1) := by decide +kernel
theorem dX11_trust_0 : decode cX11_trust 0 = .ok (.iload_n 1, 1) := by decide +kernel
theorem dX11_trust_1 : decode cX11_trust 1 = .ok (.aload_n 0, 1) := by decide +kernel
theorem dX11_trust_2 : decode cX11_trust 2 = .ok (.getfield 74, 3) := by decide +kernel
theorem dX11_trust_5 : decode cX11_trust 5 = .ok (.getfield 211, 3) := by decide +kernel
theorem dX11_trust_8 : decode cX11_trust 8 = .ok (.invokestatic 119, 3) := by decide +kernel
theorem dX11_trust_11 : decode cX11_trust 11 = .ok (.ifCond .eq 11, 3) := by decide +kernel
theorem dX11_trust_14 : decode cX11_trust 14 = .ok (.iload_n 2, 1) := by decide +kernel
theorem dX11_trust_15 : decode cX11_trust 15 = .ok (.iconst 4, 1) := by decide +kernel
theorem dX11_trust_16 : decode cX11_trust 16 = .ok (.invokestatic 119, 3) := by decide +kernel
theorem dX11_trust_19 : decode cX11_trust 19 = .ok (.ifCond .ne 9, 3) := by decide +kernel
theorem dX11_trust_22 : decode cX11_trust 22 = .ok (.aload_n 0, 1) := by decide +kernel
theorem dX11_trust_23 : decode cX11_trust 23 = .ok (.iconst 1, 1) := by decide +kernel
theorem dX11_trust_24 : decode cX11_trust 24 = .ok (.invokevirtual 123, 3) := by decide +kernel
theorem dX11_trust_27 : decode cX11_trust 27 = .ok (.ireturn, 1) := by decide +kernel
theorem dX11_trust_28 : decode cX11_trust 28 = .ok (.aload_n 0, 1) := by decide +kernel
theorem dX11_trust_29 : decode cX11_trust 29 = .ok (.getfield 92, 3) := by decide +kernel
theorem dX11_trust_32 : decode cX11_trust 32 = .ok (.getfield 292, 3) := by decide +kernel
theorem dX11_trust_35 : decode cX11_trust 35 = .ok (.ifCond .ne 10, 3) := by decide +kernel
theorem dX11_trust_38 : decode cX11_trust 38 = .ok (.aload_n 0, 1) := by decide +kernel
theorem dX11_trust_39 : decode cX11_trust 39 = .ok (.bipush 6, 2) := by decide +kernel
theorem dX11_trust_41 : decode cX11_trust 41 = .ok (.invokevirtual 123, 3) := by decide +kernel
theorem dX11_trust_44 : decode cX11_trust 44 = .ok (.ireturn, 1) := by decide +kernel
theorem dX11_trust_45 : decode cX11_trust 45 = .ok (.aload_n 0, 1) := by decide +kernel
theorem dX11_trust_46 : decode cX11_trust 46 = .ok (.aload_n 0, 1) := by decide +kernel
theorem dX11_trust_47 : decode cX11_trust 47 = .ok (.getfield 92, 3) := by decide +kernel
theorem dX11_trust_50 : decode cX11_trust 50 = .ok (.iload_n 1, 1) := by decide +kernel
theorem dX11_trust_51 : decode cX11_trust 51 = .ok (.iload_n 2, 1) := by decide +kernel
theorem dX11_trust_52 : decode cX11_trust 52 = .ok (.invokevirtual 316, 3) := by decide +kernel
theorem dX11_trust_55 : decode cX11_trust 55 = .ok (.aload_n 0, 1) := by decide +kernel
theorem dX11_trust_56 : decode cX11_trust 56 = .ok (.getfield 92, 3) := by decide +kernel
theorem dX11_trust_59 : decode cX11_trust 59 = .ok (.invokevirtual 308, 3) := by decide +kernel
theorem dX11_trust_62 : decode cX11_trust 62 = .ok (.invokevirtual 312, 3) := by decide +kernel
theorem dX11_trust_65 : decode cX11_trust 65 = .ok (.aload_n 0, 1) := by decide +kernel
theorem dX11_trust_66 : decode cX11_trust 66 = .ok (.invokevirtual 130, 3) := by decide +kernel
theorem dX11_trust_69 : decode cX11_trust 69 = .ok (.ireturn, 1) := by decide +kernel
theorem dX11_because_0 : decode cX11_because 0 = .ok (.iload_n 1, 1) := by decide +kernel
theorem dX11_because_1 : decode cX11_because 1 = .ok (.aload_n 0, 1) := by decide +kernel
theorem dX11_because_2 : decode cX11_because 2 = .ok (.getfield 74, 3) := by decide +kernel
theorem dX11_because_5 : decode cX11_because 5 = .ok (.getfield 208, 3) := by decide +kernel
theorem dX11_because_8 : decode cX11_because 8 = .ok (.invokestatic 119, 3) := by decide +kernel
theorem dX11_because_11 : decode cX11_because 11 = .ok (.ifCond .ne 9, 3) := by decide +kernel
theorem dX11_because_14 : decode cX11_because 14 = .ok (.aload_n 0, 1) := by decide +kernel
theorem dX11_because_15 : decode cX11_because 15 = .ok (.iconst 1, 1) := by decide +kernel
theorem dX11_because_16 : decode cX11_because 16 = .ok (.invokevirtual 142, 3) := by decide +kernel
theorem dX11_because_19 : decode cX11_because 19 = .ok (.ireturn, 1) := by decide +kernel
theorem dX11_because_20 : decode cX11_because 20 = .ok (.aload_n 0, 1) := by decide +kernel
theorem dX11_because_21 : decode cX11_because 21 = .ok (.getfield 92, 3) := by decide +kernel
theorem dX11_because_24 : decode cX11_because 24 = .ok (.iload_n 1, 1) := by decide +kernel
theorem dX11_because_25 : decode cX11_because 25 = .ok (.invokevirtual 301, 3) := by decide +kernel
theorem dX11_because_28 : decode cX11_because 28 = .ok (.istore_n 2, 1) := by decide +kernel
theorem dX11_because_29 : decode cX11_because 29 = .ok (.iload_n 2, 1) := by decide +kernel
theorem dX11_because_30 : decode cX11_because 30 = .ok (.iconst (-1), 1) := by decide +kernel
theorem dX11_because_31 : decode cX11_because 31 = .ok (.if_icmp .ne 12, 3) := by decide +kernel
theorem dX11_because_34 : decode cX11_because 34 = .ok (.aload_n 0, 1) := by decide +kernel
theorem dX11_because_35 : decode cX11_because 35 = .ok (.bipush 6, 2) := by decide +kernel
theorem dX11_because_37 : decode cX11_because 37 = .ok (.invokevirtual 142, 3) := by decide +kernel
theorem dX11_because_40 : decode cX11_because 40 = .ok (.goto 16, 3) := by decide +kernel
theorem dX11_because_43 : decode cX11_because 43 = .ok (.aload_n 0, 1) := by decide +kernel
theorem dX11_because_44 : decode cX11_because 44 = .ok (.aload_n 0, 1) := by decide +kernel
theorem dX11_because_45 : decode cX11_because 45 = .ok (.getfield 101, 3) := by decide +kernel
theorem dX11_because_48 : decode cX11_because 48 = .ok (.iload_n 1, 1) := by decide +kernel
theorem dX11_because_49 : decode cX11_because 49 = .ok (.iload_n 2, 1) := by decide +kernel
theorem dX11_because_50 : decode cX11_because 50 = .ok (.invokevirtual 320, 3) := by decide +kernel
theorem dX11_because_53 : decode cX11_because 53 = .ok (.invokevirtual 179, 3) := by decide +kernel
theorem dX11_because_56 : decode cX11_because 56 = .ok (.ireturn, 1) := by decide +kernel
theorem dX11_gave_0 : decode cX11_gave 0 = .ok (.iload_n 1, 1) := by decide +kernel
theorem dX11_gave_1 : decode cX11_gave 1 = .ok (.aload_n 0, 1) := by decide +kernel
theorem dX11_gave_2 : decode cX11_gave 2 = .ok (.getfield 92, 3) := by decide +kernel
theorem dX11_gave_5 : decode cX11_gave 5 = .ok (.getfield 214, 3) := by decide +kernel
theorem dX11_gave_8 : decode cX11_gave 8 = .ok (.getfield 223, 3) := by decide +kernel
theorem dX11_gave_11 : decode cX11_gave 11 = .ok (.invokestatic 119, 3) := by decide +kernel
theorem dX11_gave_14 : decode cX11_gave 14 = .ok (.ifCond .ne 10, 3) := by decide +kernel
theorem dX11_gave_17 : decode cX11_gave 17 = .ok (.aload_n 0, 1) := by decide +kernel
theorem dX11_gave_18 : decode cX11_gave 18 = .ok (.bipush 6, 2) := by decide +kernel
theorem dX11_gave_20 : decode cX11_gave 20 = .ok (.invokevirtual 142, 3) := by decide +kernel
theorem dX11_gave_23 : decode cX11_gave 23 = .ok (.ireturn, 1) := by decide +kernel
theorem dX11_gave_24 : decode cX11_gave 24 = .ok (.aload_n 0, 1) := by decide +kernel
theorem dX11_gave_25 : decode cX11_gave 25 = .ok (.aload_n 0, 1) := by decide +kernel
theorem dX11_gave_26 : decode cX11_gave 26 = .ok (.getfield 92, 3) := by decide +kernel
theorem dX11_gave_29 : decode cX11_gave 29 = .ok (.iload_n 1, 1) := by decide +kernel
theorem dX11_gave_30 : decode cX11_gave 30 = .ok (.invokevirtual 323, 3) := by decide +kernel
theorem dX11_gave_33 : decode cX11_gave 33 = .ok (.invokevirtual 179, 3) := by decide +kernel
theorem dX11_gave_36 : decode cX11_gave 36 = .ok (.ireturn, 1) := by decide +kernel
theorem dX11_fees_0 : decode cX11_fees 0 = .ok (.aload_n 0, 1) := by decide +kernel
theorem dX11_fees_1 : decode cX11_fees 1 = .ok (.aload_n 0, 1) := by decide +kernel
theorem dX11_fees_2 : decode cX11_fees 2 = .ok (.getfield 92, 3) := by decide +kernel
theorem dX11_fees_5 : decode cX11_fees 5 = .ok (.invokevirtual 326, 3) := by decide +kernel
theorem dX11_fees_8 : decode cX11_fees 8 = .ok (.invokevirtual 179, 3) := by decide +kernel
theorem dX11_fees_11 : decode cX11_fees 11 = .ok (.ireturn, 1) := by decide +kernel
theorem dX11_tell_0 : decode cX11_tell 0 = .ok (.lload_n 3, 1) := by decide +kernel
theorem dX11_tell_1 : decode cX11_tell 1 = .ok (.lstore 5, 2) := by decide +kernel
theorem dX11_tell_3 : decode cX11_tell 3 = .ok (.lload_n 1, 1) := by decide +kernel
theorem dX11_tell_4 : decode cX11_tell 4 = .ok (.lstore 7, 2) := by decide +kernel
theorem dX11_tell_6 : decode cX11_tell 6 = .ok (.iconst 0, 1) := by decide +kernel
theorem dX11_tell_7 : decode cX11_tell 7 = .ok (.istore 9, 2) := by decide +kernel
theorem dX11_tell_9 : decode cX11_tell 9 = .ok (.iload 9, 2) := by decide +kernel
theorem dX11_tell_11 : decode cX11_tell 11 = .ok (.sipush 200, 3) := by decide +kernel
theorem dX11_tell_14 : decode cX11_tell 14 = .ok (.if_icmp .ge 31, 3) := by decide +kernel
theorem dX11_tell_17 : decode cX11_tell 17 = .ok (.lload 7, 2) := by decide +kernel
theorem dX11_tell_19 : decode cX11_tell 19 = .ok (.lconst 0, 1) := by decide +kernel
theorem dX11_tell_20 : decode cX11_tell 20 = .ok (.lcmp, 1) := by decide +kernel
theorem dX11_tell_21 : decode cX11_tell 21 = .ok (.ifCond .eq 24, 3) := by decide +kernel
theorem dX11_tell_24 : decode cX11_tell 24 = .ok (.lload 5, 2) := by decide +kernel
theorem dX11_tell_26 : decode cX11_tell 26 = .ok (.lload 7, 2) := by decide +kernel
theorem dX11_tell_28 : decode cX11_tell 28 = .ok (.lrem, 1) := by decide +kernel
theorem dX11_tell_29 : decode cX11_tell 29 = .ok (.lstore 10, 2) := by decide +kernel
theorem dX11_tell_31 : decode cX11_tell 31 = .ok (.lload 7, 2) := by decide +kernel
theorem dX11_tell_33 : decode cX11_tell 33 = .ok (.lstore 5, 2) := by decide +kernel
theorem dX11_tell_35 : decode cX11_tell 35 = .ok (.lload 10, 2) := by decide +kernel
theorem dX11_tell_37 : decode cX11_tell 37 = .ok (.lstore 7, 2) := by decide +kernel
theorem dX11_tell_39 : decode cX11_tell 39 = .ok (.iinc 9 1, 3) := by decide +kernel
theorem dX11_tell_42 : decode cX11_tell 42 = .ok (.goto (-33), 3) := by decide +kernel
theorem dX11_tell_45 : decode cX11_tell 45 = .ok (.lload 5, 2) := by decide +kernel
theorem dX11_tell_47 : decode cX11_tell 47 = .ok (.lconst 0, 1) := by decide +kernel
theorem dX11_tell_48 : decode cX11_tell 48 = .ok (.lcmp, 1) := by decide +kernel
theorem dX11_tell_49 : decode cX11_tell 49 = .ok (.ifCond .le 19, 3) := by decide +kernel
theorem dX11_tell_52 : decode cX11_tell 52 = .ok (.aload_n 0, 1) := by decide +kernel
theorem dX11_tell_53 : decode cX11_tell 53 = .ok (.lload_n 1, 1) := by decide +kernel
theorem dX11_tell_54 : decode cX11_tell 54 = .ok (.lload 5, 2) := by decide +kernel
theorem dX11_tell_56 : decode cX11_tell 56 = .ok (.ldiv, 1) := by decide +kernel
theorem dX11_tell_57 : decode cX11_tell 57 = .ok (.putfield 66, 3) := by decide +kernel
theorem dX11_tell_60 : decode cX11_tell 60 = .ok (.aload_n 0, 1) := by decide +kernel
theorem dX11_tell_61 : decode cX11_tell 61 = .ok (.lload_n 3, 1) := by decide +kernel
theorem dX11_tell_62 : decode cX11_tell 62 = .ok (.lload 5, 2) := by decide +kernel
theorem dX11_tell_64 : decode cX11_tell 64 = .ok (.ldiv, 1) := by decide +kernel
theorem dX11_tell_65 : decode cX11_tell 65 = .ok (.putfield 70, 3) := by decide +kernel
theorem dX11_tell_68 : decode cX11_tell 68 = .ok (.return_, 1) := by decide +kernel
theorem dX11_worst_0 : decode cX11_worst 0 = .ok (.iload_n 1, 1) := by decide +kernel
theorem dX11_worst_1 : decode cX11_worst 1 = .ok (.aload_n 0, 1) := by decide +kernel
theorem dX11_worst_2 : decode cX11_worst 2 = .ok (.getfield 74, 3) := by decide +kernel
theorem dX11_worst_5 : decode cX11_worst 5 = .ok (.getfield 211, 3) := by decide +kernel
theorem dX11_worst_8 : decode cX11_worst 8 = .ok (.invokestatic 119, 3) := by decide +kernel
theorem dX11_worst_11 : decode cX11_worst 11 = .ok (.ifCond .eq 17, 3) := by decide +kernel
theorem dX11_worst_14 : decode cX11_worst 14 = .ok (.iload_n 2, 1) := by decide +kernel
theorem dX11_worst_15 : decode cX11_worst 15 = .ok (.aload_n 0, 1) := by decide +kernel
theorem dX11_worst_16 : decode cX11_worst 16 = .ok (.getfield 74, 3) := by decide +kernel
theorem dX11_worst_19 : decode cX11_worst 19 = .ok (.getfield 208, 3) := by decide +kernel
theorem dX11_worst_22 : decode cX11_worst 22 = .ok (.invokestatic 119, 3) := by decide +kernel
theorem dX11_worst_25 : decode cX11_worst 25 = .ok (.ifCond .ne 9, 3) := by decide +kernel
theorem dX11_worst_28 : decode cX11_worst 28 = .ok (.aload_n 0, 1) := by decide +kernel
theorem dX11_worst_29 : decode cX11_worst 29 = .ok (.iconst 1, 1) := by decide +kernel
theorem dX11_worst_30 : decode cX11_worst 30 = .ok (.invokevirtual 142, 3) := by decide +kernel
theorem dX11_worst_33 : decode cX11_worst 33 = .ok (.ireturn, 1) := by decide +kernel
theorem dX11_worst_34 : decode cX11_worst 34 = .ok (.aload_n 0, 1) := by decide +kernel
theorem dX11_worst_35 : decode cX11_worst 35 = .ok (.getfield 92, 3) := by decide +kernel
theorem dX11_worst_38 : decode cX11_worst 38 = .ok (.getfield 292, 3) := by decide +kernel
theorem dX11_worst_41 : decode cX11_worst 41 = .ok (.ifCond .ne 10, 3) := by decide +kernel
theorem dX11_worst_44 : decode cX11_worst 44 = .ok (.aload_n 0, 1) := by decide +kernel
theorem dX11_worst_45 : decode cX11_worst 45 = .ok (.bipush 6, 2) := by decide +kernel
theorem dX11_worst_47 : decode cX11_worst 47 = .ok (.invokevirtual 142, 3) := by decide +kernel
theorem dX11_worst_50 : decode cX11_worst 50 = .ok (.ireturn, 1) := by decide +kernel
theorem dX11_worst_51 : decode cX11_worst 51 = .ok (.aload_n 0, 1) := by decide +kernel
theorem dX11_worst_52 : decode cX11_worst 52 = .ok (.getfield 92, 3) := by decide +kernel
theorem dX11_worst_55 : decode cX11_worst 55 = .ok (.iload_n 2, 1) := by decide +kernel
theorem dX11_worst_56 : decode cX11_worst 56 = .ok (.invokevirtual 270, 3) := by decide +kernel
theorem dX11_worst_59 : decode cX11_worst 59 = .ok (.ifCond .eq 10, 3) := by decide +kernel
theorem dX11_worst_62 : decode cX11_worst 62 = .ok (.aload_n 0, 1) := by decide +kernel
theorem dX11_worst_63 : decode cX11_worst 63 = .ok (.bipush 7, 2) := by decide +kernel
theorem dX11_worst_65 : decode cX11_worst 65 = .ok (.invokevirtual 142, 3) := by decide +kernel
theorem dX11_worst_68 : decode cX11_worst 68 = .ok (.ireturn, 1) := by decide +kernel
theorem dX11_worst_69 : decode cX11_worst 69 = .ok (.aload_n 0, 1) := by decide +kernel
theorem dX11_worst_70 : decode cX11_worst 70 = .ok (.aload_n 0, 1) := by decide +kernel
theorem dX11_worst_71 : decode cX11_worst 71 = .ok (.getfield 92, 3) := by decide +kernel
theorem dX11_worst_74 : decode cX11_worst 74 = .ok (.iload_n 1, 1) := by decide +kernel
theorem dX11_worst_75 : decode cX11_worst 75 = .ok (.iload_n 2, 1) := by decide +kernel
theorem dX11_worst_76 : decode cX11_worst 76 = .ok (.invokevirtual 329, 3) := by decide +kernel
theorem dX11_worst_79 : decode cX11_worst 79 = .ok (.invokevirtual 179, 3) := by decide +kernel
theorem dX11_worst_82 : decode cX11_worst 82 = .ok (.ireturn, 1) := by decide +kernel
theorem dX11_best_0 : decode cX11_best 0 = .ok (.iload_n 1, 1) := by decide +kernel
theorem dX11_best_1 : decode cX11_best 1 = .ok (.aload_n 0, 1) := by decide +kernel
theorem dX11_best_2 : decode cX11_best 2 = .ok (.getfield 74, 3) := by decide +kernel
theorem dX11_best_5 : decode cX11_best 5 = .ok (.getfield 211, 3) := by decide +kernel
theorem dX11_best_8 : decode cX11_best 8 = .ok (.invokestatic 119, 3) := by decide +kernel
theorem dX11_best_11 : decode cX11_best 11 = .ok (.ifCond .ne 9, 3) := by decide +kernel
theorem dX11_best_14 : decode cX11_best 14 = .ok (.aload_n 0, 1) := by decide +kernel
theorem dX11_best_15 : decode cX11_best 15 = .ok (.iconst 1, 1) := by decide +kernel
theorem dX11_best_16 : decode cX11_best 16 = .ok (.invokevirtual 142, 3) := by decide +kernel
theorem dX11_best_19 : decode cX11_best 19 = .ok (.ireturn, 1) := by decide +kernel
theorem dX11_best_20 : decode cX11_best 20 = .ok (.aload_n 0, 1) := by decide +kernel
theorem dX11_best_21 : decode cX11_best 21 = .ok (.getfield 92, 3) := by decide +kernel
theorem dX11_best_24 : decode cX11_best 24 = .ok (.iload_n 1, 1) := by decide +kernel
theorem dX11_best_25 : decode cX11_best 25 = .ok (.invokevirtual 332, 3) := by decide +kernel
theorem dX11_best_28 : decode cX11_best 28 = .ok (.istore_n 2, 1) := by decide +kernel
theorem dX11_best_29 : decode cX11_best 29 = .ok (.iload_n 2, 1) := by decide +kernel
theorem dX11_best_30 : decode cX11_best 30 = .ok (.iconst (-1), 1) := by decide +kernel
theorem dX11_best_31 : decode cX11_best 31 = .ok (.if_icmp .ne 12, 3) := by decide +kernel
theorem dX11_best_34 : decode cX11_best 34 = .ok (.aload_n 0, 1) := by decide +kernel
theorem dX11_best_35 : decode cX11_best 35 = .ok (.bipush 6, 2) := by decide +kernel
theorem dX11_best_37 : decode cX11_best 37 = .ok (.invokevirtual 142, 3) := by decide +kernel
theorem dX11_best_40 : decode cX11_best 40 = .ok (.goto 8, 3) := by decide +kernel
theorem dX11_best_43 : decode cX11_best 43 = .ok (.aload_n 0, 1) := by decide +kernel
theorem dX11_best_44 : decode cX11_best 44 = .ok (.iload_n 2, 1) := by decide +kernel
theorem dX11_best_45 : decode cX11_best 45 = .ok (.invokevirtual 179, 3) := by decide +kernel
theorem dX11_best_48 : decode cX11_best 48 = .ok (.ireturn, 1) := by decide +kernel
theorem dX11_shortest_0 : decode cX11_shortest 0 = .ok (.iload_n 1, 1) := by decide +kernel
theorem dX11_shortest_1 : decode cX11_shortest 1 = .ok (.aload_n 0, 1) := by decide +kernel
theorem dX11_shortest_2 : decode cX11_shortest 2 = .ok (.getfield 74, 3) := by decide +kernel
theorem dX11_shortest_5 : decode cX11_shortest 5 = .ok (.getfield 208, 3) := by decide +kernel
theorem dX11_shortest_8 : decode cX11_shortest 8 = .ok (.invokestatic 119, 3) := by decide +kernel
theorem dX11_shortest_11 : decode cX11_shortest 11 = .ok (.ifCond .eq 22, 3) := by decide +kernel
theorem dX11_shortest_14 : decode cX11_shortest 14 = .ok (.iload_n 2, 1) := by decide +kernel
theorem dX11_shortest_15 : decode cX11_shortest 15 = .ok (.iconst (-1), 1) := by decide +kernel
theorem dX11_shortest_16 : decode cX11_shortest 16 = .ok (.if_icmp .eq 23, 3) := by decide +kernel
theorem dX11_shortest_19 : decode cX11_shortest 19 = .ok (.iload_n 2, 1) := by decide +kernel
theorem dX11_shortest_20 : decode cX11_shortest 20 = .ok (.aload_n 0, 1) := by decide +kernel
theorem dX11_shortest_21 : decode cX11_shortest 21 = .ok (.getfield 74, 3) := by decide +kernel
theorem dX11_shortest_24 : decode cX11_shortest 24 = .ok (.getfield 211, 3) := by decide +kernel
theorem dX11_shortest_27 : decode cX11_shortest 27 = .ok (.invokestatic 119, 3) := by decide +kernel
theorem dX11_shortest_30 : decode cX11_shortest 30 = .ok (.ifCond .ne 9, 3) := by decide +kernel
theorem dX11_shortest_33 : decode cX11_shortest 33 = .ok (.aload_n 0, 1) := by decide +kernel
theorem dX11_shortest_34 : decode cX11_shortest 34 = .ok (.iconst 1, 1) := by decide +kernel
theorem dX11_shortest_35 : decode cX11_shortest 35 = .ok (.invokevirtual 142, 3) := by decide +kernel
theorem dX11_shortest_38 : decode cX11_shortest 38 = .ok (.ireturn, 1) := by decide +kernel
theorem dX11_shortest_39 : decode cX11_shortest 39 = .ok (.aload_n 0, 1) := by decide +kernel
theorem dX11_shortest_40 : decode cX11_shortest 40 = .ok (.getfield 92, 3) := by decide +kernel
theorem dX11_shortest_43 : decode cX11_shortest 43 = .ok (.getfield 292, 3) := by decide +kernel
theorem dX11_shortest_46 : decode cX11_shortest 46 = .ok (.ifCond .ne 10, 3) := by decide +kernel
theorem dX11_shortest_49 : decode cX11_shortest 49 = .ok (.aload_n 0, 1) := by decide +kernel
theorem dX11_shortest_50 : decode cX11_shortest 50 = .ok (.bipush 6, 2) := by decide +kernel
theorem dX11_shortest_52 : decode cX11_shortest 52 = .ok (.invokevirtual 142, 3) := by decide +kernel
theorem dX11_shortest_55 : decode cX11_shortest 55 = .ok (.ireturn, 1) := by decide +kernel
theorem dX11_shortest_56 : decode cX11_shortest 56 = .ok (.aload_n 0, 1) := by decide +kernel
theorem dX11_shortest_57 : decode cX11_shortest 57 = .ok (.getfield 92, 3) := by decide +kernel
theorem dX11_shortest_60 : decode cX11_shortest 60 = .ok (.iload_n 1, 1) := by decide +kernel
theorem dX11_shortest_61 : decode cX11_shortest 61 = .ok (.invokevirtual 301, 3) := by decide +kernel
theorem dX11_shortest_64 : decode cX11_shortest 64 = .ok (.iconst (-1), 1) := by decide +kernel
theorem dX11_shortest_65 : decode cX11_shortest 65 = .ok (.if_icmp .eq 14, 3) := by decide +kernel
theorem dX11_shortest_68 : decode cX11_shortest 68 = .ok (.aload_n 0, 1) := by decide +kernel
theorem dX11_shortest_69 : decode cX11_shortest 69 = .ok (.iconst (-1), 1) := by decide +kernel
theorem dX11_shortest_70 : decode cX11_shortest 70 = .ok (.putfield 56, 3) := by decide +kernel
theorem dX11_shortest_73 : decode cX11_shortest 73 = .ok (.aload_n 0, 1) := by decide +kernel
theorem dX11_shortest_74 : decode cX11_shortest 74 = .ok (.iconst 0, 1) := by decide +kernel
theorem dX11_shortest_75 : decode cX11_shortest 75 = .ok (.invokevirtual 179, 3) := by decide +kernel
theorem dX11_shortest_78 : decode cX11_shortest 78 = .ok (.ireturn, 1) := by decide +kernel
theorem dX11_shortest_79 : decode cX11_shortest 79 = .ok (.aload_n 0, 1) := by decide +kernel
theorem dX11_shortest_80 : decode cX11_shortest 80 = .ok (.getfield 101, 3) := by decide +kernel
theorem dX11_shortest_83 : decode cX11_shortest 83 = .ok (.iload_n 1, 1) := by decide +kernel
theorem dX11_shortest_84 : decode cX11_shortest 84 = .ok (.iload_n 2, 1) := by decide +kernel
theorem dX11_shortest_85 : decode cX11_shortest 85 = .ok (.invokevirtual 335, 3) := by decide +kernel
theorem dX11_shortest_88 : decode cX11_shortest 88 = .ok (.iload_n 2, 1) := by decide +kernel
theorem dX11_shortest_89 : decode cX11_shortest 89 = .ok (.iconst (-1), 1) := by decide +kernel
theorem dX11_shortest_90 : decode cX11_shortest 90 = .ok (.if_icmp .ne 7, 3) := by decide +kernel
theorem dX11_shortest_93 : decode cX11_shortest 93 = .ok (.iconst 2, 1) := by decide +kernel
theorem dX11_shortest_94 : decode cX11_shortest 94 = .ok (.goto 4, 3) := by decide +kernel
theorem dX11_shortest_97 : decode cX11_shortest 97 = .ok (.iconst 3, 1) := by decide +kernel
theorem dX11_shortest_98 : decode cX11_shortest 98 = .ok (.istore_n 3, 1) := by decide +kernel
theorem dX11_shortest_99 : decode cX11_shortest 99 = .ok (.iconst 1, 1) := by decide +kernel
theorem dX11_shortest_100 : decode cX11_shortest 100 = .ok (.istore 4, 2) := by decide +kernel
theorem dX11_shortest_102 : decode cX11_shortest 102 = .ok (.iload 4, 2) := by decide +kernel
theorem dX11_shortest_104 : decode cX11_shortest 104 = .ok (.iload_n 3, 1) := by decide +kernel
theorem dX11_shortest_105 : decode cX11_shortest 105 = .ok (.if_icmp .gt 47, 3) := by decide +kernel
theorem dX11_shortest_108 : decode cX11_shortest 108 = .ok (.aload_n 0, 1) := by decide +kernel
theorem dX11_shortest_109 : decode cX11_shortest 109 = .ok (.getfield 101, 3) := by decide +kernel
theorem dX11_shortest_112 : decode cX11_shortest 112 = .ok (.iconst 0, 1) := by decide +kernel
theorem dX11_shortest_113 : decode cX11_shortest 113 = .ok (.iload 4, 2) := by decide +kernel
theorem dX11_shortest_115 : decode cX11_shortest 115 = .ok (.aload_n 0, 1) := by decide +kernel
theorem dX11_shortest_116 : decode cX11_shortest 116 = .ok (.getfield 92, 3) := by decide +kernel
theorem dX11_shortest_119 : decode cX11_shortest 119 = .ok (.getfield 338, 3) := by decide +kernel
theorem dX11_shortest_122 : decode cX11_shortest 122 = .ok (.invokevirtual 341, 3) := by decide +kernel
theorem dX11_shortest_125 : decode cX11_shortest 125 = .ok (.istore 5, 2) := by decide +kernel
theorem dX11_shortest_127 : decode cX11_shortest 127 = .ok (.iload 5, 2) := by decide +kernel
theorem dX11_shortest_129 : decode cX11_shortest 129 = .ok (.iconst (-1), 1) := by decide +kernel
theorem dX11_shortest_130 : decode cX11_shortest 130 = .ok (.if_icmp .eq 16, 3) := by decide +kernel
theorem dX11_shortest_133 : decode cX11_shortest 133 = .ok (.aload_n 0, 1) := by decide +kernel
theorem dX11_shortest_134 : decode cX11_shortest 134 = .ok (.iload 5, 2) := by decide +kernel
theorem dX11_shortest_136 : decode cX11_shortest 136 = .ok (.putfield 56, 3) := by decide +kernel
theorem dX11_shortest_139 : decode cX11_shortest 139 = .ok (.aload_n 0, 1) := by decide +kernel
theorem dX11_shortest_140 : decode cX11_shortest 140 = .ok (.iload 4, 2) := by decide +kernel
theorem dX11_shortest_142 : decode cX11_shortest 142 = .ok (.invokevirtual 179, 3) := by decide +kernel
theorem dX11_shortest_145 : decode cX11_shortest 145 = .ok (.ireturn, 1) := by decide +kernel
theorem dX11_shortest_146 : decode cX11_shortest 146 = .ok (.iinc 4 1, 3) := by decide +kernel
theorem dX11_shortest_149 : decode cX11_shortest 149 = .ok (.goto (-47), 3) := by decide +kernel
theorem dX11_shortest_152 : decode cX11_shortest 152 = .ok (.aload_n 0, 1) := by decide +kernel
theorem dX11_shortest_153 : decode cX11_shortest 153 = .ok (.bipush 6, 2) := by decide +kernel
theorem dX11_shortest_155 : decode cX11_shortest 155 = .ok (.invokevirtual 142, 3) := by decide +kernel
theorem dX11_shortest_158 : decode cX11_shortest 158 = .ok (.ireturn, 1) := by decide +kernel
theorem dX11_shortestFirst_0 : decode cX11_shortestFirst 0 = .ok (.iload_n 1, 1) := by decide +kernel
theorem dX11_shortestFirst_1 : decode cX11_shortestFirst 1 = .ok (.iconst 2, 1) := by decide +kernel
theorem dX11_shortestFirst_2 : decode cX11_shortestFirst 2 = .ok (.invokestatic 119, 3) := by decide +kernel
theorem dX11_shortestFirst_5 : decode cX11_shortestFirst 5 = .ok (.ifCond .ne 9, 3) := by decide +kernel
theorem dX11_shortestFirst_8 : decode cX11_shortestFirst 8 = .ok (.aload_n 0, 1) := by decide +kernel
theorem dX11_shortestFirst_9 : decode cX11_shortestFirst 9 = .ok (.iconst 1, 1) := by decide +kernel
theorem dX11_shortestFirst_10 : decode cX11_shortestFirst 10 = .ok (.invokevirtual 142, 3) := by decide +kernel
theorem dX11_shortestFirst_13 : decode cX11_shortestFirst 13 = .ok (.ireturn, 1) := by decide +kernel
theorem dX11_shortestFirst_14 : decode cX11_shortestFirst 14 = .ok (.aload_n 0, 1) := by decide +kernel
theorem dX11_shortestFirst_15 : decode cX11_shortestFirst 15 = .ok (.getfield 56, 3) := by decide +kernel
theorem dX11_shortestFirst_18 : decode cX11_shortestFirst 18 = .ok (.iconst (-1), 1) := by decide +kernel
theorem dX11_shortestFirst_19 : decode cX11_shortestFirst 19 = .ok (.if_icmp .ne 10, 3) := by decide +kernel
theorem dX11_shortestFirst_22 : decode cX11_shortestFirst 22 = .ok (.aload_n 0, 1) := by decide +kernel
theorem dX11_shortestFirst_23 : decode cX11_shortestFirst 23 = .ok (.bipush 6, 2) := by decide +kernel
theorem dX11_shortestFirst_25 : decode cX11_shortestFirst 25 = .ok (.invokevirtual 142, 3) := by decide +kernel
theorem dX11_shortestFirst_28 : decode cX11_shortestFirst 28 = .ok (.ireturn, 1) := by decide +kernel
theorem dX11_shortestFirst_29 : decode cX11_shortestFirst 29 = .ok (.aload_n 0, 1) := by decide +kernel
theorem dX11_shortestFirst_30 : decode cX11_shortestFirst 30 = .ok (.iload_n 1, 1) := by decide +kernel
theorem dX11_shortestFirst_31 : decode cX11_shortestFirst 31 = .ok (.ifCond .ne 13, 3) := by decide +kernel
theorem dX11_shortestFirst_34 : decode cX11_shortestFirst 34 = .ok (.aload_n 0, 1) := by decide +kernel
theorem dX11_shortestFirst_35 : decode cX11_shortestFirst 35 = .ok (.getfield 56, 3) := by decide +kernel
theorem dX11_shortestFirst_38 : decode cX11_shortestFirst 38 = .ok (.bipush 12, 2) := by decide +kernel
theorem dX11_shortestFirst_40 : decode cX11_shortestFirst 40 = .ok (.idiv, 1) := by decide +kernel
theorem dX11_shortestFirst_41 : decode cX11_shortestFirst 41 = .ok (.goto 10, 3) := by decide +kernel
theorem dX11_shortestFirst_44 : decode cX11_shortestFirst 44 = .ok (.aload_n 0, 1) := by decide +kernel
theorem dX11_shortestFirst_45 : decode cX11_shortestFirst 45 = .ok (.getfield 56, 3) := by decide +kernel
theorem dX11_shortestFirst_48 : decode cX11_shortestFirst 48 = .ok (.bipush 12, 2) := by decide +kernel
theorem dX11_shortestFirst_50 : decode cX11_shortestFirst 50 = .ok (.irem, 1) := by decide +kernel
theorem dX11_shortestFirst_51 : decode cX11_shortestFirst 51 = .ok (.invokevirtual 179, 3) := by decide +kernel
theorem dX11_shortestFirst_54 : decode cX11_shortestFirst 54 = .ok (.ireturn, 1) := by decide +kernel
theorem dX11_settled_0 : decode cX11_settled 0 = .ok (.iconst 0, 1) := by decide +kernel
theorem dX11_settled_1 : decode cX11_settled 1 = .ok (.istore_n 1, 1) := by decide +kernel
theorem dX11_settled_2 : decode cX11_settled 2 = .ok (.iconst 0, 1) := by decide +kernel
theorem dX11_settled_3 : decode cX11_settled 3 = .ok (.istore_n 2, 1) := by decide +kernel
theorem dX11_settled_4 : decode cX11_settled 4 = .ok (.iload_n 2, 1) := by decide +kernel
theorem dX11_settled_5 : decode cX11_settled 5 = .ok (.aload_n 0, 1) := by decide +kernel
theorem dX11_settled_6 : decode cX11_settled 6 = .ok (.getfield 74, 3) := by decide +kernel
theorem dX11_settled_9 : decode cX11_settled 9 = .ok (.getfield 208, 3) := by decide +kernel
theorem dX11_settled_12 : decode cX11_settled 12 = .ok (.if_icmp .ge 35, 3) := by decide +kernel
theorem dX11_settled_15 : decode cX11_settled 15 = .ok (.aload_n 0, 1) := by decide +kernel
theorem dX11_settled_16 : decode cX11_settled 16 = .ok (.getfield 92, 3) := by decide +kernel
theorem dX11_settled_19 : decode cX11_settled 19 = .ok (.iload_n 2, 1) := by decide +kernel
theorem dX11_settled_20 : decode cX11_settled 20 = .ok (.invokevirtual 270, 3) := by decide +kernel
theorem dX11_settled_23 : decode cX11_settled 23 = .ok (.ifCond .ne 18, 3) := by decide +kernel
theorem dX11_settled_26 : decode cX11_settled 26 = .ok (.aload_n 0, 1) := by decide +kernel
theorem dX11_settled_27 : decode cX11_settled 27 = .ok (.getfield 92, 3) := by decide +kernel
theorem dX11_settled_30 : decode cX11_settled 30 = .ok (.iload_n 2, 1) := by decide +kernel
theorem dX11_settled_31 : decode cX11_settled 31 = .ok (.invokevirtual 301, 3) := by decide +kernel
theorem dX11_settled_34 : decode cX11_settled 34 = .ok (.iconst (-1), 1) := by decide +kernel
theorem dX11_settled_35 : decode cX11_settled 35 = .ok (.if_icmp .eq 6, 3) := by decide +kernel
theorem dX11_settled_38 : decode cX11_settled 38 = .ok (.iinc 1 1, 3) := by decide +kernel
theorem dX11_settled_41 : decode cX11_settled 41 = .ok (.iinc 2 1, 3) := by decide +kernel
theorem dX11_settled_44 : decode cX11_settled 44 = .ok (.goto (-40), 3) := by decide +kernel
theorem dX11_settled_47 : decode cX11_settled 47 = .ok (.aload_n 0, 1) := by decide +kernel
theorem dX11_settled_48 : decode cX11_settled 48 = .ok (.iload_n 1, 1) := by decide +kernel
theorem dX11_settled_49 : decode cX11_settled 49 = .ok (.invokevirtual 179, 3) := by decide +kernel
theorem dX11_settled_52 : decode cX11_settled 52 = .ok (.ireturn, 1) := by decide +kernel
theorem dX11_bench_0 : decode cX11_bench 0 = .ok (.aload_n 0, 1) := by decide +kernel
theorem dX11_bench_1 : decode cX11_bench 1 = .ok (.aload_n 0, 1) := by decide +kernel
theorem dX11_bench_2 : decode cX11_bench 2 = .ok (.getfield 92, 3) := by decide +kernel
theorem dX11_bench_5 : decode cX11_bench 5 = .ok (.invokevirtual 344, 3) := by decide +kernel
theorem dX11_bench_8 : decode cX11_bench 8 = .ok (.invokevirtual 179, 3) := by decide +kernel
theorem dX11_bench_11 : decode cX11_bench 11 = .ok (.ireturn, 1) := by decide +kernel
theorem dX11_clash_0 : decode cX11_clash 0 = .ok (.aload_n 0, 1) := by decide +kernel
theorem dX11_clash_1 : decode cX11_clash 1 = .ok (.getfield 92, 3) := by decide +kernel
theorem dX11_clash_4 : decode cX11_clash 4 = .ok (.invokevirtual 347, 3) := by decide +kernel
theorem dX11_clash_7 : decode cX11_clash 7 = .ok (.istore_n 1, 1) := by decide +kernel
theorem dX11_clash_8 : decode cX11_clash 8 = .ok (.iload_n 1, 1) := by decide +kernel
theorem dX11_clash_9 : decode cX11_clash 9 = .ok (.iconst (-1), 1) := by decide +kernel
theorem dX11_clash_10 : decode cX11_clash 10 = .ok (.if_icmp .ne 12, 3) := by decide +kernel
theorem dX11_clash_13 : decode cX11_clash 13 = .ok (.aload_n 0, 1) := by decide +kernel
theorem dX11_clash_14 : decode cX11_clash 14 = .ok (.bipush 6, 2) := by decide +kernel
theorem dX11_clash_16 : decode cX11_clash 16 = .ok (.invokevirtual 142, 3) := by decide +kernel
theorem dX11_clash_19 : decode cX11_clash 19 = .ok (.goto 8, 3) := by decide +kernel
theorem dX11_clash_22 : decode cX11_clash 22 = .ok (.aload_n 0, 1) := by decide +kernel
theorem dX11_clash_23 : decode cX11_clash 23 = .ok (.iload_n 1, 1) := by decide +kernel
theorem dX11_clash_24 : decode cX11_clash 24 = .ok (.invokevirtual 179, 3) := by decide +kernel
theorem dX11_clash_27 : decode cX11_clash 27 = .ok (.ireturn, 1) := by decide +kernel
theorem dX11_liars_0 : decode cX11_liars 0 = .ok (.aload_n 0, 1) := by decide +kernel
theorem dX11_liars_1 : decode cX11_liars 1 = .ok (.getfield 92, 3) := by decide +kernel
theorem dX11_liars_4 : decode cX11_liars 4 = .ok (.getfield 292, 3) := by decide +kernel
theorem dX11_liars_7 : decode cX11_liars 7 = .ok (.ifCond .ne 10, 3) := by decide +kernel
theorem dX11_liars_10 : decode cX11_liars 10 = .ok (.aload_n 0, 1) := by decide +kernel
theorem dX11_liars_11 : decode cX11_liars 11 = .ok (.bipush 6, 2) := by decide +kernel
theorem dX11_liars_13 : decode cX11_liars 13 = .ok (.invokevirtual 142, 3) := by decide +kernel
theorem dX11_liars_16 : decode cX11_liars 16 = .ok (.ireturn, 1) := by decide +kernel
theorem dX11_liars_17 : decode cX11_liars 17 = .ok (.aload_n 0, 1) := by decide +kernel
theorem dX11_liars_18 : decode cX11_liars 18 = .ok (.aload_n 0, 1) := by decide +kernel
theorem dX11_liars_19 : decode cX11_liars 19 = .ok (.getfield 92, 3) := by decide +kernel
theorem dX11_liars_22 : decode cX11_liars 22 = .ok (.invokevirtual 350, 3) := by decide +kernel
theorem dX11_liars_25 : decode cX11_liars 25 = .ok (.invokevirtual 179, 3) := by decide +kernel
theorem dX11_liars_28 : decode cX11_liars 28 = .ok (.ireturn, 1) := by decide +kernel
theorem dX11_sit_0 : decode cX11_sit 0 = .ok (.iload_n 1, 1) := by decide +kernel
theorem dX11_sit_1 : decode cX11_sit 1 = .ok (.sipush 10000, 3) := by decide +kernel
theorem dX11_sit_4 : decode cX11_sit 4 = .ok (.invokestatic 119, 3) := by decide +kernel
theorem dX11_sit_7 : decode cX11_sit 7 = .ok (.ifCond .ne 9, 3) := by decide +kernel
theorem dX11_sit_10 : decode cX11_sit 10 = .ok (.aload_n 0, 1) := by decide +kernel
theorem dX11_sit_11 : decode cX11_sit 11 = .ok (.iconst 1, 1) := by decide +kernel
theorem dX11_sit_12 : decode cX11_sit 12 = .ok (.invokevirtual 142, 3) := by decide +kernel
theorem dX11_sit_15 : decode cX11_sit 15 = .ok (.ireturn, 1) := by decide +kernel
theorem dX11_sit_16 : decode cX11_sit 16 = .ok (.aload_n 0, 1) := by decide +kernel
theorem dX11_sit_17 : decode cX11_sit 17 = .ok (.invokevirtual 353, 3) := by decide +kernel
theorem dX11_sit_20 : decode cX11_sit 20 = .ok (.ifCond .ne 10, 3) := by decide +kernel
theorem dX11_sit_23 : decode cX11_sit 23 = .ok (.aload_n 0, 1) := by decide +kernel
theorem dX11_sit_24 : decode cX11_sit 24 = .ok (.bipush 6, 2) := by decide +kernel
theorem dX11_sit_26 : decode cX11_sit 26 = .ok (.invokevirtual 142, 3) := by decide +kernel
theorem dX11_sit_29 : decode cX11_sit 29 = .ok (.ireturn, 1) := by decide +kernel
theorem dX11_sit_30 : decode cX11_sit 30 = .ok (.aload_n 0, 1) := by decide +kernel
theorem dX11_sit_31 : decode cX11_sit 31 = .ok (.getfield 108, 3) := by decide +kernel
theorem dX11_sit_34 : decode cX11_sit 34 = .ok (.aload_n 0, 1) := by decide +kernel
theorem dX11_sit_35 : decode cX11_sit 35 = .ok (.getfield 74, 3) := by decide +kernel
theorem dX11_sit_38 : decode cX11_sit 38 = .ok (.aload_n 0, 1) := by decide +kernel
theorem dX11_sit_39 : decode cX11_sit 39 = .ok (.getfield 45, 3) := by decide +kernel
theorem dX11_sit_42 : decode cX11_sit 42 = .ok (.iload_n 1, 1) := by decide +kernel
theorem dX11_sit_43 : decode cX11_sit 43 = .ok (.invokevirtual 356, 3) := by decide +kernel
theorem dX11_sit_46 : decode cX11_sit 46 = .ok (.istore_n 2, 1) := by decide +kernel
theorem dX11_sit_47 : decode cX11_sit 47 = .ok (.aload_n 0, 1) := by decide +kernel
theorem dX11_sit_48 : decode cX11_sit 48 = .ok (.getfield 39, 3) := by decide +kernel
theorem dX11_sit_51 : decode cX11_sit 51 = .ok (.iconst 0, 1) := by decide +kernel
theorem dX11_sit_52 : decode cX11_sit 52 = .ok (.aload_n 0, 1) := by decide +kernel
theorem dX11_sit_53 : decode cX11_sit 53 = .ok (.getfield 108, 3) := by decide +kernel
theorem dX11_sit_56 : decode cX11_sit 56 = .ok (.getfield 360, 3) := by decide +kernel
theorem dX11_sit_59 : decode cX11_sit 59 = .ok (.getfield 214, 3) := by decide +kernel
theorem dX11_sit_62 : decode cX11_sit 62 = .ok (.getfield 223, 3) := by decide +kernel
theorem dX11_sit_65 : decode cX11_sit 65 = .ok (.iastore, 1) := by decide +kernel
theorem dX11_sit_66 : decode cX11_sit 66 = .ok (.aload_n 0, 1) := by decide +kernel
theorem dX11_sit_67 : decode cX11_sit 67 = .ok (.getfield 39, 3) := by decide +kernel
theorem dX11_sit_70 : decode cX11_sit 70 = .ok (.iconst 1, 1) := by decide +kernel
theorem dX11_sit_71 : decode cX11_sit 71 = .ok (.aload_n 0, 1) := by decide +kernel
theorem dX11_sit_72 : decode cX11_sit 72 = .ok (.getfield 108, 3) := by decide +kernel
theorem dX11_sit_75 : decode cX11_sit 75 = .ok (.getfield 360, 3) := by decide +kernel
theorem dX11_sit_78 : decode cX11_sit 78 = .ok (.invokevirtual 326, 3) := by decide +kernel
theorem dX11_sit_81 : decode cX11_sit 81 = .ok (.iastore, 1) := by decide +kernel
theorem dX11_sit_82 : decode cX11_sit 82 = .ok (.aload_n 0, 1) := by decide +kernel
theorem dX11_sit_83 : decode cX11_sit 83 = .ok (.getfield 39, 3) := by decide +kernel
theorem dX11_sit_86 : decode cX11_sit 86 = .ok (.iconst 2, 1) := by decide +kernel
theorem dX11_sit_87 : decode cX11_sit 87 = .ok (.aload_n 0, 1) := by decide +kernel
theorem dX11_sit_88 : decode cX11_sit 88 = .ok (.getfield 108, 3) := by decide +kernel
theorem dX11_sit_91 : decode cX11_sit 91 = .ok (.getfield 360, 3) := by decide +kernel
theorem dX11_sit_94 : decode cX11_sit 94 = .ok (.getfield 214, 3) := by decide +kernel
theorem dX11_sit_97 : decode cX11_sit 97 = .ok (.getfield 218, 3) := by decide +kernel
theorem dX11_sit_100 : decode cX11_sit 100 = .ok (.iastore, 1) := by decide +kernel
theorem dX11_sit_101 : decode cX11_sit 101 = .ok (.aload_n 0, 1) := by decide +kernel
theorem dX11_sit_102 : decode cX11_sit 102 = .ok (.getfield 39, 3) := by decide +kernel
theorem dX11_sit_105 : decode cX11_sit 105 = .ok (.iconst 3, 1) := by decide +kernel
theorem dX11_sit_106 : decode cX11_sit 106 = .ok (.aload_n 0, 1) := by decide +kernel
theorem dX11_sit_107 : decode cX11_sit 107 = .ok (.getfield 108, 3) := by decide +kernel
theorem dX11_sit_110 : decode cX11_sit 110 = .ok (.getfield 361, 3) := by decide +kernel
theorem dX11_sit_113 : decode cX11_sit 113 = .ok (.iastore, 1) := by decide +kernel
theorem dX11_sit_114 : decode cX11_sit 114 = .ok (.aload_n 0, 1) := by decide +kernel
theorem dX11_sit_115 : decode cX11_sit 115 = .ok (.getfield 39, 3) := by decide +kernel
theorem dX11_sit_118 : decode cX11_sit 118 = .ok (.iconst 4, 1) := by decide +kernel
theorem dX11_sit_119 : decode cX11_sit 119 = .ok (.aload_n 0, 1) := by decide +kernel
theorem dX11_sit_120 : decode cX11_sit 120 = .ok (.getfield 108, 3) := by decide +kernel
theorem dX11_sit_123 : decode cX11_sit 123 = .ok (.getfield 360, 3) := by decide +kernel
theorem dX11_sit_126 : decode cX11_sit 126 = .ok (.getfield 292, 3) := by decide +kernel
theorem dX11_sit_129 : decode cX11_sit 129 = .ok (.iastore, 1) := by decide +kernel
theorem dX11_sit_130 : decode cX11_sit 130 = .ok (.aload_n 0, 1) := by decide +kernel
theorem dX11_sit_131 : decode cX11_sit 131 = .ok (.getfield 39, 3) := by decide +kernel
theorem dX11_sit_134 : decode cX11_sit 134 = .ok (.iconst 5, 1) := by decide +kernel
theorem dX11_sit_135 : decode cX11_sit 135 = .ok (.aload_n 0, 1) := by decide +kernel
theorem dX11_sit_136 : decode cX11_sit 136 = .ok (.getfield 108, 3) := by decide +kernel
theorem dX11_sit_139 : decode cX11_sit 139 = .ok (.invokevirtual 364, 3) := by decide +kernel
theorem dX11_sit_142 : decode cX11_sit 142 = .ok (.iastore, 1) := by decide +kernel
theorem dX11_sit_143 : decode cX11_sit 143 = .ok (.aload_n 0, 1) := by decide +kernel
theorem dX11_sit_144 : decode cX11_sit 144 = .ok (.iconst 1, 1) := by decide +kernel
theorem dX11_sit_145 : decode cX11_sit 145 = .ok (.putfield 59, 3) := by decide +kernel
theorem dX11_sit_148 : decode cX11_sit 148 = .ok (.aload_n 0, 1) := by decide +kernel
theorem dX11_sit_149 : decode cX11_sit 149 = .ok (.iload_n 2, 1) := by decide +kernel
theorem dX11_sit_150 : decode cX11_sit 150 = .ok (.invokevirtual 179, 3) := by decide +kernel
theorem dX11_sit_153 : decode cX11_sit 153 = .ok (.ireturn, 1) := by decide +kernel
theorem dX11_sat_0 : decode cX11_sat 0 = .ok (.iload_n 1, 1) := by decide +kernel
theorem dX11_sat_1 : decode cX11_sat 1 = .ok (.aload_n 0, 1) := by decide +kernel
theorem dX11_sat_2 : decode cX11_sat 2 = .ok (.getfield 39, 3) := by decide +kernel
theorem dX11_sat_5 : decode cX11_sat 5 = .ok (.arraylength, 1) := by decide +kernel
theorem dX11_sat_6 : decode cX11_sat 6 = .ok (.invokestatic 119, 3) := by decide +kernel
theorem dX11_sat_9 : decode cX11_sat 9 = .ok (.ifCond .ne 9, 3) := by decide +kernel
theorem dX11_sat_12 : decode cX11_sat 12 = .ok (.aload_n 0, 1) := by decide +kernel
theorem dX11_sat_13 : decode cX11_sat 13 = .ok (.iconst 1, 1) := by decide +kernel
theorem dX11_sat_14 : decode cX11_sat 14 = .ok (.invokevirtual 142, 3) := by decide +kernel
theorem dX11_sat_17 : decode cX11_sat 17 = .ok (.ireturn, 1) := by decide +kernel
theorem dX11_sat_18 : decode cX11_sat 18 = .ok (.aload_n 0, 1) := by decide +kernel
theorem dX11_sat_19 : decode cX11_sat 19 = .ok (.getfield 59, 3) := by decide +kernel
theorem dX11_sat_22 : decode cX11_sat 22 = .ok (.ifCond .eq 16, 3) := by decide +kernel
theorem dX11_sat_25 : decode cX11_sat 25 = .ok (.aload_n 0, 1) := by decide +kernel
theorem dX11_sat_26 : decode cX11_sat 26 = .ok (.aload_n 0, 1) := by decide +kernel
theorem dX11_sat_27 : decode cX11_sat 27 = .ok (.getfield 39, 3) := by decide +kernel
theorem dX11_sat_30 : decode cX11_sat 30 = .ok (.iload_n 1, 1) := by decide +kernel
theorem dX11_sat_31 : decode cX11_sat 31 = .ok (.iaload, 1) := by decide +kernel
theorem dX11_sat_32 : decode cX11_sat 32 = .ok (.invokevirtual 179, 3) := by decide +kernel
theorem dX11_sat_35 : decode cX11_sat 35 = .ok (.goto 9, 3) := by decide +kernel
theorem dX11_sat_38 : decode cX11_sat 38 = .ok (.aload_n 0, 1) := by decide +kernel
theorem dX11_sat_39 : decode cX11_sat 39 = .ok (.bipush 6, 2) := by decide +kernel
theorem dX11_sat_41 : decode cX11_sat 41 = .ok (.invokevirtual 142, 3) := by decide +kernel
theorem dX11_sat_44 : decode cX11_sat 44 = .ok (.ireturn, 1) := by decide +kernel
theorem dX11_tally_0 : decode cX11_tally 0 = .ok (.iload_n 1, 1) := by decide +kernel
theorem dX11_tally_1 : decode cX11_tally 1 = .ok (.sipush 10000, 3) := by decide +kernel
theorem dX11_tally_4 : decode cX11_tally 4 = .ok (.invokestatic 119, 3) := by decide +kernel
theorem dX11_tally_7 : decode cX11_tally 7 = .ok (.ifCond .eq 33, 3) := by decide +kernel
theorem dX11_tally_10 : decode cX11_tally 10 = .ok (.iload_n 2, 1) := by decide +kernel
theorem dX11_tally_11 : decode cX11_tally 11 = .ok (.iconst 1, 1) := by decide +kernel
theorem dX11_tally_12 : decode cX11_tally 12 = .ok (.if_icmp .lt 28, 3) := by decide +kernel
theorem dX11_tally_15 : decode cX11_tally 15 = .ok (.iload_n 2, 1) := by decide +kernel
theorem dX11_tally_16 : decode cX11_tally 16 = .ok (.bipush 30, 2) := by decide +kernel
theorem dX11_tally_18 : decode cX11_tally 18 = .ok (.if_icmp .gt 22, 3) := by decide +kernel
theorem dX11_tally_21 : decode cX11_tally 21 = .ok (.iload_n 1, 1) := by decide +kernel
theorem dX11_tally_22 : decode cX11_tally 22 = .ok (.iload_n 2, 1) := by decide +kernel
theorem dX11_tally_23 : decode cX11_tally 23 = .ok (.iadd, 1) := by decide +kernel
theorem dX11_tally_24 : decode cX11_tally 24 = .ok (.iconst 1, 1) := by decide +kernel
theorem dX11_tally_25 : decode cX11_tally 25 = .ok (.isub, 1) := by decide +kernel
theorem dX11_tally_26 : decode cX11_tally 26 = .ok (.sipush 9999, 3) := by decide +kernel
theorem dX11_tally_29 : decode cX11_tally 29 = .ok (.if_icmp .gt 11, 3) := by decide +kernel
theorem dX11_tally_32 : decode cX11_tally 32 = .ok (.iload_n 3, 1) := by decide +kernel
theorem dX11_tally_33 : decode cX11_tally 33 = .ok (.iconst 3, 1) := by decide +kernel
theorem dX11_tally_34 : decode cX11_tally 34 = .ok (.invokestatic 119, 3) := by decide +kernel
theorem dX11_tally_37 : decode cX11_tally 37 = .ok (.ifCond .ne 9, 3) := by decide +kernel
theorem dX11_tally_40 : decode cX11_tally 40 = .ok (.aload_n 0, 1) := by decide +kernel
theorem dX11_tally_41 : decode cX11_tally 41 = .ok (.iconst 1, 1) := by decide +kernel
theorem dX11_tally_42 : decode cX11_tally 42 = .ok (.invokevirtual 142, 3) := by decide +kernel
theorem dX11_tally_45 : decode cX11_tally 45 = .ok (.ireturn, 1) := by decide +kernel
theorem dX11_tally_46 : decode cX11_tally 46 = .ok (.aload_n 0, 1) := by decide +kernel
theorem dX11_tally_47 : decode cX11_tally 47 = .ok (.invokevirtual 353, 3) := by decide +kernel
theorem dX11_tally_50 : decode cX11_tally 50 = .ok (.ifCond .ne 10, 3) := by decide +kernel
theorem dX11_tally_53 : decode cX11_tally 53 = .ok (.aload_n 0, 1) := by decide +kernel
theorem dX11_tally_54 : decode cX11_tally 54 = .ok (.bipush 6, 2) := by decide +kernel
theorem dX11_tally_56 : decode cX11_tally 56 = .ok (.invokevirtual 142, 3) := by decide +kernel
theorem dX11_tally_59 : decode cX11_tally 59 = .ok (.ireturn, 1) := by decide +kernel
theorem dX11_tally_60 : decode cX11_tally 60 = .ok (.iconst 0, 1) := by decide +kernel
theorem dX11_tally_61 : decode cX11_tally 61 = .ok (.istore 4, 2) := by decide +kernel
theorem dX11_tally_63 : decode cX11_tally 63 = .ok (.iconst 0, 1) := by decide +kernel
theorem dX11_tally_64 : decode cX11_tally 64 = .ok (.istore 5, 2) := by decide +kernel
theorem dX11_tally_66 : decode cX11_tally 66 = .ok (.iload 5, 2) := by decide +kernel
theorem dX11_tally_68 : decode cX11_tally 68 = .ok (.iload_n 2, 1) := by decide +kernel
theorem dX11_tally_69 : decode cX11_tally 69 = .ok (.if_icmp .ge 35, 3) := by decide +kernel
theorem dX11_tally_72 : decode cX11_tally 72 = .ok (.aload_n 0, 1) := by decide +kernel
theorem dX11_tally_73 : decode cX11_tally 73 = .ok (.getfield 108, 3) := by decide +kernel
theorem dX11_tally_76 : decode cX11_tally 76 = .ok (.aload_n 0, 1) := by decide +kernel
theorem dX11_tally_77 : decode cX11_tally 77 = .ok (.getfield 74, 3) := by decide +kernel
theorem dX11_tally_80 : decode cX11_tally 80 = .ok (.aload_n 0, 1) := by decide +kernel
theorem dX11_tally_81 : decode cX11_tally 81 = .ok (.getfield 45, 3) := by decide +kernel
theorem dX11_tally_84 : decode cX11_tally 84 = .ok (.iload_n 1, 1) := by decide +kernel
theorem dX11_tally_85 : decode cX11_tally 85 = .ok (.iload 5, 2) := by decide +kernel
theorem dX11_tally_87 : decode cX11_tally 87 = .ok (.iadd, 1) := by decide +kernel
theorem dX11_tally_88 : decode cX11_tally 88 = .ok (.invokevirtual 356, 3) := by decide +kernel
theorem dX11_tally_91 : decode cX11_tally 91 = .ok (.iload_n 3, 1) := by decide +kernel
theorem dX11_tally_92 : decode cX11_tally 92 = .ok (.if_icmp .ne 6, 3) := by decide +kernel
theorem dX11_tally_95 : decode cX11_tally 95 = .ok (.iinc 4 1, 3) := by decide +kernel
theorem dX11_tally_98 : decode cX11_tally 98 = .ok (.iinc 5 1, 3) := by decide +kernel
theorem dX11_tally_101 : decode cX11_tally 101 = .ok (.goto (-35), 3) := by decide +kernel
theorem dX11_tally_104 : decode cX11_tally 104 = .ok (.aload_n 0, 1) := by decide +kernel
theorem dX11_tally_105 : decode cX11_tally 105 = .ok (.iload 4, 2) := by decide +kernel
theorem dX11_tally_107 : decode cX11_tally 107 = .ok (.invokevirtual 179, 3) := by decide +kernel
theorem dX11_tally_110 : decode cX11_tally 110 = .ok (.ireturn, 1) := by decide +kernel
theorem dX11_canSit_0 : decode cX11_canSit 0 = .ok (.aload_n 0, 1) := by decide +kernel
theorem dX11_canSit_1 : decode cX11_canSit 1 = .ok (.getfield 45, 3) := by decide +kernel
theorem dX11_canSit_4 : decode cX11_canSit 4 = .ok (.getfield 170, 3) := by decide +kernel
theorem dX11_canSit_7 : decode cX11_canSit 7 = .ok (.ifCond .eq 17, 3) := by decide +kernel
theorem dX11_canSit_10 : decode cX11_canSit 10 = .ok (.aload_n 0, 1) := by decide +kernel
theorem dX11_canSit_11 : decode cX11_canSit 11 = .ok (.getfield 74, 3) := by decide +kernel
theorem dX11_canSit_14 : decode cX11_canSit 14 = .ok (.getfield 176, 3) := by decide +kernel
theorem dX11_canSit_17 : decode cX11_canSit 17 = .ok (.ifCond .le 7, 3) := by decide +kernel
theorem dX11_canSit_20 : decode cX11_canSit 20 = .ok (.iconst 1, 1) := by decide +kernel
theorem dX11_canSit_21 : decode cX11_canSit 21 = .ok (.goto 4, 3) := by decide +kernel
theorem dX11_canSit_24 : decode cX11_canSit 24 = .ok (.iconst 0, 1) := by decide +kernel
theorem dX11_canSit_25 : decode cX11_canSit 25 = .ok (.ireturn, 1) := by decide +kernel
theorem dX11_mark_0 : decode cX11_mark 0 = .ok (.aload_n 0, 1) := by decide +kernel
theorem dX11_mark_1 : decode cX11_mark 1 = .ok (.getfield 52, 3) := by decide +kernel
theorem dX11_mark_4 : decode cX11_mark 4 = .ok (.iconst 3, 1) := by decide +kernel
theorem dX11_mark_5 : decode cX11_mark 5 = .ok (.if_icmp .lt 9, 3) := by decide +kernel
theorem dX11_mark_8 : decode cX11_mark 8 = .ok (.aload_n 0, 1) := by decide +kernel
theorem dX11_mark_9 : decode cX11_mark 9 = .ok (.iconst 4, 1) := by decide +kernel
theorem dX11_mark_10 : decode cX11_mark 10 = .ok (.invokevirtual 142, 3) := by decide +kernel
theorem dX11_mark_13 : decode cX11_mark 13 = .ok (.ireturn, 1) := by decide +kernel
theorem dX11_mark_14 : decode cX11_mark 14 = .ok (.aload_n 0, 1) := by decide +kernel
theorem dX11_mark_15 : decode cX11_mark 15 = .ok (.getfield 35, 3) := by decide +kernel
theorem dX11_mark_18 : decode cX11_mark 18 = .ok (.aload_n 0, 1) := by decide +kernel
theorem dX11_mark_19 : decode cX11_mark 19 = .ok (.getfield 52, 3) := by decide +kernel
theorem dX11_mark_22 : decode cX11_mark 22 = .ok (.aaload, 1) := by decide +kernel
theorem dX11_mark_23 : decode cX11_mark 23 = .ok (.aload_n 0, 1) := by decide +kernel
theorem dX11_mark_24 : decode cX11_mark 24 = .ok (.getfield 74, 3) := by decide +kernel
theorem dX11_mark_27 : decode cX11_mark 27 = .ok (.aload_n 0, 1) := by decide +kernel
theorem dX11_mark_28 : decode cX11_mark 28 = .ok (.getfield 45, 3) := by decide +kernel
theorem dX11_mark_31 : decode cX11_mark 31 = .ok (.aload_n 0, 1) := by decide +kernel
theorem dX11_mark_32 : decode cX11_mark 32 = .ok (.getfield 92, 3) := by decide +kernel
theorem dX11_mark_35 : decode cX11_mark 35 = .ok (.getfield 214, 3) := by decide +kernel
theorem dX11_mark_38 : decode cX11_mark 38 = .ok (.invokevirtual 367, 3) := by decide +kernel
theorem dX11_mark_41 : decode cX11_mark 41 = .ok (.aload_n 0, 1) := by decide +kernel
theorem dX11_mark_42 : decode cX11_mark 42 = .ok (.dup, 1) := by decide +kernel
theorem dX11_mark_43 : decode cX11_mark 43 = .ok (.getfield 52, 3) := by decide +kernel
theorem dX11_mark_46 : decode cX11_mark 46 = .ok (.iconst 1, 1) := by decide +kernel
theorem dX11_mark_47 : decode cX11_mark 47 = .ok (.iadd, 1) := by decide +kernel
theorem dX11_mark_48 : decode cX11_mark 48 = .ok (.putfield 52, 3) := by decide +kernel
theorem dX11_mark_51 : decode cX11_mark 51 = .ok (.aload_n 0, 1) := by decide +kernel
theorem dX11_mark_52 : decode cX11_mark 52 = .ok (.aload_n 0, 1) := by decide +kernel
theorem dX11_mark_53 : decode cX11_mark 53 = .ok (.getfield 52, 3) := by decide +kernel
theorem dX11_mark_56 : decode cX11_mark 56 = .ok (.invokevirtual 179, 3) := by decide +kernel
theorem dX11_mark_59 : decode cX11_mark 59 = .ok (.ireturn, 1) := by decide +kernel
theorem dX11_back_0 : decode cX11_back 0 = .ok (.aload_n 0, 1) := by decide +kernel
theorem dX11_back_1 : decode cX11_back 1 = .ok (.getfield 52, 3) := by decide +kernel
theorem dX11_back_4 : decode cX11_back 4 = .ok (.ifCond .ne 10, 3) := by decide +kernel
theorem dX11_back_7 : decode cX11_back 7 = .ok (.aload_n 0, 1) := by decide +kernel
theorem dX11_back_8 : decode cX11_back 8 = .ok (.bipush 6, 2) := by decide +kernel
theorem dX11_back_10 : decode cX11_back 10 = .ok (.invokevirtual 142, 3) := by decide +kernel
theorem dX11_back_13 : decode cX11_back 13 = .ok (.ireturn, 1) := by decide +kernel
theorem dX11_back_14 : decode cX11_back 14 = .ok (.aload_n 0, 1) := by decide +kernel
theorem dX11_back_15 : decode cX11_back 15 = .ok (.dup, 1) := by decide +kernel
theorem dX11_back_16 : decode cX11_back 16 = .ok (.getfield 52, 3) := by decide +kernel
theorem dX11_back_19 : decode cX11_back 19 = .ok (.iconst 1, 1) := by decide +kernel
theorem dX11_back_20 : decode cX11_back 20 = .ok (.isub, 1) := by decide +kernel
theorem dX11_back_21 : decode cX11_back 21 = .ok (.putfield 52, 3) := by decide +kernel
theorem dX11_back_24 : decode cX11_back 24 = .ok (.aload_n 0, 1) := by decide +kernel
theorem dX11_back_25 : decode cX11_back 25 = .ok (.getfield 35, 3) := by decide +kernel
theorem dX11_back_28 : decode cX11_back 28 = .ok (.aload_n 0, 1) := by decide +kernel
theorem dX11_back_29 : decode cX11_back 29 = .ok (.getfield 52, 3) := by decide +kernel
theorem dX11_back_32 : decode cX11_back 32 = .ok (.aaload, 1) := by decide +kernel
theorem dX11_back_33 : decode cX11_back 33 = .ok (.astore_n 1, 1) := by decide +kernel
theorem dX11_back_34 : decode cX11_back 34 = .ok (.aload_n 0, 1) := by decide +kernel
theorem dX11_back_35 : decode cX11_back 35 = .ok (.aload_n 1, 1) := by decide +kernel
theorem dX11_back_36 : decode cX11_back 36 = .ok (.getfield 267, 3) := by decide +kernel
theorem dX11_back_39 : decode cX11_back 39 = .ok (.putfield 74, 3) := by decide +kernel
theorem dX11_back_42 : decode cX11_back 42 = .ok (.aload_n 0, 1) := by decide +kernel
theorem dX11_back_43 : decode cX11_back 43 = .ok (.getfield 45, 3) := by decide +kernel
theorem dX11_back_46 : decode cX11_back 46 = .ok (.aload_n 1, 1) := by decide +kernel
theorem dX11_back_47 : decode cX11_back 47 = .ok (.getfield 371, 3) := by decide +kernel
theorem dX11_back_50 : decode cX11_back 50 = .ok (.invokevirtual 374, 3) := by decide +kernel
theorem dX11_back_53 : decode cX11_back 53 = .ok (.aload_n 0, 1) := by decide +kernel
theorem dX11_back_54 : decode cX11_back 54 = .ok (.getfield 92, 3) := by decide +kernel
theorem dX11_back_57 : decode cX11_back 57 = .ok (.aload_n 1, 1) := by decide +kernel
theorem dX11_back_58 : decode cX11_back 58 = .ok (.getfield 267, 3) := by decide +kernel
theorem dX11_back_61 : decode cX11_back 61 = .ok (.aload_n 1, 1) := by decide +kernel
theorem dX11_back_62 : decode cX11_back 62 = .ok (.getfield 378, 3) := by decide +kernel
theorem dX11_back_65 : decode cX11_back 65 = .ok (.invokevirtual 379, 3) := by decide +kernel
theorem dX11_back_68 : decode cX11_back 68 = .ok (.aload_n 0, 1) := by decide +kernel
theorem dX11_back_69 : decode cX11_back 69 = .ok (.aload_n 0, 1) := by decide +kernel
theorem dX11_back_70 : decode cX11_back 70 = .ok (.getfield 52, 3) := by decide +kernel
theorem dX11_back_73 : decode cX11_back 73 = .ok (.invokevirtual 179, 3) := by decide +kernel
theorem dX11_back_76 : decode cX11_back 76 = .ok (.ireturn, 1) := by decide +kernel
theorem dX11_below_0 : decode cX11_below 0 = .ok (.iload_n 0, 1) := by decide +kernel
theorem dX11_below_1 : decode cX11_below 1 = .ok (.ifCond .lt 12, 3) := by decide +kernel
theorem dX11_below_4 : decode cX11_below 4 = .ok (.iload_n 0, 1) := by decide +kernel
theorem dX11_below_5 : decode cX11_below 5 = .ok (.iload_n 1, 1) := by decide +kernel
theorem dX11_below_6 : decode cX11_below 6 = .ok (.if_icmp .ge 7, 3) := by decide +kernel
theorem dX11_below_9 : decode cX11_below 9 = .ok (.iconst 1, 1) := by decide +kernel
theorem dX11_below_10 : decode cX11_below 10 = .ok (.goto 4, 3) := by decide +kernel
theorem dX11_below_13 : decode cX11_below 13 = .ok (.iconst 0, 1) := by decide +kernel
theorem dX11_below_14 : decode cX11_below 14 = .ok (.ireturn, 1) := by decide +kernel
theorem dX11_give_0 : decode cX11_give 0 = .ok (.aload_n 0, 1) := by decide +kernel
theorem dX11_give_1 : decode cX11_give 1 = .ok (.iconst 0, 1) := by decide +kernel
theorem dX11_give_2 : decode cX11_give 2 = .ok (.putfield 63, 3) := by decide +kernel
theorem dX11_give_5 : decode cX11_give 5 = .ok (.iload_n 1, 1) := by decide +kernel
theorem dX11_give_6 : decode cX11_give 6 = .ok (.ireturn, 1) := by decide +kernel
theorem dX11_refuse_0 : decode cX11_refuse 0 = .ok (.aload_n 0, 1) := by decide +kernel
theorem dX11_refuse_1 : decode cX11_refuse 1 = .ok (.iload_n 1, 1) := by decide +kernel
theorem dX11_refuse_2 : decode cX11_refuse 2 = .ok (.putfield 63, 3) := by decide +kernel
theorem dX11_refuse_5 : decode cX11_refuse 5 = .ok (.iconst (-1), 1) := by decide +kernel
theorem dX11_refuse_6 : decode cX11_refuse 6 = .ok (.ireturn, 1) := by decide +kernel
theorem dX11_grant_0 : decode cX11_grant 0 = .ok (.aload_n 0, 1) := by decide +kernel
theorem dX11_grant_1 : decode cX11_grant 1 = .ok (.iconst 0, 1) := by decide +kernel
theorem dX11_grant_2 : decode cX11_grant 2 = .ok (.putfield 63, 3) := by decide +kernel
theorem dX11_grant_5 : decode cX11_grant 5 = .ok (.iconst 1, 1) := by decide +kernel
theorem dX11_grant_6 : decode cX11_grant 6 = .ok (.ireturn, 1) := by decide +kernel
theorem dX11_deny_0 : decode cX11_deny 0 = .ok (.aload_n 0, 1) := by decide +kernel
theorem dX11_deny_1 : decode cX11_deny 1 = .ok (.iload_n 1, 1) := by decide +kernel
theorem dX11_deny_2 : decode cX11_deny 2 = .ok (.putfield 63, 3) := by decide +kernel
theorem dX11_deny_5 : decode cX11_deny 5 = .ok (.iconst 0, 1) := by decide +kernel
theorem dX11_deny_6 : decode cX11_deny 6 = .ok (.ireturn, 1) := by decide +kernel
theorem dX12_init_0 : decode cX12_init 0 = .ok (.aload_n 0, 1) := by decide +kernel
theorem dX12_init_1 : decode cX12_init 1 = .ok (.invokespecial 1, 3) := by decide +kernel
theorem dX12_init_4 : decode cX12_init 4 = .ok (.aload_n 0, 1) := by decide +kernel
theorem dX12_init_5 : decode cX12_init 5 = .ok (.sipush 2000, 3) := by decide +kernel
theorem dX12_init_8 : decode cX12_init 8 = .ok (.newarray .int, 2) := by decide +kernel
theorem dX12_init_10 : decode cX12_init 10 = .ok (.putfield 7, 3) := by decide +kernel
theorem dX12_init_13 : decode cX12_init 13 = .ok (.aload_n 0, 1) := by decide +kernel
theorem dX12_init_14 : decode cX12_init 14 = .ok (.sipush 260, 3) := by decide +kernel
theorem dX12_init_17 : decode cX12_init 17 = .ok (.newarray .long, 2) := by decide +kernel
theorem dX12_init_19 : decode cX12_init 19 = .ok (.putfield 13, 3) := by decide +kernel
theorem dX12_init_22 : decode cX12_init 22 = .ok (.aload_n 0, 1) := by decide +kernel
theorem dX12_init_23 : decode cX12_init 23 = .ok (.sipush 220, 3) := by decide +kernel
theorem dX12_init_26 : decode cX12_init 26 = .ok (.newarray .long, 2) := by decide +kernel
theorem dX12_init_28 : decode cX12_init 28 = .ok (.putfield 17, 3) := by decide +kernel
theorem dX12_init_31 : decode cX12_init 31 = .ok (.aload_n 0, 1) := by decide +kernel
theorem dX12_init_32 : decode cX12_init 32 = .ok (.lconst 1, 1) := by decide +kernel
theorem dX12_init_33 : decode cX12_init 33 = .ok (.putfield 20, 3) := by decide +kernel
theorem dX12_init_36 : decode cX12_init 36 = .ok (.aload_n 0, 1) := by decide +kernel
theorem dX12_init_37 : decode cX12_init 37 = .ok (.iconst 4, 1) := by decide +kernel
theorem dX12_init_38 : decode cX12_init 38 = .ok (.newarray .int, 2) := by decide +kernel
theorem dX12_init_40 : decode cX12_init 40 = .ok (.putfield 24, 3) := by decide +kernel
theorem dX12_init_43 : decode cX12_init 43 = .ok (.aload_n 0, 1) := by decide +kernel
theorem dX12_init_44 : decode cX12_init 44 = .ok (.iconst 4, 1) := by decide +kernel
theorem dX12_init_45 : decode cX12_init 45 = .ok (.newarray .int, 2) := by decide +kernel
theorem dX12_init_47 : decode cX12_init 47 = .ok (.dup, 1) := by decide +kernel
theorem dX12_init_48 : decode cX12_init 48 = .ok (.iconst 0, 1) := by decide +kernel
theorem dX12_init_49 : decode cX12_init 49 = .ok (.iconst (-1), 1) := by decide +kernel
theorem dX12_init_50 : decode cX12_init 50 = .ok (.iastore, 1) := by decide +kernel
theorem dX12_init_51 : decode cX12_init 51 = .ok (.dup, 1) := by decide +kernel
theorem dX12_init_52 : decode cX12_init 52 = .ok (.iconst 1, 1) := by decide +kernel
theorem dX12_init_53 : decode cX12_init 53 = .ok (.iconst (-1), 1) := by decide +kernel
theorem dX12_init_54 : decode cX12_init 54 = .ok (.iastore, 1) := by decide +kernel
theorem dX12_init_55 : decode cX12_init 55 = .ok (.dup, 1) := by decide +kernel
theorem dX12_init_56 : decode cX12_init 56 = .ok (.iconst 2, 1) := by decide +kernel
theorem dX12_init_57 : decode cX12_init 57 = .ok (.iconst (-1), 1) := by decide +kernel
theorem dX12_init_58 : decode cX12_init 58 = .ok (.iastore, 1) := by decide +kernel
theorem dX12_init_59 : decode cX12_init 59 = .ok (.dup, 1) := by decide +kernel
theorem dX12_init_60 : decode cX12_init 60 = .ok (.iconst 3, 1) := by decide +kernel
theorem dX12_init_61 : decode cX12_init 61 = .ok (.iconst (-1), 1) := by decide +kernel
theorem dX12_init_62 : decode cX12_init 62 = .ok (.iastore, 1) := by decide +kernel
theorem dX12_init_63 : decode cX12_init 63 = .ok (.putfield 27, 3) := by decide +kernel
theorem dX12_init_66 : decode cX12_init 66 = .ok (.aload_n 0, 1) := by decide +kernel
theorem dX12_init_67 : decode cX12_init 67 = .ok (.sipush 240, 3) := by decide +kernel
theorem dX12_init_70 : decode cX12_init 70 = .ok (.newarray .long, 2) := by decide +kernel
theorem dX12_init_72 : decode cX12_init 72 = .ok (.putfield 30, 3) := by decide +kernel
theorem dX12_init_75 : decode cX12_init 75 = .ok (.aload_n 0, 1) := by decide +kernel
theorem dX12_init_76 : decode cX12_init 76 = .ok (.sipush 900, 3) := by decide +kernel
theorem dX12_init_79 : decode cX12_init 79 = .ok (.newarray .byte, 2) := by decide +kernel
theorem dX12_init_81 : decode cX12_init 81 = .ok (.putfield 33, 3) := by decide +kernel
theorem dX12_init_84 : decode cX12_init 84 = .ok (.aload_n 0, 1) := by decide +kernel
theorem dX12_init_85 : decode cX12_init 85 = .ok (.sipush 900, 3) := by decide +kernel
theorem dX12_init_88 : decode cX12_init 88 = .ok (.newarray .byte, 2) := by decide +kernel
theorem dX12_init_90 : decode cX12_init 90 = .ok (.putfield 37, 3) := by decide +kernel
theorem dX12_init_93 : decode cX12_init 93 = .ok (.aload_n 0, 1) := by decide +kernel
theorem dX12_init_94 : decode cX12_init 94 = .ok (.iconst (-1), 1) := by decide +kernel
theorem dX12_init_95 : decode cX12_init 95 = .ok (.putfield 40, 3) := by decide +kernel
theorem dX12_init_98 : decode cX12_init 98 = .ok (.aload_n 0, 1) := by decide +kernel
theorem dX12_init_99 : decode cX12_init 99 = .ok (.iconst (-1), 1) := by decide +kernel
theorem dX12_init_100 : decode cX12_init 100 = .ok (.putfield 44, 3) := by decide +kernel
theorem dX12_init_103 : decode cX12_init 103 = .ok (.aload_n 0, 1) := by decide +kernel
theorem dX12_init_104 : decode cX12_init 104 = .ok (.bipush 24, 2) := by decide +kernel
theorem dX12_init_106 : decode cX12_init 106 = .ok (.newarray .int, 2) := by decide +kernel
theorem dX12_init_108 : decode cX12_init 108 = .ok (.putfield 47, 3) := by decide +kernel
theorem dX12_init_111 : decode cX12_init 111 = .ok (.aload_n 0, 1) := by decide +kernel
theorem dX12_init_112 : decode cX12_init 112 = .ok (.sipush 240, 3) := by decide +kernel
theorem dX12_init_115 : decode cX12_init 115 = .ok (.newarray .long, 2) := by decide +kernel
theorem dX12_init_117 : decode cX12_init 117 = .ok (.putfield 50, 3) := by decide +kernel
theorem dX12_init_120 : decode cX12_init 120 = .ok (.aload_n 0, 1) := by decide +kernel
theorem dX12_init_121 : decode cX12_init 121 = .ok (.bipush 100, 2) := by decide +kernel
theorem dX12_init_123 : decode cX12_init 123 = .ok (.newarray .int, 2) := by decide +kernel
theorem dX12_init_125 : decode cX12_init 125 = .ok (.putfield 53, 3) := by decide +kernel
theorem dX12_init_128 : decode cX12_init 128 = .ok (.aload_n 0, 1) := by decide +kernel
theorem dX12_init_129 : decode cX12_init 129 = .ok (.iconst 3, 1) := by decide +kernel
theorem dX12_init_130 : decode cX12_init 130 = .ok (.newarray .int, 2) := by decide +kernel
theorem dX12_init_132 : decode cX12_init 132 = .ok (.putfield 56, 3) := by decide +kernel
theorem dX12_init_135 : decode cX12_init 135 = .ok (.aload_n 0, 1) := by decide +kernel
theorem dX12_init_136 : decode cX12_init 136 = .ok (.ldc 59, 2) := by decide +kernel
theorem dX12_init_138 : decode cX12_init 138 = .ok (.newarray .int, 2) := by decide +kernel
theorem dX12_init_140 : decode cX12_init 140 = .ok (.putfield 60, 3) := by decide +kernel
theorem dX12_init_143 : decode cX12_init 143 = .ok (.aload_n 0, 1) := by decide +kernel
theorem dX12_init_144 : decode cX12_init 144 = .ok (.iconst 4, 1) := by decide +kernel
theorem dX12_init_145 : decode cX12_init 145 = .ok (.newarray .long, 2) := by decide +kernel
theorem dX12_init_147 : decode cX12_init 147 = .ok (.putfield 63, 3) := by decide +kernel
theorem dX12_init_150 : decode cX12_init 150 = .ok (.aload_n 0, 1) := by decide +kernel
theorem dX12_init_151 : decode cX12_init 151 = .ok (.iconst 4, 1) := by decide +kernel
theorem dX12_init_152 : decode cX12_init 152 = .ok (.newarray .long, 2) := by decide +kernel
theorem dX12_init_154 : decode cX12_init 154 = .ok (.putfield 66, 3) := by decide +kernel
theorem dX12_init_157 : decode cX12_init 157 = .ok (.aload_n 0, 1) := by decide +kernel
theorem dX12_init_158 : decode cX12_init 158 = .ok (.sipush 4096, 3) := by decide +kernel
theorem dX12_init_161 : decode cX12_init 161 = .ok (.newarray .int, 2) := by decide +kernel
theorem dX12_init_163 : decode cX12_init 163 = .ok (.putfield 69, 3) := by decide +kernel
theorem dX12_init_166 : decode cX12_init 166 = .ok (.aload_n 0, 1) := by decide +kernel
theorem dX12_init_167 : decode cX12_init 167 = .ok (.bipush 48, 2) := by decide +kernel
theorem dX12_init_169 : decode cX12_init 169 = .ok (.newarray .boolean, 2) := by decide +kernel
theorem dX12_init_171 : decode cX12_init 171 = .ok (.putfield 72, 3) := by decide +kernel
theorem dX12_init_174 : decode cX12_init 174 = .ok (.aload_n 0, 1) := by decide +kernel
theorem dX12_init_175 : decode cX12_init 175 = .ok (.sipush 3072, 3) := by decide +kernel
theorem dX12_init_178 : decode cX12_init 178 = .ok (.newarray .int, 2) := by decide +kernel
theorem dX12_init_180 : decode cX12_init 180 = .ok (.putfield 76, 3) := by decide +kernel
theorem dX12_init_183 : decode cX12_init 183 = .ok (.aload_n 0, 1) := by decide +kernel
theorem dX12_init_184 : decode cX12_init 184 = .ok (.iconst (-1), 1) := by decide +kernel
theorem dX12_init_185 : decode cX12_init 185 = .ok (.putfield 79, 3) := by decide +kernel
theorem dX12_init_188 : decode cX12_init 188 = .ok (.aload_n 0, 1) := by decide +kernel
theorem dX12_init_189 : decode cX12_init 189 = .ok (.iconst 4, 1) := by decide +kernel
theorem dX12_init_190 : decode cX12_init 190 = .ok (.newarray .int, 2) := by decide +kernel
theorem dX12_init_192 : decode cX12_init 192 = .ok (.putfield 82, 3) := by decide +kernel
theorem dX12_init_195 : decode cX12_init 195 = .ok (.aload_n 0, 1) := by decide +kernel
theorem dX12_init_196 : decode cX12_init 196 = .ok (.bipush 48, 2) := by decide +kernel
theorem dX12_init_198 : decode cX12_init 198 = .ok (.newarray .int, 2) := by decide +kernel
theorem dX12_init_200 : decode cX12_init 200 = .ok (.putfield 85, 3) := by decide +kernel
theorem dX12_init_203 : decode cX12_init 203 = .ok (.aload_n 0, 1) := by decide +kernel
theorem dX12_init_204 : decode cX12_init 204 = .ok (.bipush 6, 2) := by decide +kernel
theorem dX12_init_206 : decode cX12_init 206 = .ok (.newarray .int, 2) := by decide +kernel
theorem dX12_init_208 : decode cX12_init 208 = .ok (.putfield 88, 3) := by decide +kernel
theorem dX12_init_211 : decode cX12_init 211 = .ok (.aload_n 0, 1) := by decide +kernel
theorem dX12_init_212 : decode cX12_init 212 = .ok (.bipush 6, 2) := by decide +kernel
theorem dX12_init_214 : decode cX12_init 214 = .ok (.newarray .int, 2) := by decide +kernel
theorem dX12_init_216 : decode cX12_init 216 = .ok (.putfield 91, 3) := by decide +kernel
theorem dX12_init_219 : decode cX12_init 219 = .ok (.aload_n 0, 1) := by decide +kernel
theorem dX12_init_220 : decode cX12_init 220 = .ok (.invokevirtual 94, 3) := by decide +kernel
theorem dX12_init_223 : decode cX12_init 223 = .ok (.aload_n 0, 1) := by decide +kernel
theorem dX12_init_224 : decode cX12_init 224 = .ok (.invokevirtual 97, 3) := by decide +kernel
theorem dX12_init_227 : decode cX12_init 227 = .ok (.return_, 1) := by decide +kernel
theorem dX12_asNew_0 : decode cX12_asNew 0 = .ok (.iconst 0, 1) := by decide +kernel
theorem dX12_asNew_1 : decode cX12_asNew 1 = .ok (.istore_n 1, 1) := by decide +kernel
theorem dX12_asNew_2 : decode cX12_asNew 2 = .ok (.iload_n 1, 1) := by decide +kernel
theorem dX12_asNew_3 : decode cX12_asNew 3 = .ok (.sipush 400, 3) := by decide +kernel
theorem dX12_asNew_6 : decode cX12_asNew 6 = .ok (.if_icmp .ge 20, 3) := by decide +kernel
theorem dX12_asNew_9 : decode cX12_asNew 9 = .ok (.aload_n 0, 1) := by decide +kernel
theorem dX12_asNew_10 : decode cX12_asNew 10 = .ok (.getfield 7, 3) := by decide +kernel
theorem dX12_asNew_13 : decode cX12_asNew 13 = .ok (.sipush 1600, 3) := by decide +kernel
theorem dX12_asNew_16 : decode cX12_asNew 16 = .ok (.iload_n 1, 1) := by decide +kernel
theorem dX12_asNew_17 : decode cX12_asNew 17 = .ok (.iadd, 1) := by decide +kernel
theorem dX12_asNew_18 : decode cX12_asNew 18 = .ok (.iconst 0, 1) := by decide +kernel
theorem dX12_asNew_19 : decode cX12_asNew 19 = .ok (.iastore, 1) := by decide +kernel
theorem dX12_asNew_20 : decode cX12_asNew 20 = .ok (.iinc 1 1, 3) := by decide +kernel
theorem dX12_asNew_23 : decode cX12_asNew 23 = .ok (.goto (-21), 3) := by decide +kernel
theorem dX12_asNew_26 : decode cX12_asNew 26 = .ok (.iconst 0, 1) := by decide +kernel
theorem dX12_asNew_27 : decode cX12_asNew 27 = .ok (.istore_n 1, 1) := by decide +kernel
theorem dX12_asNew_28 : decode cX12_asNew 28 = .ok (.iload_n 1, 1) := by decide +kernel
theorem dX12_asNew_29 : decode cX12_asNew 29 = .ok (.bipush 52, 2) := by decide +kernel
theorem dX12_asNew_31 : decode cX12_asNew 31 = .ok (.if_icmp .ge 20, 3) := by decide +kernel
theorem dX12_asNew_34 : decode cX12_asNew 34 = .ok (.aload_n 0, 1) := by decide +kernel
theorem dX12_asNew_35 : decode cX12_asNew 35 = .ok (.getfield 13, 3) := by decide +kernel
theorem dX12_asNew_38 : decode cX12_asNew 38 = .ok (.sipush 208, 3) := by decide +kernel
theorem dX12_asNew_41 : decode cX12_asNew 41 = .ok (.iload_n 1, 1) := by decide +kernel
theorem dX12_asNew_42 : decode cX12_asNew 42 = .ok (.iadd, 1) := by decide +kernel
theorem dX12_asNew_43 : decode cX12_asNew 43 = .ok (.lconst 0, 1) := by decide +kernel
theorem dX12_asNew_44 : decode cX12_asNew 44 = .ok (.lastore, 1) := by decide +kernel
theorem dX12_asNew_45 : decode cX12_asNew 45 = .ok (.iinc 1 1, 3) := by decide +kernel
theorem dX12_asNew_48 : decode cX12_asNew 48 = .ok (.goto (-20), 3) := by decide +kernel
theorem dX12_asNew_51 : decode cX12_asNew 51 = .ok (.aload_n 0, 1) := by decide +kernel
theorem dX12_asNew_52 : decode cX12_asNew 52 = .ok (.getfield 7, 3) := by decide +kernel
theorem dX12_asNew_55 : decode cX12_asNew 55 = .ok (.sipush 1602, 3) := by decide +kernel
theorem dX12_asNew_58 : decode cX12_asNew 58 = .ok (.iconst 1, 1) := by decide +kernel
theorem dX12_asNew_59 : decode cX12_asNew 59 = .ok (.iastore, 1) := by decide +kernel
theorem dX12_asNew_60 : decode cX12_asNew 60 = .ok (.aload_n 0, 1) := by decide +kernel
theorem dX12_asNew_61 : decode cX12_asNew 61 = .ok (.getfield 7, 3) := by decide +kernel
theorem dX12_asNew_64 : decode cX12_asNew 64 = .ok (.sipush 1607, 3) := by decide +kernel
theorem dX12_asNew_67 : decode cX12_asNew 67 = .ok (.iconst (-1), 1) := by decide +kernel
theorem dX12_asNew_68 : decode cX12_asNew 68 = .ok (.iastore, 1) := by decide +kernel
theorem dX12_asNew_69 : decode cX12_asNew 69 = .ok (.aload_n 0, 1) := by decide +kernel
theorem dX12_asNew_70 : decode cX12_asNew 70 = .ok (.getfield 13, 3) := by decide +kernel
theorem dX12_asNew_73 : decode cX12_asNew 73 = .ok (.sipush 208, 3) := by decide +kernel
theorem dX12_asNew_76 : decode cX12_asNew 76 = .ok (.lconst 1, 1) := by decide +kernel
theorem dX12_asNew_77 : decode cX12_asNew 77 = .ok (.lastore, 1) := by decide +kernel
theorem dX12_asNew_78 : decode cX12_asNew 78 = .ok (.return_, 1) := by decide +kernel
theorem dX12_takes_0 : decode cX12_takes 0 = .ok (.iconst 0, 1) := by decide +kernel
theorem dX12_takes_1 : decode cX12_takes 1 = .ok (.istore_n 1, 1) := by decide +kernel
theorem dX12_takes_2 : decode cX12_takes 2 = .ok (.iload_n 1, 1) := by decide +kernel
theorem dX12_takes_3 : decode cX12_takes 3 = .ok (.sipush 400, 3) := by decide +kernel
theorem dX12_takes_6 : decode cX12_takes 6 = .ok (.if_icmp .ge 25, 3) := by decide +kernel
theorem dX12_takes_9 : decode cX12_takes 9 = .ok (.aload_n 0, 1) := by decide +kernel
theorem dX12_takes_10 : decode cX12_takes 10 = .ok (.getfield 7, 3) := by decide +kernel
theorem dX12_takes_13 : decode cX12_takes 13 = .ok (.iload_n 1, 1) := by decide +kernel
theorem dX12_takes_14 : decode cX12_takes 14 = .ok (.aload_n 0, 1) := by decide +kernel
theorem dX12_takes_15 : decode cX12_takes 15 = .ok (.getfield 7, 3) := by decide +kernel
theorem dX12_takes_18 : decode cX12_takes 18 = .ok (.sipush 1600, 3) := by decide +kernel
theorem dX12_takes_21 : decode cX12_takes 21 = .ok (.iload_n 1, 1) := by decide +kernel
theorem dX12_takes_22 : decode cX12_takes 22 = .ok (.iadd, 1) := by decide +kernel
theorem dX12_takes_23 : decode cX12_takes 23 = .ok (.iaload, 1) := by decide +kernel
theorem dX12_takes_24 : decode cX12_takes 24 = .ok (.iastore, 1) := by decide +kernel
theorem dX12_takes_25 : decode cX12_takes 25 = .ok (.iinc 1 1, 3) := by decide +kernel
theorem dX12_takes_28 : decode cX12_takes 28 = .ok (.goto (-26), 3) := by decide +kernel
theorem dX12_takes_31 : decode cX12_takes 31 = .ok (.iconst 0, 1) := by decide +kernel
theorem dX12_takes_32 : decode cX12_takes 32 = .ok (.istore_n 1, 1) := by decide +kernel
theorem dX12_takes_33 : decode cX12_takes 33 = .ok (.iload_n 1, 1) := by decide +kernel
theorem dX12_takes_34 : decode cX12_takes 34 = .ok (.bipush 52, 2) := by decide +kernel
theorem dX12_takes_36 : decode cX12_takes 36 = .ok (.if_icmp .ge 25, 3) := by decide +kernel
theorem dX12_takes_39 : decode cX12_takes 39 = .ok (.aload_n 0, 1) := by decide +kernel
theorem dX12_takes_40 : decode cX12_takes 40 = .ok (.getfield 13, 3) := by decide +kernel
theorem dX12_takes_43 : decode cX12_takes 43 = .ok (.iload_n 1, 1) := by decide +kernel
theorem dX12_takes_44 : decode cX12_takes 44 = .ok (.aload_n 0, 1) := by decide +kernel
theorem dX12_takes_45 : decode cX12_takes 45 = .ok (.getfield 13, 3) := by decide +kernel
theorem dX12_takes_48 : decode cX12_takes 48 = .ok (.sipush 208, 3) := by decide +kernel
theorem dX12_takes_51 : decode cX12_takes 51 = .ok (.iload_n 1, 1) := by decide +kernel
theorem dX12_takes_52 : decode cX12_takes 52 = .ok (.iadd, 1) := by decide +kernel
theorem dX12_takes_53 : decode cX12_takes 53 = .ok (.laload, 1) := by decide +kernel
theorem dX12_takes_54 : decode cX12_takes 54 = .ok (.lastore, 1) := by decide +kernel
theorem dX12_takes_55 : decode cX12_takes 55 = .ok (.iinc 1 1, 3) := by decide +kernel
theorem dX12_takes_58 : decode cX12_takes 58 = .ok (.goto (-25), 3) := by decide +kernel
theorem dX12_takes_61 : decode cX12_takes 61 = .ok (.iconst 0, 1) := by decide +kernel
theorem dX12_takes_62 : decode cX12_takes 62 = .ok (.istore_n 1, 1) := by decide +kernel
theorem dX12_takes_63 : decode cX12_takes 63 = .ok (.iload_n 1, 1) := by decide +kernel
theorem dX12_takes_64 : decode cX12_takes 64 = .ok (.bipush 44, 2) := by decide +kernel
theorem dX12_takes_66 : decode cX12_takes 66 = .ok (.if_icmp .ge 25, 3) := by decide +kernel
theorem dX12_takes_69 : decode cX12_takes 69 = .ok (.aload_n 0, 1) := by decide +kernel
theorem dX12_takes_70 : decode cX12_takes 70 = .ok (.getfield 17, 3) := by decide +kernel
theorem dX12_takes_73 : decode cX12_takes 73 = .ok (.iload_n 1, 1) := by decide +kernel
theorem dX12_takes_74 : decode cX12_takes 74 = .ok (.aload_n 0, 1) := by decide +kernel
theorem dX12_takes_75 : decode cX12_takes 75 = .ok (.getfield 17, 3) := by decide +kernel
theorem dX12_takes_78 : decode cX12_takes 78 = .ok (.sipush 176, 3) := by decide +kernel
theorem dX12_takes_81 : decode cX12_takes 81 = .ok (.iload_n 1, 1) := by decide +kernel
theorem dX12_takes_82 : decode cX12_takes 82 = .ok (.iadd, 1) := by decide +kernel
theorem dX12_takes_83 : decode cX12_takes 83 = .ok (.laload, 1) := by decide +kernel
theorem dX12_takes_84 : decode cX12_takes 84 = .ok (.lastore, 1) := by decide +kernel
theorem dX12_takes_85 : decode cX12_takes 85 = .ok (.iinc 1 1, 3) := by decide +kernel
theorem dX12_takes_88 : decode cX12_takes 88 = .ok (.goto (-25), 3) := by decide +kernel
theorem dX12_takes_91 : decode cX12_takes 91 = .ok (.aload_n 0, 1) := by decide +kernel
theorem dX12_takes_92 : decode cX12_takes 92 = .ok (.invokevirtual 100, 3) := by decide +kernel
theorem dX12_takes_95 : decode cX12_takes 95 = .ok (.return_, 1) := by decide +kernel
theorem dX12_status_0 : decode cX12_status 0 = .ok (.aload_n 0, 1) := by decide +kernel
theorem dX12_status_1 : decode cX12_status 1 = .ok (.getfield 103, 3) := by decide +kernel
theorem dX12_status_4 : decode cX12_status 4 = .ok (.ireturn, 1) := by decide +kernel
theorem dX12_top_0 : decode cX12_top 0 = .ok (.aload_n 0, 1) := by decide +kernel
theorem dX12_top_1 : decode cX12_top 1 = .ok (.getfield 106, 3) := by decide +kernel
theorem dX12_top_4 : decode cX12_top 4 = .ok (.lreturn, 1) := by decide +kernel
theorem dX12_bottom_0 : decode cX12_bottom 0 = .ok (.aload_n 0, 1) := by decide +kernel
theorem dX12_bottom_1 : decode cX12_bottom 1 = .ok (.getfield 20, 3) := by decide +kernel
theorem dX12_bottom_4 : decode cX12_bottom 4 = .ok (.lreturn, 1) := by decide +kernel
theorem dX12_is_0 : decode cX12_is 0 = .ok (.aload_n 0, 1) := by decide +kernel
theorem dX12_is_1 : decode cX12_is 1 = .ok (.iload_n 1, 1) := by decide +kernel
theorem dX12_is_2 : decode cX12_is 2 = .ok (.putfield 103, 3) := by decide +kernel
theorem dX12_is_5 : decode cX12_is 5 = .ok (.iload_n 1, 1) := by decide +kernel
theorem dX12_is_6 : decode cX12_is 6 = .ok (.ifCond .ne 7, 3) := by decide +kernel
theorem dX12_is_9 : decode cX12_is 9 = .ok (.iconst 1, 1) := by decide +kernel
theorem dX12_is_10 : decode cX12_is 10 = .ok (.goto 4, 3) := by decide +kernel
theorem dX12_is_13 : decode cX12_is 13 = .ok (.iconst 0, 1) := by decide +kernel
theorem dX12_is_14 : decode cX12_is 14 = .ok (.ireturn, 1) := by decide +kernel
theorem dX12_refuse_0 : decode cX12_refuse 0 = .ok (.aload_n 0, 1) := by decide +kernel
theorem dX12_refuse_1 : decode cX12_refuse 1 = .ok (.iload_n 1, 1) := by decide +kernel
theorem dX12_refuse_2 : decode cX12_refuse 2 = .ok (.putfield 103, 3) := by decide +kernel
theorem dX12_refuse_5 : decode cX12_refuse 5 = .ok (.iconst (-1), 1) := by decide +kernel
theorem dX12_refuse_6 : decode cX12_refuse 6 = .ok (.ireturn, 1) := by decide +kernel
theorem dX12_gives_0 : decode cX12_gives 0 = .ok (.aload_n 0, 1) := by decide +kernel
theorem dX12_gives_1 : decode cX12_gives 1 = .ok (.iconst 0, 1) := by decide +kernel
theorem dX12_gives_2 : decode cX12_gives 2 = .ok (.putfield 103, 3) := by decide +kernel
theorem dX12_gives_5 : decode cX12_gives 5 = .ok (.iload_n 1, 1) := by decide +kernel
theorem dX12_gives_6 : decode cX12_gives 6 = .ok (.ireturn, 1) := by decide +kernel
theorem dX12_tellsBy_0 : decode cX12_tellsBy 0 = .ok (.lload_n 1, 1) := by decide +kernel
theorem dX12_tellsBy_1 : decode cX12_tellsBy 1 = .ok (.lstore 5, 2) := by decide +kernel
theorem dX12_tellsBy_3 : decode cX12_tellsBy 3 = .ok (.lload_n 3, 1) := by decide +kernel
theorem dX12_tellsBy_4 : decode cX12_tellsBy 4 = .ok (.lstore 7, 2) := by decide +kernel
theorem dX12_tellsBy_6 : decode cX12_tellsBy 6 = .ok (.lload 7, 2) := by decide +kernel
theorem dX12_tellsBy_8 : decode cX12_tellsBy 8 = .ok (.lconst 0, 1) := by decide +kernel
theorem dX12_tellsBy_9 : decode cX12_tellsBy 9 = .ok (.lcmp, 1) := by decide +kernel
theorem dX12_tellsBy_10 : decode cX12_tellsBy 10 = .ok (.ifCond .eq 21, 3) := by decide +kernel
theorem dX12_tellsBy_13 : decode cX12_tellsBy 13 = .ok (.lload 5, 2) := by decide +kernel
theorem dX12_tellsBy_15 : decode cX12_tellsBy 15 = .ok (.lload 7, 2) := by decide +kernel
theorem dX12_tellsBy_17 : decode cX12_tellsBy 17 = .ok (.lrem, 1) := by decide +kernel
theorem dX12_tellsBy_18 : decode cX12_tellsBy 18 = .ok (.lstore 9, 2) := by decide +kernel
theorem dX12_tellsBy_20 : decode cX12_tellsBy 20 = .ok (.lload 7, 2) := by decide +kernel
theorem dX12_tellsBy_22 : decode cX12_tellsBy 22 = .ok (.lstore 5, 2) := by decide +kernel
theorem dX12_tellsBy_24 : decode cX12_tellsBy 24 = .ok (.lload 9, 2) := by decide +kernel
theorem dX12_tellsBy_26 : decode cX12_tellsBy 26 = .ok (.lstore 7, 2) := by decide +kernel
theorem dX12_tellsBy_28 : decode cX12_tellsBy 28 = .ok (.goto (-22), 3) := by decide +kernel
theorem dX12_tellsBy_31 : decode cX12_tellsBy 31 = .ok (.aload_n 0, 1) := by decide +kernel
theorem dX12_tellsBy_32 : decode cX12_tellsBy 32 = .ok (.lload_n 1, 1) := by decide +kernel
theorem dX12_tellsBy_33 : decode cX12_tellsBy 33 = .ok (.lload 5, 2) := by decide +kernel
theorem dX12_tellsBy_35 : decode cX12_tellsBy 35 = .ok (.ldiv, 1) := by decide +kernel
theorem dX12_tellsBy_36 : decode cX12_tellsBy 36 = .ok (.putfield 106, 3) := by decide +kernel
theorem dX12_tellsBy_39 : decode cX12_tellsBy 39 = .ok (.aload_n 0, 1) := by decide +kernel
theorem dX12_tellsBy_40 : decode cX12_tellsBy 40 = .ok (.lload_n 3, 1) := by decide +kernel
theorem dX12_tellsBy_41 : decode cX12_tellsBy 41 = .ok (.lload 5, 2) := by decide +kernel
theorem dX12_tellsBy_43 : decode cX12_tellsBy 43 = .ok (.ldiv, 1) := by decide +kernel
theorem dX12_tellsBy_44 : decode cX12_tellsBy 44 = .ok (.putfield 20, 3) := by decide +kernel
theorem dX12_tellsBy_47 : decode cX12_tellsBy 47 = .ok (.aload_n 0, 1) := by decide +kernel
theorem dX12_tellsBy_48 : decode cX12_tellsBy 48 = .ok (.iconst 0, 1) := by decide +kernel
theorem dX12_tellsBy_49 : decode cX12_tellsBy 49 = .ok (.invokevirtual 109, 3) := by decide +kernel
theorem dX12_tellsBy_52 : decode cX12_tellsBy 52 = .ok (.ireturn, 1) := by decide +kernel
theorem dX12_isTray_0 : decode cX12_isTray 0 = .ok (.iload_n 0, 1) := by decide +kernel
theorem dX12_isTray_1 : decode cX12_isTray 1 = .ok (.ifCond .lt 12, 3) := by decide +kernel
theorem dX12_isTray_4 : decode cX12_isTray 4 = .ok (.iload_n 0, 1) := by decide +kernel
theorem dX12_isTray_5 : decode cX12_isTray 5 = .ok (.iconst 4, 1) := by decide +kernel
theorem dX12_isTray_6 : decode cX12_isTray 6 = .ok (.if_icmp .ge 7, 3) := by decide +kernel
theorem dX12_isTray_9 : decode cX12_isTray 9 = .ok (.iconst 1, 1) := by decide +kernel
theorem dX12_isTray_10 : decode cX12_isTray 10 = .ok (.goto 4, 3) := by decide +kernel
theorem dX12_isTray_13 : decode cX12_isTray 13 = .ok (.iconst 0, 1) := by decide +kernel
theorem dX12_isTray_14 : decode cX12_isTray 14 = .ok (.ireturn, 1) := by decide +kernel
theorem dX12_cut_0 : decode cX12_cut 0 = .ok (.iload_n 2, 1) := by decide +kernel
theorem dX12_cut_1 : decode cX12_cut 1 = .ok (.ifCond .ne 10, 3) := by decide +kernel
theorem dX12_cut_4 : decode cX12_cut 4 = .ok (.lload_n 0, 1) := by decide +kernel
theorem dX12_cut_5 : decode cX12_cut 5 = .ok (.l2i, 1) := by decide +kernel
theorem dX12_cut_6 : decode cX12_cut 6 = .ok (.i2b, 1) := by decide +kernel
theorem dX12_cut_7 : decode cX12_cut 7 = .ok (.i2l, 1) := by decide +kernel
theorem dX12_cut_8 : decode cX12_cut 8 = .ok (.goto 27, 3) := by decide +kernel
theorem dX12_cut_11 : decode cX12_cut 11 = .ok (.iload_n 2, 1) := by decide +kernel
theorem dX12_cut_12 : decode cX12_cut 12 = .ok (.iconst 1, 1) := by decide +kernel
theorem dX12_cut_13 : decode cX12_cut 13 = .ok (.if_icmp .ne 10, 3) := by decide +kernel
theorem dX12_cut_16 : decode cX12_cut 16 = .ok (.lload_n 0, 1) := by decide +kernel
theorem dX12_cut_17 : decode cX12_cut 17 = .ok (.l2i, 1) := by decide +kernel
theorem dX12_cut_18 : decode cX12_cut 18 = .ok (.i2s, 1) := by decide +kernel
theorem dX12_cut_19 : decode cX12_cut 19 = .ok (.i2l, 1) := by decide +kernel
theorem dX12_cut_20 : decode cX12_cut 20 = .ok (.goto 15, 3) := by decide +kernel
theorem dX12_cut_23 : decode cX12_cut 23 = .ok (.iload_n 2, 1) := by decide +kernel
theorem dX12_cut_24 : decode cX12_cut 24 = .ok (.iconst 2, 1) := by decide +kernel
theorem dX12_cut_25 : decode cX12_cut 25 = .ok (.if_icmp .ne 9, 3) := by decide +kernel
theorem dX12_cut_28 : decode cX12_cut 28 = .ok (.lload_n 0, 1) := by decide +kernel
theorem dX12_cut_29 : decode cX12_cut 29 = .ok (.l2i, 1) := by decide +kernel
theorem dX12_cut_30 : decode cX12_cut 30 = .ok (.i2l, 1) := by decide +kernel
theorem dX12_cut_31 : decode cX12_cut 31 = .ok (.goto 4, 3) := by decide +kernel
theorem dX12_cut_34 : decode cX12_cut 34 = .ok (.lload_n 0, 1) := by decide +kernel
theorem dX12_cut_35 : decode cX12_cut 35 = .ok (.lreturn, 1) := by decide +kernel
theorem dX12_tray_0 : decode cX12_tray 0 = .ok (.iload_n 1, 1) := by decide +kernel
theorem dX12_tray_1 : decode cX12_tray 1 = .ok (.invokestatic 113, 3) := by decide +kernel
theorem dX12_tray_4 : decode cX12_tray 4 = .ok (.ifCond .eq 22, 3) := by decide +kernel
theorem dX12_tray_7 : decode cX12_tray 7 = .ok (.iload_n 2, 1) := by decide +kernel
theorem dX12_tray_8 : decode cX12_tray 8 = .ok (.ifCond .lt 18, 3) := by decide +kernel
theorem dX12_tray_11 : decode cX12_tray 11 = .ok (.iload_n 2, 1) := by decide +kernel
theorem dX12_tray_12 : decode cX12_tray 12 = .ok (.iconst 3, 1) := by decide +kernel
theorem dX12_tray_13 : decode cX12_tray 13 = .ok (.if_icmp .gt 13, 3) := by decide +kernel
theorem dX12_tray_16 : decode cX12_tray 16 = .ok (.iload_n 3, 1) := by decide +kernel
theorem dX12_tray_17 : decode cX12_tray 17 = .ok (.ifCond .lt 9, 3) := by decide +kernel
theorem dX12_tray_20 : decode cX12_tray 20 = .ok (.iload_n 3, 1) := by decide +kernel
theorem dX12_tray_21 : decode cX12_tray 21 = .ok (.bipush 60, 2) := by decide +kernel
theorem dX12_tray_23 : decode cX12_tray 23 = .ok (.if_icmp .le 9, 3) := by decide +kernel
theorem dX12_tray_26 : decode cX12_tray 26 = .ok (.aload_n 0, 1) := by decide +kernel
theorem dX12_tray_27 : decode cX12_tray 27 = .ok (.iconst 1, 1) := by decide +kernel
theorem dX12_tray_28 : decode cX12_tray 28 = .ok (.invokevirtual 109, 3) := by decide +kernel
theorem dX12_tray_31 : decode cX12_tray 31 = .ok (.ireturn, 1) := by decide +kernel
theorem dX12_tray_32 : decode cX12_tray 32 = .ok (.aload_n 0, 1) := by decide +kernel
theorem dX12_tray_33 : decode cX12_tray 33 = .ok (.getfield 24, 3) := by decide +kernel
theorem dX12_tray_36 : decode cX12_tray 36 = .ok (.iload_n 1, 1) := by decide +kernel
theorem dX12_tray_37 : decode cX12_tray 37 = .ok (.iload_n 2, 1) := by decide +kernel
theorem dX12_tray_38 : decode cX12_tray 38 = .ok (.iastore, 1) := by decide +kernel
theorem dX12_tray_39 : decode cX12_tray 39 = .ok (.aload_n 0, 1) := by decide +kernel
theorem dX12_tray_40 : decode cX12_tray 40 = .ok (.getfield 27, 3) := by decide +kernel
theorem dX12_tray_43 : decode cX12_tray 43 = .ok (.iload_n 1, 1) := by decide +kernel
theorem dX12_tray_44 : decode cX12_tray 44 = .ok (.iload_n 3, 1) := by decide +kernel
theorem dX12_tray_45 : decode cX12_tray 45 = .ok (.iastore, 1) := by decide +kernel
theorem dX12_tray_46 : decode cX12_tray 46 = .ok (.iconst 0, 1) := by decide +kernel
theorem dX12_tray_47 : decode cX12_tray 47 = .ok (.istore 4, 2) := by decide +kernel
theorem dX12_tray_49 : decode cX12_tray 49 = .ok (.iload 4, 2) := by decide +kernel
theorem dX12_tray_51 : decode cX12_tray 51 = .ok (.iload_n 3, 1) := by decide +kernel
theorem dX12_tray_52 : decode cX12_tray 52 = .ok (.if_icmp .ge 22, 3) := by decide +kernel
theorem dX12_tray_55 : decode cX12_tray 55 = .ok (.aload_n 0, 1) := by decide +kernel
theorem dX12_tray_56 : decode cX12_tray 56 = .ok (.getfield 30, 3) := by decide +kernel
theorem dX12_tray_59 : decode cX12_tray 59 = .ok (.bipush 60, 2) := by decide +kernel
theorem dX12_tray_61 : decode cX12_tray 61 = .ok (.iload_n 1, 1) := by decide +kernel
theorem dX12_tray_62 : decode cX12_tray 62 = .ok (.imul, 1) := by decide +kernel
theorem dX12_tray_63 : decode cX12_tray 63 = .ok (.iload 4, 2) := by decide +kernel
theorem dX12_tray_65 : decode cX12_tray 65 = .ok (.iadd, 1) := by decide +kernel
theorem dX12_tray_66 : decode cX12_tray 66 = .ok (.lconst 0, 1) := by decide +kernel
theorem dX12_tray_67 : decode cX12_tray 67 = .ok (.lastore, 1) := by decide +kernel
theorem dX12_tray_68 : decode cX12_tray 68 = .ok (.iinc 4 1, 3) := by decide +kernel
theorem dX12_tray_71 : decode cX12_tray 71 = .ok (.goto (-22), 3) := by decide +kernel
theorem dX12_tray_74 : decode cX12_tray 74 = .ok (.aload_n 0, 1) := by decide +kernel
theorem dX12_tray_75 : decode cX12_tray 75 = .ok (.iconst 0, 1) := by decide +kernel
theorem dX12_tray_76 : decode cX12_tray 76 = .ok (.invokevirtual 109, 3) := by decide +kernel
theorem dX12_tray_79 : decode cX12_tray 79 = .ok (.ireturn, 1) := by decide +kernel
theorem dX12_wrongPlace_0 : decode cX12_wrongPlace 0 = .ok (.iload_n 1, 1) := by decide +kernel
theorem dX12_wrongPlace_1 : decode cX12_wrongPlace 1 = .ok (.invokestatic 113, 3) := by decide +kernel
theorem dX12_wrongPlace_4 : decode cX12_wrongPlace 4 = .ok (.ifCond .ne 7, 3) := by decide +kernel
theorem dX12_wrongPlace_7 : decode cX12_wrongPlace 7 = .ok (.iconst 1, 1) := by decide +kernel
theorem dX12_wrongPlace_8 : decode cX12_wrongPlace 8 = .ok (.goto 36, 3) := by decide +kernel
theorem dX12_wrongPlace_11 : decode cX12_wrongPlace 11 = .ok (.aload_n 0, 1) := by decide +kernel
theorem dX12_wrongPlace_12 : decode cX12_wrongPlace 12 = .ok (.getfield 27, 3) := by decide +kernel
theorem dX12_wrongPlace_15 : decode cX12_wrongPlace 15 = .ok (.iload_n 1, 1) := by decide +kernel
theorem dX12_wrongPlace_16 : decode cX12_wrongPlace 16 = .ok (.iaload, 1) := by decide +kernel
theorem dX12_wrongPlace_17 : decode cX12_wrongPlace 17 = .ok (.iconst (-1), 1) := by decide +kernel
theorem dX12_wrongPlace_18 : decode cX12_wrongPlace 18 = .ok (.if_icmp .ne 7, 3) := by decide +kernel
theorem dX12_wrongPlace_21 : decode cX12_wrongPlace 21 = .ok (.iconst 2, 1) := by decide +kernel
theorem dX12_wrongPlace_22 : decode cX12_wrongPlace 22 = .ok (.goto 22, 3) := by decide +kernel
theorem dX12_wrongPlace_25 : decode cX12_wrongPlace 25 = .ok (.iload_n 2, 1) := by decide +kernel
theorem dX12_wrongPlace_26 : decode cX12_wrongPlace 26 = .ok (.ifCond .lt 13, 3) := by decide +kernel
theorem dX12_wrongPlace_29 : decode cX12_wrongPlace 29 = .ok (.iload_n 2, 1) := by decide +kernel
theorem dX12_wrongPlace_30 : decode cX12_wrongPlace 30 = .ok (.aload_n 0, 1) := by decide +kernel
theorem dX12_wrongPlace_31 : decode cX12_wrongPlace 31 = .ok (.getfield 27, 3) := by decide +kernel
theorem dX12_wrongPlace_34 : decode cX12_wrongPlace 34 = .ok (.iload_n 1, 1) := by decide +kernel
theorem dX12_wrongPlace_35 : decode cX12_wrongPlace 35 = .ok (.iaload, 1) := by decide +kernel
theorem dX12_wrongPlace_36 : decode cX12_wrongPlace 36 = .ok (.if_icmp .lt 7, 3) := by decide +kernel
theorem dX12_wrongPlace_39 : decode cX12_wrongPlace 39 = .ok (.iconst 3, 1) := by decide +kernel
theorem dX12_wrongPlace_40 : decode cX12_wrongPlace 40 = .ok (.goto 4, 3) := by decide +kernel
theorem dX12_wrongPlace_43 : decode cX12_wrongPlace 43 = .ok (.iconst 0, 1) := by decide +kernel
theorem dX12_wrongPlace_44 : decode cX12_wrongPlace 44 = .ok (.ireturn, 1) := by decide +kernel
theorem dX12_write_0 : decode cX12_write 0 = .ok (.aload_n 0, 1) := by decide +kernel
theorem dX12_write_1 : decode cX12_write 1 = .ok (.iload_n 1, 1) := by decide +kernel
theorem dX12_write_2 : decode cX12_write 2 = .ok (.iload_n 2, 1) := by decide +kernel
theorem dX12_write_3 : decode cX12_write 3 = .ok (.invokevirtual 116, 3) := by decide +kernel
theorem dX12_write_6 : decode cX12_write 6 = .ok (.istore 5, 2) := by decide +kernel
theorem dX12_write_8 : decode cX12_write 8 = .ok (.iload 5, 2) := by decide +kernel
theorem dX12_write_10 : decode cX12_write 10 = .ok (.ifCond .ne 24, 3) := by decide +kernel
theorem dX12_write_13 : decode cX12_write 13 = .ok (.aload_n 0, 1) := by decide +kernel
theorem dX12_write_14 : decode cX12_write 14 = .ok (.getfield 30, 3) := by decide +kernel
theorem dX12_write_17 : decode cX12_write 17 = .ok (.bipush 60, 2) := by decide +kernel
theorem dX12_write_19 : decode cX12_write 19 = .ok (.iload_n 1, 1) := by decide +kernel
theorem dX12_write_20 : decode cX12_write 20 = .ok (.imul, 1) := by decide +kernel
theorem dX12_write_21 : decode cX12_write 21 = .ok (.iload_n 2, 1) := by decide +kernel
theorem dX12_write_22 : decode cX12_write 22 = .ok (.iadd, 1) := by decide +kernel
theorem dX12_write_23 : decode cX12_write 23 = .ok (.lload_n 3, 1) := by decide +kernel
theorem dX12_write_24 : decode cX12_write 24 = .ok (.aload_n 0, 1) := by decide +kernel
theorem dX12_write_25 : decode cX12_write 25 = .ok (.getfield 24, 3) := by decide +kernel
theorem dX12_write_28 : decode cX12_write 28 = .ok (.iload_n 1, 1) := by decide +kernel
theorem dX12_write_29 : decode cX12_write 29 = .ok (.iaload, 1) := by decide +kernel
theorem dX12_write_30 : decode cX12_write 30 = .ok (.invokestatic 120, 3) := by decide +kernel
theorem dX12_write_33 : decode cX12_write 33 = .ok (.lastore, 1) := by decide +kernel
theorem dX12_write_34 : decode cX12_write 34 = .ok (.aload_n 0, 1) := by decide +kernel
theorem dX12_write_35 : decode cX12_write 35 = .ok (.iload 5, 2) := by decide +kernel
theorem dX12_write_37 : decode cX12_write 37 = .ok (.invokevirtual 109, 3) := by decide +kernel
theorem dX12_write_40 : decode cX12_write 40 = .ok (.ireturn, 1) := by decide +kernel
theorem dX12_read_0 : decode cX12_read 0 = .ok (.aload_n 0, 1) := by decide +kernel
theorem dX12_read_1 : decode cX12_read 1 = .ok (.aload_n 0, 1) := by decide +kernel
theorem dX12_read_2 : decode cX12_read 2 = .ok (.iload_n 1, 1) := by decide +kernel
theorem dX12_read_3 : decode cX12_read 3 = .ok (.iload_n 2, 1) := by decide +kernel
theorem dX12_read_4 : decode cX12_read 4 = .ok (.invokevirtual 116, 3) := by decide +kernel
theorem dX12_read_7 : decode cX12_read 7 = .ok (.putfield 103, 3) := by decide +kernel
theorem dX12_read_10 : decode cX12_read 10 = .ok (.aload_n 0, 1) := by decide +kernel
theorem dX12_read_11 : decode cX12_read 11 = .ok (.getfield 103, 3) := by decide +kernel
theorem dX12_read_14 : decode cX12_read 14 = .ok (.ifCond .le 9, 3) := by decide +kernel
theorem dX12_read_17 : decode cX12_read 17 = .ok (.ldc2_w 124, 3) := by decide +kernel
theorem dX12_read_20 : decode cX12_read 20 = .ok (.goto 14, 3) := by decide +kernel
theorem dX12_read_23 : decode cX12_read 23 = .ok (.aload_n 0, 1) := by decide +kernel
theorem dX12_read_24 : decode cX12_read 24 = .ok (.getfield 30, 3) := by decide +kernel
theorem dX12_read_27 : decode cX12_read 27 = .ok (.bipush 60, 2) := by decide +kernel
theorem dX12_read_29 : decode cX12_read 29 = .ok (.iload_n 1, 1) := by decide +kernel
theorem dX12_read_30 : decode cX12_read 30 = .ok (.imul, 1) := by decide +kernel
theorem dX12_read_31 : decode cX12_read 31 = .ok (.iload_n 2, 1) := by decide +kernel
theorem dX12_read_32 : decode cX12_read 32 = .ok (.iadd, 1) := by decide +kernel
theorem dX12_read_33 : decode cX12_read 33 = .ok (.laload, 1) := by decide +kernel
theorem dX12_read_34 : decode cX12_read 34 = .ok (.lreturn, 1) := by decide +kernel
theorem dX12_pour_0 : decode cX12_pour 0 = .ok (.iload_n 1, 1) := by decide +kernel
theorem dX12_pour_1 : decode cX12_pour 1 = .ok (.invokestatic 113, 3) := by decide +kernel
theorem dX12_pour_4 : decode cX12_pour 4 = .ok (.ifCond .eq 24, 3) := by decide +kernel
theorem dX12_pour_7 : decode cX12_pour 7 = .ok (.iload_n 3, 1) := by decide +kernel
theorem dX12_pour_8 : decode cX12_pour 8 = .ok (.invokestatic 113, 3) := by decide +kernel
theorem dX12_pour_11 : decode cX12_pour 11 = .ok (.ifCond .eq 17, 3) := by decide +kernel
theorem dX12_pour_14 : decode cX12_pour 14 = .ok (.iload_n 2, 1) := by decide +kernel
theorem dX12_pour_15 : decode cX12_pour 15 = .ok (.ifCond .lt 13, 3) := by decide +kernel
theorem dX12_pour_18 : decode cX12_pour 18 = .ok (.iload 4, 2) := by decide +kernel
theorem dX12_pour_20 : decode cX12_pour 20 = .ok (.ifCond .lt 8, 3) := by decide +kernel
theorem dX12_pour_23 : decode cX12_pour 23 = .ok (.iload 5, 2) := by decide +kernel
theorem dX12_pour_25 : decode cX12_pour 25 = .ok (.ifCond .ge 9, 3) := by decide +kernel
theorem dX12_pour_28 : decode cX12_pour 28 = .ok (.aload_n 0, 1) := by decide +kernel
theorem dX12_pour_29 : decode cX12_pour 29 = .ok (.iconst 1, 1) := by decide +kernel
theorem dX12_pour_30 : decode cX12_pour 30 = .ok (.invokevirtual 109, 3) := by decide +kernel
theorem dX12_pour_33 : decode cX12_pour 33 = .ok (.ireturn, 1) := by decide +kernel
theorem dX12_pour_34 : decode cX12_pour 34 = .ok (.aload_n 0, 1) := by decide +kernel
theorem dX12_pour_35 : decode cX12_pour 35 = .ok (.getfield 27, 3) := by decide +kernel
theorem dX12_pour_38 : decode cX12_pour 38 = .ok (.iload_n 1, 1) := by decide +kernel
theorem dX12_pour_39 : decode cX12_pour 39 = .ok (.iaload, 1) := by decide +kernel
theorem dX12_pour_40 : decode cX12_pour 40 = .ok (.iconst (-1), 1) := by decide +kernel
theorem dX12_pour_41 : decode cX12_pour 41 = .ok (.if_icmp .eq 13, 3) := by decide +kernel
theorem dX12_pour_44 : decode cX12_pour 44 = .ok (.aload_n 0, 1) := by decide +kernel
theorem dX12_pour_45 : decode cX12_pour 45 = .ok (.getfield 27, 3) := by decide +kernel
theorem dX12_pour_48 : decode cX12_pour 48 = .ok (.iload_n 3, 1) := by decide +kernel
theorem dX12_pour_49 : decode cX12_pour 49 = .ok (.iaload, 1) := by decide +kernel
theorem dX12_pour_50 : decode cX12_pour 50 = .ok (.iconst (-1), 1) := by decide +kernel
theorem dX12_pour_51 : decode cX12_pour 51 = .ok (.if_icmp .ne 9, 3) := by decide +kernel
theorem dX12_pour_54 : decode cX12_pour 54 = .ok (.aload_n 0, 1) := by decide +kernel
theorem dX12_pour_55 : decode cX12_pour 55 = .ok (.iconst 2, 1) := by decide +kernel
theorem dX12_pour_56 : decode cX12_pour 56 = .ok (.invokevirtual 109, 3) := by decide +kernel
theorem dX12_pour_59 : decode cX12_pour 59 = .ok (.ireturn, 1) := by decide +kernel
theorem dX12_pour_60 : decode cX12_pour 60 = .ok (.aload_n 0, 1) := by decide +kernel
theorem dX12_pour_61 : decode cX12_pour 61 = .ok (.getfield 24, 3) := by decide +kernel
theorem dX12_pour_64 : decode cX12_pour 64 = .ok (.iload_n 1, 1) := by decide +kernel
theorem dX12_pour_65 : decode cX12_pour 65 = .ok (.iaload, 1) := by decide +kernel
theorem dX12_pour_66 : decode cX12_pour 66 = .ok (.aload_n 0, 1) := by decide +kernel
theorem dX12_pour_67 : decode cX12_pour 67 = .ok (.getfield 24, 3) := by decide +kernel
theorem dX12_pour_70 : decode cX12_pour 70 = .ok (.iload_n 3, 1) := by decide +kernel
theorem dX12_pour_71 : decode cX12_pour 71 = .ok (.iaload, 1) := by decide +kernel
theorem dX12_pour_72 : decode cX12_pour 72 = .ok (.if_icmp .eq 10, 3) := by decide +kernel
theorem dX12_pour_75 : decode cX12_pour 75 = .ok (.aload_n 0, 1) := by decide +kernel
theorem dX12_pour_76 : decode cX12_pour 76 = .ok (.bipush 8, 2) := by decide +kernel
theorem dX12_pour_78 : decode cX12_pour 78 = .ok (.invokevirtual 109, 3) := by decide +kernel
theorem dX12_pour_81 : decode cX12_pour 81 = .ok (.ireturn, 1) := by decide +kernel
theorem dX12_pour_82 : decode cX12_pour 82 = .ok (.iload 5, 2) := by decide +kernel
theorem dX12_pour_84 : decode cX12_pour 84 = .ok (.aload_n 0, 1) := by decide +kernel
theorem dX12_pour_85 : decode cX12_pour 85 = .ok (.getfield 27, 3) := by decide +kernel
theorem dX12_pour_88 : decode cX12_pour 88 = .ok (.iload_n 1, 1) := by decide +kernel
theorem dX12_pour_89 : decode cX12_pour 89 = .ok (.iaload, 1) := by decide +kernel
theorem dX12_pour_90 : decode cX12_pour 90 = .ok (.iload_n 2, 1) := by decide +kernel
theorem dX12_pour_91 : decode cX12_pour 91 = .ok (.isub, 1) := by decide +kernel
theorem dX12_pour_92 : decode cX12_pour 92 = .ok (.if_icmp .gt 17, 3) := by decide +kernel
theorem dX12_pour_95 : decode cX12_pour 95 = .ok (.iload 5, 2) := by decide +kernel
theorem dX12_pour_97 : decode cX12_pour 97 = .ok (.aload_n 0, 1) := by decide +kernel
theorem dX12_pour_98 : decode cX12_pour 98 = .ok (.getfield 27, 3) := by decide +kernel
theorem dX12_pour_101 : decode cX12_pour 101 = .ok (.iload_n 3, 1) := by decide +kernel
theorem dX12_pour_102 : decode cX12_pour 102 = .ok (.iaload, 1) := by decide +kernel
theorem dX12_pour_103 : decode cX12_pour 103 = .ok (.iload 4, 2) := by decide +kernel
theorem dX12_pour_105 : decode cX12_pour 105 = .ok (.isub, 1) := by decide +kernel
theorem dX12_pour_106 : decode cX12_pour 106 = .ok (.if_icmp .le 9, 3) := by decide +kernel
theorem dX12_pour_109 : decode cX12_pour 109 = .ok (.aload_n 0, 1) := by decide +kernel
theorem dX12_pour_110 : decode cX12_pour 110 = .ok (.iconst 3, 1) := by decide +kernel
theorem dX12_pour_111 : decode cX12_pour 111 = .ok (.invokevirtual 109, 3) := by decide +kernel
theorem dX12_pour_114 : decode cX12_pour 114 = .ok (.ireturn, 1) := by decide +kernel
theorem dX12_pour_115 : decode cX12_pour 115 = .ok (.iconst 0, 1) := by decide +kernel
theorem dX12_pour_116 : decode cX12_pour 116 = .ok (.istore 6, 2) := by decide +kernel
theorem dX12_pour_118 : decode cX12_pour 118 = .ok (.iload 6, 2) := by decide +kernel
theorem dX12_pour_120 : decode cX12_pour 120 = .ok (.iload 5, 2) := by decide +kernel
theorem dX12_pour_122 : decode cX12_pour 122 = .ok (.if_icmp .ge 58, 3) := by decide +kernel
theorem dX12_pour_125 : decode cX12_pour 125 = .ok (.iload_n 2, 1) := by decide +kernel
theorem dX12_pour_126 : decode cX12_pour 126 = .ok (.iload 4, 2) := by decide +kernel
theorem dX12_pour_128 : decode cX12_pour 128 = .ok (.if_icmp .ge 13, 3) := by decide +kernel
theorem dX12_pour_131 : decode cX12_pour 131 = .ok (.iload 5, 2) := by decide +kernel
theorem dX12_pour_133 : decode cX12_pour 133 = .ok (.iconst 1, 1) := by decide +kernel
theorem dX12_pour_134 : decode cX12_pour 134 = .ok (.isub, 1) := by decide +kernel
theorem dX12_pour_135 : decode cX12_pour 135 = .ok (.iload 6, 2) := by decide +kernel
theorem dX12_pour_137 : decode cX12_pour 137 = .ok (.isub, 1) := by decide +kernel
theorem dX12_pour_138 : decode cX12_pour 138 = .ok (.goto 5, 3) := by decide +kernel
theorem dX12_pour_141 : decode cX12_pour 141 = .ok (.iload 6, 2) := by decide +kernel
theorem dX12_pour_143 : decode cX12_pour 143 = .ok (.istore 7, 2) := by decide +kernel
theorem dX12_pour_145 : decode cX12_pour 145 = .ok (.aload_n 0, 1) := by decide +kernel
theorem dX12_pour_146 : decode cX12_pour 146 = .ok (.getfield 30, 3) := by decide +kernel
theorem dX12_pour_149 : decode cX12_pour 149 = .ok (.bipush 60, 2) := by decide +kernel
theorem dX12_pour_151 : decode cX12_pour 151 = .ok (.iload_n 3, 1) := by decide +kernel
theorem dX12_pour_152 : decode cX12_pour 152 = .ok (.imul, 1) := by decide +kernel
theorem dX12_pour_153 : decode cX12_pour 153 = .ok (.iload 4, 2) := by decide +kernel
theorem dX12_pour_155 : decode cX12_pour 155 = .ok (.iadd, 1) := by decide +kernel
theorem dX12_pour_156 : decode cX12_pour 156 = .ok (.iload 7, 2) := by decide +kernel
theorem dX12_pour_158 : decode cX12_pour 158 = .ok (.iadd, 1) := by decide +kernel
theorem dX12_pour_159 : decode cX12_pour 159 = .ok (.aload_n 0, 1) := by decide +kernel
theorem dX12_pour_160 : decode cX12_pour 160 = .ok (.getfield 30, 3) := by decide +kernel
theorem dX12_pour_163 : decode cX12_pour 163 = .ok (.bipush 60, 2) := by decide +kernel
theorem dX12_pour_165 : decode cX12_pour 165 = .ok (.iload_n 1, 1) := by decide +kernel
theorem dX12_pour_166 : decode cX12_pour 166 = .ok (.imul, 1) := by decide +kernel
theorem dX12_pour_167 : decode cX12_pour 167 = .ok (.iload_n 2, 1) := by decide +kernel
theorem dX12_pour_168 : decode cX12_pour 168 = .ok (.iadd, 1) := by decide +kernel
theorem dX12_pour_169 : decode cX12_pour 169 = .ok (.iload 7, 2) := by decide +kernel
theorem dX12_pour_171 : decode cX12_pour 171 = .ok (.iadd, 1) := by decide +kernel
theorem dX12_pour_172 : decode cX12_pour 172 = .ok (.laload, 1) := by decide +kernel
theorem dX12_pour_173 : decode cX12_pour 173 = .ok (.lastore, 1) := by decide +kernel
theorem dX12_pour_174 : decode cX12_pour 174 = .ok (.iinc 6 1, 3) := by decide +kernel
theorem dX12_pour_177 : decode cX12_pour 177 = .ok (.goto (-59), 3) := by decide +kernel
theorem dX12_pour_180 : decode cX12_pour 180 = .ok (.aload_n 0, 1) := by decide +kernel
theorem dX12_pour_181 : decode cX12_pour 181 = .ok (.iconst 0, 1) := by decide +kernel
theorem dX12_pour_182 : decode cX12_pour 182 = .ok (.invokevirtual 109, 3) := by decide +kernel
theorem dX12_pour_185 : decode cX12_pour 185 = .ok (.ireturn, 1) := by decide +kernel
theorem dX12_isFrom_0 : decode cX12_isFrom 0 = .ok (.lload_n 0, 1) := by decide +kernel
theorem dX12_isFrom_1 : decode cX12_isFrom 1 = .ok (.lload_n 2, 1) := by decide +kernel
theorem dX12_isFrom_2 : decode cX12_isFrom 2 = .ok (.lcmp, 1) := by decide +kernel
theorem dX12_isFrom_3 : decode cX12_isFrom 3 = .ok (.ifCond .lt 14, 3) := by decide +kernel
theorem dX12_isFrom_6 : decode cX12_isFrom 6 = .ok (.lload_n 0, 1) := by decide +kernel
theorem dX12_isFrom_7 : decode cX12_isFrom 7 = .ok (.lload 4, 2) := by decide +kernel
theorem dX12_isFrom_9 : decode cX12_isFrom 9 = .ok (.lcmp, 1) := by decide +kernel
theorem dX12_isFrom_10 : decode cX12_isFrom 10 = .ok (.ifCond .gt 7, 3) := by decide +kernel
theorem dX12_isFrom_13 : decode cX12_isFrom 13 = .ok (.iconst 1, 1) := by decide +kernel
theorem dX12_isFrom_14 : decode cX12_isFrom 14 = .ok (.goto 4, 3) := by decide +kernel
theorem dX12_isFrom_17 : decode cX12_isFrom 17 = .ok (.iconst 0, 1) := by decide +kernel
theorem dX12_isFrom_18 : decode cX12_isFrom 18 = .ok (.ireturn, 1) := by decide +kernel
theorem dX12_feed_0 : decode cX12_feed 0 = .ok (.aload_n 0, 1) := by decide +kernel
theorem dX12_feed_1 : decode cX12_feed 1 = .ok (.getfield 126, 3) := by decide +kernel
theorem dX12_feed_4 : decode cX12_feed 4 = .ok (.bipush 20, 2) := by decide +kernel
theorem dX12_feed_6 : decode cX12_feed 6 = .ok (.iadd, 1) := by decide +kernel
theorem dX12_feed_7 : decode cX12_feed 7 = .ok (.sipush 900, 3) := by decide +kernel
theorem dX12_feed_10 : decode cX12_feed 10 = .ok (.if_icmp .le 5, 3) := by decide +kernel
theorem dX12_feed_13 : decode cX12_feed 13 = .ok (.iconst (-1), 1) := by decide +kernel
theorem dX12_feed_14 : decode cX12_feed 14 = .ok (.ireturn, 1) := by decide +kernel
theorem dX12_feed_15 : decode cX12_feed 15 = .ok (.aload_n 0, 1) := by decide +kernel
theorem dX12_feed_16 : decode cX12_feed 16 = .ok (.iload_n 1, 1) := by decide +kernel
theorem dX12_feed_17 : decode cX12_feed 17 = .ok (.invokevirtual 129, 3) := by decide +kernel
theorem dX12_feed_20 : decode cX12_feed 20 = .ok (.aload_n 0, 1) := by decide +kernel
theorem dX12_feed_21 : decode cX12_feed 21 = .ok (.iload_n 2, 1) := by decide +kernel
theorem dX12_feed_22 : decode cX12_feed 22 = .ok (.invokevirtual 129, 3) := by decide +kernel
theorem dX12_feed_25 : decode cX12_feed 25 = .ok (.aload_n 0, 1) := by decide +kernel
theorem dX12_feed_26 : decode cX12_feed 26 = .ok (.iload_n 3, 1) := by decide +kernel
theorem dX12_feed_27 : decode cX12_feed 27 = .ok (.invokevirtual 129, 3) := by decide +kernel
theorem dX12_feed_30 : decode cX12_feed 30 = .ok (.aload_n 0, 1) := by decide +kernel
theorem dX12_feed_31 : decode cX12_feed 31 = .ok (.iload 4, 2) := by decide +kernel
theorem dX12_feed_33 : decode cX12_feed 33 = .ok (.invokevirtual 129, 3) := by decide +kernel
theorem dX12_feed_36 : decode cX12_feed 36 = .ok (.aload_n 0, 1) := by decide +kernel
theorem dX12_feed_37 : decode cX12_feed 37 = .ok (.iload 5, 2) := by decide +kernel
theorem dX12_feed_39 : decode cX12_feed 39 = .ok (.invokevirtual 129, 3) := by decide +kernel
theorem dX12_feed_42 : decode cX12_feed 42 = .ok (.aload_n 0, 1) := by decide +kernel
theorem dX12_feed_43 : decode cX12_feed 43 = .ok (.getfield 126, 3) := by decide +kernel
theorem dX12_feed_46 : decode cX12_feed 46 = .ok (.ireturn, 1) := by decide +kernel
theorem dX12_four_0 : decode cX12_four 0 = .ok (.bipush 24, 2) := by decide +kernel
theorem dX12_four_2 : decode cX12_four 2 = .ok (.istore_n 2, 1) := by decide +kernel
theorem dX12_four_3 : decode cX12_four 3 = .ok (.iload_n 2, 1) := by decide +kernel
theorem dX12_four_4 : decode cX12_four 4 = .ok (.ifCond .lt 32, 3) := by decide +kernel
theorem dX12_four_7 : decode cX12_four 7 = .ok (.aload_n 0, 1) := by decide +kernel
theorem dX12_four_8 : decode cX12_four 8 = .ok (.getfield 33, 3) := by decide +kernel
theorem dX12_four_11 : decode cX12_four 11 = .ok (.aload_n 0, 1) := by decide +kernel
theorem dX12_four_12 : decode cX12_four 12 = .ok (.getfield 126, 3) := by decide +kernel
theorem dX12_four_15 : decode cX12_four 15 = .ok (.iload_n 1, 1) := by decide +kernel
theorem dX12_four_16 : decode cX12_four 16 = .ok (.iload_n 2, 1) := by decide +kernel
theorem dX12_four_17 : decode cX12_four 17 = .ok (.ishr, 1) := by decide +kernel
theorem dX12_four_18 : decode cX12_four 18 = .ok (.i2b, 1) := by decide +kernel
theorem dX12_four_19 : decode cX12_four 19 = .ok (.bastore, 1) := by decide +kernel
theorem dX12_four_20 : decode cX12_four 20 = .ok (.aload_n 0, 1) := by decide +kernel
theorem dX12_four_21 : decode cX12_four 21 = .ok (.dup, 1) := by decide +kernel
theorem dX12_four_22 : decode cX12_four 22 = .ok (.getfield 126, 3) := by decide +kernel
theorem dX12_four_25 : decode cX12_four 25 = .ok (.iconst 1, 1) := by decide +kernel
theorem dX12_four_26 : decode cX12_four 26 = .ok (.iadd, 1) := by decide +kernel
theorem dX12_four_27 : decode cX12_four 27 = .ok (.putfield 126, 3) := by decide +kernel
theorem dX12_four_30 : decode cX12_four 30 = .ok (.iinc 2 (-8), 3) := by decide +kernel
theorem dX12_four_33 : decode cX12_four 33 = .ok (.goto (-30), 3) := by decide +kernel
theorem dX12_four_36 : decode cX12_four 36 = .ok (.return_, 1) := by decide +kernel
theorem dX12_byteAt_0 : decode cX12_byteAt 0 = .ok (.iload_n 1, 1) := by decide +kernel
theorem dX12_byteAt_1 : decode cX12_byteAt 1 = .ok (.aload_n 0, 1) := by decide +kernel
theorem dX12_byteAt_2 : decode cX12_byteAt 2 = .ok (.getfield 133, 3) := by decide +kernel
theorem dX12_byteAt_5 : decode cX12_byteAt 5 = .ok (.if_icmp .ge 16, 3) := by decide +kernel
theorem dX12_byteAt_8 : decode cX12_byteAt 8 = .ok (.aload_n 0, 1) := by decide +kernel
theorem dX12_byteAt_9 : decode cX12_byteAt 9 = .ok (.getfield 37, 3) := by decide +kernel
theorem dX12_byteAt_12 : decode cX12_byteAt 12 = .ok (.iload_n 1, 1) := by decide +kernel
theorem dX12_byteAt_13 : decode cX12_byteAt 13 = .ok (.baload, 1) := by decide +kernel
theorem dX12_byteAt_14 : decode cX12_byteAt 14 = .ok (.sipush 255, 3) := by decide +kernel
theorem dX12_byteAt_17 : decode cX12_byteAt 17 = .ok (.iand, 1) := by decide +kernel
theorem dX12_byteAt_18 : decode cX12_byteAt 18 = .ok (.goto 4, 3) := by decide +kernel
theorem dX12_byteAt_21 : decode cX12_byteAt 21 = .ok (.iconst (-1), 1) := by decide +kernel
theorem dX12_byteAt_22 : decode cX12_byteAt 22 = .ok (.ireturn, 1) := by decide +kernel
theorem dX12_isSmall_0 : decode cX12_isSmall 0 = .ok (.iload_n 0, 1) := by decide +kernel
theorem dX12_isSmall_1 : decode cX12_isSmall 1 = .ok (.bipush 97, 2) := by decide +kernel
theorem dX12_isSmall_3 : decode cX12_isSmall 3 = .ok (.if_icmp .lt 13, 3) := by decide +kernel
theorem dX12_isSmall_6 : decode cX12_isSmall 6 = .ok (.iload_n 0, 1) := by decide +kernel
theorem dX12_isSmall_7 : decode cX12_isSmall 7 = .ok (.bipush 122, 2) := by decide +kernel
theorem dX12_isSmall_9 : decode cX12_isSmall 9 = .ok (.if_icmp .gt 7, 3) := by decide +kernel
theorem dX12_isSmall_12 : decode cX12_isSmall 12 = .ok (.iconst 1, 1) := by decide +kernel
theorem dX12_isSmall_13 : decode cX12_isSmall 13 = .ok (.goto 4, 3) := by decide +kernel
theorem dX12_isSmall_16 : decode cX12_isSmall 16 = .ok (.iconst 0, 1) := by decide +kernel
theorem dX12_isSmall_17 : decode cX12_isSmall 17 = .ok (.ireturn, 1) := by decide +kernel
theorem dX12_isDigit_0 : decode cX12_isDigit 0 = .ok (.iload_n 0, 1) := by decide +kernel
theorem dX12_isDigit_1 : decode cX12_isDigit 1 = .ok (.bipush 48, 2) := by decide +kernel
theorem dX12_isDigit_3 : decode cX12_isDigit 3 = .ok (.if_icmp .lt 13, 3) := by decide +kernel
theorem dX12_isDigit_6 : decode cX12_isDigit 6 = .ok (.iload_n 0, 1) := by decide +kernel
theorem dX12_isDigit_7 : decode cX12_isDigit 7 = .ok (.bipush 57, 2) := by decide +kernel
theorem dX12_isDigit_9 : decode cX12_isDigit 9 = .ok (.if_icmp .gt 7, 3) := by decide +kernel
theorem dX12_isDigit_12 : decode cX12_isDigit 12 = .ok (.iconst 1, 1) := by decide +kernel
theorem dX12_isDigit_13 : decode cX12_isDigit 13 = .ok (.goto 4, 3) := by decide +kernel
theorem dX12_isDigit_16 : decode cX12_isDigit 16 = .ok (.iconst 0, 1) := by decide +kernel
theorem dX12_isDigit_17 : decode cX12_isDigit 17 = .ok (.ireturn, 1) := by decide +kernel
theorem dX12_ahead_0 : decode cX12_ahead 0 = .ok (.aload_n 0, 1) := by decide +kernel
theorem dX12_ahead_1 : decode cX12_ahead 1 = .ok (.aload_n 0, 1) := by decide +kernel
theorem dX12_ahead_2 : decode cX12_ahead 2 = .ok (.getfield 136, 3) := by decide +kernel
theorem dX12_ahead_5 : decode cX12_ahead 5 = .ok (.invokevirtual 139, 3) := by decide +kernel
theorem dX12_ahead_8 : decode cX12_ahead 8 = .ok (.bipush 32, 2) := by decide +kernel
theorem dX12_ahead_10 : decode cX12_ahead 10 = .ok (.if_icmp .eq 16, 3) := by decide +kernel
theorem dX12_ahead_13 : decode cX12_ahead 13 = .ok (.aload_n 0, 1) := by decide +kernel
theorem dX12_ahead_14 : decode cX12_ahead 14 = .ok (.aload_n 0, 1) := by decide +kernel
theorem dX12_ahead_15 : decode cX12_ahead 15 = .ok (.getfield 136, 3) := by decide +kernel
theorem dX12_ahead_18 : decode cX12_ahead 18 = .ok (.invokevirtual 139, 3) := by decide +kernel
theorem dX12_ahead_21 : decode cX12_ahead 21 = .ok (.bipush 10, 2) := by decide +kernel
theorem dX12_ahead_23 : decode cX12_ahead 23 = .ok (.if_icmp .ne 16, 3) := by decide +kernel
theorem dX12_ahead_26 : decode cX12_ahead 26 = .ok (.aload_n 0, 1) := by decide +kernel
theorem dX12_ahead_27 : decode cX12_ahead 27 = .ok (.dup, 1) := by decide +kernel
theorem dX12_ahead_28 : decode cX12_ahead 28 = .ok (.getfield 136, 3) := by decide +kernel
theorem dX12_ahead_31 : decode cX12_ahead 31 = .ok (.iconst 1, 1) := by decide +kernel
theorem dX12_ahead_32 : decode cX12_ahead 32 = .ok (.iadd, 1) := by decide +kernel
theorem dX12_ahead_33 : decode cX12_ahead 33 = .ok (.putfield 136, 3) := by decide +kernel
theorem dX12_ahead_36 : decode cX12_ahead 36 = .ok (.goto (-36), 3) := by decide +kernel
theorem dX12_ahead_39 : decode cX12_ahead 39 = .ok (.aload_n 0, 1) := by decide +kernel
theorem dX12_ahead_40 : decode cX12_ahead 40 = .ok (.aload_n 0, 1) := by decide +kernel
theorem dX12_ahead_41 : decode cX12_ahead 41 = .ok (.getfield 136, 3) := by decide +kernel
theorem dX12_ahead_44 : decode cX12_ahead 44 = .ok (.putfield 143, 3) := by decide +kernel
theorem dX12_ahead_47 : decode cX12_ahead 47 = .ok (.aload_n 0, 1) := by decide +kernel
theorem dX12_ahead_48 : decode cX12_ahead 48 = .ok (.aload_n 0, 1) := by decide +kernel
theorem dX12_ahead_49 : decode cX12_ahead 49 = .ok (.getfield 136, 3) := by decide +kernel
theorem dX12_ahead_52 : decode cX12_ahead 52 = .ok (.invokevirtual 139, 3) := by decide +kernel
theorem dX12_ahead_55 : decode cX12_ahead 55 = .ok (.istore_n 1, 1) := by decide +kernel
theorem dX12_ahead_56 : decode cX12_ahead 56 = .ok (.aload_n 0, 1) := by decide +kernel
theorem dX12_ahead_57 : decode cX12_ahead 57 = .ok (.iload_n 1, 1) := by decide +kernel
theorem dX12_ahead_58 : decode cX12_ahead 58 = .ok (.putfield 146, 3) := by decide +kernel
theorem dX12_ahead_61 : decode cX12_ahead 61 = .ok (.iload_n 1, 1) := by decide +kernel
theorem dX12_ahead_62 : decode cX12_ahead 62 = .ok (.iconst (-1), 1) := by decide +kernel
theorem dX12_ahead_63 : decode cX12_ahead 63 = .ok (.if_icmp .ne 11, 3) := by decide +kernel
theorem dX12_ahead_66 : decode cX12_ahead 66 = .ok (.aload_n 0, 1) := by decide +kernel
theorem dX12_ahead_67 : decode cX12_ahead 67 = .ok (.iconst 0, 1) := by decide +kernel
theorem dX12_ahead_68 : decode cX12_ahead 68 = .ok (.putfield 149, 3) := by decide +kernel
theorem dX12_ahead_71 : decode cX12_ahead 71 = .ok (.goto 174, 3) := by decide +kernel
theorem dX12_ahead_74 : decode cX12_ahead 74 = .ok (.iload_n 1, 1) := by decide +kernel
theorem dX12_ahead_75 : decode cX12_ahead 75 = .ok (.invokestatic 152, 3) := by decide +kernel
theorem dX12_ahead_78 : decode cX12_ahead 78 = .ok (.ifCond .eq 38, 3) := by decide +kernel
theorem dX12_ahead_81 : decode cX12_ahead 81 = .ok (.aload_n 0, 1) := by decide +kernel
theorem dX12_ahead_82 : decode cX12_ahead 82 = .ok (.aload_n 0, 1) := by decide +kernel
theorem dX12_ahead_83 : decode cX12_ahead 83 = .ok (.getfield 136, 3) := by decide +kernel
theorem dX12_ahead_86 : decode cX12_ahead 86 = .ok (.invokevirtual 139, 3) := by decide +kernel
theorem dX12_ahead_89 : decode cX12_ahead 89 = .ok (.invokestatic 152, 3) := by decide +kernel
theorem dX12_ahead_92 : decode cX12_ahead 92 = .ok (.ifCond .eq 16, 3) := by decide +kernel
theorem dX12_ahead_95 : decode cX12_ahead 95 = .ok (.aload_n 0, 1) := by decide +kernel
theorem dX12_ahead_96 : decode cX12_ahead 96 = .ok (.dup, 1) := by decide +kernel
theorem dX12_ahead_97 : decode cX12_ahead 97 = .ok (.getfield 136, 3) := by decide +kernel
theorem dX12_ahead_100 : decode cX12_ahead 100 = .ok (.iconst 1, 1) := by decide +kernel
theorem dX12_ahead_101 : decode cX12_ahead 101 = .ok (.iadd, 1) := by decide +kernel
theorem dX12_ahead_102 : decode cX12_ahead 102 = .ok (.putfield 136, 3) := by decide +kernel
theorem dX12_ahead_105 : decode cX12_ahead 105 = .ok (.goto (-24), 3) := by decide +kernel
theorem dX12_ahead_108 : decode cX12_ahead 108 = .ok (.aload_n 0, 1) := by decide +kernel
theorem dX12_ahead_109 : decode cX12_ahead 109 = .ok (.iconst 2, 1) := by decide +kernel
theorem dX12_ahead_110 : decode cX12_ahead 110 = .ok (.putfield 149, 3) := by decide +kernel
theorem dX12_ahead_113 : decode cX12_ahead 113 = .ok (.goto 132, 3) := by decide +kernel
theorem dX12_ahead_116 : decode cX12_ahead 116 = .ok (.iload_n 1, 1) := by decide +kernel
theorem dX12_ahead_117 : decode cX12_ahead 117 = .ok (.invokestatic 155, 3) := by decide +kernel
theorem dX12_ahead_120 : decode cX12_ahead 120 = .ok (.ifCond .eq 88, 3) := by decide +kernel
theorem dX12_ahead_123 : decode cX12_ahead 123 = .ok (.aload_n 0, 1) := by decide +kernel
theorem dX12_ahead_124 : decode cX12_ahead 124 = .ok (.iconst 0, 1) := by decide +kernel
theorem dX12_ahead_125 : decode cX12_ahead 125 = .ok (.putfield 146, 3) := by decide +kernel
theorem dX12_ahead_128 : decode cX12_ahead 128 = .ok (.aload_n 0, 1) := by decide +kernel
theorem dX12_ahead_129 : decode cX12_ahead 129 = .ok (.aload_n 0, 1) := by decide +kernel
theorem dX12_ahead_130 : decode cX12_ahead 130 = .ok (.getfield 136, 3) := by decide +kernel
theorem dX12_ahead_133 : decode cX12_ahead 133 = .ok (.invokevirtual 139, 3) := by decide +kernel
theorem dX12_ahead_136 : decode cX12_ahead 136 = .ok (.invokestatic 155, 3) := by decide +kernel
theorem dX12_ahead_139 : decode cX12_ahead 139 = .ok (.ifCond .eq 44, 3) := by decide +kernel
theorem dX12_ahead_142 : decode cX12_ahead 142 = .ok (.aload_n 0, 1) := by decide +kernel
theorem dX12_ahead_143 : decode cX12_ahead 143 = .ok (.ldc 158, 2) := by decide +kernel
theorem dX12_ahead_145 : decode cX12_ahead 145 = .ok (.bipush 10, 2) := by decide +kernel
theorem dX12_ahead_147 : decode cX12_ahead 147 = .ok (.aload_n 0, 1) := by decide +kernel
theorem dX12_ahead_148 : decode cX12_ahead 148 = .ok (.getfield 146, 3) := by decide +kernel
theorem dX12_ahead_151 : decode cX12_ahead 151 = .ok (.imul, 1) := by decide +kernel
theorem dX12_ahead_152 : decode cX12_ahead 152 = .ok (.aload_n 0, 1) := by decide +kernel
theorem dX12_ahead_153 : decode cX12_ahead 153 = .ok (.aload_n 0, 1) := by decide +kernel
theorem dX12_ahead_154 : decode cX12_ahead 154 = .ok (.getfield 136, 3) := by decide +kernel
theorem dX12_ahead_157 : decode cX12_ahead 157 = .ok (.invokevirtual 139, 3) := by decide +kernel
theorem dX12_ahead_160 : decode cX12_ahead 160 = .ok (.iadd, 1) := by decide +kernel
theorem dX12_ahead_161 : decode cX12_ahead 161 = .ok (.bipush 48, 2) := by decide +kernel
theorem dX12_ahead_163 : decode cX12_ahead 163 = .ok (.isub, 1) := by decide +kernel
theorem dX12_ahead_164 : decode cX12_ahead 164 = .ok (.invokestatic 159, 3) := by decide +kernel
theorem dX12_ahead_167 : decode cX12_ahead 167 = .ok (.putfield 146, 3) := by decide +kernel
theorem dX12_ahead_170 : decode cX12_ahead 170 = .ok (.aload_n 0, 1) := by decide +kernel
theorem dX12_ahead_171 : decode cX12_ahead 171 = .ok (.dup, 1) := by decide +kernel
theorem dX12_ahead_172 : decode cX12_ahead 172 = .ok (.getfield 136, 3) := by decide +kernel
theorem dX12_ahead_175 : decode cX12_ahead 175 = .ok (.iconst 1, 1) := by decide +kernel
theorem dX12_ahead_176 : decode cX12_ahead 176 = .ok (.iadd, 1) := by decide +kernel
theorem dX12_ahead_177 : decode cX12_ahead 177 = .ok (.putfield 136, 3) := by decide +kernel
theorem dX12_ahead_180 : decode cX12_ahead 180 = .ok (.goto (-52), 3) := by decide +kernel
theorem dX12_ahead_183 : decode cX12_ahead 183 = .ok (.aload_n 0, 1) := by decide +kernel
theorem dX12_ahead_184 : decode cX12_ahead 184 = .ok (.aload_n 0, 1) := by decide +kernel
theorem dX12_ahead_185 : decode cX12_ahead 185 = .ok (.getfield 136, 3) := by decide +kernel
theorem dX12_ahead_188 : decode cX12_ahead 188 = .ok (.aload_n 0, 1) := by decide +kernel
theorem dX12_ahead_189 : decode cX12_ahead 189 = .ok (.getfield 143, 3) := by decide +kernel
theorem dX12_ahead_192 : decode cX12_ahead 192 = .ok (.isub, 1) := by decide +kernel
theorem dX12_ahead_193 : decode cX12_ahead 193 = .ok (.iconst 4, 1) := by decide +kernel
theorem dX12_ahead_194 : decode cX12_ahead 194 = .ok (.if_icmp .le 7, 3) := by decide +kernel
theorem dX12_ahead_197 : decode cX12_ahead 197 = .ok (.iconst 1, 1) := by decide +kernel
theorem dX12_ahead_198 : decode cX12_ahead 198 = .ok (.goto 4, 3) := by decide +kernel
theorem dX12_ahead_201 : decode cX12_ahead 201 = .ok (.iconst 3, 1) := by decide +kernel
theorem dX12_ahead_202 : decode cX12_ahead 202 = .ok (.putfield 149, 3) := by decide +kernel
theorem dX12_ahead_205 : decode cX12_ahead 205 = .ok (.goto 40, 3) := by decide +kernel
theorem dX12_ahead_208 : decode cX12_ahead 208 = .ok (.aload_n 0, 1) := by decide +kernel
theorem dX12_ahead_209 : decode cX12_ahead 209 = .ok (.dup, 1) := by decide +kernel
theorem dX12_ahead_210 : decode cX12_ahead 210 = .ok (.getfield 136, 3) := by decide +kernel
theorem dX12_ahead_213 : decode cX12_ahead 213 = .ok (.iconst 1, 1) := by decide +kernel
theorem dX12_ahead_214 : decode cX12_ahead 214 = .ok (.iadd, 1) := by decide +kernel
theorem dX12_ahead_215 : decode cX12_ahead 215 = .ok (.putfield 136, 3) := by decide +kernel
theorem dX12_ahead_218 : decode cX12_ahead 218 = .ok (.aload_n 0, 1) := by decide +kernel
theorem dX12_ahead_219 : decode cX12_ahead 219 = .ok (.iload_n 1, 1) := by decide +kernel
theorem dX12_ahead_220 : decode cX12_ahead 220 = .ok (.bipush 59, 2) := by decide +kernel
theorem dX12_ahead_222 : decode cX12_ahead 222 = .ok (.if_icmp .eq 15, 3) := by decide +kernel
theorem dX12_ahead_225 : decode cX12_ahead 225 = .ok (.iload_n 1, 1) := by decide +kernel
theorem dX12_ahead_226 : decode cX12_ahead 226 = .ok (.bipush 40, 2) := by decide +kernel
theorem dX12_ahead_228 : decode cX12_ahead 228 = .ok (.if_icmp .eq 9, 3) := by decide +kernel
theorem dX12_ahead_231 : decode cX12_ahead 231 = .ok (.iload_n 1, 1) := by decide +kernel
theorem dX12_ahead_232 : decode cX12_ahead 232 = .ok (.bipush 41, 2) := by decide +kernel
theorem dX12_ahead_234 : decode cX12_ahead 234 = .ok (.if_icmp .ne 7, 3) := by decide +kernel
theorem dX12_ahead_237 : decode cX12_ahead 237 = .ok (.iconst 4, 1) := by decide +kernel
theorem dX12_ahead_238 : decode cX12_ahead 238 = .ok (.goto 4, 3) := by decide +kernel
theorem dX12_ahead_241 : decode cX12_ahead 241 = .ok (.iconst 1, 1) := by decide +kernel
theorem dX12_ahead_242 : decode cX12_ahead 242 = .ok (.putfield 149, 3) := by decide +kernel
theorem dX12_ahead_245 : decode cX12_ahead 245 = .ok (.return_, 1) := by decide +kernel
theorem dX12_isSign_0 : decode cX12_isSign 0 = .ok (.aload_n 0, 1) := by decide +kernel
theorem dX12_isSign_1 : decode cX12_isSign 1 = .ok (.getfield 149, 3) := by decide +kernel
theorem dX12_isSign_4 : decode cX12_isSign 4 = .ok (.iconst 4, 1) := by decide +kernel
theorem dX12_isSign_5 : decode cX12_isSign 5 = .ok (.if_icmp .ne 15, 3) := by decide +kernel
theorem dX12_isSign_8 : decode cX12_isSign 8 = .ok (.aload_n 0, 1) := by decide +kernel
theorem dX12_isSign_9 : decode cX12_isSign 9 = .ok (.getfield 146, 3) := by decide +kernel
theorem dX12_isSign_12 : decode cX12_isSign 12 = .ok (.iload_n 1, 1) := by decide +kernel
theorem dX12_isSign_13 : decode cX12_isSign 13 = .ok (.if_icmp .ne 7, 3) := by decide +kernel
theorem dX12_isSign_16 : decode cX12_isSign 16 = .ok (.iconst 1, 1) := by decide +kernel
theorem dX12_isSign_17 : decode cX12_isSign 17 = .ok (.goto 4, 3) := by decide +kernel
theorem dX12_isSign_20 : decode cX12_isSign 20 = .ok (.iconst 0, 1) := by decide +kernel
theorem dX12_isSign_21 : decode cX12_isSign 21 = .ok (.ireturn, 1) := by decide +kernel
theorem dX12_inWords_0 : decode cX12_inWords 0 = .ok (.aload_n 0, 1) := by decide +kernel
theorem dX12_inWords_1 : decode cX12_inWords 1 = .ok (.getfield 149, 3) := by decide +kernel
theorem dX12_inWords_4 : decode cX12_inWords 4 = .ok (.iconst 2, 1) := by decide +kernel
theorem dX12_inWords_5 : decode cX12_inWords 5 = .ok (.if_icmp .eq 5, 3) := by decide +kernel
theorem dX12_inWords_8 : decode cX12_inWords 8 = .ok (.iconst (-1), 1) := by decide +kernel
theorem dX12_inWords_9 : decode cX12_inWords 9 = .ok (.ireturn, 1) := by decide +kernel
theorem dX12_inWords_10 : decode cX12_inWords 10 = .ok (.iconst 0, 1) := by decide +kernel
theorem dX12_inWords_11 : decode cX12_inWords 11 = .ok (.istore_n 2, 1) := by decide +kernel
theorem dX12_inWords_12 : decode cX12_inWords 12 = .ok (.iconst 1, 1) := by decide +kernel
theorem dX12_inWords_13 : decode cX12_inWords 13 = .ok (.istore_n 3, 1) := by decide +kernel
theorem dX12_inWords_14 : decode cX12_inWords 14 = .ok (.iload_n 3, 1) := by decide +kernel
theorem dX12_inWords_15 : decode cX12_inWords 15 = .ok (.aload_n 1, 1) := by decide +kernel
theorem dX12_inWords_16 : decode cX12_inWords 16 = .ok (.invokevirtual 164, 3) := by decide +kernel
theorem dX12_inWords_19 : decode cX12_inWords 19 = .ok (.if_icmp .ge 114, 3) := by decide +kernel
theorem dX12_inWords_22 : decode cX12_inWords 22 = .ok (.iload_n 3, 1) := by decide +kernel
theorem dX12_inWords_23 : decode cX12_inWords 23 = .ok (.istore 4, 2) := by decide +kernel
theorem dX12_inWords_25 : decode cX12_inWords 25 = .ok (.aload_n 1, 1) := by decide +kernel
theorem dX12_inWords_26 : decode cX12_inWords 26 = .ok (.iload 4, 2) := by decide +kernel
theorem dX12_inWords_28 : decode cX12_inWords 28 = .ok (.invokevirtual 170, 3) := by decide +kernel
theorem dX12_inWords_31 : decode cX12_inWords 31 = .ok (.bipush 32, 2) := by decide +kernel
theorem dX12_inWords_33 : decode cX12_inWords 33 = .ok (.if_icmp .eq 9, 3) := by decide +kernel
theorem dX12_inWords_36 : decode cX12_inWords 36 = .ok (.iinc 4 1, 3) := by decide +kernel
theorem dX12_inWords_39 : decode cX12_inWords 39 = .ok (.goto (-14), 3) := by decide +kernel
theorem dX12_inWords_42 : decode cX12_inWords 42 = .ok (.iload 4, 2) := by decide +kernel
theorem dX12_inWords_44 : decode cX12_inWords 44 = .ok (.iload_n 3, 1) := by decide +kernel
theorem dX12_inWords_45 : decode cX12_inWords 45 = .ok (.isub, 1) := by decide +kernel
theorem dX12_inWords_46 : decode cX12_inWords 46 = .ok (.aload_n 0, 1) := by decide +kernel
theorem dX12_inWords_47 : decode cX12_inWords 47 = .ok (.getfield 136, 3) := by decide +kernel
theorem dX12_inWords_50 : decode cX12_inWords 50 = .ok (.aload_n 0, 1) := by decide +kernel
theorem dX12_inWords_51 : decode cX12_inWords 51 = .ok (.getfield 143, 3) := by decide +kernel
theorem dX12_inWords_54 : decode cX12_inWords 54 = .ok (.isub, 1) := by decide +kernel
theorem dX12_inWords_55 : decode cX12_inWords 55 = .ok (.if_icmp .ne 7, 3) := by decide +kernel
theorem dX12_inWords_58 : decode cX12_inWords 58 = .ok (.iconst 1, 1) := by decide +kernel
theorem dX12_inWords_59 : decode cX12_inWords 59 = .ok (.goto 4, 3) := by decide +kernel
theorem dX12_inWords_62 : decode cX12_inWords 62 = .ok (.iconst 0, 1) := by decide +kernel
theorem dX12_inWords_63 : decode cX12_inWords 63 = .ok (.istore 5, 2) := by decide +kernel
theorem dX12_inWords_65 : decode cX12_inWords 65 = .ok (.iload_n 3, 1) := by decide +kernel
theorem dX12_inWords_66 : decode cX12_inWords 66 = .ok (.istore 6, 2) := by decide +kernel
theorem dX12_inWords_68 : decode cX12_inWords 68 = .ok (.iload 6, 2) := by decide +kernel
theorem dX12_inWords_70 : decode cX12_inWords 70 = .ok (.iload 4, 2) := by decide +kernel
theorem dX12_inWords_72 : decode cX12_inWords 72 = .ok (.if_icmp .ge 43, 3) := by decide +kernel
theorem dX12_inWords_75 : decode cX12_inWords 75 = .ok (.iload 5, 2) := by decide +kernel
theorem dX12_inWords_77 : decode cX12_inWords 77 = .ok (.ifCond .eq 38, 3) := by decide +kernel
theorem dX12_inWords_80 : decode cX12_inWords 80 = .ok (.aload_n 1, 1) := by decide +kernel
theorem dX12_inWords_81 : decode cX12_inWords 81 = .ok (.iload 6, 2) := by decide +kernel
theorem dX12_inWords_83 : decode cX12_inWords 83 = .ok (.invokevirtual 170, 3) := by decide +kernel
theorem dX12_inWords_86 : decode cX12_inWords 86 = .ok (.aload_n 0, 1) := by decide +kernel
theorem dX12_inWords_87 : decode cX12_inWords 87 = .ok (.aload_n 0, 1) := by decide +kernel
theorem dX12_inWords_88 : decode cX12_inWords 88 = .ok (.getfield 143, 3) := by decide +kernel
theorem dX12_inWords_91 : decode cX12_inWords 91 = .ok (.iload 6, 2) := by decide +kernel
theorem dX12_inWords_93 : decode cX12_inWords 93 = .ok (.iadd, 1) := by decide +kernel
theorem dX12_inWords_94 : decode cX12_inWords 94 = .ok (.iload_n 3, 1) := by decide +kernel
theorem dX12_inWords_95 : decode cX12_inWords 95 = .ok (.isub, 1) := by decide +kernel
theorem dX12_inWords_96 : decode cX12_inWords 96 = .ok (.invokevirtual 139, 3) := by decide +kernel
theorem dX12_inWords_99 : decode cX12_inWords 99 = .ok (.if_icmp .ne 7, 3) := by decide +kernel
theorem dX12_inWords_102 : decode cX12_inWords 102 = .ok (.iconst 1, 1) := by decide +kernel
theorem dX12_inWords_103 : decode cX12_inWords 103 = .ok (.goto 4, 3) := by decide +kernel
theorem dX12_inWords_106 : decode cX12_inWords 106 = .ok (.iconst 0, 1) := by decide +kernel
theorem dX12_inWords_107 : decode cX12_inWords 107 = .ok (.istore 5, 2) := by decide +kernel
theorem dX12_inWords_109 : decode cX12_inWords 109 = .ok (.iinc 6 1, 3) := by decide +kernel
theorem dX12_inWords_112 : decode cX12_inWords 112 = .ok (.goto (-44), 3) := by decide +kernel
theorem dX12_inWords_115 : decode cX12_inWords 115 = .ok (.iload 5, 2) := by decide +kernel
theorem dX12_inWords_117 : decode cX12_inWords 117 = .ok (.ifCond .eq 5, 3) := by decide +kernel
theorem dX12_inWords_120 : decode cX12_inWords 120 = .ok (.iload_n 2, 1) := by decide +kernel
theorem dX12_inWords_121 : decode cX12_inWords 121 = .ok (.ireturn, 1) := by decide +kernel
theorem dX12_inWords_122 : decode cX12_inWords 122 = .ok (.iinc 2 1, 3) := by decide +kernel
theorem dX12_inWords_125 : decode cX12_inWords 125 = .ok (.iload 4, 2) := by decide +kernel
theorem dX12_inWords_127 : decode cX12_inWords 127 = .ok (.iconst 1, 1) := by decide +kernel
theorem dX12_inWords_128 : decode cX12_inWords 128 = .ok (.iadd, 1) := by decide +kernel
theorem dX12_inWords_129 : decode cX12_inWords 129 = .ok (.istore_n 3, 1) := by decide +kernel
theorem dX12_inWords_130 : decode cX12_inWords 130 = .ok (.goto (-116), 3) := by decide +kernel
theorem dX12_inWords_133 : decode cX12_inWords 133 = .ok (.iconst (-1), 1) := by decide +kernel
theorem dX12_inWords_134 : decode cX12_inWords 134 = .ok (.ireturn, 1) := by decide +kernel
theorem dX12_fails_0 : decode cX12_fails 0 = .ok (.aload_n 0, 1) := by decide +kernel
theorem dX12_fails_1 : decode cX12_fails 1 = .ok (.getfield 174, 3) := by decide +kernel
theorem dX12_fails_4 : decode cX12_fails 4 = .ok (.ifCond .ne 28, 3) := by decide +kernel
theorem dX12_fails_7 : decode cX12_fails 7 = .ok (.aload_n 0, 1) := by decide +kernel
theorem dX12_fails_8 : decode cX12_fails 8 = .ok (.aload_n 0, 1) := by decide +kernel
theorem dX12_fails_9 : decode cX12_fails 9 = .ok (.getfield 149, 3) := by decide +kernel
theorem dX12_fails_12 : decode cX12_fails 12 = .ok (.iconst 1, 1) := by decide +kernel
theorem dX12_fails_13 : decode cX12_fails 13 = .ok (.if_icmp .ne 7, 3) := by decide +kernel
theorem dX12_fails_16 : decode cX12_fails 16 = .ok (.iconst 1, 1) := by decide +kernel
theorem dX12_fails_17 : decode cX12_fails 17 = .ok (.goto 4, 3) := by decide +kernel
theorem dX12_fails_20 : decode cX12_fails 20 = .ok (.iload_n 1, 1) := by decide +kernel
theorem dX12_fails_21 : decode cX12_fails 21 = .ok (.putfield 174, 3) := by decide +kernel
theorem dX12_fails_24 : decode cX12_fails 24 = .ok (.aload_n 0, 1) := by decide +kernel
theorem dX12_fails_25 : decode cX12_fails 25 = .ok (.aload_n 0, 1) := by decide +kernel
theorem dX12_fails_26 : decode cX12_fails 26 = .ok (.getfield 143, 3) := by decide +kernel
theorem dX12_fails_29 : decode cX12_fails 29 = .ok (.putfield 44, 3) := by decide +kernel
theorem dX12_fails_32 : decode cX12_fails 32 = .ok (.iconst 0, 1) := by decide +kernel
theorem dX12_fails_33 : decode cX12_fails 33 = .ok (.ireturn, 1) := by decide +kernel
theorem dX12_begins_0 : decode cX12_begins 0 = .ok (.iload_n 1, 1) := by decide +kernel
theorem dX12_begins_1 : decode cX12_begins 1 = .ok (.ifCond .lt 16, 3) := by decide +kernel
theorem dX12_begins_4 : decode cX12_begins 4 = .ok (.iload_n 1, 1) := by decide +kernel
theorem dX12_begins_5 : decode cX12_begins 5 = .ok (.aload_n 0, 1) := by decide +kernel
theorem dX12_begins_6 : decode cX12_begins 6 = .ok (.getfield 126, 3) := by decide +kernel
theorem dX12_begins_9 : decode cX12_begins 9 = .ok (.if_icmp .gt 8, 3) := by decide +kernel
theorem dX12_begins_12 : decode cX12_begins 12 = .ok (.iload_n 1, 1) := by decide +kernel
theorem dX12_begins_13 : decode cX12_begins 13 = .ok (.iload_n 2, 1) := by decide +kernel
theorem dX12_begins_14 : decode cX12_begins 14 = .ok (.if_icmp .le 5, 3) := by decide +kernel
theorem dX12_begins_17 : decode cX12_begins 17 = .ok (.iconst 0, 1) := by decide +kernel
theorem dX12_begins_18 : decode cX12_begins 18 = .ok (.ireturn, 1) := by decide +kernel
theorem dX12_begins_19 : decode cX12_begins 19 = .ok (.aload_n 0, 1) := by decide +kernel
theorem dX12_begins_20 : decode cX12_begins 20 = .ok (.iload_n 1, 1) := by decide +kernel
theorem dX12_begins_21 : decode cX12_begins 21 = .ok (.putfield 133, 3) := by decide +kernel
theorem dX12_begins_24 : decode cX12_begins 24 = .ok (.iconst 0, 1) := by decide +kernel
theorem dX12_begins_25 : decode cX12_begins 25 = .ok (.istore_n 3, 1) := by decide +kernel
theorem dX12_begins_26 : decode cX12_begins 26 = .ok (.iload_n 3, 1) := by decide +kernel
theorem dX12_begins_27 : decode cX12_begins 27 = .ok (.iload_n 1, 1) := by decide +kernel
theorem dX12_begins_28 : decode cX12_begins 28 = .ok (.if_icmp .ge 21, 3) := by decide +kernel
theorem dX12_begins_31 : decode cX12_begins 31 = .ok (.aload_n 0, 1) := by decide +kernel
theorem dX12_begins_32 : decode cX12_begins 32 = .ok (.getfield 37, 3) := by decide +kernel
theorem dX12_begins_35 : decode cX12_begins 35 = .ok (.iload_n 3, 1) := by decide +kernel
theorem dX12_begins_36 : decode cX12_begins 36 = .ok (.aload_n 0, 1) := by decide +kernel
theorem dX12_begins_37 : decode cX12_begins 37 = .ok (.getfield 33, 3) := by decide +kernel
theorem dX12_begins_40 : decode cX12_begins 40 = .ok (.iload_n 3, 1) := by decide +kernel
theorem dX12_begins_41 : decode cX12_begins 41 = .ok (.baload, 1) := by decide +kernel
theorem dX12_begins_42 : decode cX12_begins 42 = .ok (.bastore, 1) := by decide +kernel
theorem dX12_begins_43 : decode cX12_begins 43 = .ok (.iinc 3 1, 3) := by decide +kernel
theorem dX12_begins_46 : decode cX12_begins 46 = .ok (.goto (-20), 3) := by decide +kernel
theorem dX12_begins_49 : decode cX12_begins 49 = .ok (.aload_n 0, 1) := by decide +kernel
theorem dX12_begins_50 : decode cX12_begins 50 = .ok (.iconst 0, 1) := by decide +kernel
theorem dX12_begins_51 : decode cX12_begins 51 = .ok (.putfield 126, 3) := by decide +kernel
theorem dX12_begins_54 : decode cX12_begins 54 = .ok (.aload_n 0, 1) := by decide +kernel
theorem dX12_begins_55 : decode cX12_begins 55 = .ok (.iconst 0, 1) := by decide +kernel
theorem dX12_begins_56 : decode cX12_begins 56 = .ok (.putfield 174, 3) := by decide +kernel
theorem dX12_begins_59 : decode cX12_begins 59 = .ok (.aload_n 0, 1) := by decide +kernel
theorem dX12_begins_60 : decode cX12_begins 60 = .ok (.iconst (-1), 1) := by decide +kernel
theorem dX12_begins_61 : decode cX12_begins 61 = .ok (.putfield 44, 3) := by decide +kernel
theorem dX12_begins_64 : decode cX12_begins 64 = .ok (.aload_n 0, 1) := by decide +kernel
theorem dX12_begins_65 : decode cX12_begins 65 = .ok (.iconst 0, 1) := by decide +kernel
theorem dX12_begins_66 : decode cX12_begins 66 = .ok (.putfield 136, 3) := by decide +kernel
theorem dX12_begins_69 : decode cX12_begins 69 = .ok (.aload_n 0, 1) := by decide +kernel
theorem dX12_begins_70 : decode cX12_begins 70 = .ok (.iconst 0, 1) := by decide +kernel
theorem dX12_begins_71 : decode cX12_begins 71 = .ok (.putfield 177, 3) := by decide +kernel
theorem dX12_begins_74 : decode cX12_begins 74 = .ok (.aload_n 0, 1) := by decide +kernel
theorem dX12_begins_75 : decode cX12_begins 75 = .ok (.invokevirtual 180, 3) := by decide +kernel
theorem dX12_begins_78 : decode cX12_begins 78 = .ok (.iconst 1, 1) := by decide +kernel
theorem dX12_begins_79 : decode cX12_begins 79 = .ok (.ireturn, 1) := by decide +kernel
theorem dX12_wantSign_0 : decode cX12_wantSign 0 = .ok (.aload_n 0, 1) := by decide +kernel
theorem dX12_wantSign_1 : decode cX12_wantSign 1 = .ok (.iload_n 1, 1) := by decide +kernel
theorem dX12_wantSign_2 : decode cX12_wantSign 2 = .ok (.invokevirtual 183, 3) := by decide +kernel
theorem dX12_wantSign_5 : decode cX12_wantSign 5 = .ok (.ifCond .ne 9, 3) := by decide +kernel
theorem dX12_wantSign_8 : decode cX12_wantSign 8 = .ok (.aload_n 0, 1) := by decide +kernel
theorem dX12_wantSign_9 : decode cX12_wantSign 9 = .ok (.iconst 2, 1) := by decide +kernel
theorem dX12_wantSign_10 : decode cX12_wantSign 10 = .ok (.invokevirtual 186, 3) := by decide +kernel
theorem dX12_wantSign_13 : decode cX12_wantSign 13 = .ok (.ireturn, 1) := by decide +kernel
theorem dX12_wantSign_14 : decode cX12_wantSign 14 = .ok (.aload_n 0, 1) := by decide +kernel
theorem dX12_wantSign_15 : decode cX12_wantSign 15 = .ok (.invokevirtual 180, 3) := by decide +kernel
theorem dX12_wantSign_18 : decode cX12_wantSign 18 = .ok (.iconst 1, 1) := by decide +kernel
theorem dX12_wantSign_19 : decode cX12_wantSign 19 = .ok (.ireturn, 1) := by decide +kernel
theorem dX12_wantWord_0 : decode cX12_wantWord 0 = .ok (.aload_n 0, 1) := by decide +kernel
theorem dX12_wantWord_1 : decode cX12_wantWord 1 = .ok (.aload_n 1, 1) := by decide +kernel
theorem dX12_wantWord_2 : decode cX12_wantWord 2 = .ok (.invokevirtual 189, 3) := by decide +kernel
theorem dX12_wantWord_5 : decode cX12_wantWord 5 = .ok (.iload_n 2, 1) := by decide +kernel
theorem dX12_wantWord_6 : decode cX12_wantWord 6 = .ok (.if_icmp .eq 9, 3) := by decide +kernel
theorem dX12_wantWord_9 : decode cX12_wantWord 9 = .ok (.aload_n 0, 1) := by decide +kernel
theorem dX12_wantWord_10 : decode cX12_wantWord 10 = .ok (.iconst 2, 1) := by decide +kernel
theorem dX12_wantWord_11 : decode cX12_wantWord 11 = .ok (.invokevirtual 186, 3) := by decide +kernel
theorem dX12_wantWord_14 : decode cX12_wantWord 14 = .ok (.ireturn, 1) := by decide +kernel
theorem dX12_wantWord_15 : decode cX12_wantWord 15 = .ok (.aload_n 0, 1) := by decide +kernel
theorem dX12_wantWord_16 : decode cX12_wantWord 16 = .ok (.invokevirtual 180, 3) := by decide +kernel
theorem dX12_wantWord_19 : decode cX12_wantWord 19 = .ok (.iconst 1, 1) := by decide +kernel
theorem dX12_wantWord_20 : decode cX12_wantWord 20 = .ok (.ireturn, 1) := by decide +kernel
theorem dX12_number_0 : decode cX12_number 0 = .ok (.aload_n 0, 1) := by decide +kernel
theorem dX12_number_1 : decode cX12_number 1 = .ok (.getfield 149, 3) := by decide +kernel
theorem dX12_number_4 : decode cX12_number 4 = .ok (.iconst 3, 1) := by decide +kernel
theorem dX12_number_5 : decode cX12_number 5 = .ok (.if_icmp .eq 9, 3) := by decide +kernel
theorem dX12_number_8 : decode cX12_number 8 = .ok (.aload_n 0, 1) := by decide +kernel
theorem dX12_number_9 : decode cX12_number 9 = .ok (.iconst 2, 1) := by decide +kernel
theorem dX12_number_10 : decode cX12_number 10 = .ok (.invokevirtual 186, 3) := by decide +kernel
theorem dX12_number_13 : decode cX12_number 13 = .ok (.ireturn, 1) := by decide +kernel
theorem dX12_number_14 : decode cX12_number 14 = .ok (.aload_n 0, 1) := by decide +kernel
theorem dX12_number_15 : decode cX12_number 15 = .ok (.getfield 146, 3) := by decide +kernel
theorem dX12_number_18 : decode cX12_number 18 = .ok (.iload_n 2, 1) := by decide +kernel
theorem dX12_number_19 : decode cX12_number 19 = .ok (.if_icmp .lt 11, 3) := by decide +kernel
theorem dX12_number_22 : decode cX12_number 22 = .ok (.aload_n 0, 1) := by decide +kernel
theorem dX12_number_23 : decode cX12_number 23 = .ok (.getfield 146, 3) := by decide +kernel
theorem dX12_number_26 : decode cX12_number 26 = .ok (.iload_n 3, 1) := by decide +kernel
theorem dX12_number_27 : decode cX12_number 27 = .ok (.if_icmp .le 9, 3) := by decide +kernel
theorem dX12_number_30 : decode cX12_number 30 = .ok (.aload_n 0, 1) := by decide +kernel
theorem dX12_number_31 : decode cX12_number 31 = .ok (.iconst 4, 1) := by decide +kernel
theorem dX12_number_32 : decode cX12_number 32 = .ok (.invokevirtual 186, 3) := by decide +kernel
theorem dX12_number_35 : decode cX12_number 35 = .ok (.ireturn, 1) := by decide +kernel
theorem dX12_number_36 : decode cX12_number 36 = .ok (.aload_n 0, 1) := by decide +kernel
theorem dX12_number_37 : decode cX12_number 37 = .ok (.getfield 7, 3) := by decide +kernel
theorem dX12_number_40 : decode cX12_number 40 = .ok (.iload_n 1, 1) := by decide +kernel
theorem dX12_number_41 : decode cX12_number 41 = .ok (.aload_n 0, 1) := by decide +kernel
theorem dX12_number_42 : decode cX12_number 42 = .ok (.getfield 146, 3) := by decide +kernel
theorem dX12_number_45 : decode cX12_number 45 = .ok (.iastore, 1) := by decide +kernel
theorem dX12_number_46 : decode cX12_number 46 = .ok (.aload_n 0, 1) := by decide +kernel
theorem dX12_number_47 : decode cX12_number 47 = .ok (.invokevirtual 180, 3) := by decide +kernel
theorem dX12_number_50 : decode cX12_number 50 = .ok (.iconst 1, 1) := by decide +kernel
theorem dX12_number_51 : decode cX12_number 51 = .ok (.ireturn, 1) := by decide +kernel
theorem dX12_isName_0 : decode cX12_isName 0 = .ok (.aload_n 0, 1) := by decide +kernel
theorem dX12_isName_1 : decode cX12_isName 1 = .ok (.getfield 149, 3) := by decide +kernel
theorem dX12_isName_4 : decode cX12_isName 4 = .ok (.iconst 2, 1) := by decide +kernel
theorem dX12_isName_5 : decode cX12_isName 5 = .ok (.if_icmp .ne 30, 3) := by decide +kernel
theorem dX12_isName_8 : decode cX12_isName 8 = .ok (.aload_n 0, 1) := by decide +kernel
theorem dX12_isName_9 : decode cX12_isName 9 = .ok (.getfield 136, 3) := by decide +kernel
theorem dX12_isName_12 : decode cX12_isName 12 = .ok (.aload_n 0, 1) := by decide +kernel
theorem dX12_isName_13 : decode cX12_isName 13 = .ok (.getfield 143, 3) := by decide +kernel
theorem dX12_isName_16 : decode cX12_isName 16 = .ok (.isub, 1) := by decide +kernel
theorem dX12_isName_17 : decode cX12_isName 17 = .ok (.bipush 8, 2) := by decide +kernel
theorem dX12_isName_19 : decode cX12_isName 19 = .ok (.if_icmp .gt 16, 3) := by decide +kernel
theorem dX12_isName_22 : decode cX12_isName 22 = .ok (.aload_n 0, 1) := by decide +kernel
theorem dX12_isName_23 : decode cX12_isName 23 = .ok (.aload_n 1, 1) := by decide +kernel
theorem dX12_isName_24 : decode cX12_isName 24 = .ok (.invokevirtual 189, 3) := by decide +kernel
theorem dX12_isName_27 : decode cX12_isName 27 = .ok (.iconst (-1), 1) := by decide +kernel
theorem dX12_isName_28 : decode cX12_isName 28 = .ok (.if_icmp .ne 7, 3) := by decide +kernel
theorem dX12_isName_31 : decode cX12_isName 31 = .ok (.iconst 1, 1) := by decide +kernel
theorem dX12_isName_32 : decode cX12_isName 32 = .ok (.goto 4, 3) := by decide +kernel
theorem dX12_isName_35 : decode cX12_isName 35 = .ok (.iconst 0, 1) := by decide +kernel
theorem dX12_isName_36 : decode cX12_isName 36 = .ok (.ireturn, 1) := by decide +kernel
theorem dX12_nameHere_0 : decode cX12_nameHere 0 = .ok (.lconst 0, 1) := by decide +kernel
theorem dX12_nameHere_1 : decode cX12_nameHere 1 = .ok (.lstore_n 1, 1) := by decide +kernel
theorem dX12_nameHere_2 : decode cX12_nameHere 2 = .ok (.aload_n 0, 1) := by decide +kernel
theorem dX12_nameHere_3 : decode cX12_nameHere 3 = .ok (.getfield 143, 3) := by decide +kernel
theorem dX12_nameHere_6 : decode cX12_nameHere 6 = .ok (.istore_n 3, 1) := by decide +kernel
theorem dX12_nameHere_7 : decode cX12_nameHere 7 = .ok (.iload_n 3, 1) := by decide +kernel
theorem dX12_nameHere_8 : decode cX12_nameHere 8 = .ok (.aload_n 0, 1) := by decide +kernel
theorem dX12_nameHere_9 : decode cX12_nameHere 9 = .ok (.getfield 136, 3) := by decide +kernel
theorem dX12_nameHere_12 : decode cX12_nameHere 12 = .ok (.if_icmp .ge 21, 3) := by decide +kernel
theorem dX12_nameHere_15 : decode cX12_nameHere 15 = .ok (.lload_n 1, 1) := by decide +kernel
theorem dX12_nameHere_16 : decode cX12_nameHere 16 = .ok (.bipush 8, 2) := by decide +kernel
theorem dX12_nameHere_18 : decode cX12_nameHere 18 = .ok (.lshl, 1) := by decide +kernel
theorem dX12_nameHere_19 : decode cX12_nameHere 19 = .ok (.aload_n 0, 1) := by decide +kernel
theorem dX12_nameHere_20 : decode cX12_nameHere 20 = .ok (.iload_n 3, 1) := by decide +kernel
theorem dX12_nameHere_21 : decode cX12_nameHere 21 = .ok (.invokevirtual 139, 3) := by decide +kernel
theorem dX12_nameHere_24 : decode cX12_nameHere 24 = .ok (.i2l, 1) := by decide +kernel
theorem dX12_nameHere_25 : decode cX12_nameHere 25 = .ok (.lor, 1) := by decide +kernel
theorem dX12_nameHere_26 : decode cX12_nameHere 26 = .ok (.lstore_n 1, 1) := by decide +kernel
theorem dX12_nameHere_27 : decode cX12_nameHere 27 = .ok (.iinc 3 1, 3) := by decide +kernel
theorem dX12_nameHere_30 : decode cX12_nameHere 30 = .ok (.goto (-23), 3) := by decide +kernel
theorem dX12_nameHere_33 : decode cX12_nameHere 33 = .ok (.lload_n 1, 1) := by decide +kernel
theorem dX12_nameHere_34 : decode cX12_nameHere 34 = .ok (.lreturn, 1) := by decide +kernel
theorem dX12_findHere_0 : decode cX12_findHere 0 = .ok (.iconst 0, 1) := by decide +kernel
theorem dX12_findHere_1 : decode cX12_findHere 1 = .ok (.istore_n 3, 1) := by decide +kernel
theorem dX12_findHere_2 : decode cX12_findHere 2 = .ok (.iload_n 3, 1) := by decide +kernel
theorem dX12_findHere_3 : decode cX12_findHere 3 = .ok (.iload_n 2, 1) := by decide +kernel
theorem dX12_findHere_4 : decode cX12_findHere 4 = .ok (.if_icmp .ge 27, 3) := by decide +kernel
theorem dX12_findHere_7 : decode cX12_findHere 7 = .ok (.aload_n 0, 1) := by decide +kernel
theorem dX12_findHere_8 : decode cX12_findHere 8 = .ok (.getfield 17, 3) := by decide +kernel
theorem dX12_findHere_11 : decode cX12_findHere 11 = .ok (.iload_n 1, 1) := by decide +kernel
theorem dX12_findHere_12 : decode cX12_findHere 12 = .ok (.iload_n 3, 1) := by decide +kernel
theorem dX12_findHere_13 : decode cX12_findHere 13 = .ok (.iadd, 1) := by decide +kernel
theorem dX12_findHere_14 : decode cX12_findHere 14 = .ok (.laload, 1) := by decide +kernel
theorem dX12_findHere_15 : decode cX12_findHere 15 = .ok (.aload_n 0, 1) := by decide +kernel
theorem dX12_findHere_16 : decode cX12_findHere 16 = .ok (.invokevirtual 193, 3) := by decide +kernel
theorem dX12_findHere_19 : decode cX12_findHere 19 = .ok (.lcmp, 1) := by decide +kernel
theorem dX12_findHere_20 : decode cX12_findHere 20 = .ok (.ifCond .ne 5, 3) := by decide +kernel
theorem dX12_findHere_23 : decode cX12_findHere 23 = .ok (.iload_n 3, 1) := by decide +kernel
theorem dX12_findHere_24 : decode cX12_findHere 24 = .ok (.ireturn, 1) := by decide +kernel
theorem dX12_findHere_25 : decode cX12_findHere 25 = .ok (.iinc 3 1, 3) := by decide +kernel
theorem dX12_findHere_28 : decode cX12_findHere 28 = .ok (.goto (-26), 3) := by decide +kernel
theorem dX12_findHere_31 : decode cX12_findHere 31 = .ok (.iconst (-1), 1) := by decide +kernel
theorem dX12_findHere_32 : decode cX12_findHere 32 = .ok (.ireturn, 1) := by decide +kernel
theorem dX12_fault_0 : decode cX12_fault 0 = .ok (.iload_n 1, 1) := by decide +kernel
theorem dX12_fault_1 : decode cX12_fault 1 = .ok (.ifCond .ne 10, 3) := by decide +kernel
theorem dX12_fault_4 : decode cX12_fault 4 = .ok (.aload_n 0, 1) := by decide +kernel
theorem dX12_fault_5 : decode cX12_fault 5 = .ok (.getfield 40, 3) := by decide +kernel
theorem dX12_fault_8 : decode cX12_fault 8 = .ok (.goto 16, 3) := by decide +kernel
theorem dX12_fault_11 : decode cX12_fault 11 = .ok (.iload_n 1, 1) := by decide +kernel
theorem dX12_fault_12 : decode cX12_fault 12 = .ok (.iconst 1, 1) := by decide +kernel
theorem dX12_fault_13 : decode cX12_fault 13 = .ok (.if_icmp .ne 10, 3) := by decide +kernel
theorem dX12_fault_16 : decode cX12_fault 16 = .ok (.aload_n 0, 1) := by decide +kernel
theorem dX12_fault_17 : decode cX12_fault 17 = .ok (.getfield 44, 3) := by decide +kernel
theorem dX12_fault_20 : decode cX12_fault 20 = .ok (.goto 4, 3) := by decide +kernel
theorem dX12_fault_23 : decode cX12_fault 23 = .ok (.iconst (-1), 1) := by decide +kernel
theorem dX12_fault_24 : decode cX12_fault 24 = .ok (.ireturn, 1) := by decide +kernel
theorem dX12_taken_0 : decode cX12_taken 0 = .ok (.aload_n 0, 1) := by decide +kernel
theorem dX12_taken_1 : decode cX12_taken 1 = .ok (.aload_n 0, 1) := by decide +kernel
theorem dX12_taken_2 : decode cX12_taken 2 = .ok (.getfield 174, 3) := by decide +kernel
theorem dX12_taken_5 : decode cX12_taken 5 = .ok (.putfield 40, 3) := by decide +kernel
theorem dX12_taken_8 : decode cX12_taken 8 = .ok (.aload_n 0, 1) := by decide +kernel
theorem dX12_taken_9 : decode cX12_taken 9 = .ok (.getfield 174, 3) := by decide +kernel
theorem dX12_taken_12 : decode cX12_taken 12 = .ok (.ifCond .le 12, 3) := by decide +kernel
theorem dX12_taken_15 : decode cX12_taken 15 = .ok (.aload_n 0, 1) := by decide +kernel
theorem dX12_taken_16 : decode cX12_taken 16 = .ok (.bipush 9, 2) := by decide +kernel
theorem dX12_taken_18 : decode cX12_taken 18 = .ok (.invokevirtual 197, 3) := by decide +kernel
theorem dX12_taken_21 : decode cX12_taken 21 = .ok (.goto 8, 3) := by decide +kernel
theorem dX12_taken_24 : decode cX12_taken 24 = .ok (.aload_n 0, 1) := by decide +kernel
theorem dX12_taken_25 : decode cX12_taken 25 = .ok (.iload_n 1, 1) := by decide +kernel
theorem dX12_taken_26 : decode cX12_taken 26 = .ok (.invokevirtual 200, 3) := by decide +kernel
theorem dX12_taken_29 : decode cX12_taken 29 = .ok (.ireturn, 1) := by decide +kernel
theorem dX12_isFree_0 : decode cX12_isFree 0 = .ok (.aload_n 0, 1) := by decide +kernel
theorem dX12_isFree_1 : decode cX12_isFree 1 = .ok (.sipush 176, 3) := by decide +kernel
theorem dX12_isFree_4 : decode cX12_isFree 4 = .ok (.aload_n 0, 1) := by decide +kernel
theorem dX12_isFree_5 : decode cX12_isFree 5 = .ok (.getfield 7, 3) := by decide +kernel
theorem dX12_isFree_8 : decode cX12_isFree 8 = .ok (.sipush 1600, 3) := by decide +kernel
theorem dX12_isFree_11 : decode cX12_isFree 11 = .ok (.iaload, 1) := by decide +kernel
theorem dX12_isFree_12 : decode cX12_isFree 12 = .ok (.invokevirtual 203, 3) := by decide +kernel
theorem dX12_isFree_15 : decode cX12_isFree 15 = .ok (.iconst (-1), 1) := by decide +kernel
theorem dX12_isFree_16 : decode cX12_isFree 16 = .ok (.if_icmp .ne 64, 3) := by decide +kernel
theorem dX12_isFree_19 : decode cX12_isFree 19 = .ok (.aload_n 0, 1) := by decide +kernel
theorem dX12_isFree_20 : decode cX12_isFree 20 = .ok (.sipush 180, 3) := by decide +kernel
theorem dX12_isFree_23 : decode cX12_isFree 23 = .ok (.aload_n 0, 1) := by decide +kernel
theorem dX12_isFree_24 : decode cX12_isFree 24 = .ok (.getfield 7, 3) := by decide +kernel
theorem dX12_isFree_27 : decode cX12_isFree 27 = .ok (.sipush 1601, 3) := by decide +kernel
theorem dX12_isFree_30 : decode cX12_isFree 30 = .ok (.iaload, 1) := by decide +kernel
theorem dX12_isFree_31 : decode cX12_isFree 31 = .ok (.invokevirtual 203, 3) := by decide +kernel
theorem dX12_isFree_34 : decode cX12_isFree 34 = .ok (.iconst (-1), 1) := by decide +kernel
theorem dX12_isFree_35 : decode cX12_isFree 35 = .ok (.if_icmp .ne 45, 3) := by decide +kernel
theorem dX12_isFree_38 : decode cX12_isFree 38 = .ok (.aload_n 0, 1) := by decide +kernel
theorem dX12_isFree_39 : decode cX12_isFree 39 = .ok (.sipush 204, 3) := by decide +kernel
theorem dX12_isFree_42 : decode cX12_isFree 42 = .ok (.aload_n 0, 1) := by decide +kernel
theorem dX12_isFree_43 : decode cX12_isFree 43 = .ok (.getfield 7, 3) := by decide +kernel
theorem dX12_isFree_46 : decode cX12_isFree 46 = .ok (.sipush 1603, 3) := by decide +kernel
theorem dX12_isFree_49 : decode cX12_isFree 49 = .ok (.iaload, 1) := by decide +kernel
theorem dX12_isFree_50 : decode cX12_isFree 50 = .ok (.invokevirtual 203, 3) := by decide +kernel
theorem dX12_isFree_53 : decode cX12_isFree 53 = .ok (.iconst (-1), 1) := by decide +kernel
theorem dX12_isFree_54 : decode cX12_isFree 54 = .ok (.if_icmp .ne 26, 3) := by decide +kernel
theorem dX12_isFree_57 : decode cX12_isFree 57 = .ok (.aload_n 0, 1) := by decide +kernel
theorem dX12_isFree_58 : decode cX12_isFree 58 = .ok (.sipush 216, 3) := by decide +kernel
theorem dX12_isFree_61 : decode cX12_isFree 61 = .ok (.aload_n 0, 1) := by decide +kernel
theorem dX12_isFree_62 : decode cX12_isFree 62 = .ok (.getfield 7, 3) := by decide +kernel
theorem dX12_isFree_65 : decode cX12_isFree 65 = .ok (.sipush 1604, 3) := by decide +kernel
theorem dX12_isFree_68 : decode cX12_isFree 68 = .ok (.iaload, 1) := by decide +kernel
theorem dX12_isFree_69 : decode cX12_isFree 69 = .ok (.invokevirtual 203, 3) := by decide +kernel
theorem dX12_isFree_72 : decode cX12_isFree 72 = .ok (.iconst (-1), 1) := by decide +kernel
theorem dX12_isFree_73 : decode cX12_isFree 73 = .ok (.if_icmp .ne 7, 3) := by decide +kernel
theorem dX12_isFree_76 : decode cX12_isFree 76 = .ok (.iconst 1, 1) := by decide +kernel
theorem dX12_isFree_77 : decode cX12_isFree 77 = .ok (.goto 4, 3) := by decide +kernel
theorem dX12_isFree_80 : decode cX12_isFree 80 = .ok (.iconst 0, 1) := by decide +kernel
theorem dX12_isFree_81 : decode cX12_isFree 81 = .ok (.ireturn, 1) := by decide +kernel
theorem dX12_newName_0 : decode cX12_newName 0 = .ok (.aload_n 0, 1) := by decide +kernel
theorem dX12_newName_1 : decode cX12_newName 1 = .ok (.ldc 206, 2) := by decide +kernel
theorem dX12_newName_3 : decode cX12_newName 3 = .ok (.invokevirtual 208, 3) := by decide +kernel
theorem dX12_newName_6 : decode cX12_newName 6 = .ok (.ifCond .ne 9, 3) := by decide +kernel
theorem dX12_newName_9 : decode cX12_newName 9 = .ok (.aload_n 0, 1) := by decide +kernel
theorem dX12_newName_10 : decode cX12_newName 10 = .ok (.iconst 2, 1) := by decide +kernel
theorem dX12_newName_11 : decode cX12_newName 11 = .ok (.invokevirtual 186, 3) := by decide +kernel
theorem dX12_newName_14 : decode cX12_newName 14 = .ok (.ireturn, 1) := by decide +kernel
theorem dX12_newName_15 : decode cX12_newName 15 = .ok (.aload_n 0, 1) := by decide +kernel
theorem dX12_newName_16 : decode cX12_newName 16 = .ok (.invokevirtual 212, 3) := by decide +kernel
theorem dX12_newName_19 : decode cX12_newName 19 = .ok (.ifCond .ne 9, 3) := by decide +kernel
theorem dX12_newName_22 : decode cX12_newName 22 = .ok (.aload_n 0, 1) := by decide +kernel
theorem dX12_newName_23 : decode cX12_newName 23 = .ok (.iconst 3, 1) := by decide +kernel
theorem dX12_newName_24 : decode cX12_newName 24 = .ok (.invokevirtual 186, 3) := by decide +kernel
theorem dX12_newName_27 : decode cX12_newName 27 = .ok (.ireturn, 1) := by decide +kernel
theorem dX12_newName_28 : decode cX12_newName 28 = .ok (.aload_n 0, 1) := by decide +kernel
theorem dX12_newName_29 : decode cX12_newName 29 = .ok (.getfield 17, 3) := by decide +kernel
theorem dX12_newName_32 : decode cX12_newName 32 = .ok (.sipush 176, 3) := by decide +kernel
theorem dX12_newName_35 : decode cX12_newName 35 = .ok (.iload_n 1, 1) := by decide +kernel
theorem dX12_newName_36 : decode cX12_newName 36 = .ok (.iadd, 1) := by decide +kernel
theorem dX12_newName_37 : decode cX12_newName 37 = .ok (.iload_n 2, 1) := by decide +kernel
theorem dX12_newName_38 : decode cX12_newName 38 = .ok (.iadd, 1) := by decide +kernel
theorem dX12_newName_39 : decode cX12_newName 39 = .ok (.aload_n 0, 1) := by decide +kernel
theorem dX12_newName_40 : decode cX12_newName 40 = .ok (.invokevirtual 193, 3) := by decide +kernel
theorem dX12_newName_43 : decode cX12_newName 43 = .ok (.lastore, 1) := by decide +kernel
theorem dX12_newName_44 : decode cX12_newName 44 = .ok (.aload_n 0, 1) := by decide +kernel
theorem dX12_newName_45 : decode cX12_newName 45 = .ok (.invokevirtual 180, 3) := by decide +kernel
theorem dX12_newName_48 : decode cX12_newName 48 = .ok (.iconst 1, 1) := by decide +kernel
theorem dX12_newName_49 : decode cX12_newName 49 = .ok (.ireturn, 1) := by decide +kernel
theorem dX12_oldName_0 : decode cX12_oldName 0 = .ok (.aload_n 0, 1) := by decide +kernel
theorem dX12_oldName_1 : decode cX12_oldName 1 = .ok (.ldc 206, 2) := by decide +kernel
theorem dX12_oldName_3 : decode cX12_oldName 3 = .ok (.invokevirtual 208, 3) := by decide +kernel
theorem dX12_oldName_6 : decode cX12_oldName 6 = .ok (.ifCond .ne 9, 3) := by decide +kernel
theorem dX12_oldName_9 : decode cX12_oldName 9 = .ok (.aload_n 0, 1) := by decide +kernel
theorem dX12_oldName_10 : decode cX12_oldName 10 = .ok (.iconst 2, 1) := by decide +kernel
theorem dX12_oldName_11 : decode cX12_oldName 11 = .ok (.invokevirtual 186, 3) := by decide +kernel
theorem dX12_oldName_14 : decode cX12_oldName 14 = .ok (.ireturn, 1) := by decide +kernel
theorem dX12_oldName_15 : decode cX12_oldName 15 = .ok (.aload_n 0, 1) := by decide +kernel
theorem dX12_oldName_16 : decode cX12_oldName 16 = .ok (.aload_n 0, 1) := by decide +kernel
theorem dX12_oldName_17 : decode cX12_oldName 17 = .ok (.iload_n 1, 1) := by decide +kernel
theorem dX12_oldName_18 : decode cX12_oldName 18 = .ok (.iload_n 2, 1) := by decide +kernel
theorem dX12_oldName_19 : decode cX12_oldName 19 = .ok (.iadd, 1) := by decide +kernel
theorem dX12_oldName_20 : decode cX12_oldName 20 = .ok (.iload_n 3, 1) := by decide +kernel
theorem dX12_oldName_21 : decode cX12_oldName 21 = .ok (.invokevirtual 203, 3) := by decide +kernel
theorem dX12_oldName_24 : decode cX12_oldName 24 = .ok (.putfield 216, 3) := by decide +kernel
theorem dX12_oldName_27 : decode cX12_oldName 27 = .ok (.aload_n 0, 1) := by decide +kernel
theorem dX12_oldName_28 : decode cX12_oldName 28 = .ok (.getfield 216, 3) := by decide +kernel
theorem dX12_oldName_31 : decode cX12_oldName 31 = .ok (.iconst (-1), 1) := by decide +kernel
theorem dX12_oldName_32 : decode cX12_oldName 32 = .ok (.if_icmp .ne 11, 3) := by decide +kernel
theorem dX12_oldName_35 : decode cX12_oldName 35 = .ok (.aload_n 0, 1) := by decide +kernel
theorem dX12_oldName_36 : decode cX12_oldName 36 = .ok (.iconst 3, 1) := by decide +kernel
theorem dX12_oldName_37 : decode cX12_oldName 37 = .ok (.invokevirtual 186, 3) := by decide +kernel
theorem dX12_oldName_40 : decode cX12_oldName 40 = .ok (.goto 4, 3) := by decide +kernel
theorem dX12_oldName_43 : decode cX12_oldName 43 = .ok (.iconst 1, 1) := by decide +kernel
theorem dX12_oldName_44 : decode cX12_oldName 44 = .ok (.ireturn, 1) := by decide +kernel
theorem dX12_aFact_0 : decode cX12_aFact 0 = .ok (.aload_n 0, 1) := by decide +kernel
theorem dX12_aFact_1 : decode cX12_aFact 1 = .ok (.getfield 7, 3) := by decide +kernel
theorem dX12_aFact_4 : decode cX12_aFact 4 = .ok (.sipush 1600, 3) := by decide +kernel
theorem dX12_aFact_7 : decode cX12_aFact 7 = .ok (.iaload, 1) := by decide +kernel
theorem dX12_aFact_8 : decode cX12_aFact 8 = .ok (.istore_n 1, 1) := by decide +kernel
theorem dX12_aFact_9 : decode cX12_aFact 9 = .ok (.iload_n 1, 1) := by decide +kernel
theorem dX12_aFact_10 : decode cX12_aFact 10 = .ok (.iconst 4, 1) := by decide +kernel
theorem dX12_aFact_11 : decode cX12_aFact 11 = .ok (.if_icmp .ne 10, 3) := by decide +kernel
theorem dX12_aFact_14 : decode cX12_aFact 14 = .ok (.aload_n 0, 1) := by decide +kernel
theorem dX12_aFact_15 : decode cX12_aFact 15 = .ok (.bipush 6, 2) := by decide +kernel
theorem dX12_aFact_17 : decode cX12_aFact 17 = .ok (.invokevirtual 186, 3) := by decide +kernel
theorem dX12_aFact_20 : decode cX12_aFact 20 = .ok (.ireturn, 1) := by decide +kernel
theorem dX12_aFact_21 : decode cX12_aFact 21 = .ok (.aload_n 0, 1) := by decide +kernel
theorem dX12_aFact_22 : decode cX12_aFact 22 = .ok (.getfield 7, 3) := by decide +kernel
theorem dX12_aFact_25 : decode cX12_aFact 25 = .ok (.sipush 1603, 3) := by decide +kernel
theorem dX12_aFact_28 : decode cX12_aFact 28 = .ok (.iaload, 1) := by decide +kernel
theorem dX12_aFact_29 : decode cX12_aFact 29 = .ok (.ifCond .le 10, 3) := by decide +kernel
theorem dX12_aFact_32 : decode cX12_aFact 32 = .ok (.aload_n 0, 1) := by decide +kernel
theorem dX12_aFact_33 : decode cX12_aFact 33 = .ok (.bipush 7, 2) := by decide +kernel
theorem dX12_aFact_35 : decode cX12_aFact 35 = .ok (.invokevirtual 186, 3) := by decide +kernel
theorem dX12_aFact_38 : decode cX12_aFact 38 = .ok (.ireturn, 1) := by decide +kernel
theorem dX12_aFact_39 : decode cX12_aFact 39 = .ok (.aload_n 0, 1) := by decide +kernel
theorem dX12_aFact_40 : decode cX12_aFact 40 = .ok (.invokevirtual 180, 3) := by decide +kernel
theorem dX12_aFact_43 : decode cX12_aFact 43 = .ok (.aload_n 0, 1) := by decide +kernel
theorem dX12_aFact_44 : decode cX12_aFact 44 = .ok (.iconst 0, 1) := by decide +kernel
theorem dX12_aFact_45 : decode cX12_aFact 45 = .ok (.iload_n 1, 1) := by decide +kernel
theorem dX12_aFact_46 : decode cX12_aFact 46 = .ok (.invokevirtual 219, 3) := by decide +kernel
theorem dX12_aFact_49 : decode cX12_aFact 49 = .ok (.ifCond .ne 5, 3) := by decide +kernel
theorem dX12_aFact_52 : decode cX12_aFact 52 = .ok (.iconst 0, 1) := by decide +kernel
theorem dX12_aFact_53 : decode cX12_aFact 53 = .ok (.ireturn, 1) := by decide +kernel
theorem dX12_aFact_54 : decode cX12_aFact 54 = .ok (.aload_n 0, 1) := by decide +kernel
theorem dX12_aFact_55 : decode cX12_aFact 55 = .ok (.getfield 7, 3) := by decide +kernel
theorem dX12_aFact_58 : decode cX12_aFact 58 = .ok (.sipush 1600, 3) := by decide +kernel
theorem dX12_aFact_61 : decode cX12_aFact 61 = .ok (.dup2, 1) := by decide +kernel
theorem dX12_aFact_62 : decode cX12_aFact 62 = .ok (.iaload, 1) := by decide +kernel
theorem dX12_aFact_63 : decode cX12_aFact 63 = .ok (.iconst 1, 1) := by decide +kernel
theorem dX12_aFact_64 : decode cX12_aFact 64 = .ok (.iadd, 1) := by decide +kernel
theorem dX12_aFact_65 : decode cX12_aFact 65 = .ok (.iastore, 1) := by decide +kernel
theorem dX12_aFact_66 : decode cX12_aFact 66 = .ok (.aload_n 0, 1) := by decide +kernel
theorem dX12_aFact_67 : decode cX12_aFact 67 = .ok (.ldc 206, 2) := by decide +kernel
theorem dX12_aFact_69 : decode cX12_aFact 69 = .ok (.iconst 4, 1) := by decide +kernel
theorem dX12_aFact_70 : decode cX12_aFact 70 = .ok (.invokevirtual 223, 3) := by decide +kernel
theorem dX12_aFact_73 : decode cX12_aFact 73 = .ok (.ifCond .ne 5, 3) := by decide +kernel
theorem dX12_aFact_76 : decode cX12_aFact 76 = .ok (.iconst 0, 1) := by decide +kernel
theorem dX12_aFact_77 : decode cX12_aFact 77 = .ok (.ireturn, 1) := by decide +kernel
theorem dX12_aFact_78 : decode cX12_aFact 78 = .ok (.aload_n 0, 1) := by decide +kernel
theorem dX12_aFact_79 : decode cX12_aFact 79 = .ok (.ldc 206, 2) := by decide +kernel
theorem dX12_aFact_81 : decode cX12_aFact 81 = .ok (.invokevirtual 208, 3) := by decide +kernel
theorem dX12_aFact_84 : decode cX12_aFact 84 = .ok (.ifCond .ne 9, 3) := by decide +kernel
theorem dX12_aFact_87 : decode cX12_aFact 87 = .ok (.aload_n 0, 1) := by decide +kernel
theorem dX12_aFact_88 : decode cX12_aFact 88 = .ok (.iconst 2, 1) := by decide +kernel
theorem dX12_aFact_89 : decode cX12_aFact 89 = .ok (.invokevirtual 186, 3) := by decide +kernel
theorem dX12_aFact_92 : decode cX12_aFact 92 = .ok (.ireturn, 1) := by decide +kernel
theorem dX12_aFact_93 : decode cX12_aFact 93 = .ok (.aload_n 0, 1) := by decide +kernel
theorem dX12_aFact_94 : decode cX12_aFact 94 = .ok (.getfield 7, 3) := by decide +kernel
theorem dX12_aFact_97 : decode cX12_aFact 97 = .ok (.sipush 1656, 3) := by decide +kernel
theorem dX12_aFact_100 : decode cX12_aFact 100 = .ok (.iload_n 1, 1) := by decide +kernel
theorem dX12_aFact_101 : decode cX12_aFact 101 = .ok (.iadd, 1) := by decide +kernel
theorem dX12_aFact_102 : decode cX12_aFact 102 = .ok (.aload_n 0, 1) := by decide +kernel
theorem dX12_aFact_103 : decode cX12_aFact 103 = .ok (.getfield 7, 3) := by decide +kernel
theorem dX12_aFact_106 : decode cX12_aFact 106 = .ok (.sipush 1601, 3) := by decide +kernel
theorem dX12_aFact_109 : decode cX12_aFact 109 = .ok (.iaload, 1) := by decide +kernel
theorem dX12_aFact_110 : decode cX12_aFact 110 = .ok (.iastore, 1) := by decide +kernel
theorem dX12_aFact_111 : decode cX12_aFact 111 = .ok (.iconst 0, 1) := by decide +kernel
theorem dX12_aFact_112 : decode cX12_aFact 112 = .ok (.istore_n 2, 1) := by decide +kernel
theorem dX12_aFact_113 : decode cX12_aFact 113 = .ok (.aload_n 0, 1) := by decide +kernel
theorem dX12_aFact_114 : decode cX12_aFact 114 = .ok (.ldc 206, 2) := by decide +kernel
theorem dX12_aFact_116 : decode cX12_aFact 116 = .ok (.invokevirtual 208, 3) := by decide +kernel
theorem dX12_aFact_119 : decode cX12_aFact 119 = .ok (.ifCond .eq 121, 3) := by decide +kernel
theorem dX12_aFact_122 : decode cX12_aFact 122 = .ok (.aload_n 0, 1) := by decide +kernel
theorem dX12_aFact_123 : decode cX12_aFact 123 = .ok (.invokevirtual 212, 3) := by decide +kernel
theorem dX12_aFact_126 : decode cX12_aFact 126 = .ok (.ifCond .ne 9, 3) := by decide +kernel
theorem dX12_aFact_129 : decode cX12_aFact 129 = .ok (.aload_n 0, 1) := by decide +kernel
theorem dX12_aFact_130 : decode cX12_aFact 130 = .ok (.iconst 3, 1) := by decide +kernel
theorem dX12_aFact_131 : decode cX12_aFact 131 = .ok (.invokevirtual 186, 3) := by decide +kernel
theorem dX12_aFact_134 : decode cX12_aFact 134 = .ok (.ireturn, 1) := by decide +kernel
theorem dX12_aFact_135 : decode cX12_aFact 135 = .ok (.iload_n 2, 1) := by decide +kernel
theorem dX12_aFact_136 : decode cX12_aFact 136 = .ok (.bipush 6, 2) := by decide +kernel
theorem dX12_aFact_138 : decode cX12_aFact 138 = .ok (.if_icmp .ne 10, 3) := by decide +kernel
theorem dX12_aFact_141 : decode cX12_aFact 141 = .ok (.aload_n 0, 1) := by decide +kernel
theorem dX12_aFact_142 : decode cX12_aFact 142 = .ok (.bipush 6, 2) := by decide +kernel
theorem dX12_aFact_144 : decode cX12_aFact 144 = .ok (.invokevirtual 186, 3) := by decide +kernel
theorem dX12_aFact_147 : decode cX12_aFact 147 = .ok (.ireturn, 1) := by decide +kernel
theorem dX12_aFact_148 : decode cX12_aFact 148 = .ok (.aload_n 0, 1) := by decide +kernel
theorem dX12_aFact_149 : decode cX12_aFact 149 = .ok (.getfield 7, 3) := by decide +kernel
theorem dX12_aFact_152 : decode cX12_aFact 152 = .ok (.sipush 1601, 3) := by decide +kernel
theorem dX12_aFact_155 : decode cX12_aFact 155 = .ok (.iaload, 1) := by decide +kernel
theorem dX12_aFact_156 : decode cX12_aFact 156 = .ok (.istore_n 3, 1) := by decide +kernel
theorem dX12_aFact_157 : decode cX12_aFact 157 = .ok (.aload_n 0, 1) := by decide +kernel
theorem dX12_aFact_158 : decode cX12_aFact 158 = .ok (.getfield 17, 3) := by decide +kernel
theorem dX12_aFact_161 : decode cX12_aFact 161 = .ok (.sipush 180, 3) := by decide +kernel
theorem dX12_aFact_164 : decode cX12_aFact 164 = .ok (.iload_n 3, 1) := by decide +kernel
theorem dX12_aFact_165 : decode cX12_aFact 165 = .ok (.iadd, 1) := by decide +kernel
theorem dX12_aFact_166 : decode cX12_aFact 166 = .ok (.aload_n 0, 1) := by decide +kernel
theorem dX12_aFact_167 : decode cX12_aFact 167 = .ok (.invokevirtual 193, 3) := by decide +kernel
theorem dX12_aFact_170 : decode cX12_aFact 170 = .ok (.lastore, 1) := by decide +kernel
theorem dX12_aFact_171 : decode cX12_aFact 171 = .ok (.aload_n 0, 1) := by decide +kernel
theorem dX12_aFact_172 : decode cX12_aFact 172 = .ok (.getfield 7, 3) := by decide +kernel
theorem dX12_aFact_175 : decode cX12_aFact 175 = .ok (.sipush 1608, 3) := by decide +kernel
theorem dX12_aFact_178 : decode cX12_aFact 178 = .ok (.iload_n 3, 1) := by decide +kernel
theorem dX12_aFact_179 : decode cX12_aFact 179 = .ok (.iadd, 1) := by decide +kernel
theorem dX12_aFact_180 : decode cX12_aFact 180 = .ok (.iload_n 1, 1) := by decide +kernel
theorem dX12_aFact_181 : decode cX12_aFact 181 = .ok (.iastore, 1) := by decide +kernel
theorem dX12_aFact_182 : decode cX12_aFact 182 = .ok (.aload_n 0, 1) := by decide +kernel
theorem dX12_aFact_183 : decode cX12_aFact 183 = .ok (.getfield 7, 3) := by decide +kernel
theorem dX12_aFact_186 : decode cX12_aFact 186 = .ok (.sipush 1632, 3) := by decide +kernel
theorem dX12_aFact_189 : decode cX12_aFact 189 = .ok (.iload_n 3, 1) := by decide +kernel
theorem dX12_aFact_190 : decode cX12_aFact 190 = .ok (.iadd, 1) := by decide +kernel
theorem dX12_aFact_191 : decode cX12_aFact 191 = .ok (.iconst 1, 1) := by decide +kernel
theorem dX12_aFact_192 : decode cX12_aFact 192 = .ok (.iastore, 1) := by decide +kernel
theorem dX12_aFact_193 : decode cX12_aFact 193 = .ok (.aload_n 0, 1) := by decide +kernel
theorem dX12_aFact_194 : decode cX12_aFact 194 = .ok (.getfield 7, 3) := by decide +kernel
theorem dX12_aFact_197 : decode cX12_aFact 197 = .ok (.sipush 1601, 3) := by decide +kernel
theorem dX12_aFact_200 : decode cX12_aFact 200 = .ok (.dup2, 1) := by decide +kernel
theorem dX12_aFact_201 : decode cX12_aFact 201 = .ok (.iaload, 1) := by decide +kernel
theorem dX12_aFact_202 : decode cX12_aFact 202 = .ok (.iconst 1, 1) := by decide +kernel
theorem dX12_aFact_203 : decode cX12_aFact 203 = .ok (.iadd, 1) := by decide +kernel
theorem dX12_aFact_204 : decode cX12_aFact 204 = .ok (.iastore, 1) := by decide +kernel
theorem dX12_aFact_205 : decode cX12_aFact 205 = .ok (.iinc 2 1, 3) := by decide +kernel
theorem dX12_aFact_208 : decode cX12_aFact 208 = .ok (.aload_n 0, 1) := by decide +kernel
theorem dX12_aFact_209 : decode cX12_aFact 209 = .ok (.invokevirtual 180, 3) := by decide +kernel
theorem dX12_aFact_212 : decode cX12_aFact 212 = .ok (.aload_n 0, 1) := by decide +kernel
theorem dX12_aFact_213 : decode cX12_aFact 213 = .ok (.getfield 149, 3) := by decide +kernel
theorem dX12_aFact_216 : decode cX12_aFact 216 = .ok (.iconst 3, 1) := by decide +kernel
theorem dX12_aFact_217 : decode cX12_aFact 217 = .ok (.if_icmp .ne 20, 3) := by decide +kernel
theorem dX12_aFact_220 : decode cX12_aFact 220 = .ok (.aload_n 0, 1) := by decide +kernel
theorem dX12_aFact_221 : decode cX12_aFact 221 = .ok (.sipush 1632, 3) := by decide +kernel
theorem dX12_aFact_224 : decode cX12_aFact 224 = .ok (.iload_n 3, 1) := by decide +kernel
theorem dX12_aFact_225 : decode cX12_aFact 225 = .ok (.iadd, 1) := by decide +kernel
theorem dX12_aFact_226 : decode cX12_aFact 226 = .ok (.iconst 1, 1) := by decide +kernel
theorem dX12_aFact_227 : decode cX12_aFact 227 = .ok (.bipush 9, 2) := by decide +kernel
theorem dX12_aFact_229 : decode cX12_aFact 229 = .ok (.invokevirtual 227, 3) := by decide +kernel
theorem dX12_aFact_232 : decode cX12_aFact 232 = .ok (.ifCond .ne 5, 3) := by decide +kernel
theorem dX12_aFact_235 : decode cX12_aFact 235 = .ok (.iconst 0, 1) := by decide +kernel
theorem dX12_aFact_236 : decode cX12_aFact 236 = .ok (.ireturn, 1) := by decide +kernel
theorem dX12_aFact_237 : decode cX12_aFact 237 = .ok (.goto (-124), 3) := by decide +kernel
theorem dX12_aFact_240 : decode cX12_aFact 240 = .ok (.aload_n 0, 1) := by decide +kernel
theorem dX12_aFact_241 : decode cX12_aFact 241 = .ok (.bipush 59, 2) := by decide +kernel
theorem dX12_aFact_243 : decode cX12_aFact 243 = .ok (.invokevirtual 183, 3) := by decide +kernel
theorem dX12_aFact_246 : decode cX12_aFact 246 = .ok (.ifCond .ne 9, 3) := by decide +kernel
theorem dX12_aFact_249 : decode cX12_aFact 249 = .ok (.aload_n 0, 1) := by decide +kernel
theorem dX12_aFact_250 : decode cX12_aFact 250 = .ok (.iconst 2, 1) := by decide +kernel
theorem dX12_aFact_251 : decode cX12_aFact 251 = .ok (.invokevirtual 186, 3) := by decide +kernel
theorem dX12_aFact_254 : decode cX12_aFact 254 = .ok (.ireturn, 1) := by decide +kernel
theorem dX12_aFact_255 : decode cX12_aFact 255 = .ok (.iload_n 2, 1) := by decide +kernel
theorem dX12_aFact_256 : decode cX12_aFact 256 = .ok (.iconst 2, 1) := by decide +kernel
theorem dX12_aFact_257 : decode cX12_aFact 257 = .ok (.if_icmp .lt 19, 3) := by decide +kernel
theorem dX12_aFact_260 : decode cX12_aFact 260 = .ok (.aload_n 0, 1) := by decide +kernel
theorem dX12_aFact_261 : decode cX12_aFact 261 = .ok (.getfield 7, 3) := by decide +kernel
theorem dX12_aFact_264 : decode cX12_aFact 264 = .ok (.sipush 1602, 3) := by decide +kernel
theorem dX12_aFact_267 : decode cX12_aFact 267 = .ok (.iaload, 1) := by decide +kernel
theorem dX12_aFact_268 : decode cX12_aFact 268 = .ok (.iload_n 2, 1) := by decide +kernel
theorem dX12_aFact_269 : decode cX12_aFact 269 = .ok (.imul, 1) := by decide +kernel
theorem dX12_aFact_270 : decode cX12_aFact 270 = .ok (.sipush 256, 3) := by decide +kernel
theorem dX12_aFact_273 : decode cX12_aFact 273 = .ok (.if_icmp .le 10, 3) := by decide +kernel
theorem dX12_aFact_276 : decode cX12_aFact 276 = .ok (.aload_n 0, 1) := by decide +kernel
theorem dX12_aFact_277 : decode cX12_aFact 277 = .ok (.bipush 8, 2) := by decide +kernel
theorem dX12_aFact_279 : decode cX12_aFact 279 = .ok (.invokevirtual 186, 3) := by decide +kernel
theorem dX12_aFact_282 : decode cX12_aFact 282 = .ok (.ireturn, 1) := by decide +kernel
theorem dX12_aFact_283 : decode cX12_aFact 283 = .ok (.aload_n 0, 1) := by decide +kernel
theorem dX12_aFact_284 : decode cX12_aFact 284 = .ok (.getfield 7, 3) := by decide +kernel
theorem dX12_aFact_287 : decode cX12_aFact 287 = .ok (.sipush 1660, 3) := by decide +kernel
theorem dX12_aFact_290 : decode cX12_aFact 290 = .ok (.iload_n 1, 1) := by decide +kernel
theorem dX12_aFact_291 : decode cX12_aFact 291 = .ok (.iadd, 1) := by decide +kernel
theorem dX12_aFact_292 : decode cX12_aFact 292 = .ok (.iload_n 2, 1) := by decide +kernel
theorem dX12_aFact_293 : decode cX12_aFact 293 = .ok (.iastore, 1) := by decide +kernel
theorem dX12_aFact_294 : decode cX12_aFact 294 = .ok (.aload_n 0, 1) := by decide +kernel
theorem dX12_aFact_295 : decode cX12_aFact 295 = .ok (.getfield 7, 3) := by decide +kernel
theorem dX12_aFact_298 : decode cX12_aFact 298 = .ok (.sipush 1602, 3) := by decide +kernel
theorem dX12_aFact_301 : decode cX12_aFact 301 = .ok (.dup2, 1) := by decide +kernel
theorem dX12_aFact_302 : decode cX12_aFact 302 = .ok (.iaload, 1) := by decide +kernel
theorem dX12_aFact_303 : decode cX12_aFact 303 = .ok (.iload_n 2, 1) := by decide +kernel
theorem dX12_aFact_304 : decode cX12_aFact 304 = .ok (.imul, 1) := by decide +kernel
theorem dX12_aFact_305 : decode cX12_aFact 305 = .ok (.iastore, 1) := by decide +kernel
theorem dX12_aFact_306 : decode cX12_aFact 306 = .ok (.iconst 1, 1) := by decide +kernel
theorem dX12_aFact_307 : decode cX12_aFact 307 = .ok (.ireturn, 1) := by decide +kernel
theorem dX12_aNever_0 : decode cX12_aNever 0 = .ok (.aload_n 0, 1) := by decide +kernel
theorem dX12_aNever_1 : decode cX12_aNever 1 = .ok (.getfield 7, 3) := by decide +kernel
theorem dX12_aNever_4 : decode cX12_aNever 4 = .ok (.sipush 1603, 3) := by decide +kernel
theorem dX12_aNever_7 : decode cX12_aNever 7 = .ok (.iaload, 1) := by decide +kernel
theorem dX12_aNever_8 : decode cX12_aNever 8 = .ok (.ifCond .le 10, 3) := by decide +kernel
theorem dX12_aNever_11 : decode cX12_aNever 11 = .ok (.aload_n 0, 1) := by decide +kernel
theorem dX12_aNever_12 : decode cX12_aNever 12 = .ok (.bipush 7, 2) := by decide +kernel
theorem dX12_aNever_14 : decode cX12_aNever 14 = .ok (.invokevirtual 186, 3) := by decide +kernel
theorem dX12_aNever_17 : decode cX12_aNever 17 = .ok (.ireturn, 1) := by decide +kernel
theorem dX12_aNever_18 : decode cX12_aNever 18 = .ok (.aload_n 0, 1) := by decide +kernel
theorem dX12_aNever_19 : decode cX12_aNever 19 = .ok (.invokevirtual 180, 3) := by decide +kernel
theorem dX12_aNever_22 : decode cX12_aNever 22 = .ok (.aload_n 0, 1) := by decide +kernel
theorem dX12_aNever_23 : decode cX12_aNever 23 = .ok (.sipush 176, 3) := by decide +kernel
theorem dX12_aNever_26 : decode cX12_aNever 26 = .ok (.iconst 4, 1) := by decide +kernel
theorem dX12_aNever_27 : decode cX12_aNever 27 = .ok (.aload_n 0, 1) := by decide +kernel
theorem dX12_aNever_28 : decode cX12_aNever 28 = .ok (.getfield 7, 3) := by decide +kernel
theorem dX12_aNever_31 : decode cX12_aNever 31 = .ok (.sipush 1601, 3) := by decide +kernel
theorem dX12_aNever_34 : decode cX12_aNever 34 = .ok (.iaload, 1) := by decide +kernel
theorem dX12_aNever_35 : decode cX12_aNever 35 = .ok (.invokevirtual 231, 3) := by decide +kernel
theorem dX12_aNever_38 : decode cX12_aNever 38 = .ok (.ifCond .ne 5, 3) := by decide +kernel
theorem dX12_aNever_41 : decode cX12_aNever 41 = .ok (.iconst 0, 1) := by decide +kernel
theorem dX12_aNever_42 : decode cX12_aNever 42 = .ok (.ireturn, 1) := by decide +kernel
theorem dX12_aNever_43 : decode cX12_aNever 43 = .ok (.aload_n 0, 1) := by decide +kernel
theorem dX12_aNever_44 : decode cX12_aNever 44 = .ok (.getfield 216, 3) := by decide +kernel
theorem dX12_aNever_47 : decode cX12_aNever 47 = .ok (.istore_n 1, 1) := by decide +kernel
theorem dX12_aNever_48 : decode cX12_aNever 48 = .ok (.aload_n 0, 1) := by decide +kernel
theorem dX12_aNever_49 : decode cX12_aNever 49 = .ok (.invokevirtual 180, 3) := by decide +kernel
theorem dX12_aNever_52 : decode cX12_aNever 52 = .ok (.aload_n 0, 1) := by decide +kernel
theorem dX12_aNever_53 : decode cX12_aNever 53 = .ok (.sipush 176, 3) := by decide +kernel
theorem dX12_aNever_56 : decode cX12_aNever 56 = .ok (.iconst 4, 1) := by decide +kernel
theorem dX12_aNever_57 : decode cX12_aNever 57 = .ok (.aload_n 0, 1) := by decide +kernel
theorem dX12_aNever_58 : decode cX12_aNever 58 = .ok (.getfield 7, 3) := by decide +kernel
theorem dX12_aNever_61 : decode cX12_aNever 61 = .ok (.sipush 1601, 3) := by decide +kernel
theorem dX12_aNever_64 : decode cX12_aNever 64 = .ok (.iaload, 1) := by decide +kernel
theorem dX12_aNever_65 : decode cX12_aNever 65 = .ok (.invokevirtual 231, 3) := by decide +kernel
theorem dX12_aNever_68 : decode cX12_aNever 68 = .ok (.ifCond .ne 5, 3) := by decide +kernel
theorem dX12_aNever_71 : decode cX12_aNever 71 = .ok (.iconst 0, 1) := by decide +kernel
theorem dX12_aNever_72 : decode cX12_aNever 72 = .ok (.ireturn, 1) := by decide +kernel
theorem dX12_aNever_73 : decode cX12_aNever 73 = .ok (.aload_n 0, 1) := by decide +kernel
theorem dX12_aNever_74 : decode cX12_aNever 74 = .ok (.getfield 7, 3) := by decide +kernel
theorem dX12_aNever_77 : decode cX12_aNever 77 = .ok (.sipush 1608, 3) := by decide +kernel
theorem dX12_aNever_80 : decode cX12_aNever 80 = .ok (.iload_n 1, 1) := by decide +kernel
theorem dX12_aNever_81 : decode cX12_aNever 81 = .ok (.iadd, 1) := by decide +kernel
theorem dX12_aNever_82 : decode cX12_aNever 82 = .ok (.iaload, 1) := by decide +kernel
theorem dX12_aNever_83 : decode cX12_aNever 83 = .ok (.aload_n 0, 1) := by decide +kernel
theorem dX12_aNever_84 : decode cX12_aNever 84 = .ok (.getfield 7, 3) := by decide +kernel
theorem dX12_aNever_87 : decode cX12_aNever 87 = .ok (.sipush 1608, 3) := by decide +kernel
theorem dX12_aNever_90 : decode cX12_aNever 90 = .ok (.aload_n 0, 1) := by decide +kernel
theorem dX12_aNever_91 : decode cX12_aNever 91 = .ok (.getfield 216, 3) := by decide +kernel
theorem dX12_aNever_94 : decode cX12_aNever 94 = .ok (.iadd, 1) := by decide +kernel
theorem dX12_aNever_95 : decode cX12_aNever 95 = .ok (.iaload, 1) := by decide +kernel
theorem dX12_aNever_96 : decode cX12_aNever 96 = .ok (.if_icmp .ne 9, 3) := by decide +kernel
theorem dX12_aNever_99 : decode cX12_aNever 99 = .ok (.aload_n 0, 1) := by decide +kernel
theorem dX12_aNever_100 : decode cX12_aNever 100 = .ok (.iconst 5, 1) := by decide +kernel
theorem dX12_aNever_101 : decode cX12_aNever 101 = .ok (.invokevirtual 186, 3) := by decide +kernel
theorem dX12_aNever_104 : decode cX12_aNever 104 = .ok (.ireturn, 1) := by decide +kernel
theorem dX12_aNever_105 : decode cX12_aNever 105 = .ok (.aload_n 0, 1) := by decide +kernel
theorem dX12_aNever_106 : decode cX12_aNever 106 = .ok (.getfield 47, 3) := by decide +kernel
theorem dX12_aNever_109 : decode cX12_aNever 109 = .ok (.iload_n 1, 1) := by decide +kernel
theorem dX12_aNever_110 : decode cX12_aNever 110 = .ok (.dup2, 1) := by decide +kernel
theorem dX12_aNever_111 : decode cX12_aNever 111 = .ok (.iaload, 1) := by decide +kernel
theorem dX12_aNever_112 : decode cX12_aNever 112 = .ok (.iconst 1, 1) := by decide +kernel
theorem dX12_aNever_113 : decode cX12_aNever 113 = .ok (.aload_n 0, 1) := by decide +kernel
theorem dX12_aNever_114 : decode cX12_aNever 114 = .ok (.getfield 216, 3) := by decide +kernel
theorem dX12_aNever_117 : decode cX12_aNever 117 = .ok (.ishl, 1) := by decide +kernel
theorem dX12_aNever_118 : decode cX12_aNever 118 = .ok (.ior, 1) := by decide +kernel
theorem dX12_aNever_119 : decode cX12_aNever 119 = .ok (.iastore, 1) := by decide +kernel
theorem dX12_aNever_120 : decode cX12_aNever 120 = .ok (.aload_n 0, 1) := by decide +kernel
theorem dX12_aNever_121 : decode cX12_aNever 121 = .ok (.getfield 47, 3) := by decide +kernel
theorem dX12_aNever_124 : decode cX12_aNever 124 = .ok (.aload_n 0, 1) := by decide +kernel
theorem dX12_aNever_125 : decode cX12_aNever 125 = .ok (.getfield 216, 3) := by decide +kernel
theorem dX12_aNever_128 : decode cX12_aNever 128 = .ok (.dup2, 1) := by decide +kernel
theorem dX12_aNever_129 : decode cX12_aNever 129 = .ok (.iaload, 1) := by decide +kernel
theorem dX12_aNever_130 : decode cX12_aNever 130 = .ok (.iconst 1, 1) := by decide +kernel
theorem dX12_aNever_131 : decode cX12_aNever 131 = .ok (.iload_n 1, 1) := by decide +kernel
theorem dX12_aNever_132 : decode cX12_aNever 132 = .ok (.ishl, 1) := by decide +kernel
theorem dX12_aNever_133 : decode cX12_aNever 133 = .ok (.ior, 1) := by decide +kernel
theorem dX12_aNever_134 : decode cX12_aNever 134 = .ok (.iastore, 1) := by decide +kernel
theorem dX12_aNever_135 : decode cX12_aNever 135 = .ok (.aload_n 0, 1) := by decide +kernel
theorem dX12_aNever_136 : decode cX12_aNever 136 = .ok (.invokevirtual 180, 3) := by decide +kernel
theorem dX12_aNever_139 : decode cX12_aNever 139 = .ok (.iconst 1, 1) := by decide +kernel
theorem dX12_aNever_140 : decode cX12_aNever 140 = .ok (.ireturn, 1) := by decide +kernel
theorem dX12_valueIn_0 : decode cX12_valueIn 0 = .ok (.iload_n 2, 1) := by decide +kernel
theorem dX12_valueIn_1 : decode cX12_valueIn 1 = .ok (.istore 4, 2) := by decide +kernel
theorem dX12_valueIn_3 : decode cX12_valueIn 3 = .ok (.aload_n 0, 1) := by decide +kernel
theorem dX12_valueIn_4 : decode cX12_valueIn 4 = .ok (.getfield 7, 3) := by decide +kernel
theorem dX12_valueIn_7 : decode cX12_valueIn 7 = .ok (.iload_n 1, 1) := by decide +kernel
theorem dX12_valueIn_8 : decode cX12_valueIn 8 = .ok (.iconst 0, 1) := by decide +kernel
theorem dX12_valueIn_9 : decode cX12_valueIn 9 = .ok (.iadd, 1) := by decide +kernel
theorem dX12_valueIn_10 : decode cX12_valueIn 10 = .ok (.iaload, 1) := by decide +kernel
theorem dX12_valueIn_11 : decode cX12_valueIn 11 = .ok (.iconst 1, 1) := by decide +kernel
theorem dX12_valueIn_12 : decode cX12_valueIn 12 = .ok (.isub, 1) := by decide +kernel
theorem dX12_valueIn_13 : decode cX12_valueIn 13 = .ok (.istore 5, 2) := by decide +kernel
theorem dX12_valueIn_15 : decode cX12_valueIn 15 = .ok (.iload 5, 2) := by decide +kernel
theorem dX12_valueIn_17 : decode cX12_valueIn 17 = .ok (.iload_n 3, 1) := by decide +kernel
theorem dX12_valueIn_18 : decode cX12_valueIn 18 = .ok (.if_icmp .le 26, 3) := by decide +kernel
theorem dX12_valueIn_21 : decode cX12_valueIn 21 = .ok (.iload 4, 2) := by decide +kernel
theorem dX12_valueIn_23 : decode cX12_valueIn 23 = .ok (.aload_n 0, 1) := by decide +kernel
theorem dX12_valueIn_24 : decode cX12_valueIn 24 = .ok (.getfield 7, 3) := by decide +kernel
theorem dX12_valueIn_27 : decode cX12_valueIn 27 = .ok (.iload_n 1, 1) := by decide +kernel
theorem dX12_valueIn_28 : decode cX12_valueIn 28 = .ok (.bipush 60, 2) := by decide +kernel
theorem dX12_valueIn_30 : decode cX12_valueIn 30 = .ok (.iadd, 1) := by decide +kernel
theorem dX12_valueIn_31 : decode cX12_valueIn 31 = .ok (.iload 5, 2) := by decide +kernel
theorem dX12_valueIn_33 : decode cX12_valueIn 33 = .ok (.iadd, 1) := by decide +kernel
theorem dX12_valueIn_34 : decode cX12_valueIn 34 = .ok (.iaload, 1) := by decide +kernel
theorem dX12_valueIn_35 : decode cX12_valueIn 35 = .ok (.idiv, 1) := by decide +kernel
theorem dX12_valueIn_36 : decode cX12_valueIn 36 = .ok (.istore 4, 2) := by decide +kernel
theorem dX12_valueIn_38 : decode cX12_valueIn 38 = .ok (.iinc 5 (-1), 3) := by decide +kernel
theorem dX12_valueIn_41 : decode cX12_valueIn 41 = .ok (.goto (-26), 3) := by decide +kernel
theorem dX12_valueIn_44 : decode cX12_valueIn 44 = .ok (.aload_n 0, 1) := by decide +kernel
theorem dX12_valueIn_45 : decode cX12_valueIn 45 = .ok (.getfield 7, 3) := by decide +kernel
theorem dX12_valueIn_48 : decode cX12_valueIn 48 = .ok (.iload_n 1, 1) := by decide +kernel
theorem dX12_valueIn_49 : decode cX12_valueIn 49 = .ok (.bipush 56, 2) := by decide +kernel
theorem dX12_valueIn_51 : decode cX12_valueIn 51 = .ok (.iadd, 1) := by decide +kernel
theorem dX12_valueIn_52 : decode cX12_valueIn 52 = .ok (.iload_n 3, 1) := by decide +kernel
theorem dX12_valueIn_53 : decode cX12_valueIn 53 = .ok (.iadd, 1) := by decide +kernel
theorem dX12_valueIn_54 : decode cX12_valueIn 54 = .ok (.iaload, 1) := by decide +kernel
theorem dX12_valueIn_55 : decode cX12_valueIn 55 = .ok (.iload 4, 2) := by decide +kernel
theorem dX12_valueIn_57 : decode cX12_valueIn 57 = .ok (.aload_n 0, 1) := by decide +kernel
theorem dX12_valueIn_58 : decode cX12_valueIn 58 = .ok (.getfield 7, 3) := by decide +kernel
theorem dX12_valueIn_61 : decode cX12_valueIn 61 = .ok (.iload_n 1, 1) := by decide +kernel
theorem dX12_valueIn_62 : decode cX12_valueIn 62 = .ok (.bipush 60, 2) := by decide +kernel
theorem dX12_valueIn_64 : decode cX12_valueIn 64 = .ok (.iadd, 1) := by decide +kernel
theorem dX12_valueIn_65 : decode cX12_valueIn 65 = .ok (.iload_n 3, 1) := by decide +kernel
theorem dX12_valueIn_66 : decode cX12_valueIn 66 = .ok (.iadd, 1) := by decide +kernel
theorem dX12_valueIn_67 : decode cX12_valueIn 67 = .ok (.iaload, 1) := by decide +kernel
theorem dX12_valueIn_68 : decode cX12_valueIn 68 = .ok (.irem, 1) := by decide +kernel
theorem dX12_valueIn_69 : decode cX12_valueIn 69 = .ok (.iadd, 1) := by decide +kernel
theorem dX12_valueIn_70 : decode cX12_valueIn 70 = .ok (.ireturn, 1) := by decide +kernel
theorem dX12_inSet_0 : decode cX12_inSet 0 = .ok (.aload_n 0, 1) := by decide +kernel
theorem dX12_inSet_1 : decode cX12_inSet 1 = .ok (.iload_n 1, 1) := by decide +kernel
theorem dX12_inSet_2 : decode cX12_inSet 2 = .ok (.iload_n 2, 1) := by decide +kernel
theorem dX12_inSet_3 : decode cX12_inSet 3 = .ok (.bipush 64, 2) := by decide +kernel
theorem dX12_inSet_5 : decode cX12_inSet 5 = .ok (.idiv, 1) := by decide +kernel
theorem dX12_inSet_6 : decode cX12_inSet 6 = .ok (.iadd, 1) := by decide +kernel
theorem dX12_inSet_7 : decode cX12_inSet 7 = .ok (.laload, 1) := by decide +kernel
theorem dX12_inSet_8 : decode cX12_inSet 8 = .ok (.iload_n 2, 1) := by decide +kernel
theorem dX12_inSet_9 : decode cX12_inSet 9 = .ok (.bipush 64, 2) := by decide +kernel
theorem dX12_inSet_11 : decode cX12_inSet 11 = .ok (.irem, 1) := by decide +kernel
theorem dX12_inSet_12 : decode cX12_inSet 12 = .ok (.lshr, 1) := by decide +kernel
theorem dX12_inSet_13 : decode cX12_inSet 13 = .ok (.lconst 1, 1) := by decide +kernel
theorem dX12_inSet_14 : decode cX12_inSet 14 = .ok (.land, 1) := by decide +kernel
theorem dX12_inSet_15 : decode cX12_inSet 15 = .ok (.lconst 1, 1) := by decide +kernel
theorem dX12_inSet_16 : decode cX12_inSet 16 = .ok (.lcmp, 1) := by decide +kernel
theorem dX12_inSet_17 : decode cX12_inSet 17 = .ok (.ifCond .ne 7, 3) := by decide +kernel
theorem dX12_inSet_20 : decode cX12_inSet 20 = .ok (.iconst 1, 1) := by decide +kernel
theorem dX12_inSet_21 : decode cX12_inSet 21 = .ok (.goto 4, 3) := by decide +kernel
theorem dX12_inSet_24 : decode cX12_inSet 24 = .ok (.iconst 0, 1) := by decide +kernel
theorem dX12_inSet_25 : decode cX12_inSet 25 = .ok (.ireturn, 1) := by decide +kernel
theorem dX12_finds_0 : decode cX12_finds 0 = .ok (.iconst 0, 1) := by decide +kernel
theorem dX12_finds_1 : decode cX12_finds 1 = .ok (.istore_n 1, 1) := by decide +kernel
theorem dX12_finds_2 : decode cX12_finds 2 = .ok (.iload_n 1, 1) := by decide +kernel
theorem dX12_finds_3 : decode cX12_finds 3 = .ok (.iconst 4, 1) := by decide +kernel
theorem dX12_finds_4 : decode cX12_finds 4 = .ok (.if_icmp .ge 20, 3) := by decide +kernel
theorem dX12_finds_7 : decode cX12_finds 7 = .ok (.aload_n 0, 1) := by decide +kernel
theorem dX12_finds_8 : decode cX12_finds 8 = .ok (.getfield 13, 3) := by decide +kernel
theorem dX12_finds_11 : decode cX12_finds 11 = .ok (.sipush 208, 3) := by decide +kernel
theorem dX12_finds_14 : decode cX12_finds 14 = .ok (.iload_n 1, 1) := by decide +kernel
theorem dX12_finds_15 : decode cX12_finds 15 = .ok (.iadd, 1) := by decide +kernel
theorem dX12_finds_16 : decode cX12_finds 16 = .ok (.lconst 0, 1) := by decide +kernel
theorem dX12_finds_17 : decode cX12_finds 17 = .ok (.lastore, 1) := by decide +kernel
theorem dX12_finds_18 : decode cX12_finds 18 = .ok (.iinc 1 1, 3) := by decide +kernel
theorem dX12_finds_21 : decode cX12_finds 21 = .ok (.goto (-19), 3) := by decide +kernel
theorem dX12_finds_24 : decode cX12_finds 24 = .ok (.iconst 0, 1) := by decide +kernel
theorem dX12_finds_25 : decode cX12_finds 25 = .ok (.istore_n 1, 1) := by decide +kernel
theorem dX12_finds_26 : decode cX12_finds 26 = .ok (.iload_n 1, 1) := by decide +kernel
theorem dX12_finds_27 : decode cX12_finds 27 = .ok (.aload_n 0, 1) := by decide +kernel
theorem dX12_finds_28 : decode cX12_finds 28 = .ok (.getfield 7, 3) := by decide +kernel
theorem dX12_finds_31 : decode cX12_finds 31 = .ok (.sipush 1602, 3) := by decide +kernel
theorem dX12_finds_34 : decode cX12_finds 34 = .ok (.iaload, 1) := by decide +kernel
theorem dX12_finds_35 : decode cX12_finds 35 = .ok (.if_icmp .ge 112, 3) := by decide +kernel
theorem dX12_finds_38 : decode cX12_finds 38 = .ok (.iconst 1, 1) := by decide +kernel
theorem dX12_finds_39 : decode cX12_finds 39 = .ok (.istore_n 2, 1) := by decide +kernel
theorem dX12_finds_40 : decode cX12_finds 40 = .ok (.iconst 0, 1) := by decide +kernel
theorem dX12_finds_41 : decode cX12_finds 41 = .ok (.istore_n 3, 1) := by decide +kernel
theorem dX12_finds_42 : decode cX12_finds 42 = .ok (.iload_n 3, 1) := by decide +kernel
theorem dX12_finds_43 : decode cX12_finds 43 = .ok (.aload_n 0, 1) := by decide +kernel
theorem dX12_finds_44 : decode cX12_finds 44 = .ok (.getfield 7, 3) := by decide +kernel
theorem dX12_finds_47 : decode cX12_finds 47 = .ok (.sipush 1600, 3) := by decide +kernel
theorem dX12_finds_50 : decode cX12_finds 50 = .ok (.iaload, 1) := by decide +kernel
theorem dX12_finds_51 : decode cX12_finds 51 = .ok (.if_icmp .ge 64, 3) := by decide +kernel
theorem dX12_finds_54 : decode cX12_finds 54 = .ok (.iconst 0, 1) := by decide +kernel
theorem dX12_finds_55 : decode cX12_finds 55 = .ok (.istore 4, 2) := by decide +kernel
theorem dX12_finds_57 : decode cX12_finds 57 = .ok (.iload 4, 2) := by decide +kernel
theorem dX12_finds_59 : decode cX12_finds 59 = .ok (.iload_n 3, 1) := by decide +kernel
theorem dX12_finds_60 : decode cX12_finds 60 = .ok (.if_icmp .ge 49, 3) := by decide +kernel
theorem dX12_finds_63 : decode cX12_finds 63 = .ok (.iload_n 2, 1) := by decide +kernel
theorem dX12_finds_64 : decode cX12_finds 64 = .ok (.ifCond .eq 37, 3) := by decide +kernel
theorem dX12_finds_67 : decode cX12_finds 67 = .ok (.aload_n 0, 1) := by decide +kernel
theorem dX12_finds_68 : decode cX12_finds 68 = .ok (.getfield 47, 3) := by decide +kernel
theorem dX12_finds_71 : decode cX12_finds 71 = .ok (.aload_n 0, 1) := by decide +kernel
theorem dX12_finds_72 : decode cX12_finds 72 = .ok (.sipush 1600, 3) := by decide +kernel
theorem dX12_finds_75 : decode cX12_finds 75 = .ok (.iload_n 1, 1) := by decide +kernel
theorem dX12_finds_76 : decode cX12_finds 76 = .ok (.iload_n 3, 1) := by decide +kernel
theorem dX12_finds_77 : decode cX12_finds 77 = .ok (.invokevirtual 234, 3) := by decide +kernel
theorem dX12_finds_80 : decode cX12_finds 80 = .ok (.iaload, 1) := by decide +kernel
theorem dX12_finds_81 : decode cX12_finds 81 = .ok (.aload_n 0, 1) := by decide +kernel
theorem dX12_finds_82 : decode cX12_finds 82 = .ok (.sipush 1600, 3) := by decide +kernel
theorem dX12_finds_85 : decode cX12_finds 85 = .ok (.iload_n 1, 1) := by decide +kernel
theorem dX12_finds_86 : decode cX12_finds 86 = .ok (.iload 4, 2) := by decide +kernel
theorem dX12_finds_88 : decode cX12_finds 88 = .ok (.invokevirtual 234, 3) := by decide +kernel
theorem dX12_finds_91 : decode cX12_finds 91 = .ok (.ishr, 1) := by decide +kernel
theorem dX12_finds_92 : decode cX12_finds 92 = .ok (.iconst 1, 1) := by decide +kernel
theorem dX12_finds_93 : decode cX12_finds 93 = .ok (.iand, 1) := by decide +kernel
theorem dX12_finds_94 : decode cX12_finds 94 = .ok (.ifCond .ne 7, 3) := by decide +kernel
theorem dX12_finds_97 : decode cX12_finds 97 = .ok (.iconst 1, 1) := by decide +kernel
theorem dX12_finds_98 : decode cX12_finds 98 = .ok (.goto 4, 3) := by decide +kernel
theorem dX12_finds_101 : decode cX12_finds 101 = .ok (.iconst 0, 1) := by decide +kernel
theorem dX12_finds_102 : decode cX12_finds 102 = .ok (.istore_n 2, 1) := by decide +kernel
theorem dX12_finds_103 : decode cX12_finds 103 = .ok (.iinc 4 1, 3) := by decide +kernel
theorem dX12_finds_106 : decode cX12_finds 106 = .ok (.goto (-49), 3) := by decide +kernel
theorem dX12_finds_109 : decode cX12_finds 109 = .ok (.iinc 3 1, 3) := by decide +kernel
theorem dX12_finds_112 : decode cX12_finds 112 = .ok (.goto (-70), 3) := by decide +kernel
theorem dX12_finds_115 : decode cX12_finds 115 = .ok (.iload_n 2, 1) := by decide +kernel
theorem dX12_finds_116 : decode cX12_finds 116 = .ok (.ifCond .eq 25, 3) := by decide +kernel
theorem dX12_finds_119 : decode cX12_finds 119 = .ok (.aload_n 0, 1) := by decide +kernel
theorem dX12_finds_120 : decode cX12_finds 120 = .ok (.getfield 13, 3) := by decide +kernel
theorem dX12_finds_123 : decode cX12_finds 123 = .ok (.sipush 208, 3) := by decide +kernel
theorem dX12_finds_126 : decode cX12_finds 126 = .ok (.iload_n 1, 1) := by decide +kernel
theorem dX12_finds_127 : decode cX12_finds 127 = .ok (.bipush 64, 2) := by decide +kernel
theorem dX12_finds_129 : decode cX12_finds 129 = .ok (.idiv, 1) := by decide +kernel
theorem dX12_finds_130 : decode cX12_finds 130 = .ok (.iadd, 1) := by decide +kernel
theorem dX12_finds_131 : decode cX12_finds 131 = .ok (.dup2, 1) := by decide +kernel
theorem dX12_finds_132 : decode cX12_finds 132 = .ok (.laload, 1) := by decide +kernel
theorem dX12_finds_133 : decode cX12_finds 133 = .ok (.lconst 1, 1) := by decide +kernel
theorem dX12_finds_134 : decode cX12_finds 134 = .ok (.iload_n 1, 1) := by decide +kernel
theorem dX12_finds_135 : decode cX12_finds 135 = .ok (.bipush 64, 2) := by decide +kernel
theorem dX12_finds_137 : decode cX12_finds 137 = .ok (.irem, 1) := by decide +kernel
theorem dX12_finds_138 : decode cX12_finds 138 = .ok (.lshl, 1) := by decide +kernel
theorem dX12_finds_139 : decode cX12_finds 139 = .ok (.lor, 1) := by decide +kernel
theorem dX12_finds_140 : decode cX12_finds 140 = .ok (.lastore, 1) := by decide +kernel
theorem dX12_finds_141 : decode cX12_finds 141 = .ok (.iinc 1 1, 3) := by decide +kernel
theorem dX12_finds_144 : decode cX12_finds 144 = .ok (.goto (-118), 3) := by decide +kernel
theorem dX12_finds_147 : decode cX12_finds 147 = .ok (.return_, 1) := by decide +kernel
theorem dX12_isDoing_0 : decode cX12_isDoing 0 = .ok (.aload_n 0, 1) := by decide +kernel
theorem dX12_isDoing_1 : decode cX12_isDoing 1 = .ok (.getfield 238, 3) := by decide +kernel
theorem dX12_isDoing_4 : decode cX12_isDoing 4 = .ok (.ifCond .le 22, 3) := by decide +kernel
theorem dX12_isDoing_7 : decode cX12_isDoing 7 = .ok (.aload_n 0, 1) := by decide +kernel
theorem dX12_isDoing_8 : decode cX12_isDoing 8 = .ok (.getfield 53, 3) := by decide +kernel
theorem dX12_isDoing_11 : decode cX12_isDoing 11 = .ok (.aload_n 0, 1) := by decide +kernel
theorem dX12_isDoing_12 : decode cX12_isDoing 12 = .ok (.getfield 238, 3) := by decide +kernel
theorem dX12_isDoing_15 : decode cX12_isDoing 15 = .ok (.iconst 1, 1) := by decide +kernel
theorem dX12_isDoing_16 : decode cX12_isDoing 16 = .ok (.isub, 1) := by decide +kernel
theorem dX12_isDoing_17 : decode cX12_isDoing 17 = .ok (.iaload, 1) := by decide +kernel
theorem dX12_isDoing_18 : decode cX12_isDoing 18 = .ok (.iload_n 1, 1) := by decide +kernel
theorem dX12_isDoing_19 : decode cX12_isDoing 19 = .ok (.if_icmp .ne 7, 3) := by decide +kernel
theorem dX12_isDoing_22 : decode cX12_isDoing 22 = .ok (.iconst 1, 1) := by decide +kernel
theorem dX12_isDoing_23 : decode cX12_isDoing 23 = .ok (.goto 4, 3) := by decide +kernel
theorem dX12_isDoing_26 : decode cX12_isDoing 26 = .ok (.iconst 0, 1) := by decide +kernel
theorem dX12_isDoing_27 : decode cX12_isDoing 27 = .ok (.ireturn, 1) := by decide +kernel
theorem dX12_does_0 : decode cX12_does 0 = .ok (.aload_n 0, 1) := by decide +kernel
theorem dX12_does_1 : decode cX12_does 1 = .ok (.getfield 53, 3) := by decide +kernel
theorem dX12_does_4 : decode cX12_does 4 = .ok (.aload_n 0, 1) := by decide +kernel
theorem dX12_does_5 : decode cX12_does 5 = .ok (.getfield 238, 3) := by decide +kernel
theorem dX12_does_8 : decode cX12_does 8 = .ok (.iload_n 1, 1) := by decide +kernel
theorem dX12_does_9 : decode cX12_does 9 = .ok (.iastore, 1) := by decide +kernel
theorem dX12_does_10 : decode cX12_does 10 = .ok (.aload_n 0, 1) := by decide +kernel
theorem dX12_does_11 : decode cX12_does 11 = .ok (.dup, 1) := by decide +kernel
theorem dX12_does_12 : decode cX12_does 12 = .ok (.getfield 238, 3) := by decide +kernel
theorem dX12_does_15 : decode cX12_does 15 = .ok (.iconst 1, 1) := by decide +kernel
theorem dX12_does_16 : decode cX12_does 16 = .ok (.iadd, 1) := by decide +kernel
theorem dX12_does_17 : decode cX12_does 17 = .ok (.putfield 238, 3) := by decide +kernel
theorem dX12_does_20 : decode cX12_does 20 = .ok (.return_, 1) := by decide +kernel
theorem dX12_joins_0 : decode cX12_joins 0 = .ok (.aload_n 0, 1) := by decide +kernel
theorem dX12_joins_1 : decode cX12_joins 1 = .ok (.dup, 1) := by decide +kernel
theorem dX12_joins_2 : decode cX12_joins 2 = .ok (.getfield 238, 3) := by decide +kernel
theorem dX12_joins_5 : decode cX12_joins 5 = .ok (.iconst 1, 1) := by decide +kernel
theorem dX12_joins_6 : decode cX12_joins 6 = .ok (.isub, 1) := by decide +kernel
theorem dX12_joins_7 : decode cX12_joins 7 = .ok (.putfield 238, 3) := by decide +kernel
theorem dX12_joins_10 : decode cX12_joins 10 = .ok (.aload_n 0, 1) := by decide +kernel
theorem dX12_joins_11 : decode cX12_joins 11 = .ok (.dup, 1) := by decide +kernel
theorem dX12_joins_12 : decode cX12_joins 12 = .ok (.getfield 241, 3) := by decide +kernel
theorem dX12_joins_15 : decode cX12_joins 15 = .ok (.iconst 1, 1) := by decide +kernel
theorem dX12_joins_16 : decode cX12_joins 16 = .ok (.isub, 1) := by decide +kernel
theorem dX12_joins_17 : decode cX12_joins 17 = .ok (.putfield 241, 3) := by decide +kernel
theorem dX12_joins_20 : decode cX12_joins 20 = .ok (.iconst 0, 1) := by decide +kernel
theorem dX12_joins_21 : decode cX12_joins 21 = .ok (.istore_n 1, 1) := by decide +kernel
theorem dX12_joins_22 : decode cX12_joins 22 = .ok (.iload_n 1, 1) := by decide +kernel
theorem dX12_joins_23 : decode cX12_joins 23 = .ok (.iconst 4, 1) := by decide +kernel
theorem dX12_joins_24 : decode cX12_joins 24 = .ok (.if_icmp .ge 80, 3) := by decide +kernel
theorem dX12_joins_27 : decode cX12_joins 27 = .ok (.aload_n 0, 1) := by decide +kernel
theorem dX12_joins_28 : decode cX12_joins 28 = .ok (.getfield 50, 3) := by decide +kernel
theorem dX12_joins_31 : decode cX12_joins 31 = .ok (.iconst 4, 1) := by decide +kernel
theorem dX12_joins_32 : decode cX12_joins 32 = .ok (.aload_n 0, 1) := by decide +kernel
theorem dX12_joins_33 : decode cX12_joins 33 = .ok (.getfield 241, 3) := by decide +kernel
theorem dX12_joins_36 : decode cX12_joins 36 = .ok (.imul, 1) := by decide +kernel
theorem dX12_joins_37 : decode cX12_joins 37 = .ok (.iconst 4, 1) := by decide +kernel
theorem dX12_joins_38 : decode cX12_joins 38 = .ok (.isub, 1) := by decide +kernel
theorem dX12_joins_39 : decode cX12_joins 39 = .ok (.iload_n 1, 1) := by decide +kernel
theorem dX12_joins_40 : decode cX12_joins 40 = .ok (.iadd, 1) := by decide +kernel
theorem dX12_joins_41 : decode cX12_joins 41 = .ok (.laload, 1) := by decide +kernel
theorem dX12_joins_42 : decode cX12_joins 42 = .ok (.lstore_n 2, 1) := by decide +kernel
theorem dX12_joins_43 : decode cX12_joins 43 = .ok (.aload_n 0, 1) := by decide +kernel
theorem dX12_joins_44 : decode cX12_joins 44 = .ok (.getfield 50, 3) := by decide +kernel
theorem dX12_joins_47 : decode cX12_joins 47 = .ok (.iconst 4, 1) := by decide +kernel
theorem dX12_joins_48 : decode cX12_joins 48 = .ok (.aload_n 0, 1) := by decide +kernel
theorem dX12_joins_49 : decode cX12_joins 49 = .ok (.getfield 241, 3) := by decide +kernel
theorem dX12_joins_52 : decode cX12_joins 52 = .ok (.imul, 1) := by decide +kernel
theorem dX12_joins_53 : decode cX12_joins 53 = .ok (.iload_n 1, 1) := by decide +kernel
theorem dX12_joins_54 : decode cX12_joins 54 = .ok (.iadd, 1) := by decide +kernel
theorem dX12_joins_55 : decode cX12_joins 55 = .ok (.laload, 1) := by decide +kernel
theorem dX12_joins_56 : decode cX12_joins 56 = .ok (.lstore 4, 2) := by decide +kernel
theorem dX12_joins_58 : decode cX12_joins 58 = .ok (.aload_n 0, 1) := by decide +kernel
theorem dX12_joins_59 : decode cX12_joins 59 = .ok (.getfield 50, 3) := by decide +kernel
theorem dX12_joins_62 : decode cX12_joins 62 = .ok (.iconst 4, 1) := by decide +kernel
theorem dX12_joins_63 : decode cX12_joins 63 = .ok (.aload_n 0, 1) := by decide +kernel
theorem dX12_joins_64 : decode cX12_joins 64 = .ok (.getfield 241, 3) := by decide +kernel
theorem dX12_joins_67 : decode cX12_joins 67 = .ok (.imul, 1) := by decide +kernel
theorem dX12_joins_68 : decode cX12_joins 68 = .ok (.iconst 4, 1) := by decide +kernel
theorem dX12_joins_69 : decode cX12_joins 69 = .ok (.isub, 1) := by decide +kernel
theorem dX12_joins_70 : decode cX12_joins 70 = .ok (.iload_n 1, 1) := by decide +kernel
theorem dX12_joins_71 : decode cX12_joins 71 = .ok (.iadd, 1) := by decide +kernel
theorem dX12_joins_72 : decode cX12_joins 72 = .ok (.aload_n 0, 1) := by decide +kernel
theorem dX12_joins_73 : decode cX12_joins 73 = .ok (.getfield 53, 3) := by decide +kernel
theorem dX12_joins_76 : decode cX12_joins 76 = .ok (.aload_n 0, 1) := by decide +kernel
theorem dX12_joins_77 : decode cX12_joins 77 = .ok (.getfield 238, 3) := by decide +kernel
theorem dX12_joins_80 : decode cX12_joins 80 = .ok (.iaload, 1) := by decide +kernel
theorem dX12_joins_81 : decode cX12_joins 81 = .ok (.bipush 11, 2) := by decide +kernel
theorem dX12_joins_83 : decode cX12_joins 83 = .ok (.if_icmp .ne 10, 3) := by decide +kernel
theorem dX12_joins_86 : decode cX12_joins 86 = .ok (.lload_n 2, 1) := by decide +kernel
theorem dX12_joins_87 : decode cX12_joins 87 = .ok (.lload 4, 2) := by decide +kernel
theorem dX12_joins_89 : decode cX12_joins 89 = .ok (.land, 1) := by decide +kernel
theorem dX12_joins_90 : decode cX12_joins 90 = .ok (.goto 7, 3) := by decide +kernel
theorem dX12_joins_93 : decode cX12_joins 93 = .ok (.lload_n 2, 1) := by decide +kernel
theorem dX12_joins_94 : decode cX12_joins 94 = .ok (.lload 4, 2) := by decide +kernel
theorem dX12_joins_96 : decode cX12_joins 96 = .ok (.lor, 1) := by decide +kernel
theorem dX12_joins_97 : decode cX12_joins 97 = .ok (.lastore, 1) := by decide +kernel
theorem dX12_joins_98 : decode cX12_joins 98 = .ok (.iinc 1 1, 3) := by decide +kernel
theorem dX12_joins_101 : decode cX12_joins 101 = .ok (.goto (-79), 3) := by decide +kernel
theorem dX12_joins_104 : decode cX12_joins 104 = .ok (.return_, 1) := by decide +kernel
theorem dX12_turnsRound_0 : decode cX12_turnsRound 0 = .ok (.aload_n 0, 1) := by decide +kernel
theorem dX12_turnsRound_1 : decode cX12_turnsRound 1 = .ok (.bipush 12, 2) := by decide +kernel
theorem dX12_turnsRound_3 : decode cX12_turnsRound 3 = .ok (.invokevirtual 244, 3) := by decide +kernel
theorem dX12_turnsRound_6 : decode cX12_turnsRound 6 = .ok (.ifCond .eq 73, 3) := by decide +kernel
theorem dX12_turnsRound_9 : decode cX12_turnsRound 9 = .ok (.aload_n 0, 1) := by decide +kernel
theorem dX12_turnsRound_10 : decode cX12_turnsRound 10 = .ok (.dup, 1) := by decide +kernel
theorem dX12_turnsRound_11 : decode cX12_turnsRound 11 = .ok (.getfield 238, 3) := by decide +kernel
theorem dX12_turnsRound_14 : decode cX12_turnsRound 14 = .ok (.iconst 1, 1) := by decide +kernel
theorem dX12_turnsRound_15 : decode cX12_turnsRound 15 = .ok (.isub, 1) := by decide +kernel
theorem dX12_turnsRound_16 : decode cX12_turnsRound 16 = .ok (.putfield 238, 3) := by decide +kernel
theorem dX12_turnsRound_19 : decode cX12_turnsRound 19 = .ok (.aload_n 0, 1) := by decide +kernel
theorem dX12_turnsRound_20 : decode cX12_turnsRound 20 = .ok (.dup, 1) := by decide +kernel
theorem dX12_turnsRound_21 : decode cX12_turnsRound 21 = .ok (.getfield 247, 3) := by decide +kernel
theorem dX12_turnsRound_24 : decode cX12_turnsRound 24 = .ok (.iconst 1, 1) := by decide +kernel
theorem dX12_turnsRound_25 : decode cX12_turnsRound 25 = .ok (.isub, 1) := by decide +kernel
theorem dX12_turnsRound_26 : decode cX12_turnsRound 26 = .ok (.putfield 247, 3) := by decide +kernel
theorem dX12_turnsRound_29 : decode cX12_turnsRound 29 = .ok (.iconst 0, 1) := by decide +kernel
theorem dX12_turnsRound_30 : decode cX12_turnsRound 30 = .ok (.istore_n 1, 1) := by decide +kernel
theorem dX12_turnsRound_31 : decode cX12_turnsRound 31 = .ok (.iload_n 1, 1) := by decide +kernel
theorem dX12_turnsRound_32 : decode cX12_turnsRound 32 = .ok (.iconst 4, 1) := by decide +kernel
theorem dX12_turnsRound_33 : decode cX12_turnsRound 33 = .ok (.if_icmp .ge 43, 3) := by decide +kernel
theorem dX12_turnsRound_36 : decode cX12_turnsRound 36 = .ok (.aload_n 0, 1) := by decide +kernel
theorem dX12_turnsRound_37 : decode cX12_turnsRound 37 = .ok (.getfield 50, 3) := by decide +kernel
theorem dX12_turnsRound_40 : decode cX12_turnsRound 40 = .ok (.iconst 4, 1) := by decide +kernel
theorem dX12_turnsRound_41 : decode cX12_turnsRound 41 = .ok (.aload_n 0, 1) := by decide +kernel
theorem dX12_turnsRound_42 : decode cX12_turnsRound 42 = .ok (.getfield 241, 3) := by decide +kernel
theorem dX12_turnsRound_45 : decode cX12_turnsRound 45 = .ok (.imul, 1) := by decide +kernel
theorem dX12_turnsRound_46 : decode cX12_turnsRound 46 = .ok (.iconst 4, 1) := by decide +kernel
theorem dX12_turnsRound_47 : decode cX12_turnsRound 47 = .ok (.isub, 1) := by decide +kernel
theorem dX12_turnsRound_48 : decode cX12_turnsRound 48 = .ok (.iload_n 1, 1) := by decide +kernel
theorem dX12_turnsRound_49 : decode cX12_turnsRound 49 = .ok (.iadd, 1) := by decide +kernel
theorem dX12_turnsRound_50 : decode cX12_turnsRound 50 = .ok (.aload_n 0, 1) := by decide +kernel
theorem dX12_turnsRound_51 : decode cX12_turnsRound 51 = .ok (.getfield 50, 3) := by decide +kernel
theorem dX12_turnsRound_54 : decode cX12_turnsRound 54 = .ok (.iconst 4, 1) := by decide +kernel
theorem dX12_turnsRound_55 : decode cX12_turnsRound 55 = .ok (.aload_n 0, 1) := by decide +kernel
theorem dX12_turnsRound_56 : decode cX12_turnsRound 56 = .ok (.getfield 241, 3) := by decide +kernel
theorem dX12_turnsRound_59 : decode cX12_turnsRound 59 = .ok (.imul, 1) := by decide +kernel
theorem dX12_turnsRound_60 : decode cX12_turnsRound 60 = .ok (.iconst 4, 1) := by decide +kernel
theorem dX12_turnsRound_61 : decode cX12_turnsRound 61 = .ok (.isub, 1) := by decide +kernel
theorem dX12_turnsRound_62 : decode cX12_turnsRound 62 = .ok (.iload_n 1, 1) := by decide +kernel
theorem dX12_turnsRound_63 : decode cX12_turnsRound 63 = .ok (.iadd, 1) := by decide +kernel
theorem dX12_turnsRound_64 : decode cX12_turnsRound 64 = .ok (.laload, 1) := by decide +kernel
theorem dX12_turnsRound_65 : decode cX12_turnsRound 65 = .ok (.ldc2_w 124, 3) := by decide +kernel
theorem dX12_turnsRound_68 : decode cX12_turnsRound 68 = .ok (.lxor, 1) := by decide +kernel
theorem dX12_turnsRound_69 : decode cX12_turnsRound 69 = .ok (.lastore, 1) := by decide +kernel
theorem dX12_turnsRound_70 : decode cX12_turnsRound 70 = .ok (.iinc 1 1, 3) := by decide +kernel
theorem dX12_turnsRound_73 : decode cX12_turnsRound 73 = .ok (.goto (-42), 3) := by decide +kernel
theorem dX12_turnsRound_76 : decode cX12_turnsRound 76 = .ok (.goto (-76), 3) := by decide +kernel
theorem dX12_turnsRound_79 : decode cX12_turnsRound 79 = .ok (.return_, 1) := by decide +kernel
theorem dX12_pushes_0 : decode cX12_pushes 0 = .ok (.iconst 0, 1) := by decide +kernel
theorem dX12_pushes_1 : decode cX12_pushes 1 = .ok (.istore_n 2, 1) := by decide +kernel
theorem dX12_pushes_2 : decode cX12_pushes 2 = .ok (.iload_n 2, 1) := by decide +kernel
theorem dX12_pushes_3 : decode cX12_pushes 3 = .ok (.iconst 4, 1) := by decide +kernel
theorem dX12_pushes_4 : decode cX12_pushes 4 = .ok (.if_icmp .ge 23, 3) := by decide +kernel
theorem dX12_pushes_7 : decode cX12_pushes 7 = .ok (.aload_n 0, 1) := by decide +kernel
theorem dX12_pushes_8 : decode cX12_pushes 8 = .ok (.getfield 50, 3) := by decide +kernel
theorem dX12_pushes_11 : decode cX12_pushes 11 = .ok (.iconst 4, 1) := by decide +kernel
theorem dX12_pushes_12 : decode cX12_pushes 12 = .ok (.aload_n 0, 1) := by decide +kernel
theorem dX12_pushes_13 : decode cX12_pushes 13 = .ok (.getfield 241, 3) := by decide +kernel
theorem dX12_pushes_16 : decode cX12_pushes 16 = .ok (.imul, 1) := by decide +kernel
theorem dX12_pushes_17 : decode cX12_pushes 17 = .ok (.iload_n 2, 1) := by decide +kernel
theorem dX12_pushes_18 : decode cX12_pushes 18 = .ok (.iadd, 1) := by decide +kernel
theorem dX12_pushes_19 : decode cX12_pushes 19 = .ok (.lconst 0, 1) := by decide +kernel
theorem dX12_pushes_20 : decode cX12_pushes 20 = .ok (.lastore, 1) := by decide +kernel
theorem dX12_pushes_21 : decode cX12_pushes 21 = .ok (.iinc 2 1, 3) := by decide +kernel
theorem dX12_pushes_24 : decode cX12_pushes 24 = .ok (.goto (-22), 3) := by decide +kernel
theorem dX12_pushes_27 : decode cX12_pushes 27 = .ok (.iconst 0, 1) := by decide +kernel
theorem dX12_pushes_28 : decode cX12_pushes 28 = .ok (.istore_n 2, 1) := by decide +kernel
theorem dX12_pushes_29 : decode cX12_pushes 29 = .ok (.iload_n 2, 1) := by decide +kernel
theorem dX12_pushes_30 : decode cX12_pushes 30 = .ok (.aload_n 0, 1) := by decide +kernel
theorem dX12_pushes_31 : decode cX12_pushes 31 = .ok (.getfield 7, 3) := by decide +kernel
theorem dX12_pushes_34 : decode cX12_pushes 34 = .ok (.sipush 1602, 3) := by decide +kernel
theorem dX12_pushes_37 : decode cX12_pushes 37 = .ok (.iaload, 1) := by decide +kernel
theorem dX12_pushes_38 : decode cX12_pushes 38 = .ok (.if_icmp .ge 56, 3) := by decide +kernel
theorem dX12_pushes_41 : decode cX12_pushes 41 = .ok (.aload_n 0, 1) := by decide +kernel
theorem dX12_pushes_42 : decode cX12_pushes 42 = .ok (.sipush 1600, 3) := by decide +kernel
theorem dX12_pushes_45 : decode cX12_pushes 45 = .ok (.iload_n 2, 1) := by decide +kernel
theorem dX12_pushes_46 : decode cX12_pushes 46 = .ok (.aload_n 0, 1) := by decide +kernel
theorem dX12_pushes_47 : decode cX12_pushes 47 = .ok (.getfield 7, 3) := by decide +kernel
theorem dX12_pushes_50 : decode cX12_pushes 50 = .ok (.sipush 1608, 3) := by decide +kernel
theorem dX12_pushes_53 : decode cX12_pushes 53 = .ok (.iload_n 1, 1) := by decide +kernel
theorem dX12_pushes_54 : decode cX12_pushes 54 = .ok (.iadd, 1) := by decide +kernel
theorem dX12_pushes_55 : decode cX12_pushes 55 = .ok (.iaload, 1) := by decide +kernel
theorem dX12_pushes_56 : decode cX12_pushes 56 = .ok (.invokevirtual 234, 3) := by decide +kernel
theorem dX12_pushes_59 : decode cX12_pushes 59 = .ok (.iload_n 1, 1) := by decide +kernel
theorem dX12_pushes_60 : decode cX12_pushes 60 = .ok (.if_icmp .ne 28, 3) := by decide +kernel
theorem dX12_pushes_63 : decode cX12_pushes 63 = .ok (.aload_n 0, 1) := by decide +kernel
theorem dX12_pushes_64 : decode cX12_pushes 64 = .ok (.getfield 50, 3) := by decide +kernel
theorem dX12_pushes_67 : decode cX12_pushes 67 = .ok (.iconst 4, 1) := by decide +kernel
theorem dX12_pushes_68 : decode cX12_pushes 68 = .ok (.aload_n 0, 1) := by decide +kernel
theorem dX12_pushes_69 : decode cX12_pushes 69 = .ok (.getfield 241, 3) := by decide +kernel
theorem dX12_pushes_72 : decode cX12_pushes 72 = .ok (.imul, 1) := by decide +kernel
theorem dX12_pushes_73 : decode cX12_pushes 73 = .ok (.iload_n 2, 1) := by decide +kernel
theorem dX12_pushes_74 : decode cX12_pushes 74 = .ok (.bipush 64, 2) := by decide +kernel
theorem dX12_pushes_76 : decode cX12_pushes 76 = .ok (.idiv, 1) := by decide +kernel
theorem dX12_pushes_77 : decode cX12_pushes 77 = .ok (.iadd, 1) := by decide +kernel
theorem dX12_pushes_78 : decode cX12_pushes 78 = .ok (.dup2, 1) := by decide +kernel
theorem dX12_pushes_79 : decode cX12_pushes 79 = .ok (.laload, 1) := by decide +kernel
theorem dX12_pushes_80 : decode cX12_pushes 80 = .ok (.lconst 1, 1) := by decide +kernel
theorem dX12_pushes_81 : decode cX12_pushes 81 = .ok (.iload_n 2, 1) := by decide +kernel
theorem dX12_pushes_82 : decode cX12_pushes 82 = .ok (.bipush 64, 2) := by decide +kernel
theorem dX12_pushes_84 : decode cX12_pushes 84 = .ok (.irem, 1) := by decide +kernel
theorem dX12_pushes_85 : decode cX12_pushes 85 = .ok (.lshl, 1) := by decide +kernel
theorem dX12_pushes_86 : decode cX12_pushes 86 = .ok (.lor, 1) := by decide +kernel
theorem dX12_pushes_87 : decode cX12_pushes 87 = .ok (.lastore, 1) := by decide +kernel
theorem dX12_pushes_88 : decode cX12_pushes 88 = .ok (.iinc 2 1, 3) := by decide +kernel
theorem dX12_pushes_91 : decode cX12_pushes 91 = .ok (.goto (-62), 3) := by decide +kernel
theorem dX12_pushes_94 : decode cX12_pushes 94 = .ok (.aload_n 0, 1) := by decide +kernel
theorem dX12_pushes_95 : decode cX12_pushes 95 = .ok (.dup, 1) := by decide +kernel
theorem dX12_pushes_96 : decode cX12_pushes 96 = .ok (.getfield 241, 3) := by decide +kernel
theorem dX12_pushes_99 : decode cX12_pushes 99 = .ok (.iconst 1, 1) := by decide +kernel
theorem dX12_pushes_100 : decode cX12_pushes 100 = .ok (.iadd, 1) := by decide +kernel
theorem dX12_pushes_101 : decode cX12_pushes 101 = .ok (.putfield 241, 3) := by decide +kernel
theorem dX12_pushes_104 : decode cX12_pushes 104 = .ok (.return_, 1) := by decide +kernel
theorem dX12_aOne_0 : decode cX12_aOne 0 = .ok (.aload_n 0, 1) := by decide +kernel
theorem dX12_aOne_1 : decode cX12_aOne 1 = .ok (.ldc 206, 2) := by decide +kernel
theorem dX12_aOne_3 : decode cX12_aOne 3 = .ok (.invokevirtual 189, 3) := by decide +kernel
theorem dX12_aOne_6 : decode cX12_aOne 6 = .ok (.bipush 12, 2) := by decide +kernel
theorem dX12_aOne_8 : decode cX12_aOne 8 = .ok (.if_icmp .eq 12, 3) := by decide +kernel
theorem dX12_aOne_11 : decode cX12_aOne 11 = .ok (.aload_n 0, 1) := by decide +kernel
theorem dX12_aOne_12 : decode cX12_aOne 12 = .ok (.bipush 40, 2) := by decide +kernel
theorem dX12_aOne_14 : decode cX12_aOne 14 = .ok (.invokevirtual 183, 3) := by decide +kernel
theorem dX12_aOne_17 : decode cX12_aOne 17 = .ok (.ifCond .eq 56, 3) := by decide +kernel
theorem dX12_aOne_20 : decode cX12_aOne 20 = .ok (.aload_n 0, 1) := by decide +kernel
theorem dX12_aOne_21 : decode cX12_aOne 21 = .ok (.getfield 247, 3) := by decide +kernel
theorem dX12_aOne_24 : decode cX12_aOne 24 = .ok (.bipush 6, 2) := by decide +kernel
theorem dX12_aOne_26 : decode cX12_aOne 26 = .ok (.if_icmp .ne 10, 3) := by decide +kernel
theorem dX12_aOne_29 : decode cX12_aOne 29 = .ok (.aload_n 0, 1) := by decide +kernel
theorem dX12_aOne_30 : decode cX12_aOne 30 = .ok (.bipush 7, 2) := by decide +kernel
theorem dX12_aOne_32 : decode cX12_aOne 32 = .ok (.invokevirtual 186, 3) := by decide +kernel
theorem dX12_aOne_35 : decode cX12_aOne 35 = .ok (.ireturn, 1) := by decide +kernel
theorem dX12_aOne_36 : decode cX12_aOne 36 = .ok (.aload_n 0, 1) := by decide +kernel
theorem dX12_aOne_37 : decode cX12_aOne 37 = .ok (.dup, 1) := by decide +kernel
theorem dX12_aOne_38 : decode cX12_aOne 38 = .ok (.getfield 247, 3) := by decide +kernel
theorem dX12_aOne_41 : decode cX12_aOne 41 = .ok (.iconst 1, 1) := by decide +kernel
theorem dX12_aOne_42 : decode cX12_aOne 42 = .ok (.iadd, 1) := by decide +kernel
theorem dX12_aOne_43 : decode cX12_aOne 43 = .ok (.putfield 247, 3) := by decide +kernel
theorem dX12_aOne_46 : decode cX12_aOne 46 = .ok (.aload_n 0, 1) := by decide +kernel
theorem dX12_aOne_47 : decode cX12_aOne 47 = .ok (.aload_n 0, 1) := by decide +kernel
theorem dX12_aOne_48 : decode cX12_aOne 48 = .ok (.bipush 40, 2) := by decide +kernel
theorem dX12_aOne_50 : decode cX12_aOne 50 = .ok (.invokevirtual 183, 3) := by decide +kernel
theorem dX12_aOne_53 : decode cX12_aOne 53 = .ok (.ifCond .eq 8, 3) := by decide +kernel
theorem dX12_aOne_56 : decode cX12_aOne 56 = .ok (.bipush 40, 2) := by decide +kernel
theorem dX12_aOne_58 : decode cX12_aOne 58 = .ok (.goto 5, 3) := by decide +kernel
theorem dX12_aOne_61 : decode cX12_aOne 61 = .ok (.bipush 12, 2) := by decide +kernel
theorem dX12_aOne_63 : decode cX12_aOne 63 = .ok (.invokevirtual 250, 3) := by decide +kernel
theorem dX12_aOne_66 : decode cX12_aOne 66 = .ok (.aload_n 0, 1) := by decide +kernel
theorem dX12_aOne_67 : decode cX12_aOne 67 = .ok (.invokevirtual 180, 3) := by decide +kernel
theorem dX12_aOne_70 : decode cX12_aOne 70 = .ok (.goto (-70), 3) := by decide +kernel
theorem dX12_aOne_73 : decode cX12_aOne 73 = .ok (.aload_n 0, 1) := by decide +kernel
theorem dX12_aOne_74 : decode cX12_aOne 74 = .ok (.sipush 176, 3) := by decide +kernel
theorem dX12_aOne_77 : decode cX12_aOne 77 = .ok (.iconst 4, 1) := by decide +kernel
theorem dX12_aOne_78 : decode cX12_aOne 78 = .ok (.aload_n 0, 1) := by decide +kernel
theorem dX12_aOne_79 : decode cX12_aOne 79 = .ok (.getfield 7, 3) := by decide +kernel
theorem dX12_aOne_82 : decode cX12_aOne 82 = .ok (.sipush 1601, 3) := by decide +kernel
theorem dX12_aOne_85 : decode cX12_aOne 85 = .ok (.iaload, 1) := by decide +kernel
theorem dX12_aOne_86 : decode cX12_aOne 86 = .ok (.invokevirtual 231, 3) := by decide +kernel
theorem dX12_aOne_89 : decode cX12_aOne 89 = .ok (.ifCond .ne 5, 3) := by decide +kernel
theorem dX12_aOne_92 : decode cX12_aOne 92 = .ok (.iconst 0, 1) := by decide +kernel
theorem dX12_aOne_93 : decode cX12_aOne 93 = .ok (.ireturn, 1) := by decide +kernel
theorem dX12_aOne_94 : decode cX12_aOne 94 = .ok (.aload_n 0, 1) := by decide +kernel
theorem dX12_aOne_95 : decode cX12_aOne 95 = .ok (.aload_n 0, 1) := by decide +kernel
theorem dX12_aOne_96 : decode cX12_aOne 96 = .ok (.getfield 216, 3) := by decide +kernel
theorem dX12_aOne_99 : decode cX12_aOne 99 = .ok (.invokevirtual 253, 3) := by decide +kernel
theorem dX12_aOne_102 : decode cX12_aOne 102 = .ok (.aload_n 0, 1) := by decide +kernel
theorem dX12_aOne_103 : decode cX12_aOne 103 = .ok (.invokevirtual 180, 3) := by decide +kernel
theorem dX12_aOne_106 : decode cX12_aOne 106 = .ok (.aload_n 0, 1) := by decide +kernel
theorem dX12_aOne_107 : decode cX12_aOne 107 = .ok (.invokevirtual 256, 3) := by decide +kernel
theorem dX12_aOne_110 : decode cX12_aOne 110 = .ok (.aload_n 0, 1) := by decide +kernel
theorem dX12_aOne_111 : decode cX12_aOne 111 = .ok (.bipush 41, 2) := by decide +kernel
theorem dX12_aOne_113 : decode cX12_aOne 113 = .ok (.invokevirtual 183, 3) := by decide +kernel
theorem dX12_aOne_116 : decode cX12_aOne 116 = .ok (.ifCond .eq 57, 3) := by decide +kernel
theorem dX12_aOne_119 : decode cX12_aOne 119 = .ok (.aload_n 0, 1) := by decide +kernel
theorem dX12_aOne_120 : decode cX12_aOne 120 = .ok (.invokevirtual 259, 3) := by decide +kernel
theorem dX12_aOne_123 : decode cX12_aOne 123 = .ok (.ifCond .eq 50, 3) := by decide +kernel
theorem dX12_aOne_126 : decode cX12_aOne 126 = .ok (.aload_n 0, 1) := by decide +kernel
theorem dX12_aOne_127 : decode cX12_aOne 127 = .ok (.bipush 40, 2) := by decide +kernel
theorem dX12_aOne_129 : decode cX12_aOne 129 = .ok (.invokevirtual 244, 3) := by decide +kernel
theorem dX12_aOne_132 : decode cX12_aOne 132 = .ok (.ifCond .ne 10, 3) := by decide +kernel
theorem dX12_aOne_135 : decode cX12_aOne 135 = .ok (.aload_n 0, 1) := by decide +kernel
theorem dX12_aOne_136 : decode cX12_aOne 136 = .ok (.invokevirtual 262, 3) := by decide +kernel
theorem dX12_aOne_139 : decode cX12_aOne 139 = .ok (.goto (-13), 3) := by decide +kernel
theorem dX12_aOne_142 : decode cX12_aOne 142 = .ok (.aload_n 0, 1) := by decide +kernel
theorem dX12_aOne_143 : decode cX12_aOne 143 = .ok (.dup, 1) := by decide +kernel
theorem dX12_aOne_144 : decode cX12_aOne 144 = .ok (.getfield 238, 3) := by decide +kernel
theorem dX12_aOne_147 : decode cX12_aOne 147 = .ok (.iconst 1, 1) := by decide +kernel
theorem dX12_aOne_148 : decode cX12_aOne 148 = .ok (.isub, 1) := by decide +kernel
theorem dX12_aOne_149 : decode cX12_aOne 149 = .ok (.putfield 238, 3) := by decide +kernel
theorem dX12_aOne_152 : decode cX12_aOne 152 = .ok (.aload_n 0, 1) := by decide +kernel
theorem dX12_aOne_153 : decode cX12_aOne 153 = .ok (.dup, 1) := by decide +kernel
theorem dX12_aOne_154 : decode cX12_aOne 154 = .ok (.getfield 247, 3) := by decide +kernel
theorem dX12_aOne_157 : decode cX12_aOne 157 = .ok (.iconst 1, 1) := by decide +kernel
theorem dX12_aOne_158 : decode cX12_aOne 158 = .ok (.isub, 1) := by decide +kernel
theorem dX12_aOne_159 : decode cX12_aOne 159 = .ok (.putfield 247, 3) := by decide +kernel
theorem dX12_aOne_162 : decode cX12_aOne 162 = .ok (.aload_n 0, 1) := by decide +kernel
theorem dX12_aOne_163 : decode cX12_aOne 163 = .ok (.invokevirtual 180, 3) := by decide +kernel
theorem dX12_aOne_166 : decode cX12_aOne 166 = .ok (.aload_n 0, 1) := by decide +kernel
theorem dX12_aOne_167 : decode cX12_aOne 167 = .ok (.invokevirtual 256, 3) := by decide +kernel
theorem dX12_aOne_170 : decode cX12_aOne 170 = .ok (.goto (-60), 3) := by decide +kernel
theorem dX12_aOne_173 : decode cX12_aOne 173 = .ok (.iconst 1, 1) := by decide +kernel
theorem dX12_aOne_174 : decode cX12_aOne 174 = .ok (.ireturn, 1) := by decide +kernel
theorem dX12_isOpen_0 : decode cX12_isOpen 0 = .ok (.iconst 0, 1) := by decide +kernel
theorem dX12_isOpen_1 : decode cX12_isOpen 1 = .ok (.istore_n 1, 1) := by decide +kernel
theorem dX12_isOpen_2 : decode cX12_isOpen 2 = .ok (.iload_n 1, 1) := by decide +kernel
theorem dX12_isOpen_3 : decode cX12_isOpen 3 = .ok (.aload_n 0, 1) := by decide +kernel
theorem dX12_isOpen_4 : decode cX12_isOpen 4 = .ok (.getfield 238, 3) := by decide +kernel
theorem dX12_isOpen_7 : decode cX12_isOpen 7 = .ok (.if_icmp .ge 22, 3) := by decide +kernel
theorem dX12_isOpen_10 : decode cX12_isOpen 10 = .ok (.aload_n 0, 1) := by decide +kernel
theorem dX12_isOpen_11 : decode cX12_isOpen 11 = .ok (.getfield 53, 3) := by decide +kernel
theorem dX12_isOpen_14 : decode cX12_isOpen 14 = .ok (.iload_n 1, 1) := by decide +kernel
theorem dX12_isOpen_15 : decode cX12_isOpen 15 = .ok (.iaload, 1) := by decide +kernel
theorem dX12_isOpen_16 : decode cX12_isOpen 16 = .ok (.bipush 40, 2) := by decide +kernel
theorem dX12_isOpen_18 : decode cX12_isOpen 18 = .ok (.if_icmp .ne 5, 3) := by decide +kernel
theorem dX12_isOpen_21 : decode cX12_isOpen 21 = .ok (.iconst 1, 1) := by decide +kernel
theorem dX12_isOpen_22 : decode cX12_isOpen 22 = .ok (.ireturn, 1) := by decide +kernel
theorem dX12_isOpen_23 : decode cX12_isOpen 23 = .ok (.iinc 1 1, 3) := by decide +kernel
theorem dX12_isOpen_26 : decode cX12_isOpen 26 = .ok (.goto (-24), 3) := by decide +kernel
theorem dX12_isOpen_29 : decode cX12_isOpen 29 = .ok (.iconst 0, 1) := by decide +kernel
theorem dX12_isOpen_30 : decode cX12_isOpen 30 = .ok (.ireturn, 1) := by decide +kernel
theorem dX12_conditions_0 : decode cX12_conditions 0 = .ok (.aload_n 0, 1) := by decide +kernel
theorem dX12_conditions_1 : decode cX12_conditions 1 = .ok (.iconst 0, 1) := by decide +kernel
theorem dX12_conditions_2 : decode cX12_conditions 2 = .ok (.putfield 241, 3) := by decide +kernel
theorem dX12_conditions_5 : decode cX12_conditions 5 = .ok (.aload_n 0, 1) := by decide +kernel
theorem dX12_conditions_6 : decode cX12_conditions 6 = .ok (.iconst 0, 1) := by decide +kernel
theorem dX12_conditions_7 : decode cX12_conditions 7 = .ok (.putfield 238, 3) := by decide +kernel
theorem dX12_conditions_10 : decode cX12_conditions 10 = .ok (.aload_n 0, 1) := by decide +kernel
theorem dX12_conditions_11 : decode cX12_conditions 11 = .ok (.iconst 0, 1) := by decide +kernel
theorem dX12_conditions_12 : decode cX12_conditions 12 = .ok (.putfield 247, 3) := by decide +kernel
theorem dX12_conditions_15 : decode cX12_conditions 15 = .ok (.aload_n 0, 1) := by decide +kernel
theorem dX12_conditions_16 : decode cX12_conditions 16 = .ok (.invokevirtual 265, 3) := by decide +kernel
theorem dX12_conditions_19 : decode cX12_conditions 19 = .ok (.ifCond .ne 5, 3) := by decide +kernel
theorem dX12_conditions_22 : decode cX12_conditions 22 = .ok (.iconst 0, 1) := by decide +kernel
theorem dX12_conditions_23 : decode cX12_conditions 23 = .ok (.ireturn, 1) := by decide +kernel
theorem dX12_conditions_24 : decode cX12_conditions 24 = .ok (.aload_n 0, 1) := by decide +kernel
theorem dX12_conditions_25 : decode cX12_conditions 25 = .ok (.ldc 206, 2) := by decide +kernel
theorem dX12_conditions_27 : decode cX12_conditions 27 = .ok (.invokevirtual 189, 3) := by decide +kernel
theorem dX12_conditions_30 : decode cX12_conditions 30 = .ok (.istore_n 1, 1) := by decide +kernel
theorem dX12_conditions_31 : decode cX12_conditions 31 = .ok (.iload_n 1, 1) := by decide +kernel
theorem dX12_conditions_32 : decode cX12_conditions 32 = .ok (.bipush 10, 2) := by decide +kernel
theorem dX12_conditions_34 : decode cX12_conditions 34 = .ok (.if_icmp .eq 9, 3) := by decide +kernel
theorem dX12_conditions_37 : decode cX12_conditions 37 = .ok (.iload_n 1, 1) := by decide +kernel
theorem dX12_conditions_38 : decode cX12_conditions 38 = .ok (.bipush 11, 2) := by decide +kernel
theorem dX12_conditions_40 : decode cX12_conditions 40 = .ok (.if_icmp .ne 62, 3) := by decide +kernel
theorem dX12_conditions_43 : decode cX12_conditions 43 = .ok (.aload_n 0, 1) := by decide +kernel
theorem dX12_conditions_44 : decode cX12_conditions 44 = .ok (.bipush 11, 2) := by decide +kernel
theorem dX12_conditions_46 : decode cX12_conditions 46 = .ok (.invokevirtual 244, 3) := by decide +kernel
theorem dX12_conditions_49 : decode cX12_conditions 49 = .ok (.ifCond .ne 18, 3) := by decide +kernel
theorem dX12_conditions_52 : decode cX12_conditions 52 = .ok (.iload_n 1, 1) := by decide +kernel
theorem dX12_conditions_53 : decode cX12_conditions 53 = .ok (.bipush 10, 2) := by decide +kernel
theorem dX12_conditions_55 : decode cX12_conditions 55 = .ok (.if_icmp .ne 19, 3) := by decide +kernel
theorem dX12_conditions_58 : decode cX12_conditions 58 = .ok (.aload_n 0, 1) := by decide +kernel
theorem dX12_conditions_59 : decode cX12_conditions 59 = .ok (.bipush 10, 2) := by decide +kernel
theorem dX12_conditions_61 : decode cX12_conditions 61 = .ok (.invokevirtual 244, 3) := by decide +kernel
theorem dX12_conditions_64 : decode cX12_conditions 64 = .ok (.ifCond .eq 10, 3) := by decide +kernel
theorem dX12_conditions_67 : decode cX12_conditions 67 = .ok (.aload_n 0, 1) := by decide +kernel
theorem dX12_conditions_68 : decode cX12_conditions 68 = .ok (.invokevirtual 262, 3) := by decide +kernel
theorem dX12_conditions_71 : decode cX12_conditions 71 = .ok (.goto (-28), 3) := by decide +kernel
theorem dX12_conditions_74 : decode cX12_conditions 74 = .ok (.aload_n 0, 1) := by decide +kernel
theorem dX12_conditions_75 : decode cX12_conditions 75 = .ok (.iload_n 1, 1) := by decide +kernel
theorem dX12_conditions_76 : decode cX12_conditions 76 = .ok (.invokevirtual 250, 3) := by decide +kernel
theorem dX12_conditions_79 : decode cX12_conditions 79 = .ok (.aload_n 0, 1) := by decide +kernel
theorem dX12_conditions_80 : decode cX12_conditions 80 = .ok (.invokevirtual 180, 3) := by decide +kernel
theorem dX12_conditions_83 : decode cX12_conditions 83 = .ok (.aload_n 0, 1) := by decide +kernel
theorem dX12_conditions_84 : decode cX12_conditions 84 = .ok (.invokevirtual 265, 3) := by decide +kernel
theorem dX12_conditions_87 : decode cX12_conditions 87 = .ok (.ifCond .ne 5, 3) := by decide +kernel
theorem dX12_conditions_90 : decode cX12_conditions 90 = .ok (.iconst 0, 1) := by decide +kernel
theorem dX12_conditions_91 : decode cX12_conditions 91 = .ok (.ireturn, 1) := by decide +kernel
theorem dX12_conditions_92 : decode cX12_conditions 92 = .ok (.aload_n 0, 1) := by decide +kernel
theorem dX12_conditions_93 : decode cX12_conditions 93 = .ok (.ldc 206, 2) := by decide +kernel
theorem dX12_conditions_95 : decode cX12_conditions 95 = .ok (.invokevirtual 189, 3) := by decide +kernel
theorem dX12_conditions_98 : decode cX12_conditions 98 = .ok (.istore_n 1, 1) := by decide +kernel
theorem dX12_conditions_99 : decode cX12_conditions 99 = .ok (.goto (-68), 3) := by decide +kernel
theorem dX12_conditions_102 : decode cX12_conditions 102 = .ok (.aload_n 0, 1) := by decide +kernel
theorem dX12_conditions_103 : decode cX12_conditions 103 = .ok (.invokevirtual 259, 3) := by decide +kernel
theorem dX12_conditions_106 : decode cX12_conditions 106 = .ok (.ifCond .eq 9, 3) := by decide +kernel
theorem dX12_conditions_109 : decode cX12_conditions 109 = .ok (.aload_n 0, 1) := by decide +kernel
theorem dX12_conditions_110 : decode cX12_conditions 110 = .ok (.iconst 2, 1) := by decide +kernel
theorem dX12_conditions_111 : decode cX12_conditions 111 = .ok (.invokevirtual 186, 3) := by decide +kernel
theorem dX12_conditions_114 : decode cX12_conditions 114 = .ok (.ireturn, 1) := by decide +kernel
theorem dX12_conditions_115 : decode cX12_conditions 115 = .ok (.aload_n 0, 1) := by decide +kernel
theorem dX12_conditions_116 : decode cX12_conditions 116 = .ok (.getfield 238, 3) := by decide +kernel
theorem dX12_conditions_119 : decode cX12_conditions 119 = .ok (.ifCond .le 10, 3) := by decide +kernel
theorem dX12_conditions_122 : decode cX12_conditions 122 = .ok (.aload_n 0, 1) := by decide +kernel
theorem dX12_conditions_123 : decode cX12_conditions 123 = .ok (.invokevirtual 262, 3) := by decide +kernel
theorem dX12_conditions_126 : decode cX12_conditions 126 = .ok (.goto (-11), 3) := by decide +kernel
theorem dX12_conditions_129 : decode cX12_conditions 129 = .ok (.iconst 1, 1) := by decide +kernel
theorem dX12_conditions_130 : decode cX12_conditions 130 = .ok (.ireturn, 1) := by decide +kernel
theorem dX12_aQuestion_0 : decode cX12_aQuestion 0 = .ok (.aload_n 0, 1) := by decide +kernel
theorem dX12_aQuestion_1 : decode cX12_aQuestion 1 = .ok (.getfield 7, 3) := by decide +kernel
theorem dX12_aQuestion_4 : decode cX12_aQuestion 4 = .ok (.sipush 1603, 3) := by decide +kernel
theorem dX12_aQuestion_7 : decode cX12_aQuestion 7 = .ok (.iaload, 1) := by decide +kernel
theorem dX12_aQuestion_8 : decode cX12_aQuestion 8 = .ok (.istore_n 1, 1) := by decide +kernel
theorem dX12_aQuestion_9 : decode cX12_aQuestion 9 = .ok (.iload_n 1, 1) := by decide +kernel
theorem dX12_aQuestion_10 : decode cX12_aQuestion 10 = .ok (.bipush 12, 2) := by decide +kernel
theorem dX12_aQuestion_12 : decode cX12_aQuestion 12 = .ok (.if_icmp .ne 10, 3) := by decide +kernel
theorem dX12_aQuestion_15 : decode cX12_aQuestion 15 = .ok (.aload_n 0, 1) := by decide +kernel
theorem dX12_aQuestion_16 : decode cX12_aQuestion 16 = .ok (.bipush 6, 2) := by decide +kernel
theorem dX12_aQuestion_18 : decode cX12_aQuestion 18 = .ok (.invokevirtual 186, 3) := by decide +kernel
theorem dX12_aQuestion_21 : decode cX12_aQuestion 21 = .ok (.ireturn, 1) := by decide +kernel
theorem dX12_aQuestion_22 : decode cX12_aQuestion 22 = .ok (.aload_n 0, 1) := by decide +kernel
theorem dX12_aQuestion_23 : decode cX12_aQuestion 23 = .ok (.invokevirtual 180, 3) := by decide +kernel
theorem dX12_aQuestion_26 : decode cX12_aQuestion 26 = .ok (.aload_n 0, 1) := by decide +kernel
theorem dX12_aQuestion_27 : decode cX12_aQuestion 27 = .ok (.bipush 28, 2) := by decide +kernel
theorem dX12_aQuestion_29 : decode cX12_aQuestion 29 = .ok (.iload_n 1, 1) := by decide +kernel
theorem dX12_aQuestion_30 : decode cX12_aQuestion 30 = .ok (.invokevirtual 219, 3) := by decide +kernel
theorem dX12_aQuestion_33 : decode cX12_aQuestion 33 = .ok (.ifCond .ne 5, 3) := by decide +kernel
theorem dX12_aQuestion_36 : decode cX12_aQuestion 36 = .ok (.iconst 0, 1) := by decide +kernel
theorem dX12_aQuestion_37 : decode cX12_aQuestion 37 = .ok (.ireturn, 1) := by decide +kernel
theorem dX12_aQuestion_38 : decode cX12_aQuestion 38 = .ok (.aload_n 0, 1) := by decide +kernel
theorem dX12_aQuestion_39 : decode cX12_aQuestion 39 = .ok (.ldc 206, 2) := by decide +kernel
theorem dX12_aQuestion_41 : decode cX12_aQuestion 41 = .ok (.iconst 5, 1) := by decide +kernel
theorem dX12_aQuestion_42 : decode cX12_aQuestion 42 = .ok (.invokevirtual 223, 3) := by decide +kernel
theorem dX12_aQuestion_45 : decode cX12_aQuestion 45 = .ok (.ifCond .eq 29, 3) := by decide +kernel
theorem dX12_aQuestion_48 : decode cX12_aQuestion 48 = .ok (.aload_n 0, 1) := by decide +kernel
theorem dX12_aQuestion_49 : decode cX12_aQuestion 49 = .ok (.sipush 1664, 3) := by decide +kernel
theorem dX12_aQuestion_52 : decode cX12_aQuestion 52 = .ok (.iload_n 1, 1) := by decide +kernel
theorem dX12_aQuestion_53 : decode cX12_aQuestion 53 = .ok (.iadd, 1) := by decide +kernel
theorem dX12_aQuestion_54 : decode cX12_aQuestion 54 = .ok (.iconst 0, 1) := by decide +kernel
theorem dX12_aQuestion_55 : decode cX12_aQuestion 55 = .ok (.bipush 99, 2) := by decide +kernel
theorem dX12_aQuestion_57 : decode cX12_aQuestion 57 = .ok (.invokevirtual 227, 3) := by decide +kernel
theorem dX12_aQuestion_60 : decode cX12_aQuestion 60 = .ok (.ifCond .eq 14, 3) := by decide +kernel
theorem dX12_aQuestion_63 : decode cX12_aQuestion 63 = .ok (.aload_n 0, 1) := by decide +kernel
theorem dX12_aQuestion_64 : decode cX12_aQuestion 64 = .ok (.ldc 206, 2) := by decide +kernel
theorem dX12_aQuestion_66 : decode cX12_aQuestion 66 = .ok (.bipush 6, 2) := by decide +kernel
theorem dX12_aQuestion_68 : decode cX12_aQuestion 68 = .ok (.invokevirtual 223, 3) := by decide +kernel
theorem dX12_aQuestion_71 : decode cX12_aQuestion 71 = .ok (.ifCond .ne 5, 3) := by decide +kernel
theorem dX12_aQuestion_74 : decode cX12_aQuestion 74 = .ok (.iconst 0, 1) := by decide +kernel
theorem dX12_aQuestion_75 : decode cX12_aQuestion 75 = .ok (.ireturn, 1) := by decide +kernel
theorem dX12_aQuestion_76 : decode cX12_aQuestion 76 = .ok (.aload_n 0, 1) := by decide +kernel
theorem dX12_aQuestion_77 : decode cX12_aQuestion 77 = .ok (.invokevirtual 268, 3) := by decide +kernel
theorem dX12_aQuestion_80 : decode cX12_aQuestion 80 = .ok (.ifCond .ne 5, 3) := by decide +kernel
theorem dX12_aQuestion_83 : decode cX12_aQuestion 83 = .ok (.iconst 0, 1) := by decide +kernel
theorem dX12_aQuestion_84 : decode cX12_aQuestion 84 = .ok (.ireturn, 1) := by decide +kernel
theorem dX12_aQuestion_85 : decode cX12_aQuestion 85 = .ok (.iload_n 1, 1) := by decide +kernel
theorem dX12_aQuestion_86 : decode cX12_aQuestion 86 = .ok (.ifCond .ne 7, 3) := by decide +kernel
theorem dX12_aQuestion_89 : decode cX12_aQuestion 89 = .ok (.aload_n 0, 1) := by decide +kernel
theorem dX12_aQuestion_90 : decode cX12_aQuestion 90 = .ok (.invokevirtual 271, 3) := by decide +kernel
theorem dX12_aQuestion_93 : decode cX12_aQuestion 93 = .ok (.iconst 0, 1) := by decide +kernel
theorem dX12_aQuestion_94 : decode cX12_aQuestion 94 = .ok (.istore_n 2, 1) := by decide +kernel
theorem dX12_aQuestion_95 : decode cX12_aQuestion 95 = .ok (.iload_n 2, 1) := by decide +kernel
theorem dX12_aQuestion_96 : decode cX12_aQuestion 96 = .ok (.iconst 4, 1) := by decide +kernel
theorem dX12_aQuestion_97 : decode cX12_aQuestion 97 = .ok (.if_icmp .ge 40, 3) := by decide +kernel
theorem dX12_aQuestion_100 : decode cX12_aQuestion 100 = .ok (.aload_n 0, 1) := by decide +kernel
theorem dX12_aQuestion_101 : decode cX12_aQuestion 101 = .ok (.getfield 13, 3) := by decide +kernel
theorem dX12_aQuestion_104 : decode cX12_aQuestion 104 = .ok (.sipush 212, 3) := by decide +kernel
theorem dX12_aQuestion_107 : decode cX12_aQuestion 107 = .ok (.iconst 4, 1) := by decide +kernel
theorem dX12_aQuestion_108 : decode cX12_aQuestion 108 = .ok (.iload_n 1, 1) := by decide +kernel
theorem dX12_aQuestion_109 : decode cX12_aQuestion 109 = .ok (.imul, 1) := by decide +kernel
theorem dX12_aQuestion_110 : decode cX12_aQuestion 110 = .ok (.iadd, 1) := by decide +kernel
theorem dX12_aQuestion_111 : decode cX12_aQuestion 111 = .ok (.iload_n 2, 1) := by decide +kernel
theorem dX12_aQuestion_112 : decode cX12_aQuestion 112 = .ok (.iadd, 1) := by decide +kernel
theorem dX12_aQuestion_113 : decode cX12_aQuestion 113 = .ok (.aload_n 0, 1) := by decide +kernel
theorem dX12_aQuestion_114 : decode cX12_aQuestion 114 = .ok (.getfield 50, 3) := by decide +kernel
theorem dX12_aQuestion_117 : decode cX12_aQuestion 117 = .ok (.iload_n 2, 1) := by decide +kernel
theorem dX12_aQuestion_118 : decode cX12_aQuestion 118 = .ok (.laload, 1) := by decide +kernel
theorem dX12_aQuestion_119 : decode cX12_aQuestion 119 = .ok (.aload_n 0, 1) := by decide +kernel
theorem dX12_aQuestion_120 : decode cX12_aQuestion 120 = .ok (.getfield 13, 3) := by decide +kernel
theorem dX12_aQuestion_123 : decode cX12_aQuestion 123 = .ok (.sipush 208, 3) := by decide +kernel
theorem dX12_aQuestion_126 : decode cX12_aQuestion 126 = .ok (.iload_n 2, 1) := by decide +kernel
theorem dX12_aQuestion_127 : decode cX12_aQuestion 127 = .ok (.iadd, 1) := by decide +kernel
theorem dX12_aQuestion_128 : decode cX12_aQuestion 128 = .ok (.laload, 1) := by decide +kernel
theorem dX12_aQuestion_129 : decode cX12_aQuestion 129 = .ok (.land, 1) := by decide +kernel
theorem dX12_aQuestion_130 : decode cX12_aQuestion 130 = .ok (.lastore, 1) := by decide +kernel
theorem dX12_aQuestion_131 : decode cX12_aQuestion 131 = .ok (.iinc 2 1, 3) := by decide +kernel
theorem dX12_aQuestion_134 : decode cX12_aQuestion 134 = .ok (.goto (-39), 3) := by decide +kernel
theorem dX12_aQuestion_137 : decode cX12_aQuestion 137 = .ok (.aload_n 0, 1) := by decide +kernel
theorem dX12_aQuestion_138 : decode cX12_aQuestion 138 = .ok (.getfield 7, 3) := by decide +kernel
theorem dX12_aQuestion_141 : decode cX12_aQuestion 141 = .ok (.sipush 1603, 3) := by decide +kernel
theorem dX12_aQuestion_144 : decode cX12_aQuestion 144 = .ok (.dup2, 1) := by decide +kernel
theorem dX12_aQuestion_145 : decode cX12_aQuestion 145 = .ok (.iaload, 1) := by decide +kernel
theorem dX12_aQuestion_146 : decode cX12_aQuestion 146 = .ok (.iconst 1, 1) := by decide +kernel
theorem dX12_aQuestion_147 : decode cX12_aQuestion 147 = .ok (.iadd, 1) := by decide +kernel
theorem dX12_aQuestion_148 : decode cX12_aQuestion 148 = .ok (.iastore, 1) := by decide +kernel
theorem dX12_aQuestion_149 : decode cX12_aQuestion 149 = .ok (.iconst 1, 1) := by decide +kernel
theorem dX12_aQuestion_150 : decode cX12_aQuestion 150 = .ok (.ireturn, 1) := by decide +kernel
theorem dX12_several_0 : decode cX12_several 0 = .ok (.aload_n 0, 1) := by decide +kernel
theorem dX12_several_1 : decode cX12_several 1 = .ok (.invokevirtual 180, 3) := by decide +kernel
theorem dX12_several_4 : decode cX12_several 4 = .ok (.aload_n 0, 1) := by decide +kernel
theorem dX12_several_5 : decode cX12_several 5 = .ok (.ldc 206, 2) := by decide +kernel
theorem dX12_several_7 : decode cX12_several 7 = .ok (.invokevirtual 208, 3) := by decide +kernel
theorem dX12_several_10 : decode cX12_several 10 = .ok (.ifCond .ne 9, 3) := by decide +kernel
theorem dX12_several_13 : decode cX12_several 13 = .ok (.aload_n 0, 1) := by decide +kernel
theorem dX12_several_14 : decode cX12_several 14 = .ok (.iconst 2, 1) := by decide +kernel
theorem dX12_several_15 : decode cX12_several 15 = .ok (.invokevirtual 186, 3) := by decide +kernel
theorem dX12_several_18 : decode cX12_several 18 = .ok (.ireturn, 1) := by decide +kernel
theorem dX12_several_19 : decode cX12_several 19 = .ok (.aload_n 0, 1) := by decide +kernel
theorem dX12_several_20 : decode cX12_several 20 = .ok (.ldc 206, 2) := by decide +kernel
theorem dX12_several_22 : decode cX12_several 22 = .ok (.invokevirtual 208, 3) := by decide +kernel
theorem dX12_several_25 : decode cX12_several 25 = .ok (.ifCond .eq 62, 3) := by decide +kernel
theorem dX12_several_28 : decode cX12_several 28 = .ok (.aload_n 0, 1) := by decide +kernel
theorem dX12_several_29 : decode cX12_several 29 = .ok (.sipush 176, 3) := by decide +kernel
theorem dX12_several_32 : decode cX12_several 32 = .ok (.iload_n 2, 1) := by decide +kernel
theorem dX12_several_33 : decode cX12_several 33 = .ok (.iload_n 3, 1) := by decide +kernel
theorem dX12_several_34 : decode cX12_several 34 = .ok (.invokevirtual 231, 3) := by decide +kernel
theorem dX12_several_37 : decode cX12_several 37 = .ok (.ifCond .ne 5, 3) := by decide +kernel
theorem dX12_several_40 : decode cX12_several 40 = .ok (.iconst 0, 1) := by decide +kernel
theorem dX12_several_41 : decode cX12_several 41 = .ok (.ireturn, 1) := by decide +kernel
theorem dX12_several_42 : decode cX12_several 42 = .ok (.aload_n 0, 1) := by decide +kernel
theorem dX12_several_43 : decode cX12_several 43 = .ok (.getfield 7, 3) := by decide +kernel
theorem dX12_several_46 : decode cX12_several 46 = .ok (.iload_n 1, 1) := by decide +kernel
theorem dX12_several_47 : decode cX12_several 47 = .ok (.iaload, 1) := by decide +kernel
theorem dX12_several_48 : decode cX12_several 48 = .ok (.aload_n 0, 1) := by decide +kernel
theorem dX12_several_49 : decode cX12_several 49 = .ok (.getfield 216, 3) := by decide +kernel
theorem dX12_several_52 : decode cX12_several 52 = .ok (.ishr, 1) := by decide +kernel
theorem dX12_several_53 : decode cX12_several 53 = .ok (.iconst 1, 1) := by decide +kernel
theorem dX12_several_54 : decode cX12_several 54 = .ok (.iand, 1) := by decide +kernel
theorem dX12_several_55 : decode cX12_several 55 = .ok (.iconst 1, 1) := by decide +kernel
theorem dX12_several_56 : decode cX12_several 56 = .ok (.if_icmp .ne 9, 3) := by decide +kernel
theorem dX12_several_59 : decode cX12_several 59 = .ok (.aload_n 0, 1) := by decide +kernel
theorem dX12_several_60 : decode cX12_several 60 = .ok (.iconst 5, 1) := by decide +kernel
theorem dX12_several_61 : decode cX12_several 61 = .ok (.invokevirtual 186, 3) := by decide +kernel
theorem dX12_several_64 : decode cX12_several 64 = .ok (.ireturn, 1) := by decide +kernel
theorem dX12_several_65 : decode cX12_several 65 = .ok (.aload_n 0, 1) := by decide +kernel
theorem dX12_several_66 : decode cX12_several 66 = .ok (.getfield 7, 3) := by decide +kernel
theorem dX12_several_69 : decode cX12_several 69 = .ok (.iload_n 1, 1) := by decide +kernel
theorem dX12_several_70 : decode cX12_several 70 = .ok (.dup2, 1) := by decide +kernel
theorem dX12_several_71 : decode cX12_several 71 = .ok (.iaload, 1) := by decide +kernel
theorem dX12_several_72 : decode cX12_several 72 = .ok (.iconst 1, 1) := by decide +kernel
theorem dX12_several_73 : decode cX12_several 73 = .ok (.aload_n 0, 1) := by decide +kernel
theorem dX12_several_74 : decode cX12_several 74 = .ok (.getfield 216, 3) := by decide +kernel
theorem dX12_several_77 : decode cX12_several 77 = .ok (.ishl, 1) := by decide +kernel
theorem dX12_several_78 : decode cX12_several 78 = .ok (.ior, 1) := by decide +kernel
theorem dX12_several_79 : decode cX12_several 79 = .ok (.iastore, 1) := by decide +kernel
theorem dX12_several_80 : decode cX12_several 80 = .ok (.aload_n 0, 1) := by decide +kernel
theorem dX12_several_81 : decode cX12_several 81 = .ok (.invokevirtual 180, 3) := by decide +kernel
theorem dX12_several_84 : decode cX12_several 84 = .ok (.goto (-65), 3) := by decide +kernel
theorem dX12_several_87 : decode cX12_several 87 = .ok (.iconst 1, 1) := by decide +kernel
theorem dX12_several_88 : decode cX12_several 88 = .ok (.ireturn, 1) := by decide +kernel
theorem dX12_aWitness_0 : decode cX12_aWitness 0 = .ok (.aload_n 0, 1) := by decide +kernel
theorem dX12_aWitness_1 : decode cX12_aWitness 1 = .ok (.getfield 7, 3) := by decide +kernel
theorem dX12_aWitness_4 : decode cX12_aWitness 4 = .ok (.sipush 1604, 3) := by decide +kernel
theorem dX12_aWitness_7 : decode cX12_aWitness 7 = .ok (.iaload, 1) := by decide +kernel
theorem dX12_aWitness_8 : decode cX12_aWitness 8 = .ok (.istore_n 1, 1) := by decide +kernel
theorem dX12_aWitness_9 : decode cX12_aWitness 9 = .ok (.sipush 1676, 3) := by decide +kernel
theorem dX12_aWitness_12 : decode cX12_aWitness 12 = .ok (.bipush 6, 2) := by decide +kernel
theorem dX12_aWitness_14 : decode cX12_aWitness 14 = .ok (.iload_n 1, 1) := by decide +kernel
theorem dX12_aWitness_15 : decode cX12_aWitness 15 = .ok (.imul, 1) := by decide +kernel
theorem dX12_aWitness_16 : decode cX12_aWitness 16 = .ok (.iadd, 1) := by decide +kernel
theorem dX12_aWitness_17 : decode cX12_aWitness 17 = .ok (.istore_n 2, 1) := by decide +kernel
theorem dX12_aWitness_18 : decode cX12_aWitness 18 = .ok (.iload_n 1, 1) := by decide +kernel
theorem dX12_aWitness_19 : decode cX12_aWitness 19 = .ok (.iconst 4, 1) := by decide +kernel
theorem dX12_aWitness_20 : decode cX12_aWitness 20 = .ok (.if_icmp .ne 10, 3) := by decide +kernel
theorem dX12_aWitness_23 : decode cX12_aWitness 23 = .ok (.aload_n 0, 1) := by decide +kernel
theorem dX12_aWitness_24 : decode cX12_aWitness 24 = .ok (.bipush 6, 2) := by decide +kernel
theorem dX12_aWitness_26 : decode cX12_aWitness 26 = .ok (.invokevirtual 186, 3) := by decide +kernel
theorem dX12_aWitness_29 : decode cX12_aWitness 29 = .ok (.ireturn, 1) := by decide +kernel
theorem dX12_aWitness_30 : decode cX12_aWitness 30 = .ok (.aload_n 0, 1) := by decide +kernel
theorem dX12_aWitness_31 : decode cX12_aWitness 31 = .ok (.invokevirtual 180, 3) := by decide +kernel
theorem dX12_aWitness_34 : decode cX12_aWitness 34 = .ok (.aload_n 0, 1) := by decide +kernel
theorem dX12_aWitness_35 : decode cX12_aWitness 35 = .ok (.bipush 40, 2) := by decide +kernel
theorem dX12_aWitness_37 : decode cX12_aWitness 37 = .ok (.iload_n 1, 1) := by decide +kernel
theorem dX12_aWitness_38 : decode cX12_aWitness 38 = .ok (.invokevirtual 219, 3) := by decide +kernel
theorem dX12_aWitness_41 : decode cX12_aWitness 41 = .ok (.ifCond .ne 5, 3) := by decide +kernel
theorem dX12_aWitness_44 : decode cX12_aWitness 44 = .ok (.iconst 0, 1) := by decide +kernel
theorem dX12_aWitness_45 : decode cX12_aWitness 45 = .ok (.ireturn, 1) := by decide +kernel
theorem dX12_aWitness_46 : decode cX12_aWitness 46 = .ok (.aload_n 0, 1) := by decide +kernel
theorem dX12_aWitness_47 : decode cX12_aWitness 47 = .ok (.ldc 206, 2) := by decide +kernel
theorem dX12_aWitness_49 : decode cX12_aWitness 49 = .ok (.invokevirtual 189, 3) := by decide +kernel
theorem dX12_aWitness_52 : decode cX12_aWitness 52 = .ok (.bipush 7, 2) := by decide +kernel
theorem dX12_aWitness_54 : decode cX12_aWitness 54 = .ok (.if_icmp .ne 24, 3) := by decide +kernel
theorem dX12_aWitness_57 : decode cX12_aWitness 57 = .ok (.aload_n 0, 1) := by decide +kernel
theorem dX12_aWitness_58 : decode cX12_aWitness 58 = .ok (.iload_n 2, 1) := by decide +kernel
theorem dX12_aWitness_59 : decode cX12_aWitness 59 = .ok (.iconst 4, 1) := by decide +kernel
theorem dX12_aWitness_60 : decode cX12_aWitness 60 = .ok (.iadd, 1) := by decide +kernel
theorem dX12_aWitness_61 : decode cX12_aWitness 61 = .ok (.iconst 0, 1) := by decide +kernel
theorem dX12_aWitness_62 : decode cX12_aWitness 62 = .ok (.aload_n 0, 1) := by decide +kernel
theorem dX12_aWitness_63 : decode cX12_aWitness 63 = .ok (.getfield 7, 3) := by decide +kernel
theorem dX12_aWitness_66 : decode cX12_aWitness 66 = .ok (.sipush 1600, 3) := by decide +kernel
theorem dX12_aWitness_69 : decode cX12_aWitness 69 = .ok (.iaload, 1) := by decide +kernel
theorem dX12_aWitness_70 : decode cX12_aWitness 70 = .ok (.invokevirtual 274, 3) := by decide +kernel
theorem dX12_aWitness_73 : decode cX12_aWitness 73 = .ok (.ifCond .ne 5, 3) := by decide +kernel
theorem dX12_aWitness_76 : decode cX12_aWitness 76 = .ok (.iconst 0, 1) := by decide +kernel
theorem dX12_aWitness_77 : decode cX12_aWitness 77 = .ok (.ireturn, 1) := by decide +kernel
theorem dX12_aWitness_78 : decode cX12_aWitness 78 = .ok (.aload_n 0, 1) := by decide +kernel
theorem dX12_aWitness_79 : decode cX12_aWitness 79 = .ok (.ldc 206, 2) := by decide +kernel
theorem dX12_aWitness_81 : decode cX12_aWitness 81 = .ok (.bipush 8, 2) := by decide +kernel
theorem dX12_aWitness_83 : decode cX12_aWitness 83 = .ok (.invokevirtual 223, 3) := by decide +kernel
theorem dX12_aWitness_86 : decode cX12_aWitness 86 = .ok (.ifCond .ne 5, 3) := by decide +kernel
theorem dX12_aWitness_89 : decode cX12_aWitness 89 = .ok (.iconst 0, 1) := by decide +kernel
theorem dX12_aWitness_90 : decode cX12_aWitness 90 = .ok (.ireturn, 1) := by decide +kernel
theorem dX12_aWitness_91 : decode cX12_aWitness 91 = .ok (.aload_n 0, 1) := by decide +kernel
theorem dX12_aWitness_92 : decode cX12_aWitness 92 = .ok (.ldc 206, 2) := by decide +kernel
theorem dX12_aWitness_94 : decode cX12_aWitness 94 = .ok (.invokevirtual 189, 3) := by decide +kernel
theorem dX12_aWitness_97 : decode cX12_aWitness 97 = .ok (.bipush 13, 2) := by decide +kernel
theorem dX12_aWitness_99 : decode cX12_aWitness 99 = .ok (.isub, 1) := by decide +kernel
theorem dX12_aWitness_100 : decode cX12_aWitness 100 = .ok (.istore_n 3, 1) := by decide +kernel
theorem dX12_aWitness_101 : decode cX12_aWitness 101 = .ok (.iload_n 3, 1) := by decide +kernel
theorem dX12_aWitness_102 : decode cX12_aWitness 102 = .ok (.ifCond .lt 8, 3) := by decide +kernel
theorem dX12_aWitness_105 : decode cX12_aWitness 105 = .ok (.iload_n 3, 1) := by decide +kernel
theorem dX12_aWitness_106 : decode cX12_aWitness 106 = .ok (.iconst 3, 1) := by decide +kernel
theorem dX12_aWitness_107 : decode cX12_aWitness 107 = .ok (.if_icmp .le 9, 3) := by decide +kernel
theorem dX12_aWitness_110 : decode cX12_aWitness 110 = .ok (.aload_n 0, 1) := by decide +kernel
theorem dX12_aWitness_111 : decode cX12_aWitness 111 = .ok (.iconst 2, 1) := by decide +kernel
theorem dX12_aWitness_112 : decode cX12_aWitness 112 = .ok (.invokevirtual 186, 3) := by decide +kernel
theorem dX12_aWitness_115 : decode cX12_aWitness 115 = .ok (.ireturn, 1) := by decide +kernel
theorem dX12_aWitness_116 : decode cX12_aWitness 116 = .ok (.iconst 0, 1) := by decide +kernel
theorem dX12_aWitness_117 : decode cX12_aWitness 117 = .ok (.istore 4, 2) := by decide +kernel
theorem dX12_aWitness_119 : decode cX12_aWitness 119 = .ok (.iload_n 3, 1) := by decide +kernel
theorem dX12_aWitness_120 : decode cX12_aWitness 120 = .ok (.ifCond .lt 70, 3) := by decide +kernel
theorem dX12_aWitness_123 : decode cX12_aWitness 123 = .ok (.iload_n 3, 1) := by decide +kernel
theorem dX12_aWitness_124 : decode cX12_aWitness 124 = .ok (.iconst 4, 1) := by decide +kernel
theorem dX12_aWitness_125 : decode cX12_aWitness 125 = .ok (.if_icmp .ge 65, 3) := by decide +kernel
theorem dX12_aWitness_128 : decode cX12_aWitness 128 = .ok (.aload_n 0, 1) := by decide +kernel
theorem dX12_aWitness_129 : decode cX12_aWitness 129 = .ok (.getfield 7, 3) := by decide +kernel
theorem dX12_aWitness_132 : decode cX12_aWitness 132 = .ok (.iload_n 2, 1) := by decide +kernel
theorem dX12_aWitness_133 : decode cX12_aWitness 133 = .ok (.iload_n 3, 1) := by decide +kernel
theorem dX12_aWitness_134 : decode cX12_aWitness 134 = .ok (.iadd, 1) := by decide +kernel
theorem dX12_aWitness_135 : decode cX12_aWitness 135 = .ok (.iaload, 1) := by decide +kernel
theorem dX12_aWitness_136 : decode cX12_aWitness 136 = .ok (.ifCond .le 9, 3) := by decide +kernel
theorem dX12_aWitness_139 : decode cX12_aWitness 139 = .ok (.aload_n 0, 1) := by decide +kernel
theorem dX12_aWitness_140 : decode cX12_aWitness 140 = .ok (.iconst 5, 1) := by decide +kernel
theorem dX12_aWitness_141 : decode cX12_aWitness 141 = .ok (.invokevirtual 186, 3) := by decide +kernel
theorem dX12_aWitness_144 : decode cX12_aWitness 144 = .ok (.ireturn, 1) := by decide +kernel
theorem dX12_aWitness_145 : decode cX12_aWitness 145 = .ok (.aload_n 0, 1) := by decide +kernel
theorem dX12_aWitness_146 : decode cX12_aWitness 146 = .ok (.invokevirtual 180, 3) := by decide +kernel
theorem dX12_aWitness_149 : decode cX12_aWitness 149 = .ok (.aload_n 0, 1) := by decide +kernel
theorem dX12_aWitness_150 : decode cX12_aWitness 150 = .ok (.iload_n 2, 1) := by decide +kernel
theorem dX12_aWitness_151 : decode cX12_aWitness 151 = .ok (.iload_n 3, 1) := by decide +kernel
theorem dX12_aWitness_152 : decode cX12_aWitness 152 = .ok (.iadd, 1) := by decide +kernel
theorem dX12_aWitness_153 : decode cX12_aWitness 153 = .ok (.iconst 1, 1) := by decide +kernel
theorem dX12_aWitness_154 : decode cX12_aWitness 154 = .ok (.bipush 16, 2) := by decide +kernel
theorem dX12_aWitness_156 : decode cX12_aWitness 156 = .ok (.invokevirtual 227, 3) := by decide +kernel
theorem dX12_aWitness_159 : decode cX12_aWitness 159 = .ok (.ifCond .ne 5, 3) := by decide +kernel
theorem dX12_aWitness_162 : decode cX12_aWitness 162 = .ok (.iconst 0, 1) := by decide +kernel
theorem dX12_aWitness_163 : decode cX12_aWitness 163 = .ok (.ireturn, 1) := by decide +kernel
theorem dX12_aWitness_164 : decode cX12_aWitness 164 = .ok (.iload 4, 2) := by decide +kernel
theorem dX12_aWitness_166 : decode cX12_aWitness 166 = .ok (.aload_n 0, 1) := by decide +kernel
theorem dX12_aWitness_167 : decode cX12_aWitness 167 = .ok (.getfield 7, 3) := by decide +kernel
theorem dX12_aWitness_170 : decode cX12_aWitness 170 = .ok (.iload_n 2, 1) := by decide +kernel
theorem dX12_aWitness_171 : decode cX12_aWitness 171 = .ok (.iload_n 3, 1) := by decide +kernel
theorem dX12_aWitness_172 : decode cX12_aWitness 172 = .ok (.iadd, 1) := by decide +kernel
theorem dX12_aWitness_173 : decode cX12_aWitness 173 = .ok (.iaload, 1) := by decide +kernel
theorem dX12_aWitness_174 : decode cX12_aWitness 174 = .ok (.iadd, 1) := by decide +kernel
theorem dX12_aWitness_175 : decode cX12_aWitness 175 = .ok (.istore 4, 2) := by decide +kernel
theorem dX12_aWitness_177 : decode cX12_aWitness 177 = .ok (.aload_n 0, 1) := by decide +kernel
theorem dX12_aWitness_178 : decode cX12_aWitness 178 = .ok (.ldc 206, 2) := by decide +kernel
theorem dX12_aWitness_180 : decode cX12_aWitness 180 = .ok (.invokevirtual 189, 3) := by decide +kernel
theorem dX12_aWitness_183 : decode cX12_aWitness 183 = .ok (.bipush 13, 2) := by decide +kernel
theorem dX12_aWitness_185 : decode cX12_aWitness 185 = .ok (.isub, 1) := by decide +kernel
theorem dX12_aWitness_186 : decode cX12_aWitness 186 = .ok (.istore_n 3, 1) := by decide +kernel
theorem dX12_aWitness_187 : decode cX12_aWitness 187 = .ok (.goto (-68), 3) := by decide +kernel
theorem dX12_aWitness_190 : decode cX12_aWitness 190 = .ok (.aload_n 0, 1) := by decide +kernel
theorem dX12_aWitness_191 : decode cX12_aWitness 191 = .ok (.bipush 59, 2) := by decide +kernel
theorem dX12_aWitness_193 : decode cX12_aWitness 193 = .ok (.invokevirtual 183, 3) := by decide +kernel
theorem dX12_aWitness_196 : decode cX12_aWitness 196 = .ok (.ifCond .ne 14, 3) := by decide +kernel
theorem dX12_aWitness_199 : decode cX12_aWitness 199 = .ok (.aload_n 0, 1) := by decide +kernel
theorem dX12_aWitness_200 : decode cX12_aWitness 200 = .ok (.ldc 206, 2) := by decide +kernel
theorem dX12_aWitness_202 : decode cX12_aWitness 202 = .ok (.invokevirtual 189, 3) := by decide +kernel
theorem dX12_aWitness_205 : decode cX12_aWitness 205 = .ok (.bipush 9, 2) := by decide +kernel
theorem dX12_aWitness_207 : decode cX12_aWitness 207 = .ok (.if_icmp .ne 17, 3) := by decide +kernel
theorem dX12_aWitness_210 : decode cX12_aWitness 210 = .ok (.iload 4, 2) := by decide +kernel
theorem dX12_aWitness_212 : decode cX12_aWitness 212 = .ok (.bipush 16, 2) := by decide +kernel
theorem dX12_aWitness_214 : decode cX12_aWitness 214 = .ok (.if_icmp .eq 10, 3) := by decide +kernel
theorem dX12_aWitness_217 : decode cX12_aWitness 217 = .ok (.aload_n 0, 1) := by decide +kernel
theorem dX12_aWitness_218 : decode cX12_aWitness 218 = .ok (.bipush 8, 2) := by decide +kernel
theorem dX12_aWitness_220 : decode cX12_aWitness 220 = .ok (.invokevirtual 186, 3) := by decide +kernel
theorem dX12_aWitness_223 : decode cX12_aWitness 223 = .ok (.ireturn, 1) := by decide +kernel
theorem dX12_aWitness_224 : decode cX12_aWitness 224 = .ok (.aload_n 0, 1) := by decide +kernel
theorem dX12_aWitness_225 : decode cX12_aWitness 225 = .ok (.ldc 206, 2) := by decide +kernel
theorem dX12_aWitness_227 : decode cX12_aWitness 227 = .ok (.invokevirtual 189, 3) := by decide +kernel
theorem dX12_aWitness_230 : decode cX12_aWitness 230 = .ok (.bipush 9, 2) := by decide +kernel
theorem dX12_aWitness_232 : decode cX12_aWitness 232 = .ok (.if_icmp .ne 25, 3) := by decide +kernel
theorem dX12_aWitness_235 : decode cX12_aWitness 235 = .ok (.aload_n 0, 1) := by decide +kernel
theorem dX12_aWitness_236 : decode cX12_aWitness 236 = .ok (.iload_n 2, 1) := by decide +kernel
theorem dX12_aWitness_237 : decode cX12_aWitness 237 = .ok (.iconst 5, 1) := by decide +kernel
theorem dX12_aWitness_238 : decode cX12_aWitness 238 = .ok (.iadd, 1) := by decide +kernel
theorem dX12_aWitness_239 : decode cX12_aWitness 239 = .ok (.bipush 28, 2) := by decide +kernel
theorem dX12_aWitness_241 : decode cX12_aWitness 241 = .ok (.aload_n 0, 1) := by decide +kernel
theorem dX12_aWitness_242 : decode cX12_aWitness 242 = .ok (.getfield 7, 3) := by decide +kernel
theorem dX12_aWitness_245 : decode cX12_aWitness 245 = .ok (.sipush 1603, 3) := by decide +kernel
theorem dX12_aWitness_248 : decode cX12_aWitness 248 = .ok (.iaload, 1) := by decide +kernel
theorem dX12_aWitness_249 : decode cX12_aWitness 249 = .ok (.invokevirtual 274, 3) := by decide +kernel
theorem dX12_aWitness_252 : decode cX12_aWitness 252 = .ok (.ifCond .ne 5, 3) := by decide +kernel
theorem dX12_aWitness_255 : decode cX12_aWitness 255 = .ok (.iconst 0, 1) := by decide +kernel
theorem dX12_aWitness_256 : decode cX12_aWitness 256 = .ok (.ireturn, 1) := by decide +kernel
theorem dX12_aWitness_257 : decode cX12_aWitness 257 = .ok (.aload_n 0, 1) := by decide +kernel
theorem dX12_aWitness_258 : decode cX12_aWitness 258 = .ok (.getfield 7, 3) := by decide +kernel
theorem dX12_aWitness_261 : decode cX12_aWitness 261 = .ok (.sipush 1604, 3) := by decide +kernel
theorem dX12_aWitness_264 : decode cX12_aWitness 264 = .ok (.dup2, 1) := by decide +kernel
theorem dX12_aWitness_265 : decode cX12_aWitness 265 = .ok (.iaload, 1) := by decide +kernel
theorem dX12_aWitness_266 : decode cX12_aWitness 266 = .ok (.iconst 1, 1) := by decide +kernel
theorem dX12_aWitness_267 : decode cX12_aWitness 267 = .ok (.iadd, 1) := by decide +kernel
theorem dX12_aWitness_268 : decode cX12_aWitness 268 = .ok (.iastore, 1) := by decide +kernel
theorem dX12_aWitness_269 : decode cX12_aWitness 269 = .ok (.iconst 1, 1) := by decide +kernel
theorem dX12_aWitness_270 : decode cX12_aWitness 270 = .ok (.ireturn, 1) := by decide +kernel
theorem dX12_casePart_0 : decode cX12_casePart 0 = .ok (.aload_n 0, 1) := by decide +kernel
theorem dX12_casePart_1 : decode cX12_casePart 1 = .ok (.ldc 206, 2) := by decide +kernel
theorem dX12_casePart_3 : decode cX12_casePart 3 = .ok (.invokevirtual 189, 3) := by decide +kernel
theorem dX12_casePart_6 : decode cX12_casePart 6 = .ok (.tableswitch 62 0 3 #[30, 38, 46, 54], 30) := by decide +kernel
theorem dX12_casePart_36 : decode cX12_casePart 36 = .ok (.aload_n 0, 1) := by decide +kernel
theorem dX12_casePart_37 : decode cX12_casePart 37 = .ok (.invokevirtual 277, 3) := by decide +kernel
theorem dX12_casePart_40 : decode cX12_casePart 40 = .ok (.istore_n 1, 1) := by decide +kernel
theorem dX12_casePart_41 : decode cX12_casePart 41 = .ok (.goto 33, 3) := by decide +kernel
theorem dX12_casePart_44 : decode cX12_casePart 44 = .ok (.aload_n 0, 1) := by decide +kernel
theorem dX12_casePart_45 : decode cX12_casePart 45 = .ok (.invokevirtual 280, 3) := by decide +kernel
theorem dX12_casePart_48 : decode cX12_casePart 48 = .ok (.istore_n 1, 1) := by decide +kernel
theorem dX12_casePart_49 : decode cX12_casePart 49 = .ok (.goto 25, 3) := by decide +kernel
theorem dX12_casePart_52 : decode cX12_casePart 52 = .ok (.aload_n 0, 1) := by decide +kernel
theorem dX12_casePart_53 : decode cX12_casePart 53 = .ok (.invokevirtual 283, 3) := by decide +kernel
theorem dX12_casePart_56 : decode cX12_casePart 56 = .ok (.istore_n 1, 1) := by decide +kernel
theorem dX12_casePart_57 : decode cX12_casePart 57 = .ok (.goto 17, 3) := by decide +kernel
theorem dX12_casePart_60 : decode cX12_casePart 60 = .ok (.aload_n 0, 1) := by decide +kernel
theorem dX12_casePart_61 : decode cX12_casePart 61 = .ok (.invokevirtual 286, 3) := by decide +kernel
theorem dX12_casePart_64 : decode cX12_casePart 64 = .ok (.istore_n 1, 1) := by decide +kernel
theorem dX12_casePart_65 : decode cX12_casePart 65 = .ok (.goto 9, 3) := by decide +kernel
theorem dX12_casePart_68 : decode cX12_casePart 68 = .ok (.aload_n 0, 1) := by decide +kernel
theorem dX12_casePart_69 : decode cX12_casePart 69 = .ok (.iconst 2, 1) := by decide +kernel
theorem dX12_casePart_70 : decode cX12_casePart 70 = .ok (.invokevirtual 186, 3) := by decide +kernel
theorem dX12_casePart_73 : decode cX12_casePart 73 = .ok (.ireturn, 1) := by decide +kernel
theorem dX12_casePart_74 : decode cX12_casePart 74 = .ok (.iload_n 1, 1) := by decide +kernel
theorem dX12_casePart_75 : decode cX12_casePart 75 = .ok (.ifCond .eq 16, 3) := by decide +kernel
theorem dX12_casePart_78 : decode cX12_casePart 78 = .ok (.aload_n 0, 1) := by decide +kernel
theorem dX12_casePart_79 : decode cX12_casePart 79 = .ok (.bipush 59, 2) := by decide +kernel
theorem dX12_casePart_81 : decode cX12_casePart 81 = .ok (.invokevirtual 289, 3) := by decide +kernel
theorem dX12_casePart_84 : decode cX12_casePart 84 = .ok (.ifCond .eq 7, 3) := by decide +kernel
theorem dX12_casePart_87 : decode cX12_casePart 87 = .ok (.iconst 1, 1) := by decide +kernel
theorem dX12_casePart_88 : decode cX12_casePart 88 = .ok (.goto 4, 3) := by decide +kernel
theorem dX12_casePart_91 : decode cX12_casePart 91 = .ok (.iconst 0, 1) := by decide +kernel
theorem dX12_casePart_92 : decode cX12_casePart 92 = .ok (.ireturn, 1) := by decide +kernel
theorem dX12_court_0 : decode cX12_court 0 = .ok (.aload_n 0, 1) := by decide +kernel
theorem dX12_court_1 : decode cX12_court 1 = .ok (.iload_n 1, 1) := by decide +kernel
theorem dX12_court_2 : decode cX12_court 2 = .ok (.sipush 900, 3) := by decide +kernel
theorem dX12_court_5 : decode cX12_court 5 = .ok (.invokevirtual 292, 3) := by decide +kernel
theorem dX12_court_8 : decode cX12_court 8 = .ok (.ifCond .ne 9, 3) := by decide +kernel
theorem dX12_court_11 : decode cX12_court 11 = .ok (.aload_n 0, 1) := by decide +kernel
theorem dX12_court_12 : decode cX12_court 12 = .ok (.iconst 1, 1) := by decide +kernel
theorem dX12_court_13 : decode cX12_court 13 = .ok (.invokevirtual 197, 3) := by decide +kernel
theorem dX12_court_16 : decode cX12_court 16 = .ok (.ireturn, 1) := by decide +kernel
theorem dX12_court_17 : decode cX12_court 17 = .ok (.aload_n 0, 1) := by decide +kernel
theorem dX12_court_18 : decode cX12_court 18 = .ok (.invokevirtual 94, 3) := by decide +kernel
theorem dX12_court_21 : decode cX12_court 21 = .ok (.iconst 0, 1) := by decide +kernel
theorem dX12_court_22 : decode cX12_court 22 = .ok (.istore_n 2, 1) := by decide +kernel
theorem dX12_court_23 : decode cX12_court 23 = .ok (.iload_n 2, 1) := by decide +kernel
theorem dX12_court_24 : decode cX12_court 24 = .ok (.bipush 24, 2) := by decide +kernel
theorem dX12_court_26 : decode cX12_court 26 = .ok (.if_icmp .ge 16, 3) := by decide +kernel
theorem dX12_court_29 : decode cX12_court 29 = .ok (.aload_n 0, 1) := by decide +kernel
theorem dX12_court_30 : decode cX12_court 30 = .ok (.getfield 47, 3) := by decide +kernel
theorem dX12_court_33 : decode cX12_court 33 = .ok (.iload_n 2, 1) := by decide +kernel
theorem dX12_court_34 : decode cX12_court 34 = .ok (.iconst 0, 1) := by decide +kernel
theorem dX12_court_35 : decode cX12_court 35 = .ok (.iastore, 1) := by decide +kernel
theorem dX12_court_36 : decode cX12_court 36 = .ok (.iinc 2 1, 3) := by decide +kernel
theorem dX12_court_39 : decode cX12_court 39 = .ok (.goto (-16), 3) := by decide +kernel
theorem dX12_court_42 : decode cX12_court 42 = .ok (.iconst 1, 1) := by decide +kernel
theorem dX12_court_43 : decode cX12_court 43 = .ok (.istore_n 2, 1) := by decide +kernel
theorem dX12_court_44 : decode cX12_court 44 = .ok (.iload_n 2, 1) := by decide +kernel
theorem dX12_court_45 : decode cX12_court 45 = .ok (.ifCond .eq 18, 3) := by decide +kernel
theorem dX12_court_48 : decode cX12_court 48 = .ok (.aload_n 0, 1) := by decide +kernel
theorem dX12_court_49 : decode cX12_court 49 = .ok (.getfield 149, 3) := by decide +kernel
theorem dX12_court_52 : decode cX12_court 52 = .ok (.ifCond .eq 11, 3) := by decide +kernel
theorem dX12_court_55 : decode cX12_court 55 = .ok (.aload_n 0, 1) := by decide +kernel
theorem dX12_court_56 : decode cX12_court 56 = .ok (.invokevirtual 295, 3) := by decide +kernel
theorem dX12_court_59 : decode cX12_court 59 = .ok (.istore_n 2, 1) := by decide +kernel
theorem dX12_court_60 : decode cX12_court 60 = .ok (.goto (-16), 3) := by decide +kernel
theorem dX12_court_63 : decode cX12_court 63 = .ok (.aload_n 0, 1) := by decide +kernel
theorem dX12_court_64 : decode cX12_court 64 = .ok (.getfield 174, 3) := by decide +kernel
theorem dX12_court_67 : decode cX12_court 67 = .ok (.ifCond .ne 22, 3) := by decide +kernel
theorem dX12_court_70 : decode cX12_court 70 = .ok (.aload_n 0, 1) := by decide +kernel
theorem dX12_court_71 : decode cX12_court 71 = .ok (.getfield 7, 3) := by decide +kernel
theorem dX12_court_74 : decode cX12_court 74 = .ok (.sipush 1603, 3) := by decide +kernel
theorem dX12_court_77 : decode cX12_court 77 = .ok (.iaload, 1) := by decide +kernel
theorem dX12_court_78 : decode cX12_court 78 = .ok (.ifCond .ne 7, 3) := by decide +kernel
theorem dX12_court_81 : decode cX12_court 81 = .ok (.aload_n 0, 1) := by decide +kernel
theorem dX12_court_82 : decode cX12_court 82 = .ok (.invokevirtual 271, 3) := by decide +kernel
theorem dX12_court_85 : decode cX12_court 85 = .ok (.aload_n 0, 1) := by decide +kernel
theorem dX12_court_86 : decode cX12_court 86 = .ok (.invokevirtual 97, 3) := by decide +kernel
theorem dX12_court_89 : decode cX12_court 89 = .ok (.aload_n 0, 1) := by decide +kernel
theorem dX12_court_90 : decode cX12_court 90 = .ok (.aload_n 0, 1) := by decide +kernel
theorem dX12_court_91 : decode cX12_court 91 = .ok (.iconst 0, 1) := by decide +kernel
theorem dX12_court_92 : decode cX12_court 92 = .ok (.invokevirtual 298, 3) := by decide +kernel
theorem dX12_court_95 : decode cX12_court 95 = .ok (.invokevirtual 300, 3) := by decide +kernel
theorem dX12_court_98 : decode cX12_court 98 = .ok (.ireturn, 1) := by decide +kernel
theorem dX12_size_0 : decode cX12_size 0 = .ok (.iconst 0, 1) := by decide +kernel
theorem dX12_size_1 : decode cX12_size 1 = .ok (.istore_n 2, 1) := by decide +kernel
theorem dX12_size_2 : decode cX12_size 2 = .ok (.iconst 0, 1) := by decide +kernel
theorem dX12_size_3 : decode cX12_size 3 = .ok (.istore_n 3, 1) := by decide +kernel
theorem dX12_size_4 : decode cX12_size 4 = .ok (.iload_n 3, 1) := by decide +kernel
theorem dX12_size_5 : decode cX12_size 5 = .ok (.aload_n 0, 1) := by decide +kernel
theorem dX12_size_6 : decode cX12_size 6 = .ok (.getfield 7, 3) := by decide +kernel
theorem dX12_size_9 : decode cX12_size 9 = .ok (.iconst 2, 1) := by decide +kernel
theorem dX12_size_10 : decode cX12_size 10 = .ok (.iaload, 1) := by decide +kernel
theorem dX12_size_11 : decode cX12_size 11 = .ok (.if_icmp .ge 29, 3) := by decide +kernel
theorem dX12_size_14 : decode cX12_size 14 = .ok (.iload_n 2, 1) := by decide +kernel
theorem dX12_size_15 : decode cX12_size 15 = .ok (.aload_n 0, 1) := by decide +kernel
theorem dX12_size_16 : decode cX12_size 16 = .ok (.getfield 13, 3) := by decide +kernel
theorem dX12_size_19 : decode cX12_size 19 = .ok (.iload_n 1, 1) := by decide +kernel
theorem dX12_size_20 : decode cX12_size 20 = .ok (.iload_n 3, 1) := by decide +kernel
theorem dX12_size_21 : decode cX12_size 21 = .ok (.invokestatic 303, 3) := by decide +kernel
theorem dX12_size_24 : decode cX12_size 24 = .ok (.ifCond .eq 7, 3) := by decide +kernel
theorem dX12_size_27 : decode cX12_size 27 = .ok (.iconst 1, 1) := by decide +kernel
theorem dX12_size_28 : decode cX12_size 28 = .ok (.goto 4, 3) := by decide +kernel
theorem dX12_size_31 : decode cX12_size 31 = .ok (.iconst 0, 1) := by decide +kernel
theorem dX12_size_32 : decode cX12_size 32 = .ok (.iadd, 1) := by decide +kernel
theorem dX12_size_33 : decode cX12_size 33 = .ok (.istore_n 2, 1) := by decide +kernel
theorem dX12_size_34 : decode cX12_size 34 = .ok (.iinc 3 1, 3) := by decide +kernel
theorem dX12_size_37 : decode cX12_size 37 = .ok (.goto (-33), 3) := by decide +kernel
theorem dX12_size_40 : decode cX12_size 40 = .ok (.iload_n 2, 1) := by decide +kernel
theorem dX12_size_41 : decode cX12_size 41 = .ok (.ireturn, 1) := by decide +kernel
theorem dX12_name_0 : decode cX12_name 0 = .ok (.aload_n 0, 1) := by decide +kernel
theorem dX12_name_1 : decode cX12_name 1 = .ok (.iconst 0, 1) := by decide +kernel
theorem dX12_name_2 : decode cX12_name 2 = .ok (.iload_n 2, 1) := by decide +kernel
theorem dX12_name_3 : decode cX12_name 3 = .ok (.iload_n 3, 1) := by decide +kernel
theorem dX12_name_4 : decode cX12_name 4 = .ok (.invokevirtual 231, 3) := by decide +kernel
theorem dX12_name_7 : decode cX12_name 7 = .ok (.ifCond .ne 5, 3) := by decide +kernel
theorem dX12_name_10 : decode cX12_name 10 = .ok (.iconst 0, 1) := by decide +kernel
theorem dX12_name_11 : decode cX12_name 11 = .ok (.ireturn, 1) := by decide +kernel
theorem dX12_name_12 : decode cX12_name 12 = .ok (.aload_n 0, 1) := by decide +kernel
theorem dX12_name_13 : decode cX12_name 13 = .ok (.getfield 7, 3) := by decide +kernel
theorem dX12_name_16 : decode cX12_name 16 = .ok (.iload_n 1, 1) := by decide +kernel
theorem dX12_name_17 : decode cX12_name 17 = .ok (.aload_n 0, 1) := by decide +kernel
theorem dX12_name_18 : decode cX12_name 18 = .ok (.getfield 216, 3) := by decide +kernel
theorem dX12_name_21 : decode cX12_name 21 = .ok (.iastore, 1) := by decide +kernel
theorem dX12_name_22 : decode cX12_name 22 = .ok (.aload_n 0, 1) := by decide +kernel
theorem dX12_name_23 : decode cX12_name 23 = .ok (.invokevirtual 180, 3) := by decide +kernel
theorem dX12_name_26 : decode cX12_name 26 = .ok (.iconst 1, 1) := by decide +kernel
theorem dX12_name_27 : decode cX12_name 27 = .ok (.ireturn, 1) := by decide +kernel
theorem dX12_aTest_0 : decode cX12_aTest 0 = .ok (.aload_n 0, 1) := by decide +kernel
theorem dX12_aTest_1 : decode cX12_aTest 1 = .ok (.ldc 206, 2) := by decide +kernel
theorem dX12_aTest_3 : decode cX12_aTest 3 = .ok (.invokevirtual 189, 3) := by decide +kernel
theorem dX12_aTest_6 : decode cX12_aTest 6 = .ok (.istore_n 2, 1) := by decide +kernel
theorem dX12_aTest_7 : decode cX12_aTest 7 = .ok (.iload_n 2, 1) := by decide +kernel
theorem dX12_aTest_8 : decode cX12_aTest 8 = .ok (.bipush 22, 2) := by decide +kernel
theorem dX12_aTest_10 : decode cX12_aTest 10 = .ok (.if_icmp .lt 9, 3) := by decide +kernel
theorem dX12_aTest_13 : decode cX12_aTest 13 = .ok (.iload_n 2, 1) := by decide +kernel
theorem dX12_aTest_14 : decode cX12_aTest 14 = .ok (.bipush 25, 2) := by decide +kernel
theorem dX12_aTest_16 : decode cX12_aTest 16 = .ok (.if_icmp .le 9, 3) := by decide +kernel
theorem dX12_aTest_19 : decode cX12_aTest 19 = .ok (.aload_n 0, 1) := by decide +kernel
theorem dX12_aTest_20 : decode cX12_aTest 20 = .ok (.iconst 2, 1) := by decide +kernel
theorem dX12_aTest_21 : decode cX12_aTest 21 = .ok (.invokevirtual 186, 3) := by decide +kernel
theorem dX12_aTest_24 : decode cX12_aTest 24 = .ok (.ireturn, 1) := by decide +kernel
theorem dX12_aTest_25 : decode cX12_aTest 25 = .ok (.aload_n 0, 1) := by decide +kernel
theorem dX12_aTest_26 : decode cX12_aTest 26 = .ok (.getfield 7, 3) := by decide +kernel
theorem dX12_aTest_29 : decode cX12_aTest 29 = .ok (.iload_n 1, 1) := by decide +kernel
theorem dX12_aTest_30 : decode cX12_aTest 30 = .ok (.sipush 2100, 3) := by decide +kernel
theorem dX12_aTest_33 : decode cX12_aTest 33 = .ok (.iload_n 2, 1) := by decide +kernel
theorem dX12_aTest_34 : decode cX12_aTest 34 = .ok (.iadd, 1) := by decide +kernel
theorem dX12_aTest_35 : decode cX12_aTest 35 = .ok (.iastore, 1) := by decide +kernel
theorem dX12_aTest_36 : decode cX12_aTest 36 = .ok (.aload_n 0, 1) := by decide +kernel
theorem dX12_aTest_37 : decode cX12_aTest 37 = .ok (.invokevirtual 180, 3) := by decide +kernel
theorem dX12_aTest_40 : decode cX12_aTest 40 = .ok (.iload_n 2, 1) := by decide +kernel
theorem dX12_aTest_41 : decode cX12_aTest 41 = .ok (.bipush 25, 2) := by decide +kernel
theorem dX12_aTest_43 : decode cX12_aTest 43 = .ok (.if_icmp .ne 17, 3) := by decide +kernel
theorem dX12_aTest_46 : decode cX12_aTest 46 = .ok (.aload_n 0, 1) := by decide +kernel
theorem dX12_aTest_47 : decode cX12_aTest 47 = .ok (.iload_n 1, 1) := by decide +kernel
theorem dX12_aTest_48 : decode cX12_aTest 48 = .ok (.iconst 1, 1) := by decide +kernel
theorem dX12_aTest_49 : decode cX12_aTest 49 = .ok (.iadd, 1) := by decide +kernel
theorem dX12_aTest_50 : decode cX12_aTest 50 = .ok (.iconst 0, 1) := by decide +kernel
theorem dX12_aTest_51 : decode cX12_aTest 51 = .ok (.sipush 256, 3) := by decide +kernel
theorem dX12_aTest_54 : decode cX12_aTest 54 = .ok (.invokevirtual 227, 3) := by decide +kernel
theorem dX12_aTest_57 : decode cX12_aTest 57 = .ok (.goto 18, 3) := by decide +kernel
theorem dX12_aTest_60 : decode cX12_aTest 60 = .ok (.aload_n 0, 1) := by decide +kernel
theorem dX12_aTest_61 : decode cX12_aTest 61 = .ok (.iload_n 1, 1) := by decide +kernel
theorem dX12_aTest_62 : decode cX12_aTest 62 = .ok (.iconst 1, 1) := by decide +kernel
theorem dX12_aTest_63 : decode cX12_aTest 63 = .ok (.iadd, 1) := by decide +kernel
theorem dX12_aTest_64 : decode cX12_aTest 64 = .ok (.bipush 28, 2) := by decide +kernel
theorem dX12_aTest_66 : decode cX12_aTest 66 = .ok (.aload_n 0, 1) := by decide +kernel
theorem dX12_aTest_67 : decode cX12_aTest 67 = .ok (.getfield 7, 3) := by decide +kernel
theorem dX12_aTest_70 : decode cX12_aTest 70 = .ok (.iconst 3, 1) := by decide +kernel
theorem dX12_aTest_71 : decode cX12_aTest 71 = .ok (.iaload, 1) := by decide +kernel
theorem dX12_aTest_72 : decode cX12_aTest 72 = .ok (.invokevirtual 307, 3) := by decide +kernel
theorem dX12_aTest_75 : decode cX12_aTest 75 = .ok (.ireturn, 1) := by decide +kernel
theorem dX12_step_0 : decode cX12_step 0 = .ok (.aload_n 0, 1) := by decide +kernel
theorem dX12_step_1 : decode cX12_step 1 = .ok (.ldc 206, 2) := by decide +kernel
theorem dX12_step_3 : decode cX12_step 3 = .ok (.invokevirtual 189, 3) := by decide +kernel
theorem dX12_step_6 : decode cX12_step 6 = .ok (.istore_n 1, 1) := by decide +kernel
theorem dX12_step_7 : decode cX12_step 7 = .ok (.aload_n 0, 1) := by decide +kernel
theorem dX12_step_8 : decode cX12_step 8 = .ok (.getfield 7, 3) := by decide +kernel
theorem dX12_step_11 : decode cX12_step 11 = .ok (.sipush 1607, 3) := by decide +kernel
theorem dX12_step_14 : decode cX12_step 14 = .ok (.iaload, 1) := by decide +kernel
theorem dX12_step_15 : decode cX12_step 15 = .ok (.istore_n 2, 1) := by decide +kernel
theorem dX12_step_16 : decode cX12_step 16 = .ok (.sipush 1748, 3) := by decide +kernel
theorem dX12_step_19 : decode cX12_step 19 = .ok (.iconst 4, 1) := by decide +kernel
theorem dX12_step_20 : decode cX12_step 20 = .ok (.iload_n 2, 1) := by decide +kernel
theorem dX12_step_21 : decode cX12_step 21 = .ok (.imul, 1) := by decide +kernel
theorem dX12_step_22 : decode cX12_step 22 = .ok (.iadd, 1) := by decide +kernel
theorem dX12_step_23 : decode cX12_step 23 = .ok (.istore_n 3, 1) := by decide +kernel
theorem dX12_step_24 : decode cX12_step 24 = .ok (.iload_n 1, 1) := by decide +kernel
theorem dX12_step_25 : decode cX12_step 25 = .ok (.bipush 17, 2) := by decide +kernel
theorem dX12_step_27 : decode cX12_step 27 = .ok (.if_icmp .lt 9, 3) := by decide +kernel
theorem dX12_step_30 : decode cX12_step 30 = .ok (.iload_n 1, 1) := by decide +kernel
theorem dX12_step_31 : decode cX12_step 31 = .ok (.bipush 21, 2) := by decide +kernel
theorem dX12_step_33 : decode cX12_step 33 = .ok (.if_icmp .le 22, 3) := by decide +kernel
theorem dX12_step_36 : decode cX12_step 36 = .ok (.iload_n 1, 1) := by decide +kernel
theorem dX12_step_37 : decode cX12_step 37 = .ok (.bipush 26, 2) := by decide +kernel
theorem dX12_step_39 : decode cX12_step 39 = .ok (.if_icmp .ne 10, 3) := by decide +kernel
theorem dX12_step_42 : decode cX12_step 42 = .ok (.aload_n 0, 1) := by decide +kernel
theorem dX12_step_43 : decode cX12_step 43 = .ok (.getfield 310, 3) := by decide +kernel
theorem dX12_step_46 : decode cX12_step 46 = .ok (.ifCond .ne 9, 3) := by decide +kernel
theorem dX12_step_49 : decode cX12_step 49 = .ok (.aload_n 0, 1) := by decide +kernel
theorem dX12_step_50 : decode cX12_step 50 = .ok (.iconst 2, 1) := by decide +kernel
theorem dX12_step_51 : decode cX12_step 51 = .ok (.invokevirtual 186, 3) := by decide +kernel
theorem dX12_step_54 : decode cX12_step 54 = .ok (.ireturn, 1) := by decide +kernel
theorem dX12_step_55 : decode cX12_step 55 = .ok (.iload_n 1, 1) := by decide +kernel
theorem dX12_step_56 : decode cX12_step 56 = .ok (.bipush 26, 2) := by decide +kernel
theorem dX12_step_58 : decode cX12_step 58 = .ok (.if_icmp .eq 19, 3) := by decide +kernel
theorem dX12_step_61 : decode cX12_step 61 = .ok (.aload_n 0, 1) := by decide +kernel
theorem dX12_step_62 : decode cX12_step 62 = .ok (.getfield 313, 3) := by decide +kernel
theorem dX12_step_65 : decode cX12_step 65 = .ok (.bipush 30, 2) := by decide +kernel
theorem dX12_step_67 : decode cX12_step 67 = .ok (.if_icmp .ne 10, 3) := by decide +kernel
theorem dX12_step_70 : decode cX12_step 70 = .ok (.aload_n 0, 1) := by decide +kernel
theorem dX12_step_71 : decode cX12_step 71 = .ok (.bipush 6, 2) := by decide +kernel
theorem dX12_step_73 : decode cX12_step 73 = .ok (.invokevirtual 186, 3) := by decide +kernel
theorem dX12_step_76 : decode cX12_step 76 = .ok (.ireturn, 1) := by decide +kernel
theorem dX12_step_77 : decode cX12_step 77 = .ok (.iload_n 1, 1) := by decide +kernel
theorem dX12_step_78 : decode cX12_step 78 = .ok (.bipush 21, 2) := by decide +kernel
theorem dX12_step_80 : decode cX12_step 80 = .ok (.if_icmp .ne 18, 3) := by decide +kernel
theorem dX12_step_83 : decode cX12_step 83 = .ok (.aload_n 0, 1) := by decide +kernel
theorem dX12_step_84 : decode cX12_step 84 = .ok (.getfield 310, 3) := by decide +kernel
theorem dX12_step_87 : decode cX12_step 87 = .ok (.iconst 3, 1) := by decide +kernel
theorem dX12_step_88 : decode cX12_step 88 = .ok (.if_icmp .ne 10, 3) := by decide +kernel
theorem dX12_step_91 : decode cX12_step 91 = .ok (.aload_n 0, 1) := by decide +kernel
theorem dX12_step_92 : decode cX12_step 92 = .ok (.bipush 7, 2) := by decide +kernel
theorem dX12_step_94 : decode cX12_step 94 = .ok (.invokevirtual 186, 3) := by decide +kernel
theorem dX12_step_97 : decode cX12_step 97 = .ok (.ireturn, 1) := by decide +kernel
theorem dX12_step_98 : decode cX12_step 98 = .ok (.aload_n 0, 1) := by decide +kernel
theorem dX12_step_99 : decode cX12_step 99 = .ok (.dup, 1) := by decide +kernel
theorem dX12_step_100 : decode cX12_step 100 = .ok (.getfield 313, 3) := by decide +kernel
theorem dX12_step_103 : decode cX12_step 103 = .ok (.iload_n 1, 1) := by decide +kernel
theorem dX12_step_104 : decode cX12_step 104 = .ok (.bipush 26, 2) := by decide +kernel
theorem dX12_step_106 : decode cX12_step 106 = .ok (.if_icmp .ne 7, 3) := by decide +kernel
theorem dX12_step_109 : decode cX12_step 109 = .ok (.iconst 0, 1) := by decide +kernel
theorem dX12_step_110 : decode cX12_step 110 = .ok (.goto 4, 3) := by decide +kernel
theorem dX12_step_113 : decode cX12_step 113 = .ok (.iconst 1, 1) := by decide +kernel
theorem dX12_step_114 : decode cX12_step 114 = .ok (.iadd, 1) := by decide +kernel
theorem dX12_step_115 : decode cX12_step 115 = .ok (.putfield 313, 3) := by decide +kernel
theorem dX12_step_118 : decode cX12_step 118 = .ok (.iconst 1, 1) := by decide +kernel
theorem dX12_step_119 : decode cX12_step 119 = .ok (.istore 4, 2) := by decide +kernel
theorem dX12_step_121 : decode cX12_step 121 = .ok (.iload 4, 2) := by decide +kernel
theorem dX12_step_123 : decode cX12_step 123 = .ok (.iconst 4, 1) := by decide +kernel
theorem dX12_step_124 : decode cX12_step 124 = .ok (.if_icmp .ge 19, 3) := by decide +kernel
theorem dX12_step_127 : decode cX12_step 127 = .ok (.aload_n 0, 1) := by decide +kernel
theorem dX12_step_128 : decode cX12_step 128 = .ok (.getfield 7, 3) := by decide +kernel
theorem dX12_step_131 : decode cX12_step 131 = .ok (.iload_n 3, 1) := by decide +kernel
theorem dX12_step_132 : decode cX12_step 132 = .ok (.iload 4, 2) := by decide +kernel
theorem dX12_step_134 : decode cX12_step 134 = .ok (.iadd, 1) := by decide +kernel
theorem dX12_step_135 : decode cX12_step 135 = .ok (.iconst 0, 1) := by decide +kernel
theorem dX12_step_136 : decode cX12_step 136 = .ok (.iastore, 1) := by decide +kernel
theorem dX12_step_137 : decode cX12_step 137 = .ok (.iinc 4 1, 3) := by decide +kernel
theorem dX12_step_140 : decode cX12_step 140 = .ok (.goto (-19), 3) := by decide +kernel
theorem dX12_step_143 : decode cX12_step 143 = .ok (.aload_n 0, 1) := by decide +kernel
theorem dX12_step_144 : decode cX12_step 144 = .ok (.getfield 7, 3) := by decide +kernel
theorem dX12_step_147 : decode cX12_step 147 = .ok (.iload_n 3, 1) := by decide +kernel
theorem dX12_step_148 : decode cX12_step 148 = .ok (.iload_n 1, 1) := by decide +kernel
theorem dX12_step_149 : decode cX12_step 149 = .ok (.iastore, 1) := by decide +kernel
theorem dX12_step_150 : decode cX12_step 150 = .ok (.aload_n 0, 1) := by decide +kernel
theorem dX12_step_151 : decode cX12_step 151 = .ok (.getfield 7, 3) := by decide +kernel
theorem dX12_step_154 : decode cX12_step 154 = .ok (.sipush 1607, 3) := by decide +kernel
theorem dX12_step_157 : decode cX12_step 157 = .ok (.dup2, 1) := by decide +kernel
theorem dX12_step_158 : decode cX12_step 158 = .ok (.iaload, 1) := by decide +kernel
theorem dX12_step_159 : decode cX12_step 159 = .ok (.iconst 1, 1) := by decide +kernel
theorem dX12_step_160 : decode cX12_step 160 = .ok (.iadd, 1) := by decide +kernel
theorem dX12_step_161 : decode cX12_step 161 = .ok (.iastore, 1) := by decide +kernel
theorem dX12_step_162 : decode cX12_step 162 = .ok (.aload_n 0, 1) := by decide +kernel
theorem dX12_step_163 : decode cX12_step 163 = .ok (.invokevirtual 180, 3) := by decide +kernel
theorem dX12_step_166 : decode cX12_step 166 = .ok (.iload_n 1, 1) := by decide +kernel
theorem dX12_step_167 : decode cX12_step 167 = .ok (.bipush 17, 2) := by decide +kernel
theorem dX12_step_169 : decode cX12_step 169 = .ok (.if_icmp .eq 9, 3) := by decide +kernel
theorem dX12_step_172 : decode cX12_step 172 = .ok (.iload_n 1, 1) := by decide +kernel
theorem dX12_step_173 : decode cX12_step 173 = .ok (.bipush 18, 2) := by decide +kernel
theorem dX12_step_175 : decode cX12_step 175 = .ok (.if_icmp .ne 23, 3) := by decide +kernel
theorem dX12_step_178 : decode cX12_step 178 = .ok (.aload_n 0, 1) := by decide +kernel
theorem dX12_step_179 : decode cX12_step 179 = .ok (.iload_n 3, 1) := by decide +kernel
theorem dX12_step_180 : decode cX12_step 180 = .ok (.iconst 1, 1) := by decide +kernel
theorem dX12_step_181 : decode cX12_step 181 = .ok (.iadd, 1) := by decide +kernel
theorem dX12_step_182 : decode cX12_step 182 = .ok (.bipush 40, 2) := by decide +kernel
theorem dX12_step_184 : decode cX12_step 184 = .ok (.aload_n 0, 1) := by decide +kernel
theorem dX12_step_185 : decode cX12_step 185 = .ok (.getfield 7, 3) := by decide +kernel
theorem dX12_step_188 : decode cX12_step 188 = .ok (.iconst 4, 1) := by decide +kernel
theorem dX12_step_189 : decode cX12_step 189 = .ok (.iaload, 1) := by decide +kernel
theorem dX12_step_190 : decode cX12_step 190 = .ok (.invokevirtual 307, 3) := by decide +kernel
theorem dX12_step_193 : decode cX12_step 193 = .ok (.ifCond .ne 5, 3) := by decide +kernel
theorem dX12_step_196 : decode cX12_step 196 = .ok (.iconst 0, 1) := by decide +kernel
theorem dX12_step_197 : decode cX12_step 197 = .ok (.ireturn, 1) := by decide +kernel
theorem dX12_step_198 : decode cX12_step 198 = .ok (.iload_n 1, 1) := by decide +kernel
theorem dX12_step_199 : decode cX12_step 199 = .ok (.bipush 17, 2) := by decide +kernel
theorem dX12_step_201 : decode cX12_step 201 = .ok (.if_icmp .eq 9, 3) := by decide +kernel
theorem dX12_step_204 : decode cX12_step 204 = .ok (.iload_n 1, 1) := by decide +kernel
theorem dX12_step_205 : decode cX12_step 205 = .ok (.bipush 20, 2) := by decide +kernel
theorem dX12_step_207 : decode cX12_step 207 = .ok (.if_icmp .ne 23, 3) := by decide +kernel
theorem dX12_step_210 : decode cX12_step 210 = .ok (.aload_n 0, 1) := by decide +kernel
theorem dX12_step_211 : decode cX12_step 211 = .ok (.iload_n 3, 1) := by decide +kernel
theorem dX12_step_212 : decode cX12_step 212 = .ok (.iconst 2, 1) := by decide +kernel
theorem dX12_step_213 : decode cX12_step 213 = .ok (.iadd, 1) := by decide +kernel
theorem dX12_step_214 : decode cX12_step 214 = .ok (.bipush 28, 2) := by decide +kernel
theorem dX12_step_216 : decode cX12_step 216 = .ok (.aload_n 0, 1) := by decide +kernel
theorem dX12_step_217 : decode cX12_step 217 = .ok (.getfield 7, 3) := by decide +kernel
theorem dX12_step_220 : decode cX12_step 220 = .ok (.iconst 3, 1) := by decide +kernel
theorem dX12_step_221 : decode cX12_step 221 = .ok (.iaload, 1) := by decide +kernel
theorem dX12_step_222 : decode cX12_step 222 = .ok (.invokevirtual 307, 3) := by decide +kernel
theorem dX12_step_225 : decode cX12_step 225 = .ok (.ifCond .ne 5, 3) := by decide +kernel
theorem dX12_step_228 : decode cX12_step 228 = .ok (.iconst 0, 1) := by decide +kernel
theorem dX12_step_229 : decode cX12_step 229 = .ok (.ireturn, 1) := by decide +kernel
theorem dX12_step_230 : decode cX12_step 230 = .ok (.iload_n 1, 1) := by decide +kernel
theorem dX12_step_231 : decode cX12_step 231 = .ok (.bipush 21, 2) := by decide +kernel
theorem dX12_step_233 : decode cX12_step 233 = .ok (.if_icmp .ne 13, 3) := by decide +kernel
theorem dX12_step_236 : decode cX12_step 236 = .ok (.aload_n 0, 1) := by decide +kernel
theorem dX12_step_237 : decode cX12_step 237 = .ok (.iload_n 3, 1) := by decide +kernel
theorem dX12_step_238 : decode cX12_step 238 = .ok (.invokevirtual 316, 3) := by decide +kernel
theorem dX12_step_241 : decode cX12_step 241 = .ok (.ifCond .ne 5, 3) := by decide +kernel
theorem dX12_step_244 : decode cX12_step 244 = .ok (.iconst 0, 1) := by decide +kernel
theorem dX12_step_245 : decode cX12_step 245 = .ok (.ireturn, 1) := by decide +kernel
theorem dX12_step_246 : decode cX12_step 246 = .ok (.iload_n 1, 1) := by decide +kernel
theorem dX12_step_247 : decode cX12_step 247 = .ok (.bipush 21, 2) := by decide +kernel
theorem dX12_step_249 : decode cX12_step 249 = .ok (.if_icmp .ne 23, 3) := by decide +kernel
theorem dX12_step_252 : decode cX12_step 252 = .ok (.aload_n 0, 1) := by decide +kernel
theorem dX12_step_253 : decode cX12_step 253 = .ok (.getfield 56, 3) := by decide +kernel
theorem dX12_step_256 : decode cX12_step 256 = .ok (.aload_n 0, 1) := by decide +kernel
theorem dX12_step_257 : decode cX12_step 257 = .ok (.getfield 310, 3) := by decide +kernel
theorem dX12_step_260 : decode cX12_step 260 = .ok (.iload_n 2, 1) := by decide +kernel
theorem dX12_step_261 : decode cX12_step 261 = .ok (.iastore, 1) := by decide +kernel
theorem dX12_step_262 : decode cX12_step 262 = .ok (.aload_n 0, 1) := by decide +kernel
theorem dX12_step_263 : decode cX12_step 263 = .ok (.dup, 1) := by decide +kernel
theorem dX12_step_264 : decode cX12_step 264 = .ok (.getfield 310, 3) := by decide +kernel
theorem dX12_step_267 : decode cX12_step 267 = .ok (.iconst 1, 1) := by decide +kernel
theorem dX12_step_268 : decode cX12_step 268 = .ok (.iadd, 1) := by decide +kernel
theorem dX12_step_269 : decode cX12_step 269 = .ok (.putfield 310, 3) := by decide +kernel
theorem dX12_step_272 : decode cX12_step 272 = .ok (.iload_n 1, 1) := by decide +kernel
theorem dX12_step_273 : decode cX12_step 273 = .ok (.bipush 26, 2) := by decide +kernel
theorem dX12_step_275 : decode cX12_step 275 = .ok (.if_icmp .ne 36, 3) := by decide +kernel
theorem dX12_step_278 : decode cX12_step 278 = .ok (.aload_n 0, 1) := by decide +kernel
theorem dX12_step_279 : decode cX12_step 279 = .ok (.dup, 1) := by decide +kernel
theorem dX12_step_280 : decode cX12_step 280 = .ok (.getfield 310, 3) := by decide +kernel
theorem dX12_step_283 : decode cX12_step 283 = .ok (.iconst 1, 1) := by decide +kernel
theorem dX12_step_284 : decode cX12_step 284 = .ok (.isub, 1) := by decide +kernel
theorem dX12_step_285 : decode cX12_step 285 = .ok (.putfield 310, 3) := by decide +kernel
theorem dX12_step_288 : decode cX12_step 288 = .ok (.aload_n 0, 1) := by decide +kernel
theorem dX12_step_289 : decode cX12_step 289 = .ok (.getfield 7, 3) := by decide +kernel
theorem dX12_step_292 : decode cX12_step 292 = .ok (.sipush 1748, 3) := by decide +kernel
theorem dX12_step_295 : decode cX12_step 295 = .ok (.iconst 4, 1) := by decide +kernel
theorem dX12_step_296 : decode cX12_step 296 = .ok (.aload_n 0, 1) := by decide +kernel
theorem dX12_step_297 : decode cX12_step 297 = .ok (.getfield 56, 3) := by decide +kernel
theorem dX12_step_300 : decode cX12_step 300 = .ok (.aload_n 0, 1) := by decide +kernel
theorem dX12_step_301 : decode cX12_step 301 = .ok (.getfield 310, 3) := by decide +kernel
theorem dX12_step_304 : decode cX12_step 304 = .ok (.iaload, 1) := by decide +kernel
theorem dX12_step_305 : decode cX12_step 305 = .ok (.imul, 1) := by decide +kernel
theorem dX12_step_306 : decode cX12_step 306 = .ok (.iadd, 1) := by decide +kernel
theorem dX12_step_307 : decode cX12_step 307 = .ok (.iconst 3, 1) := by decide +kernel
theorem dX12_step_308 : decode cX12_step 308 = .ok (.iadd, 1) := by decide +kernel
theorem dX12_step_309 : decode cX12_step 309 = .ok (.iload_n 2, 1) := by decide +kernel
theorem dX12_step_310 : decode cX12_step 310 = .ok (.iastore, 1) := by decide +kernel
theorem dX12_step_311 : decode cX12_step 311 = .ok (.aload_n 0, 1) := by decide +kernel
theorem dX12_step_312 : decode cX12_step 312 = .ok (.bipush 59, 2) := by decide +kernel
theorem dX12_step_314 : decode cX12_step 314 = .ok (.invokevirtual 289, 3) := by decide +kernel
theorem dX12_step_317 : decode cX12_step 317 = .ok (.ireturn, 1) := by decide +kernel
theorem dX12_plan_0 : decode cX12_plan 0 = .ok (.aload_n 0, 1) := by decide +kernel
theorem dX12_plan_1 : decode cX12_plan 1 = .ok (.iload_n 1, 1) := by decide +kernel
theorem dX12_plan_2 : decode cX12_plan 2 = .ok (.sipush 300, 3) := by decide +kernel
theorem dX12_plan_5 : decode cX12_plan 5 = .ok (.invokevirtual 292, 3) := by decide +kernel
theorem dX12_plan_8 : decode cX12_plan 8 = .ok (.ifCond .ne 9, 3) := by decide +kernel
theorem dX12_plan_11 : decode cX12_plan 11 = .ok (.aload_n 0, 1) := by decide +kernel
theorem dX12_plan_12 : decode cX12_plan 12 = .ok (.iconst 1, 1) := by decide +kernel
theorem dX12_plan_13 : decode cX12_plan 13 = .ok (.invokevirtual 197, 3) := by decide +kernel
theorem dX12_plan_16 : decode cX12_plan 16 = .ok (.ireturn, 1) := by decide +kernel
theorem dX12_plan_17 : decode cX12_plan 17 = .ok (.aload_n 0, 1) := by decide +kernel
theorem dX12_plan_18 : decode cX12_plan 18 = .ok (.getfield 7, 3) := by decide +kernel
theorem dX12_plan_21 : decode cX12_plan 21 = .ok (.sipush 1607, 3) := by decide +kernel
theorem dX12_plan_24 : decode cX12_plan 24 = .ok (.iconst 0, 1) := by decide +kernel
theorem dX12_plan_25 : decode cX12_plan 25 = .ok (.iastore, 1) := by decide +kernel
theorem dX12_plan_26 : decode cX12_plan 26 = .ok (.aload_n 0, 1) := by decide +kernel
theorem dX12_plan_27 : decode cX12_plan 27 = .ok (.iconst 0, 1) := by decide +kernel
theorem dX12_plan_28 : decode cX12_plan 28 = .ok (.putfield 310, 3) := by decide +kernel
theorem dX12_plan_31 : decode cX12_plan 31 = .ok (.aload_n 0, 1) := by decide +kernel
theorem dX12_plan_32 : decode cX12_plan 32 = .ok (.iconst 0, 1) := by decide +kernel
theorem dX12_plan_33 : decode cX12_plan 33 = .ok (.putfield 313, 3) := by decide +kernel
theorem dX12_plan_36 : decode cX12_plan 36 = .ok (.iconst 1, 1) := by decide +kernel
theorem dX12_plan_37 : decode cX12_plan 37 = .ok (.istore_n 2, 1) := by decide +kernel
theorem dX12_plan_38 : decode cX12_plan 38 = .ok (.iload_n 2, 1) := by decide +kernel
theorem dX12_plan_39 : decode cX12_plan 39 = .ok (.ifCond .eq 18, 3) := by decide +kernel
theorem dX12_plan_42 : decode cX12_plan 42 = .ok (.aload_n 0, 1) := by decide +kernel
theorem dX12_plan_43 : decode cX12_plan 43 = .ok (.getfield 149, 3) := by decide +kernel
theorem dX12_plan_46 : decode cX12_plan 46 = .ok (.ifCond .eq 11, 3) := by decide +kernel
theorem dX12_plan_49 : decode cX12_plan 49 = .ok (.aload_n 0, 1) := by decide +kernel
theorem dX12_plan_50 : decode cX12_plan 50 = .ok (.invokevirtual 319, 3) := by decide +kernel
theorem dX12_plan_53 : decode cX12_plan 53 = .ok (.istore_n 2, 1) := by decide +kernel
theorem dX12_plan_54 : decode cX12_plan 54 = .ok (.goto (-16), 3) := by decide +kernel
theorem dX12_plan_57 : decode cX12_plan 57 = .ok (.aload_n 0, 1) := by decide +kernel
theorem dX12_plan_58 : decode cX12_plan 58 = .ok (.getfield 174, 3) := by decide +kernel
theorem dX12_plan_61 : decode cX12_plan 61 = .ok (.ifCond .ne 16, 3) := by decide +kernel
theorem dX12_plan_64 : decode cX12_plan 64 = .ok (.aload_n 0, 1) := by decide +kernel
theorem dX12_plan_65 : decode cX12_plan 65 = .ok (.getfield 310, 3) := by decide +kernel
theorem dX12_plan_68 : decode cX12_plan 68 = .ok (.ifCond .le 9, 3) := by decide +kernel
theorem dX12_plan_71 : decode cX12_plan 71 = .ok (.aload_n 0, 1) := by decide +kernel
theorem dX12_plan_72 : decode cX12_plan 72 = .ok (.iconst 2, 1) := by decide +kernel
theorem dX12_plan_73 : decode cX12_plan 73 = .ok (.invokevirtual 186, 3) := by decide +kernel
theorem dX12_plan_76 : decode cX12_plan 76 = .ok (.pop, 1) := by decide +kernel
theorem dX12_plan_77 : decode cX12_plan 77 = .ok (.aload_n 0, 1) := by decide +kernel
theorem dX12_plan_78 : decode cX12_plan 78 = .ok (.getfield 174, 3) := by decide +kernel
theorem dX12_plan_81 : decode cX12_plan 81 = .ok (.ifCond .ne 51, 3) := by decide +kernel
theorem dX12_plan_84 : decode cX12_plan 84 = .ok (.aload_n 0, 1) := by decide +kernel
theorem dX12_plan_85 : decode cX12_plan 85 = .ok (.getfield 7, 3) := by decide +kernel
theorem dX12_plan_88 : decode cX12_plan 88 = .ok (.bipush 7, 2) := by decide +kernel
theorem dX12_plan_90 : decode cX12_plan 90 = .ok (.aload_n 0, 1) := by decide +kernel
theorem dX12_plan_91 : decode cX12_plan 91 = .ok (.getfield 7, 3) := by decide +kernel
theorem dX12_plan_94 : decode cX12_plan 94 = .ok (.sipush 1607, 3) := by decide +kernel
theorem dX12_plan_97 : decode cX12_plan 97 = .ok (.iaload, 1) := by decide +kernel
theorem dX12_plan_98 : decode cX12_plan 98 = .ok (.iastore, 1) := by decide +kernel
theorem dX12_plan_99 : decode cX12_plan 99 = .ok (.sipush 148, 3) := by decide +kernel
theorem dX12_plan_102 : decode cX12_plan 102 = .ok (.istore_n 3, 1) := by decide +kernel
theorem dX12_plan_103 : decode cX12_plan 103 = .ok (.iload_n 3, 1) := by decide +kernel
theorem dX12_plan_104 : decode cX12_plan 104 = .ok (.sipush 400, 3) := by decide +kernel
theorem dX12_plan_107 : decode cX12_plan 107 = .ok (.if_icmp .ge 25, 3) := by decide +kernel
theorem dX12_plan_110 : decode cX12_plan 110 = .ok (.aload_n 0, 1) := by decide +kernel
theorem dX12_plan_111 : decode cX12_plan 111 = .ok (.getfield 7, 3) := by decide +kernel
theorem dX12_plan_114 : decode cX12_plan 114 = .ok (.iload_n 3, 1) := by decide +kernel
theorem dX12_plan_115 : decode cX12_plan 115 = .ok (.aload_n 0, 1) := by decide +kernel
theorem dX12_plan_116 : decode cX12_plan 116 = .ok (.getfield 7, 3) := by decide +kernel
theorem dX12_plan_119 : decode cX12_plan 119 = .ok (.sipush 1600, 3) := by decide +kernel
theorem dX12_plan_122 : decode cX12_plan 122 = .ok (.iload_n 3, 1) := by decide +kernel
theorem dX12_plan_123 : decode cX12_plan 123 = .ok (.iadd, 1) := by decide +kernel
theorem dX12_plan_124 : decode cX12_plan 124 = .ok (.iaload, 1) := by decide +kernel
theorem dX12_plan_125 : decode cX12_plan 125 = .ok (.iastore, 1) := by decide +kernel
theorem dX12_plan_126 : decode cX12_plan 126 = .ok (.iinc 3 1, 3) := by decide +kernel
theorem dX12_plan_129 : decode cX12_plan 129 = .ok (.goto (-26), 3) := by decide +kernel
theorem dX12_plan_132 : decode cX12_plan 132 = .ok (.aload_n 0, 1) := by decide +kernel
theorem dX12_plan_133 : decode cX12_plan 133 = .ok (.aload_n 0, 1) := by decide +kernel
theorem dX12_plan_134 : decode cX12_plan 134 = .ok (.getfield 313, 3) := by decide +kernel
theorem dX12_plan_137 : decode cX12_plan 137 = .ok (.invokevirtual 300, 3) := by decide +kernel
theorem dX12_plan_140 : decode cX12_plan 140 = .ok (.ireturn, 1) := by decide +kernel
theorem dX12_isWorld_0 : decode cX12_isWorld 0 = .ok (.iload_n 1, 1) := by decide +kernel
theorem dX12_isWorld_1 : decode cX12_isWorld 1 = .ok (.ifCond .lt 17, 3) := by decide +kernel
theorem dX12_isWorld_4 : decode cX12_isWorld 4 = .ok (.iload_n 1, 1) := by decide +kernel
theorem dX12_isWorld_5 : decode cX12_isWorld 5 = .ok (.aload_n 0, 1) := by decide +kernel
theorem dX12_isWorld_6 : decode cX12_isWorld 6 = .ok (.getfield 7, 3) := by decide +kernel
theorem dX12_isWorld_9 : decode cX12_isWorld 9 = .ok (.iconst 2, 1) := by decide +kernel
theorem dX12_isWorld_10 : decode cX12_isWorld 10 = .ok (.iaload, 1) := by decide +kernel
theorem dX12_isWorld_11 : decode cX12_isWorld 11 = .ok (.if_icmp .ge 7, 3) := by decide +kernel
theorem dX12_isWorld_14 : decode cX12_isWorld 14 = .ok (.iconst 1, 1) := by decide +kernel
theorem dX12_isWorld_15 : decode cX12_isWorld 15 = .ok (.goto 4, 3) := by decide +kernel
theorem dX12_isWorld_18 : decode cX12_isWorld 18 = .ok (.iconst 0, 1) := by decide +kernel
theorem dX12_isWorld_19 : decode cX12_isWorld 19 = .ok (.ireturn, 1) := by decide +kernel
theorem dX12_isQuestion_0 : decode cX12_isQuestion 0 = .ok (.iload_n 1, 1) := by decide +kernel
theorem dX12_isQuestion_1 : decode cX12_isQuestion 1 = .ok (.ifCond .lt 17, 3) := by decide +kernel
theorem dX12_isQuestion_4 : decode cX12_isQuestion 4 = .ok (.iload_n 1, 1) := by decide +kernel
theorem dX12_isQuestion_5 : decode cX12_isQuestion 5 = .ok (.aload_n 0, 1) := by decide +kernel
theorem dX12_isQuestion_6 : decode cX12_isQuestion 6 = .ok (.getfield 7, 3) := by decide +kernel
theorem dX12_isQuestion_9 : decode cX12_isQuestion 9 = .ok (.iconst 3, 1) := by decide +kernel
theorem dX12_isQuestion_10 : decode cX12_isQuestion 10 = .ok (.iaload, 1) := by decide +kernel
theorem dX12_isQuestion_11 : decode cX12_isQuestion 11 = .ok (.if_icmp .ge 7, 3) := by decide +kernel
theorem dX12_isQuestion_14 : decode cX12_isQuestion 14 = .ok (.iconst 1, 1) := by decide +kernel
theorem dX12_isQuestion_15 : decode cX12_isQuestion 15 = .ok (.goto 4, 3) := by decide +kernel
theorem dX12_isQuestion_18 : decode cX12_isQuestion 18 = .ok (.iconst 0, 1) := by decide +kernel
theorem dX12_isQuestion_19 : decode cX12_isQuestion 19 = .ok (.ireturn, 1) := by decide +kernel
theorem dX12_isWitness_0 : decode cX12_isWitness 0 = .ok (.iload_n 1, 1) := by decide +kernel
theorem dX12_isWitness_1 : decode cX12_isWitness 1 = .ok (.ifCond .lt 17, 3) := by decide +kernel
theorem dX12_isWitness_4 : decode cX12_isWitness 4 = .ok (.iload_n 1, 1) := by decide +kernel
theorem dX12_isWitness_5 : decode cX12_isWitness 5 = .ok (.aload_n 0, 1) := by decide +kernel
theorem dX12_isWitness_6 : decode cX12_isWitness 6 = .ok (.getfield 7, 3) := by decide +kernel
theorem dX12_isWitness_9 : decode cX12_isWitness 9 = .ok (.iconst 4, 1) := by decide +kernel
theorem dX12_isWitness_10 : decode cX12_isWitness 10 = .ok (.iaload, 1) := by decide +kernel
theorem dX12_isWitness_11 : decode cX12_isWitness 11 = .ok (.if_icmp .ge 7, 3) := by decide +kernel
theorem dX12_isWitness_14 : decode cX12_isWitness 14 = .ok (.iconst 1, 1) := by decide +kernel
theorem dX12_isWitness_15 : decode cX12_isWitness 15 = .ok (.goto 4, 3) := by decide +kernel
theorem dX12_isWitness_18 : decode cX12_isWitness 18 = .ok (.iconst 0, 1) := by decide +kernel
theorem dX12_isWitness_19 : decode cX12_isWitness 19 = .ok (.ireturn, 1) := by decide +kernel
theorem dX12_isKind_0 : decode cX12_isKind 0 = .ok (.iload_n 0, 1) := by decide +kernel
theorem dX12_isKind_1 : decode cX12_isKind 1 = .ok (.ifCond .lt 12, 3) := by decide +kernel
theorem dX12_isKind_4 : decode cX12_isKind 4 = .ok (.iload_n 0, 1) := by decide +kernel
theorem dX12_isKind_5 : decode cX12_isKind 5 = .ok (.iconst 4, 1) := by decide +kernel
theorem dX12_isKind_6 : decode cX12_isKind 6 = .ok (.if_icmp .ge 7, 3) := by decide +kernel
theorem dX12_isKind_9 : decode cX12_isKind 9 = .ok (.iconst 1, 1) := by decide +kernel
theorem dX12_isKind_10 : decode cX12_isKind 10 = .ok (.goto 4, 3) := by decide +kernel
theorem dX12_isKind_13 : decode cX12_isKind 13 = .ok (.iconst 0, 1) := by decide +kernel
theorem dX12_isKind_14 : decode cX12_isKind 14 = .ok (.ireturn, 1) := by decide +kernel
theorem dX12_isPossible_0 : decode cX12_isPossible 0 = .ok (.aload_n 0, 1) := by decide +kernel
theorem dX12_isPossible_1 : decode cX12_isPossible 1 = .ok (.getfield 13, 3) := by decide +kernel
theorem dX12_isPossible_4 : decode cX12_isPossible 4 = .ok (.iconst 0, 1) := by decide +kernel
theorem dX12_isPossible_5 : decode cX12_isPossible 5 = .ok (.iload_n 1, 1) := by decide +kernel
theorem dX12_isPossible_6 : decode cX12_isPossible 6 = .ok (.invokestatic 303, 3) := by decide +kernel
theorem dX12_isPossible_9 : decode cX12_isPossible 9 = .ok (.ireturn, 1) := by decide +kernel
theorem dX12_isIn_0 : decode cX12_isIn 0 = .ok (.aload_n 0, 1) := by decide +kernel
theorem dX12_isIn_1 : decode cX12_isIn 1 = .ok (.getfield 13, 3) := by decide +kernel
theorem dX12_isIn_4 : decode cX12_isIn 4 = .ok (.iconst 4, 1) := by decide +kernel
theorem dX12_isIn_5 : decode cX12_isIn 5 = .ok (.iconst 4, 1) := by decide +kernel
theorem dX12_isIn_6 : decode cX12_isIn 6 = .ok (.iload_n 1, 1) := by decide +kernel
theorem dX12_isIn_7 : decode cX12_isIn 7 = .ok (.imul, 1) := by decide +kernel
theorem dX12_isIn_8 : decode cX12_isIn 8 = .ok (.iadd, 1) := by decide +kernel
theorem dX12_isIn_9 : decode cX12_isIn 9 = .ok (.iload_n 2, 1) := by decide +kernel
theorem dX12_isIn_10 : decode cX12_isIn 10 = .ok (.invokestatic 303, 3) := by decide +kernel
theorem dX12_isIn_13 : decode cX12_isIn 13 = .ok (.ireturn, 1) := by decide +kernel
theorem dX12_ofWitness_0 : decode cX12_ofWitness 0 = .ok (.aload_n 0, 1) := by decide +kernel
theorem dX12_ofWitness_1 : decode cX12_ofWitness 1 = .ok (.getfield 7, 3) := by decide +kernel
theorem dX12_ofWitness_4 : decode cX12_ofWitness 4 = .ok (.bipush 76, 2) := by decide +kernel
theorem dX12_ofWitness_6 : decode cX12_ofWitness 6 = .ok (.bipush 6, 2) := by decide +kernel
theorem dX12_ofWitness_8 : decode cX12_ofWitness 8 = .ok (.iload_n 1, 1) := by decide +kernel
theorem dX12_ofWitness_9 : decode cX12_ofWitness 9 = .ok (.imul, 1) := by decide +kernel
theorem dX12_ofWitness_10 : decode cX12_ofWitness 10 = .ok (.iadd, 1) := by decide +kernel
theorem dX12_ofWitness_11 : decode cX12_ofWitness 11 = .ok (.iload_n 2, 1) := by decide +kernel
theorem dX12_ofWitness_12 : decode cX12_ofWitness 12 = .ok (.iadd, 1) := by decide +kernel
theorem dX12_ofWitness_13 : decode cX12_ofWitness 13 = .ok (.iaload, 1) := by decide +kernel
theorem dX12_ofWitness_14 : decode cX12_ofWitness 14 = .ok (.ireturn, 1) := by decide +kernel
theorem dX12_ofHeard_0 : decode cX12_ofHeard 0 = .ok (.aload_n 0, 1) := by decide +kernel
theorem dX12_ofHeard_1 : decode cX12_ofHeard 1 = .ok (.getfield 7, 3) := by decide +kernel
theorem dX12_ofHeard_4 : decode cX12_ofHeard 4 = .ok (.bipush 100, 2) := by decide +kernel
theorem dX12_ofHeard_6 : decode cX12_ofHeard 6 = .ok (.iconst 4, 1) := by decide +kernel
theorem dX12_ofHeard_7 : decode cX12_ofHeard 7 = .ok (.iload_n 1, 1) := by decide +kernel
theorem dX12_ofHeard_8 : decode cX12_ofHeard 8 = .ok (.imul, 1) := by decide +kernel
theorem dX12_ofHeard_9 : decode cX12_ofHeard 9 = .ok (.iadd, 1) := by decide +kernel
theorem dX12_ofHeard_10 : decode cX12_ofHeard 10 = .ok (.iload_n 2, 1) := by decide +kernel
theorem dX12_ofHeard_11 : decode cX12_ofHeard 11 = .ok (.iadd, 1) := by decide +kernel
theorem dX12_ofHeard_12 : decode cX12_ofHeard 12 = .ok (.iaload, 1) := by decide +kernel
theorem dX12_ofHeard_13 : decode cX12_ofHeard 13 = .ok (.ireturn, 1) := by decide +kernel
theorem dX12_putToday_0 : decode cX12_putToday 0 = .ok (.iconst 0, 1) := by decide +kernel
theorem dX12_putToday_1 : decode cX12_putToday 1 = .ok (.istore_n 1, 1) := by decide +kernel
theorem dX12_putToday_2 : decode cX12_putToday 2 = .ok (.iconst 0, 1) := by decide +kernel
theorem dX12_putToday_3 : decode cX12_putToday 3 = .ok (.istore_n 2, 1) := by decide +kernel
theorem dX12_putToday_4 : decode cX12_putToday 4 = .ok (.iload_n 2, 1) := by decide +kernel
theorem dX12_putToday_5 : decode cX12_putToday 5 = .ok (.aload_n 0, 1) := by decide +kernel
theorem dX12_putToday_6 : decode cX12_putToday 6 = .ok (.getfield 7, 3) := by decide +kernel
theorem dX12_putToday_9 : decode cX12_putToday 9 = .ok (.bipush 6, 2) := by decide +kernel
theorem dX12_putToday_11 : decode cX12_putToday 11 = .ok (.iaload, 1) := by decide +kernel
