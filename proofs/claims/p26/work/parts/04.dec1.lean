theorem dX0_init_0 : decode cX0_init 0 = .ok (.aload_n 0, 1) := by decide +kernel
theorem dX0_init_1 : decode cX0_init 1 = .ok (.invokespecial 3, 3) := by decide +kernel
theorem dX0_init_4 : decode cX0_init 4 = .ok (.aload_n 0, 1) := by decide +kernel
theorem dX0_init_5 : decode cX0_init 5 = .ok (.bipush 20, 2) := by decide +kernel
theorem dX0_init_7 : decode cX0_init 7 = .ok (.newarray .long, 2) := by decide +kernel
theorem dX0_init_9 : decode cX0_init 9 = .ok (.putfield 9, 3) := by decide +kernel
theorem dX0_init_12 : decode cX0_init 12 = .ok (.return_, 1) := by decide +kernel
theorem dX0_priceOf_0 : decode cX0_priceOf 0 = .ok (.aload_n 0, 1) := by decide +kernel
theorem dX0_priceOf_1 : decode cX0_priceOf 1 = .ok (.aload_n 1, 1) := by decide +kernel
theorem dX0_priceOf_2 : decode cX0_priceOf 2 = .ok (.invokevirtual 15, 3) := by decide +kernel
theorem dX0_priceOf_5 : decode cX0_priceOf 5 = .ok (.aload_n 0, 1) := by decide +kernel
theorem dX0_priceOf_6 : decode cX0_priceOf 6 = .ok (.getfield 19, 3) := by decide +kernel
theorem dX0_priceOf_9 : decode cX0_priceOf 9 = .ok (.lreturn, 1) := by decide +kernel
theorem dX0_run_0 : decode cX0_run 0 = .ok (.aload_n 0, 1) := by decide +kernel
theorem dX0_run_1 : decode cX0_run 1 = .ok (.aload_n 1, 1) := by decide +kernel
theorem dX0_run_2 : decode cX0_run 2 = .ok (.invokevirtual 15, 3) := by decide +kernel
theorem dX0_run_5 : decode cX0_run 5 = .ok (.aload_n 1, 1) := by decide +kernel
theorem dX0_run_6 : decode cX0_run 6 = .ok (.getfield 23, 3) := by decide +kernel
theorem dX0_run_9 : decode cX0_run 9 = .ok (.aload_n 0, 1) := by decide +kernel
theorem dX0_run_10 : decode cX0_run 10 = .ok (.invokevirtual 29, 3) := by decide +kernel
theorem dX0_run_13 : decode cX0_run 13 = .ok (.aload_n 0, 1) := by decide +kernel
theorem dX0_run_14 : decode cX0_run 14 = .ok (.aload_n 1, 1) := by decide +kernel
theorem dX0_run_15 : decode cX0_run 15 = .ok (.getfield 35, 3) := by decide +kernel
theorem dX0_run_18 : decode cX0_run 18 = .ok (.aload_n 1, 1) := by decide +kernel
theorem dX0_run_19 : decode cX0_run 19 = .ok (.getfield 35, 3) := by decide +kernel
theorem dX0_run_22 : decode cX0_run 22 = .ok (.aload_n 1, 1) := by decide +kernel
theorem dX0_run_23 : decode cX0_run 23 = .ok (.getfield 39, 3) := by decide +kernel
theorem dX0_run_26 : decode cX0_run 26 = .ok (.invokevirtual 43, 3) := by decide +kernel
theorem dX0_run_29 : decode cX0_run 29 = .ok (.invokevirtual 49, 3) := by decide +kernel
theorem dX0_run_32 : decode cX0_run 32 = .ok (.aload_n 0, 1) := by decide +kernel
theorem dX0_run_33 : decode cX0_run 33 = .ok (.aload_n 1, 1) := by decide +kernel
theorem dX0_run_34 : decode cX0_run 34 = .ok (.aload_n 1, 1) := by decide +kernel
theorem dX0_run_35 : decode cX0_run 35 = .ok (.getfield 35, 3) := by decide +kernel
theorem dX0_run_38 : decode cX0_run 38 = .ok (.aload_n 1, 1) := by decide +kernel
theorem dX0_run_39 : decode cX0_run 39 = .ok (.getfield 39, 3) := by decide +kernel
theorem dX0_run_42 : decode cX0_run 42 = .ok (.invokevirtual 43, 3) := by decide +kernel
theorem dX0_run_45 : decode cX0_run 45 = .ok (.invokevirtual 53, 3) := by decide +kernel
theorem dX0_run_48 : decode cX0_run 48 = .ok (.aload_n 0, 1) := by decide +kernel
theorem dX0_run_49 : decode cX0_run 49 = .ok (.aload_n 1, 1) := by decide +kernel
theorem dX0_run_50 : decode cX0_run 50 = .ok (.aload_n 1, 1) := by decide +kernel
theorem dX0_run_51 : decode cX0_run 51 = .ok (.getfield 57, 3) := by decide +kernel
theorem dX0_run_54 : decode cX0_run 54 = .ok (.aload_n 1, 1) := by decide +kernel
theorem dX0_run_55 : decode cX0_run 55 = .ok (.getfield 39, 3) := by decide +kernel
theorem dX0_run_58 : decode cX0_run 58 = .ok (.invokevirtual 43, 3) := by decide +kernel
theorem dX0_run_61 : decode cX0_run 61 = .ok (.invokevirtual 60, 3) := by decide +kernel
theorem dX0_run_64 : decode cX0_run 64 = .ok (.aload_n 1, 1) := by decide +kernel
theorem dX0_run_65 : decode cX0_run 65 = .ok (.dup, 1) := by decide +kernel
theorem dX0_run_66 : decode cX0_run 66 = .ok (.getfield 39, 3) := by decide +kernel
theorem dX0_run_69 : decode cX0_run 69 = .ok (.iconst 1, 1) := by decide +kernel
theorem dX0_run_70 : decode cX0_run 70 = .ok (.iadd, 1) := by decide +kernel
theorem dX0_run_71 : decode cX0_run 71 = .ok (.putfield 39, 3) := by decide +kernel
theorem dX0_run_74 : decode cX0_run 74 = .ok (.aload_n 1, 1) := by decide +kernel
theorem dX0_run_75 : decode cX0_run 75 = .ok (.getfield 39, 3) := by decide +kernel
theorem dX0_run_78 : decode cX0_run 78 = .ok (.ireturn, 1) := by decide +kernel
theorem dX0_takePrice_0 : decode cX0_takePrice 0 = .ok (.aload_n 0, 1) := by decide +kernel
theorem dX0_takePrice_1 : decode cX0_takePrice 1 = .ok (.aload_n 1, 1) := by decide +kernel
theorem dX0_takePrice_2 : decode cX0_takePrice 2 = .ok (.invokevirtual 63, 3) := by decide +kernel
theorem dX0_takePrice_5 : decode cX0_takePrice 5 = .ok (.putfield 67, 3) := by decide +kernel
theorem dX0_takePrice_8 : decode cX0_takePrice 8 = .ok (.aload_n 0, 1) := by decide +kernel
theorem dX0_takePrice_9 : decode cX0_takePrice 9 = .ok (.aload_n 1, 1) := by decide +kernel
theorem dX0_takePrice_10 : decode cX0_takePrice 10 = .ok (.invokevirtual 69, 3) := by decide +kernel
theorem dX0_takePrice_13 : decode cX0_takePrice 13 = .ok (.putfield 72, 3) := by decide +kernel
theorem dX0_takePrice_16 : decode cX0_takePrice 16 = .ok (.aload_n 1, 1) := by decide +kernel
theorem dX0_takePrice_17 : decode cX0_takePrice 17 = .ok (.invokevirtual 74, 3) := by decide +kernel
theorem dX0_takePrice_20 : decode cX0_takePrice 20 = .ok (.lstore_n 2, 1) := by decide +kernel
theorem dX0_takePrice_21 : decode cX0_takePrice 21 = .ok (.aload_n 1, 1) := by decide +kernel
theorem dX0_takePrice_22 : decode cX0_takePrice 22 = .ok (.getfield 57, 3) := by decide +kernel
theorem dX0_takePrice_25 : decode cX0_takePrice 25 = .ok (.iconst 0, 1) := by decide +kernel
theorem dX0_takePrice_26 : decode cX0_takePrice 26 = .ok (.aload_n 1, 1) := by decide +kernel
theorem dX0_takePrice_27 : decode cX0_takePrice 27 = .ok (.getfield 57, 3) := by decide +kernel
theorem dX0_takePrice_30 : decode cX0_takePrice 30 = .ok (.aload_n 1, 1) := by decide +kernel
theorem dX0_takePrice_31 : decode cX0_takePrice 31 = .ok (.getfield 39, 3) := by decide +kernel
theorem dX0_takePrice_34 : decode cX0_takePrice 34 = .ok (.invokevirtual 43, 3) := by decide +kernel
theorem dX0_takePrice_37 : decode cX0_takePrice 37 = .ok (.invokevirtual 77, 3) := by decide +kernel
theorem dX0_takePrice_40 : decode cX0_takePrice 40 = .ok (.lstore 4, 2) := by decide +kernel
theorem dX0_takePrice_42 : decode cX0_takePrice 42 = .ok (.aload_n 0, 1) := by decide +kernel
theorem dX0_takePrice_43 : decode cX0_takePrice 43 = .ok (.aload_n 1, 1) := by decide +kernel
theorem dX0_takePrice_44 : decode cX0_takePrice 44 = .ok (.getfield 35, 3) := by decide +kernel
theorem dX0_takePrice_47 : decode cX0_takePrice 47 = .ok (.iconst 0, 1) := by decide +kernel
theorem dX0_takePrice_48 : decode cX0_takePrice 48 = .ok (.aload_n 1, 1) := by decide +kernel
theorem dX0_takePrice_49 : decode cX0_takePrice 49 = .ok (.getfield 35, 3) := by decide +kernel
theorem dX0_takePrice_52 : decode cX0_takePrice 52 = .ok (.aload_n 1, 1) := by decide +kernel
theorem dX0_takePrice_53 : decode cX0_takePrice 53 = .ok (.getfield 39, 3) := by decide +kernel
theorem dX0_takePrice_56 : decode cX0_takePrice 56 = .ok (.invokevirtual 43, 3) := by decide +kernel
theorem dX0_takePrice_59 : decode cX0_takePrice 59 = .ok (.invokevirtual 77, 3) := by decide +kernel
theorem dX0_takePrice_62 : decode cX0_takePrice 62 = .ok (.putfield 81, 3) := by decide +kernel
theorem dX0_takePrice_65 : decode cX0_takePrice 65 = .ok (.aload_n 0, 1) := by decide +kernel
theorem dX0_takePrice_66 : decode cX0_takePrice 66 = .ok (.aload_n 0, 1) := by decide +kernel
theorem dX0_takePrice_67 : decode cX0_takePrice 67 = .ok (.getfield 81, 3) := by decide +kernel
theorem dX0_takePrice_70 : decode cX0_takePrice 70 = .ok (.aload_n 1, 1) := by decide +kernel
theorem dX0_takePrice_71 : decode cX0_takePrice 71 = .ok (.getfield 84, 3) := by decide +kernel
theorem dX0_takePrice_74 : decode cX0_takePrice 74 = .ok (.iconst 3, 1) := by decide +kernel
theorem dX0_takePrice_75 : decode cX0_takePrice 75 = .ok (.iaload, 1) := by decide +kernel
theorem dX0_takePrice_76 : decode cX0_takePrice 76 = .ok (.i2l, 1) := by decide +kernel
theorem dX0_takePrice_77 : decode cX0_takePrice 77 = .ok (.lload_n 2, 1) := by decide +kernel
theorem dX0_takePrice_78 : decode cX0_takePrice 78 = .ok (.lmul, 1) := by decide +kernel
theorem dX0_takePrice_79 : decode cX0_takePrice 79 = .ok (.ldc2_w 88, 3) := by decide +kernel
theorem dX0_takePrice_82 : decode cX0_takePrice 82 = .ok (.ldiv, 1) := by decide +kernel
theorem dX0_takePrice_83 : decode cX0_takePrice 83 = .ok (.invokestatic 90, 3) := by decide +kernel
theorem dX0_takePrice_86 : decode cX0_takePrice 86 = .ok (.putfield 96, 3) := by decide +kernel
theorem dX0_takePrice_89 : decode cX0_takePrice 89 = .ok (.lload 4, 2) := by decide +kernel
theorem dX0_takePrice_91 : decode cX0_takePrice 91 = .ok (.aload_n 0, 1) := by decide +kernel
theorem dX0_takePrice_92 : decode cX0_takePrice 92 = .ok (.getfield 96, 3) := by decide +kernel
theorem dX0_takePrice_95 : decode cX0_takePrice 95 = .ok (.aload_n 0, 1) := by decide +kernel
theorem dX0_takePrice_96 : decode cX0_takePrice 96 = .ok (.getfield 67, 3) := by decide +kernel
theorem dX0_takePrice_99 : decode cX0_takePrice 99 = .ok (.lmul, 1) := by decide +kernel
theorem dX0_takePrice_100 : decode cX0_takePrice 100 = .ok (.ldc2_w 88, 3) := by decide +kernel
theorem dX0_takePrice_103 : decode cX0_takePrice 103 = .ok (.ldiv, 1) := by decide +kernel
theorem dX0_takePrice_104 : decode cX0_takePrice 104 = .ok (.lsub, 1) := by decide +kernel
theorem dX0_takePrice_105 : decode cX0_takePrice 105 = .ok (.lstore 6, 2) := by decide +kernel
theorem dX0_takePrice_107 : decode cX0_takePrice 107 = .ok (.aload_n 0, 1) := by decide +kernel
theorem dX0_takePrice_108 : decode cX0_takePrice 108 = .ok (.lload_n 2, 1) := by decide +kernel
theorem dX0_takePrice_109 : decode cX0_takePrice 109 = .ok (.lconst 0, 1) := by decide +kernel
theorem dX0_takePrice_110 : decode cX0_takePrice 110 = .ok (.lcmp, 1) := by decide +kernel
theorem dX0_takePrice_111 : decode cX0_takePrice 111 = .ok (.ifCond .le 27, 3) := by decide +kernel
theorem dX0_takePrice_114 : decode cX0_takePrice 114 = .ok (.ldc2_w 88, 3) := by decide +kernel
theorem dX0_takePrice_117 : decode cX0_takePrice 117 = .ok (.lload 6, 2) := by decide +kernel
theorem dX0_takePrice_119 : decode cX0_takePrice 119 = .ok (.lmul, 1) := by decide +kernel
theorem dX0_takePrice_120 : decode cX0_takePrice 120 = .ok (.aload_n 1, 1) := by decide +kernel
theorem dX0_takePrice_121 : decode cX0_takePrice 121 = .ok (.getfield 84, 3) := by decide +kernel
theorem dX0_takePrice_124 : decode cX0_takePrice 124 = .ok (.iconst 1, 1) := by decide +kernel
theorem dX0_takePrice_125 : decode cX0_takePrice 125 = .ok (.iaload, 1) := by decide +kernel
theorem dX0_takePrice_126 : decode cX0_takePrice 126 = .ok (.i2l, 1) := by decide +kernel
theorem dX0_takePrice_127 : decode cX0_takePrice 127 = .ok (.aload_n 1, 1) := by decide +kernel
theorem dX0_takePrice_128 : decode cX0_takePrice 128 = .ok (.invokevirtual 99, 3) := by decide +kernel
theorem dX0_takePrice_131 : decode cX0_takePrice 131 = .ok (.lmul, 1) := by decide +kernel
theorem dX0_takePrice_132 : decode cX0_takePrice 132 = .ok (.invokestatic 102, 3) := by decide +kernel
theorem dX0_takePrice_135 : decode cX0_takePrice 135 = .ok (.goto 4, 3) := by decide +kernel
theorem dX0_takePrice_138 : decode cX0_takePrice 138 = .ok (.iconst 0, 1) := by decide +kernel
theorem dX0_takePrice_139 : decode cX0_takePrice 139 = .ok (.putfield 106, 3) := by decide +kernel
theorem dX0_takePrice_142 : decode cX0_takePrice 142 = .ok (.aload_n 0, 1) := by decide +kernel
theorem dX0_takePrice_143 : decode cX0_takePrice 143 = .ok (.sipush 1000, 3) := by decide +kernel
theorem dX0_takePrice_146 : decode cX0_takePrice 146 = .ok (.aload_n 0, 1) := by decide +kernel
theorem dX0_takePrice_147 : decode cX0_takePrice 147 = .ok (.getfield 106, 3) := by decide +kernel
theorem dX0_takePrice_150 : decode cX0_takePrice 150 = .ok (.aload_n 1, 1) := by decide +kernel
theorem dX0_takePrice_151 : decode cX0_takePrice 151 = .ok (.getfield 84, 3) := by decide +kernel
theorem dX0_takePrice_154 : decode cX0_takePrice 154 = .ok (.iconst 2, 1) := by decide +kernel
theorem dX0_takePrice_155 : decode cX0_takePrice 155 = .ok (.iaload, 1) := by decide +kernel
theorem dX0_takePrice_156 : decode cX0_takePrice 156 = .ok (.imul, 1) := by decide +kernel
theorem dX0_takePrice_157 : decode cX0_takePrice 157 = .ok (.iadd, 1) := by decide +kernel
theorem dX0_takePrice_158 : decode cX0_takePrice 158 = .ok (.i2l, 1) := by decide +kernel
theorem dX0_takePrice_159 : decode cX0_takePrice 159 = .ok (.aload_n 0, 1) := by decide +kernel
theorem dX0_takePrice_160 : decode cX0_takePrice 160 = .ok (.getfield 67, 3) := by decide +kernel
theorem dX0_takePrice_163 : decode cX0_takePrice 163 = .ok (.lmul, 1) := by decide +kernel
theorem dX0_takePrice_164 : decode cX0_takePrice 164 = .ok (.ldc2_w 88, 3) := by decide +kernel
theorem dX0_takePrice_167 : decode cX0_takePrice 167 = .ok (.ldiv, 1) := by decide +kernel
theorem dX0_takePrice_168 : decode cX0_takePrice 168 = .ok (.putfield 19, 3) := by decide +kernel
theorem dX0_takePrice_171 : decode cX0_takePrice 171 = .ok (.return_, 1) := by decide +kernel
theorem dX0_direction_0 : decode cX0_direction 0 = .ok (.lload_n 0, 1) := by decide +kernel
theorem dX0_direction_1 : decode cX0_direction 1 = .ok (.lconst 0, 1) := by decide +kernel
theorem dX0_direction_2 : decode cX0_direction 2 = .ok (.lcmp, 1) := by decide +kernel
theorem dX0_direction_3 : decode cX0_direction 3 = .ok (.ifCond .le 11, 3) := by decide +kernel
theorem dX0_direction_6 : decode cX0_direction 6 = .ok (.lload_n 0, 1) := by decide +kernel
theorem dX0_direction_7 : decode cX0_direction 7 = .ok (.lload_n 2, 1) := by decide +kernel
theorem dX0_direction_8 : decode cX0_direction 8 = .ok (.lcmp, 1) := by decide +kernel
theorem dX0_direction_9 : decode cX0_direction 9 = .ok (.ifCond .le 5, 3) := by decide +kernel
theorem dX0_direction_12 : decode cX0_direction 12 = .ok (.iconst 1, 1) := by decide +kernel
theorem dX0_direction_13 : decode cX0_direction 13 = .ok (.ireturn, 1) := by decide +kernel
theorem dX0_direction_14 : decode cX0_direction 14 = .ok (.lload_n 0, 1) := by decide +kernel
theorem dX0_direction_15 : decode cX0_direction 15 = .ok (.lconst 0, 1) := by decide +kernel
theorem dX0_direction_16 : decode cX0_direction 16 = .ok (.lcmp, 1) := by decide +kernel
theorem dX0_direction_17 : decode cX0_direction 17 = .ok (.ifCond .ge 14, 3) := by decide +kernel
theorem dX0_direction_20 : decode cX0_direction 20 = .ok (.lload_n 0, 1) := by decide +kernel
theorem dX0_direction_21 : decode cX0_direction 21 = .ok (.lload_n 2, 1) := by decide +kernel
theorem dX0_direction_22 : decode cX0_direction 22 = .ok (.lneg, 1) := by decide +kernel
theorem dX0_direction_23 : decode cX0_direction 23 = .ok (.lcmp, 1) := by decide +kernel
theorem dX0_direction_24 : decode cX0_direction 24 = .ok (.ifCond .ge 7, 3) := by decide +kernel
theorem dX0_direction_27 : decode cX0_direction 27 = .ok (.iconst (-1), 1) := by decide +kernel
theorem dX0_direction_28 : decode cX0_direction 28 = .ok (.goto 4, 3) := by decide +kernel
theorem dX0_direction_31 : decode cX0_direction 31 = .ok (.iconst 0, 1) := by decide +kernel
theorem dX0_direction_32 : decode cX0_direction 32 = .ok (.ireturn, 1) := by decide +kernel
theorem dX0_shareOut_0 : decode cX0_shareOut 0 = .ok (.aload_n 0, 1) := by decide +kernel
theorem dX0_shareOut_1 : decode cX0_shareOut 1 = .ok (.getfield 96, 3) := by decide +kernel
theorem dX0_shareOut_4 : decode cX0_shareOut 4 = .ok (.lstore_n 3, 1) := by decide +kernel
theorem dX0_shareOut_5 : decode cX0_shareOut 5 = .ok (.iconst 0, 1) := by decide +kernel
theorem dX0_shareOut_6 : decode cX0_shareOut 6 = .ok (.istore 5, 2) := by decide +kernel
theorem dX0_shareOut_8 : decode cX0_shareOut 8 = .ok (.iload 5, 2) := by decide +kernel
theorem dX0_shareOut_10 : decode cX0_shareOut 10 = .ok (.iload_n 2, 1) := by decide +kernel
theorem dX0_shareOut_11 : decode cX0_shareOut 11 = .ok (.if_icmp .ge 81, 3) := by decide +kernel
theorem dX0_shareOut_14 : decode cX0_shareOut 14 = .ok (.iload 5, 2) := by decide +kernel
theorem dX0_shareOut_16 : decode cX0_shareOut 16 = .ok (.iconst 1, 1) := by decide +kernel
theorem dX0_shareOut_17 : decode cX0_shareOut 17 = .ok (.iadd, 1) := by decide +kernel
theorem dX0_shareOut_18 : decode cX0_shareOut 18 = .ok (.istore 6, 2) := by decide +kernel
theorem dX0_shareOut_20 : decode cX0_shareOut 20 = .ok (.iload 6, 2) := by decide +kernel
theorem dX0_shareOut_22 : decode cX0_shareOut 22 = .ok (.iload_n 2, 1) := by decide +kernel
theorem dX0_shareOut_23 : decode cX0_shareOut 23 = .ok (.if_icmp .ge 26, 3) := by decide +kernel
theorem dX0_shareOut_26 : decode cX0_shareOut 26 = .ok (.aload_n 1, 1) := by decide +kernel
theorem dX0_shareOut_27 : decode cX0_shareOut 27 = .ok (.getfield 109, 3) := by decide +kernel
theorem dX0_shareOut_30 : decode cX0_shareOut 30 = .ok (.iload 6, 2) := by decide +kernel
theorem dX0_shareOut_32 : decode cX0_shareOut 32 = .ok (.iaload, 1) := by decide +kernel
theorem dX0_shareOut_33 : decode cX0_shareOut 33 = .ok (.aload_n 1, 1) := by decide +kernel
theorem dX0_shareOut_34 : decode cX0_shareOut 34 = .ok (.getfield 109, 3) := by decide +kernel
theorem dX0_shareOut_37 : decode cX0_shareOut 37 = .ok (.iload 5, 2) := by decide +kernel
theorem dX0_shareOut_39 : decode cX0_shareOut 39 = .ok (.iaload, 1) := by decide +kernel
theorem dX0_shareOut_40 : decode cX0_shareOut 40 = .ok (.if_icmp .ne 9, 3) := by decide +kernel
theorem dX0_shareOut_43 : decode cX0_shareOut 43 = .ok (.iinc 6 1, 3) := by decide +kernel
theorem dX0_shareOut_46 : decode cX0_shareOut 46 = .ok (.goto (-26), 3) := by decide +kernel
theorem dX0_shareOut_49 : decode cX0_shareOut 49 = .ok (.aload_n 1, 1) := by decide +kernel
theorem dX0_shareOut_50 : decode cX0_shareOut 50 = .ok (.iload 5, 2) := by decide +kernel
theorem dX0_shareOut_52 : decode cX0_shareOut 52 = .ok (.iload 6, 2) := by decide +kernel
theorem dX0_shareOut_54 : decode cX0_shareOut 54 = .ok (.invokevirtual 77, 3) := by decide +kernel
theorem dX0_shareOut_57 : decode cX0_shareOut 57 = .ok (.lstore 7, 2) := by decide +kernel
theorem dX0_shareOut_59 : decode cX0_shareOut 59 = .ok (.lload 7, 2) := by decide +kernel
theorem dX0_shareOut_61 : decode cX0_shareOut 61 = .ok (.lload_n 3, 1) := by decide +kernel
theorem dX0_shareOut_62 : decode cX0_shareOut 62 = .ok (.invokestatic 90, 3) := by decide +kernel
theorem dX0_shareOut_65 : decode cX0_shareOut 65 = .ok (.lstore 9, 2) := by decide +kernel
theorem dX0_shareOut_67 : decode cX0_shareOut 67 = .ok (.aload_n 0, 1) := by decide +kernel
theorem dX0_shareOut_68 : decode cX0_shareOut 68 = .ok (.aload_n 1, 1) := by decide +kernel
theorem dX0_shareOut_69 : decode cX0_shareOut 69 = .ok (.iload 5, 2) := by decide +kernel
theorem dX0_shareOut_71 : decode cX0_shareOut 71 = .ok (.iload 6, 2) := by decide +kernel
theorem dX0_shareOut_73 : decode cX0_shareOut 73 = .ok (.lload 7, 2) := by decide +kernel
theorem dX0_shareOut_75 : decode cX0_shareOut 75 = .ok (.lload 9, 2) := by decide +kernel
theorem dX0_shareOut_77 : decode cX0_shareOut 77 = .ok (.invokevirtual 112, 3) := by decide +kernel
theorem dX0_shareOut_80 : decode cX0_shareOut 80 = .ok (.lload_n 3, 1) := by decide +kernel
theorem dX0_shareOut_81 : decode cX0_shareOut 81 = .ok (.lload 9, 2) := by decide +kernel
theorem dX0_shareOut_83 : decode cX0_shareOut 83 = .ok (.lsub, 1) := by decide +kernel
theorem dX0_shareOut_84 : decode cX0_shareOut 84 = .ok (.lstore_n 3, 1) := by decide +kernel
theorem dX0_shareOut_85 : decode cX0_shareOut 85 = .ok (.iload 6, 2) := by decide +kernel
theorem dX0_shareOut_87 : decode cX0_shareOut 87 = .ok (.istore 5, 2) := by decide +kernel
theorem dX0_shareOut_89 : decode cX0_shareOut 89 = .ok (.goto (-81), 3) := by decide +kernel
theorem dX0_shareOut_92 : decode cX0_shareOut 92 = .ok (.return_, 1) := by decide +kernel
theorem dX0_shareOutDay_0 : decode cX0_shareOutDay 0 = .ok (.lload 6, 2) := by decide +kernel
theorem dX0_shareOutDay_2 : decode cX0_shareOutDay 2 = .ok (.lstore 8, 2) := by decide +kernel
theorem dX0_shareOutDay_4 : decode cX0_shareOutDay 4 = .ok (.iload_n 2, 1) := by decide +kernel
theorem dX0_shareOutDay_5 : decode cX0_shareOutDay 5 = .ok (.istore 10, 2) := by decide +kernel
theorem dX0_shareOutDay_7 : decode cX0_shareOutDay 7 = .ok (.iload 10, 2) := by decide +kernel
theorem dX0_shareOutDay_9 : decode cX0_shareOutDay 9 = .ok (.iload_n 3, 1) := by decide +kernel
theorem dX0_shareOutDay_10 : decode cX0_shareOutDay 10 = .ok (.if_icmp .ge 53, 3) := by decide +kernel
theorem dX0_shareOutDay_13 : decode cX0_shareOutDay 13 = .ok (.aload_n 0, 1) := by decide +kernel
theorem dX0_shareOutDay_14 : decode cX0_shareOutDay 14 = .ok (.getfield 9, 3) := by decide +kernel
theorem dX0_shareOutDay_17 : decode cX0_shareOutDay 17 = .ok (.iload 10, 2) := by decide +kernel
theorem dX0_shareOutDay_19 : decode cX0_shareOutDay 19 = .ok (.lload 4, 2) := by decide +kernel
theorem dX0_shareOutDay_21 : decode cX0_shareOutDay 21 = .ok (.lconst 0, 1) := by decide +kernel
theorem dX0_shareOutDay_22 : decode cX0_shareOutDay 22 = .ok (.lcmp, 1) := by decide +kernel
theorem dX0_shareOutDay_23 : decode cX0_shareOutDay 23 = .ok (.ifCond .le 20, 3) := by decide +kernel
theorem dX0_shareOutDay_26 : decode cX0_shareOutDay 26 = .ok (.aload_n 1, 1) := by decide +kernel
theorem dX0_shareOutDay_27 : decode cX0_shareOutDay 27 = .ok (.getfield 116, 3) := by decide +kernel
theorem dX0_shareOutDay_30 : decode cX0_shareOutDay 30 = .ok (.iload 10, 2) := by decide +kernel
theorem dX0_shareOutDay_32 : decode cX0_shareOutDay 32 = .ok (.iaload, 1) := by decide +kernel
theorem dX0_shareOutDay_33 : decode cX0_shareOutDay 33 = .ok (.i2l, 1) := by decide +kernel
theorem dX0_shareOutDay_34 : decode cX0_shareOutDay 34 = .ok (.lload 6, 2) := by decide +kernel
theorem dX0_shareOutDay_36 : decode cX0_shareOutDay 36 = .ok (.lmul, 1) := by decide +kernel
theorem dX0_shareOutDay_37 : decode cX0_shareOutDay 37 = .ok (.lload 4, 2) := by decide +kernel
theorem dX0_shareOutDay_39 : decode cX0_shareOutDay 39 = .ok (.ldiv, 1) := by decide +kernel
theorem dX0_shareOutDay_40 : decode cX0_shareOutDay 40 = .ok (.goto 4, 3) := by decide +kernel
theorem dX0_shareOutDay_43 : decode cX0_shareOutDay 43 = .ok (.lconst 0, 1) := by decide +kernel
theorem dX0_shareOutDay_44 : decode cX0_shareOutDay 44 = .ok (.lastore, 1) := by decide +kernel
theorem dX0_shareOutDay_45 : decode cX0_shareOutDay 45 = .ok (.lload 8, 2) := by decide +kernel
theorem dX0_shareOutDay_47 : decode cX0_shareOutDay 47 = .ok (.aload_n 0, 1) := by decide +kernel
theorem dX0_shareOutDay_48 : decode cX0_shareOutDay 48 = .ok (.getfield 9, 3) := by decide +kernel
theorem dX0_shareOutDay_51 : decode cX0_shareOutDay 51 = .ok (.iload 10, 2) := by decide +kernel
theorem dX0_shareOutDay_53 : decode cX0_shareOutDay 53 = .ok (.laload, 1) := by decide +kernel
theorem dX0_shareOutDay_54 : decode cX0_shareOutDay 54 = .ok (.lsub, 1) := by decide +kernel
theorem dX0_shareOutDay_55 : decode cX0_shareOutDay 55 = .ok (.lstore 8, 2) := by decide +kernel
theorem dX0_shareOutDay_57 : decode cX0_shareOutDay 57 = .ok (.iinc 10 1, 3) := by decide +kernel
theorem dX0_shareOutDay_60 : decode cX0_shareOutDay 60 = .ok (.goto (-53), 3) := by decide +kernel
theorem dX0_shareOutDay_63 : decode cX0_shareOutDay 63 = .ok (.iload_n 2, 1) := by decide +kernel
theorem dX0_shareOutDay_64 : decode cX0_shareOutDay 64 = .ok (.istore 10, 2) := by decide +kernel
theorem dX0_shareOutDay_66 : decode cX0_shareOutDay 66 = .ok (.iload 10, 2) := by decide +kernel
theorem dX0_shareOutDay_68 : decode cX0_shareOutDay 68 = .ok (.iload_n 3, 1) := by decide +kernel
theorem dX0_shareOutDay_69 : decode cX0_shareOutDay 69 = .ok (.if_icmp .ge 52, 3) := by decide +kernel
theorem dX0_shareOutDay_72 : decode cX0_shareOutDay 72 = .ok (.lload 8, 2) := by decide +kernel
theorem dX0_shareOutDay_74 : decode cX0_shareOutDay 74 = .ok (.lconst 0, 1) := by decide +kernel
theorem dX0_shareOutDay_75 : decode cX0_shareOutDay 75 = .ok (.lcmp, 1) := by decide +kernel
theorem dX0_shareOutDay_76 : decode cX0_shareOutDay 76 = .ok (.ifCond .le 45, 3) := by decide +kernel
theorem dX0_shareOutDay_79 : decode cX0_shareOutDay 79 = .ok (.aload_n 0, 1) := by decide +kernel
theorem dX0_shareOutDay_80 : decode cX0_shareOutDay 80 = .ok (.getfield 9, 3) := by decide +kernel
theorem dX0_shareOutDay_83 : decode cX0_shareOutDay 83 = .ok (.iload 10, 2) := by decide +kernel
theorem dX0_shareOutDay_85 : decode cX0_shareOutDay 85 = .ok (.laload, 1) := by decide +kernel
theorem dX0_shareOutDay_86 : decode cX0_shareOutDay 86 = .ok (.aload_n 1, 1) := by decide +kernel
theorem dX0_shareOutDay_87 : decode cX0_shareOutDay 87 = .ok (.getfield 116, 3) := by decide +kernel
theorem dX0_shareOutDay_90 : decode cX0_shareOutDay 90 = .ok (.iload 10, 2) := by decide +kernel
theorem dX0_shareOutDay_92 : decode cX0_shareOutDay 92 = .ok (.iaload, 1) := by decide +kernel
theorem dX0_shareOutDay_93 : decode cX0_shareOutDay 93 = .ok (.i2l, 1) := by decide +kernel
theorem dX0_shareOutDay_94 : decode cX0_shareOutDay 94 = .ok (.lcmp, 1) := by decide +kernel
theorem dX0_shareOutDay_95 : decode cX0_shareOutDay 95 = .ok (.ifCond .ge 20, 3) := by decide +kernel
theorem dX0_shareOutDay_98 : decode cX0_shareOutDay 98 = .ok (.aload_n 0, 1) := by decide +kernel
theorem dX0_shareOutDay_99 : decode cX0_shareOutDay 99 = .ok (.getfield 9, 3) := by decide +kernel
theorem dX0_shareOutDay_102 : decode cX0_shareOutDay 102 = .ok (.iload 10, 2) := by decide +kernel
theorem dX0_shareOutDay_104 : decode cX0_shareOutDay 104 = .ok (.dup2, 1) := by decide +kernel
theorem dX0_shareOutDay_105 : decode cX0_shareOutDay 105 = .ok (.laload, 1) := by decide +kernel
theorem dX0_shareOutDay_106 : decode cX0_shareOutDay 106 = .ok (.lconst 1, 1) := by decide +kernel
theorem dX0_shareOutDay_107 : decode cX0_shareOutDay 107 = .ok (.ladd, 1) := by decide +kernel
theorem dX0_shareOutDay_108 : decode cX0_shareOutDay 108 = .ok (.lastore, 1) := by decide +kernel
theorem dX0_shareOutDay_109 : decode cX0_shareOutDay 109 = .ok (.lload 8, 2) := by decide +kernel
theorem dX0_shareOutDay_111 : decode cX0_shareOutDay 111 = .ok (.lconst 1, 1) := by decide +kernel
theorem dX0_shareOutDay_112 : decode cX0_shareOutDay 112 = .ok (.lsub, 1) := by decide +kernel
theorem dX0_shareOutDay_113 : decode cX0_shareOutDay 113 = .ok (.lstore 8, 2) := by decide +kernel
theorem dX0_shareOutDay_115 : decode cX0_shareOutDay 115 = .ok (.iinc 10 1, 3) := by decide +kernel
theorem dX0_shareOutDay_118 : decode cX0_shareOutDay 118 = .ok (.goto (-52), 3) := by decide +kernel
theorem dX0_shareOutDay_121 : decode cX0_shareOutDay 121 = .ok (.return_, 1) := by decide +kernel
theorem dX0_payLeavers_0 : decode cX0_payLeavers 0 = .ok (.iconst 1, 1) := by decide +kernel
theorem dX0_payLeavers_1 : decode cX0_payLeavers 1 = .ok (.istore_n 3, 1) := by decide +kernel
theorem dX0_payLeavers_2 : decode cX0_payLeavers 2 = .ok (.iconst 0, 1) := by decide +kernel
theorem dX0_payLeavers_3 : decode cX0_payLeavers 3 = .ok (.istore 4, 2) := by decide +kernel
theorem dX0_payLeavers_5 : decode cX0_payLeavers 5 = .ok (.iload 4, 2) := by decide +kernel
theorem dX0_payLeavers_7 : decode cX0_payLeavers 7 = .ok (.iload_n 2, 1) := by decide +kernel
theorem dX0_payLeavers_8 : decode cX0_payLeavers 8 = .ok (.if_icmp .ge 33, 3) := by decide +kernel
theorem dX0_payLeavers_11 : decode cX0_payLeavers 11 = .ok (.iload_n 3, 1) := by decide +kernel
theorem dX0_payLeavers_12 : decode cX0_payLeavers 12 = .ok (.ifCond .eq 29, 3) := by decide +kernel
theorem dX0_payLeavers_15 : decode cX0_payLeavers 15 = .ok (.aload_n 0, 1) := by decide +kernel
theorem dX0_payLeavers_16 : decode cX0_payLeavers 16 = .ok (.getfield 9, 3) := by decide +kernel
theorem dX0_payLeavers_19 : decode cX0_payLeavers 19 = .ok (.iload 4, 2) := by decide +kernel
theorem dX0_payLeavers_21 : decode cX0_payLeavers 21 = .ok (.laload, 1) := by decide +kernel
theorem dX0_payLeavers_22 : decode cX0_payLeavers 22 = .ok (.lconst 0, 1) := by decide +kernel
theorem dX0_payLeavers_23 : decode cX0_payLeavers 23 = .ok (.lcmp, 1) := by decide +kernel
theorem dX0_payLeavers_24 : decode cX0_payLeavers 24 = .ok (.ifCond .le 11, 3) := by decide +kernel
theorem dX0_payLeavers_27 : decode cX0_payLeavers 27 = .ok (.aload_n 0, 1) := by decide +kernel
theorem dX0_payLeavers_28 : decode cX0_payLeavers 28 = .ok (.aload_n 1, 1) := by decide +kernel
theorem dX0_payLeavers_29 : decode cX0_payLeavers 29 = .ok (.iload 4, 2) := by decide +kernel
theorem dX0_payLeavers_31 : decode cX0_payLeavers 31 = .ok (.invokevirtual 119, 3) := by decide +kernel
theorem dX0_payLeavers_34 : decode cX0_payLeavers 34 = .ok (.istore_n 3, 1) := by decide +kernel
theorem dX0_payLeavers_35 : decode cX0_payLeavers 35 = .ok (.iinc 4 1, 3) := by decide +kernel
theorem dX0_payLeavers_38 : decode cX0_payLeavers 38 = .ok (.goto (-33), 3) := by decide +kernel
theorem dX0_payLeavers_41 : decode cX0_payLeavers 41 = .ok (.aload_n 1, 1) := by decide +kernel
theorem dX0_payLeavers_42 : decode cX0_payLeavers 42 = .ok (.getfield 35, 3) := by decide +kernel
theorem dX0_payLeavers_45 : decode cX0_payLeavers 45 = .ok (.invokevirtual 123, 3) := by decide +kernel
theorem dX0_payLeavers_48 : decode cX0_payLeavers 48 = .ok (.return_, 1) := by decide +kernel
theorem dX0_payLeaver_0 : decode cX0_payLeaver 0 = .ok (.aload_n 0, 1) := by decide +kernel
theorem dX0_payLeaver_1 : decode cX0_payLeaver 1 = .ok (.getfield 9, 3) := by decide +kernel
theorem dX0_payLeaver_4 : decode cX0_payLeaver 4 = .ok (.iload_n 2, 1) := by decide +kernel
theorem dX0_payLeaver_5 : decode cX0_payLeaver 5 = .ok (.laload, 1) := by decide +kernel
theorem dX0_payLeaver_6 : decode cX0_payLeaver 6 = .ok (.lstore_n 3, 1) := by decide +kernel
theorem dX0_payLeaver_7 : decode cX0_payLeaver 7 = .ok (.lload_n 3, 1) := by decide +kernel
theorem dX0_payLeaver_8 : decode cX0_payLeaver 8 = .ok (.aload_n 0, 1) := by decide +kernel
theorem dX0_payLeaver_9 : decode cX0_payLeaver 9 = .ok (.getfield 19, 3) := by decide +kernel
theorem dX0_payLeaver_12 : decode cX0_payLeaver 12 = .ok (.lmul, 1) := by decide +kernel
theorem dX0_payLeaver_13 : decode cX0_payLeaver 13 = .ok (.ldc2_w 88, 3) := by decide +kernel
theorem dX0_payLeaver_16 : decode cX0_payLeaver 16 = .ok (.ldiv, 1) := by decide +kernel
theorem dX0_payLeaver_17 : decode cX0_payLeaver 17 = .ok (.lstore 5, 2) := by decide +kernel
theorem dX0_payLeaver_19 : decode cX0_payLeaver 19 = .ok (.aload_n 1, 1) := by decide +kernel
theorem dX0_payLeaver_20 : decode cX0_payLeaver 20 = .ok (.getfield 23, 3) := by decide +kernel
theorem dX0_payLeaver_23 : decode cX0_payLeaver 23 = .ok (.dup, 1) := by decide +kernel
theorem dX0_payLeaver_24 : decode cX0_payLeaver 24 = .ok (.getfield 126, 3) := by decide +kernel
theorem dX0_payLeaver_27 : decode cX0_payLeaver 27 = .ok (.aload_n 1, 1) := by decide +kernel
theorem dX0_payLeaver_28 : decode cX0_payLeaver 28 = .ok (.lload 5, 2) := by decide +kernel
theorem dX0_payLeaver_30 : decode cX0_payLeaver 30 = .ok (.invokevirtual 129, 3) := by decide +kernel
theorem dX0_payLeaver_33 : decode cX0_payLeaver 33 = .ok (.iadd, 1) := by decide +kernel
theorem dX0_payLeaver_34 : decode cX0_payLeaver 34 = .ok (.putfield 126, 3) := by decide +kernel
theorem dX0_payLeaver_37 : decode cX0_payLeaver 37 = .ok (.aload_n 1, 1) := by decide +kernel
theorem dX0_payLeaver_38 : decode cX0_payLeaver 38 = .ok (.getfield 133, 3) := by decide +kernel
theorem dX0_payLeaver_41 : decode cX0_payLeaver 41 = .ok (.lload 5, 2) := by decide +kernel
theorem dX0_payLeaver_43 : decode cX0_payLeaver 43 = .ok (.lcmp, 1) := by decide +kernel
theorem dX0_payLeaver_44 : decode cX0_payLeaver 44 = .ok (.ifCond .ge 5, 3) := by decide +kernel
theorem dX0_payLeaver_47 : decode cX0_payLeaver 47 = .ok (.iconst 0, 1) := by decide +kernel
theorem dX0_payLeaver_48 : decode cX0_payLeaver 48 = .ok (.ireturn, 1) := by decide +kernel
theorem dX0_payLeaver_49 : decode cX0_payLeaver 49 = .ok (.aload_n 1, 1) := by decide +kernel
theorem dX0_payLeaver_50 : decode cX0_payLeaver 50 = .ok (.aload_n 1, 1) := by decide +kernel
theorem dX0_payLeaver_51 : decode cX0_payLeaver 51 = .ok (.getfield 136, 3) := by decide +kernel
theorem dX0_payLeaver_54 : decode cX0_payLeaver 54 = .ok (.aload_n 1, 1) := by decide +kernel
theorem dX0_payLeaver_55 : decode cX0_payLeaver 55 = .ok (.getfield 35, 3) := by decide +kernel
theorem dX0_payLeaver_58 : decode cX0_payLeaver 58 = .ok (.getfield 140, 3) := by decide +kernel
theorem dX0_payLeaver_61 : decode cX0_payLeaver 61 = .ok (.iload_n 2, 1) := by decide +kernel
theorem dX0_payLeaver_62 : decode cX0_payLeaver 62 = .ok (.iaload, 1) := by decide +kernel
theorem dX0_payLeaver_63 : decode cX0_payLeaver 63 = .ok (.aaload, 1) := by decide +kernel
theorem dX0_payLeaver_64 : decode cX0_payLeaver 64 = .ok (.lload_n 3, 1) := by decide +kernel
theorem dX0_payLeaver_65 : decode cX0_payLeaver 65 = .ok (.lload 5, 2) := by decide +kernel
theorem dX0_payLeaver_67 : decode cX0_payLeaver 67 = .ok (.aload_n 0, 1) := by decide +kernel
theorem dX0_payLeaver_68 : decode cX0_payLeaver 68 = .ok (.getfield 72, 3) := by decide +kernel
theorem dX0_payLeaver_71 : decode cX0_payLeaver 71 = .ok (.invokevirtual 142, 3) := by decide +kernel
theorem dX0_payLeaver_74 : decode cX0_payLeaver 74 = .ok (.aload_n 1, 1) := by decide +kernel
theorem dX0_payLeaver_75 : decode cX0_payLeaver 75 = .ok (.getfield 35, 3) := by decide +kernel
theorem dX0_payLeaver_78 : decode cX0_payLeaver 78 = .ok (.getfield 116, 3) := by decide +kernel
theorem dX0_payLeaver_81 : decode cX0_payLeaver 81 = .ok (.iload_n 2, 1) := by decide +kernel
theorem dX0_payLeaver_82 : decode cX0_payLeaver 82 = .ok (.dup2, 1) := by decide +kernel
theorem dX0_payLeaver_83 : decode cX0_payLeaver 83 = .ok (.iaload, 1) := by decide +kernel
theorem dX0_payLeaver_84 : decode cX0_payLeaver 84 = .ok (.lload_n 3, 1) := by decide +kernel
theorem dX0_payLeaver_85 : decode cX0_payLeaver 85 = .ok (.l2i, 1) := by decide +kernel
theorem dX0_payLeaver_86 : decode cX0_payLeaver 86 = .ok (.isub, 1) := by decide +kernel
theorem dX0_payLeaver_87 : decode cX0_payLeaver 87 = .ok (.iastore, 1) := by decide +kernel
theorem dX0_payLeaver_88 : decode cX0_payLeaver 88 = .ok (.aload_n 1, 1) := by decide +kernel
theorem dX0_payLeaver_89 : decode cX0_payLeaver 89 = .ok (.getfield 23, 3) := by decide +kernel
theorem dX0_payLeaver_92 : decode cX0_payLeaver 92 = .ok (.dup, 1) := by decide +kernel
theorem dX0_payLeaver_93 : decode cX0_payLeaver 93 = .ok (.getfield 146, 3) := by decide +kernel
theorem dX0_payLeaver_96 : decode cX0_payLeaver 96 = .ok (.lload_n 3, 1) := by decide +kernel
theorem dX0_payLeaver_97 : decode cX0_payLeaver 97 = .ok (.ladd, 1) := by decide +kernel
theorem dX0_payLeaver_98 : decode cX0_payLeaver 98 = .ok (.putfield 146, 3) := by decide +kernel
theorem dX0_payLeaver_101 : decode cX0_payLeaver 101 = .ok (.aload_n 1, 1) := by decide +kernel
theorem dX0_payLeaver_102 : decode cX0_payLeaver 102 = .ok (.getfield 23, 3) := by decide +kernel
theorem dX0_payLeaver_105 : decode cX0_payLeaver 105 = .ok (.dup, 1) := by decide +kernel
theorem dX0_payLeaver_106 : decode cX0_payLeaver 106 = .ok (.getfield 149, 3) := by decide +kernel
theorem dX0_payLeaver_109 : decode cX0_payLeaver 109 = .ok (.lload_n 3, 1) := by decide +kernel
theorem dX0_payLeaver_110 : decode cX0_payLeaver 110 = .ok (.lsub, 1) := by decide +kernel
theorem dX0_payLeaver_111 : decode cX0_payLeaver 111 = .ok (.putfield 149, 3) := by decide +kernel
theorem dX0_payLeaver_114 : decode cX0_payLeaver 114 = .ok (.iconst 1, 1) := by decide +kernel
theorem dX0_payLeaver_115 : decode cX0_payLeaver 115 = .ok (.ireturn, 1) := by decide +kernel
theorem dX0_doBuyers_0 : decode cX0_doBuyers 0 = .ok (.iconst 0, 1) := by decide +kernel
theorem dX0_doBuyers_1 : decode cX0_doBuyers 1 = .ok (.istore_n 3, 1) := by decide +kernel
theorem dX0_doBuyers_2 : decode cX0_doBuyers 2 = .ok (.iload_n 3, 1) := by decide +kernel
theorem dX0_doBuyers_3 : decode cX0_doBuyers 3 = .ok (.iload_n 2, 1) := by decide +kernel
theorem dX0_doBuyers_4 : decode cX0_doBuyers 4 = .ok (.if_icmp .ge 135, 3) := by decide +kernel
theorem dX0_doBuyers_7 : decode cX0_doBuyers 7 = .ok (.aload_n 1, 1) := by decide +kernel
theorem dX0_doBuyers_8 : decode cX0_doBuyers 8 = .ok (.getfield 57, 3) := by decide +kernel
theorem dX0_doBuyers_11 : decode cX0_doBuyers 11 = .ok (.getfield 116, 3) := by decide +kernel
theorem dX0_doBuyers_14 : decode cX0_doBuyers 14 = .ok (.iload_n 3, 1) := by decide +kernel
theorem dX0_doBuyers_15 : decode cX0_doBuyers 15 = .ok (.iaload, 1) := by decide +kernel
theorem dX0_doBuyers_16 : decode cX0_doBuyers 16 = .ok (.i2l, 1) := by decide +kernel
theorem dX0_doBuyers_17 : decode cX0_doBuyers 17 = .ok (.lstore 4, 2) := by decide +kernel
theorem dX0_doBuyers_19 : decode cX0_doBuyers 19 = .ok (.aload_n 0, 1) := by decide +kernel
theorem dX0_doBuyers_20 : decode cX0_doBuyers 20 = .ok (.getfield 19, 3) := by decide +kernel
theorem dX0_doBuyers_23 : decode cX0_doBuyers 23 = .ok (.lconst 0, 1) := by decide +kernel
theorem dX0_doBuyers_24 : decode cX0_doBuyers 24 = .ok (.lcmp, 1) := by decide +kernel
theorem dX0_doBuyers_25 : decode cX0_doBuyers 25 = .ok (.ifCond .le 17, 3) := by decide +kernel
theorem dX0_doBuyers_28 : decode cX0_doBuyers 28 = .ok (.ldc2_w 88, 3) := by decide +kernel
theorem dX0_doBuyers_31 : decode cX0_doBuyers 31 = .ok (.lload 4, 2) := by decide +kernel
theorem dX0_doBuyers_33 : decode cX0_doBuyers 33 = .ok (.lmul, 1) := by decide +kernel
theorem dX0_doBuyers_34 : decode cX0_doBuyers 34 = .ok (.aload_n 0, 1) := by decide +kernel
theorem dX0_doBuyers_35 : decode cX0_doBuyers 35 = .ok (.getfield 19, 3) := by decide +kernel
theorem dX0_doBuyers_38 : decode cX0_doBuyers 38 = .ok (.ldiv, 1) := by decide +kernel
theorem dX0_doBuyers_39 : decode cX0_doBuyers 39 = .ok (.goto 4, 3) := by decide +kernel
theorem dX0_doBuyers_42 : decode cX0_doBuyers 42 = .ok (.lconst 0, 1) := by decide +kernel
theorem dX0_doBuyers_43 : decode cX0_doBuyers 43 = .ok (.lstore 6, 2) := by decide +kernel
theorem dX0_doBuyers_45 : decode cX0_doBuyers 45 = .ok (.lload 6, 2) := by decide +kernel
theorem dX0_doBuyers_47 : decode cX0_doBuyers 47 = .ok (.lconst 0, 1) := by decide +kernel
theorem dX0_doBuyers_48 : decode cX0_doBuyers 48 = .ok (.lcmp, 1) := by decide +kernel
theorem dX0_doBuyers_49 : decode cX0_doBuyers 49 = .ok (.ifCond .eq 17, 3) := by decide +kernel
theorem dX0_doBuyers_52 : decode cX0_doBuyers 52 = .ok (.aload_n 1, 1) := by decide +kernel
theorem dX0_doBuyers_53 : decode cX0_doBuyers 53 = .ok (.invokevirtual 74, 3) := by decide +kernel
theorem dX0_doBuyers_56 : decode cX0_doBuyers 56 = .ok (.lload 6, 2) := by decide +kernel
theorem dX0_doBuyers_58 : decode cX0_doBuyers 58 = .ok (.ladd, 1) := by decide +kernel
theorem dX0_doBuyers_59 : decode cX0_doBuyers 59 = .ok (.ldc2_w 152, 3) := by decide +kernel
theorem dX0_doBuyers_62 : decode cX0_doBuyers 62 = .ok (.lcmp, 1) := by decide +kernel
theorem dX0_doBuyers_63 : decode cX0_doBuyers 63 = .ok (.ifCond .le 20, 3) := by decide +kernel
theorem dX0_doBuyers_66 : decode cX0_doBuyers 66 = .ok (.aload_n 1, 1) := by decide +kernel
theorem dX0_doBuyers_67 : decode cX0_doBuyers 67 = .ok (.getfield 23, 3) := by decide +kernel
theorem dX0_doBuyers_70 : decode cX0_doBuyers 70 = .ok (.dup, 1) := by decide +kernel
theorem dX0_doBuyers_71 : decode cX0_doBuyers 71 = .ok (.getfield 154, 3) := by decide +kernel
theorem dX0_doBuyers_74 : decode cX0_doBuyers 74 = .ok (.lload 4, 2) := by decide +kernel
theorem dX0_doBuyers_76 : decode cX0_doBuyers 76 = .ok (.ladd, 1) := by decide +kernel
theorem dX0_doBuyers_77 : decode cX0_doBuyers 77 = .ok (.putfield 154, 3) := by decide +kernel
theorem dX0_doBuyers_80 : decode cX0_doBuyers 80 = .ok (.goto 43, 3) := by decide +kernel
theorem dX0_doBuyers_83 : decode cX0_doBuyers 83 = .ok (.aload_n 1, 1) := by decide +kernel
theorem dX0_doBuyers_84 : decode cX0_doBuyers 84 = .ok (.aload_n 1, 1) := by decide +kernel
theorem dX0_doBuyers_85 : decode cX0_doBuyers 85 = .ok (.getfield 136, 3) := by decide +kernel
theorem dX0_doBuyers_88 : decode cX0_doBuyers 88 = .ok (.aload_n 1, 1) := by decide +kernel
theorem dX0_doBuyers_89 : decode cX0_doBuyers 89 = .ok (.getfield 57, 3) := by decide +kernel
theorem dX0_doBuyers_92 : decode cX0_doBuyers 92 = .ok (.getfield 140, 3) := by decide +kernel
theorem dX0_doBuyers_95 : decode cX0_doBuyers 95 = .ok (.iload_n 3, 1) := by decide +kernel
theorem dX0_doBuyers_96 : decode cX0_doBuyers 96 = .ok (.iaload, 1) := by decide +kernel
theorem dX0_doBuyers_97 : decode cX0_doBuyers 97 = .ok (.aaload, 1) := by decide +kernel
theorem dX0_doBuyers_98 : decode cX0_doBuyers 98 = .ok (.lload 6, 2) := by decide +kernel
theorem dX0_doBuyers_100 : decode cX0_doBuyers 100 = .ok (.lload 4, 2) := by decide +kernel
theorem dX0_doBuyers_102 : decode cX0_doBuyers 102 = .ok (.aload_n 0, 1) := by decide +kernel
theorem dX0_doBuyers_103 : decode cX0_doBuyers 103 = .ok (.getfield 72, 3) := by decide +kernel
theorem dX0_doBuyers_106 : decode cX0_doBuyers 106 = .ok (.invokevirtual 157, 3) := by decide +kernel
theorem dX0_doBuyers_109 : decode cX0_doBuyers 109 = .ok (.aload_n 1, 1) := by decide +kernel
theorem dX0_doBuyers_110 : decode cX0_doBuyers 110 = .ok (.getfield 23, 3) := by decide +kernel
theorem dX0_doBuyers_113 : decode cX0_doBuyers 113 = .ok (.dup, 1) := by decide +kernel
theorem dX0_doBuyers_114 : decode cX0_doBuyers 114 = .ok (.getfield 160, 3) := by decide +kernel
theorem dX0_doBuyers_117 : decode cX0_doBuyers 117 = .ok (.lload 6, 2) := by decide +kernel
theorem dX0_doBuyers_119 : decode cX0_doBuyers 119 = .ok (.ladd, 1) := by decide +kernel
theorem dX0_doBuyers_120 : decode cX0_doBuyers 120 = .ok (.putfield 160, 3) := by decide +kernel
theorem dX0_doBuyers_123 : decode cX0_doBuyers 123 = .ok (.aload_n 1, 1) := by decide +kernel
theorem dX0_doBuyers_124 : decode cX0_doBuyers 124 = .ok (.getfield 57, 3) := by decide +kernel
theorem dX0_doBuyers_127 : decode cX0_doBuyers 127 = .ok (.getfield 116, 3) := by decide +kernel
theorem dX0_doBuyers_130 : decode cX0_doBuyers 130 = .ok (.iload_n 3, 1) := by decide +kernel
theorem dX0_doBuyers_131 : decode cX0_doBuyers 131 = .ok (.iconst 0, 1) := by decide +kernel
theorem dX0_doBuyers_132 : decode cX0_doBuyers 132 = .ok (.iastore, 1) := by decide +kernel
theorem dX0_doBuyers_133 : decode cX0_doBuyers 133 = .ok (.iinc 3 1, 3) := by decide +kernel
theorem dX0_doBuyers_136 : decode cX0_doBuyers 136 = .ok (.goto (-134), 3) := by decide +kernel
theorem dX0_doBuyers_139 : decode cX0_doBuyers 139 = .ok (.aload_n 1, 1) := by decide +kernel
theorem dX0_doBuyers_140 : decode cX0_doBuyers 140 = .ok (.getfield 57, 3) := by decide +kernel
theorem dX0_doBuyers_143 : decode cX0_doBuyers 143 = .ok (.invokevirtual 123, 3) := by decide +kernel
theorem dX0_doBuyers_146 : decode cX0_doBuyers 146 = .ok (.return_, 1) := by decide +kernel
theorem dX1_init_0 : decode cX1_init 0 = .ok (.aload_n 0, 1) := by decide +kernel
theorem dX1_init_1 : decode cX1_init 1 = .ok (.invokespecial 3, 3) := by decide +kernel
theorem dX1_init_4 : decode cX1_init 4 = .ok (.aload_n 0, 1) := by decide +kernel
theorem dX1_init_5 : decode cX1_init 5 = .ok (.bipush 7, 2) := by decide +kernel
theorem dX1_init_7 : decode cX1_init 7 = .ok (.anewarray 9, 3) := by decide +kernel
theorem dX1_init_10 : decode cX1_init 10 = .ok (.putfield 11, 3) := by decide +kernel
theorem dX1_init_13 : decode cX1_init 13 = .ok (.iconst 0, 1) := by decide +kernel
theorem dX1_init_14 : decode cX1_init 14 = .ok (.istore_n 1, 1) := by decide +kernel
theorem dX1_init_15 : decode cX1_init 15 = .ok (.iload_n 1, 1) := by decide +kernel
theorem dX1_init_16 : decode cX1_init 16 = .ok (.bipush 6, 2) := by decide +kernel
theorem dX1_init_18 : decode cX1_init 18 = .ok (.if_icmp .gt 22, 3) := by decide +kernel
theorem dX1_init_21 : decode cX1_init 21 = .ok (.aload_n 0, 1) := by decide +kernel
theorem dX1_init_22 : decode cX1_init 22 = .ok (.getfield 11, 3) := by decide +kernel
theorem dX1_init_25 : decode cX1_init 25 = .ok (.iload_n 1, 1) := by decide +kernel
theorem dX1_init_26 : decode cX1_init 26 = .ok (.new 9, 3) := by decide +kernel
theorem dX1_init_29 : decode cX1_init 29 = .ok (.dup, 1) := by decide +kernel
theorem dX1_init_30 : decode cX1_init 30 = .ok (.invokespecial 17, 3) := by decide +kernel
theorem dX1_init_33 : decode cX1_init 33 = .ok (.aastore, 1) := by decide +kernel
theorem dX1_init_34 : decode cX1_init 34 = .ok (.iinc 1 1, 3) := by decide +kernel
theorem dX1_init_37 : decode cX1_init 37 = .ok (.goto (-22), 3) := by decide +kernel
theorem dX1_init_40 : decode cX1_init 40 = .ok (.return_, 1) := by decide +kernel
theorem dX1_hold_0 : decode cX1_hold 0 = .ok (.aload_n 0, 1) := by decide +kernel
theorem dX1_hold_1 : decode cX1_hold 1 = .ok (.getfield 11, 3) := by decide +kernel
theorem dX1_hold_4 : decode cX1_hold 4 = .ok (.aload_n 0, 1) := by decide +kernel
theorem dX1_hold_5 : decode cX1_hold 5 = .ok (.getfield 18, 3) := by decide +kernel
theorem dX1_hold_8 : decode cX1_hold 8 = .ok (.aload_n 0, 1) := by decide +kernel
theorem dX1_hold_9 : decode cX1_hold 9 = .ok (.getfield 22, 3) := by decide +kernel
theorem dX1_hold_12 : decode cX1_hold 12 = .ok (.iadd, 1) := by decide +kernel
theorem dX1_hold_13 : decode cX1_hold 13 = .ok (.bipush 7, 2) := by decide +kernel
theorem dX1_hold_15 : decode cX1_hold 15 = .ok (.irem, 1) := by decide +kernel
theorem dX1_hold_16 : decode cX1_hold 16 = .ok (.aaload, 1) := by decide +kernel
theorem dX1_hold_17 : decode cX1_hold 17 = .ok (.aload_n 1, 1) := by decide +kernel
theorem dX1_hold_18 : decode cX1_hold 18 = .ok (.invokevirtual 25, 3) := by decide +kernel
theorem dX1_hold_21 : decode cX1_hold 21 = .ok (.return_, 1) := by decide +kernel
theorem dX1_keep_0 : decode cX1_keep 0 = .ok (.iload_n 1, 1) := by decide +kernel
theorem dX1_keep_1 : decode cX1_keep 1 = .ok (.ifCond .lt 25, 3) := by decide +kernel
theorem dX1_keep_4 : decode cX1_keep 4 = .ok (.aload_n 0, 1) := by decide +kernel
theorem dX1_keep_5 : decode cX1_keep 5 = .ok (.getfield 22, 3) := by decide +kernel
theorem dX1_keep_8 : decode cX1_keep 8 = .ok (.bipush 6, 2) := by decide +kernel
theorem dX1_keep_10 : decode cX1_keep 10 = .ok (.if_icmp .ge 16, 3) := by decide +kernel
theorem dX1_keep_13 : decode cX1_keep 13 = .ok (.aload_n 0, 1) := by decide +kernel
theorem dX1_keep_14 : decode cX1_keep 14 = .ok (.dup, 1) := by decide +kernel
theorem dX1_keep_15 : decode cX1_keep 15 = .ok (.getfield 22, 3) := by decide +kernel
theorem dX1_keep_18 : decode cX1_keep 18 = .ok (.iconst 1, 1) := by decide +kernel
theorem dX1_keep_19 : decode cX1_keep 19 = .ok (.iadd, 1) := by decide +kernel
theorem dX1_keep_20 : decode cX1_keep 20 = .ok (.putfield 22, 3) := by decide +kernel
theorem dX1_keep_23 : decode cX1_keep 23 = .ok (.goto 20, 3) := by decide +kernel
theorem dX1_keep_26 : decode cX1_keep 26 = .ok (.iload_n 1, 1) := by decide +kernel
theorem dX1_keep_27 : decode cX1_keep 27 = .ok (.ifCond .lt 16, 3) := by decide +kernel
theorem dX1_keep_30 : decode cX1_keep 30 = .ok (.aload_n 0, 1) := by decide +kernel
theorem dX1_keep_31 : decode cX1_keep 31 = .ok (.aload_n 0, 1) := by decide +kernel
theorem dX1_keep_32 : decode cX1_keep 32 = .ok (.getfield 18, 3) := by decide +kernel
theorem dX1_keep_35 : decode cX1_keep 35 = .ok (.iconst 1, 1) := by decide +kernel
theorem dX1_keep_36 : decode cX1_keep 36 = .ok (.iadd, 1) := by decide +kernel
theorem dX1_keep_37 : decode cX1_keep 37 = .ok (.bipush 7, 2) := by decide +kernel
theorem dX1_keep_39 : decode cX1_keep 39 = .ok (.irem, 1) := by decide +kernel
theorem dX1_keep_40 : decode cX1_keep 40 = .ok (.putfield 18, 3) := by decide +kernel
theorem dX1_keep_43 : decode cX1_keep 43 = .ok (.iload_n 1, 1) := by decide +kernel
theorem dX1_keep_44 : decode cX1_keep 44 = .ok (.ireturn, 1) := by decide +kernel
theorem dX1_takeBack_0 : decode cX1_takeBack 0 = .ok (.aload_n 0, 1) := by decide +kernel
theorem dX1_takeBack_1 : decode cX1_takeBack 1 = .ok (.getfield 22, 3) := by decide +kernel
theorem dX1_takeBack_4 : decode cX1_takeBack 4 = .ok (.ifCond .le 34, 3) := by decide +kernel
theorem dX1_takeBack_7 : decode cX1_takeBack 7 = .ok (.aload_n 0, 1) := by decide +kernel
theorem dX1_takeBack_8 : decode cX1_takeBack 8 = .ok (.dup, 1) := by decide +kernel
theorem dX1_takeBack_9 : decode cX1_takeBack 9 = .ok (.getfield 22, 3) := by decide +kernel
theorem dX1_takeBack_12 : decode cX1_takeBack 12 = .ok (.iconst 1, 1) := by decide +kernel
theorem dX1_takeBack_13 : decode cX1_takeBack 13 = .ok (.isub, 1) := by decide +kernel
theorem dX1_takeBack_14 : decode cX1_takeBack 14 = .ok (.putfield 22, 3) := by decide +kernel
theorem dX1_takeBack_17 : decode cX1_takeBack 17 = .ok (.aload_n 1, 1) := by decide +kernel
theorem dX1_takeBack_18 : decode cX1_takeBack 18 = .ok (.aload_n 0, 1) := by decide +kernel
theorem dX1_takeBack_19 : decode cX1_takeBack 19 = .ok (.getfield 11, 3) := by decide +kernel
theorem dX1_takeBack_22 : decode cX1_takeBack 22 = .ok (.aload_n 0, 1) := by decide +kernel
theorem dX1_takeBack_23 : decode cX1_takeBack 23 = .ok (.getfield 18, 3) := by decide +kernel
theorem dX1_takeBack_26 : decode cX1_takeBack 26 = .ok (.aload_n 0, 1) := by decide +kernel
theorem dX1_takeBack_27 : decode cX1_takeBack 27 = .ok (.getfield 22, 3) := by decide +kernel
theorem dX1_takeBack_30 : decode cX1_takeBack 30 = .ok (.iadd, 1) := by decide +kernel
theorem dX1_takeBack_31 : decode cX1_takeBack 31 = .ok (.bipush 7, 2) := by decide +kernel
theorem dX1_takeBack_33 : decode cX1_takeBack 33 = .ok (.irem, 1) := by decide +kernel
theorem dX1_takeBack_34 : decode cX1_takeBack 34 = .ok (.aaload, 1) := by decide +kernel
theorem dX1_takeBack_35 : decode cX1_takeBack 35 = .ok (.invokevirtual 25, 3) := by decide +kernel
theorem dX1_takeBack_38 : decode cX1_takeBack 38 = .ok (.return_, 1) := by decide +kernel
theorem dX2_init_0 : decode cX2_init 0 = .ok (.aload_n 0, 1) := by decide +kernel
theorem dX2_init_1 : decode cX2_init 1 = .ok (.invokespecial 1, 3) := by decide +kernel
theorem dX2_init_4 : decode cX2_init 4 = .ok (.return_, 1) := by decide +kernel
theorem dX2_become_0 : decode cX2_become 0 = .ok (.aload_n 0, 1) := by decide +kernel
theorem dX2_become_1 : decode cX2_become 1 = .ok (.aload_n 1, 1) := by decide +kernel
theorem dX2_become_2 : decode cX2_become 2 = .ok (.getfield 7, 3) := by decide +kernel
theorem dX2_become_5 : decode cX2_become 5 = .ok (.putfield 7, 3) := by decide +kernel
theorem dX2_become_8 : decode cX2_become 8 = .ok (.aload_n 0, 1) := by decide +kernel
theorem dX2_become_9 : decode cX2_become 9 = .ok (.aload_n 1, 1) := by decide +kernel
theorem dX2_become_10 : decode cX2_become 10 = .ok (.getfield 13, 3) := by decide +kernel
theorem dX2_become_13 : decode cX2_become 13 = .ok (.putfield 13, 3) := by decide +kernel
theorem dX2_become_16 : decode cX2_become 16 = .ok (.aload_n 0, 1) := by decide +kernel
theorem dX2_become_17 : decode cX2_become 17 = .ok (.aload_n 1, 1) := by decide +kernel
theorem dX2_become_18 : decode cX2_become 18 = .ok (.getfield 16, 3) := by decide +kernel
theorem dX2_become_21 : decode cX2_become 21 = .ok (.putfield 16, 3) := by decide +kernel
theorem dX2_become_24 : decode cX2_become 24 = .ok (.aload_n 0, 1) := by decide +kernel
theorem dX2_become_25 : decode cX2_become 25 = .ok (.aload_n 1, 1) := by decide +kernel
theorem dX2_become_26 : decode cX2_become 26 = .ok (.getfield 19, 3) := by decide +kernel
theorem dX2_become_29 : decode cX2_become 29 = .ok (.putfield 19, 3) := by decide +kernel
theorem dX2_become_32 : decode cX2_become 32 = .ok (.aload_n 0, 1) := by decide +kernel
theorem dX2_become_33 : decode cX2_become 33 = .ok (.aload_n 1, 1) := by decide +kernel
theorem dX2_become_34 : decode cX2_become 34 = .ok (.getfield 22, 3) := by decide +kernel
theorem dX2_become_37 : decode cX2_become 37 = .ok (.putfield 22, 3) := by decide +kernel
theorem dX2_become_40 : decode cX2_become 40 = .ok (.aload_n 0, 1) := by decide +kernel
theorem dX2_become_41 : decode cX2_become 41 = .ok (.aload_n 1, 1) := by decide +kernel
theorem dX2_become_42 : decode cX2_become 42 = .ok (.getfield 25, 3) := by decide +kernel
theorem dX2_become_45 : decode cX2_become 45 = .ok (.putfield 25, 3) := by decide +kernel
theorem dX2_become_48 : decode cX2_become 48 = .ok (.aload_n 0, 1) := by decide +kernel
theorem dX2_become_49 : decode cX2_become 49 = .ok (.aload_n 1, 1) := by decide +kernel
theorem dX2_become_50 : decode cX2_become 50 = .ok (.getfield 28, 3) := by decide +kernel
theorem dX2_become_53 : decode cX2_become 53 = .ok (.putfield 28, 3) := by decide +kernel
theorem dX2_become_56 : decode cX2_become 56 = .ok (.return_, 1) := by decide +kernel
theorem dX2_units_0 : decode cX2_units 0 = .ok (.aload_n 0, 1) := by decide +kernel
theorem dX2_units_1 : decode cX2_units 1 = .ok (.getfield 7, 3) := by decide +kernel
theorem dX2_units_4 : decode cX2_units 4 = .ok (.aload_n 0, 1) := by decide +kernel
theorem dX2_units_5 : decode cX2_units 5 = .ok (.getfield 13, 3) := by decide +kernel
theorem dX2_units_8 : decode cX2_units 8 = .ok (.ladd, 1) := by decide +kernel
theorem dX2_units_9 : decode cX2_units 9 = .ok (.lreturn, 1) := by decide +kernel
theorem dX3_init_0 : decode cX3_init 0 = .ok (.aload_n 0, 1) := by decide +kernel
theorem dX3_init_1 : decode cX3_init 1 = .ok (.invokespecial 1, 3) := by decide +kernel
theorem dX3_init_4 : decode cX3_init 4 = .ok (.return_, 1) := by decide +kernel
theorem dX3_become_0 : decode cX3_become 0 = .ok (.aload_n 0, 1) := by decide +kernel
theorem dX3_become_1 : decode cX3_become 1 = .ok (.aload_n 1, 1) := by decide +kernel
theorem dX3_become_2 : decode cX3_become 2 = .ok (.getfield 7, 3) := by decide +kernel
theorem dX3_become_5 : decode cX3_become 5 = .ok (.putfield 7, 3) := by decide +kernel
theorem dX3_become_8 : decode cX3_become 8 = .ok (.aload_n 0, 1) := by decide +kernel
theorem dX3_become_9 : decode cX3_become 9 = .ok (.aload_n 1, 1) := by decide +kernel
theorem dX3_become_10 : decode cX3_become 10 = .ok (.getfield 13, 3) := by decide +kernel
theorem dX3_become_13 : decode cX3_become 13 = .ok (.putfield 13, 3) := by decide +kernel
theorem dX3_become_16 : decode cX3_become 16 = .ok (.aload_n 0, 1) := by decide +kernel
theorem dX3_become_17 : decode cX3_become 17 = .ok (.aload_n 1, 1) := by decide +kernel
theorem dX3_become_18 : decode cX3_become 18 = .ok (.getfield 17, 3) := by decide +kernel
theorem dX3_become_21 : decode cX3_become 21 = .ok (.putfield 17, 3) := by decide +kernel
theorem dX3_become_24 : decode cX3_become 24 = .ok (.aload_n 0, 1) := by decide +kernel
theorem dX3_become_25 : decode cX3_become 25 = .ok (.aload_n 1, 1) := by decide +kernel
theorem dX3_become_26 : decode cX3_become 26 = .ok (.getfield 20, 3) := by decide +kernel
theorem dX3_become_29 : decode cX3_become 29 = .ok (.putfield 20, 3) := by decide +kernel
theorem dX3_become_32 : decode cX3_become 32 = .ok (.aload_n 0, 1) := by decide +kernel
theorem dX3_become_33 : decode cX3_become 33 = .ok (.aload_n 1, 1) := by decide +kernel
theorem dX3_become_34 : decode cX3_become 34 = .ok (.getfield 23, 3) := by decide +kernel
theorem dX3_become_37 : decode cX3_become 37 = .ok (.putfield 23, 3) := by decide +kernel
theorem dX3_become_40 : decode cX3_become 40 = .ok (.aload_n 0, 1) := by decide +kernel
theorem dX3_become_41 : decode cX3_become 41 = .ok (.aload_n 1, 1) := by decide +kernel
theorem dX3_become_42 : decode cX3_become 42 = .ok (.getfield 26, 3) := by decide +kernel
theorem dX3_become_45 : decode cX3_become 45 = .ok (.putfield 26, 3) := by decide +kernel
theorem dX3_become_48 : decode cX3_become 48 = .ok (.aload_n 0, 1) := by decide +kernel
theorem dX3_become_49 : decode cX3_become 49 = .ok (.aload_n 1, 1) := by decide +kernel
theorem dX3_become_50 : decode cX3_become 50 = .ok (.getfield 29, 3) := by decide +kernel
theorem dX3_become_53 : decode cX3_become 53 = .ok (.putfield 29, 3) := by decide +kernel
theorem dX3_become_56 : decode cX3_become 56 = .ok (.aload_n 0, 1) := by decide +kernel
theorem dX3_become_57 : decode cX3_become 57 = .ok (.aload_n 1, 1) := by decide +kernel
theorem dX3_become_58 : decode cX3_become 58 = .ok (.getfield 33, 3) := by decide +kernel
theorem dX3_become_61 : decode cX3_become 61 = .ok (.putfield 33, 3) := by decide +kernel
theorem dX3_become_64 : decode cX3_become 64 = .ok (.return_, 1) := by decide +kernel
theorem dX3_start_0 : decode cX3_start 0 = .ok (.aload_n 0, 1) := by decide +kernel
theorem dX3_start_1 : decode cX3_start 1 = .ok (.iconst 1, 1) := by decide +kernel
theorem dX3_start_2 : decode cX3_start 2 = .ok (.putfield 7, 3) := by decide +kernel
theorem dX3_start_5 : decode cX3_start 5 = .ok (.aload_n 0, 1) := by decide +kernel
theorem dX3_start_6 : decode cX3_start 6 = .ok (.aload_n 1, 1) := by decide +kernel
theorem dX3_start_7 : decode cX3_start 7 = .ok (.getfield 36, 3) := by decide +kernel
theorem dX3_start_10 : decode cX3_start 10 = .ok (.putfield 13, 3) := by decide +kernel
theorem dX3_start_13 : decode cX3_start 13 = .ok (.aload_n 0, 1) := by decide +kernel
theorem dX3_start_14 : decode cX3_start 14 = .ok (.aload_n 1, 1) := by decide +kernel
theorem dX3_start_15 : decode cX3_start 15 = .ok (.getfield 39, 3) := by decide +kernel
theorem dX3_start_18 : decode cX3_start 18 = .ok (.putfield 33, 3) := by decide +kernel
theorem dX3_start_21 : decode cX3_start 21 = .ok (.aload_n 0, 1) := by decide +kernel
theorem dX3_start_22 : decode cX3_start 22 = .ok (.aload_n 1, 1) := by decide +kernel
theorem dX3_start_23 : decode cX3_start 23 = .ok (.getfield 40, 3) := by decide +kernel
theorem dX3_start_26 : decode cX3_start 26 = .ok (.putfield 23, 3) := by decide +kernel
theorem dX3_start_29 : decode cX3_start 29 = .ok (.aload_n 0, 1) := by decide +kernel
theorem dX3_start_30 : decode cX3_start 30 = .ok (.lconst 0, 1) := by decide +kernel
theorem dX3_start_31 : decode cX3_start 31 = .ok (.putfield 17, 3) := by decide +kernel
theorem dX3_start_34 : decode cX3_start 34 = .ok (.aload_n 0, 1) := by decide +kernel
theorem dX3_start_35 : decode cX3_start 35 = .ok (.lconst 0, 1) := by decide +kernel
theorem dX3_start_36 : decode cX3_start 36 = .ok (.putfield 20, 3) := by decide +kernel
theorem dX3_start_39 : decode cX3_start 39 = .ok (.aload_n 0, 1) := by decide +kernel
theorem dX3_start_40 : decode cX3_start 40 = .ok (.lconst 0, 1) := by decide +kernel
theorem dX3_start_41 : decode cX3_start 41 = .ok (.putfield 26, 3) := by decide +kernel
theorem dX3_start_44 : decode cX3_start 44 = .ok (.aload_n 0, 1) := by decide +kernel
theorem dX3_start_45 : decode cX3_start 45 = .ok (.iconst 0, 1) := by decide +kernel
theorem dX3_start_46 : decode cX3_start 46 = .ok (.putfield 29, 3) := by decide +kernel
theorem dX3_start_49 : decode cX3_start 49 = .ok (.return_, 1) := by decide +kernel
theorem dX4_init_0 : decode cX4_init 0 = .ok (.aload_n 0, 1) := by decide +kernel
theorem dX4_init_1 : decode cX4_init 1 = .ok (.invokespecial 3, 3) := by decide +kernel
theorem dX4_init_4 : decode cX4_init 4 = .ok (.aload_n 0, 1) := by decide +kernel
theorem dX4_init_5 : decode cX4_init 5 = .ok (.bipush 20, 2) := by decide +kernel
theorem dX4_init_7 : decode cX4_init 7 = .ok (.newarray .int, 2) := by decide +kernel
theorem dX4_init_9 : decode cX4_init 9 = .ok (.putfield 9, 3) := by decide +kernel
theorem dX4_init_12 : decode cX4_init 12 = .ok (.aload_n 0, 1) := by decide +kernel
theorem dX4_init_13 : decode cX4_init 13 = .ok (.bipush 20, 2) := by decide +kernel
theorem dX4_init_15 : decode cX4_init 15 = .ok (.newarray .int, 2) := by decide +kernel
theorem dX4_init_17 : decode cX4_init 17 = .ok (.putfield 15, 3) := by decide +kernel
theorem dX4_init_20 : decode cX4_init 20 = .ok (.aload_n 0, 1) := by decide +kernel
theorem dX4_init_21 : decode cX4_init 21 = .ok (.bipush 20, 2) := by decide +kernel
theorem dX4_init_23 : decode cX4_init 23 = .ok (.newarray .int, 2) := by decide +kernel
theorem dX4_init_25 : decode cX4_init 25 = .ok (.putfield 18, 3) := by decide +kernel
theorem dX4_init_28 : decode cX4_init 28 = .ok (.return_, 1) := by decide +kernel
theorem dX4_become_0 : decode cX4_become 0 = .ok (.aload_n 0, 1) := by decide +kernel
theorem dX4_become_1 : decode cX4_become 1 = .ok (.aload_n 1, 1) := by decide +kernel
theorem dX4_become_2 : decode cX4_become 2 = .ok (.getfield 21, 3) := by decide +kernel
theorem dX4_become_5 : decode cX4_become 5 = .ok (.putfield 21, 3) := by decide +kernel
theorem dX4_become_8 : decode cX4_become 8 = .ok (.iconst 0, 1) := by decide +kernel
theorem dX4_become_9 : decode cX4_become 9 = .ok (.istore_n 2, 1) := by decide +kernel
theorem dX4_become_10 : decode cX4_become 10 = .ok (.iload_n 2, 1) := by decide +kernel
theorem dX4_become_11 : decode cX4_become 11 = .ok (.aload_n 0, 1) := by decide +kernel
theorem dX4_become_12 : decode cX4_become 12 = .ok (.getfield 21, 3) := by decide +kernel
theorem dX4_become_15 : decode cX4_become 15 = .ok (.if_icmp .ge 32, 3) := by decide +kernel
theorem dX4_become_18 : decode cX4_become 18 = .ok (.aload_n 0, 1) := by decide +kernel
theorem dX4_become_19 : decode cX4_become 19 = .ok (.iload_n 2, 1) := by decide +kernel
theorem dX4_become_20 : decode cX4_become 20 = .ok (.aload_n 1, 1) := by decide +kernel
theorem dX4_become_21 : decode cX4_become 21 = .ok (.getfield 9, 3) := by decide +kernel
theorem dX4_become_24 : decode cX4_become 24 = .ok (.iload_n 2, 1) := by decide +kernel
theorem dX4_become_25 : decode cX4_become 25 = .ok (.iaload, 1) := by decide +kernel
theorem dX4_become_26 : decode cX4_become 26 = .ok (.aload_n 1, 1) := by decide +kernel
theorem dX4_become_27 : decode cX4_become 27 = .ok (.getfield 15, 3) := by decide +kernel
theorem dX4_become_30 : decode cX4_become 30 = .ok (.iload_n 2, 1) := by decide +kernel
theorem dX4_become_31 : decode cX4_become 31 = .ok (.iaload, 1) := by decide +kernel
theorem dX4_become_32 : decode cX4_become 32 = .ok (.aload_n 1, 1) := by decide +kernel
theorem dX4_become_33 : decode cX4_become 33 = .ok (.getfield 18, 3) := by decide +kernel
theorem dX4_become_36 : decode cX4_become 36 = .ok (.iload_n 2, 1) := by decide +kernel
theorem dX4_become_37 : decode cX4_become 37 = .ok (.iaload, 1) := by decide +kernel
theorem dX4_become_38 : decode cX4_become 38 = .ok (.invokevirtual 25, 3) := by decide +kernel
theorem dX4_become_41 : decode cX4_become 41 = .ok (.iinc 2 1, 3) := by decide +kernel
theorem dX4_become_44 : decode cX4_become 44 = .ok (.goto (-34), 3) := by decide +kernel
theorem dX4_become_47 : decode cX4_become 47 = .ok (.return_, 1) := by decide +kernel
theorem dX4_isFull_0 : decode cX4_isFull 0 = .ok (.aload_n 0, 1) := by decide +kernel
theorem dX4_isFull_1 : decode cX4_isFull 1 = .ok (.getfield 21, 3) := by decide +kernel
theorem dX4_isFull_4 : decode cX4_isFull 4 = .ok (.bipush 20, 2) := by decide +kernel
theorem dX4_isFull_6 : decode cX4_isFull 6 = .ok (.if_icmp .lt 7, 3) := by decide +kernel
theorem dX4_isFull_9 : decode cX4_isFull 9 = .ok (.iconst 1, 1) := by decide +kernel
theorem dX4_isFull_10 : decode cX4_isFull 10 = .ok (.goto 4, 3) := by decide +kernel
theorem dX4_isFull_13 : decode cX4_isFull 13 = .ok (.iconst 0, 1) := by decide +kernel
theorem dX4_isFull_14 : decode cX4_isFull 14 = .ok (.ireturn, 1) := by decide +kernel
theorem dX4_add_0 : decode cX4_add 0 = .ok (.aload_n 0, 1) := by decide +kernel
theorem dX4_add_1 : decode cX4_add 1 = .ok (.invokevirtual 29, 3) := by decide +kernel
theorem dX4_add_4 : decode cX4_add 4 = .ok (.ifCond .eq 4, 3) := by decide +kernel
theorem dX4_add_7 : decode cX4_add 7 = .ok (.return_, 1) := by decide +kernel
theorem dX4_add_8 : decode cX4_add 8 = .ok (.aload_n 0, 1) := by decide +kernel
theorem dX4_add_9 : decode cX4_add 9 = .ok (.getfield 21, 3) := by decide +kernel
theorem dX4_add_12 : decode cX4_add 12 = .ok (.istore 4, 2) := by decide +kernel
theorem dX4_add_14 : decode cX4_add 14 = .ok (.iload 4, 2) := by decide +kernel
theorem dX4_add_16 : decode cX4_add 16 = .ok (.ifCond .le 55, 3) := by decide +kernel
theorem dX4_add_19 : decode cX4_add 19 = .ok (.aload_n 0, 1) := by decide +kernel
theorem dX4_add_20 : decode cX4_add 20 = .ok (.getfield 18, 3) := by decide +kernel
theorem dX4_add_23 : decode cX4_add 23 = .ok (.iload 4, 2) := by decide +kernel
theorem dX4_add_25 : decode cX4_add 25 = .ok (.iconst 1, 1) := by decide +kernel
theorem dX4_add_26 : decode cX4_add 26 = .ok (.isub, 1) := by decide +kernel
theorem dX4_add_27 : decode cX4_add 27 = .ok (.iaload, 1) := by decide +kernel
theorem dX4_add_28 : decode cX4_add 28 = .ok (.iload_n 3, 1) := by decide +kernel
theorem dX4_add_29 : decode cX4_add 29 = .ok (.if_icmp .le 42, 3) := by decide +kernel
theorem dX4_add_32 : decode cX4_add 32 = .ok (.aload_n 0, 1) := by decide +kernel
theorem dX4_add_33 : decode cX4_add 33 = .ok (.iload 4, 2) := by decide +kernel
theorem dX4_add_35 : decode cX4_add 35 = .ok (.aload_n 0, 1) := by decide +kernel
theorem dX4_add_36 : decode cX4_add 36 = .ok (.getfield 9, 3) := by decide +kernel
theorem dX4_add_39 : decode cX4_add 39 = .ok (.iload 4, 2) := by decide +kernel
theorem dX4_add_41 : decode cX4_add 41 = .ok (.iconst 1, 1) := by decide +kernel
theorem dX4_add_42 : decode cX4_add 42 = .ok (.isub, 1) := by decide +kernel
theorem dX4_add_43 : decode cX4_add 43 = .ok (.iaload, 1) := by decide +kernel
theorem dX4_add_44 : decode cX4_add 44 = .ok (.aload_n 0, 1) := by decide +kernel
theorem dX4_add_45 : decode cX4_add 45 = .ok (.getfield 15, 3) := by decide +kernel
theorem dX4_add_48 : decode cX4_add 48 = .ok (.iload 4, 2) := by decide +kernel
theorem dX4_add_50 : decode cX4_add 50 = .ok (.iconst 1, 1) := by decide +kernel
theorem dX4_add_51 : decode cX4_add 51 = .ok (.isub, 1) := by decide +kernel
theorem dX4_add_52 : decode cX4_add 52 = .ok (.iaload, 1) := by decide +kernel
theorem dX4_add_53 : decode cX4_add 53 = .ok (.aload_n 0, 1) := by decide +kernel
theorem dX4_add_54 : decode cX4_add 54 = .ok (.getfield 18, 3) := by decide +kernel
theorem dX4_add_57 : decode cX4_add 57 = .ok (.iload 4, 2) := by decide +kernel
theorem dX4_add_59 : decode cX4_add 59 = .ok (.iconst 1, 1) := by decide +kernel
theorem dX4_add_60 : decode cX4_add 60 = .ok (.isub, 1) := by decide +kernel
theorem dX4_add_61 : decode cX4_add 61 = .ok (.iaload, 1) := by decide +kernel
theorem dX4_add_62 : decode cX4_add 62 = .ok (.invokevirtual 25, 3) := by decide +kernel
theorem dX4_add_65 : decode cX4_add 65 = .ok (.iinc 4 (-1), 3) := by decide +kernel
theorem dX4_add_68 : decode cX4_add 68 = .ok (.goto (-54), 3) := by decide +kernel
theorem dX4_add_71 : decode cX4_add 71 = .ok (.aload_n 0, 1) := by decide +kernel
theorem dX4_add_72 : decode cX4_add 72 = .ok (.iload 4, 2) := by decide +kernel
theorem dX4_add_74 : decode cX4_add 74 = .ok (.iload_n 1, 1) := by decide +kernel
theorem dX4_add_75 : decode cX4_add 75 = .ok (.iload_n 2, 1) := by decide +kernel
theorem dX4_add_76 : decode cX4_add 76 = .ok (.iload_n 3, 1) := by decide +kernel
theorem dX4_add_77 : decode cX4_add 77 = .ok (.invokevirtual 25, 3) := by decide +kernel
theorem dX4_add_80 : decode cX4_add 80 = .ok (.aload_n 0, 1) := by decide +kernel
theorem dX4_add_81 : decode cX4_add 81 = .ok (.dup, 1) := by decide +kernel
theorem dX4_add_82 : decode cX4_add 82 = .ok (.getfield 21, 3) := by decide +kernel
theorem dX4_add_85 : decode cX4_add 85 = .ok (.iconst 1, 1) := by decide +kernel
theorem dX4_add_86 : decode cX4_add 86 = .ok (.iadd, 1) := by decide +kernel
theorem dX4_add_87 : decode cX4_add 87 = .ok (.putfield 21, 3) := by decide +kernel
theorem dX4_add_90 : decode cX4_add 90 = .ok (.return_, 1) := by decide +kernel
theorem dX4_write_0 : decode cX4_write 0 = .ok (.aload_n 0, 1) := by decide +kernel
theorem dX4_write_1 : decode cX4_write 1 = .ok (.getfield 9, 3) := by decide +kernel
theorem dX4_write_4 : decode cX4_write 4 = .ok (.iload_n 1, 1) := by decide +kernel
theorem dX4_write_5 : decode cX4_write 5 = .ok (.iload_n 2, 1) := by decide +kernel
theorem dX4_write_6 : decode cX4_write 6 = .ok (.iastore, 1) := by decide +kernel
theorem dX4_write_7 : decode cX4_write 7 = .ok (.aload_n 0, 1) := by decide +kernel
theorem dX4_write_8 : decode cX4_write 8 = .ok (.getfield 15, 3) := by decide +kernel
theorem dX4_write_11 : decode cX4_write 11 = .ok (.iload_n 1, 1) := by decide +kernel
theorem dX4_write_12 : decode cX4_write 12 = .ok (.iload_n 3, 1) := by decide +kernel
theorem dX4_write_13 : decode cX4_write 13 = .ok (.iastore, 1) := by decide +kernel
theorem dX4_write_14 : decode cX4_write 14 = .ok (.aload_n 0, 1) := by decide +kernel
theorem dX4_write_15 : decode cX4_write 15 = .ok (.getfield 18, 3) := by decide +kernel
theorem dX4_write_18 : decode cX4_write 18 = .ok (.iload_n 1, 1) := by decide +kernel
theorem dX4_write_19 : decode cX4_write 19 = .ok (.iload 4, 2) := by decide +kernel
theorem dX4_write_21 : decode cX4_write 21 = .ok (.iastore, 1) := by decide +kernel
theorem dX4_write_22 : decode cX4_write 22 = .ok (.return_, 1) := by decide +kernel
theorem dX4_dueOn_0 : decode cX4_dueOn 0 = .ok (.iconst 0, 1) := by decide +kernel
theorem dX4_dueOn_1 : decode cX4_dueOn 1 = .ok (.istore_n 2, 1) := by decide +kernel
theorem dX4_dueOn_2 : decode cX4_dueOn 2 = .ok (.iload_n 2, 1) := by decide +kernel
theorem dX4_dueOn_3 : decode cX4_dueOn 3 = .ok (.aload_n 0, 1) := by decide +kernel
theorem dX4_dueOn_4 : decode cX4_dueOn 4 = .ok (.getfield 21, 3) := by decide +kernel
theorem dX4_dueOn_7 : decode cX4_dueOn 7 = .ok (.if_icmp .ge 19, 3) := by decide +kernel
theorem dX4_dueOn_10 : decode cX4_dueOn 10 = .ok (.aload_n 0, 1) := by decide +kernel
theorem dX4_dueOn_11 : decode cX4_dueOn 11 = .ok (.getfield 18, 3) := by decide +kernel
theorem dX4_dueOn_14 : decode cX4_dueOn 14 = .ok (.iload_n 2, 1) := by decide +kernel
theorem dX4_dueOn_15 : decode cX4_dueOn 15 = .ok (.iaload, 1) := by decide +kernel
theorem dX4_dueOn_16 : decode cX4_dueOn 16 = .ok (.iload_n 1, 1) := by decide +kernel
theorem dX4_dueOn_17 : decode cX4_dueOn 17 = .ok (.if_icmp .gt 9, 3) := by decide +kernel
theorem dX4_dueOn_20 : decode cX4_dueOn 20 = .ok (.iinc 2 1, 3) := by decide +kernel
theorem dX4_dueOn_23 : decode cX4_dueOn 23 = .ok (.goto (-21), 3) := by decide +kernel
theorem dX4_dueOn_26 : decode cX4_dueOn 26 = .ok (.iload_n 2, 1) := by decide +kernel
theorem dX4_dueOn_27 : decode cX4_dueOn 27 = .ok (.ireturn, 1) := by decide +kernel
theorem dX4_sum_0 : decode cX4_sum 0 = .ok (.lconst 0, 1) := by decide +kernel
theorem dX4_sum_1 : decode cX4_sum 1 = .ok (.lstore_n 3, 1) := by decide +kernel
theorem dX4_sum_2 : decode cX4_sum 2 = .ok (.iload_n 1, 1) := by decide +kernel
theorem dX4_sum_3 : decode cX4_sum 3 = .ok (.istore 5, 2) := by decide +kernel
theorem dX4_sum_5 : decode cX4_sum 5 = .ok (.iload 5, 2) := by decide +kernel
theorem dX4_sum_7 : decode cX4_sum 7 = .ok (.iload_n 2, 1) := by decide +kernel
theorem dX4_sum_8 : decode cX4_sum 8 = .ok (.if_icmp .ge 20, 3) := by decide +kernel
theorem dX4_sum_11 : decode cX4_sum 11 = .ok (.lload_n 3, 1) := by decide +kernel
theorem dX4_sum_12 : decode cX4_sum 12 = .ok (.aload_n 0, 1) := by decide +kernel
theorem dX4_sum_13 : decode cX4_sum 13 = .ok (.getfield 15, 3) := by decide +kernel
theorem dX4_sum_16 : decode cX4_sum 16 = .ok (.iload 5, 2) := by decide +kernel
theorem dX4_sum_18 : decode cX4_sum 18 = .ok (.iaload, 1) := by decide +kernel
theorem dX4_sum_19 : decode cX4_sum 19 = .ok (.i2l, 1) := by decide +kernel
theorem dX4_sum_20 : decode cX4_sum 20 = .ok (.ladd, 1) := by decide +kernel
theorem dX4_sum_21 : decode cX4_sum 21 = .ok (.lstore_n 3, 1) := by decide +kernel
theorem dX4_sum_22 : decode cX4_sum 22 = .ok (.iinc 5 1, 3) := by decide +kernel
theorem dX4_sum_25 : decode cX4_sum 25 = .ok (.goto (-20), 3) := by decide +kernel
theorem dX4_sum_28 : decode cX4_sum 28 = .ok (.lload_n 3, 1) := by decide +kernel
theorem dX4_sum_29 : decode cX4_sum 29 = .ok (.lreturn, 1) := by decide +kernel
theorem dX4_sumOf_0 : decode cX4_sumOf 0 = .ok (.lconst 0, 1) := by decide +kernel
theorem dX4_sumOf_1 : decode cX4_sumOf 1 = .ok (.lstore_n 2, 1) := by decide +kernel
theorem dX4_sumOf_2 : decode cX4_sumOf 2 = .ok (.iconst 0, 1) := by decide +kernel
theorem dX4_sumOf_3 : decode cX4_sumOf 3 = .ok (.istore 4, 2) := by decide +kernel
theorem dX4_sumOf_5 : decode cX4_sumOf 5 = .ok (.iload 4, 2) := by decide +kernel
theorem dX4_sumOf_7 : decode cX4_sumOf 7 = .ok (.aload_n 0, 1) := by decide +kernel
theorem dX4_sumOf_8 : decode cX4_sumOf 8 = .ok (.getfield 21, 3) := by decide +kernel
theorem dX4_sumOf_11 : decode cX4_sumOf 11 = .ok (.if_icmp .ge 31, 3) := by decide +kernel
theorem dX4_sumOf_14 : decode cX4_sumOf 14 = .ok (.aload_n 0, 1) := by decide +kernel
theorem dX4_sumOf_15 : decode cX4_sumOf 15 = .ok (.getfield 9, 3) := by decide +kernel
theorem dX4_sumOf_18 : decode cX4_sumOf 18 = .ok (.iload 4, 2) := by decide +kernel
theorem dX4_sumOf_20 : decode cX4_sumOf 20 = .ok (.iaload, 1) := by decide +kernel
theorem dX4_sumOf_21 : decode cX4_sumOf 21 = .ok (.iload_n 1, 1) := by decide +kernel
theorem dX4_sumOf_22 : decode cX4_sumOf 22 = .ok (.if_icmp .ne 14, 3) := by decide +kernel
theorem dX4_sumOf_25 : decode cX4_sumOf 25 = .ok (.lload_n 2, 1) := by decide +kernel
theorem dX4_sumOf_26 : decode cX4_sumOf 26 = .ok (.aload_n 0, 1) := by decide +kernel
theorem dX4_sumOf_27 : decode cX4_sumOf 27 = .ok (.getfield 15, 3) := by decide +kernel
theorem dX4_sumOf_30 : decode cX4_sumOf 30 = .ok (.iload 4, 2) := by decide +kernel
theorem dX4_sumOf_32 : decode cX4_sumOf 32 = .ok (.iaload, 1) := by decide +kernel
theorem dX4_sumOf_33 : decode cX4_sumOf 33 = .ok (.i2l, 1) := by decide +kernel
theorem dX4_sumOf_34 : decode cX4_sumOf 34 = .ok (.ladd, 1) := by decide +kernel
theorem dX4_sumOf_35 : decode cX4_sumOf 35 = .ok (.lstore_n 2, 1) := by decide +kernel
theorem dX4_sumOf_36 : decode cX4_sumOf 36 = .ok (.iinc 4 1, 3) := by decide +kernel
theorem dX4_sumOf_39 : decode cX4_sumOf 39 = .ok (.goto (-34), 3) := by decide +kernel
theorem dX4_sumOf_42 : decode cX4_sumOf 42 = .ok (.lload_n 2, 1) := by decide +kernel
theorem dX4_sumOf_43 : decode cX4_sumOf 43 = .ok (.lreturn, 1) := by decide +kernel
theorem dX4_dropEmpty_0 : decode cX4_dropEmpty 0 = .ok (.iconst 0, 1) := by decide +kernel
theorem dX4_dropEmpty_1 : decode cX4_dropEmpty 1 = .ok (.istore_n 1, 1) := by decide +kernel
theorem dX4_dropEmpty_2 : decode cX4_dropEmpty 2 = .ok (.iconst 0, 1) := by decide +kernel
theorem dX4_dropEmpty_3 : decode cX4_dropEmpty 3 = .ok (.istore_n 2, 1) := by decide +kernel
theorem dX4_dropEmpty_4 : decode cX4_dropEmpty 4 = .ok (.iload_n 2, 1) := by decide +kernel
theorem dX4_dropEmpty_5 : decode cX4_dropEmpty 5 = .ok (.aload_n 0, 1) := by decide +kernel
theorem dX4_dropEmpty_6 : decode cX4_dropEmpty 6 = .ok (.getfield 21, 3) := by decide +kernel
theorem dX4_dropEmpty_9 : decode cX4_dropEmpty 9 = .ok (.if_icmp .ge 44, 3) := by decide +kernel
theorem dX4_dropEmpty_12 : decode cX4_dropEmpty 12 = .ok (.aload_n 0, 1) := by decide +kernel
theorem dX4_dropEmpty_13 : decode cX4_dropEmpty 13 = .ok (.getfield 15, 3) := by decide +kernel
theorem dX4_dropEmpty_16 : decode cX4_dropEmpty 16 = .ok (.iload_n 2, 1) := by decide +kernel
theorem dX4_dropEmpty_17 : decode cX4_dropEmpty 17 = .ok (.iaload, 1) := by decide +kernel
theorem dX4_dropEmpty_18 : decode cX4_dropEmpty 18 = .ok (.ifCond .le 29, 3) := by decide +kernel
theorem dX4_dropEmpty_21 : decode cX4_dropEmpty 21 = .ok (.aload_n 0, 1) := by decide +kernel
theorem dX4_dropEmpty_22 : decode cX4_dropEmpty 22 = .ok (.iload_n 1, 1) := by decide +kernel
theorem dX4_dropEmpty_23 : decode cX4_dropEmpty 23 = .ok (.aload_n 0, 1) := by decide +kernel
theorem dX4_dropEmpty_24 : decode cX4_dropEmpty 24 = .ok (.getfield 9, 3) := by decide +kernel
theorem dX4_dropEmpty_27 : decode cX4_dropEmpty 27 = .ok (.iload_n 2, 1) := by decide +kernel
theorem dX4_dropEmpty_28 : decode cX4_dropEmpty 28 = .ok (.iaload, 1) := by decide +kernel
theorem dX4_dropEmpty_29 : decode cX4_dropEmpty 29 = .ok (.aload_n 0, 1) := by decide +kernel
theorem dX4_dropEmpty_30 : decode cX4_dropEmpty 30 = .ok (.getfield 15, 3) := by decide +kernel
theorem dX4_dropEmpty_33 : decode cX4_dropEmpty 33 = .ok (.iload_n 2, 1) := by decide +kernel
theorem dX4_dropEmpty_34 : decode cX4_dropEmpty 34 = .ok (.iaload, 1) := by decide +kernel
theorem dX4_dropEmpty_35 : decode cX4_dropEmpty 35 = .ok (.aload_n 0, 1) := by decide +kernel
theorem dX4_dropEmpty_36 : decode cX4_dropEmpty 36 = .ok (.getfield 18, 3) := by decide +kernel
theorem dX4_dropEmpty_39 : decode cX4_dropEmpty 39 = .ok (.iload_n 2, 1) := by decide +kernel
theorem dX4_dropEmpty_40 : decode cX4_dropEmpty 40 = .ok (.iaload, 1) := by decide +kernel
theorem dX4_dropEmpty_41 : decode cX4_dropEmpty 41 = .ok (.invokevirtual 25, 3) := by decide +kernel
theorem dX4_dropEmpty_44 : decode cX4_dropEmpty 44 = .ok (.iinc 1 1, 3) := by decide +kernel
theorem dX4_dropEmpty_47 : decode cX4_dropEmpty 47 = .ok (.iinc 2 1, 3) := by decide +kernel
theorem dX4_dropEmpty_50 : decode cX4_dropEmpty 50 = .ok (.goto (-46), 3) := by decide +kernel
theorem dX4_dropEmpty_53 : decode cX4_dropEmpty 53 = .ok (.aload_n 0, 1) := by decide +kernel
theorem dX4_dropEmpty_54 : decode cX4_dropEmpty 54 = .ok (.iload_n 1, 1) := by decide +kernel
theorem dX4_dropEmpty_55 : decode cX4_dropEmpty 55 = .ok (.putfield 21, 3) := by decide +kernel
theorem dX4_dropEmpty_58 : decode cX4_dropEmpty 58 = .ok (.return_, 1) := by decide +kernel
theorem dX5_init_0 : decode cX5_init 0 = .ok (.aload_n 0, 1) := by decide +kernel
theorem dX5_init_1 : decode cX5_init 1 = .ok (.invokespecial 3, 3) := by decide +kernel
theorem dX5_init_4 : decode cX5_init 4 = .ok (.aload_n 0, 1) := by decide +kernel
theorem dX5_init_5 : decode cX5_init 5 = .ok (.bipush 80, 2) := by decide +kernel
theorem dX5_init_7 : decode cX5_init 7 = .ok (.newarray .char, 2) := by decide +kernel
theorem dX5_init_9 : decode cX5_init 9 = .ok (.putfield 9, 3) := by decide +kernel
theorem dX5_init_12 : decode cX5_init 12 = .ok (.return_, 1) := by decide +kernel
theorem dX5_countCharacters_0 : decode cX5_countCharacters 0 = .ok (.lload_n 0, 1) := by decide +kernel
theorem dX5_countCharacters_1 : decode cX5_countCharacters 1 = .ok (.lstore_n 2, 1) := by decide +kernel
theorem dX5_countCharacters_2 : decode cX5_countCharacters 2 = .ok (.iconst 0, 1) := by decide +kernel
theorem dX5_countCharacters_3 : decode cX5_countCharacters 3 = .ok (.istore 4, 2) := by decide +kernel
theorem dX5_countCharacters_5 : decode cX5_countCharacters 5 = .ok (.iload 4, 2) := by decide +kernel
theorem dX5_countCharacters_7 : decode cX5_countCharacters 7 = .ok (.bipush 8, 2) := by decide +kernel
theorem dX5_countCharacters_9 : decode cX5_countCharacters 9 = .ok (.if_icmp .ge 47, 3) := by decide +kernel
theorem dX5_countCharacters_12 : decode cX5_countCharacters 12 = .ok (.lload_n 2, 1) := by decide +kernel
theorem dX5_countCharacters_13 : decode cX5_countCharacters 13 = .ok (.lconst 0, 1) := by decide +kernel
theorem dX5_countCharacters_14 : decode cX5_countCharacters 14 = .ok (.lcmp, 1) := by decide +kernel
theorem dX5_countCharacters_15 : decode cX5_countCharacters 15 = .ok (.ifCond .eq 41, 3) := by decide +kernel
theorem dX5_countCharacters_18 : decode cX5_countCharacters 18 = .ok (.lload_n 2, 1) := by decide +kernel
theorem dX5_countCharacters_19 : decode cX5_countCharacters 19 = .ok (.ldc2_w 15, 3) := by decide +kernel
theorem dX5_countCharacters_22 : decode cX5_countCharacters 22 = .ok (.land, 1) := by decide +kernel
theorem dX5_countCharacters_23 : decode cX5_countCharacters 23 = .ok (.lstore 5, 2) := by decide +kernel
theorem dX5_countCharacters_25 : decode cX5_countCharacters 25 = .ok (.lload 5, 2) := by decide +kernel
theorem dX5_countCharacters_27 : decode cX5_countCharacters 27 = .ok (.ldc2_w 17, 3) := by decide +kernel
theorem dX5_countCharacters_30 : decode cX5_countCharacters 30 = .ok (.lcmp, 1) := by decide +kernel
theorem dX5_countCharacters_31 : decode cX5_countCharacters 31 = .ok (.ifCond .lt 12, 3) := by decide +kernel
theorem dX5_countCharacters_34 : decode cX5_countCharacters 34 = .ok (.lload 5, 2) := by decide +kernel
theorem dX5_countCharacters_36 : decode cX5_countCharacters 36 = .ok (.ldc2_w 19, 3) := by decide +kernel
theorem dX5_countCharacters_39 : decode cX5_countCharacters 39 = .ok (.lcmp, 1) := by decide +kernel
theorem dX5_countCharacters_40 : decode cX5_countCharacters 40 = .ok (.ifCond .le 5, 3) := by decide +kernel
theorem dX5_countCharacters_43 : decode cX5_countCharacters 43 = .ok (.iconst 0, 1) := by decide +kernel
theorem dX5_countCharacters_44 : decode cX5_countCharacters 44 = .ok (.ireturn, 1) := by decide +kernel
theorem dX5_countCharacters_45 : decode cX5_countCharacters 45 = .ok (.lload_n 2, 1) := by decide +kernel
theorem dX5_countCharacters_46 : decode cX5_countCharacters 46 = .ok (.bipush 8, 2) := by decide +kernel
theorem dX5_countCharacters_48 : decode cX5_countCharacters 48 = .ok (.lushr, 1) := by decide +kernel
theorem dX5_countCharacters_49 : decode cX5_countCharacters 49 = .ok (.lstore_n 2, 1) := by decide +kernel
theorem dX5_countCharacters_50 : decode cX5_countCharacters 50 = .ok (.iinc 4 1, 3) := by decide +kernel
theorem dX5_countCharacters_53 : decode cX5_countCharacters 53 = .ok (.goto (-48), 3) := by decide +kernel
theorem dX5_countCharacters_56 : decode cX5_countCharacters 56 = .ok (.iload 4, 2) := by decide +kernel
theorem dX5_countCharacters_58 : decode cX5_countCharacters 58 = .ok (.ireturn, 1) := by decide +kernel
theorem dX5_append_0 : decode cX5_append 0 = .ok (.iload_n 3, 1) := by decide +kernel
theorem dX5_append_1 : decode cX5_append 1 = .ok (.iconst 1, 1) := by decide +kernel
theorem dX5_append_2 : decode cX5_append 2 = .ok (.isub, 1) := by decide +kernel
theorem dX5_append_3 : decode cX5_append 3 = .ok (.istore 4, 2) := by decide +kernel
theorem dX5_append_5 : decode cX5_append 5 = .ok (.iload 4, 2) := by decide +kernel
theorem dX5_append_7 : decode cX5_append 7 = .ok (.ifCond .lt 50, 3) := by decide +kernel
theorem dX5_append_10 : decode cX5_append 10 = .ok (.aload_n 0, 1) := by decide +kernel
theorem dX5_append_11 : decode cX5_append 11 = .ok (.getfield 21, 3) := by decide +kernel
theorem dX5_append_14 : decode cX5_append 14 = .ok (.bipush 80, 2) := by decide +kernel
theorem dX5_append_16 : decode cX5_append 16 = .ok (.if_icmp .ge 41, 3) := by decide +kernel
theorem dX5_append_19 : decode cX5_append 19 = .ok (.aload_n 0, 1) := by decide +kernel
theorem dX5_append_20 : decode cX5_append 20 = .ok (.getfield 9, 3) := by decide +kernel
theorem dX5_append_23 : decode cX5_append 23 = .ok (.aload_n 0, 1) := by decide +kernel
theorem dX5_append_24 : decode cX5_append 24 = .ok (.getfield 21, 3) := by decide +kernel
theorem dX5_append_27 : decode cX5_append 27 = .ok (.lload_n 1, 1) := by decide +kernel
theorem dX5_append_28 : decode cX5_append 28 = .ok (.bipush 8, 2) := by decide +kernel
theorem dX5_append_30 : decode cX5_append 30 = .ok (.iload 4, 2) := by decide +kernel
theorem dX5_append_32 : decode cX5_append 32 = .ok (.imul, 1) := by decide +kernel
theorem dX5_append_33 : decode cX5_append 33 = .ok (.lushr, 1) := by decide +kernel
theorem dX5_append_34 : decode cX5_append 34 = .ok (.ldc2_w 15, 3) := by decide +kernel
theorem dX5_append_37 : decode cX5_append 37 = .ok (.land, 1) := by decide +kernel
theorem dX5_append_38 : decode cX5_append 38 = .ok (.l2i, 1) := by decide +kernel
theorem dX5_append_39 : decode cX5_append 39 = .ok (.i2c, 1) := by decide +kernel
theorem dX5_append_40 : decode cX5_append 40 = .ok (.castore, 1) := by decide +kernel
theorem dX5_append_41 : decode cX5_append 41 = .ok (.aload_n 0, 1) := by decide +kernel
theorem dX5_append_42 : decode cX5_append 42 = .ok (.dup, 1) := by decide +kernel
theorem dX5_append_43 : decode cX5_append 43 = .ok (.getfield 21, 3) := by decide +kernel
theorem dX5_append_46 : decode cX5_append 46 = .ok (.iconst 1, 1) := by decide +kernel
theorem dX5_append_47 : decode cX5_append 47 = .ok (.iadd, 1) := by decide +kernel
theorem dX5_append_48 : decode cX5_append 48 = .ok (.putfield 21, 3) := by decide +kernel
theorem dX5_append_51 : decode cX5_append 51 = .ok (.iinc 4 (-1), 3) := by decide +kernel
theorem dX5_append_54 : decode cX5_append 54 = .ok (.goto (-49), 3) := by decide +kernel
theorem dX5_append_57 : decode cX5_append 57 = .ok (.return_, 1) := by decide +kernel
theorem dX5_signAt_0 : decode cX5_signAt 0 = .ok (.iload_n 1, 1) := by decide +kernel
theorem dX5_signAt_1 : decode cX5_signAt 1 = .ok (.ifCond .lt 20, 3) := by decide +kernel
theorem dX5_signAt_4 : decode cX5_signAt 4 = .ok (.iload_n 1, 1) := by decide +kernel
theorem dX5_signAt_5 : decode cX5_signAt 5 = .ok (.aload_n 0, 1) := by decide +kernel
theorem dX5_signAt_6 : decode cX5_signAt 6 = .ok (.getfield 21, 3) := by decide +kernel
theorem dX5_signAt_9 : decode cX5_signAt 9 = .ok (.if_icmp .ge 12, 3) := by decide +kernel
theorem dX5_signAt_12 : decode cX5_signAt 12 = .ok (.aload_n 0, 1) := by decide +kernel
theorem dX5_signAt_13 : decode cX5_signAt 13 = .ok (.getfield 9, 3) := by decide +kernel
theorem dX5_signAt_16 : decode cX5_signAt 16 = .ok (.iload_n 1, 1) := by decide +kernel
theorem dX5_signAt_17 : decode cX5_signAt 17 = .ok (.caload, 1) := by decide +kernel
theorem dX5_signAt_18 : decode cX5_signAt 18 = .ok (.goto 4, 3) := by decide +kernel
theorem dX5_signAt_21 : decode cX5_signAt 21 = .ok (.iconst 0, 1) := by decide +kernel
theorem dX5_signAt_22 : decode cX5_signAt 22 = .ok (.ireturn, 1) := by decide +kernel
theorem dX5_empty_0 : decode cX5_empty 0 = .ok (.aload_n 0, 1) := by decide +kernel
theorem dX5_empty_1 : decode cX5_empty 1 = .ok (.getfield 21, 3) := by decide +kernel
theorem dX5_empty_4 : decode cX5_empty 4 = .ok (.istore_n 1, 1) := by decide +kernel
theorem dX5_empty_5 : decode cX5_empty 5 = .ok (.aload_n 0, 1) := by decide +kernel
theorem dX5_empty_6 : decode cX5_empty 6 = .ok (.iconst 0, 1) := by decide +kernel
theorem dX5_empty_7 : decode cX5_empty 7 = .ok (.putfield 21, 3) := by decide +kernel
theorem dX5_empty_10 : decode cX5_empty 10 = .ok (.iload_n 1, 1) := by decide +kernel
theorem dX5_empty_11 : decode cX5_empty 11 = .ok (.ireturn, 1) := by decide +kernel
theorem dX5_start_0 : decode cX5_start 0 = .ok (.aload_n 0, 1) := by decide +kernel
theorem dX5_start_1 : decode cX5_start 1 = .ok (.iconst 0, 1) := by decide +kernel
theorem dX5_start_2 : decode cX5_start 2 = .ok (.putfield 25, 3) := by decide +kernel
theorem dX5_start_5 : decode cX5_start 5 = .ok (.return_, 1) := by decide +kernel
theorem dX5_findFault_0 : decode cX5_findFault 0 = .ok (.aload_n 0, 1) := by decide +kernel
theorem dX5_findFault_1 : decode cX5_findFault 1 = .ok (.invokevirtual 28, 3) := by decide +kernel
theorem dX5_findFault_4 : decode cX5_findFault 4 = .ok (.iconst 0, 1) := by decide +kernel
theorem dX5_findFault_5 : decode cX5_findFault 5 = .ok (.istore_n 1, 1) := by decide +kernel
theorem dX5_findFault_6 : decode cX5_findFault 6 = .ok (.iload_n 1, 1) := by decide +kernel
theorem dX5_findFault_7 : decode cX5_findFault 7 = .ok (.bipush 80, 2) := by decide +kernel
theorem dX5_findFault_9 : decode cX5_findFault 9 = .ok (.if_icmp .ge 49, 3) := by decide +kernel
theorem dX5_findFault_12 : decode cX5_findFault 12 = .ok (.aload_n 0, 1) := by decide +kernel
theorem dX5_findFault_13 : decode cX5_findFault 13 = .ok (.invokevirtual 31, 3) := by decide +kernel
theorem dX5_findFault_16 : decode cX5_findFault 16 = .ok (.ifCond .ne 8, 3) := by decide +kernel
theorem dX5_findFault_19 : decode cX5_findFault 19 = .ok (.aload_n 0, 1) := by decide +kernel
theorem dX5_findFault_20 : decode cX5_findFault 20 = .ok (.getfield 25, 3) := by decide +kernel
theorem dX5_findFault_23 : decode cX5_findFault 23 = .ok (.ireturn, 1) := by decide +kernel
theorem dX5_findFault_24 : decode cX5_findFault 24 = .ok (.aload_n 0, 1) := by decide +kernel
theorem dX5_findFault_25 : decode cX5_findFault 25 = .ok (.getfield 25, 3) := by decide +kernel
theorem dX5_findFault_28 : decode cX5_findFault 28 = .ok (.aload_n 0, 1) := by decide +kernel
theorem dX5_findFault_29 : decode cX5_findFault 29 = .ok (.getfield 21, 3) := by decide +kernel
theorem dX5_findFault_32 : decode cX5_findFault 32 = .ok (.if_icmp .lt 6, 3) := by decide +kernel
theorem dX5_findFault_35 : decode cX5_findFault 35 = .ok (.bipush (-6), 2) := by decide +kernel
theorem dX5_findFault_37 : decode cX5_findFault 37 = .ok (.ireturn, 1) := by decide +kernel
theorem dX5_findFault_38 : decode cX5_findFault 38 = .ok (.aload_n 0, 1) := by decide +kernel
theorem dX5_findFault_39 : decode cX5_findFault 39 = .ok (.bipush 59, 2) := by decide +kernel
theorem dX5_findFault_41 : decode cX5_findFault 41 = .ok (.invokevirtual 35, 3) := by decide +kernel
theorem dX5_findFault_44 : decode cX5_findFault 44 = .ok (.ifCond .ne 8, 3) := by decide +kernel
theorem dX5_findFault_47 : decode cX5_findFault 47 = .ok (.aload_n 0, 1) := by decide +kernel
theorem dX5_findFault_48 : decode cX5_findFault 48 = .ok (.getfield 25, 3) := by decide +kernel
theorem dX5_findFault_51 : decode cX5_findFault 51 = .ok (.ireturn, 1) := by decide +kernel
theorem dX5_findFault_52 : decode cX5_findFault 52 = .ok (.iinc 1 1, 3) := by decide +kernel
theorem dX5_findFault_55 : decode cX5_findFault 55 = .ok (.goto (-49), 3) := by decide +kernel
theorem dX5_findFault_58 : decode cX5_findFault 58 = .ok (.aload_n 0, 1) := by decide +kernel
theorem dX5_findFault_59 : decode cX5_findFault 59 = .ok (.getfield 25, 3) := by decide +kernel
theorem dX5_findFault_62 : decode cX5_findFault 62 = .ok (.ireturn, 1) := by decide +kernel
theorem dX5_readOrder_0 : decode cX5_readOrder 0 = .ok (.aload_n 0, 1) := by decide +kernel
theorem dX5_readOrder_1 : decode cX5_readOrder 1 = .ok (.aload_n 0, 1) := by decide +kernel
theorem dX5_readOrder_2 : decode cX5_readOrder 2 = .ok (.aload_n 0, 1) := by decide +kernel
theorem dX5_readOrder_3 : decode cX5_readOrder 3 = .ok (.getfield 25, 3) := by decide +kernel
theorem dX5_readOrder_6 : decode cX5_readOrder 6 = .ok (.invokevirtual 39, 3) := by decide +kernel
theorem dX5_readOrder_9 : decode cX5_readOrder 9 = .ok (.putfield 43, 3) := by decide +kernel
theorem dX5_readOrder_12 : decode cX5_readOrder 12 = .ok (.aload_n 0, 1) := by decide +kernel
theorem dX5_readOrder_13 : decode cX5_readOrder 13 = .ok (.getfield 43, 3) := by decide +kernel
theorem dX5_readOrder_16 : decode cX5_readOrder 16 = .ok (.tableswitch 140 98 113 #[80, 140, 128, 140, 140, 140, 140, 95, 140, 140, 80, 140, 140, 140, 128, 95], 80) := by decide +kernel
theorem dX5_readOrder_96 : decode cX5_readOrder 96 = .ok (.aload_n 0, 1) := by decide +kernel
theorem dX5_readOrder_97 : decode cX5_readOrder 97 = .ok (.dup, 1) := by decide +kernel
theorem dX5_readOrder_98 : decode cX5_readOrder 98 = .ok (.getfield 25, 3) := by decide +kernel
theorem dX5_readOrder_101 : decode cX5_readOrder 101 = .ok (.iconst 1, 1) := by decide +kernel
theorem dX5_readOrder_102 : decode cX5_readOrder 102 = .ok (.iadd, 1) := by decide +kernel
theorem dX5_readOrder_103 : decode cX5_readOrder 103 = .ok (.putfield 25, 3) := by decide +kernel
theorem dX5_readOrder_106 : decode cX5_readOrder 106 = .ok (.aload_n 0, 1) := by decide +kernel
theorem dX5_readOrder_107 : decode cX5_readOrder 107 = .ok (.invokevirtual 47, 3) := by decide +kernel
theorem dX5_readOrder_110 : decode cX5_readOrder 110 = .ok (.ireturn, 1) := by decide +kernel
theorem dX5_readOrder_111 : decode cX5_readOrder 111 = .ok (.aload_n 0, 1) := by decide +kernel
theorem dX5_readOrder_112 : decode cX5_readOrder 112 = .ok (.dup, 1) := by decide +kernel
theorem dX5_readOrder_113 : decode cX5_readOrder 113 = .ok (.getfield 25, 3) := by decide +kernel
theorem dX5_readOrder_116 : decode cX5_readOrder 116 = .ok (.iconst 1, 1) := by decide +kernel
theorem dX5_readOrder_117 : decode cX5_readOrder 117 = .ok (.iadd, 1) := by decide +kernel
theorem dX5_readOrder_118 : decode cX5_readOrder 118 = .ok (.putfield 25, 3) := by decide +kernel
theorem dX5_readOrder_121 : decode cX5_readOrder 121 = .ok (.aload_n 0, 1) := by decide +kernel
theorem dX5_readOrder_122 : decode cX5_readOrder 122 = .ok (.aload_n 0, 1) := by decide +kernel
theorem dX5_readOrder_123 : decode cX5_readOrder 123 = .ok (.ldc 50, 2) := by decide +kernel
theorem dX5_readOrder_125 : decode cX5_readOrder 125 = .ok (.invokevirtual 51, 3) := by decide +kernel
theorem dX5_readOrder_128 : decode cX5_readOrder 128 = .ok (.putfield 55, 3) := by decide +kernel
theorem dX5_readOrder_131 : decode cX5_readOrder 131 = .ok (.aload_n 0, 1) := by decide +kernel
theorem dX5_readOrder_132 : decode cX5_readOrder 132 = .ok (.getfield 55, 3) := by decide +kernel
theorem dX5_readOrder_135 : decode cX5_readOrder 135 = .ok (.ifCond .lt 7, 3) := by decide +kernel
theorem dX5_readOrder_138 : decode cX5_readOrder 138 = .ok (.iconst 1, 1) := by decide +kernel
theorem dX5_readOrder_139 : decode cX5_readOrder 139 = .ok (.goto 4, 3) := by decide +kernel
theorem dX5_readOrder_142 : decode cX5_readOrder 142 = .ok (.iconst 0, 1) := by decide +kernel
theorem dX5_readOrder_143 : decode cX5_readOrder 143 = .ok (.ireturn, 1) := by decide +kernel
theorem dX5_readOrder_144 : decode cX5_readOrder 144 = .ok (.aload_n 0, 1) := by decide +kernel
theorem dX5_readOrder_145 : decode cX5_readOrder 145 = .ok (.dup, 1) := by decide +kernel
theorem dX5_readOrder_146 : decode cX5_readOrder 146 = .ok (.getfield 25, 3) := by decide +kernel
theorem dX5_readOrder_149 : decode cX5_readOrder 149 = .ok (.iconst 1, 1) := by decide +kernel
theorem dX5_readOrder_150 : decode cX5_readOrder 150 = .ok (.iadd, 1) := by decide +kernel
theorem dX5_readOrder_151 : decode cX5_readOrder 151 = .ok (.putfield 25, 3) := by decide +kernel
theorem dX5_readOrder_154 : decode cX5_readOrder 154 = .ok (.iconst 1, 1) := by decide +kernel
theorem dX5_readOrder_155 : decode cX5_readOrder 155 = .ok (.ireturn, 1) := by decide +kernel
theorem dX5_readOrder_156 : decode cX5_readOrder 156 = .ok (.iconst 0, 1) := by decide +kernel
theorem dX5_readOrder_157 : decode cX5_readOrder 157 = .ok (.ireturn, 1) := by decide +kernel
theorem dX5_skip_0 : decode cX5_skip 0 = .ok (.aload_n 0, 1) := by decide +kernel
theorem dX5_skip_1 : decode cX5_skip 1 = .ok (.aload_n 0, 1) := by decide +kernel
theorem dX5_skip_2 : decode cX5_skip 2 = .ok (.getfield 25, 3) := by decide +kernel
theorem dX5_skip_5 : decode cX5_skip 5 = .ok (.invokevirtual 39, 3) := by decide +kernel
theorem dX5_skip_8 : decode cX5_skip 8 = .ok (.iload_n 1, 1) := by decide +kernel
theorem dX5_skip_9 : decode cX5_skip 9 = .ok (.if_icmp .eq 5, 3) := by decide +kernel
theorem dX5_skip_12 : decode cX5_skip 12 = .ok (.iconst 0, 1) := by decide +kernel
theorem dX5_skip_13 : decode cX5_skip 13 = .ok (.ireturn, 1) := by decide +kernel
theorem dX5_skip_14 : decode cX5_skip 14 = .ok (.aload_n 0, 1) := by decide +kernel
theorem dX5_skip_15 : decode cX5_skip 15 = .ok (.dup, 1) := by decide +kernel
theorem dX5_skip_16 : decode cX5_skip 16 = .ok (.getfield 25, 3) := by decide +kernel
theorem dX5_skip_19 : decode cX5_skip 19 = .ok (.iconst 1, 1) := by decide +kernel
theorem dX5_skip_20 : decode cX5_skip 20 = .ok (.iadd, 1) := by decide +kernel
theorem dX5_skip_21 : decode cX5_skip 21 = .ok (.putfield 25, 3) := by decide +kernel
theorem dX5_skip_24 : decode cX5_skip 24 = .ok (.iconst 1, 1) := by decide +kernel
theorem dX5_skip_25 : decode cX5_skip 25 = .ok (.ireturn, 1) := by decide +kernel
theorem dX5_readDeal_0 : decode cX5_readDeal 0 = .ok (.aload_n 0, 1) := by decide +kernel
theorem dX5_readDeal_1 : decode cX5_readDeal 1 = .ok (.aload_n 0, 1) := by decide +kernel
theorem dX5_readDeal_2 : decode cX5_readDeal 2 = .ok (.invokevirtual 58, 3) := by decide +kernel
theorem dX5_readDeal_5 : decode cX5_readDeal 5 = .ok (.putfield 62, 3) := by decide +kernel
theorem dX5_readDeal_8 : decode cX5_readDeal 8 = .ok (.aload_n 0, 1) := by decide +kernel
theorem dX5_readDeal_9 : decode cX5_readDeal 9 = .ok (.getfield 62, 3) := by decide +kernel
theorem dX5_readDeal_12 : decode cX5_readDeal 12 = .ok (.invokestatic 65, 3) := by decide +kernel
theorem dX5_readDeal_15 : decode cX5_readDeal 15 = .ok (.ifCond .ne 5, 3) := by decide +kernel
theorem dX5_readDeal_18 : decode cX5_readDeal 18 = .ok (.iconst 0, 1) := by decide +kernel
theorem dX5_readDeal_19 : decode cX5_readDeal 19 = .ok (.ireturn, 1) := by decide +kernel
theorem dX5_readDeal_20 : decode cX5_readDeal 20 = .ok (.aload_n 0, 1) := by decide +kernel
theorem dX5_readDeal_21 : decode cX5_readDeal 21 = .ok (.dup, 1) := by decide +kernel
theorem dX5_readDeal_22 : decode cX5_readDeal 22 = .ok (.getfield 25, 3) := by decide +kernel
theorem dX5_readDeal_25 : decode cX5_readDeal 25 = .ok (.iconst 1, 1) := by decide +kernel
theorem dX5_readDeal_26 : decode cX5_readDeal 26 = .ok (.iadd, 1) := by decide +kernel
theorem dX5_readDeal_27 : decode cX5_readDeal 27 = .ok (.putfield 25, 3) := by decide +kernel
theorem dX5_readDeal_30 : decode cX5_readDeal 30 = .ok (.aload_n 0, 1) := by decide +kernel
theorem dX5_readDeal_31 : decode cX5_readDeal 31 = .ok (.bipush 58, 2) := by decide +kernel
theorem dX5_readDeal_33 : decode cX5_readDeal 33 = .ok (.invokevirtual 35, 3) := by decide +kernel
theorem dX5_readDeal_36 : decode cX5_readDeal 36 = .ok (.ifCond .ne 5, 3) := by decide +kernel
theorem dX5_readDeal_39 : decode cX5_readDeal 39 = .ok (.iconst 0, 1) := by decide +kernel
theorem dX5_readDeal_40 : decode cX5_readDeal 40 = .ok (.ireturn, 1) := by decide +kernel
theorem dX5_readDeal_41 : decode cX5_readDeal 41 = .ok (.aload_n 0, 1) := by decide +kernel
theorem dX5_readDeal_42 : decode cX5_readDeal 42 = .ok (.aload_n 0, 1) := by decide +kernel
theorem dX5_readDeal_43 : decode cX5_readDeal 43 = .ok (.ldc 50, 2) := by decide +kernel
theorem dX5_readDeal_45 : decode cX5_readDeal 45 = .ok (.invokevirtual 51, 3) := by decide +kernel
theorem dX5_readDeal_48 : decode cX5_readDeal 48 = .ok (.putfield 55, 3) := by decide +kernel
theorem dX5_readDeal_51 : decode cX5_readDeal 51 = .ok (.aload_n 0, 1) := by decide +kernel
theorem dX5_readDeal_52 : decode cX5_readDeal 52 = .ok (.getfield 55, 3) := by decide +kernel
theorem dX5_readDeal_55 : decode cX5_readDeal 55 = .ok (.ifCond .ge 5, 3) := by decide +kernel
theorem dX5_readDeal_58 : decode cX5_readDeal 58 = .ok (.iconst 0, 1) := by decide +kernel
theorem dX5_readDeal_59 : decode cX5_readDeal 59 = .ok (.ireturn, 1) := by decide +kernel
theorem dX5_readDeal_60 : decode cX5_readDeal 60 = .ok (.aload_n 0, 1) := by decide +kernel
theorem dX5_readDeal_61 : decode cX5_readDeal 61 = .ok (.aload_n 0, 1) := by decide +kernel
theorem dX5_readDeal_62 : decode cX5_readDeal 62 = .ok (.bipush 64, 2) := by decide +kernel
theorem dX5_readDeal_64 : decode cX5_readDeal 64 = .ok (.invokevirtual 35, 3) := by decide +kernel
theorem dX5_readDeal_67 : decode cX5_readDeal 67 = .ok (.ifCond .eq 12, 3) := by decide +kernel
theorem dX5_readDeal_70 : decode cX5_readDeal 70 = .ok (.aload_n 0, 1) := by decide +kernel
theorem dX5_readDeal_71 : decode cX5_readDeal 71 = .ok (.bipush 23, 2) := by decide +kernel
theorem dX5_readDeal_73 : decode cX5_readDeal 73 = .ok (.invokevirtual 51, 3) := by decide +kernel
theorem dX5_readDeal_76 : decode cX5_readDeal 76 = .ok (.goto 4, 3) := by decide +kernel
theorem dX5_readDeal_79 : decode cX5_readDeal 79 = .ok (.iconst 0, 1) := by decide +kernel
theorem dX5_readDeal_80 : decode cX5_readDeal 80 = .ok (.putfield 69, 3) := by decide +kernel
theorem dX5_readDeal_83 : decode cX5_readDeal 83 = .ok (.aload_n 0, 1) := by decide +kernel
theorem dX5_readDeal_84 : decode cX5_readDeal 84 = .ok (.getfield 69, 3) := by decide +kernel
theorem dX5_readDeal_87 : decode cX5_readDeal 87 = .ok (.ifCond .lt 7, 3) := by decide +kernel
theorem dX5_readDeal_90 : decode cX5_readDeal 90 = .ok (.iconst 1, 1) := by decide +kernel
theorem dX5_readDeal_91 : decode cX5_readDeal 91 = .ok (.goto 4, 3) := by decide +kernel
theorem dX5_readDeal_94 : decode cX5_readDeal 94 = .ok (.iconst 0, 1) := by decide +kernel
theorem dX5_readDeal_95 : decode cX5_readDeal 95 = .ok (.ireturn, 1) := by decide +kernel
theorem dX5_readNumber_0 : decode cX5_readNumber 0 = .ok (.aload_n 0, 1) := by decide +kernel
theorem dX5_readNumber_1 : decode cX5_readNumber 1 = .ok (.invokevirtual 58, 3) := by decide +kernel
theorem dX5_readNumber_4 : decode cX5_readNumber 4 = .ok (.istore_n 2, 1) := by decide +kernel
theorem dX5_readNumber_5 : decode cX5_readNumber 5 = .ok (.iload_n 2, 1) := by decide +kernel
theorem dX5_readNumber_6 : decode cX5_readNumber 6 = .ok (.ifCond .ge 5, 3) := by decide +kernel
theorem dX5_readNumber_9 : decode cX5_readNumber 9 = .ok (.iconst (-1), 1) := by decide +kernel
theorem dX5_readNumber_10 : decode cX5_readNumber 10 = .ok (.ireturn, 1) := by decide +kernel
theorem dX5_readNumber_11 : decode cX5_readNumber 11 = .ok (.aload_n 0, 1) := by decide +kernel
theorem dX5_readNumber_12 : decode cX5_readNumber 12 = .ok (.dup, 1) := by decide +kernel
theorem dX5_readNumber_13 : decode cX5_readNumber 13 = .ok (.getfield 25, 3) := by decide +kernel
theorem dX5_readNumber_16 : decode cX5_readNumber 16 = .ok (.iconst 1, 1) := by decide +kernel
theorem dX5_readNumber_17 : decode cX5_readNumber 17 = .ok (.iadd, 1) := by decide +kernel
theorem dX5_readNumber_18 : decode cX5_readNumber 18 = .ok (.putfield 25, 3) := by decide +kernel
theorem dX5_readNumber_21 : decode cX5_readNumber 21 = .ok (.aload_n 0, 1) := by decide +kernel
theorem dX5_readNumber_22 : decode cX5_readNumber 22 = .ok (.invokevirtual 58, 3) := by decide +kernel
theorem dX5_readNumber_25 : decode cX5_readNumber 25 = .ok (.istore_n 3, 1) := by decide +kernel
theorem dX5_readNumber_26 : decode cX5_readNumber 26 = .ok (.iload_n 3, 1) := by decide +kernel
theorem dX5_readNumber_27 : decode cX5_readNumber 27 = .ok (.ifCond .lt 55, 3) := by decide +kernel
theorem dX5_readNumber_30 : decode cX5_readNumber 30 = .ok (.aload_n 0, 1) := by decide +kernel
theorem dX5_readNumber_31 : decode cX5_readNumber 31 = .ok (.getfield 25, 3) := by decide +kernel
theorem dX5_readNumber_34 : decode cX5_readNumber 34 = .ok (.aload_n 0, 1) := by decide +kernel
theorem dX5_readNumber_35 : decode cX5_readNumber 35 = .ok (.getfield 21, 3) := by decide +kernel
theorem dX5_readNumber_38 : decode cX5_readNumber 38 = .ok (.if_icmp .ge 44, 3) := by decide +kernel
theorem dX5_readNumber_41 : decode cX5_readNumber 41 = .ok (.iload_n 2, 1) := by decide +kernel
theorem dX5_readNumber_42 : decode cX5_readNumber 42 = .ok (.ifCond .eq 13, 3) := by decide +kernel
theorem dX5_readNumber_45 : decode cX5_readNumber 45 = .ok (.bipush 10, 2) := by decide +kernel
theorem dX5_readNumber_47 : decode cX5_readNumber 47 = .ok (.iload_n 2, 1) := by decide +kernel
theorem dX5_readNumber_48 : decode cX5_readNumber 48 = .ok (.imul, 1) := by decide +kernel
theorem dX5_readNumber_49 : decode cX5_readNumber 49 = .ok (.iload_n 3, 1) := by decide +kernel
theorem dX5_readNumber_50 : decode cX5_readNumber 50 = .ok (.iadd, 1) := by decide +kernel
theorem dX5_readNumber_51 : decode cX5_readNumber 51 = .ok (.iload_n 1, 1) := by decide +kernel
theorem dX5_readNumber_52 : decode cX5_readNumber 52 = .ok (.if_icmp .le 5, 3) := by decide +kernel
theorem dX5_readNumber_55 : decode cX5_readNumber 55 = .ok (.iconst (-1), 1) := by decide +kernel
theorem dX5_readNumber_56 : decode cX5_readNumber 56 = .ok (.ireturn, 1) := by decide +kernel
theorem dX5_readNumber_57 : decode cX5_readNumber 57 = .ok (.bipush 10, 2) := by decide +kernel
theorem dX5_readNumber_59 : decode cX5_readNumber 59 = .ok (.iload_n 2, 1) := by decide +kernel
theorem dX5_readNumber_60 : decode cX5_readNumber 60 = .ok (.imul, 1) := by decide +kernel
theorem dX5_readNumber_61 : decode cX5_readNumber 61 = .ok (.iload_n 3, 1) := by decide +kernel
theorem dX5_readNumber_62 : decode cX5_readNumber 62 = .ok (.iadd, 1) := by decide +kernel
theorem dX5_readNumber_63 : decode cX5_readNumber 63 = .ok (.istore_n 2, 1) := by decide +kernel
theorem dX5_readNumber_64 : decode cX5_readNumber 64 = .ok (.aload_n 0, 1) := by decide +kernel
theorem dX5_readNumber_65 : decode cX5_readNumber 65 = .ok (.dup, 1) := by decide +kernel
theorem dX5_readNumber_66 : decode cX5_readNumber 66 = .ok (.getfield 25, 3) := by decide +kernel
theorem dX5_readNumber_69 : decode cX5_readNumber 69 = .ok (.iconst 1, 1) := by decide +kernel
theorem dX5_readNumber_70 : decode cX5_readNumber 70 = .ok (.iadd, 1) := by decide +kernel
theorem dX5_readNumber_71 : decode cX5_readNumber 71 = .ok (.putfield 25, 3) := by decide +kernel
theorem dX5_readNumber_74 : decode cX5_readNumber 74 = .ok (.aload_n 0, 1) := by decide +kernel
theorem dX5_readNumber_75 : decode cX5_readNumber 75 = .ok (.invokevirtual 58, 3) := by decide +kernel
theorem dX5_readNumber_78 : decode cX5_readNumber 78 = .ok (.istore_n 3, 1) := by decide +kernel
theorem dX5_readNumber_79 : decode cX5_readNumber 79 = .ok (.goto (-53), 3) := by decide +kernel
theorem dX5_readNumber_82 : decode cX5_readNumber 82 = .ok (.iload_n 2, 1) := by decide +kernel
theorem dX5_readNumber_83 : decode cX5_readNumber 83 = .ok (.ireturn, 1) := by decide +kernel
theorem dX5_digitAt_0 : decode cX5_digitAt 0 = .ok (.aload_n 0, 1) := by decide +kernel
theorem dX5_digitAt_1 : decode cX5_digitAt 1 = .ok (.aload_n 0, 1) := by decide +kernel
theorem dX5_digitAt_2 : decode cX5_digitAt 2 = .ok (.getfield 25, 3) := by decide +kernel
theorem dX5_digitAt_5 : decode cX5_digitAt 5 = .ok (.invokevirtual 39, 3) := by decide +kernel
theorem dX5_digitAt_8 : decode cX5_digitAt 8 = .ok (.istore_n 1, 1) := by decide +kernel
theorem dX5_digitAt_9 : decode cX5_digitAt 9 = .ok (.iload_n 1, 1) := by decide +kernel
theorem dX5_digitAt_10 : decode cX5_digitAt 10 = .ok (.bipush 48, 2) := by decide +kernel
theorem dX5_digitAt_12 : decode cX5_digitAt 12 = .ok (.if_icmp .lt 16, 3) := by decide +kernel
theorem dX5_digitAt_15 : decode cX5_digitAt 15 = .ok (.iload_n 1, 1) := by decide +kernel
theorem dX5_digitAt_16 : decode cX5_digitAt 16 = .ok (.bipush 57, 2) := by decide +kernel
theorem dX5_digitAt_18 : decode cX5_digitAt 18 = .ok (.if_icmp .gt 10, 3) := by decide +kernel
theorem dX5_digitAt_21 : decode cX5_digitAt 21 = .ok (.iload_n 1, 1) := by decide +kernel
theorem dX5_digitAt_22 : decode cX5_digitAt 22 = .ok (.bipush 48, 2) := by decide +kernel
theorem dX5_digitAt_24 : decode cX5_digitAt 24 = .ok (.isub, 1) := by decide +kernel
theorem dX5_digitAt_25 : decode cX5_digitAt 25 = .ok (.goto 4, 3) := by decide +kernel
theorem dX5_digitAt_28 : decode cX5_digitAt 28 = .ok (.iconst (-1), 1) := by decide +kernel
theorem dX5_digitAt_29 : decode cX5_digitAt 29 = .ok (.ireturn, 1) := by decide +kernel
theorem dX6_init_0 : decode cX6_init 0 = .ok (.aload_n 0, 1) := by decide +kernel
theorem dX6_init_1 : decode cX6_init 1 = .ok (.invokespecial 3, 3) := by decide +kernel
theorem dX6_init_4 : decode cX6_init 4 = .ok (.aload_n 0, 1) := by decide +kernel
theorem dX6_init_5 : decode cX6_init 5 = .ok (.sipush 1000, 3) := by decide +kernel
theorem dX6_init_8 : decode cX6_init 8 = .ok (.putfield 9, 3) := by decide +kernel
theorem dX6_init_11 : decode cX6_init 11 = .ok (.aload_n 0, 1) := by decide +kernel
theorem dX6_init_12 : decode cX6_init 12 = .ok (.iconst 5, 1) := by decide +kernel
theorem dX6_init_13 : decode cX6_init 13 = .ok (.newarray .int, 2) := by decide +kernel
theorem dX6_init_15 : decode cX6_init 15 = .ok (.dup, 1) := by decide +kernel
theorem dX6_init_16 : decode cX6_init 16 = .ok (.iconst 0, 1) := by decide +kernel
theorem dX6_init_17 : decode cX6_init 17 = .ok (.bipush 12, 2) := by decide +kernel
theorem dX6_init_19 : decode cX6_init 19 = .ok (.iastore, 1) := by decide +kernel
theorem dX6_init_20 : decode cX6_init 20 = .ok (.dup, 1) := by decide +kernel
theorem dX6_init_21 : decode cX6_init 21 = .ok (.iconst 1, 1) := by decide +kernel
theorem dX6_init_22 : decode cX6_init 22 = .ok (.bipush 50, 2) := by decide +kernel
theorem dX6_init_24 : decode cX6_init 24 = .ok (.iastore, 1) := by decide +kernel
theorem dX6_init_25 : decode cX6_init 25 = .ok (.dup, 1) := by decide +kernel
theorem dX6_init_26 : decode cX6_init 26 = .ok (.iconst 2, 1) := by decide +kernel
theorem dX6_init_27 : decode cX6_init 27 = .ok (.bipush 10, 2) := by decide +kernel
theorem dX6_init_29 : decode cX6_init 29 = .ok (.iastore, 1) := by decide +kernel
theorem dX6_init_30 : decode cX6_init 30 = .ok (.dup, 1) := by decide +kernel
theorem dX6_init_31 : decode cX6_init 31 = .ok (.iconst 3, 1) := by decide +kernel
theorem dX6_init_32 : decode cX6_init 32 = .ok (.bipush 100, 2) := by decide +kernel
theorem dX6_init_34 : decode cX6_init 34 = .ok (.iastore, 1) := by decide +kernel
theorem dX6_init_35 : decode cX6_init 35 = .ok (.dup, 1) := by decide +kernel
theorem dX6_init_36 : decode cX6_init 36 = .ok (.iconst 4, 1) := by decide +kernel
theorem dX6_init_37 : decode cX6_init 37 = .ok (.iconst 5, 1) := by decide +kernel
theorem dX6_init_38 : decode cX6_init 38 = .ok (.iastore, 1) := by decide +kernel
theorem dX6_init_39 : decode cX6_init 39 = .ok (.putfield 15, 3) := by decide +kernel
theorem dX6_init_42 : decode cX6_init 42 = .ok (.aload_n 0, 1) := by decide +kernel
theorem dX6_init_43 : decode cX6_init 43 = .ok (.bipush 6, 2) := by decide +kernel
theorem dX6_init_45 : decode cX6_init 45 = .ok (.anewarray 19, 3) := by decide +kernel
theorem dX6_init_48 : decode cX6_init 48 = .ok (.putfield 21, 3) := by decide +kernel
theorem dX6_init_51 : decode cX6_init 51 = .ok (.iconst 0, 1) := by decide +kernel
theorem dX6_init_52 : decode cX6_init 52 = .ok (.istore_n 1, 1) := by decide +kernel
theorem dX6_init_53 : decode cX6_init 53 = .ok (.iload_n 1, 1) := by decide +kernel
theorem dX6_init_54 : decode cX6_init 54 = .ok (.bipush 6, 2) := by decide +kernel
theorem dX6_init_56 : decode cX6_init 56 = .ok (.if_icmp .ge 22, 3) := by decide +kernel
theorem dX6_init_59 : decode cX6_init 59 = .ok (.aload_n 0, 1) := by decide +kernel
theorem dX6_init_60 : decode cX6_init 60 = .ok (.getfield 21, 3) := by decide +kernel
theorem dX6_init_63 : decode cX6_init 63 = .ok (.iload_n 1, 1) := by decide +kernel
theorem dX6_init_64 : decode cX6_init 64 = .ok (.new 19, 3) := by decide +kernel
theorem dX6_init_67 : decode cX6_init 67 = .ok (.dup, 1) := by decide +kernel
theorem dX6_init_68 : decode cX6_init 68 = .ok (.invokespecial 25, 3) := by decide +kernel
theorem dX6_init_71 : decode cX6_init 71 = .ok (.aastore, 1) := by decide +kernel
theorem dX6_init_72 : decode cX6_init 72 = .ok (.iinc 1 1, 3) := by decide +kernel
theorem dX6_init_75 : decode cX6_init 75 = .ok (.goto (-22), 3) := by decide +kernel
theorem dX6_init_78 : decode cX6_init 78 = .ok (.aload_n 0, 1) := by decide +kernel
theorem dX6_init_79 : decode cX6_init 79 = .ok (.new 26, 3) := by decide +kernel
theorem dX6_init_82 : decode cX6_init 82 = .ok (.dup, 1) := by decide +kernel
theorem dX6_init_83 : decode cX6_init 83 = .ok (.invokespecial 28, 3) := by decide +kernel
theorem dX6_init_86 : decode cX6_init 86 = .ok (.putfield 29, 3) := by decide +kernel
theorem dX6_init_89 : decode cX6_init 89 = .ok (.aload_n 0, 1) := by decide +kernel
theorem dX6_init_90 : decode cX6_init 90 = .ok (.new 26, 3) := by decide +kernel
theorem dX6_init_93 : decode cX6_init 93 = .ok (.dup, 1) := by decide +kernel
theorem dX6_init_94 : decode cX6_init 94 = .ok (.invokespecial 28, 3) := by decide +kernel
theorem dX6_init_97 : decode cX6_init 97 = .ok (.putfield 33, 3) := by decide +kernel
theorem dX6_init_100 : decode cX6_init 100 = .ok (.aload_n 0, 1) := by decide +kernel
theorem dX6_init_101 : decode cX6_init 101 = .ok (.new 36, 3) := by decide +kernel
theorem dX6_init_104 : decode cX6_init 104 = .ok (.dup, 1) := by decide +kernel
theorem dX6_init_105 : decode cX6_init 105 = .ok (.invokespecial 38, 3) := by decide +kernel
theorem dX6_init_108 : decode cX6_init 108 = .ok (.putfield 39, 3) := by decide +kernel
theorem dX6_init_111 : decode cX6_init 111 = .ok (.return_, 1) := by decide +kernel
theorem dX6_become_0 : decode cX6_become 0 = .ok (.aload_n 0, 1) := by decide +kernel
theorem dX6_become_1 : decode cX6_become 1 = .ok (.aload_n 1, 1) := by decide +kernel
theorem dX6_become_2 : decode cX6_become 2 = .ok (.getfield 43, 3) := by decide +kernel
theorem dX6_become_5 : decode cX6_become 5 = .ok (.putfield 43, 3) := by decide +kernel
theorem dX6_become_8 : decode cX6_become 8 = .ok (.aload_n 0, 1) := by decide +kernel
theorem dX6_become_9 : decode cX6_become 9 = .ok (.aload_n 1, 1) := by decide +kernel
theorem dX6_become_10 : decode cX6_become 10 = .ok (.getfield 47, 3) := by decide +kernel
theorem dX6_become_13 : decode cX6_become 13 = .ok (.putfield 47, 3) := by decide +kernel
theorem dX6_become_16 : decode cX6_become 16 = .ok (.aload_n 0, 1) := by decide +kernel
theorem dX6_become_17 : decode cX6_become 17 = .ok (.aload_n 1, 1) := by decide +kernel
theorem dX6_become_18 : decode cX6_become 18 = .ok (.getfield 50, 3) := by decide +kernel
theorem dX6_become_21 : decode cX6_become 21 = .ok (.putfield 50, 3) := by decide +kernel
theorem dX6_become_24 : decode cX6_become 24 = .ok (.aload_n 0, 1) := by decide +kernel
theorem dX6_become_25 : decode cX6_become 25 = .ok (.aload_n 1, 1) := by decide +kernel
theorem dX6_become_26 : decode cX6_become 26 = .ok (.getfield 53, 3) := by decide +kernel
theorem dX6_become_29 : decode cX6_become 29 = .ok (.putfield 53, 3) := by decide +kernel
theorem dX6_become_32 : decode cX6_become 32 = .ok (.aload_n 0, 1) := by decide +kernel
theorem dX6_become_33 : decode cX6_become 33 = .ok (.aload_n 1, 1) := by decide +kernel
theorem dX6_become_34 : decode cX6_become 34 = .ok (.getfield 9, 3) := by decide +kernel
theorem dX6_become_37 : decode cX6_become 37 = .ok (.putfield 9, 3) := by decide +kernel
theorem dX6_become_40 : decode cX6_become 40 = .ok (.aload_n 0, 1) := by decide +kernel
theorem dX6_become_41 : decode cX6_become 41 = .ok (.aload_n 1, 1) := by decide +kernel
theorem dX6_become_42 : decode cX6_become 42 = .ok (.getfield 56, 3) := by decide +kernel
theorem dX6_become_45 : decode cX6_become 45 = .ok (.putfield 56, 3) := by decide +kernel
theorem dX6_become_48 : decode cX6_become 48 = .ok (.iconst 0, 1) := by decide +kernel
theorem dX6_become_49 : decode cX6_become 49 = .ok (.istore_n 2, 1) := by decide +kernel
theorem dX6_become_50 : decode cX6_become 50 = .ok (.iload_n 2, 1) := by decide +kernel
theorem dX6_become_51 : decode cX6_become 51 = .ok (.iconst 5, 1) := by decide +kernel
theorem dX6_become_52 : decode cX6_become 52 = .ok (.if_icmp .ge 21, 3) := by decide +kernel
theorem dX6_become_55 : decode cX6_become 55 = .ok (.aload_n 0, 1) := by decide +kernel
theorem dX6_become_56 : decode cX6_become 56 = .ok (.getfield 15, 3) := by decide +kernel
theorem dX6_become_59 : decode cX6_become 59 = .ok (.iload_n 2, 1) := by decide +kernel
theorem dX6_become_60 : decode cX6_become 60 = .ok (.aload_n 1, 1) := by decide +kernel
theorem dX6_become_61 : decode cX6_become 61 = .ok (.getfield 15, 3) := by decide +kernel
theorem dX6_become_64 : decode cX6_become 64 = .ok (.iload_n 2, 1) := by decide +kernel
theorem dX6_become_65 : decode cX6_become 65 = .ok (.iaload, 1) := by decide +kernel
theorem dX6_become_66 : decode cX6_become 66 = .ok (.iastore, 1) := by decide +kernel
theorem dX6_become_67 : decode cX6_become 67 = .ok (.iinc 2 1, 3) := by decide +kernel
theorem dX6_become_70 : decode cX6_become 70 = .ok (.goto (-20), 3) := by decide +kernel
theorem dX6_become_73 : decode cX6_become 73 = .ok (.iconst 0, 1) := by decide +kernel
theorem dX6_become_74 : decode cX6_become 74 = .ok (.istore_n 2, 1) := by decide +kernel
theorem dX6_become_75 : decode cX6_become 75 = .ok (.iload_n 2, 1) := by decide +kernel
theorem dX6_become_76 : decode cX6_become 76 = .ok (.bipush 6, 2) := by decide +kernel
theorem dX6_become_78 : decode cX6_become 78 = .ok (.if_icmp .ge 24, 3) := by decide +kernel
theorem dX6_become_81 : decode cX6_become 81 = .ok (.aload_n 0, 1) := by decide +kernel
theorem dX6_become_82 : decode cX6_become 82 = .ok (.getfield 21, 3) := by decide +kernel
theorem dX6_become_85 : decode cX6_become 85 = .ok (.iload_n 2, 1) := by decide +kernel
theorem dX6_become_86 : decode cX6_become 86 = .ok (.aaload, 1) := by decide +kernel
theorem dX6_become_87 : decode cX6_become 87 = .ok (.aload_n 1, 1) := by decide +kernel
theorem dX6_become_88 : decode cX6_become 88 = .ok (.getfield 21, 3) := by decide +kernel
theorem dX6_become_91 : decode cX6_become 91 = .ok (.iload_n 2, 1) := by decide +kernel
theorem dX6_become_92 : decode cX6_become 92 = .ok (.aaload, 1) := by decide +kernel
theorem dX6_become_93 : decode cX6_become 93 = .ok (.invokevirtual 59, 3) := by decide +kernel
theorem dX6_become_96 : decode cX6_become 96 = .ok (.iinc 2 1, 3) := by decide +kernel
theorem dX6_become_99 : decode cX6_become 99 = .ok (.goto (-24), 3) := by decide +kernel
theorem dX6_become_102 : decode cX6_become 102 = .ok (.aload_n 0, 1) := by decide +kernel
theorem dX6_become_103 : decode cX6_become 103 = .ok (.getfield 29, 3) := by decide +kernel
theorem dX6_become_106 : decode cX6_become 106 = .ok (.aload_n 1, 1) := by decide +kernel
theorem dX6_become_107 : decode cX6_become 107 = .ok (.getfield 29, 3) := by decide +kernel
theorem dX6_become_110 : decode cX6_become 110 = .ok (.invokevirtual 63, 3) := by decide +kernel
theorem dX6_become_113 : decode cX6_become 113 = .ok (.aload_n 0, 1) := by decide +kernel
theorem dX6_become_114 : decode cX6_become 114 = .ok (.getfield 33, 3) := by decide +kernel
theorem dX6_become_117 : decode cX6_become 117 = .ok (.aload_n 1, 1) := by decide +kernel
theorem dX6_become_118 : decode cX6_become 118 = .ok (.getfield 33, 3) := by decide +kernel
theorem dX6_become_121 : decode cX6_become 121 = .ok (.invokevirtual 63, 3) := by decide +kernel
theorem dX6_become_124 : decode cX6_become 124 = .ok (.aload_n 0, 1) := by decide +kernel
theorem dX6_become_125 : decode cX6_become 125 = .ok (.getfield 39, 3) := by decide +kernel
theorem dX6_become_128 : decode cX6_become 128 = .ok (.aload_n 1, 1) := by decide +kernel
theorem dX6_become_129 : decode cX6_become 129 = .ok (.getfield 39, 3) := by decide +kernel
theorem dX6_become_132 : decode cX6_become 132 = .ok (.invokevirtual 66, 3) := by decide +kernel
theorem dX6_become_135 : decode cX6_become 135 = .ok (.return_, 1) := by decide +kernel
theorem dX6_value_0 : decode cX6_value 0 = .ok (.aload_n 0, 1) := by decide +kernel
theorem dX6_value_1 : decode cX6_value 1 = .ok (.getfield 43, 3) := by decide +kernel
theorem dX6_value_4 : decode cX6_value 4 = .ok (.aload_n 0, 1) := by decide +kernel
theorem dX6_value_5 : decode cX6_value 5 = .ok (.getfield 53, 3) := by decide +kernel
theorem dX6_value_8 : decode cX6_value 8 = .ok (.i2l, 1) := by decide +kernel
theorem dX6_value_9 : decode cX6_value 9 = .ok (.aload_n 0, 1) := by decide +kernel
theorem dX6_value_10 : decode cX6_value 10 = .ok (.getfield 9, 3) := by decide +kernel
theorem dX6_value_13 : decode cX6_value 13 = .ok (.i2l, 1) := by decide +kernel
theorem dX6_value_14 : decode cX6_value 14 = .ok (.lmul, 1) := by decide +kernel
theorem dX6_value_15 : decode cX6_value 15 = .ok (.ladd, 1) := by decide +kernel
theorem dX6_value_16 : decode cX6_value 16 = .ok (.lreturn, 1) := by decide +kernel
theorem dX6_units_0 : decode cX6_units 0 = .ok (.lconst 0, 1) := by decide +kernel
theorem dX6_units_1 : decode cX6_units 1 = .ok (.lstore_n 1, 1) := by decide +kernel
theorem dX6_units_2 : decode cX6_units 2 = .ok (.iconst 0, 1) := by decide +kernel
theorem dX6_units_3 : decode cX6_units 3 = .ok (.istore_n 3, 1) := by decide +kernel
theorem dX6_units_4 : decode cX6_units 4 = .ok (.iload_n 3, 1) := by decide +kernel
theorem dX6_units_5 : decode cX6_units 5 = .ok (.bipush 6, 2) := by decide +kernel
theorem dX6_units_7 : decode cX6_units 7 = .ok (.if_icmp .ge 21, 3) := by decide +kernel
theorem dX6_units_10 : decode cX6_units 10 = .ok (.lload_n 1, 1) := by decide +kernel
theorem dX6_units_11 : decode cX6_units 11 = .ok (.aload_n 0, 1) := by decide +kernel
theorem dX6_units_12 : decode cX6_units 12 = .ok (.getfield 21, 3) := by decide +kernel
theorem dX6_units_15 : decode cX6_units 15 = .ok (.iload_n 3, 1) := by decide +kernel
theorem dX6_units_16 : decode cX6_units 16 = .ok (.aaload, 1) := by decide +kernel
theorem dX6_units_17 : decode cX6_units 17 = .ok (.invokevirtual 69, 3) := by decide +kernel
theorem dX6_units_20 : decode cX6_units 20 = .ok (.ladd, 1) := by decide +kernel
theorem dX6_units_21 : decode cX6_units 21 = .ok (.lstore_n 1, 1) := by decide +kernel
theorem dX6_units_22 : decode cX6_units 22 = .ok (.iinc 3 1, 3) := by decide +kernel
theorem dX6_units_25 : decode cX6_units 25 = .ok (.goto (-21), 3) := by decide +kernel
theorem dX6_units_28 : decode cX6_units 28 = .ok (.lload_n 1, 1) := by decide +kernel
theorem dX6_units_29 : decode cX6_units 29 = .ok (.lreturn, 1) := by decide +kernel
theorem dX6_newUnits_0 : decode cX6_newUnits 0 = .ok (.lconst 0, 1) := by decide +kernel
theorem dX6_newUnits_1 : decode cX6_newUnits 1 = .ok (.lstore_n 1, 1) := by decide +kernel
theorem dX6_newUnits_2 : decode cX6_newUnits 2 = .ok (.iconst 0, 1) := by decide +kernel
theorem dX6_newUnits_3 : decode cX6_newUnits 3 = .ok (.istore_n 3, 1) := by decide +kernel
theorem dX6_newUnits_4 : decode cX6_newUnits 4 = .ok (.iload_n 3, 1) := by decide +kernel
theorem dX6_newUnits_5 : decode cX6_newUnits 5 = .ok (.bipush 6, 2) := by decide +kernel
theorem dX6_newUnits_7 : decode cX6_newUnits 7 = .ok (.if_icmp .ge 21, 3) := by decide +kernel
theorem dX6_newUnits_10 : decode cX6_newUnits 10 = .ok (.lload_n 1, 1) := by decide +kernel
theorem dX6_newUnits_11 : decode cX6_newUnits 11 = .ok (.aload_n 0, 1) := by decide +kernel
theorem dX6_newUnits_12 : decode cX6_newUnits 12 = .ok (.getfield 21, 3) := by decide +kernel
theorem dX6_newUnits_15 : decode cX6_newUnits 15 = .ok (.iload_n 3, 1) := by decide +kernel
theorem dX6_newUnits_16 : decode cX6_newUnits 16 = .ok (.aaload, 1) := by decide +kernel
theorem dX6_newUnits_17 : decode cX6_newUnits 17 = .ok (.getfield 73, 3) := by decide +kernel
theorem dX6_newUnits_20 : decode cX6_newUnits 20 = .ok (.ladd, 1) := by decide +kernel
theorem dX6_newUnits_21 : decode cX6_newUnits 21 = .ok (.lstore_n 1, 1) := by decide +kernel
theorem dX6_newUnits_22 : decode cX6_newUnits 22 = .ok (.iinc 3 1, 3) := by decide +kernel
theorem dX6_newUnits_25 : decode cX6_newUnits 25 = .ok (.goto (-21), 3) := by decide +kernel
theorem dX6_newUnits_28 : decode cX6_newUnits 28 = .ok (.lload_n 1, 1) := by decide +kernel
theorem dX6_newUnits_29 : decode cX6_newUnits 29 = .ok (.lreturn, 1) := by decide +kernel
theorem dX6_middle_0 : decode cX6_middle 0 = .ok (.aload_n 0, 1) := by decide +kernel
theorem dX6_middle_1 : decode cX6_middle 1 = .ok (.invokevirtual 76, 3) := by decide +kernel
theorem dX6_middle_4 : decode cX6_middle 4 = .ok (.lstore_n 1, 1) := by decide +kernel
theorem dX6_middle_5 : decode cX6_middle 5 = .ok (.lload_n 1, 1) := by decide +kernel
theorem dX6_middle_6 : decode cX6_middle 6 = .ok (.lconst 0, 1) := by decide +kernel
theorem dX6_middle_7 : decode cX6_middle 7 = .ok (.lcmp, 1) := by decide +kernel
theorem dX6_middle_8 : decode cX6_middle 8 = .ok (.ifCond .le 16, 3) := by decide +kernel
theorem dX6_middle_11 : decode cX6_middle 11 = .ok (.ldc2_w 77, 3) := by decide +kernel
theorem dX6_middle_14 : decode cX6_middle 14 = .ok (.aload_n 0, 1) := by decide +kernel
theorem dX6_middle_15 : decode cX6_middle 15 = .ok (.invokevirtual 79, 3) := by decide +kernel
theorem dX6_middle_18 : decode cX6_middle 18 = .ok (.lmul, 1) := by decide +kernel
theorem dX6_middle_19 : decode cX6_middle 19 = .ok (.lload_n 1, 1) := by decide +kernel
theorem dX6_middle_20 : decode cX6_middle 20 = .ok (.ldiv, 1) := by decide +kernel
theorem dX6_middle_21 : decode cX6_middle 21 = .ok (.goto 6, 3) := by decide +kernel
theorem dX6_middle_24 : decode cX6_middle 24 = .ok (.ldc2_w 82, 3) := by decide +kernel
theorem dX6_middle_27 : decode cX6_middle 27 = .ok (.lreturn, 1) := by decide +kernel
theorem dX6_unitIncome_0 : decode cX6_unitIncome 0 = .ok (.aload_n 0, 1) := by decide +kernel
theorem dX6_unitIncome_1 : decode cX6_unitIncome 1 = .ok (.invokevirtual 76, 3) := by decide +kernel
theorem dX6_unitIncome_4 : decode cX6_unitIncome 4 = .ok (.lstore_n 1, 1) := by decide +kernel
theorem dX6_unitIncome_5 : decode cX6_unitIncome 5 = .ok (.lload_n 1, 1) := by decide +kernel
theorem dX6_unitIncome_6 : decode cX6_unitIncome 6 = .ok (.lconst 0, 1) := by decide +kernel
theorem dX6_unitIncome_7 : decode cX6_unitIncome 7 = .ok (.lcmp, 1) := by decide +kernel
theorem dX6_unitIncome_8 : decode cX6_unitIncome 8 = .ok (.ifCond .le 16, 3) := by decide +kernel
theorem dX6_unitIncome_11 : decode cX6_unitIncome 11 = .ok (.ldc2_w 77, 3) := by decide +kernel
theorem dX6_unitIncome_14 : decode cX6_unitIncome 14 = .ok (.aload_n 0, 1) := by decide +kernel
theorem dX6_unitIncome_15 : decode cX6_unitIncome 15 = .ok (.getfield 47, 3) := by decide +kernel
theorem dX6_unitIncome_18 : decode cX6_unitIncome 18 = .ok (.lmul, 1) := by decide +kernel
theorem dX6_unitIncome_19 : decode cX6_unitIncome 19 = .ok (.lload_n 1, 1) := by decide +kernel
theorem dX6_unitIncome_20 : decode cX6_unitIncome 20 = .ok (.ldiv, 1) := by decide +kernel
theorem dX6_unitIncome_21 : decode cX6_unitIncome 21 = .ok (.goto 4, 3) := by decide +kernel
theorem dX6_unitIncome_24 : decode cX6_unitIncome 24 = .ok (.lconst 0, 1) := by decide +kernel
theorem dX6_unitIncome_25 : decode cX6_unitIncome 25 = .ok (.lreturn, 1) := by decide +kernel
theorem dX6_fee_0 : decode cX6_fee 0 = .ok (.aload_n 0, 1) := by decide +kernel
theorem dX6_fee_1 : decode cX6_fee 1 = .ok (.getfield 9, 3) := by decide +kernel
theorem dX6_fee_4 : decode cX6_fee 4 = .ok (.i2l, 1) := by decide +kernel
theorem dX6_fee_5 : decode cX6_fee 5 = .ok (.aload_n 0, 1) := by decide +kernel
theorem dX6_fee_6 : decode cX6_fee 6 = .ok (.getfield 15, 3) := by decide +kernel
theorem dX6_fee_9 : decode cX6_fee 9 = .ok (.iconst 4, 1) := by decide +kernel
theorem dX6_fee_10 : decode cX6_fee 10 = .ok (.iaload, 1) := by decide +kernel
theorem dX6_fee_11 : decode cX6_fee 11 = .ok (.i2l, 1) := by decide +kernel
theorem dX6_fee_12 : decode cX6_fee 12 = .ok (.lmul, 1) := by decide +kernel
theorem dX6_fee_13 : decode cX6_fee 13 = .ok (.ldc2_w 84, 3) := by decide +kernel
theorem dX6_fee_16 : decode cX6_fee 16 = .ok (.ladd, 1) := by decide +kernel
theorem dX6_fee_17 : decode cX6_fee 17 = .ok (.ldc2_w 77, 3) := by decide +kernel
theorem dX6_fee_20 : decode cX6_fee 20 = .ok (.ldiv, 1) := by decide +kernel
theorem dX6_fee_21 : decode cX6_fee 21 = .ok (.lreturn, 1) := by decide +kernel
theorem dX6_changeSetting_0 : decode cX6_changeSetting 0 = .ok (.iload_n 1, 1) := by decide +kernel
theorem dX6_changeSetting_1 : decode cX6_changeSetting 1 = .ok (.ifCond .lt 21, 3) := by decide +kernel
theorem dX6_changeSetting_4 : decode cX6_changeSetting 4 = .ok (.iload_n 1, 1) := by decide +kernel
theorem dX6_changeSetting_5 : decode cX6_changeSetting 5 = .ok (.iconst 5, 1) := by decide +kernel
theorem dX6_changeSetting_6 : decode cX6_changeSetting 6 = .ok (.if_icmp .ge 16, 3) := by decide +kernel
theorem dX6_changeSetting_9 : decode cX6_changeSetting 9 = .ok (.iload_n 2, 1) := by decide +kernel
theorem dX6_changeSetting_10 : decode cX6_changeSetting 10 = .ok (.ifCond .lt 12, 3) := by decide +kernel
theorem dX6_changeSetting_13 : decode cX6_changeSetting 13 = .ok (.iload_n 2, 1) := by decide +kernel
theorem dX6_changeSetting_14 : decode cX6_changeSetting 14 = .ok (.getstatic 86, 3) := by decide +kernel
theorem dX6_changeSetting_17 : decode cX6_changeSetting 17 = .ok (.iload_n 1, 1) := by decide +kernel
theorem dX6_changeSetting_18 : decode cX6_changeSetting 18 = .ok (.iaload, 1) := by decide +kernel
theorem dX6_changeSetting_19 : decode cX6_changeSetting 19 = .ok (.if_icmp .le 6, 3) := by decide +kernel
theorem dX6_changeSetting_22 : decode cX6_changeSetting 22 = .ok (.bipush (-2), 2) := by decide +kernel
theorem dX6_changeSetting_24 : decode cX6_changeSetting 24 = .ok (.ireturn, 1) := by decide +kernel
theorem dX6_changeSetting_25 : decode cX6_changeSetting 25 = .ok (.aload_n 0, 1) := by decide +kernel
theorem dX6_changeSetting_26 : decode cX6_changeSetting 26 = .ok (.getfield 15, 3) := by decide +kernel
theorem dX6_changeSetting_29 : decode cX6_changeSetting 29 = .ok (.iload_n 1, 1) := by decide +kernel
theorem dX6_changeSetting_30 : decode cX6_changeSetting 30 = .ok (.iaload, 1) := by decide +kernel
theorem dX6_changeSetting_31 : decode cX6_changeSetting 31 = .ok (.istore_n 3, 1) := by decide +kernel
theorem dX6_changeSetting_32 : decode cX6_changeSetting 32 = .ok (.aload_n 0, 1) := by decide +kernel
theorem dX6_changeSetting_33 : decode cX6_changeSetting 33 = .ok (.getfield 15, 3) := by decide +kernel
theorem dX6_changeSetting_36 : decode cX6_changeSetting 36 = .ok (.iload_n 1, 1) := by decide +kernel
theorem dX6_changeSetting_37 : decode cX6_changeSetting 37 = .ok (.iload_n 2, 1) := by decide +kernel
theorem dX6_changeSetting_38 : decode cX6_changeSetting 38 = .ok (.iastore, 1) := by decide +kernel
theorem dX6_changeSetting_39 : decode cX6_changeSetting 39 = .ok (.iload_n 3, 1) := by decide +kernel
theorem dX6_changeSetting_40 : decode cX6_changeSetting 40 = .ok (.ireturn, 1) := by decide +kernel
theorem dX6_orderToBuy_0 : decode cX6_orderToBuy 0 = .ok (.iload_n 1, 1) := by decide +kernel
theorem dX6_orderToBuy_1 : decode cX6_orderToBuy 1 = .ok (.invokestatic 89, 3) := by decide +kernel
theorem dX6_orderToBuy_4 : decode cX6_orderToBuy 4 = .ok (.ifCond .ne 5, 3) := by decide +kernel
theorem dX6_orderToBuy_7 : decode cX6_orderToBuy 7 = .ok (.iconst (-1), 1) := by decide +kernel
theorem dX6_orderToBuy_8 : decode cX6_orderToBuy 8 = .ok (.ireturn, 1) := by decide +kernel
theorem dX6_orderToBuy_9 : decode cX6_orderToBuy 9 = .ok (.iload_n 2, 1) := by decide +kernel
theorem dX6_orderToBuy_10 : decode cX6_orderToBuy 10 = .ok (.iconst 1, 1) := by decide +kernel
theorem dX6_orderToBuy_11 : decode cX6_orderToBuy 11 = .ok (.if_icmp .lt 16, 3) := by decide +kernel
theorem dX6_orderToBuy_14 : decode cX6_orderToBuy 14 = .ok (.iload_n 2, 1) := by decide +kernel
theorem dX6_orderToBuy_15 : decode cX6_orderToBuy 15 = .ok (.ldc 93, 2) := by decide +kernel
theorem dX6_orderToBuy_17 : decode cX6_orderToBuy 17 = .ok (.if_icmp .gt 10, 3) := by decide +kernel
theorem dX6_orderToBuy_20 : decode cX6_orderToBuy 20 = .ok (.iload_n 3, 1) := by decide +kernel
theorem dX6_orderToBuy_21 : decode cX6_orderToBuy 21 = .ok (.invokestatic 94, 3) := by decide +kernel
theorem dX6_orderToBuy_24 : decode cX6_orderToBuy 24 = .ok (.ifCond .ne 6, 3) := by decide +kernel
theorem dX6_orderToBuy_27 : decode cX6_orderToBuy 27 = .ok (.bipush (-2), 2) := by decide +kernel
theorem dX6_orderToBuy_29 : decode cX6_orderToBuy 29 = .ok (.ireturn, 1) := by decide +kernel
theorem dX6_orderToBuy_30 : decode cX6_orderToBuy 30 = .ok (.aload_n 0, 1) := by decide +kernel
theorem dX6_orderToBuy_31 : decode cX6_orderToBuy 31 = .ok (.getfield 29, 3) := by decide +kernel
theorem dX6_orderToBuy_34 : decode cX6_orderToBuy 34 = .ok (.invokevirtual 97, 3) := by decide +kernel
theorem dX6_orderToBuy_37 : decode cX6_orderToBuy 37 = .ok (.ifCond .eq 6, 3) := by decide +kernel
theorem dX6_orderToBuy_40 : decode cX6_orderToBuy 40 = .ok (.bipush (-4), 2) := by decide +kernel
theorem dX6_orderToBuy_42 : decode cX6_orderToBuy 42 = .ok (.ireturn, 1) := by decide +kernel
theorem dX6_orderToBuy_43 : decode cX6_orderToBuy 43 = .ok (.aload_n 0, 1) := by decide +kernel
theorem dX6_orderToBuy_44 : decode cX6_orderToBuy 44 = .ok (.getfield 29, 3) := by decide +kernel
theorem dX6_orderToBuy_47 : decode cX6_orderToBuy 47 = .ok (.iload_n 1, 1) := by decide +kernel
theorem dX6_orderToBuy_48 : decode cX6_orderToBuy 48 = .ok (.iload_n 2, 1) := by decide +kernel
theorem dX6_orderToBuy_49 : decode cX6_orderToBuy 49 = .ok (.aload_n 0, 1) := by decide +kernel
theorem dX6_orderToBuy_50 : decode cX6_orderToBuy 50 = .ok (.iload_n 3, 1) := by decide +kernel
theorem dX6_orderToBuy_51 : decode cX6_orderToBuy 51 = .ok (.invokevirtual 101, 3) := by decide +kernel
theorem dX6_orderToBuy_54 : decode cX6_orderToBuy 54 = .ok (.invokevirtual 105, 3) := by decide +kernel
theorem dX6_orderToBuy_57 : decode cX6_orderToBuy 57 = .ok (.aload_n 0, 1) := by decide +kernel
theorem dX6_orderToBuy_58 : decode cX6_orderToBuy 58 = .ok (.iload_n 3, 1) := by decide +kernel
theorem dX6_orderToBuy_59 : decode cX6_orderToBuy 59 = .ok (.invokevirtual 101, 3) := by decide +kernel
theorem dX6_orderToBuy_62 : decode cX6_orderToBuy 62 = .ok (.ireturn, 1) := by decide +kernel
theorem dX6_orderToLeave_0 : decode cX6_orderToLeave 0 = .ok (.iload_n 1, 1) := by decide +kernel
theorem dX6_orderToLeave_1 : decode cX6_orderToLeave 1 = .ok (.invokestatic 89, 3) := by decide +kernel
theorem dX6_orderToLeave_4 : decode cX6_orderToLeave 4 = .ok (.ifCond .ne 5, 3) := by decide +kernel
theorem dX6_orderToLeave_7 : decode cX6_orderToLeave 7 = .ok (.iconst (-1), 1) := by decide +kernel
theorem dX6_orderToLeave_8 : decode cX6_orderToLeave 8 = .ok (.ireturn, 1) := by decide +kernel
theorem dX6_orderToLeave_9 : decode cX6_orderToLeave 9 = .ok (.iload_n 2, 1) := by decide +kernel
theorem dX6_orderToLeave_10 : decode cX6_orderToLeave 10 = .ok (.iconst 1, 1) := by decide +kernel
theorem dX6_orderToLeave_11 : decode cX6_orderToLeave 11 = .ok (.if_icmp .lt 10, 3) := by decide +kernel
theorem dX6_orderToLeave_14 : decode cX6_orderToLeave 14 = .ok (.iload_n 3, 1) := by decide +kernel
theorem dX6_orderToLeave_15 : decode cX6_orderToLeave 15 = .ok (.invokestatic 94, 3) := by decide +kernel
theorem dX6_orderToLeave_18 : decode cX6_orderToLeave 18 = .ok (.ifCond .ne 6, 3) := by decide +kernel
theorem dX6_orderToLeave_21 : decode cX6_orderToLeave 21 = .ok (.bipush (-2), 2) := by decide +kernel
theorem dX6_orderToLeave_23 : decode cX6_orderToLeave 23 = .ok (.ireturn, 1) := by decide +kernel
theorem dX6_orderToLeave_24 : decode cX6_orderToLeave 24 = .ok (.aload_n 0, 1) := by decide +kernel
theorem dX6_orderToLeave_25 : decode cX6_orderToLeave 25 = .ok (.getfield 33, 3) := by decide +kernel
theorem dX6_orderToLeave_28 : decode cX6_orderToLeave 28 = .ok (.invokevirtual 97, 3) := by decide +kernel
theorem dX6_orderToLeave_31 : decode cX6_orderToLeave 31 = .ok (.ifCond .eq 6, 3) := by decide +kernel
theorem dX6_orderToLeave_34 : decode cX6_orderToLeave 34 = .ok (.bipush (-4), 2) := by decide +kernel
theorem dX6_orderToLeave_36 : decode cX6_orderToLeave 36 = .ok (.ireturn, 1) := by decide +kernel
theorem dX6_orderToLeave_37 : decode cX6_orderToLeave 37 = .ok (.iload_n 2, 1) := by decide +kernel
theorem dX6_orderToLeave_38 : decode cX6_orderToLeave 38 = .ok (.i2l, 1) := by decide +kernel
theorem dX6_orderToLeave_39 : decode cX6_orderToLeave 39 = .ok (.aload_n 0, 1) := by decide +kernel
theorem dX6_orderToLeave_40 : decode cX6_orderToLeave 40 = .ok (.iload_n 1, 1) := by decide +kernel
theorem dX6_orderToLeave_41 : decode cX6_orderToLeave 41 = .ok (.invokevirtual 109, 3) := by decide +kernel
theorem dX6_orderToLeave_44 : decode cX6_orderToLeave 44 = .ok (.lcmp, 1) := by decide +kernel
theorem dX6_orderToLeave_45 : decode cX6_orderToLeave 45 = .ok (.ifCond .le 6, 3) := by decide +kernel
theorem dX6_orderToLeave_48 : decode cX6_orderToLeave 48 = .ok (.bipush (-5), 2) := by decide +kernel
theorem dX6_orderToLeave_50 : decode cX6_orderToLeave 50 = .ok (.ireturn, 1) := by decide +kernel
theorem dX6_orderToLeave_51 : decode cX6_orderToLeave 51 = .ok (.aload_n 0, 1) := by decide +kernel
theorem dX6_orderToLeave_52 : decode cX6_orderToLeave 52 = .ok (.getfield 33, 3) := by decide +kernel
theorem dX6_orderToLeave_55 : decode cX6_orderToLeave 55 = .ok (.iload_n 1, 1) := by decide +kernel
theorem dX6_orderToLeave_56 : decode cX6_orderToLeave 56 = .ok (.iload_n 2, 1) := by decide +kernel
theorem dX6_orderToLeave_57 : decode cX6_orderToLeave 57 = .ok (.aload_n 0, 1) := by decide +kernel
theorem dX6_orderToLeave_58 : decode cX6_orderToLeave 58 = .ok (.iload_n 3, 1) := by decide +kernel
theorem dX6_orderToLeave_59 : decode cX6_orderToLeave 59 = .ok (.invokevirtual 101, 3) := by decide +kernel
theorem dX6_orderToLeave_62 : decode cX6_orderToLeave 62 = .ok (.invokevirtual 105, 3) := by decide +kernel
theorem dX6_orderToLeave_65 : decode cX6_orderToLeave 65 = .ok (.aload_n 0, 1) := by decide +kernel
