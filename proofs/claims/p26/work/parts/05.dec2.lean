theorem dX6_orderToLeave_66 : decode cX6_orderToLeave 66 = .ok (.iload_n 3, 1) := by decide +kernel
theorem dX6_orderToLeave_67 : decode cX6_orderToLeave 67 = .ok (.invokevirtual 101, 3) := by decide +kernel
theorem dX6_orderToLeave_70 : decode cX6_orderToLeave 70 = .ok (.ireturn, 1) := by decide +kernel
theorem dX6_exitInKind_0 : decode cX6_exitInKind 0 = .ok (.iload_n 1, 1) := by decide +kernel
theorem dX6_exitInKind_1 : decode cX6_exitInKind 1 = .ok (.invokestatic 89, 3) := by decide +kernel
theorem dX6_exitInKind_4 : decode cX6_exitInKind 4 = .ok (.ifCond .ne 5, 3) := by decide +kernel
theorem dX6_exitInKind_7 : decode cX6_exitInKind 7 = .ok (.iconst (-1), 1) := by decide +kernel
theorem dX6_exitInKind_8 : decode cX6_exitInKind 8 = .ok (.ireturn, 1) := by decide +kernel
theorem dX6_exitInKind_9 : decode cX6_exitInKind 9 = .ok (.iload_n 2, 1) := by decide +kernel
theorem dX6_exitInKind_10 : decode cX6_exitInKind 10 = .ok (.iconst 1, 1) := by decide +kernel
theorem dX6_exitInKind_11 : decode cX6_exitInKind 11 = .ok (.if_icmp .ge 6, 3) := by decide +kernel
theorem dX6_exitInKind_14 : decode cX6_exitInKind 14 = .ok (.bipush (-2), 2) := by decide +kernel
theorem dX6_exitInKind_16 : decode cX6_exitInKind 16 = .ok (.ireturn, 1) := by decide +kernel
theorem dX6_exitInKind_17 : decode cX6_exitInKind 17 = .ok (.aload_n 0, 1) := by decide +kernel
theorem dX6_exitInKind_18 : decode cX6_exitInKind 18 = .ok (.invokevirtual 76, 3) := by decide +kernel
theorem dX6_exitInKind_21 : decode cX6_exitInKind 21 = .ok (.lstore_n 3, 1) := by decide +kernel
theorem dX6_exitInKind_22 : decode cX6_exitInKind 22 = .ok (.iload_n 2, 1) := by decide +kernel
theorem dX6_exitInKind_23 : decode cX6_exitInKind 23 = .ok (.i2l, 1) := by decide +kernel
theorem dX6_exitInKind_24 : decode cX6_exitInKind 24 = .ok (.aload_n 0, 1) := by decide +kernel
theorem dX6_exitInKind_25 : decode cX6_exitInKind 25 = .ok (.iload_n 1, 1) := by decide +kernel
theorem dX6_exitInKind_26 : decode cX6_exitInKind 26 = .ok (.invokevirtual 109, 3) := by decide +kernel
theorem dX6_exitInKind_29 : decode cX6_exitInKind 29 = .ok (.lcmp, 1) := by decide +kernel
theorem dX6_exitInKind_30 : decode cX6_exitInKind 30 = .ok (.ifCond .gt 9, 3) := by decide +kernel
theorem dX6_exitInKind_33 : decode cX6_exitInKind 33 = .ok (.lload_n 3, 1) := by decide +kernel
theorem dX6_exitInKind_34 : decode cX6_exitInKind 34 = .ok (.lconst 0, 1) := by decide +kernel
theorem dX6_exitInKind_35 : decode cX6_exitInKind 35 = .ok (.lcmp, 1) := by decide +kernel
theorem dX6_exitInKind_36 : decode cX6_exitInKind 36 = .ok (.ifCond .gt 6, 3) := by decide +kernel
theorem dX6_exitInKind_39 : decode cX6_exitInKind 39 = .ok (.bipush (-5), 2) := by decide +kernel
theorem dX6_exitInKind_41 : decode cX6_exitInKind 41 = .ok (.ireturn, 1) := by decide +kernel
theorem dX6_exitInKind_42 : decode cX6_exitInKind 42 = .ok (.iload_n 2, 1) := by decide +kernel
theorem dX6_exitInKind_43 : decode cX6_exitInKind 43 = .ok (.i2l, 1) := by decide +kernel
theorem dX6_exitInKind_44 : decode cX6_exitInKind 44 = .ok (.aload_n 0, 1) := by decide +kernel
theorem dX6_exitInKind_45 : decode cX6_exitInKind 45 = .ok (.getfield 53, 3) := by decide +kernel
theorem dX6_exitInKind_48 : decode cX6_exitInKind 48 = .ok (.i2l, 1) := by decide +kernel
theorem dX6_exitInKind_49 : decode cX6_exitInKind 49 = .ok (.lmul, 1) := by decide +kernel
theorem dX6_exitInKind_50 : decode cX6_exitInKind 50 = .ok (.lload_n 3, 1) := by decide +kernel
theorem dX6_exitInKind_51 : decode cX6_exitInKind 51 = .ok (.ldiv, 1) := by decide +kernel
theorem dX6_exitInKind_52 : decode cX6_exitInKind 52 = .ok (.l2i, 1) := by decide +kernel
theorem dX6_exitInKind_53 : decode cX6_exitInKind 53 = .ok (.istore 5, 2) := by decide +kernel
theorem dX6_exitInKind_55 : decode cX6_exitInKind 55 = .ok (.iload_n 2, 1) := by decide +kernel
theorem dX6_exitInKind_56 : decode cX6_exitInKind 56 = .ok (.i2l, 1) := by decide +kernel
theorem dX6_exitInKind_57 : decode cX6_exitInKind 57 = .ok (.aload_n 0, 1) := by decide +kernel
theorem dX6_exitInKind_58 : decode cX6_exitInKind 58 = .ok (.getfield 43, 3) := by decide +kernel
theorem dX6_exitInKind_61 : decode cX6_exitInKind 61 = .ok (.lmul, 1) := by decide +kernel
theorem dX6_exitInKind_62 : decode cX6_exitInKind 62 = .ok (.lload_n 3, 1) := by decide +kernel
theorem dX6_exitInKind_63 : decode cX6_exitInKind 63 = .ok (.ldiv, 1) := by decide +kernel
theorem dX6_exitInKind_64 : decode cX6_exitInKind 64 = .ok (.lstore 6, 2) := by decide +kernel
theorem dX6_exitInKind_66 : decode cX6_exitInKind 66 = .ok (.aload_n 0, 1) := by decide +kernel
theorem dX6_exitInKind_67 : decode cX6_exitInKind 67 = .ok (.dup, 1) := by decide +kernel
theorem dX6_exitInKind_68 : decode cX6_exitInKind 68 = .ok (.getfield 53, 3) := by decide +kernel
theorem dX6_exitInKind_71 : decode cX6_exitInKind 71 = .ok (.iload 5, 2) := by decide +kernel
theorem dX6_exitInKind_73 : decode cX6_exitInKind 73 = .ok (.isub, 1) := by decide +kernel
theorem dX6_exitInKind_74 : decode cX6_exitInKind 74 = .ok (.putfield 53, 3) := by decide +kernel
theorem dX6_exitInKind_77 : decode cX6_exitInKind 77 = .ok (.aload_n 0, 1) := by decide +kernel
theorem dX6_exitInKind_78 : decode cX6_exitInKind 78 = .ok (.getfield 21, 3) := by decide +kernel
theorem dX6_exitInKind_81 : decode cX6_exitInKind 81 = .ok (.iload_n 1, 1) := by decide +kernel
theorem dX6_exitInKind_82 : decode cX6_exitInKind 82 = .ok (.aaload, 1) := by decide +kernel
theorem dX6_exitInKind_83 : decode cX6_exitInKind 83 = .ok (.dup, 1) := by decide +kernel
theorem dX6_exitInKind_84 : decode cX6_exitInKind 84 = .ok (.getfield 113, 3) := by decide +kernel
theorem dX6_exitInKind_87 : decode cX6_exitInKind 87 = .ok (.iload 5, 2) := by decide +kernel
theorem dX6_exitInKind_89 : decode cX6_exitInKind 89 = .ok (.i2l, 1) := by decide +kernel
theorem dX6_exitInKind_90 : decode cX6_exitInKind 90 = .ok (.ladd, 1) := by decide +kernel
theorem dX6_exitInKind_91 : decode cX6_exitInKind 91 = .ok (.putfield 113, 3) := by decide +kernel
theorem dX6_exitInKind_94 : decode cX6_exitInKind 94 = .ok (.aload_n 0, 1) := by decide +kernel
theorem dX6_exitInKind_95 : decode cX6_exitInKind 95 = .ok (.aload_n 0, 1) := by decide +kernel
theorem dX6_exitInKind_96 : decode cX6_exitInKind 96 = .ok (.getfield 21, 3) := by decide +kernel
theorem dX6_exitInKind_99 : decode cX6_exitInKind 99 = .ok (.iload_n 1, 1) := by decide +kernel
theorem dX6_exitInKind_100 : decode cX6_exitInKind 100 = .ok (.aaload, 1) := by decide +kernel
theorem dX6_exitInKind_101 : decode cX6_exitInKind 101 = .ok (.iload_n 2, 1) := by decide +kernel
theorem dX6_exitInKind_102 : decode cX6_exitInKind 102 = .ok (.i2l, 1) := by decide +kernel
theorem dX6_exitInKind_103 : decode cX6_exitInKind 103 = .ok (.lload 6, 2) := by decide +kernel
theorem dX6_exitInKind_105 : decode cX6_exitInKind 105 = .ok (.aload_n 0, 1) := by decide +kernel
theorem dX6_exitInKind_106 : decode cX6_exitInKind 106 = .ok (.invokevirtual 115, 3) := by decide +kernel
theorem dX6_exitInKind_109 : decode cX6_exitInKind 109 = .ok (.invokevirtual 118, 3) := by decide +kernel
theorem dX6_exitInKind_112 : decode cX6_exitInKind 112 = .ok (.iload 5, 2) := by decide +kernel
theorem dX6_exitInKind_114 : decode cX6_exitInKind 114 = .ok (.ireturn, 1) := by decide +kernel
theorem dX6_changeQuote_0 : decode cX6_changeQuote 0 = .ok (.iload_n 1, 1) := by decide +kernel
theorem dX6_changeQuote_1 : decode cX6_changeQuote 1 = .ok (.iconst 1, 1) := by decide +kernel
theorem dX6_changeQuote_2 : decode cX6_changeQuote 2 = .ok (.if_icmp .lt 10, 3) := by decide +kernel
theorem dX6_changeQuote_5 : decode cX6_changeQuote 5 = .ok (.iload_n 1, 1) := by decide +kernel
theorem dX6_changeQuote_6 : decode cX6_changeQuote 6 = .ok (.sipush 10000, 3) := by decide +kernel
theorem dX6_changeQuote_9 : decode cX6_changeQuote 9 = .ok (.if_icmp .le 6, 3) := by decide +kernel
theorem dX6_changeQuote_12 : decode cX6_changeQuote 12 = .ok (.bipush (-2), 2) := by decide +kernel
theorem dX6_changeQuote_14 : decode cX6_changeQuote 14 = .ok (.ireturn, 1) := by decide +kernel
theorem dX6_changeQuote_15 : decode cX6_changeQuote 15 = .ok (.aload_n 0, 1) := by decide +kernel
theorem dX6_changeQuote_16 : decode cX6_changeQuote 16 = .ok (.getfield 9, 3) := by decide +kernel
theorem dX6_changeQuote_19 : decode cX6_changeQuote 19 = .ok (.istore_n 2, 1) := by decide +kernel
theorem dX6_changeQuote_20 : decode cX6_changeQuote 20 = .ok (.aload_n 0, 1) := by decide +kernel
theorem dX6_changeQuote_21 : decode cX6_changeQuote 21 = .ok (.iload_n 1, 1) := by decide +kernel
theorem dX6_changeQuote_22 : decode cX6_changeQuote 22 = .ok (.putfield 9, 3) := by decide +kernel
theorem dX6_changeQuote_25 : decode cX6_changeQuote 25 = .ok (.iload_n 2, 1) := by decide +kernel
theorem dX6_changeQuote_26 : decode cX6_changeQuote 26 = .ok (.ireturn, 1) := by decide +kernel
theorem dX6_tradeLots_0 : decode cX6_tradeLots 0 = .ok (.iload_n 1, 1) := by decide +kernel
theorem dX6_tradeLots_1 : decode cX6_tradeLots 1 = .ok (.ifCond .eq 17, 3) := by decide +kernel
theorem dX6_tradeLots_4 : decode cX6_tradeLots 4 = .ok (.iload_n 1, 1) := by decide +kernel
theorem dX6_tradeLots_5 : decode cX6_tradeLots 5 = .ok (.sipush (-1000), 3) := by decide +kernel
theorem dX6_tradeLots_8 : decode cX6_tradeLots 8 = .ok (.if_icmp .lt 10, 3) := by decide +kernel
theorem dX6_tradeLots_11 : decode cX6_tradeLots 11 = .ok (.iload_n 1, 1) := by decide +kernel
theorem dX6_tradeLots_12 : decode cX6_tradeLots 12 = .ok (.sipush 1000, 3) := by decide +kernel
theorem dX6_tradeLots_15 : decode cX6_tradeLots 15 = .ok (.if_icmp .le 6, 3) := by decide +kernel
theorem dX6_tradeLots_18 : decode cX6_tradeLots 18 = .ok (.bipush (-2), 2) := by decide +kernel
theorem dX6_tradeLots_20 : decode cX6_tradeLots 20 = .ok (.ireturn, 1) := by decide +kernel
theorem dX6_tradeLots_21 : decode cX6_tradeLots 21 = .ok (.aload_n 0, 1) := by decide +kernel
theorem dX6_tradeLots_22 : decode cX6_tradeLots 22 = .ok (.getfield 53, 3) := by decide +kernel
theorem dX6_tradeLots_25 : decode cX6_tradeLots 25 = .ok (.iload_n 1, 1) := by decide +kernel
theorem dX6_tradeLots_26 : decode cX6_tradeLots 26 = .ok (.iadd, 1) := by decide +kernel
theorem dX6_tradeLots_27 : decode cX6_tradeLots 27 = .ok (.sipush 1000, 3) := by decide +kernel
theorem dX6_tradeLots_30 : decode cX6_tradeLots 30 = .ok (.if_icmp .le 6, 3) := by decide +kernel
theorem dX6_tradeLots_33 : decode cX6_tradeLots 33 = .ok (.bipush (-4), 2) := by decide +kernel
theorem dX6_tradeLots_35 : decode cX6_tradeLots 35 = .ok (.ireturn, 1) := by decide +kernel
theorem dX6_tradeLots_36 : decode cX6_tradeLots 36 = .ok (.iload_n 1, 1) := by decide +kernel
theorem dX6_tradeLots_37 : decode cX6_tradeLots 37 = .ok (.ifCond .le 19, 3) := by decide +kernel
theorem dX6_tradeLots_40 : decode cX6_tradeLots 40 = .ok (.iload_n 1, 1) := by decide +kernel
theorem dX6_tradeLots_41 : decode cX6_tradeLots 41 = .ok (.i2l, 1) := by decide +kernel
theorem dX6_tradeLots_42 : decode cX6_tradeLots 42 = .ok (.aload_n 0, 1) := by decide +kernel
theorem dX6_tradeLots_43 : decode cX6_tradeLots 43 = .ok (.getfield 9, 3) := by decide +kernel
theorem dX6_tradeLots_46 : decode cX6_tradeLots 46 = .ok (.i2l, 1) := by decide +kernel
theorem dX6_tradeLots_47 : decode cX6_tradeLots 47 = .ok (.aload_n 0, 1) := by decide +kernel
theorem dX6_tradeLots_48 : decode cX6_tradeLots 48 = .ok (.invokevirtual 122, 3) := by decide +kernel
theorem dX6_tradeLots_51 : decode cX6_tradeLots 51 = .ok (.ladd, 1) := by decide +kernel
theorem dX6_tradeLots_52 : decode cX6_tradeLots 52 = .ok (.lmul, 1) := by decide +kernel
theorem dX6_tradeLots_53 : decode cX6_tradeLots 53 = .ok (.goto 16, 3) := by decide +kernel
theorem dX6_tradeLots_56 : decode cX6_tradeLots 56 = .ok (.iload_n 1, 1) := by decide +kernel
theorem dX6_tradeLots_57 : decode cX6_tradeLots 57 = .ok (.i2l, 1) := by decide +kernel
theorem dX6_tradeLots_58 : decode cX6_tradeLots 58 = .ok (.aload_n 0, 1) := by decide +kernel
theorem dX6_tradeLots_59 : decode cX6_tradeLots 59 = .ok (.getfield 9, 3) := by decide +kernel
theorem dX6_tradeLots_62 : decode cX6_tradeLots 62 = .ok (.i2l, 1) := by decide +kernel
theorem dX6_tradeLots_63 : decode cX6_tradeLots 63 = .ok (.aload_n 0, 1) := by decide +kernel
theorem dX6_tradeLots_64 : decode cX6_tradeLots 64 = .ok (.invokevirtual 122, 3) := by decide +kernel
theorem dX6_tradeLots_67 : decode cX6_tradeLots 67 = .ok (.lsub, 1) := by decide +kernel
theorem dX6_tradeLots_68 : decode cX6_tradeLots 68 = .ok (.lmul, 1) := by decide +kernel
theorem dX6_tradeLots_69 : decode cX6_tradeLots 69 = .ok (.lstore_n 2, 1) := by decide +kernel
theorem dX6_tradeLots_70 : decode cX6_tradeLots 70 = .ok (.aload_n 0, 1) := by decide +kernel
theorem dX6_tradeLots_71 : decode cX6_tradeLots 71 = .ok (.getfield 53, 3) := by decide +kernel
theorem dX6_tradeLots_74 : decode cX6_tradeLots 74 = .ok (.iload_n 1, 1) := by decide +kernel
theorem dX6_tradeLots_75 : decode cX6_tradeLots 75 = .ok (.iadd, 1) := by decide +kernel
theorem dX6_tradeLots_76 : decode cX6_tradeLots 76 = .ok (.ifCond .lt 21, 3) := by decide +kernel
theorem dX6_tradeLots_79 : decode cX6_tradeLots 79 = .ok (.iload_n 1, 1) := by decide +kernel
theorem dX6_tradeLots_80 : decode cX6_tradeLots 80 = .ok (.ifCond .le 20, 3) := by decide +kernel
theorem dX6_tradeLots_83 : decode cX6_tradeLots 83 = .ok (.lload_n 2, 1) := by decide +kernel
theorem dX6_tradeLots_84 : decode cX6_tradeLots 84 = .ok (.aload_n 0, 1) := by decide +kernel
theorem dX6_tradeLots_85 : decode cX6_tradeLots 85 = .ok (.getfield 43, 3) := by decide +kernel
theorem dX6_tradeLots_88 : decode cX6_tradeLots 88 = .ok (.aload_n 0, 1) := by decide +kernel
theorem dX6_tradeLots_89 : decode cX6_tradeLots 89 = .ok (.getfield 47, 3) := by decide +kernel
theorem dX6_tradeLots_92 : decode cX6_tradeLots 92 = .ok (.lsub, 1) := by decide +kernel
theorem dX6_tradeLots_93 : decode cX6_tradeLots 93 = .ok (.lcmp, 1) := by decide +kernel
theorem dX6_tradeLots_94 : decode cX6_tradeLots 94 = .ok (.ifCond .le 6, 3) := by decide +kernel
theorem dX6_tradeLots_97 : decode cX6_tradeLots 97 = .ok (.bipush (-5), 2) := by decide +kernel
theorem dX6_tradeLots_99 : decode cX6_tradeLots 99 = .ok (.ireturn, 1) := by decide +kernel
theorem dX6_tradeLots_100 : decode cX6_tradeLots 100 = .ok (.aload_n 0, 1) := by decide +kernel
theorem dX6_tradeLots_101 : decode cX6_tradeLots 101 = .ok (.dup, 1) := by decide +kernel
theorem dX6_tradeLots_102 : decode cX6_tradeLots 102 = .ok (.getfield 53, 3) := by decide +kernel
theorem dX6_tradeLots_105 : decode cX6_tradeLots 105 = .ok (.iload_n 1, 1) := by decide +kernel
theorem dX6_tradeLots_106 : decode cX6_tradeLots 106 = .ok (.iadd, 1) := by decide +kernel
theorem dX6_tradeLots_107 : decode cX6_tradeLots 107 = .ok (.putfield 53, 3) := by decide +kernel
theorem dX6_tradeLots_110 : decode cX6_tradeLots 110 = .ok (.aload_n 0, 1) := by decide +kernel
theorem dX6_tradeLots_111 : decode cX6_tradeLots 111 = .ok (.dup, 1) := by decide +kernel
theorem dX6_tradeLots_112 : decode cX6_tradeLots 112 = .ok (.getfield 43, 3) := by decide +kernel
theorem dX6_tradeLots_115 : decode cX6_tradeLots 115 = .ok (.lload_n 2, 1) := by decide +kernel
theorem dX6_tradeLots_116 : decode cX6_tradeLots 116 = .ok (.lsub, 1) := by decide +kernel
theorem dX6_tradeLots_117 : decode cX6_tradeLots 117 = .ok (.putfield 43, 3) := by decide +kernel
theorem dX6_tradeLots_120 : decode cX6_tradeLots 120 = .ok (.aload_n 0, 1) := by decide +kernel
theorem dX6_tradeLots_121 : decode cX6_tradeLots 121 = .ok (.getfield 53, 3) := by decide +kernel
theorem dX6_tradeLots_124 : decode cX6_tradeLots 124 = .ok (.ireturn, 1) := by decide +kernel
theorem dX6_takeIncome_0 : decode cX6_takeIncome 0 = .ok (.iload_n 1, 1) := by decide +kernel
theorem dX6_takeIncome_1 : decode cX6_takeIncome 1 = .ok (.iconst 1, 1) := by decide +kernel
theorem dX6_takeIncome_2 : decode cX6_takeIncome 2 = .ok (.if_icmp .lt 9, 3) := by decide +kernel
theorem dX6_takeIncome_5 : decode cX6_takeIncome 5 = .ok (.iload_n 1, 1) := by decide +kernel
theorem dX6_takeIncome_6 : decode cX6_takeIncome 6 = .ok (.ldc 93, 2) := by decide +kernel
theorem dX6_takeIncome_8 : decode cX6_takeIncome 8 = .ok (.if_icmp .le 6, 3) := by decide +kernel
theorem dX6_takeIncome_11 : decode cX6_takeIncome 11 = .ok (.bipush (-2), 2) := by decide +kernel
theorem dX6_takeIncome_13 : decode cX6_takeIncome 13 = .ok (.ireturn, 1) := by decide +kernel
theorem dX6_takeIncome_14 : decode cX6_takeIncome 14 = .ok (.aload_n 0, 1) := by decide +kernel
theorem dX6_takeIncome_15 : decode cX6_takeIncome 15 = .ok (.invokevirtual 76, 3) := by decide +kernel
theorem dX6_takeIncome_18 : decode cX6_takeIncome 18 = .ok (.lconst 0, 1) := by decide +kernel
theorem dX6_takeIncome_19 : decode cX6_takeIncome 19 = .ok (.lcmp, 1) := by decide +kernel
theorem dX6_takeIncome_20 : decode cX6_takeIncome 20 = .ok (.ifCond .ne 6, 3) := by decide +kernel
theorem dX6_takeIncome_23 : decode cX6_takeIncome 23 = .ok (.bipush (-5), 2) := by decide +kernel
theorem dX6_takeIncome_25 : decode cX6_takeIncome 25 = .ok (.ireturn, 1) := by decide +kernel
theorem dX6_takeIncome_26 : decode cX6_takeIncome 26 = .ok (.aload_n 0, 1) := by decide +kernel
theorem dX6_takeIncome_27 : decode cX6_takeIncome 27 = .ok (.dup, 1) := by decide +kernel
theorem dX6_takeIncome_28 : decode cX6_takeIncome 28 = .ok (.getfield 43, 3) := by decide +kernel
theorem dX6_takeIncome_31 : decode cX6_takeIncome 31 = .ok (.iload_n 1, 1) := by decide +kernel
theorem dX6_takeIncome_32 : decode cX6_takeIncome 32 = .ok (.i2l, 1) := by decide +kernel
theorem dX6_takeIncome_33 : decode cX6_takeIncome 33 = .ok (.ladd, 1) := by decide +kernel
theorem dX6_takeIncome_34 : decode cX6_takeIncome 34 = .ok (.putfield 43, 3) := by decide +kernel
theorem dX6_takeIncome_37 : decode cX6_takeIncome 37 = .ok (.aload_n 0, 1) := by decide +kernel
theorem dX6_takeIncome_38 : decode cX6_takeIncome 38 = .ok (.dup, 1) := by decide +kernel
theorem dX6_takeIncome_39 : decode cX6_takeIncome 39 = .ok (.getfield 47, 3) := by decide +kernel
theorem dX6_takeIncome_42 : decode cX6_takeIncome 42 = .ok (.iload_n 1, 1) := by decide +kernel
theorem dX6_takeIncome_43 : decode cX6_takeIncome 43 = .ok (.i2l, 1) := by decide +kernel
theorem dX6_takeIncome_44 : decode cX6_takeIncome 44 = .ok (.ladd, 1) := by decide +kernel
theorem dX6_takeIncome_45 : decode cX6_takeIncome 45 = .ok (.putfield 47, 3) := by decide +kernel
theorem dX6_takeIncome_48 : decode cX6_takeIncome 48 = .ok (.aload_n 0, 1) := by decide +kernel
theorem dX6_takeIncome_49 : decode cX6_takeIncome 49 = .ok (.getfield 47, 3) := by decide +kernel
theorem dX6_takeIncome_52 : decode cX6_takeIncome 52 = .ok (.l2i, 1) := by decide +kernel
theorem dX6_takeIncome_53 : decode cX6_takeIncome 53 = .ok (.ireturn, 1) := by decide +kernel
theorem dX6_payIncome_0 : decode cX6_payIncome 0 = .ok (.aload_n 0, 1) := by decide +kernel
theorem dX6_payIncome_1 : decode cX6_payIncome 1 = .ok (.invokevirtual 115, 3) := by decide +kernel
theorem dX6_payIncome_4 : decode cX6_payIncome 4 = .ok (.lstore_n 1, 1) := by decide +kernel
theorem dX6_payIncome_5 : decode cX6_payIncome 5 = .ok (.aload_n 0, 1) := by decide +kernel
theorem dX6_payIncome_6 : decode cX6_payIncome 6 = .ok (.invokevirtual 125, 3) := by decide +kernel
theorem dX6_payIncome_9 : decode cX6_payIncome 9 = .ok (.lstore_n 3, 1) := by decide +kernel
theorem dX6_payIncome_10 : decode cX6_payIncome 10 = .ok (.lload_n 3, 1) := by decide +kernel
theorem dX6_payIncome_11 : decode cX6_payIncome 11 = .ok (.lconst 0, 1) := by decide +kernel
theorem dX6_payIncome_12 : decode cX6_payIncome 12 = .ok (.lcmp, 1) := by decide +kernel
theorem dX6_payIncome_13 : decode cX6_payIncome 13 = .ok (.ifCond .le 16, 3) := by decide +kernel
theorem dX6_payIncome_16 : decode cX6_payIncome 16 = .ok (.ldc2_w 77, 3) := by decide +kernel
theorem dX6_payIncome_19 : decode cX6_payIncome 19 = .ok (.aload_n 0, 1) := by decide +kernel
theorem dX6_payIncome_20 : decode cX6_payIncome 20 = .ok (.getfield 50, 3) := by decide +kernel
theorem dX6_payIncome_23 : decode cX6_payIncome 23 = .ok (.lmul, 1) := by decide +kernel
theorem dX6_payIncome_24 : decode cX6_payIncome 24 = .ok (.lload_n 3, 1) := by decide +kernel
theorem dX6_payIncome_25 : decode cX6_payIncome 25 = .ok (.ldiv, 1) := by decide +kernel
theorem dX6_payIncome_26 : decode cX6_payIncome 26 = .ok (.goto 4, 3) := by decide +kernel
theorem dX6_payIncome_29 : decode cX6_payIncome 29 = .ok (.lconst 0, 1) := by decide +kernel
theorem dX6_payIncome_30 : decode cX6_payIncome 30 = .ok (.lstore 5, 2) := by decide +kernel
theorem dX6_payIncome_32 : decode cX6_payIncome 32 = .ok (.lconst 0, 1) := by decide +kernel
theorem dX6_payIncome_33 : decode cX6_payIncome 33 = .ok (.lstore 7, 2) := by decide +kernel
theorem dX6_payIncome_35 : decode cX6_payIncome 35 = .ok (.iconst 0, 1) := by decide +kernel
theorem dX6_payIncome_36 : decode cX6_payIncome 36 = .ok (.istore 9, 2) := by decide +kernel
theorem dX6_payIncome_38 : decode cX6_payIncome 38 = .ok (.iload 9, 2) := by decide +kernel
theorem dX6_payIncome_40 : decode cX6_payIncome 40 = .ok (.bipush 6, 2) := by decide +kernel
theorem dX6_payIncome_42 : decode cX6_payIncome 42 = .ok (.if_icmp .ge 98, 3) := by decide +kernel
theorem dX6_payIncome_45 : decode cX6_payIncome 45 = .ok (.aload_n 0, 1) := by decide +kernel
theorem dX6_payIncome_46 : decode cX6_payIncome 46 = .ok (.getfield 21, 3) := by decide +kernel
theorem dX6_payIncome_49 : decode cX6_payIncome 49 = .ok (.iload 9, 2) := by decide +kernel
theorem dX6_payIncome_51 : decode cX6_payIncome 51 = .ok (.aaload, 1) := by decide +kernel
theorem dX6_payIncome_52 : decode cX6_payIncome 52 = .ok (.astore 10, 2) := by decide +kernel
theorem dX6_payIncome_54 : decode cX6_payIncome 54 = .ok (.aload 10, 2) := by decide +kernel
theorem dX6_payIncome_56 : decode cX6_payIncome 56 = .ok (.invokevirtual 69, 3) := by decide +kernel
theorem dX6_payIncome_59 : decode cX6_payIncome 59 = .ok (.lload_n 1, 1) := by decide +kernel
theorem dX6_payIncome_60 : decode cX6_payIncome 60 = .ok (.lmul, 1) := by decide +kernel
theorem dX6_payIncome_61 : decode cX6_payIncome 61 = .ok (.ldc2_w 77, 3) := by decide +kernel
theorem dX6_payIncome_64 : decode cX6_payIncome 64 = .ok (.ldiv, 1) := by decide +kernel
theorem dX6_payIncome_65 : decode cX6_payIncome 65 = .ok (.lstore 11, 2) := by decide +kernel
theorem dX6_payIncome_67 : decode cX6_payIncome 67 = .ok (.aload 10, 2) := by decide +kernel
theorem dX6_payIncome_69 : decode cX6_payIncome 69 = .ok (.dup, 1) := by decide +kernel
theorem dX6_payIncome_70 : decode cX6_payIncome 70 = .ok (.getfield 127, 3) := by decide +kernel
theorem dX6_payIncome_73 : decode cX6_payIncome 73 = .ok (.lload 11, 2) := by decide +kernel
theorem dX6_payIncome_75 : decode cX6_payIncome 75 = .ok (.ladd, 1) := by decide +kernel
theorem dX6_payIncome_76 : decode cX6_payIncome 76 = .ok (.putfield 127, 3) := by decide +kernel
theorem dX6_payIncome_79 : decode cX6_payIncome 79 = .ok (.aload 10, 2) := by decide +kernel
theorem dX6_payIncome_81 : decode cX6_payIncome 81 = .ok (.dup, 1) := by decide +kernel
theorem dX6_payIncome_82 : decode cX6_payIncome 82 = .ok (.getfield 130, 3) := by decide +kernel
theorem dX6_payIncome_85 : decode cX6_payIncome 85 = .ok (.aload 10, 2) := by decide +kernel
theorem dX6_payIncome_87 : decode cX6_payIncome 87 = .ok (.getfield 73, 3) := by decide +kernel
theorem dX6_payIncome_90 : decode cX6_payIncome 90 = .ok (.lload 5, 2) := by decide +kernel
theorem dX6_payIncome_92 : decode cX6_payIncome 92 = .ok (.lmul, 1) := by decide +kernel
theorem dX6_payIncome_93 : decode cX6_payIncome 93 = .ok (.ldc2_w 77, 3) := by decide +kernel
theorem dX6_payIncome_96 : decode cX6_payIncome 96 = .ok (.ldiv, 1) := by decide +kernel
theorem dX6_payIncome_97 : decode cX6_payIncome 97 = .ok (.lload 11, 2) := by decide +kernel
theorem dX6_payIncome_99 : decode cX6_payIncome 99 = .ok (.invokestatic 133, 3) := by decide +kernel
theorem dX6_payIncome_102 : decode cX6_payIncome 102 = .ok (.ladd, 1) := by decide +kernel
theorem dX6_payIncome_103 : decode cX6_payIncome 103 = .ok (.putfield 130, 3) := by decide +kernel
theorem dX6_payIncome_106 : decode cX6_payIncome 106 = .ok (.aload 10, 2) := by decide +kernel
theorem dX6_payIncome_108 : decode cX6_payIncome 108 = .ok (.dup, 1) := by decide +kernel
theorem dX6_payIncome_109 : decode cX6_payIncome 109 = .ok (.getfield 139, 3) := by decide +kernel
theorem dX6_payIncome_112 : decode cX6_payIncome 112 = .ok (.aload 10, 2) := by decide +kernel
theorem dX6_payIncome_114 : decode cX6_payIncome 114 = .ok (.getfield 73, 3) := by decide +kernel
theorem dX6_payIncome_117 : decode cX6_payIncome 117 = .ok (.ladd, 1) := by decide +kernel
theorem dX6_payIncome_118 : decode cX6_payIncome 118 = .ok (.putfield 139, 3) := by decide +kernel
theorem dX6_payIncome_121 : decode cX6_payIncome 121 = .ok (.aload 10, 2) := by decide +kernel
theorem dX6_payIncome_123 : decode cX6_payIncome 123 = .ok (.lconst 0, 1) := by decide +kernel
theorem dX6_payIncome_124 : decode cX6_payIncome 124 = .ok (.putfield 73, 3) := by decide +kernel
theorem dX6_payIncome_127 : decode cX6_payIncome 127 = .ok (.lload 7, 2) := by decide +kernel
theorem dX6_payIncome_129 : decode cX6_payIncome 129 = .ok (.lload 11, 2) := by decide +kernel
theorem dX6_payIncome_131 : decode cX6_payIncome 131 = .ok (.ladd, 1) := by decide +kernel
theorem dX6_payIncome_132 : decode cX6_payIncome 132 = .ok (.lstore 7, 2) := by decide +kernel
theorem dX6_payIncome_134 : decode cX6_payIncome 134 = .ok (.iinc 9 1, 3) := by decide +kernel
theorem dX6_payIncome_137 : decode cX6_payIncome 137 = .ok (.goto (-99), 3) := by decide +kernel
theorem dX6_payIncome_140 : decode cX6_payIncome 140 = .ok (.aload_n 0, 1) := by decide +kernel
theorem dX6_payIncome_141 : decode cX6_payIncome 141 = .ok (.dup, 1) := by decide +kernel
theorem dX6_payIncome_142 : decode cX6_payIncome 142 = .ok (.getfield 43, 3) := by decide +kernel
theorem dX6_payIncome_145 : decode cX6_payIncome 145 = .ok (.lload 7, 2) := by decide +kernel
theorem dX6_payIncome_147 : decode cX6_payIncome 147 = .ok (.lsub, 1) := by decide +kernel
theorem dX6_payIncome_148 : decode cX6_payIncome 148 = .ok (.putfield 43, 3) := by decide +kernel
theorem dX6_payIncome_151 : decode cX6_payIncome 151 = .ok (.aload_n 0, 1) := by decide +kernel
theorem dX6_payIncome_152 : decode cX6_payIncome 152 = .ok (.dup, 1) := by decide +kernel
theorem dX6_payIncome_153 : decode cX6_payIncome 153 = .ok (.getfield 47, 3) := by decide +kernel
theorem dX6_payIncome_156 : decode cX6_payIncome 156 = .ok (.lload 7, 2) := by decide +kernel
theorem dX6_payIncome_158 : decode cX6_payIncome 158 = .ok (.lsub, 1) := by decide +kernel
theorem dX6_payIncome_159 : decode cX6_payIncome 159 = .ok (.putfield 47, 3) := by decide +kernel
theorem dX6_payIncome_162 : decode cX6_payIncome 162 = .ok (.aload_n 0, 1) := by decide +kernel
theorem dX6_payIncome_163 : decode cX6_payIncome 163 = .ok (.lconst 0, 1) := by decide +kernel
theorem dX6_payIncome_164 : decode cX6_payIncome 164 = .ok (.putfield 50, 3) := by decide +kernel
theorem dX6_payIncome_167 : decode cX6_payIncome 167 = .ok (.lload 7, 2) := by decide +kernel
theorem dX6_payIncome_169 : decode cX6_payIncome 169 = .ok (.l2i, 1) := by decide +kernel
theorem dX6_payIncome_170 : decode cX6_payIncome 170 = .ok (.ireturn, 1) := by decide +kernel
theorem dX6_makeUnits_0 : decode cX6_makeUnits 0 = .ok (.lload_n 2, 1) := by decide +kernel
theorem dX6_makeUnits_1 : decode cX6_makeUnits 1 = .ok (.lload 6, 2) := by decide +kernel
theorem dX6_makeUnits_3 : decode cX6_makeUnits 3 = .ok (.lmul, 1) := by decide +kernel
theorem dX6_makeUnits_4 : decode cX6_makeUnits 4 = .ok (.ldc2_w 77, 3) := by decide +kernel
theorem dX6_makeUnits_7 : decode cX6_makeUnits 7 = .ok (.ldiv, 1) := by decide +kernel
theorem dX6_makeUnits_8 : decode cX6_makeUnits 8 = .ok (.lstore 8, 2) := by decide +kernel
theorem dX6_makeUnits_10 : decode cX6_makeUnits 10 = .ok (.aload_n 0, 1) := by decide +kernel
theorem dX6_makeUnits_11 : decode cX6_makeUnits 11 = .ok (.dup, 1) := by decide +kernel
theorem dX6_makeUnits_12 : decode cX6_makeUnits 12 = .ok (.getfield 43, 3) := by decide +kernel
theorem dX6_makeUnits_15 : decode cX6_makeUnits 15 = .ok (.lload 4, 2) := by decide +kernel
theorem dX6_makeUnits_17 : decode cX6_makeUnits 17 = .ok (.ladd, 1) := by decide +kernel
theorem dX6_makeUnits_18 : decode cX6_makeUnits 18 = .ok (.putfield 43, 3) := by decide +kernel
theorem dX6_makeUnits_21 : decode cX6_makeUnits 21 = .ok (.aload_n 1, 1) := by decide +kernel
theorem dX6_makeUnits_22 : decode cX6_makeUnits 22 = .ok (.dup, 1) := by decide +kernel
theorem dX6_makeUnits_23 : decode cX6_makeUnits 23 = .ok (.getfield 142, 3) := by decide +kernel
theorem dX6_makeUnits_26 : decode cX6_makeUnits 26 = .ok (.lload 4, 2) := by decide +kernel
theorem dX6_makeUnits_28 : decode cX6_makeUnits 28 = .ok (.ladd, 1) := by decide +kernel
theorem dX6_makeUnits_29 : decode cX6_makeUnits 29 = .ok (.putfield 142, 3) := by decide +kernel
theorem dX6_makeUnits_32 : decode cX6_makeUnits 32 = .ok (.aload_n 1, 1) := by decide +kernel
theorem dX6_makeUnits_33 : decode cX6_makeUnits 33 = .ok (.dup, 1) := by decide +kernel
theorem dX6_makeUnits_34 : decode cX6_makeUnits 34 = .ok (.getfield 73, 3) := by decide +kernel
theorem dX6_makeUnits_37 : decode cX6_makeUnits 37 = .ok (.lload_n 2, 1) := by decide +kernel
theorem dX6_makeUnits_38 : decode cX6_makeUnits 38 = .ok (.ladd, 1) := by decide +kernel
theorem dX6_makeUnits_39 : decode cX6_makeUnits 39 = .ok (.putfield 73, 3) := by decide +kernel
theorem dX6_makeUnits_42 : decode cX6_makeUnits 42 = .ok (.aload_n 0, 1) := by decide +kernel
theorem dX6_makeUnits_43 : decode cX6_makeUnits 43 = .ok (.aload_n 0, 1) := by decide +kernel
theorem dX6_makeUnits_44 : decode cX6_makeUnits 44 = .ok (.getfield 47, 3) := by decide +kernel
theorem dX6_makeUnits_47 : decode cX6_makeUnits 47 = .ok (.lload 8, 2) := by decide +kernel
theorem dX6_makeUnits_49 : decode cX6_makeUnits 49 = .ok (.ladd, 1) := by decide +kernel
theorem dX6_makeUnits_50 : decode cX6_makeUnits 50 = .ok (.aload_n 0, 1) := by decide +kernel
theorem dX6_makeUnits_51 : decode cX6_makeUnits 51 = .ok (.getfield 43, 3) := by decide +kernel
theorem dX6_makeUnits_54 : decode cX6_makeUnits 54 = .ok (.invokestatic 133, 3) := by decide +kernel
theorem dX6_makeUnits_57 : decode cX6_makeUnits 57 = .ok (.putfield 47, 3) := by decide +kernel
theorem dX6_makeUnits_60 : decode cX6_makeUnits 60 = .ok (.aload_n 0, 1) := by decide +kernel
theorem dX6_makeUnits_61 : decode cX6_makeUnits 61 = .ok (.dup, 1) := by decide +kernel
theorem dX6_makeUnits_62 : decode cX6_makeUnits 62 = .ok (.getfield 50, 3) := by decide +kernel
theorem dX6_makeUnits_65 : decode cX6_makeUnits 65 = .ok (.lload 8, 2) := by decide +kernel
theorem dX6_makeUnits_67 : decode cX6_makeUnits 67 = .ok (.ladd, 1) := by decide +kernel
theorem dX6_makeUnits_68 : decode cX6_makeUnits 68 = .ok (.putfield 50, 3) := by decide +kernel
theorem dX6_makeUnits_71 : decode cX6_makeUnits 71 = .ok (.return_, 1) := by decide +kernel
theorem dX6_takeUnits_0 : decode cX6_takeUnits 0 = .ok (.aload_n 0, 1) := by decide +kernel
theorem dX6_takeUnits_1 : decode cX6_takeUnits 1 = .ok (.invokevirtual 125, 3) := by decide +kernel
theorem dX6_takeUnits_4 : decode cX6_takeUnits 4 = .ok (.lstore 8, 2) := by decide +kernel
theorem dX6_takeUnits_6 : decode cX6_takeUnits 6 = .ok (.lload_n 2, 1) := by decide +kernel
theorem dX6_takeUnits_7 : decode cX6_takeUnits 7 = .ok (.aload_n 1, 1) := by decide +kernel
theorem dX6_takeUnits_8 : decode cX6_takeUnits 8 = .ok (.getfield 139, 3) := by decide +kernel
theorem dX6_takeUnits_11 : decode cX6_takeUnits 11 = .ok (.invokestatic 133, 3) := by decide +kernel
theorem dX6_takeUnits_14 : decode cX6_takeUnits 14 = .ok (.lstore 10, 2) := by decide +kernel
theorem dX6_takeUnits_16 : decode cX6_takeUnits 16 = .ok (.lload_n 2, 1) := by decide +kernel
theorem dX6_takeUnits_17 : decode cX6_takeUnits 17 = .ok (.lload 10, 2) := by decide +kernel
theorem dX6_takeUnits_19 : decode cX6_takeUnits 19 = .ok (.lsub, 1) := by decide +kernel
theorem dX6_takeUnits_20 : decode cX6_takeUnits 20 = .ok (.lstore 12, 2) := by decide +kernel
theorem dX6_takeUnits_22 : decode cX6_takeUnits 22 = .ok (.aload_n 0, 1) := by decide +kernel
theorem dX6_takeUnits_23 : decode cX6_takeUnits 23 = .ok (.dup, 1) := by decide +kernel
theorem dX6_takeUnits_24 : decode cX6_takeUnits 24 = .ok (.getfield 43, 3) := by decide +kernel
theorem dX6_takeUnits_27 : decode cX6_takeUnits 27 = .ok (.lload 4, 2) := by decide +kernel
theorem dX6_takeUnits_29 : decode cX6_takeUnits 29 = .ok (.lsub, 1) := by decide +kernel
theorem dX6_takeUnits_30 : decode cX6_takeUnits 30 = .ok (.putfield 43, 3) := by decide +kernel
theorem dX6_takeUnits_33 : decode cX6_takeUnits 33 = .ok (.aload_n 1, 1) := by decide +kernel
theorem dX6_takeUnits_34 : decode cX6_takeUnits 34 = .ok (.dup, 1) := by decide +kernel
theorem dX6_takeUnits_35 : decode cX6_takeUnits 35 = .ok (.getfield 145, 3) := by decide +kernel
theorem dX6_takeUnits_38 : decode cX6_takeUnits 38 = .ok (.lload 4, 2) := by decide +kernel
theorem dX6_takeUnits_40 : decode cX6_takeUnits 40 = .ok (.ladd, 1) := by decide +kernel
theorem dX6_takeUnits_41 : decode cX6_takeUnits 41 = .ok (.putfield 145, 3) := by decide +kernel
theorem dX6_takeUnits_44 : decode cX6_takeUnits 44 = .ok (.aload_n 1, 1) := by decide +kernel
theorem dX6_takeUnits_45 : decode cX6_takeUnits 45 = .ok (.dup, 1) := by decide +kernel
theorem dX6_takeUnits_46 : decode cX6_takeUnits 46 = .ok (.getfield 139, 3) := by decide +kernel
theorem dX6_takeUnits_49 : decode cX6_takeUnits 49 = .ok (.lload 10, 2) := by decide +kernel
theorem dX6_takeUnits_51 : decode cX6_takeUnits 51 = .ok (.lsub, 1) := by decide +kernel
theorem dX6_takeUnits_52 : decode cX6_takeUnits 52 = .ok (.putfield 139, 3) := by decide +kernel
theorem dX6_takeUnits_55 : decode cX6_takeUnits 55 = .ok (.aload_n 1, 1) := by decide +kernel
theorem dX6_takeUnits_56 : decode cX6_takeUnits 56 = .ok (.dup, 1) := by decide +kernel
theorem dX6_takeUnits_57 : decode cX6_takeUnits 57 = .ok (.getfield 73, 3) := by decide +kernel
theorem dX6_takeUnits_60 : decode cX6_takeUnits 60 = .ok (.lload 12, 2) := by decide +kernel
theorem dX6_takeUnits_62 : decode cX6_takeUnits 62 = .ok (.lsub, 1) := by decide +kernel
theorem dX6_takeUnits_63 : decode cX6_takeUnits 63 = .ok (.putfield 73, 3) := by decide +kernel
theorem dX6_takeUnits_66 : decode cX6_takeUnits 66 = .ok (.aload_n 0, 1) := by decide +kernel
theorem dX6_takeUnits_67 : decode cX6_takeUnits 67 = .ok (.aload_n 0, 1) := by decide +kernel
theorem dX6_takeUnits_68 : decode cX6_takeUnits 68 = .ok (.getfield 47, 3) := by decide +kernel
theorem dX6_takeUnits_71 : decode cX6_takeUnits 71 = .ok (.lload_n 2, 1) := by decide +kernel
theorem dX6_takeUnits_72 : decode cX6_takeUnits 72 = .ok (.lload 6, 2) := by decide +kernel
theorem dX6_takeUnits_74 : decode cX6_takeUnits 74 = .ok (.lmul, 1) := by decide +kernel
theorem dX6_takeUnits_75 : decode cX6_takeUnits 75 = .ok (.ldc2_w 77, 3) := by decide +kernel
theorem dX6_takeUnits_78 : decode cX6_takeUnits 78 = .ok (.ldiv, 1) := by decide +kernel
theorem dX6_takeUnits_79 : decode cX6_takeUnits 79 = .ok (.lsub, 1) := by decide +kernel
theorem dX6_takeUnits_80 : decode cX6_takeUnits 80 = .ok (.lconst 0, 1) := by decide +kernel
theorem dX6_takeUnits_81 : decode cX6_takeUnits 81 = .ok (.invokestatic 148, 3) := by decide +kernel
theorem dX6_takeUnits_84 : decode cX6_takeUnits 84 = .ok (.aload_n 0, 1) := by decide +kernel
theorem dX6_takeUnits_85 : decode cX6_takeUnits 85 = .ok (.getfield 43, 3) := by decide +kernel
theorem dX6_takeUnits_88 : decode cX6_takeUnits 88 = .ok (.invokestatic 133, 3) := by decide +kernel
theorem dX6_takeUnits_91 : decode cX6_takeUnits 91 = .ok (.putfield 47, 3) := by decide +kernel
theorem dX6_takeUnits_94 : decode cX6_takeUnits 94 = .ok (.lload 8, 2) := by decide +kernel
theorem dX6_takeUnits_96 : decode cX6_takeUnits 96 = .ok (.lconst 0, 1) := by decide +kernel
theorem dX6_takeUnits_97 : decode cX6_takeUnits 97 = .ok (.lcmp, 1) := by decide +kernel
theorem dX6_takeUnits_98 : decode cX6_takeUnits 98 = .ok (.ifCond .le 22, 3) := by decide +kernel
theorem dX6_takeUnits_101 : decode cX6_takeUnits 101 = .ok (.aload_n 0, 1) := by decide +kernel
theorem dX6_takeUnits_102 : decode cX6_takeUnits 102 = .ok (.dup, 1) := by decide +kernel
theorem dX6_takeUnits_103 : decode cX6_takeUnits 103 = .ok (.getfield 50, 3) := by decide +kernel
theorem dX6_takeUnits_106 : decode cX6_takeUnits 106 = .ok (.lload 12, 2) := by decide +kernel
theorem dX6_takeUnits_108 : decode cX6_takeUnits 108 = .ok (.aload_n 0, 1) := by decide +kernel
theorem dX6_takeUnits_109 : decode cX6_takeUnits 109 = .ok (.getfield 50, 3) := by decide +kernel
theorem dX6_takeUnits_112 : decode cX6_takeUnits 112 = .ok (.lmul, 1) := by decide +kernel
theorem dX6_takeUnits_113 : decode cX6_takeUnits 113 = .ok (.lload 8, 2) := by decide +kernel
theorem dX6_takeUnits_115 : decode cX6_takeUnits 115 = .ok (.ldiv, 1) := by decide +kernel
theorem dX6_takeUnits_116 : decode cX6_takeUnits 116 = .ok (.lsub, 1) := by decide +kernel
theorem dX6_takeUnits_117 : decode cX6_takeUnits 117 = .ok (.putfield 50, 3) := by decide +kernel
theorem dX6_takeUnits_120 : decode cX6_takeUnits 120 = .ok (.return_, 1) := by decide +kernel
theorem dX6_sellFor_0 : decode cX6_sellFor 0 = .ok (.aload_n 0, 1) := by decide +kernel
theorem dX6_sellFor_1 : decode cX6_sellFor 1 = .ok (.getfield 43, 3) := by decide +kernel
theorem dX6_sellFor_4 : decode cX6_sellFor 4 = .ok (.lload_n 1, 1) := by decide +kernel
theorem dX6_sellFor_5 : decode cX6_sellFor 5 = .ok (.lcmp, 1) := by decide +kernel
theorem dX6_sellFor_6 : decode cX6_sellFor 6 = .ok (.ifCond .lt 5, 3) := by decide +kernel
theorem dX6_sellFor_9 : decode cX6_sellFor 9 = .ok (.iconst 0, 1) := by decide +kernel
theorem dX6_sellFor_10 : decode cX6_sellFor 10 = .ok (.ireturn, 1) := by decide +kernel
theorem dX6_sellFor_11 : decode cX6_sellFor 11 = .ok (.aload_n 0, 1) := by decide +kernel
theorem dX6_sellFor_12 : decode cX6_sellFor 12 = .ok (.getfield 9, 3) := by decide +kernel
theorem dX6_sellFor_15 : decode cX6_sellFor 15 = .ok (.i2l, 1) := by decide +kernel
theorem dX6_sellFor_16 : decode cX6_sellFor 16 = .ok (.aload_n 0, 1) := by decide +kernel
theorem dX6_sellFor_17 : decode cX6_sellFor 17 = .ok (.invokevirtual 122, 3) := by decide +kernel
theorem dX6_sellFor_20 : decode cX6_sellFor 20 = .ok (.lsub, 1) := by decide +kernel
theorem dX6_sellFor_21 : decode cX6_sellFor 21 = .ok (.lstore_n 3, 1) := by decide +kernel
theorem dX6_sellFor_22 : decode cX6_sellFor 22 = .ok (.lload_n 3, 1) := by decide +kernel
theorem dX6_sellFor_23 : decode cX6_sellFor 23 = .ok (.lconst 0, 1) := by decide +kernel
theorem dX6_sellFor_24 : decode cX6_sellFor 24 = .ok (.lcmp, 1) := by decide +kernel
theorem dX6_sellFor_25 : decode cX6_sellFor 25 = .ok (.ifCond .le 26, 3) := by decide +kernel
theorem dX6_sellFor_28 : decode cX6_sellFor 28 = .ok (.lload_n 1, 1) := by decide +kernel
theorem dX6_sellFor_29 : decode cX6_sellFor 29 = .ok (.aload_n 0, 1) := by decide +kernel
theorem dX6_sellFor_30 : decode cX6_sellFor 30 = .ok (.getfield 43, 3) := by decide +kernel
theorem dX6_sellFor_33 : decode cX6_sellFor 33 = .ok (.lsub, 1) := by decide +kernel
theorem dX6_sellFor_34 : decode cX6_sellFor 34 = .ok (.lload_n 3, 1) := by decide +kernel
theorem dX6_sellFor_35 : decode cX6_sellFor 35 = .ok (.ladd, 1) := by decide +kernel
theorem dX6_sellFor_36 : decode cX6_sellFor 36 = .ok (.lconst 1, 1) := by decide +kernel
theorem dX6_sellFor_37 : decode cX6_sellFor 37 = .ok (.lsub, 1) := by decide +kernel
theorem dX6_sellFor_38 : decode cX6_sellFor 38 = .ok (.lload_n 3, 1) := by decide +kernel
theorem dX6_sellFor_39 : decode cX6_sellFor 39 = .ok (.ldiv, 1) := by decide +kernel
theorem dX6_sellFor_40 : decode cX6_sellFor 40 = .ok (.aload_n 0, 1) := by decide +kernel
theorem dX6_sellFor_41 : decode cX6_sellFor 41 = .ok (.getfield 53, 3) := by decide +kernel
theorem dX6_sellFor_44 : decode cX6_sellFor 44 = .ok (.i2l, 1) := by decide +kernel
theorem dX6_sellFor_45 : decode cX6_sellFor 45 = .ok (.invokestatic 133, 3) := by decide +kernel
theorem dX6_sellFor_48 : decode cX6_sellFor 48 = .ok (.goto 8, 3) := by decide +kernel
theorem dX6_sellFor_51 : decode cX6_sellFor 51 = .ok (.aload_n 0, 1) := by decide +kernel
theorem dX6_sellFor_52 : decode cX6_sellFor 52 = .ok (.getfield 53, 3) := by decide +kernel
theorem dX6_sellFor_55 : decode cX6_sellFor 55 = .ok (.i2l, 1) := by decide +kernel
theorem dX6_sellFor_56 : decode cX6_sellFor 56 = .ok (.lstore 5, 2) := by decide +kernel
theorem dX6_sellFor_58 : decode cX6_sellFor 58 = .ok (.aload_n 0, 1) := by decide +kernel
theorem dX6_sellFor_59 : decode cX6_sellFor 59 = .ok (.dup, 1) := by decide +kernel
theorem dX6_sellFor_60 : decode cX6_sellFor 60 = .ok (.getfield 53, 3) := by decide +kernel
theorem dX6_sellFor_63 : decode cX6_sellFor 63 = .ok (.lload 5, 2) := by decide +kernel
theorem dX6_sellFor_65 : decode cX6_sellFor 65 = .ok (.l2i, 1) := by decide +kernel
theorem dX6_sellFor_66 : decode cX6_sellFor 66 = .ok (.isub, 1) := by decide +kernel
theorem dX6_sellFor_67 : decode cX6_sellFor 67 = .ok (.putfield 53, 3) := by decide +kernel
theorem dX6_sellFor_70 : decode cX6_sellFor 70 = .ok (.aload_n 0, 1) := by decide +kernel
theorem dX6_sellFor_71 : decode cX6_sellFor 71 = .ok (.dup, 1) := by decide +kernel
theorem dX6_sellFor_72 : decode cX6_sellFor 72 = .ok (.getfield 43, 3) := by decide +kernel
theorem dX6_sellFor_75 : decode cX6_sellFor 75 = .ok (.lload 5, 2) := by decide +kernel
theorem dX6_sellFor_77 : decode cX6_sellFor 77 = .ok (.lload_n 3, 1) := by decide +kernel
theorem dX6_sellFor_78 : decode cX6_sellFor 78 = .ok (.lmul, 1) := by decide +kernel
theorem dX6_sellFor_79 : decode cX6_sellFor 79 = .ok (.ladd, 1) := by decide +kernel
theorem dX6_sellFor_80 : decode cX6_sellFor 80 = .ok (.putfield 43, 3) := by decide +kernel
theorem dX6_sellFor_83 : decode cX6_sellFor 83 = .ok (.lload 5, 2) := by decide +kernel
theorem dX6_sellFor_85 : decode cX6_sellFor 85 = .ok (.l2i, 1) := by decide +kernel
theorem dX6_sellFor_86 : decode cX6_sellFor 86 = .ok (.ireturn, 1) := by decide +kernel
theorem dX6_freeUnits_0 : decode cX6_freeUnits 0 = .ok (.aload_n 0, 1) := by decide +kernel
theorem dX6_freeUnits_1 : decode cX6_freeUnits 1 = .ok (.getfield 21, 3) := by decide +kernel
theorem dX6_freeUnits_4 : decode cX6_freeUnits 4 = .ok (.iload_n 1, 1) := by decide +kernel
theorem dX6_freeUnits_5 : decode cX6_freeUnits 5 = .ok (.aaload, 1) := by decide +kernel
theorem dX6_freeUnits_6 : decode cX6_freeUnits 6 = .ok (.invokevirtual 69, 3) := by decide +kernel
theorem dX6_freeUnits_9 : decode cX6_freeUnits 9 = .ok (.aload_n 0, 1) := by decide +kernel
theorem dX6_freeUnits_10 : decode cX6_freeUnits 10 = .ok (.getfield 33, 3) := by decide +kernel
theorem dX6_freeUnits_13 : decode cX6_freeUnits 13 = .ok (.iload_n 1, 1) := by decide +kernel
theorem dX6_freeUnits_14 : decode cX6_freeUnits 14 = .ok (.invokevirtual 151, 3) := by decide +kernel
theorem dX6_freeUnits_17 : decode cX6_freeUnits 17 = .ok (.lsub, 1) := by decide +kernel
theorem dX6_freeUnits_18 : decode cX6_freeUnits 18 = .ok (.lreturn, 1) := by decide +kernel
theorem dX6_dayOf_0 : decode cX6_dayOf 0 = .ok (.iload_n 1, 1) := by decide +kernel
theorem dX6_dayOf_1 : decode cX6_dayOf 1 = .ok (.aload_n 0, 1) := by decide +kernel
theorem dX6_dayOf_2 : decode cX6_dayOf 2 = .ok (.getfield 15, 3) := by decide +kernel
theorem dX6_dayOf_5 : decode cX6_dayOf 5 = .ok (.iconst 0, 1) := by decide +kernel
theorem dX6_dayOf_6 : decode cX6_dayOf 6 = .ok (.iaload, 1) := by decide +kernel
theorem dX6_dayOf_7 : decode cX6_dayOf 7 = .ok (.if_icmp .ge 10, 3) := by decide +kernel
theorem dX6_dayOf_10 : decode cX6_dayOf 10 = .ok (.aload_n 0, 1) := by decide +kernel
theorem dX6_dayOf_11 : decode cX6_dayOf 11 = .ok (.getfield 56, 3) := by decide +kernel
theorem dX6_dayOf_14 : decode cX6_dayOf 14 = .ok (.goto 9, 3) := by decide +kernel
theorem dX6_dayOf_17 : decode cX6_dayOf 17 = .ok (.aload_n 0, 1) := by decide +kernel
theorem dX6_dayOf_18 : decode cX6_dayOf 18 = .ok (.getfield 56, 3) := by decide +kernel
theorem dX6_dayOf_21 : decode cX6_dayOf 21 = .ok (.iconst 1, 1) := by decide +kernel
theorem dX6_dayOf_22 : decode cX6_dayOf 22 = .ok (.iadd, 1) := by decide +kernel
theorem dX6_dayOf_23 : decode cX6_dayOf 23 = .ok (.ireturn, 1) := by decide +kernel
theorem dX6_isHour_0 : decode cX6_isHour 0 = .ok (.iload_n 0, 1) := by decide +kernel
theorem dX6_isHour_1 : decode cX6_isHour 1 = .ok (.ifCond .lt 13, 3) := by decide +kernel
theorem dX6_isHour_4 : decode cX6_isHour 4 = .ok (.iload_n 0, 1) := by decide +kernel
theorem dX6_isHour_5 : decode cX6_isHour 5 = .ok (.bipush 23, 2) := by decide +kernel
theorem dX6_isHour_7 : decode cX6_isHour 7 = .ok (.if_icmp .gt 7, 3) := by decide +kernel
theorem dX6_isHour_10 : decode cX6_isHour 10 = .ok (.iconst 1, 1) := by decide +kernel
theorem dX6_isHour_11 : decode cX6_isHour 11 = .ok (.goto 4, 3) := by decide +kernel
theorem dX6_isHour_14 : decode cX6_isHour 14 = .ok (.iconst 0, 1) := by decide +kernel
theorem dX6_isHour_15 : decode cX6_isHour 15 = .ok (.ireturn, 1) := by decide +kernel
theorem dX7_init_0 : decode cX7_init 0 = .ok (.aload_n 0, 1) := by decide +kernel
theorem dX7_init_1 : decode cX7_init 1 = .ok (.invokespecial 1, 3) := by decide +kernel
theorem dX7_init_4 : decode cX7_init 4 = .ok (.aload_n 0, 1) := by decide +kernel
theorem dX7_init_5 : decode cX7_init 5 = .ok (.new 7, 3) := by decide +kernel
theorem dX7_init_8 : decode cX7_init 8 = .ok (.dup, 1) := by decide +kernel
theorem dX7_init_9 : decode cX7_init 9 = .ok (.invokespecial 9, 3) := by decide +kernel
theorem dX7_init_12 : decode cX7_init 12 = .ok (.putfield 10, 3) := by decide +kernel
theorem dX7_init_15 : decode cX7_init 15 = .ok (.aload_n 0, 1) := by decide +kernel
theorem dX7_init_16 : decode cX7_init 16 = .ok (.new 7, 3) := by decide +kernel
theorem dX7_init_19 : decode cX7_init 19 = .ok (.dup, 1) := by decide +kernel
theorem dX7_init_20 : decode cX7_init 20 = .ok (.invokespecial 9, 3) := by decide +kernel
theorem dX7_init_23 : decode cX7_init 23 = .ok (.putfield 16, 3) := by decide +kernel
theorem dX7_init_26 : decode cX7_init 26 = .ok (.aload_n 0, 1) := by decide +kernel
theorem dX7_init_27 : decode cX7_init 27 = .ok (.new 19, 3) := by decide +kernel
theorem dX7_init_30 : decode cX7_init 30 = .ok (.dup, 1) := by decide +kernel
theorem dX7_init_31 : decode cX7_init 31 = .ok (.invokespecial 21, 3) := by decide +kernel
theorem dX7_init_34 : decode cX7_init 34 = .ok (.putfield 22, 3) := by decide +kernel
theorem dX7_init_37 : decode cX7_init 37 = .ok (.aload_n 0, 1) := by decide +kernel
theorem dX7_init_38 : decode cX7_init 38 = .ok (.new 26, 3) := by decide +kernel
theorem dX7_init_41 : decode cX7_init 41 = .ok (.dup, 1) := by decide +kernel
theorem dX7_init_42 : decode cX7_init 42 = .ok (.invokespecial 28, 3) := by decide +kernel
theorem dX7_init_45 : decode cX7_init 45 = .ok (.putfield 29, 3) := by decide +kernel
theorem dX7_init_48 : decode cX7_init 48 = .ok (.aload_n 0, 1) := by decide +kernel
theorem dX7_init_49 : decode cX7_init 49 = .ok (.new 33, 3) := by decide +kernel
theorem dX7_init_52 : decode cX7_init 52 = .ok (.dup, 1) := by decide +kernel
theorem dX7_init_53 : decode cX7_init 53 = .ok (.invokespecial 35, 3) := by decide +kernel
theorem dX7_init_56 : decode cX7_init 56 = .ok (.putfield 36, 3) := by decide +kernel
theorem dX7_init_59 : decode cX7_init 59 = .ok (.aload_n 0, 1) := by decide +kernel
theorem dX7_init_60 : decode cX7_init 60 = .ok (.iconst 2, 1) := by decide +kernel
theorem dX7_init_61 : decode cX7_init 61 = .ok (.anewarray 7, 3) := by decide +kernel
theorem dX7_init_64 : decode cX7_init 64 = .ok (.putfield 40, 3) := by decide +kernel
theorem dX7_init_67 : decode cX7_init 67 = .ok (.iconst 0, 1) := by decide +kernel
theorem dX7_init_68 : decode cX7_init 68 = .ok (.istore_n 1, 1) := by decide +kernel
theorem dX7_init_69 : decode cX7_init 69 = .ok (.iload_n 1, 1) := by decide +kernel
theorem dX7_init_70 : decode cX7_init 70 = .ok (.iconst 2, 1) := by decide +kernel
theorem dX7_init_71 : decode cX7_init 71 = .ok (.if_icmp .ge 22, 3) := by decide +kernel
theorem dX7_init_74 : decode cX7_init 74 = .ok (.aload_n 0, 1) := by decide +kernel
theorem dX7_init_75 : decode cX7_init 75 = .ok (.getfield 40, 3) := by decide +kernel
theorem dX7_init_78 : decode cX7_init 78 = .ok (.iload_n 1, 1) := by decide +kernel
theorem dX7_init_79 : decode cX7_init 79 = .ok (.new 7, 3) := by decide +kernel
theorem dX7_init_82 : decode cX7_init 82 = .ok (.dup, 1) := by decide +kernel
theorem dX7_init_83 : decode cX7_init 83 = .ok (.invokespecial 9, 3) := by decide +kernel
theorem dX7_init_86 : decode cX7_init 86 = .ok (.aastore, 1) := by decide +kernel
theorem dX7_init_87 : decode cX7_init 87 = .ok (.iinc 1 1, 3) := by decide +kernel
theorem dX7_init_90 : decode cX7_init 90 = .ok (.goto (-21), 3) := by decide +kernel
theorem dX7_init_93 : decode cX7_init 93 = .ok (.aload_n 0, 1) := by decide +kernel
theorem dX7_init_94 : decode cX7_init 94 = .ok (.iconst 2, 1) := by decide +kernel
theorem dX7_init_95 : decode cX7_init 95 = .ok (.newarray .boolean, 2) := by decide +kernel
theorem dX7_init_97 : decode cX7_init 97 = .ok (.putfield 44, 3) := by decide +kernel
theorem dX7_init_100 : decode cX7_init 100 = .ok (.return_, 1) := by decide +kernel
theorem dX7_set_0 : decode cX7_set 0 = .ok (.aload_n 0, 1) := by decide +kernel
theorem dX7_set_1 : decode cX7_set 1 = .ok (.getfield 36, 3) := by decide +kernel
theorem dX7_set_4 : decode cX7_set 4 = .ok (.aload_n 0, 1) := by decide +kernel
theorem dX7_set_5 : decode cX7_set 5 = .ok (.getfield 10, 3) := by decide +kernel
theorem dX7_set_8 : decode cX7_set 8 = .ok (.invokevirtual 48, 3) := by decide +kernel
theorem dX7_set_11 : decode cX7_set 11 = .ok (.aload_n 0, 1) := by decide +kernel
theorem dX7_set_12 : decode cX7_set 12 = .ok (.getfield 36, 3) := by decide +kernel
theorem dX7_set_15 : decode cX7_set 15 = .ok (.aload_n 0, 1) := by decide +kernel
theorem dX7_set_16 : decode cX7_set 16 = .ok (.getfield 10, 3) := by decide +kernel
theorem dX7_set_19 : decode cX7_set 19 = .ok (.iload_n 1, 1) := by decide +kernel
theorem dX7_set_20 : decode cX7_set 20 = .ok (.iload_n 2, 1) := by decide +kernel
theorem dX7_set_21 : decode cX7_set 21 = .ok (.invokevirtual 52, 3) := by decide +kernel
theorem dX7_set_24 : decode cX7_set 24 = .ok (.invokevirtual 56, 3) := by decide +kernel
theorem dX7_set_27 : decode cX7_set 27 = .ok (.ireturn, 1) := by decide +kernel
theorem dX7_buy_0 : decode cX7_buy 0 = .ok (.aload_n 0, 1) := by decide +kernel
theorem dX7_buy_1 : decode cX7_buy 1 = .ok (.getfield 36, 3) := by decide +kernel
theorem dX7_buy_4 : decode cX7_buy 4 = .ok (.aload_n 0, 1) := by decide +kernel
theorem dX7_buy_5 : decode cX7_buy 5 = .ok (.getfield 10, 3) := by decide +kernel
theorem dX7_buy_8 : decode cX7_buy 8 = .ok (.invokevirtual 48, 3) := by decide +kernel
theorem dX7_buy_11 : decode cX7_buy 11 = .ok (.aload_n 0, 1) := by decide +kernel
theorem dX7_buy_12 : decode cX7_buy 12 = .ok (.getfield 36, 3) := by decide +kernel
theorem dX7_buy_15 : decode cX7_buy 15 = .ok (.aload_n 0, 1) := by decide +kernel
theorem dX7_buy_16 : decode cX7_buy 16 = .ok (.getfield 10, 3) := by decide +kernel
theorem dX7_buy_19 : decode cX7_buy 19 = .ok (.iload_n 1, 1) := by decide +kernel
theorem dX7_buy_20 : decode cX7_buy 20 = .ok (.iload_n 2, 1) := by decide +kernel
theorem dX7_buy_21 : decode cX7_buy 21 = .ok (.iload_n 3, 1) := by decide +kernel
theorem dX7_buy_22 : decode cX7_buy 22 = .ok (.invokevirtual 60, 3) := by decide +kernel
theorem dX7_buy_25 : decode cX7_buy 25 = .ok (.invokevirtual 56, 3) := by decide +kernel
theorem dX7_buy_28 : decode cX7_buy 28 = .ok (.ireturn, 1) := by decide +kernel
theorem dX7_leave_0 : decode cX7_leave 0 = .ok (.aload_n 0, 1) := by decide +kernel
theorem dX7_leave_1 : decode cX7_leave 1 = .ok (.getfield 36, 3) := by decide +kernel
theorem dX7_leave_4 : decode cX7_leave 4 = .ok (.aload_n 0, 1) := by decide +kernel
theorem dX7_leave_5 : decode cX7_leave 5 = .ok (.getfield 10, 3) := by decide +kernel
theorem dX7_leave_8 : decode cX7_leave 8 = .ok (.invokevirtual 48, 3) := by decide +kernel
theorem dX7_leave_11 : decode cX7_leave 11 = .ok (.aload_n 0, 1) := by decide +kernel
theorem dX7_leave_12 : decode cX7_leave 12 = .ok (.getfield 36, 3) := by decide +kernel
theorem dX7_leave_15 : decode cX7_leave 15 = .ok (.aload_n 0, 1) := by decide +kernel
theorem dX7_leave_16 : decode cX7_leave 16 = .ok (.getfield 10, 3) := by decide +kernel
theorem dX7_leave_19 : decode cX7_leave 19 = .ok (.iload_n 1, 1) := by decide +kernel
theorem dX7_leave_20 : decode cX7_leave 20 = .ok (.iload_n 2, 1) := by decide +kernel
theorem dX7_leave_21 : decode cX7_leave 21 = .ok (.iload_n 3, 1) := by decide +kernel
theorem dX7_leave_22 : decode cX7_leave 22 = .ok (.invokevirtual 64, 3) := by decide +kernel
theorem dX7_leave_25 : decode cX7_leave 25 = .ok (.invokevirtual 56, 3) := by decide +kernel
theorem dX7_leave_28 : decode cX7_leave 28 = .ok (.ireturn, 1) := by decide +kernel
theorem dX7_inKind_0 : decode cX7_inKind 0 = .ok (.aload_n 0, 1) := by decide +kernel
theorem dX7_inKind_1 : decode cX7_inKind 1 = .ok (.getfield 36, 3) := by decide +kernel
theorem dX7_inKind_4 : decode cX7_inKind 4 = .ok (.aload_n 0, 1) := by decide +kernel
theorem dX7_inKind_5 : decode cX7_inKind 5 = .ok (.getfield 10, 3) := by decide +kernel
theorem dX7_inKind_8 : decode cX7_inKind 8 = .ok (.invokevirtual 48, 3) := by decide +kernel
theorem dX7_inKind_11 : decode cX7_inKind 11 = .ok (.aload_n 0, 1) := by decide +kernel
theorem dX7_inKind_12 : decode cX7_inKind 12 = .ok (.getfield 36, 3) := by decide +kernel
theorem dX7_inKind_15 : decode cX7_inKind 15 = .ok (.aload_n 0, 1) := by decide +kernel
theorem dX7_inKind_16 : decode cX7_inKind 16 = .ok (.getfield 10, 3) := by decide +kernel
theorem dX7_inKind_19 : decode cX7_inKind 19 = .ok (.iload_n 1, 1) := by decide +kernel
theorem dX7_inKind_20 : decode cX7_inKind 20 = .ok (.iload_n 2, 1) := by decide +kernel
theorem dX7_inKind_21 : decode cX7_inKind 21 = .ok (.invokevirtual 67, 3) := by decide +kernel
theorem dX7_inKind_24 : decode cX7_inKind 24 = .ok (.invokevirtual 56, 3) := by decide +kernel
theorem dX7_inKind_27 : decode cX7_inKind 27 = .ok (.ireturn, 1) := by decide +kernel
theorem dX7_endDay_0 : decode cX7_endDay 0 = .ok (.aload_n 0, 1) := by decide +kernel
theorem dX7_endDay_1 : decode cX7_endDay 1 = .ok (.getfield 36, 3) := by decide +kernel
theorem dX7_endDay_4 : decode cX7_endDay 4 = .ok (.aload_n 0, 1) := by decide +kernel
theorem dX7_endDay_5 : decode cX7_endDay 5 = .ok (.getfield 10, 3) := by decide +kernel
theorem dX7_endDay_8 : decode cX7_endDay 8 = .ok (.invokevirtual 48, 3) := by decide +kernel
theorem dX7_endDay_11 : decode cX7_endDay 11 = .ok (.aload_n 0, 1) := by decide +kernel
theorem dX7_endDay_12 : decode cX7_endDay 12 = .ok (.getfield 36, 3) := by decide +kernel
theorem dX7_endDay_15 : decode cX7_endDay 15 = .ok (.aload_n 0, 1) := by decide +kernel
theorem dX7_endDay_16 : decode cX7_endDay 16 = .ok (.getfield 22, 3) := by decide +kernel
theorem dX7_endDay_19 : decode cX7_endDay 19 = .ok (.aload_n 0, 1) := by decide +kernel
theorem dX7_endDay_20 : decode cX7_endDay 20 = .ok (.getfield 10, 3) := by decide +kernel
theorem dX7_endDay_23 : decode cX7_endDay 23 = .ok (.invokevirtual 70, 3) := by decide +kernel
theorem dX7_endDay_26 : decode cX7_endDay 26 = .ok (.invokevirtual 56, 3) := by decide +kernel
theorem dX7_endDay_29 : decode cX7_endDay 29 = .ok (.ireturn, 1) := by decide +kernel
theorem dX7_quote_0 : decode cX7_quote 0 = .ok (.aload_n 0, 1) := by decide +kernel
theorem dX7_quote_1 : decode cX7_quote 1 = .ok (.getfield 36, 3) := by decide +kernel
theorem dX7_quote_4 : decode cX7_quote 4 = .ok (.aload_n 0, 1) := by decide +kernel
theorem dX7_quote_5 : decode cX7_quote 5 = .ok (.getfield 10, 3) := by decide +kernel
theorem dX7_quote_8 : decode cX7_quote 8 = .ok (.invokevirtual 48, 3) := by decide +kernel
theorem dX7_quote_11 : decode cX7_quote 11 = .ok (.aload_n 0, 1) := by decide +kernel
theorem dX7_quote_12 : decode cX7_quote 12 = .ok (.getfield 36, 3) := by decide +kernel
theorem dX7_quote_15 : decode cX7_quote 15 = .ok (.aload_n 0, 1) := by decide +kernel
theorem dX7_quote_16 : decode cX7_quote 16 = .ok (.getfield 10, 3) := by decide +kernel
theorem dX7_quote_19 : decode cX7_quote 19 = .ok (.iload_n 1, 1) := by decide +kernel
theorem dX7_quote_20 : decode cX7_quote 20 = .ok (.invokevirtual 74, 3) := by decide +kernel
theorem dX7_quote_23 : decode cX7_quote 23 = .ok (.invokevirtual 56, 3) := by decide +kernel
theorem dX7_quote_26 : decode cX7_quote 26 = .ok (.ireturn, 1) := by decide +kernel
theorem dX7_trade_0 : decode cX7_trade 0 = .ok (.aload_n 0, 1) := by decide +kernel
theorem dX7_trade_1 : decode cX7_trade 1 = .ok (.getfield 36, 3) := by decide +kernel
theorem dX7_trade_4 : decode cX7_trade 4 = .ok (.aload_n 0, 1) := by decide +kernel
theorem dX7_trade_5 : decode cX7_trade 5 = .ok (.getfield 10, 3) := by decide +kernel
theorem dX7_trade_8 : decode cX7_trade 8 = .ok (.invokevirtual 48, 3) := by decide +kernel
theorem dX7_trade_11 : decode cX7_trade 11 = .ok (.aload_n 0, 1) := by decide +kernel
theorem dX7_trade_12 : decode cX7_trade 12 = .ok (.getfield 36, 3) := by decide +kernel
theorem dX7_trade_15 : decode cX7_trade 15 = .ok (.aload_n 0, 1) := by decide +kernel
theorem dX7_trade_16 : decode cX7_trade 16 = .ok (.getfield 10, 3) := by decide +kernel
theorem dX7_trade_19 : decode cX7_trade 19 = .ok (.iload_n 1, 1) := by decide +kernel
theorem dX7_trade_20 : decode cX7_trade 20 = .ok (.invokevirtual 77, 3) := by decide +kernel
theorem dX7_trade_23 : decode cX7_trade 23 = .ok (.invokevirtual 56, 3) := by decide +kernel
theorem dX7_trade_26 : decode cX7_trade 26 = .ok (.ireturn, 1) := by decide +kernel
theorem dX7_income_0 : decode cX7_income 0 = .ok (.aload_n 0, 1) := by decide +kernel
theorem dX7_income_1 : decode cX7_income 1 = .ok (.getfield 36, 3) := by decide +kernel
theorem dX7_income_4 : decode cX7_income 4 = .ok (.aload_n 0, 1) := by decide +kernel
theorem dX7_income_5 : decode cX7_income 5 = .ok (.getfield 10, 3) := by decide +kernel
theorem dX7_income_8 : decode cX7_income 8 = .ok (.invokevirtual 48, 3) := by decide +kernel
theorem dX7_income_11 : decode cX7_income 11 = .ok (.aload_n 0, 1) := by decide +kernel
theorem dX7_income_12 : decode cX7_income 12 = .ok (.getfield 36, 3) := by decide +kernel
theorem dX7_income_15 : decode cX7_income 15 = .ok (.aload_n 0, 1) := by decide +kernel
theorem dX7_income_16 : decode cX7_income 16 = .ok (.getfield 10, 3) := by decide +kernel
theorem dX7_income_19 : decode cX7_income 19 = .ok (.iload_n 1, 1) := by decide +kernel
theorem dX7_income_20 : decode cX7_income 20 = .ok (.invokevirtual 80, 3) := by decide +kernel
theorem dX7_income_23 : decode cX7_income 23 = .ok (.invokevirtual 56, 3) := by decide +kernel
theorem dX7_income_26 : decode cX7_income 26 = .ok (.ireturn, 1) := by decide +kernel
theorem dX7_pay_0 : decode cX7_pay 0 = .ok (.aload_n 0, 1) := by decide +kernel
theorem dX7_pay_1 : decode cX7_pay 1 = .ok (.getfield 36, 3) := by decide +kernel
theorem dX7_pay_4 : decode cX7_pay 4 = .ok (.aload_n 0, 1) := by decide +kernel
theorem dX7_pay_5 : decode cX7_pay 5 = .ok (.getfield 10, 3) := by decide +kernel
theorem dX7_pay_8 : decode cX7_pay 8 = .ok (.invokevirtual 48, 3) := by decide +kernel
theorem dX7_pay_11 : decode cX7_pay 11 = .ok (.aload_n 0, 1) := by decide +kernel
theorem dX7_pay_12 : decode cX7_pay 12 = .ok (.getfield 36, 3) := by decide +kernel
theorem dX7_pay_15 : decode cX7_pay 15 = .ok (.aload_n 0, 1) := by decide +kernel
theorem dX7_pay_16 : decode cX7_pay 16 = .ok (.getfield 10, 3) := by decide +kernel
theorem dX7_pay_19 : decode cX7_pay 19 = .ok (.invokevirtual 83, 3) := by decide +kernel
theorem dX7_pay_22 : decode cX7_pay 22 = .ok (.invokevirtual 56, 3) := by decide +kernel
theorem dX7_pay_25 : decode cX7_pay 25 = .ok (.ireturn, 1) := by decide +kernel
theorem dX7_ofHolder_0 : decode cX7_ofHolder 0 = .ok (.iload_n 1, 1) := by decide +kernel
theorem dX7_ofHolder_1 : decode cX7_ofHolder 1 = .ok (.invokestatic 87, 3) := by decide +kernel
theorem dX7_ofHolder_4 : decode cX7_ofHolder 4 = .ok (.ifCond .ne 5, 3) := by decide +kernel
theorem dX7_ofHolder_7 : decode cX7_ofHolder 7 = .ok (.iconst (-1), 1) := by decide +kernel
theorem dX7_ofHolder_8 : decode cX7_ofHolder 8 = .ok (.ireturn, 1) := by decide +kernel
theorem dX7_ofHolder_9 : decode cX7_ofHolder 9 = .ok (.iload_n 2, 1) := by decide +kernel
theorem dX7_ofHolder_10 : decode cX7_ofHolder 10 = .ok (.ifCond .lt 9, 3) := by decide +kernel
theorem dX7_ofHolder_13 : decode cX7_ofHolder 13 = .ok (.iload_n 2, 1) := by decide +kernel
theorem dX7_ofHolder_14 : decode cX7_ofHolder 14 = .ok (.bipush 9, 2) := by decide +kernel
theorem dX7_ofHolder_16 : decode cX7_ofHolder 16 = .ok (.if_icmp .lt 6, 3) := by decide +kernel
theorem dX7_ofHolder_19 : decode cX7_ofHolder 19 = .ok (.bipush (-2), 2) := by decide +kernel
theorem dX7_ofHolder_21 : decode cX7_ofHolder 21 = .ok (.ireturn, 1) := by decide +kernel
theorem dX7_ofHolder_22 : decode cX7_ofHolder 22 = .ok (.aload_n 0, 1) := by decide +kernel
theorem dX7_ofHolder_23 : decode cX7_ofHolder 23 = .ok (.getfield 10, 3) := by decide +kernel
theorem dX7_ofHolder_26 : decode cX7_ofHolder 26 = .ok (.getfield 91, 3) := by decide +kernel
theorem dX7_ofHolder_29 : decode cX7_ofHolder 29 = .ok (.iload_n 1, 1) := by decide +kernel
theorem dX7_ofHolder_30 : decode cX7_ofHolder 30 = .ok (.aaload, 1) := by decide +kernel
theorem dX7_ofHolder_31 : decode cX7_ofHolder 31 = .ok (.astore_n 3, 1) := by decide +kernel
theorem dX7_ofHolder_32 : decode cX7_ofHolder 32 = .ok (.iload_n 2, 1) := by decide +kernel
theorem dX7_ofHolder_33 : decode cX7_ofHolder 33 = .ok (.tableswitch 102 0 7 #[47, 53, 59, 65, 78, 84, 90, 96], 47) := by decide +kernel
theorem dX7_ofHolder_80 : decode cX7_ofHolder 80 = .ok (.aload_n 3, 1) := by decide +kernel
theorem dX7_ofHolder_81 : decode cX7_ofHolder 81 = .ok (.invokevirtual 95, 3) := by decide +kernel
theorem dX7_ofHolder_84 : decode cX7_ofHolder 84 = .ok (.l2i, 1) := by decide +kernel
theorem dX7_ofHolder_85 : decode cX7_ofHolder 85 = .ok (.ireturn, 1) := by decide +kernel
theorem dX7_ofHolder_86 : decode cX7_ofHolder 86 = .ok (.aload_n 3, 1) := by decide +kernel
theorem dX7_ofHolder_87 : decode cX7_ofHolder 87 = .ok (.getfield 101, 3) := by decide +kernel
theorem dX7_ofHolder_90 : decode cX7_ofHolder 90 = .ok (.l2i, 1) := by decide +kernel
theorem dX7_ofHolder_91 : decode cX7_ofHolder 91 = .ok (.ireturn, 1) := by decide +kernel
theorem dX7_ofHolder_92 : decode cX7_ofHolder 92 = .ok (.aload_n 3, 1) := by decide +kernel
theorem dX7_ofHolder_93 : decode cX7_ofHolder 93 = .ok (.getfield 105, 3) := by decide +kernel
theorem dX7_ofHolder_96 : decode cX7_ofHolder 96 = .ok (.l2i, 1) := by decide +kernel
theorem dX7_ofHolder_97 : decode cX7_ofHolder 97 = .ok (.ireturn, 1) := by decide +kernel
theorem dX7_ofHolder_98 : decode cX7_ofHolder 98 = .ok (.aload_n 0, 1) := by decide +kernel
theorem dX7_ofHolder_99 : decode cX7_ofHolder 99 = .ok (.getfield 10, 3) := by decide +kernel
theorem dX7_ofHolder_102 : decode cX7_ofHolder 102 = .ok (.getfield 108, 3) := by decide +kernel
theorem dX7_ofHolder_105 : decode cX7_ofHolder 105 = .ok (.iload_n 1, 1) := by decide +kernel
theorem dX7_ofHolder_106 : decode cX7_ofHolder 106 = .ok (.invokevirtual 112, 3) := by decide +kernel
theorem dX7_ofHolder_109 : decode cX7_ofHolder 109 = .ok (.l2i, 1) := by decide +kernel
theorem dX7_ofHolder_110 : decode cX7_ofHolder 110 = .ok (.ireturn, 1) := by decide +kernel
theorem dX7_ofHolder_111 : decode cX7_ofHolder 111 = .ok (.aload_n 3, 1) := by decide +kernel
theorem dX7_ofHolder_112 : decode cX7_ofHolder 112 = .ok (.getfield 118, 3) := by decide +kernel
theorem dX7_ofHolder_115 : decode cX7_ofHolder 115 = .ok (.l2i, 1) := by decide +kernel
theorem dX7_ofHolder_116 : decode cX7_ofHolder 116 = .ok (.ireturn, 1) := by decide +kernel
theorem dX7_ofHolder_117 : decode cX7_ofHolder 117 = .ok (.aload_n 3, 1) := by decide +kernel
theorem dX7_ofHolder_118 : decode cX7_ofHolder 118 = .ok (.getfield 121, 3) := by decide +kernel
theorem dX7_ofHolder_121 : decode cX7_ofHolder 121 = .ok (.l2i, 1) := by decide +kernel
theorem dX7_ofHolder_122 : decode cX7_ofHolder 122 = .ok (.ireturn, 1) := by decide +kernel
theorem dX7_ofHolder_123 : decode cX7_ofHolder 123 = .ok (.aload_n 3, 1) := by decide +kernel
theorem dX7_ofHolder_124 : decode cX7_ofHolder 124 = .ok (.getfield 124, 3) := by decide +kernel
theorem dX7_ofHolder_127 : decode cX7_ofHolder 127 = .ok (.l2i, 1) := by decide +kernel
theorem dX7_ofHolder_128 : decode cX7_ofHolder 128 = .ok (.ireturn, 1) := by decide +kernel
theorem dX7_ofHolder_129 : decode cX7_ofHolder 129 = .ok (.aload_n 3, 1) := by decide +kernel
theorem dX7_ofHolder_130 : decode cX7_ofHolder 130 = .ok (.getfield 127, 3) := by decide +kernel
theorem dX7_ofHolder_133 : decode cX7_ofHolder 133 = .ok (.l2i, 1) := by decide +kernel
theorem dX7_ofHolder_134 : decode cX7_ofHolder 134 = .ok (.ireturn, 1) := by decide +kernel
theorem dX7_ofHolder_135 : decode cX7_ofHolder 135 = .ok (.aload_n 3, 1) := by decide +kernel
theorem dX7_ofHolder_136 : decode cX7_ofHolder 136 = .ok (.getfield 130, 3) := by decide +kernel
theorem dX7_ofHolder_139 : decode cX7_ofHolder 139 = .ok (.l2i, 1) := by decide +kernel
theorem dX7_ofHolder_140 : decode cX7_ofHolder 140 = .ok (.ireturn, 1) := by decide +kernel
theorem dX7_count_0 : decode cX7_count 0 = .ok (.iload_n 1, 1) := by decide +kernel
theorem dX7_count_1 : decode cX7_count 1 = .ok (.ifCond .lt 9, 3) := by decide +kernel
theorem dX7_count_4 : decode cX7_count 4 = .ok (.iload_n 1, 1) := by decide +kernel
theorem dX7_count_5 : decode cX7_count 5 = .ok (.bipush 19, 2) := by decide +kernel
theorem dX7_count_7 : decode cX7_count 7 = .ok (.if_icmp .lt 6, 3) := by decide +kernel
theorem dX7_count_10 : decode cX7_count 10 = .ok (.bipush (-2), 2) := by decide +kernel
theorem dX7_count_12 : decode cX7_count 12 = .ok (.ireturn, 1) := by decide +kernel
theorem dX7_count_13 : decode cX7_count 13 = .ok (.iload_n 1, 1) := by decide +kernel
theorem dX7_count_14 : decode cX7_count 14 = .ok (.tableswitch 229 0 18 #[90, 99, 107, 115, 124, 133, 142, 151, 160, 168, 179, 190, 229, 229, 229, 229, 229, 213, 221], 90) := by decide +kernel
theorem dX7_count_104 : decode cX7_count 104 = .ok (.aload_n 0, 1) := by decide +kernel
theorem dX7_count_105 : decode cX7_count 105 = .ok (.getfield 10, 3) := by decide +kernel
theorem dX7_count_108 : decode cX7_count 108 = .ok (.getfield 133, 3) := by decide +kernel
theorem dX7_count_111 : decode cX7_count 111 = .ok (.l2i, 1) := by decide +kernel
theorem dX7_count_112 : decode cX7_count 112 = .ok (.ireturn, 1) := by decide +kernel
theorem dX7_count_113 : decode cX7_count 113 = .ok (.aload_n 0, 1) := by decide +kernel
theorem dX7_count_114 : decode cX7_count 114 = .ok (.getfield 10, 3) := by decide +kernel
theorem dX7_count_117 : decode cX7_count 117 = .ok (.getfield 136, 3) := by decide +kernel
theorem dX7_count_120 : decode cX7_count 120 = .ok (.ireturn, 1) := by decide +kernel
theorem dX7_count_121 : decode cX7_count 121 = .ok (.aload_n 0, 1) := by decide +kernel
theorem dX7_count_122 : decode cX7_count 122 = .ok (.getfield 10, 3) := by decide +kernel
theorem dX7_count_125 : decode cX7_count 125 = .ok (.getfield 139, 3) := by decide +kernel
theorem dX7_count_128 : decode cX7_count 128 = .ok (.ireturn, 1) := by decide +kernel
theorem dX7_count_129 : decode cX7_count 129 = .ok (.aload_n 0, 1) := by decide +kernel
theorem dX7_count_130 : decode cX7_count 130 = .ok (.getfield 10, 3) := by decide +kernel
theorem dX7_count_133 : decode cX7_count 133 = .ok (.invokevirtual 142, 3) := by decide +kernel
theorem dX7_count_136 : decode cX7_count 136 = .ok (.l2i, 1) := by decide +kernel
theorem dX7_count_137 : decode cX7_count 137 = .ok (.ireturn, 1) := by decide +kernel
theorem dX7_count_138 : decode cX7_count 138 = .ok (.aload_n 0, 1) := by decide +kernel
theorem dX7_count_139 : decode cX7_count 139 = .ok (.getfield 10, 3) := by decide +kernel
theorem dX7_count_142 : decode cX7_count 142 = .ok (.invokevirtual 145, 3) := by decide +kernel
theorem dX7_count_145 : decode cX7_count 145 = .ok (.l2i, 1) := by decide +kernel
theorem dX7_count_146 : decode cX7_count 146 = .ok (.ireturn, 1) := by decide +kernel
theorem dX7_count_147 : decode cX7_count 147 = .ok (.aload_n 0, 1) := by decide +kernel
theorem dX7_count_148 : decode cX7_count 148 = .ok (.getfield 10, 3) := by decide +kernel
theorem dX7_count_151 : decode cX7_count 151 = .ok (.invokevirtual 146, 3) := by decide +kernel
theorem dX7_count_154 : decode cX7_count 154 = .ok (.l2i, 1) := by decide +kernel
theorem dX7_count_155 : decode cX7_count 155 = .ok (.ireturn, 1) := by decide +kernel
theorem dX7_count_156 : decode cX7_count 156 = .ok (.aload_n 0, 1) := by decide +kernel
theorem dX7_count_157 : decode cX7_count 157 = .ok (.getfield 10, 3) := by decide +kernel
theorem dX7_count_160 : decode cX7_count 160 = .ok (.getfield 148, 3) := by decide +kernel
theorem dX7_count_163 : decode cX7_count 163 = .ok (.l2i, 1) := by decide +kernel
theorem dX7_count_164 : decode cX7_count 164 = .ok (.ireturn, 1) := by decide +kernel
theorem dX7_count_165 : decode cX7_count 165 = .ok (.aload_n 0, 1) := by decide +kernel
theorem dX7_count_166 : decode cX7_count 166 = .ok (.getfield 10, 3) := by decide +kernel
theorem dX7_count_169 : decode cX7_count 169 = .ok (.getfield 151, 3) := by decide +kernel
theorem dX7_count_172 : decode cX7_count 172 = .ok (.l2i, 1) := by decide +kernel
theorem dX7_count_173 : decode cX7_count 173 = .ok (.ireturn, 1) := by decide +kernel
theorem dX7_count_174 : decode cX7_count 174 = .ok (.aload_n 0, 1) := by decide +kernel
theorem dX7_count_175 : decode cX7_count 175 = .ok (.getfield 10, 3) := by decide +kernel
theorem dX7_count_178 : decode cX7_count 178 = .ok (.getfield 154, 3) := by decide +kernel
theorem dX7_count_181 : decode cX7_count 181 = .ok (.ireturn, 1) := by decide +kernel
theorem dX7_count_182 : decode cX7_count 182 = .ok (.aload_n 0, 1) := by decide +kernel
theorem dX7_count_183 : decode cX7_count 183 = .ok (.getfield 10, 3) := by decide +kernel
theorem dX7_count_186 : decode cX7_count 186 = .ok (.getfield 157, 3) := by decide +kernel
theorem dX7_count_189 : decode cX7_count 189 = .ok (.getfield 160, 3) := by decide +kernel
theorem dX7_count_192 : decode cX7_count 192 = .ok (.ireturn, 1) := by decide +kernel
theorem dX7_count_193 : decode cX7_count 193 = .ok (.aload_n 0, 1) := by decide +kernel
theorem dX7_count_194 : decode cX7_count 194 = .ok (.getfield 10, 3) := by decide +kernel
theorem dX7_count_197 : decode cX7_count 197 = .ok (.getfield 108, 3) := by decide +kernel
theorem dX7_count_200 : decode cX7_count 200 = .ok (.getfield 160, 3) := by decide +kernel
theorem dX7_count_203 : decode cX7_count 203 = .ok (.ireturn, 1) := by decide +kernel
theorem dX7_count_204 : decode cX7_count 204 = .ok (.aload_n 0, 1) := by decide +kernel
theorem dX7_count_205 : decode cX7_count 205 = .ok (.getfield 10, 3) := by decide +kernel
theorem dX7_count_208 : decode cX7_count 208 = .ok (.getfield 108, 3) := by decide +kernel
theorem dX7_count_211 : decode cX7_count 211 = .ok (.iconst 0, 1) := by decide +kernel
theorem dX7_count_212 : decode cX7_count 212 = .ok (.aload_n 0, 1) := by decide +kernel
theorem dX7_count_213 : decode cX7_count 213 = .ok (.getfield 10, 3) := by decide +kernel
theorem dX7_count_216 : decode cX7_count 216 = .ok (.getfield 108, 3) := by decide +kernel
theorem dX7_count_219 : decode cX7_count 219 = .ok (.getfield 160, 3) := by decide +kernel
theorem dX7_count_222 : decode cX7_count 222 = .ok (.invokevirtual 163, 3) := by decide +kernel
theorem dX7_count_225 : decode cX7_count 225 = .ok (.l2i, 1) := by decide +kernel
theorem dX7_count_226 : decode cX7_count 226 = .ok (.ireturn, 1) := by decide +kernel
theorem dX7_count_227 : decode cX7_count 227 = .ok (.aload_n 0, 1) := by decide +kernel
theorem dX7_count_228 : decode cX7_count 228 = .ok (.getfield 29, 3) := by decide +kernel
theorem dX7_count_231 : decode cX7_count 231 = .ok (.getfield 167, 3) := by decide +kernel
theorem dX7_count_234 : decode cX7_count 234 = .ok (.ireturn, 1) := by decide +kernel
theorem dX7_count_235 : decode cX7_count 235 = .ok (.aload_n 0, 1) := by decide +kernel
theorem dX7_count_236 : decode cX7_count 236 = .ok (.getfield 36, 3) := by decide +kernel
theorem dX7_count_239 : decode cX7_count 239 = .ok (.getfield 170, 3) := by decide +kernel
theorem dX7_count_242 : decode cX7_count 242 = .ok (.ireturn, 1) := by decide +kernel
theorem dX7_count_243 : decode cX7_count 243 = .ok (.aload_n 0, 1) := by decide +kernel
theorem dX7_count_244 : decode cX7_count 244 = .ok (.getfield 10, 3) := by decide +kernel
theorem dX7_count_247 : decode cX7_count 247 = .ok (.getfield 171, 3) := by decide +kernel
theorem dX7_count_250 : decode cX7_count 250 = .ok (.iload_n 1, 1) := by decide +kernel
theorem dX7_count_251 : decode cX7_count 251 = .ok (.bipush 12, 2) := by decide +kernel
theorem dX7_count_253 : decode cX7_count 253 = .ok (.isub, 1) := by decide +kernel
theorem dX7_count_254 : decode cX7_count 254 = .ok (.iaload, 1) := by decide +kernel
theorem dX7_count_255 : decode cX7_count 255 = .ok (.ireturn, 1) := by decide +kernel
theorem dX7_order_0 : decode cX7_order 0 = .ok (.iload_n 1, 1) := by decide +kernel
theorem dX7_order_1 : decode cX7_order 1 = .ok (.ifCond .lt 17, 3) := by decide +kernel
theorem dX7_order_4 : decode cX7_order 4 = .ok (.iload_n 1, 1) := by decide +kernel
theorem dX7_order_5 : decode cX7_order 5 = .ok (.iconst 1, 1) := by decide +kernel
theorem dX7_order_6 : decode cX7_order 6 = .ok (.if_icmp .gt 12, 3) := by decide +kernel
theorem dX7_order_9 : decode cX7_order 9 = .ok (.iload_n 3, 1) := by decide +kernel
theorem dX7_order_10 : decode cX7_order 10 = .ok (.ifCond .lt 8, 3) := by decide +kernel
theorem dX7_order_13 : decode cX7_order 13 = .ok (.iload_n 3, 1) := by decide +kernel
theorem dX7_order_14 : decode cX7_order 14 = .ok (.iconst 3, 1) := by decide +kernel
theorem dX7_order_15 : decode cX7_order 15 = .ok (.if_icmp .lt 6, 3) := by decide +kernel
theorem dX7_order_18 : decode cX7_order 18 = .ok (.bipush (-2), 2) := by decide +kernel
theorem dX7_order_20 : decode cX7_order 20 = .ok (.ireturn, 1) := by decide +kernel
theorem dX7_order_21 : decode cX7_order 21 = .ok (.iload_n 1, 1) := by decide +kernel
theorem dX7_order_22 : decode cX7_order 22 = .ok (.ifCond .ne 13, 3) := by decide +kernel
theorem dX7_order_25 : decode cX7_order 25 = .ok (.aload_n 0, 1) := by decide +kernel
theorem dX7_order_26 : decode cX7_order 26 = .ok (.getfield 10, 3) := by decide +kernel
theorem dX7_order_29 : decode cX7_order 29 = .ok (.getfield 157, 3) := by decide +kernel
theorem dX7_order_32 : decode cX7_order 32 = .ok (.goto 10, 3) := by decide +kernel
theorem dX7_order_35 : decode cX7_order 35 = .ok (.aload_n 0, 1) := by decide +kernel
theorem dX7_order_36 : decode cX7_order 36 = .ok (.getfield 10, 3) := by decide +kernel
theorem dX7_order_39 : decode cX7_order 39 = .ok (.getfield 108, 3) := by decide +kernel
theorem dX7_order_42 : decode cX7_order 42 = .ok (.astore 4, 2) := by decide +kernel
theorem dX7_order_44 : decode cX7_order 44 = .ok (.iload_n 2, 1) := by decide +kernel
theorem dX7_order_45 : decode cX7_order 45 = .ok (.ifCond .lt 12, 3) := by decide +kernel
theorem dX7_order_48 : decode cX7_order 48 = .ok (.iload_n 2, 1) := by decide +kernel
theorem dX7_order_49 : decode cX7_order 49 = .ok (.aload 4, 2) := by decide +kernel
theorem dX7_order_51 : decode cX7_order 51 = .ok (.getfield 160, 3) := by decide +kernel
theorem dX7_order_54 : decode cX7_order 54 = .ok (.if_icmp .lt 5, 3) := by decide +kernel
theorem dX7_order_57 : decode cX7_order 57 = .ok (.iconst (-1), 1) := by decide +kernel
theorem dX7_order_58 : decode cX7_order 58 = .ok (.ireturn, 1) := by decide +kernel
theorem dX7_order_59 : decode cX7_order 59 = .ok (.iload_n 3, 1) := by decide +kernel
theorem dX7_order_60 : decode cX7_order 60 = .ok (.lookupswitch 44 #[(0, 28), (1, 36)], 28) := by decide +kernel
theorem dX7_order_88 : decode cX7_order 88 = .ok (.aload 4, 2) := by decide +kernel
theorem dX7_order_90 : decode cX7_order 90 = .ok (.getfield 175, 3) := by decide +kernel
theorem dX7_order_93 : decode cX7_order 93 = .ok (.iload_n 2, 1) := by decide +kernel
theorem dX7_order_94 : decode cX7_order 94 = .ok (.iaload, 1) := by decide +kernel
theorem dX7_order_95 : decode cX7_order 95 = .ok (.ireturn, 1) := by decide +kernel
theorem dX7_order_96 : decode cX7_order 96 = .ok (.aload 4, 2) := by decide +kernel
theorem dX7_order_98 : decode cX7_order 98 = .ok (.getfield 177, 3) := by decide +kernel
theorem dX7_order_101 : decode cX7_order 101 = .ok (.iload_n 2, 1) := by decide +kernel
theorem dX7_order_102 : decode cX7_order 102 = .ok (.iaload, 1) := by decide +kernel
theorem dX7_order_103 : decode cX7_order 103 = .ok (.ireturn, 1) := by decide +kernel
theorem dX7_order_104 : decode cX7_order 104 = .ok (.aload 4, 2) := by decide +kernel
theorem dX7_order_106 : decode cX7_order 106 = .ok (.getfield 180, 3) := by decide +kernel
theorem dX7_order_109 : decode cX7_order 109 = .ok (.iload_n 2, 1) := by decide +kernel
theorem dX7_order_110 : decode cX7_order 110 = .ok (.iaload, 1) := by decide +kernel
theorem dX7_order_111 : decode cX7_order 111 = .ok (.ireturn, 1) := by decide +kernel
theorem dX7_lastDay_0 : decode cX7_lastDay 0 = .ok (.iload_n 1, 1) := by decide +kernel
theorem dX7_lastDay_1 : decode cX7_lastDay 1 = .ok (.ifCond .lt 9, 3) := by decide +kernel
theorem dX7_lastDay_4 : decode cX7_lastDay 4 = .ok (.iload_n 1, 1) := by decide +kernel
theorem dX7_lastDay_5 : decode cX7_lastDay 5 = .ok (.bipush 6, 2) := by decide +kernel
theorem dX7_lastDay_7 : decode cX7_lastDay 7 = .ok (.if_icmp .lt 6, 3) := by decide +kernel
theorem dX7_lastDay_10 : decode cX7_lastDay 10 = .ok (.bipush (-2), 2) := by decide +kernel
theorem dX7_lastDay_12 : decode cX7_lastDay 12 = .ok (.ireturn, 1) := by decide +kernel
theorem dX7_lastDay_13 : decode cX7_lastDay 13 = .ok (.aload_n 0, 1) := by decide +kernel
theorem dX7_lastDay_14 : decode cX7_lastDay 14 = .ok (.getfield 10, 3) := by decide +kernel
theorem dX7_lastDay_17 : decode cX7_lastDay 17 = .ok (.getfield 183, 3) := by decide +kernel
theorem dX7_lastDay_20 : decode cX7_lastDay 20 = .ok (.astore_n 2, 1) := by decide +kernel
theorem dX7_lastDay_21 : decode cX7_lastDay 21 = .ok (.aload_n 2, 1) := by decide +kernel
theorem dX7_lastDay_22 : decode cX7_lastDay 22 = .ok (.getfield 187, 3) := by decide +kernel
theorem dX7_lastDay_25 : decode cX7_lastDay 25 = .ok (.ifCond .ne 6, 3) := by decide +kernel
theorem dX7_lastDay_28 : decode cX7_lastDay 28 = .ok (.bipush (-6), 2) := by decide +kernel
theorem dX7_lastDay_30 : decode cX7_lastDay 30 = .ok (.ireturn, 1) := by decide +kernel
theorem dX7_lastDay_31 : decode cX7_lastDay 31 = .ok (.iload_n 1, 1) := by decide +kernel
theorem dX7_lastDay_32 : decode cX7_lastDay 32 = .ok (.tableswitch 66 0 4 #[36, 42, 48, 53, 60], 36) := by decide +kernel
theorem dX7_lastDay_68 : decode cX7_lastDay 68 = .ok (.aload_n 2, 1) := by decide +kernel
theorem dX7_lastDay_69 : decode cX7_lastDay 69 = .ok (.getfield 193, 3) := by decide +kernel
theorem dX7_lastDay_72 : decode cX7_lastDay 72 = .ok (.l2i, 1) := by decide +kernel
theorem dX7_lastDay_73 : decode cX7_lastDay 73 = .ok (.ireturn, 1) := by decide +kernel
theorem dX7_lastDay_74 : decode cX7_lastDay 74 = .ok (.aload_n 2, 1) := by decide +kernel
theorem dX7_lastDay_75 : decode cX7_lastDay 75 = .ok (.getfield 196, 3) := by decide +kernel
theorem dX7_lastDay_78 : decode cX7_lastDay 78 = .ok (.l2i, 1) := by decide +kernel
theorem dX7_lastDay_79 : decode cX7_lastDay 79 = .ok (.ireturn, 1) := by decide +kernel
theorem dX7_lastDay_80 : decode cX7_lastDay 80 = .ok (.aload_n 2, 1) := by decide +kernel
theorem dX7_lastDay_81 : decode cX7_lastDay 81 = .ok (.getfield 199, 3) := by decide +kernel
theorem dX7_lastDay_84 : decode cX7_lastDay 84 = .ok (.ireturn, 1) := by decide +kernel
theorem dX7_lastDay_85 : decode cX7_lastDay 85 = .ok (.aload_n 2, 1) := by decide +kernel
theorem dX7_lastDay_86 : decode cX7_lastDay 86 = .ok (.getfield 202, 3) := by decide +kernel
theorem dX7_lastDay_89 : decode cX7_lastDay 89 = .ok (.iconst 2, 1) := by decide +kernel
theorem dX7_lastDay_90 : decode cX7_lastDay 90 = .ok (.iadd, 1) := by decide +kernel
theorem dX7_lastDay_91 : decode cX7_lastDay 91 = .ok (.ireturn, 1) := by decide +kernel
theorem dX7_lastDay_92 : decode cX7_lastDay 92 = .ok (.aload_n 2, 1) := by decide +kernel
theorem dX7_lastDay_93 : decode cX7_lastDay 93 = .ok (.getfield 205, 3) := by decide +kernel
theorem dX7_lastDay_96 : decode cX7_lastDay 96 = .ok (.l2i, 1) := by decide +kernel
theorem dX7_lastDay_97 : decode cX7_lastDay 97 = .ok (.ireturn, 1) := by decide +kernel
theorem dX7_lastDay_98 : decode cX7_lastDay 98 = .ok (.aload_n 2, 1) := by decide +kernel
theorem dX7_lastDay_99 : decode cX7_lastDay 99 = .ok (.getfield 208, 3) := by decide +kernel
theorem dX7_lastDay_102 : decode cX7_lastDay 102 = .ok (.l2i, 1) := by decide +kernel
theorem dX7_lastDay_103 : decode cX7_lastDay 103 = .ok (.ireturn, 1) := by decide +kernel
theorem dX7_price_0 : decode cX7_price 0 = .ok (.iload_n 1, 1) := by decide +kernel
theorem dX7_price_1 : decode cX7_price 1 = .ok (.ifCond .lt 8, 3) := by decide +kernel
theorem dX7_price_4 : decode cX7_price 4 = .ok (.iload_n 1, 1) := by decide +kernel
theorem dX7_price_5 : decode cX7_price 5 = .ok (.iconst 4, 1) := by decide +kernel
theorem dX7_price_6 : decode cX7_price 6 = .ok (.if_icmp .lt 7, 3) := by decide +kernel
theorem dX7_price_9 : decode cX7_price 9 = .ok (.ldc2_w 211, 3) := by decide +kernel
theorem dX7_price_12 : decode cX7_price 12 = .ok (.lreturn, 1) := by decide +kernel
theorem dX7_price_13 : decode cX7_price 13 = .ok (.iload_n 1, 1) := by decide +kernel
theorem dX7_price_14 : decode cX7_price 14 = .ok (.tableswitch 76 0 2 #[26, 34, 46], 26) := by decide +kernel
theorem dX7_price_40 : decode cX7_price 40 = .ok (.aload_n 0, 1) := by decide +kernel
theorem dX7_price_41 : decode cX7_price 41 = .ok (.getfield 10, 3) := by decide +kernel
theorem dX7_price_44 : decode cX7_price 44 = .ok (.invokevirtual 213, 3) := by decide +kernel
theorem dX7_price_47 : decode cX7_price 47 = .ok (.lreturn, 1) := by decide +kernel
theorem dX7_price_48 : decode cX7_price 48 = .ok (.aload_n 0, 1) := by decide +kernel
theorem dX7_price_49 : decode cX7_price 49 = .ok (.getfield 22, 3) := by decide +kernel
theorem dX7_price_52 : decode cX7_price 52 = .ok (.aload_n 0, 1) := by decide +kernel
theorem dX7_price_53 : decode cX7_price 53 = .ok (.getfield 10, 3) := by decide +kernel
theorem dX7_price_56 : decode cX7_price 56 = .ok (.invokevirtual 216, 3) := by decide +kernel
theorem dX7_price_59 : decode cX7_price 59 = .ok (.lreturn, 1) := by decide +kernel
theorem dX7_price_60 : decode cX7_price 60 = .ok (.aload_n 0, 1) := by decide +kernel
theorem dX7_price_61 : decode cX7_price 61 = .ok (.getfield 10, 3) := by decide +kernel
theorem dX7_price_64 : decode cX7_price 64 = .ok (.getfield 183, 3) := by decide +kernel
theorem dX7_price_67 : decode cX7_price 67 = .ok (.getfield 187, 3) := by decide +kernel
theorem dX7_price_70 : decode cX7_price 70 = .ok (.ifCond .eq 16, 3) := by decide +kernel
theorem dX7_price_73 : decode cX7_price 73 = .ok (.aload_n 0, 1) := by decide +kernel
theorem dX7_price_74 : decode cX7_price 74 = .ok (.getfield 10, 3) := by decide +kernel
theorem dX7_price_77 : decode cX7_price 77 = .ok (.getfield 183, 3) := by decide +kernel
theorem dX7_price_80 : decode cX7_price 80 = .ok (.getfield 220, 3) := by decide +kernel
theorem dX7_price_83 : decode cX7_price 83 = .ok (.goto 6, 3) := by decide +kernel
theorem dX7_price_86 : decode cX7_price 86 = .ok (.ldc2_w 223, 3) := by decide +kernel
theorem dX7_price_89 : decode cX7_price 89 = .ok (.lreturn, 1) := by decide +kernel
theorem dX7_price_90 : decode cX7_price 90 = .ok (.aload_n 0, 1) := by decide +kernel
theorem dX7_price_91 : decode cX7_price 91 = .ok (.getfield 10, 3) := by decide +kernel
theorem dX7_price_94 : decode cX7_price 94 = .ok (.invokevirtual 225, 3) := by decide +kernel
theorem dX7_price_97 : decode cX7_price 97 = .ok (.lreturn, 1) := by decide +kernel
theorem dX7_exitIn_0 : decode cX7_exitIn 0 = .ok (.iload_n 1, 1) := by decide +kernel
theorem dX7_exitIn_1 : decode cX7_exitIn 1 = .ok (.invokestatic 87, 3) := by decide +kernel
theorem dX7_exitIn_4 : decode cX7_exitIn 4 = .ok (.ifCond .ne 5, 3) := by decide +kernel
theorem dX7_exitIn_7 : decode cX7_exitIn 7 = .ok (.iconst (-1), 1) := by decide +kernel
theorem dX7_exitIn_8 : decode cX7_exitIn 8 = .ok (.ireturn, 1) := by decide +kernel
theorem dX7_exitIn_9 : decode cX7_exitIn 9 = .ok (.aload_n 0, 1) := by decide +kernel
theorem dX7_exitIn_10 : decode cX7_exitIn 10 = .ok (.getfield 16, 3) := by decide +kernel
theorem dX7_exitIn_13 : decode cX7_exitIn 13 = .ok (.aload_n 0, 1) := by decide +kernel
theorem dX7_exitIn_14 : decode cX7_exitIn 14 = .ok (.getfield 10, 3) := by decide +kernel
theorem dX7_exitIn_17 : decode cX7_exitIn 17 = .ok (.invokevirtual 228, 3) := by decide +kernel
theorem dX7_exitIn_20 : decode cX7_exitIn 20 = .ok (.iconst 0, 1) := by decide +kernel
theorem dX7_exitIn_21 : decode cX7_exitIn 21 = .ok (.istore_n 2, 1) := by decide +kernel
theorem dX7_exitIn_22 : decode cX7_exitIn 22 = .ok (.iload_n 2, 1) := by decide +kernel
theorem dX7_exitIn_23 : decode cX7_exitIn 23 = .ok (.bipush 60, 2) := by decide +kernel
theorem dX7_exitIn_25 : decode cX7_exitIn 25 = .ok (.if_icmp .gt 39, 3) := by decide +kernel
theorem dX7_exitIn_28 : decode cX7_exitIn 28 = .ok (.aload_n 0, 1) := by decide +kernel
theorem dX7_exitIn_29 : decode cX7_exitIn 29 = .ok (.getfield 16, 3) := by decide +kernel
theorem dX7_exitIn_32 : decode cX7_exitIn 32 = .ok (.getfield 108, 3) := by decide +kernel
theorem dX7_exitIn_35 : decode cX7_exitIn 35 = .ok (.iload_n 1, 1) := by decide +kernel
theorem dX7_exitIn_36 : decode cX7_exitIn 36 = .ok (.invokevirtual 112, 3) := by decide +kernel
theorem dX7_exitIn_39 : decode cX7_exitIn 39 = .ok (.lconst 0, 1) := by decide +kernel
theorem dX7_exitIn_40 : decode cX7_exitIn 40 = .ok (.lcmp, 1) := by decide +kernel
theorem dX7_exitIn_41 : decode cX7_exitIn 41 = .ok (.ifCond .ne 5, 3) := by decide +kernel
theorem dX7_exitIn_44 : decode cX7_exitIn 44 = .ok (.iload_n 2, 1) := by decide +kernel
theorem dX7_exitIn_45 : decode cX7_exitIn 45 = .ok (.ireturn, 1) := by decide +kernel
theorem dX7_exitIn_46 : decode cX7_exitIn 46 = .ok (.aload_n 0, 1) := by decide +kernel
theorem dX7_exitIn_47 : decode cX7_exitIn 47 = .ok (.getfield 22, 3) := by decide +kernel
theorem dX7_exitIn_50 : decode cX7_exitIn 50 = .ok (.aload_n 0, 1) := by decide +kernel
theorem dX7_exitIn_51 : decode cX7_exitIn 51 = .ok (.getfield 16, 3) := by decide +kernel
theorem dX7_exitIn_54 : decode cX7_exitIn 54 = .ok (.invokevirtual 70, 3) := by decide +kernel
theorem dX7_exitIn_57 : decode cX7_exitIn 57 = .ok (.pop, 1) := by decide +kernel
theorem dX7_exitIn_58 : decode cX7_exitIn 58 = .ok (.iinc 2 1, 3) := by decide +kernel
theorem dX7_exitIn_61 : decode cX7_exitIn 61 = .ok (.goto (-39), 3) := by decide +kernel
theorem dX7_exitIn_64 : decode cX7_exitIn 64 = .ok (.bipush (-6), 2) := by decide +kernel
theorem dX7_exitIn_66 : decode cX7_exitIn 66 = .ok (.ireturn, 1) := by decide +kernel
theorem dX7_fairSwing_0 : decode cX7_fairSwing 0 = .ok (.aload_n 0, 1) := by decide +kernel
theorem dX7_fairSwing_1 : decode cX7_fairSwing 1 = .ok (.getfield 10, 3) := by decide +kernel
theorem dX7_fairSwing_4 : decode cX7_fairSwing 4 = .ok (.invokevirtual 213, 3) := by decide +kernel
theorem dX7_fairSwing_7 : decode cX7_fairSwing 7 = .ok (.lstore_n 1, 1) := by decide +kernel
theorem dX7_fairSwing_8 : decode cX7_fairSwing 8 = .ok (.iconst 0, 1) := by decide +kernel
theorem dX7_fairSwing_9 : decode cX7_fairSwing 9 = .ok (.istore_n 3, 1) := by decide +kernel
theorem dX7_fairSwing_10 : decode cX7_fairSwing 10 = .ok (.iload_n 3, 1) := by decide +kernel
theorem dX7_fairSwing_11 : decode cX7_fairSwing 11 = .ok (.bipush 100, 2) := by decide +kernel
theorem dX7_fairSwing_13 : decode cX7_fairSwing 13 = .ok (.if_icmp .gt 56, 3) := by decide +kernel
theorem dX7_fairSwing_16 : decode cX7_fairSwing 16 = .ok (.aload_n 0, 1) := by decide +kernel
theorem dX7_fairSwing_17 : decode cX7_fairSwing 17 = .ok (.getfield 16, 3) := by decide +kernel
theorem dX7_fairSwing_20 : decode cX7_fairSwing 20 = .ok (.aload_n 0, 1) := by decide +kernel
theorem dX7_fairSwing_21 : decode cX7_fairSwing 21 = .ok (.getfield 10, 3) := by decide +kernel
theorem dX7_fairSwing_24 : decode cX7_fairSwing 24 = .ok (.invokevirtual 228, 3) := by decide +kernel
theorem dX7_fairSwing_27 : decode cX7_fairSwing 27 = .ok (.aload_n 0, 1) := by decide +kernel
theorem dX7_fairSwing_28 : decode cX7_fairSwing 28 = .ok (.getfield 16, 3) := by decide +kernel
theorem dX7_fairSwing_31 : decode cX7_fairSwing 31 = .ok (.getfield 171, 3) := by decide +kernel
theorem dX7_fairSwing_34 : decode cX7_fairSwing 34 = .ok (.iconst 2, 1) := by decide +kernel
theorem dX7_fairSwing_35 : decode cX7_fairSwing 35 = .ok (.iload_n 3, 1) := by decide +kernel
theorem dX7_fairSwing_36 : decode cX7_fairSwing 36 = .ok (.iastore, 1) := by decide +kernel
theorem dX7_fairSwing_37 : decode cX7_fairSwing 37 = .ok (.aload_n 0, 1) := by decide +kernel
theorem dX7_fairSwing_38 : decode cX7_fairSwing 38 = .ok (.getfield 22, 3) := by decide +kernel
theorem dX7_fairSwing_41 : decode cX7_fairSwing 41 = .ok (.aload_n 0, 1) := by decide +kernel
theorem dX7_fairSwing_42 : decode cX7_fairSwing 42 = .ok (.getfield 16, 3) := by decide +kernel
theorem dX7_fairSwing_45 : decode cX7_fairSwing 45 = .ok (.invokevirtual 70, 3) := by decide +kernel
theorem dX7_fairSwing_48 : decode cX7_fairSwing 48 = .ok (.pop, 1) := by decide +kernel
theorem dX7_fairSwing_49 : decode cX7_fairSwing 49 = .ok (.aload_n 0, 1) := by decide +kernel
theorem dX7_fairSwing_50 : decode cX7_fairSwing 50 = .ok (.getfield 16, 3) := by decide +kernel
theorem dX7_fairSwing_53 : decode cX7_fairSwing 53 = .ok (.invokevirtual 213, 3) := by decide +kernel
theorem dX7_fairSwing_56 : decode cX7_fairSwing 56 = .ok (.lload_n 1, 1) := by decide +kernel
theorem dX7_fairSwing_57 : decode cX7_fairSwing 57 = .ok (.lcmp, 1) := by decide +kernel
theorem dX7_fairSwing_58 : decode cX7_fairSwing 58 = .ok (.ifCond .lt 5, 3) := by decide +kernel
theorem dX7_fairSwing_61 : decode cX7_fairSwing 61 = .ok (.iload_n 3, 1) := by decide +kernel
theorem dX7_fairSwing_62 : decode cX7_fairSwing 62 = .ok (.ireturn, 1) := by decide +kernel
theorem dX7_fairSwing_63 : decode cX7_fairSwing 63 = .ok (.iinc 3 1, 3) := by decide +kernel
theorem dX7_fairSwing_66 : decode cX7_fairSwing 66 = .ok (.goto (-56), 3) := by decide +kernel
theorem dX7_fairSwing_69 : decode cX7_fairSwing 69 = .ok (.bipush (-6), 2) := by decide +kernel
theorem dX7_fairSwing_71 : decode cX7_fairSwing 71 = .ok (.ireturn, 1) := by decide +kernel
theorem dX7_put_0 : decode cX7_put 0 = .ok (.lload_n 1, 1) := by decide +kernel
theorem dX7_put_1 : decode cX7_put 1 = .ok (.invokestatic 231, 3) := by decide +kernel
theorem dX7_put_4 : decode cX7_put 4 = .ok (.istore_n 3, 1) := by decide +kernel
theorem dX7_put_5 : decode cX7_put 5 = .ok (.iload_n 3, 1) := by decide +kernel
theorem dX7_put_6 : decode cX7_put 6 = .ok (.ifCond .ne 6, 3) := by decide +kernel
theorem dX7_put_9 : decode cX7_put 9 = .ok (.bipush (-2), 2) := by decide +kernel
theorem dX7_put_11 : decode cX7_put 11 = .ok (.ireturn, 1) := by decide +kernel
theorem dX7_put_12 : decode cX7_put 12 = .ok (.aload_n 0, 1) := by decide +kernel
theorem dX7_put_13 : decode cX7_put 13 = .ok (.getfield 29, 3) := by decide +kernel
theorem dX7_put_16 : decode cX7_put 16 = .ok (.getfield 167, 3) := by decide +kernel
theorem dX7_put_19 : decode cX7_put 19 = .ok (.iload_n 3, 1) := by decide +kernel
theorem dX7_put_20 : decode cX7_put 20 = .ok (.iadd, 1) := by decide +kernel
theorem dX7_put_21 : decode cX7_put 21 = .ok (.bipush 80, 2) := by decide +kernel
theorem dX7_put_23 : decode cX7_put 23 = .ok (.if_icmp .le 6, 3) := by decide +kernel
theorem dX7_put_26 : decode cX7_put 26 = .ok (.bipush (-4), 2) := by decide +kernel
theorem dX7_put_28 : decode cX7_put 28 = .ok (.ireturn, 1) := by decide +kernel
theorem dX7_put_29 : decode cX7_put 29 = .ok (.aload_n 0, 1) := by decide +kernel
theorem dX7_put_30 : decode cX7_put 30 = .ok (.getfield 29, 3) := by decide +kernel
theorem dX7_put_33 : decode cX7_put 33 = .ok (.lload_n 1, 1) := by decide +kernel
theorem dX7_put_34 : decode cX7_put 34 = .ok (.iload_n 3, 1) := by decide +kernel
theorem dX7_put_35 : decode cX7_put 35 = .ok (.invokevirtual 235, 3) := by decide +kernel
theorem dX7_put_38 : decode cX7_put 38 = .ok (.aload_n 0, 1) := by decide +kernel
theorem dX7_put_39 : decode cX7_put 39 = .ok (.getfield 29, 3) := by decide +kernel
theorem dX7_put_42 : decode cX7_put 42 = .ok (.getfield 167, 3) := by decide +kernel
theorem dX7_put_45 : decode cX7_put 45 = .ok (.ireturn, 1) := by decide +kernel
theorem dX7_wipe_0 : decode cX7_wipe 0 = .ok (.aload_n 0, 1) := by decide +kernel
theorem dX7_wipe_1 : decode cX7_wipe 1 = .ok (.getfield 29, 3) := by decide +kernel
theorem dX7_wipe_4 : decode cX7_wipe 4 = .ok (.invokevirtual 239, 3) := by decide +kernel
theorem dX7_wipe_7 : decode cX7_wipe 7 = .ok (.ireturn, 1) := by decide +kernel
theorem dX7_fault_0 : decode cX7_fault 0 = .ok (.aload_n 0, 1) := by decide +kernel
theorem dX7_fault_1 : decode cX7_fault 1 = .ok (.getfield 29, 3) := by decide +kernel
theorem dX7_fault_4 : decode cX7_fault 4 = .ok (.invokevirtual 242, 3) := by decide +kernel
theorem dX7_fault_7 : decode cX7_fault 7 = .ok (.ireturn, 1) := by decide +kernel
theorem dX7_carryOut_0 : decode cX7_carryOut 0 = .ok (.aload_n 0, 1) := by decide +kernel
theorem dX7_carryOut_1 : decode cX7_carryOut 1 = .ok (.getfield 29, 3) := by decide +kernel
theorem dX7_carryOut_4 : decode cX7_carryOut 4 = .ok (.invokevirtual 242, 3) := by decide +kernel
theorem dX7_carryOut_7 : decode cX7_carryOut 7 = .ok (.bipush (-6), 2) := by decide +kernel
theorem dX7_carryOut_9 : decode cX7_carryOut 9 = .ok (.if_icmp .eq 6, 3) := by decide +kernel
theorem dX7_carryOut_12 : decode cX7_carryOut 12 = .ok (.bipush (-3), 2) := by decide +kernel
theorem dX7_carryOut_14 : decode cX7_carryOut 14 = .ok (.ireturn, 1) := by decide +kernel
theorem dX7_carryOut_15 : decode cX7_carryOut 15 = .ok (.aload_n 0, 1) := by decide +kernel
theorem dX7_carryOut_16 : decode cX7_carryOut 16 = .ok (.getfield 36, 3) := by decide +kernel
theorem dX7_carryOut_19 : decode cX7_carryOut 19 = .ok (.aload_n 0, 1) := by decide +kernel
theorem dX7_carryOut_20 : decode cX7_carryOut 20 = .ok (.getfield 10, 3) := by decide +kernel
theorem dX7_carryOut_23 : decode cX7_carryOut 23 = .ok (.invokevirtual 48, 3) := by decide +kernel
theorem dX7_carryOut_26 : decode cX7_carryOut 26 = .ok (.aload_n 0, 1) := by decide +kernel
theorem dX7_carryOut_27 : decode cX7_carryOut 27 = .ok (.invokevirtual 245, 3) := by decide +kernel
theorem dX7_carryOut_30 : decode cX7_carryOut 30 = .ok (.istore_n 1, 1) := by decide +kernel
theorem dX7_carryOut_31 : decode cX7_carryOut 31 = .ok (.aload_n 0, 1) := by decide +kernel
theorem dX7_carryOut_32 : decode cX7_carryOut 32 = .ok (.getfield 29, 3) := by decide +kernel
theorem dX7_carryOut_35 : decode cX7_carryOut 35 = .ok (.invokevirtual 239, 3) := by decide +kernel
theorem dX7_carryOut_38 : decode cX7_carryOut 38 = .ok (.pop, 1) := by decide +kernel
theorem dX7_carryOut_39 : decode cX7_carryOut 39 = .ok (.aload_n 0, 1) := by decide +kernel
theorem dX7_carryOut_40 : decode cX7_carryOut 40 = .ok (.getfield 36, 3) := by decide +kernel
theorem dX7_carryOut_43 : decode cX7_carryOut 43 = .ok (.iload_n 1, 1) := by decide +kernel
theorem dX7_carryOut_44 : decode cX7_carryOut 44 = .ok (.invokevirtual 56, 3) := by decide +kernel
theorem dX7_carryOut_47 : decode cX7_carryOut 47 = .ok (.ireturn, 1) := by decide +kernel
theorem dX7_undo_0 : decode cX7_undo 0 = .ok (.aload_n 0, 1) := by decide +kernel
theorem dX7_undo_1 : decode cX7_undo 1 = .ok (.getfield 36, 3) := by decide +kernel
theorem dX7_undo_4 : decode cX7_undo 4 = .ok (.getfield 170, 3) := by decide +kernel
theorem dX7_undo_7 : decode cX7_undo 7 = .ok (.ifCond .ne 6, 3) := by decide +kernel
theorem dX7_undo_10 : decode cX7_undo 10 = .ok (.bipush (-5), 2) := by decide +kernel
theorem dX7_undo_12 : decode cX7_undo 12 = .ok (.ireturn, 1) := by decide +kernel
theorem dX7_undo_13 : decode cX7_undo 13 = .ok (.aload_n 0, 1) := by decide +kernel
theorem dX7_undo_14 : decode cX7_undo 14 = .ok (.getfield 36, 3) := by decide +kernel
theorem dX7_undo_17 : decode cX7_undo 17 = .ok (.aload_n 0, 1) := by decide +kernel
theorem dX7_undo_18 : decode cX7_undo 18 = .ok (.getfield 10, 3) := by decide +kernel
theorem dX7_undo_21 : decode cX7_undo 21 = .ok (.invokevirtual 248, 3) := by decide +kernel
theorem dX7_undo_24 : decode cX7_undo 24 = .ok (.aload_n 0, 1) := by decide +kernel
theorem dX7_undo_25 : decode cX7_undo 25 = .ok (.getfield 36, 3) := by decide +kernel
theorem dX7_undo_28 : decode cX7_undo 28 = .ok (.getfield 170, 3) := by decide +kernel
theorem dX7_undo_31 : decode cX7_undo 31 = .ok (.ireturn, 1) := by decide +kernel
theorem dX7_save_0 : decode cX7_save 0 = .ok (.iload_n 1, 1) := by decide +kernel
theorem dX7_save_1 : decode cX7_save 1 = .ok (.ifCond .lt 8, 3) := by decide +kernel
theorem dX7_save_4 : decode cX7_save 4 = .ok (.iload_n 1, 1) := by decide +kernel
theorem dX7_save_5 : decode cX7_save 5 = .ok (.iconst 2, 1) := by decide +kernel
theorem dX7_save_6 : decode cX7_save 6 = .ok (.if_icmp .lt 6, 3) := by decide +kernel
theorem dX7_save_9 : decode cX7_save 9 = .ok (.bipush (-2), 2) := by decide +kernel
theorem dX7_save_11 : decode cX7_save 11 = .ok (.ireturn, 1) := by decide +kernel
theorem dX7_save_12 : decode cX7_save 12 = .ok (.aload_n 0, 1) := by decide +kernel
theorem dX7_save_13 : decode cX7_save 13 = .ok (.getfield 40, 3) := by decide +kernel
theorem dX7_save_16 : decode cX7_save 16 = .ok (.iload_n 1, 1) := by decide +kernel
theorem dX7_save_17 : decode cX7_save 17 = .ok (.aaload, 1) := by decide +kernel
theorem dX7_save_18 : decode cX7_save 18 = .ok (.aload_n 0, 1) := by decide +kernel
theorem dX7_save_19 : decode cX7_save 19 = .ok (.getfield 10, 3) := by decide +kernel
theorem dX7_save_22 : decode cX7_save 22 = .ok (.invokevirtual 228, 3) := by decide +kernel
theorem dX7_save_25 : decode cX7_save 25 = .ok (.aload_n 0, 1) := by decide +kernel
theorem dX7_save_26 : decode cX7_save 26 = .ok (.getfield 44, 3) := by decide +kernel
theorem dX7_save_29 : decode cX7_save 29 = .ok (.iload_n 1, 1) := by decide +kernel
theorem dX7_save_30 : decode cX7_save 30 = .ok (.iconst 1, 1) := by decide +kernel
theorem dX7_save_31 : decode cX7_save 31 = .ok (.bastore, 1) := by decide +kernel
theorem dX7_save_32 : decode cX7_save 32 = .ok (.aload_n 0, 1) := by decide +kernel
theorem dX7_save_33 : decode cX7_save 33 = .ok (.getfield 10, 3) := by decide +kernel
theorem dX7_save_36 : decode cX7_save 36 = .ok (.getfield 154, 3) := by decide +kernel
theorem dX7_save_39 : decode cX7_save 39 = .ok (.ireturn, 1) := by decide +kernel
theorem dX7_restore_0 : decode cX7_restore 0 = .ok (.iload_n 1, 1) := by decide +kernel
theorem dX7_restore_1 : decode cX7_restore 1 = .ok (.ifCond .lt 8, 3) := by decide +kernel
theorem dX7_restore_4 : decode cX7_restore 4 = .ok (.iload_n 1, 1) := by decide +kernel
theorem dX7_restore_5 : decode cX7_restore 5 = .ok (.iconst 2, 1) := by decide +kernel
theorem dX7_restore_6 : decode cX7_restore 6 = .ok (.if_icmp .lt 6, 3) := by decide +kernel
theorem dX7_restore_9 : decode cX7_restore 9 = .ok (.bipush (-2), 2) := by decide +kernel
theorem dX7_restore_11 : decode cX7_restore 11 = .ok (.ireturn, 1) := by decide +kernel
theorem dX7_restore_12 : decode cX7_restore 12 = .ok (.aload_n 0, 1) := by decide +kernel
theorem dX7_restore_13 : decode cX7_restore 13 = .ok (.getfield 44, 3) := by decide +kernel
theorem dX7_restore_16 : decode cX7_restore 16 = .ok (.iload_n 1, 1) := by decide +kernel
theorem dX7_restore_17 : decode cX7_restore 17 = .ok (.baload, 1) := by decide +kernel
theorem dX7_restore_18 : decode cX7_restore 18 = .ok (.ifCond .ne 6, 3) := by decide +kernel
theorem dX7_restore_21 : decode cX7_restore 21 = .ok (.bipush (-5), 2) := by decide +kernel
theorem dX7_restore_23 : decode cX7_restore 23 = .ok (.ireturn, 1) := by decide +kernel
theorem dX7_restore_24 : decode cX7_restore 24 = .ok (.aload_n 0, 1) := by decide +kernel
theorem dX7_restore_25 : decode cX7_restore 25 = .ok (.getfield 36, 3) := by decide +kernel
theorem dX7_restore_28 : decode cX7_restore 28 = .ok (.aload_n 0, 1) := by decide +kernel
theorem dX7_restore_29 : decode cX7_restore 29 = .ok (.getfield 10, 3) := by decide +kernel
theorem dX7_restore_32 : decode cX7_restore 32 = .ok (.invokevirtual 48, 3) := by decide +kernel
theorem dX7_restore_35 : decode cX7_restore 35 = .ok (.aload_n 0, 1) := by decide +kernel
theorem dX7_restore_36 : decode cX7_restore 36 = .ok (.getfield 10, 3) := by decide +kernel
theorem dX7_restore_39 : decode cX7_restore 39 = .ok (.aload_n 0, 1) := by decide +kernel
theorem dX7_restore_40 : decode cX7_restore 40 = .ok (.getfield 40, 3) := by decide +kernel
theorem dX7_restore_43 : decode cX7_restore 43 = .ok (.iload_n 1, 1) := by decide +kernel
theorem dX7_restore_44 : decode cX7_restore 44 = .ok (.aaload, 1) := by decide +kernel
theorem dX7_restore_45 : decode cX7_restore 45 = .ok (.invokevirtual 228, 3) := by decide +kernel
theorem dX7_restore_48 : decode cX7_restore 48 = .ok (.aload_n 0, 1) := by decide +kernel
theorem dX7_restore_49 : decode cX7_restore 49 = .ok (.getfield 36, 3) := by decide +kernel
theorem dX7_restore_52 : decode cX7_restore 52 = .ok (.aload_n 0, 1) := by decide +kernel
theorem dX7_restore_53 : decode cX7_restore 53 = .ok (.getfield 10, 3) := by decide +kernel
theorem dX7_restore_56 : decode cX7_restore 56 = .ok (.getfield 154, 3) := by decide +kernel
theorem dX7_restore_59 : decode cX7_restore 59 = .ok (.invokevirtual 56, 3) := by decide +kernel
theorem dX7_restore_62 : decode cX7_restore 62 = .ok (.ireturn, 1) := by decide +kernel
theorem dX7_carryOutOrders_0 : decode cX7_carryOutOrders 0 = .ok (.aload_n 0, 1) := by decide +kernel
theorem dX7_carryOutOrders_1 : decode cX7_carryOutOrders 1 = .ok (.getfield 29, 3) := by decide +kernel
theorem dX7_carryOutOrders_4 : decode cX7_carryOutOrders 4 = .ok (.invokevirtual 251, 3) := by decide +kernel
theorem dX7_carryOutOrders_7 : decode cX7_carryOutOrders 7 = .ok (.iconst 0, 1) := by decide +kernel
theorem dX7_carryOutOrders_8 : decode cX7_carryOutOrders 8 = .ok (.istore_n 1, 1) := by decide +kernel
theorem dX7_carryOutOrders_9 : decode cX7_carryOutOrders 9 = .ok (.iload_n 1, 1) := by decide +kernel
theorem dX7_carryOutOrders_10 : decode cX7_carryOutOrders 10 = .ok (.bipush 80, 2) := by decide +kernel
theorem dX7_carryOutOrders_12 : decode cX7_carryOutOrders 12 = .ok (.if_icmp .ge 44, 3) := by decide +kernel
theorem dX7_carryOutOrders_15 : decode cX7_carryOutOrders 15 = .ok (.aload_n 0, 1) := by decide +kernel
theorem dX7_carryOutOrders_16 : decode cX7_carryOutOrders 16 = .ok (.getfield 29, 3) := by decide +kernel
theorem dX7_carryOutOrders_19 : decode cX7_carryOutOrders 19 = .ok (.invokevirtual 254, 3) := by decide +kernel
theorem dX7_carryOutOrders_22 : decode cX7_carryOutOrders 22 = .ok (.ifCond .eq 10, 3) := by decide +kernel
theorem dX7_carryOutOrders_25 : decode cX7_carryOutOrders 25 = .ok (.aload_n 0, 1) := by decide +kernel
theorem dX7_carryOutOrders_26 : decode cX7_carryOutOrders 26 = .ok (.invokevirtual 258, 3) := by decide +kernel
theorem dX7_carryOutOrders_29 : decode cX7_carryOutOrders 29 = .ok (.ifCond .ge 5, 3) := by decide +kernel
theorem dX7_carryOutOrders_32 : decode cX7_carryOutOrders 32 = .ok (.iload_n 1, 1) := by decide +kernel
theorem dX7_carryOutOrders_33 : decode cX7_carryOutOrders 33 = .ok (.ireturn, 1) := by decide +kernel
theorem dX7_carryOutOrders_34 : decode cX7_carryOutOrders 34 = .ok (.aload_n 0, 1) := by decide +kernel
theorem dX7_carryOutOrders_35 : decode cX7_carryOutOrders 35 = .ok (.getfield 29, 3) := by decide +kernel
theorem dX7_carryOutOrders_38 : decode cX7_carryOutOrders 38 = .ok (.bipush 59, 2) := by decide +kernel
theorem dX7_carryOutOrders_40 : decode cX7_carryOutOrders 40 = .ok (.invokevirtual 261, 3) := by decide +kernel
theorem dX7_carryOutOrders_43 : decode cX7_carryOutOrders 43 = .ok (.ifCond .ne 7, 3) := by decide +kernel
theorem dX7_carryOutOrders_46 : decode cX7_carryOutOrders 46 = .ok (.iload_n 1, 1) := by decide +kernel
theorem dX7_carryOutOrders_47 : decode cX7_carryOutOrders 47 = .ok (.iconst 1, 1) := by decide +kernel
theorem dX7_carryOutOrders_48 : decode cX7_carryOutOrders 48 = .ok (.iadd, 1) := by decide +kernel
theorem dX7_carryOutOrders_49 : decode cX7_carryOutOrders 49 = .ok (.ireturn, 1) := by decide +kernel
theorem dX7_carryOutOrders_50 : decode cX7_carryOutOrders 50 = .ok (.iinc 1 1, 3) := by decide +kernel
theorem dX7_carryOutOrders_53 : decode cX7_carryOutOrders 53 = .ok (.goto (-44), 3) := by decide +kernel
theorem dX7_carryOutOrders_56 : decode cX7_carryOutOrders 56 = .ok (.bipush 80, 2) := by decide +kernel
theorem dX7_carryOutOrders_58 : decode cX7_carryOutOrders 58 = .ok (.ireturn, 1) := by decide +kernel
theorem dX7_carryOutOrder_0 : decode cX7_carryOutOrder 0 = .ok (.aload_n 0, 1) := by decide +kernel
theorem dX7_carryOutOrder_1 : decode cX7_carryOutOrder 1 = .ok (.getfield 29, 3) := by decide +kernel
theorem dX7_carryOutOrder_4 : decode cX7_carryOutOrder 4 = .ok (.getfield 265, 3) := by decide +kernel
theorem dX7_carryOutOrder_7 : decode cX7_carryOutOrder 7 = .ok (.lookupswitch 149 #[(98, 49), (100, 137), (105, 122), (108, 78), (113, 107)], 49) := by decide +kernel
theorem dX7_carryOutOrder_56 : decode cX7_carryOutOrder 56 = .ok (.aload_n 0, 1) := by decide +kernel
theorem dX7_carryOutOrder_57 : decode cX7_carryOutOrder 57 = .ok (.getfield 10, 3) := by decide +kernel
theorem dX7_carryOutOrder_60 : decode cX7_carryOutOrder 60 = .ok (.aload_n 0, 1) := by decide +kernel
theorem dX7_carryOutOrder_61 : decode cX7_carryOutOrder 61 = .ok (.getfield 29, 3) := by decide +kernel
theorem dX7_carryOutOrder_64 : decode cX7_carryOutOrder 64 = .ok (.getfield 269, 3) := by decide +kernel
theorem dX7_carryOutOrder_67 : decode cX7_carryOutOrder 67 = .ok (.aload_n 0, 1) := by decide +kernel
theorem dX7_carryOutOrder_68 : decode cX7_carryOutOrder 68 = .ok (.getfield 29, 3) := by decide +kernel
theorem dX7_carryOutOrder_71 : decode cX7_carryOutOrder 71 = .ok (.getfield 272, 3) := by decide +kernel
theorem dX7_carryOutOrder_74 : decode cX7_carryOutOrder 74 = .ok (.aload_n 0, 1) := by decide +kernel
theorem dX7_carryOutOrder_75 : decode cX7_carryOutOrder 75 = .ok (.getfield 29, 3) := by decide +kernel
theorem dX7_carryOutOrder_78 : decode cX7_carryOutOrder 78 = .ok (.getfield 275, 3) := by decide +kernel
theorem dX7_carryOutOrder_81 : decode cX7_carryOutOrder 81 = .ok (.invokevirtual 60, 3) := by decide +kernel
theorem dX7_carryOutOrder_84 : decode cX7_carryOutOrder 84 = .ok (.ireturn, 1) := by decide +kernel
theorem dX7_carryOutOrder_85 : decode cX7_carryOutOrder 85 = .ok (.aload_n 0, 1) := by decide +kernel
theorem dX7_carryOutOrder_86 : decode cX7_carryOutOrder 86 = .ok (.getfield 10, 3) := by decide +kernel
theorem dX7_carryOutOrder_89 : decode cX7_carryOutOrder 89 = .ok (.aload_n 0, 1) := by decide +kernel
theorem dX7_carryOutOrder_90 : decode cX7_carryOutOrder 90 = .ok (.getfield 29, 3) := by decide +kernel
theorem dX7_carryOutOrder_93 : decode cX7_carryOutOrder 93 = .ok (.getfield 269, 3) := by decide +kernel
theorem dX7_carryOutOrder_96 : decode cX7_carryOutOrder 96 = .ok (.aload_n 0, 1) := by decide +kernel
theorem dX7_carryOutOrder_97 : decode cX7_carryOutOrder 97 = .ok (.getfield 29, 3) := by decide +kernel
theorem dX7_carryOutOrder_100 : decode cX7_carryOutOrder 100 = .ok (.getfield 272, 3) := by decide +kernel
theorem dX7_carryOutOrder_103 : decode cX7_carryOutOrder 103 = .ok (.aload_n 0, 1) := by decide +kernel
theorem dX7_carryOutOrder_104 : decode cX7_carryOutOrder 104 = .ok (.getfield 29, 3) := by decide +kernel
theorem dX7_carryOutOrder_107 : decode cX7_carryOutOrder 107 = .ok (.getfield 275, 3) := by decide +kernel
theorem dX7_carryOutOrder_110 : decode cX7_carryOutOrder 110 = .ok (.invokevirtual 64, 3) := by decide +kernel
theorem dX7_carryOutOrder_113 : decode cX7_carryOutOrder 113 = .ok (.ireturn, 1) := by decide +kernel
theorem dX7_carryOutOrder_114 : decode cX7_carryOutOrder 114 = .ok (.aload_n 0, 1) := by decide +kernel
theorem dX7_carryOutOrder_115 : decode cX7_carryOutOrder 115 = .ok (.getfield 10, 3) := by decide +kernel
theorem dX7_carryOutOrder_118 : decode cX7_carryOutOrder 118 = .ok (.aload_n 0, 1) := by decide +kernel
theorem dX7_carryOutOrder_119 : decode cX7_carryOutOrder 119 = .ok (.getfield 29, 3) := by decide +kernel
theorem dX7_carryOutOrder_122 : decode cX7_carryOutOrder 122 = .ok (.getfield 272, 3) := by decide +kernel
theorem dX7_carryOutOrder_125 : decode cX7_carryOutOrder 125 = .ok (.invokevirtual 74, 3) := by decide +kernel
theorem dX7_carryOutOrder_128 : decode cX7_carryOutOrder 128 = .ok (.ireturn, 1) := by decide +kernel
theorem dX7_carryOutOrder_129 : decode cX7_carryOutOrder 129 = .ok (.aload_n 0, 1) := by decide +kernel
theorem dX7_carryOutOrder_130 : decode cX7_carryOutOrder 130 = .ok (.getfield 10, 3) := by decide +kernel
theorem dX7_carryOutOrder_133 : decode cX7_carryOutOrder 133 = .ok (.aload_n 0, 1) := by decide +kernel
theorem dX7_carryOutOrder_134 : decode cX7_carryOutOrder 134 = .ok (.getfield 29, 3) := by decide +kernel
theorem dX7_carryOutOrder_137 : decode cX7_carryOutOrder 137 = .ok (.getfield 272, 3) := by decide +kernel
theorem dX7_carryOutOrder_140 : decode cX7_carryOutOrder 140 = .ok (.invokevirtual 80, 3) := by decide +kernel
theorem dX7_carryOutOrder_143 : decode cX7_carryOutOrder 143 = .ok (.ireturn, 1) := by decide +kernel
theorem dX7_carryOutOrder_144 : decode cX7_carryOutOrder 144 = .ok (.aload_n 0, 1) := by decide +kernel
theorem dX7_carryOutOrder_145 : decode cX7_carryOutOrder 145 = .ok (.getfield 22, 3) := by decide +kernel
theorem dX7_carryOutOrder_148 : decode cX7_carryOutOrder 148 = .ok (.aload_n 0, 1) := by decide +kernel
theorem dX7_carryOutOrder_149 : decode cX7_carryOutOrder 149 = .ok (.getfield 10, 3) := by decide +kernel
theorem dX7_carryOutOrder_152 : decode cX7_carryOutOrder 152 = .ok (.invokevirtual 70, 3) := by decide +kernel
theorem dX7_carryOutOrder_155 : decode cX7_carryOutOrder 155 = .ok (.ireturn, 1) := by decide +kernel
theorem dX7_carryOutOrder_156 : decode cX7_carryOutOrder 156 = .ok (.aload_n 0, 1) := by decide +kernel
theorem dX7_carryOutOrder_157 : decode cX7_carryOutOrder 157 = .ok (.getfield 10, 3) := by decide +kernel
theorem dX7_carryOutOrder_160 : decode cX7_carryOutOrder 160 = .ok (.invokevirtual 83, 3) := by decide +kernel
theorem dX7_carryOutOrder_163 : decode cX7_carryOutOrder 163 = .ok (.ireturn, 1) := by decide +kernel
theorem dX7_isHolder_0 : decode cX7_isHolder 0 = .ok (.iload_n 0, 1) := by decide +kernel
theorem dX7_isHolder_1 : decode cX7_isHolder 1 = .ok (.ifCond .lt 13, 3) := by decide +kernel
theorem dX7_isHolder_4 : decode cX7_isHolder 4 = .ok (.iload_n 0, 1) := by decide +kernel
theorem dX7_isHolder_5 : decode cX7_isHolder 5 = .ok (.bipush 6, 2) := by decide +kernel
theorem dX7_isHolder_7 : decode cX7_isHolder 7 = .ok (.if_icmp .ge 7, 3) := by decide +kernel
theorem dX7_isHolder_10 : decode cX7_isHolder 10 = .ok (.iconst 1, 1) := by decide +kernel
theorem dX7_isHolder_11 : decode cX7_isHolder 11 = .ok (.goto 4, 3) := by decide +kernel
theorem dX7_isHolder_14 : decode cX7_isHolder 14 = .ok (.iconst 0, 1) := by decide +kernel
theorem dX7_isHolder_15 : decode cX7_isHolder 15 = .ok (.ireturn, 1) := by decide +kernel
theorem dL_cell_0 : decode cL_cell 0 = .ok (.iload_n 1, 1) := by decide +kernel
theorem dL_cell_1 : decode cL_cell 1 = .ok (.aload_n 0, 1) := by decide +kernel
theorem dL_cell_2 : decode cL_cell 2 = .ok (.arraylength, 1) := by decide +kernel
theorem dL_cell_3 : decode cL_cell 3 = .ok (.if_icmp .ge 9, 3) := by decide +kernel
theorem dL_cell_6 : decode cL_cell 6 = .ok (.aload_n 0, 1) := by decide +kernel
theorem dL_cell_7 : decode cL_cell 7 = .ok (.iload_n 1, 1) := by decide +kernel
theorem dL_cell_8 : decode cL_cell 8 = .ok (.iaload, 1) := by decide +kernel
theorem dL_cell_9 : decode cL_cell 9 = .ok (.goto 11, 3) := by decide +kernel
theorem dL_cell_12 : decode cL_cell 12 = .ok (.ldc 7, 2) := by decide +kernel
theorem dL_cell_14 : decode cL_cell 14 = .ok (.iload_n 1, 1) := by decide +kernel
theorem dL_cell_15 : decode cL_cell 15 = .ok (.sipush 1619, 3) := by decide +kernel
theorem dL_cell_18 : decode cL_cell 18 = .ok (.iadd, 1) := by decide +kernel
theorem dL_cell_19 : decode cL_cell 19 = .ok (.imul, 1) := by decide +kernel
theorem dL_cell_20 : decode cL_cell 20 = .ok (.ireturn, 1) := by decide +kernel
theorem dL_up_0 : decode cL_up 0 = .ok (.iload_n 0, 1) := by decide +kernel
theorem dL_up_1 : decode cL_up 1 = .ok (.ldc 8, 2) := by decide +kernel
theorem dL_up_3 : decode cL_up 3 = .ok (.iand, 1) := by decide +kernel
theorem dL_up_4 : decode cL_up 4 = .ok (.iload_n 1, 1) := by decide +kernel
theorem dL_up_5 : decode cL_up 5 = .ok (.irem, 1) := by decide +kernel
theorem dL_up_6 : decode cL_up 6 = .ok (.ireturn, 1) := by decide +kernel
theorem dL_law_0 : decode cL_law 0 = .ok (.new 9, 3) := by decide +kernel
theorem dL_law_3 : decode cL_law 3 = .ok (.dup, 1) := by decide +kernel
theorem dL_law_4 : decode cL_law 4 = .ok (.invokespecial 11, 3) := by decide +kernel
theorem dL_law_7 : decode cL_law 7 = .ok (.astore_n 1, 1) := by decide +kernel
theorem dL_law_8 : decode cL_law 8 = .ok (.iconst 0, 1) := by decide +kernel
theorem dL_law_9 : decode cL_law 9 = .ok (.istore_n 2, 1) := by decide +kernel
theorem dL_law_10 : decode cL_law 10 = .ok (.aload_n 1, 1) := by decide +kernel
theorem dL_law_11 : decode cL_law 11 = .ok (.aload_n 0, 1) := by decide +kernel
theorem dL_law_12 : decode cL_law 12 = .ok (.iload_n 2, 1) := by decide +kernel
theorem dL_law_13 : decode cL_law 13 = .ok (.iinc 2 1, 3) := by decide +kernel
theorem dL_law_16 : decode cL_law 16 = .ok (.invokestatic 12, 3) := by decide +kernel
theorem dL_law_19 : decode cL_law 19 = .ok (.invokestatic 18, 3) := by decide +kernel
theorem dL_law_22 : decode cL_law 22 = .ok (.ifCond .ne 5, 3) := by decide +kernel
theorem dL_law_25 : decode cL_law 25 = .ok (.iconst 0, 1) := by decide +kernel
theorem dL_law_26 : decode cL_law 26 = .ok (.ireturn, 1) := by decide +kernel
theorem dL_law_27 : decode cL_law 27 = .ok (.aload_n 0, 1) := by decide +kernel
theorem dL_law_28 : decode cL_law 28 = .ok (.iload_n 2, 1) := by decide +kernel
theorem dL_law_29 : decode cL_law 29 = .ok (.iinc 2 1, 3) := by decide +kernel
theorem dL_law_32 : decode cL_law 32 = .ok (.invokestatic 12, 3) := by decide +kernel
theorem dL_law_35 : decode cL_law 35 = .ok (.istore_n 3, 1) := by decide +kernel
theorem dL_law_36 : decode cL_law 36 = .ok (.aload_n 1, 1) := by decide +kernel
theorem dL_law_37 : decode cL_law 37 = .ok (.iconst 1, 1) := by decide +kernel
theorem dL_law_38 : decode cL_law 38 = .ok (.iload_n 3, 1) := by decide +kernel
theorem dL_law_39 : decode cL_law 39 = .ok (.sipush 200, 3) := by decide +kernel
theorem dL_law_42 : decode cL_law 42 = .ok (.invokestatic 22, 3) := by decide +kernel
theorem dL_law_45 : decode cL_law 45 = .ok (.invokevirtual 26, 3) := by decide +kernel
theorem dL_law_48 : decode cL_law 48 = .ok (.bipush 50, 2) := by decide +kernel
theorem dL_law_50 : decode cL_law 50 = .ok (.if_icmp .ne 61, 3) := by decide +kernel
theorem dL_law_53 : decode cL_law 53 = .ok (.aload_n 1, 1) := by decide +kernel
theorem dL_law_54 : decode cL_law 54 = .ok (.iconst 2, 1) := by decide +kernel
theorem dL_law_55 : decode cL_law 55 = .ok (.iload_n 3, 1) := by decide +kernel
theorem dL_law_56 : decode cL_law 56 = .ok (.bipush 8, 2) := by decide +kernel
theorem dL_law_58 : decode cL_law 58 = .ok (.ishr, 1) := by decide +kernel
theorem dL_law_59 : decode cL_law 59 = .ok (.bipush 101, 2) := by decide +kernel
theorem dL_law_61 : decode cL_law 61 = .ok (.invokestatic 22, 3) := by decide +kernel
theorem dL_law_64 : decode cL_law 64 = .ok (.invokevirtual 26, 3) := by decide +kernel
theorem dL_law_67 : decode cL_law 67 = .ok (.bipush 10, 2) := by decide +kernel
theorem dL_law_69 : decode cL_law 69 = .ok (.if_icmp .ne 42, 3) := by decide +kernel
theorem dL_law_72 : decode cL_law 72 = .ok (.aload_n 1, 1) := by decide +kernel
theorem dL_law_73 : decode cL_law 73 = .ok (.iconst 3, 1) := by decide +kernel
theorem dL_law_74 : decode cL_law 74 = .ok (.bipush 50, 2) := by decide +kernel
theorem dL_law_76 : decode cL_law 76 = .ok (.iload_n 3, 1) := by decide +kernel
theorem dL_law_77 : decode cL_law 77 = .ok (.iconst 3, 1) := by decide +kernel
theorem dL_law_78 : decode cL_law 78 = .ok (.ishr, 1) := by decide +kernel
theorem dL_law_79 : decode cL_law 79 = .ok (.sipush 950, 3) := by decide +kernel
theorem dL_law_82 : decode cL_law 82 = .ok (.invokestatic 22, 3) := by decide +kernel
theorem dL_law_85 : decode cL_law 85 = .ok (.iadd, 1) := by decide +kernel
theorem dL_law_86 : decode cL_law 86 = .ok (.invokevirtual 26, 3) := by decide +kernel
theorem dL_law_89 : decode cL_law 89 = .ok (.bipush 100, 2) := by decide +kernel
theorem dL_law_91 : decode cL_law 91 = .ok (.if_icmp .ne 20, 3) := by decide +kernel
theorem dL_law_94 : decode cL_law 94 = .ok (.aload_n 1, 1) := by decide +kernel
theorem dL_law_95 : decode cL_law 95 = .ok (.iconst 4, 1) := by decide +kernel
theorem dL_law_96 : decode cL_law 96 = .ok (.iload_n 3, 1) := by decide +kernel
theorem dL_law_97 : decode cL_law 97 = .ok (.iconst 5, 1) := by decide +kernel
theorem dL_law_98 : decode cL_law 98 = .ok (.ishr, 1) := by decide +kernel
theorem dL_law_99 : decode cL_law 99 = .ok (.bipush 51, 2) := by decide +kernel
theorem dL_law_101 : decode cL_law 101 = .ok (.invokestatic 22, 3) := by decide +kernel
theorem dL_law_104 : decode cL_law 104 = .ok (.invokevirtual 26, 3) := by decide +kernel
theorem dL_law_107 : decode cL_law 107 = .ok (.iconst 5, 1) := by decide +kernel
theorem dL_law_108 : decode cL_law 108 = .ok (.if_icmp .eq 5, 3) := by decide +kernel
theorem dL_law_111 : decode cL_law 111 = .ok (.iconst 0, 1) := by decide +kernel
theorem dL_law_112 : decode cL_law 112 = .ok (.ireturn, 1) := by decide +kernel
theorem dL_law_113 : decode cL_law 113 = .ok (.iconst 0, 1) := by decide +kernel
theorem dL_law_114 : decode cL_law 114 = .ok (.istore 4, 2) := by decide +kernel
theorem dL_law_116 : decode cL_law 116 = .ok (.iload 4, 2) := by decide +kernel
theorem dL_law_118 : decode cL_law 118 = .ok (.bipush 34, 2) := by decide +kernel
theorem dL_law_120 : decode cL_law 120 = .ok (.if_icmp .ge 98, 3) := by decide +kernel
theorem dL_law_123 : decode cL_law 123 = .ok (.aload_n 0, 1) := by decide +kernel
theorem dL_law_124 : decode cL_law 124 = .ok (.iload_n 2, 1) := by decide +kernel
theorem dL_law_125 : decode cL_law 125 = .ok (.iinc 2 1, 3) := by decide +kernel
theorem dL_law_128 : decode cL_law 128 = .ok (.invokestatic 12, 3) := by decide +kernel
theorem dL_law_131 : decode cL_law 131 = .ok (.istore_n 3, 1) := by decide +kernel
theorem dL_law_132 : decode cL_law 132 = .ok (.aload_n 1, 1) := by decide +kernel
theorem dL_law_133 : decode cL_law 133 = .ok (.iload 4, 2) := by decide +kernel
theorem dL_law_135 : decode cL_law 135 = .ok (.iconst 3, 1) := by decide +kernel
theorem dL_law_136 : decode cL_law 136 = .ok (.if_icmp .ge 7, 3) := by decide +kernel
theorem dL_law_139 : decode cL_law 139 = .ok (.iconst 0, 1) := by decide +kernel
theorem dL_law_140 : decode cL_law 140 = .ok (.goto 15, 3) := by decide +kernel
theorem dL_law_143 : decode cL_law 143 = .ok (.iload 4, 2) := by decide +kernel
theorem dL_law_145 : decode cL_law 145 = .ok (.iconst 3, 1) := by decide +kernel
theorem dL_law_146 : decode cL_law 146 = .ok (.if_icmp .ne 8, 3) := by decide +kernel
theorem dL_law_149 : decode cL_law 149 = .ok (.bipush 9, 2) := by decide +kernel
theorem dL_law_151 : decode cL_law 151 = .ok (.goto 4, 3) := by decide +kernel
theorem dL_law_154 : decode cL_law 154 = .ok (.iload_n 3, 1) := by decide +kernel
theorem dL_law_155 : decode cL_law 155 = .ok (.aload_n 0, 1) := by decide +kernel
theorem dL_law_156 : decode cL_law 156 = .ok (.iload_n 2, 1) := by decide +kernel
theorem dL_law_157 : decode cL_law 157 = .ok (.invokestatic 12, 3) := by decide +kernel
theorem dL_law_160 : decode cL_law 160 = .ok (.aload_n 0, 1) := by decide +kernel
theorem dL_law_161 : decode cL_law 161 = .ok (.iload_n 2, 1) := by decide +kernel
theorem dL_law_162 : decode cL_law 162 = .ok (.iinc 2 1, 3) := by decide +kernel
theorem dL_law_165 : decode cL_law 165 = .ok (.iconst 1, 1) := by decide +kernel
theorem dL_law_166 : decode cL_law 166 = .ok (.iadd, 1) := by decide +kernel
theorem dL_law_167 : decode cL_law 167 = .ok (.invokestatic 12, 3) := by decide +kernel
theorem dL_law_170 : decode cL_law 170 = .ok (.invokestatic 29, 3) := by decide +kernel
theorem dL_law_173 : decode cL_law 173 = .ok (.ifCond .eq 10, 3) := by decide +kernel
theorem dL_law_176 : decode cL_law 176 = .ok (.aload_n 1, 1) := by decide +kernel
theorem dL_law_177 : decode cL_law 177 = .ok (.invokestatic 33, 3) := by decide +kernel
theorem dL_law_180 : decode cL_law 180 = .ok (.ifCond .ne 5, 3) := by decide +kernel
theorem dL_law_183 : decode cL_law 183 = .ok (.iconst 0, 1) := by decide +kernel
theorem dL_law_184 : decode cL_law 184 = .ok (.ireturn, 1) := by decide +kernel
theorem dL_law_185 : decode cL_law 185 = .ok (.iload 4, 2) := by decide +kernel
theorem dL_law_187 : decode cL_law 187 = .ok (.bipush 11, 2) := by decide +kernel
theorem dL_law_189 : decode cL_law 189 = .ok (.irem, 1) := by decide +kernel
theorem dL_law_190 : decode cL_law 190 = .ok (.bipush 10, 2) := by decide +kernel
theorem dL_law_192 : decode cL_law 192 = .ok (.if_icmp .ne 20, 3) := by decide +kernel
theorem dL_law_195 : decode cL_law 195 = .ok (.aload_n 1, 1) := by decide +kernel
theorem dL_law_196 : decode cL_law 196 = .ok (.aload_n 0, 1) := by decide +kernel
theorem dL_law_197 : decode cL_law 197 = .ok (.iload_n 2, 1) := by decide +kernel
theorem dL_law_198 : decode cL_law 198 = .ok (.iinc 2 1, 3) := by decide +kernel
theorem dL_law_201 : decode cL_law 201 = .ok (.invokestatic 12, 3) := by decide +kernel
theorem dL_law_204 : decode cL_law 204 = .ok (.invokestatic 37, 3) := by decide +kernel
theorem dL_law_207 : decode cL_law 207 = .ok (.ifCond .ne 5, 3) := by decide +kernel
theorem dL_law_210 : decode cL_law 210 = .ok (.iconst 0, 1) := by decide +kernel
theorem dL_law_211 : decode cL_law 211 = .ok (.ireturn, 1) := by decide +kernel
theorem dL_law_212 : decode cL_law 212 = .ok (.iinc 4 1, 3) := by decide +kernel
theorem dL_law_215 : decode cL_law 215 = .ok (.goto (-99), 3) := by decide +kernel
theorem dL_law_218 : decode cL_law 218 = .ok (.aload_n 1, 1) := by decide +kernel
theorem dL_law_219 : decode cL_law 219 = .ok (.aload_n 0, 1) := by decide +kernel
theorem dL_law_220 : decode cL_law 220 = .ok (.iload_n 2, 1) := by decide +kernel
theorem dL_law_221 : decode cL_law 221 = .ok (.iinc 2 1, 3) := by decide +kernel
theorem dL_law_224 : decode cL_law 224 = .ok (.invokestatic 12, 3) := by decide +kernel
theorem dL_law_227 : decode cL_law 227 = .ok (.invokestatic 40, 3) := by decide +kernel
theorem dL_law_230 : decode cL_law 230 = .ok (.ifCond .eq 14, 3) := by decide +kernel
theorem dL_law_233 : decode cL_law 233 = .ok (.aload_n 1, 1) := by decide +kernel
theorem dL_law_234 : decode cL_law 234 = .ok (.invokestatic 33, 3) := by decide +kernel
theorem dL_law_237 : decode cL_law 237 = .ok (.ifCond .eq 7, 3) := by decide +kernel
theorem dL_law_240 : decode cL_law 240 = .ok (.iconst 1, 1) := by decide +kernel
theorem dL_law_241 : decode cL_law 241 = .ok (.goto 4, 3) := by decide +kernel
theorem dL_law_244 : decode cL_law 244 = .ok (.iconst 0, 1) := by decide +kernel
theorem dL_law_245 : decode cL_law 245 = .ok (.ireturn, 1) := by decide +kernel
theorem dL_print_0 : decode cL_print 0 = .ok (.ldc2_w 43, 3) := by decide +kernel
theorem dL_print_3 : decode cL_print 3 = .ok (.lstore_n 1, 1) := by decide +kernel
theorem dL_print_4 : decode cL_print 4 = .ok (.iconst 0, 1) := by decide +kernel
theorem dL_print_5 : decode cL_print 5 = .ok (.istore_n 3, 1) := by decide +kernel
theorem dL_print_6 : decode cL_print 6 = .ok (.iload_n 3, 1) := by decide +kernel
theorem dL_print_7 : decode cL_print 7 = .ok (.bipush 6, 2) := by decide +kernel
theorem dL_print_9 : decode cL_print 9 = .ok (.if_icmp .ge 40, 3) := by decide +kernel
theorem dL_print_12 : decode cL_print 12 = .ok (.iconst 0, 1) := by decide +kernel
theorem dL_print_13 : decode cL_print 13 = .ok (.istore 4, 2) := by decide +kernel
theorem dL_print_15 : decode cL_print 15 = .ok (.iload 4, 2) := by decide +kernel
theorem dL_print_17 : decode cL_print 17 = .ok (.bipush 9, 2) := by decide +kernel
theorem dL_print_19 : decode cL_print 19 = .ok (.if_icmp .ge 24, 3) := by decide +kernel
theorem dL_print_22 : decode cL_print 22 = .ok (.ldc2_w 45, 3) := by decide +kernel
theorem dL_print_25 : decode cL_print 25 = .ok (.lload_n 1, 1) := by decide +kernel
theorem dL_print_26 : decode cL_print 26 = .ok (.lmul, 1) := by decide +kernel
theorem dL_print_27 : decode cL_print 27 = .ok (.aload_n 0, 1) := by decide +kernel
theorem dL_print_28 : decode cL_print 28 = .ok (.iload_n 3, 1) := by decide +kernel
theorem dL_print_29 : decode cL_print 29 = .ok (.iload 4, 2) := by decide +kernel
theorem dL_print_31 : decode cL_print 31 = .ok (.invokevirtual 47, 3) := by decide +kernel
theorem dL_print_34 : decode cL_print 34 = .ok (.i2l, 1) := by decide +kernel
theorem dL_print_35 : decode cL_print 35 = .ok (.ladd, 1) := by decide +kernel
theorem dL_print_36 : decode cL_print 36 = .ok (.lstore_n 1, 1) := by decide +kernel
theorem dL_print_37 : decode cL_print 37 = .ok (.iinc 4 1, 3) := by decide +kernel
theorem dL_print_40 : decode cL_print 40 = .ok (.goto (-25), 3) := by decide +kernel
theorem dL_print_43 : decode cL_print 43 = .ok (.iinc 3 1, 3) := by decide +kernel
theorem dL_print_46 : decode cL_print 46 = .ok (.goto (-40), 3) := by decide +kernel
theorem dL_print_49 : decode cL_print 49 = .ok (.iconst 0, 1) := by decide +kernel
theorem dL_print_50 : decode cL_print 50 = .ok (.istore_n 3, 1) := by decide +kernel
theorem dL_print_51 : decode cL_print 51 = .ok (.iload_n 3, 1) := by decide +kernel
theorem dL_print_52 : decode cL_print 52 = .ok (.iconst 2, 1) := by decide +kernel
theorem dL_print_53 : decode cL_print 53 = .ok (.if_icmp .ge 63, 3) := by decide +kernel
theorem dL_print_56 : decode cL_print 56 = .ok (.iconst 0, 1) := by decide +kernel
theorem dL_print_57 : decode cL_print 57 = .ok (.istore 4, 2) := by decide +kernel
theorem dL_print_59 : decode cL_print 59 = .ok (.iload 4, 2) := by decide +kernel
theorem dL_print_61 : decode cL_print 61 = .ok (.aload_n 0, 1) := by decide +kernel
theorem dL_print_62 : decode cL_print 62 = .ok (.bipush 9, 2) := by decide +kernel
theorem dL_print_64 : decode cL_print 64 = .ok (.iload_n 3, 1) := by decide +kernel
theorem dL_print_65 : decode cL_print 65 = .ok (.iadd, 1) := by decide +kernel
theorem dL_print_66 : decode cL_print 66 = .ok (.invokevirtual 50, 3) := by decide +kernel
theorem dL_print_69 : decode cL_print 69 = .ok (.if_icmp .ge 41, 3) := by decide +kernel
theorem dL_print_72 : decode cL_print 72 = .ok (.iconst 0, 1) := by decide +kernel
theorem dL_print_73 : decode cL_print 73 = .ok (.istore 5, 2) := by decide +kernel
theorem dL_print_75 : decode cL_print 75 = .ok (.iload 5, 2) := by decide +kernel
theorem dL_print_77 : decode cL_print 77 = .ok (.iconst 3, 1) := by decide +kernel
theorem dL_print_78 : decode cL_print 78 = .ok (.if_icmp .ge 26, 3) := by decide +kernel
theorem dL_print_81 : decode cL_print 81 = .ok (.ldc2_w 45, 3) := by decide +kernel
theorem dL_print_84 : decode cL_print 84 = .ok (.lload_n 1, 1) := by decide +kernel
theorem dL_print_85 : decode cL_print 85 = .ok (.lmul, 1) := by decide +kernel
theorem dL_print_86 : decode cL_print 86 = .ok (.aload_n 0, 1) := by decide +kernel
theorem dL_print_87 : decode cL_print 87 = .ok (.iload_n 3, 1) := by decide +kernel
theorem dL_print_88 : decode cL_print 88 = .ok (.iload 4, 2) := by decide +kernel
theorem dL_print_90 : decode cL_print 90 = .ok (.iload 5, 2) := by decide +kernel
theorem dL_print_92 : decode cL_print 92 = .ok (.invokevirtual 54, 3) := by decide +kernel
theorem dL_print_95 : decode cL_print 95 = .ok (.i2l, 1) := by decide +kernel
theorem dL_print_96 : decode cL_print 96 = .ok (.ladd, 1) := by decide +kernel
theorem dL_print_97 : decode cL_print 97 = .ok (.lstore_n 1, 1) := by decide +kernel
theorem dL_print_98 : decode cL_print 98 = .ok (.iinc 5 1, 3) := by decide +kernel
theorem dL_print_101 : decode cL_print 101 = .ok (.goto (-26), 3) := by decide +kernel
theorem dL_print_104 : decode cL_print 104 = .ok (.iinc 4 1, 3) := by decide +kernel
theorem dL_print_107 : decode cL_print 107 = .ok (.goto (-48), 3) := by decide +kernel
theorem dL_print_110 : decode cL_print 110 = .ok (.iinc 3 1, 3) := by decide +kernel
theorem dL_print_113 : decode cL_print 113 = .ok (.goto (-62), 3) := by decide +kernel
theorem dL_print_116 : decode cL_print 116 = .ok (.iconst 0, 1) := by decide +kernel
theorem dL_print_117 : decode cL_print 117 = .ok (.istore_n 3, 1) := by decide +kernel
theorem dL_print_118 : decode cL_print 118 = .ok (.iload_n 3, 1) := by decide +kernel
theorem dL_print_119 : decode cL_print 119 = .ok (.bipush 17, 2) := by decide +kernel
theorem dL_print_121 : decode cL_print 121 = .ok (.if_icmp .ge 22, 3) := by decide +kernel
theorem dL_print_124 : decode cL_print 124 = .ok (.ldc2_w 45, 3) := by decide +kernel
theorem dL_print_127 : decode cL_print 127 = .ok (.lload_n 1, 1) := by decide +kernel
theorem dL_print_128 : decode cL_print 128 = .ok (.lmul, 1) := by decide +kernel
theorem dL_print_129 : decode cL_print 129 = .ok (.aload_n 0, 1) := by decide +kernel
theorem dL_print_130 : decode cL_print 130 = .ok (.iload_n 3, 1) := by decide +kernel
theorem dL_print_131 : decode cL_print 131 = .ok (.invokevirtual 50, 3) := by decide +kernel
theorem dL_print_134 : decode cL_print 134 = .ok (.i2l, 1) := by decide +kernel
theorem dL_print_135 : decode cL_print 135 = .ok (.ladd, 1) := by decide +kernel
theorem dL_print_136 : decode cL_print 136 = .ok (.lstore_n 1, 1) := by decide +kernel
theorem dL_print_137 : decode cL_print 137 = .ok (.iinc 3 1, 3) := by decide +kernel
theorem dL_print_140 : decode cL_print 140 = .ok (.goto (-22), 3) := by decide +kernel
theorem dL_print_143 : decode cL_print 143 = .ok (.iconst 0, 1) := by decide +kernel
theorem dL_print_144 : decode cL_print 144 = .ok (.istore_n 3, 1) := by decide +kernel
theorem dL_print_145 : decode cL_print 145 = .ok (.iload_n 3, 1) := by decide +kernel
theorem dL_print_146 : decode cL_print 146 = .ok (.bipush 6, 2) := by decide +kernel
theorem dL_print_148 : decode cL_print 148 = .ok (.if_icmp .ge 22, 3) := by decide +kernel
theorem dL_print_151 : decode cL_print 151 = .ok (.ldc2_w 45, 3) := by decide +kernel
theorem dL_print_154 : decode cL_print 154 = .ok (.lload_n 1, 1) := by decide +kernel
theorem dL_print_155 : decode cL_print 155 = .ok (.lmul, 1) := by decide +kernel
theorem dL_print_156 : decode cL_print 156 = .ok (.aload_n 0, 1) := by decide +kernel
theorem dL_print_157 : decode cL_print 157 = .ok (.iload_n 3, 1) := by decide +kernel
theorem dL_print_158 : decode cL_print 158 = .ok (.invokevirtual 58, 3) := by decide +kernel
theorem dL_print_161 : decode cL_print 161 = .ok (.i2l, 1) := by decide +kernel
theorem dL_print_162 : decode cL_print 162 = .ok (.ladd, 1) := by decide +kernel
theorem dL_print_163 : decode cL_print 163 = .ok (.lstore_n 1, 1) := by decide +kernel
theorem dL_print_164 : decode cL_print 164 = .ok (.iinc 3 1, 3) := by decide +kernel
theorem dL_print_167 : decode cL_print 167 = .ok (.goto (-22), 3) := by decide +kernel
theorem dL_print_170 : decode cL_print 170 = .ok (.iconst 0, 1) := by decide +kernel
theorem dL_print_171 : decode cL_print 171 = .ok (.istore_n 3, 1) := by decide +kernel
theorem dL_print_172 : decode cL_print 172 = .ok (.iload_n 3, 1) := by decide +kernel
theorem dL_print_173 : decode cL_print 173 = .ok (.iconst 4, 1) := by decide +kernel
theorem dL_print_174 : decode cL_print 174 = .ok (.if_icmp .ge 21, 3) := by decide +kernel
theorem dL_print_177 : decode cL_print 177 = .ok (.ldc2_w 45, 3) := by decide +kernel
theorem dL_print_180 : decode cL_print 180 = .ok (.lload_n 1, 1) := by decide +kernel
theorem dL_print_181 : decode cL_print 181 = .ok (.lmul, 1) := by decide +kernel
theorem dL_print_182 : decode cL_print 182 = .ok (.aload_n 0, 1) := by decide +kernel
theorem dL_print_183 : decode cL_print 183 = .ok (.iload_n 3, 1) := by decide +kernel
theorem dL_print_184 : decode cL_print 184 = .ok (.invokevirtual 61, 3) := by decide +kernel
theorem dL_print_187 : decode cL_print 187 = .ok (.ladd, 1) := by decide +kernel
theorem dL_print_188 : decode cL_print 188 = .ok (.lstore_n 1, 1) := by decide +kernel
theorem dL_print_189 : decode cL_print 189 = .ok (.iinc 3 1, 3) := by decide +kernel
theorem dL_print_192 : decode cL_print 192 = .ok (.goto (-20), 3) := by decide +kernel
theorem dL_print_195 : decode cL_print 195 = .ok (.lload_n 1, 1) := by decide +kernel
theorem dL_print_196 : decode cL_print 196 = .ok (.lreturn, 1) := by decide +kernel
theorem dL_cost_0 : decode cL_cost 0 = .ok (.aload_n 0, 1) := by decide +kernel
theorem dL_cost_1 : decode cL_cost 1 = .ok (.iconst 2, 1) := by decide +kernel
theorem dL_cost_2 : decode cL_cost 2 = .ok (.invokevirtual 50, 3) := by decide +kernel
theorem dL_cost_5 : decode cL_cost 5 = .ok (.i2l, 1) := by decide +kernel
theorem dL_cost_6 : decode cL_cost 6 = .ok (.aload_n 0, 1) := by decide +kernel
theorem dL_cost_7 : decode cL_cost 7 = .ok (.bipush 16, 2) := by decide +kernel
theorem dL_cost_9 : decode cL_cost 9 = .ok (.invokevirtual 50, 3) := by decide +kernel
theorem dL_cost_12 : decode cL_cost 12 = .ok (.i2l, 1) := by decide +kernel
theorem dL_cost_13 : decode cL_cost 13 = .ok (.lmul, 1) := by decide +kernel
theorem dL_cost_14 : decode cL_cost 14 = .ok (.ldc2_w 65, 3) := by decide +kernel
theorem dL_cost_17 : decode cL_cost 17 = .ok (.ladd, 1) := by decide +kernel
theorem dL_cost_18 : decode cL_cost 18 = .ok (.ldc2_w 67, 3) := by decide +kernel
theorem dL_cost_21 : decode cL_cost 21 = .ok (.ldiv, 1) := by decide +kernel
theorem dL_cost_22 : decode cL_cost 22 = .ok (.lreturn, 1) := by decide +kernel
theorem dL_free_0 : decode cL_free 0 = .ok (.aload_n 0, 1) := by decide +kernel
theorem dL_free_1 : decode cL_free 1 = .ok (.iload_n 1, 1) := by decide +kernel
theorem dL_free_2 : decode cL_free 2 = .ok (.iconst 0, 1) := by decide +kernel
