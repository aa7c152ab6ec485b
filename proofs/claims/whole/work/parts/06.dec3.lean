theorem dX8_middle_23 : decode cX8_middle 23 = .ok (.aload_n 0, 1) := by decide +kernel
theorem dX8_middle_24 : decode cX8_middle 24 = .ok (.invokevirtual 75, 3) := by decide +kernel
theorem dX8_middle_27 : decode cX8_middle 27 = .ok (.ldiv, 1) := by decide +kernel
theorem dX8_middle_28 : decode cX8_middle 28 = .ok (.lreturn, 1) := by decide +kernel
theorem dX8_incomeOfUnit_0 : decode cX8_incomeOfUnit 0 = .ok (.aload_n 0, 1) := by decide +kernel
theorem dX8_incomeOfUnit_1 : decode cX8_incomeOfUnit 1 = .ok (.invokevirtual 75, 3) := by decide +kernel
theorem dX8_incomeOfUnit_4 : decode cX8_incomeOfUnit 4 = .ok (.lconst 0, 1) := by decide +kernel
theorem dX8_incomeOfUnit_5 : decode cX8_incomeOfUnit 5 = .ok (.lcmp, 1) := by decide +kernel
theorem dX8_incomeOfUnit_6 : decode cX8_incomeOfUnit 6 = .ok (.ifCond .ne 7, 3) := by decide +kernel
theorem dX8_incomeOfUnit_9 : decode cX8_incomeOfUnit 9 = .ok (.lconst 0, 1) := by decide +kernel
theorem dX8_incomeOfUnit_10 : decode cX8_incomeOfUnit 10 = .ok (.goto 19, 3) := by decide +kernel
theorem dX8_incomeOfUnit_13 : decode cX8_incomeOfUnit 13 = .ok (.ldc2_w 49, 3) := by decide +kernel
theorem dX8_incomeOfUnit_16 : decode cX8_incomeOfUnit 16 = .ok (.aload_n 0, 1) := by decide +kernel
theorem dX8_incomeOfUnit_17 : decode cX8_incomeOfUnit 17 = .ok (.getfield 7, 3) := by decide +kernel
theorem dX8_incomeOfUnit_20 : decode cX8_incomeOfUnit 20 = .ok (.bipush 8, 2) := by decide +kernel
theorem dX8_incomeOfUnit_22 : decode cX8_incomeOfUnit 22 = .ok (.laload, 1) := by decide +kernel
theorem dX8_incomeOfUnit_23 : decode cX8_incomeOfUnit 23 = .ok (.lmul, 1) := by decide +kernel
theorem dX8_incomeOfUnit_24 : decode cX8_incomeOfUnit 24 = .ok (.aload_n 0, 1) := by decide +kernel
theorem dX8_incomeOfUnit_25 : decode cX8_incomeOfUnit 25 = .ok (.invokevirtual 75, 3) := by decide +kernel
theorem dX8_incomeOfUnit_28 : decode cX8_incomeOfUnit 28 = .ok (.ldiv, 1) := by decide +kernel
theorem dX8_incomeOfUnit_29 : decode cX8_incomeOfUnit 29 = .ok (.lreturn, 1) := by decide +kernel
theorem dX8_cost_0 : decode cX8_cost 0 = .ok (.aload_n 0, 1) := by decide +kernel
theorem dX8_cost_1 : decode cX8_cost 1 = .ok (.getfield 7, 3) := by decide +kernel
theorem dX8_cost_4 : decode cX8_cost 4 = .ok (.bipush 7, 2) := by decide +kernel
theorem dX8_cost_6 : decode cX8_cost 6 = .ok (.laload, 1) := by decide +kernel
theorem dX8_cost_7 : decode cX8_cost 7 = .ok (.aload_n 0, 1) := by decide +kernel
theorem dX8_cost_8 : decode cX8_cost 8 = .ok (.getfield 7, 3) := by decide +kernel
theorem dX8_cost_11 : decode cX8_cost 11 = .ok (.iconst 4, 1) := by decide +kernel
theorem dX8_cost_12 : decode cX8_cost 12 = .ok (.laload, 1) := by decide +kernel
theorem dX8_cost_13 : decode cX8_cost 13 = .ok (.lmul, 1) := by decide +kernel
theorem dX8_cost_14 : decode cX8_cost 14 = .ok (.ldc2_w 84, 3) := by decide +kernel
theorem dX8_cost_17 : decode cX8_cost 17 = .ok (.ladd, 1) := by decide +kernel
theorem dX8_cost_18 : decode cX8_cost 18 = .ok (.ldc2_w 49, 3) := by decide +kernel
theorem dX8_cost_21 : decode cX8_cost 21 = .ok (.ldiv, 1) := by decide +kernel
theorem dX8_cost_22 : decode cX8_cost 22 = .ok (.lreturn, 1) := by decide +kernel
theorem dX8_ofOrder_0 : decode cX8_ofOrder 0 = .ok (.aload_n 0, 1) := by decide +kernel
theorem dX8_ofOrder_1 : decode cX8_ofOrder 1 = .ok (.getfield 7, 3) := by decide +kernel
theorem dX8_ofOrder_4 : decode cX8_ofOrder 4 = .ok (.iload_n 1, 1) := by decide +kernel
theorem dX8_ofOrder_5 : decode cX8_ofOrder 5 = .ok (.iconst 1, 1) := by decide +kernel
theorem dX8_ofOrder_6 : decode cX8_ofOrder 6 = .ok (.iadd, 1) := by decide +kernel
theorem dX8_ofOrder_7 : decode cX8_ofOrder 7 = .ok (.iconst 3, 1) := by decide +kernel
theorem dX8_ofOrder_8 : decode cX8_ofOrder 8 = .ok (.iload_n 2, 1) := by decide +kernel
theorem dX8_ofOrder_9 : decode cX8_ofOrder 9 = .ok (.imul, 1) := by decide +kernel
theorem dX8_ofOrder_10 : decode cX8_ofOrder 10 = .ok (.iadd, 1) := by decide +kernel
theorem dX8_ofOrder_11 : decode cX8_ofOrder 11 = .ok (.iload_n 3, 1) := by decide +kernel
theorem dX8_ofOrder_12 : decode cX8_ofOrder 12 = .ok (.iadd, 1) := by decide +kernel
theorem dX8_ofOrder_13 : decode cX8_ofOrder 13 = .ok (.laload, 1) := by decide +kernel
theorem dX8_ofOrder_14 : decode cX8_ofOrder 14 = .ok (.lreturn, 1) := by decide +kernel
theorem dX8_sumOf_0 : decode cX8_sumOf 0 = .ok (.lconst 0, 1) := by decide +kernel
theorem dX8_sumOf_1 : decode cX8_sumOf 1 = .ok (.lstore 4, 2) := by decide +kernel
theorem dX8_sumOf_3 : decode cX8_sumOf 3 = .ok (.iconst 0, 1) := by decide +kernel
theorem dX8_sumOf_4 : decode cX8_sumOf 4 = .ok (.istore 6, 2) := by decide +kernel
theorem dX8_sumOf_6 : decode cX8_sumOf 6 = .ok (.iload 6, 2) := by decide +kernel
theorem dX8_sumOf_8 : decode cX8_sumOf 8 = .ok (.i2l, 1) := by decide +kernel
theorem dX8_sumOf_9 : decode cX8_sumOf 9 = .ok (.aload_n 0, 1) := by decide +kernel
theorem dX8_sumOf_10 : decode cX8_sumOf 10 = .ok (.getfield 7, 3) := by decide +kernel
theorem dX8_sumOf_13 : decode cX8_sumOf 13 = .ok (.iload_n 1, 1) := by decide +kernel
theorem dX8_sumOf_14 : decode cX8_sumOf 14 = .ok (.laload, 1) := by decide +kernel
theorem dX8_sumOf_15 : decode cX8_sumOf 15 = .ok (.lcmp, 1) := by decide +kernel
theorem dX8_sumOf_16 : decode cX8_sumOf 16 = .ok (.ifCond .ge 39, 3) := by decide +kernel
theorem dX8_sumOf_19 : decode cX8_sumOf 19 = .ok (.lload 4, 2) := by decide +kernel
theorem dX8_sumOf_21 : decode cX8_sumOf 21 = .ok (.aload_n 0, 1) := by decide +kernel
theorem dX8_sumOf_22 : decode cX8_sumOf 22 = .ok (.iload_n 1, 1) := by decide +kernel
theorem dX8_sumOf_23 : decode cX8_sumOf 23 = .ok (.iload 6, 2) := by decide +kernel
theorem dX8_sumOf_25 : decode cX8_sumOf 25 = .ok (.iconst 2, 1) := by decide +kernel
theorem dX8_sumOf_26 : decode cX8_sumOf 26 = .ok (.invokevirtual 86, 3) := by decide +kernel
theorem dX8_sumOf_29 : decode cX8_sumOf 29 = .ok (.lload_n 2, 1) := by decide +kernel
theorem dX8_sumOf_30 : decode cX8_sumOf 30 = .ok (.lcmp, 1) := by decide +kernel
theorem dX8_sumOf_31 : decode cX8_sumOf 31 = .ok (.ifCond .gt 14, 3) := by decide +kernel
theorem dX8_sumOf_34 : decode cX8_sumOf 34 = .ok (.aload_n 0, 1) := by decide +kernel
theorem dX8_sumOf_35 : decode cX8_sumOf 35 = .ok (.iload_n 1, 1) := by decide +kernel
theorem dX8_sumOf_36 : decode cX8_sumOf 36 = .ok (.iload 6, 2) := by decide +kernel
theorem dX8_sumOf_38 : decode cX8_sumOf 38 = .ok (.iconst 1, 1) := by decide +kernel
theorem dX8_sumOf_39 : decode cX8_sumOf 39 = .ok (.invokevirtual 86, 3) := by decide +kernel
theorem dX8_sumOf_42 : decode cX8_sumOf 42 = .ok (.goto 4, 3) := by decide +kernel
theorem dX8_sumOf_45 : decode cX8_sumOf 45 = .ok (.lconst 0, 1) := by decide +kernel
theorem dX8_sumOf_46 : decode cX8_sumOf 46 = .ok (.ladd, 1) := by decide +kernel
theorem dX8_sumOf_47 : decode cX8_sumOf 47 = .ok (.lstore 4, 2) := by decide +kernel
theorem dX8_sumOf_49 : decode cX8_sumOf 49 = .ok (.iinc 6 1, 3) := by decide +kernel
theorem dX8_sumOf_52 : decode cX8_sumOf 52 = .ok (.goto (-46), 3) := by decide +kernel
theorem dX8_sumOf_55 : decode cX8_sumOf 55 = .ok (.lload 4, 2) := by decide +kernel
theorem dX8_sumOf_57 : decode cX8_sumOf 57 = .ok (.lreturn, 1) := by decide +kernel
theorem dX8_bound_0 : decode cX8_bound 0 = .ok (.lconst 0, 1) := by decide +kernel
theorem dX8_bound_1 : decode cX8_bound 1 = .ok (.lstore_n 2, 1) := by decide +kernel
theorem dX8_bound_2 : decode cX8_bound 2 = .ok (.iconst 0, 1) := by decide +kernel
theorem dX8_bound_3 : decode cX8_bound 3 = .ok (.istore 4, 2) := by decide +kernel
theorem dX8_bound_5 : decode cX8_bound 5 = .ok (.iload 4, 2) := by decide +kernel
theorem dX8_bound_7 : decode cX8_bound 7 = .ok (.i2l, 1) := by decide +kernel
theorem dX8_bound_8 : decode cX8_bound 8 = .ok (.aload_n 0, 1) := by decide +kernel
theorem dX8_bound_9 : decode cX8_bound 9 = .ok (.getfield 7, 3) := by decide +kernel
theorem dX8_bound_12 : decode cX8_bound 12 = .ok (.bipush 122, 2) := by decide +kernel
theorem dX8_bound_14 : decode cX8_bound 14 = .ok (.laload, 1) := by decide +kernel
theorem dX8_bound_15 : decode cX8_bound 15 = .ok (.lcmp, 1) := by decide +kernel
theorem dX8_bound_16 : decode cX8_bound 16 = .ok (.ifCond .ge 40, 3) := by decide +kernel
theorem dX8_bound_19 : decode cX8_bound 19 = .ok (.lload_n 2, 1) := by decide +kernel
theorem dX8_bound_20 : decode cX8_bound 20 = .ok (.aload_n 0, 1) := by decide +kernel
theorem dX8_bound_21 : decode cX8_bound 21 = .ok (.bipush 122, 2) := by decide +kernel
theorem dX8_bound_23 : decode cX8_bound 23 = .ok (.iload 4, 2) := by decide +kernel
theorem dX8_bound_25 : decode cX8_bound 25 = .ok (.iconst 0, 1) := by decide +kernel
theorem dX8_bound_26 : decode cX8_bound 26 = .ok (.invokevirtual 86, 3) := by decide +kernel
theorem dX8_bound_29 : decode cX8_bound 29 = .ok (.iload_n 1, 1) := by decide +kernel
theorem dX8_bound_30 : decode cX8_bound 30 = .ok (.i2l, 1) := by decide +kernel
theorem dX8_bound_31 : decode cX8_bound 31 = .ok (.lcmp, 1) := by decide +kernel
theorem dX8_bound_32 : decode cX8_bound 32 = .ok (.ifCond .ne 15, 3) := by decide +kernel
theorem dX8_bound_35 : decode cX8_bound 35 = .ok (.aload_n 0, 1) := by decide +kernel
theorem dX8_bound_36 : decode cX8_bound 36 = .ok (.bipush 122, 2) := by decide +kernel
theorem dX8_bound_38 : decode cX8_bound 38 = .ok (.iload 4, 2) := by decide +kernel
theorem dX8_bound_40 : decode cX8_bound 40 = .ok (.iconst 1, 1) := by decide +kernel
theorem dX8_bound_41 : decode cX8_bound 41 = .ok (.invokevirtual 86, 3) := by decide +kernel
theorem dX8_bound_44 : decode cX8_bound 44 = .ok (.goto 4, 3) := by decide +kernel
theorem dX8_bound_47 : decode cX8_bound 47 = .ok (.lconst 0, 1) := by decide +kernel
theorem dX8_bound_48 : decode cX8_bound 48 = .ok (.ladd, 1) := by decide +kernel
theorem dX8_bound_49 : decode cX8_bound 49 = .ok (.lstore_n 2, 1) := by decide +kernel
theorem dX8_bound_50 : decode cX8_bound 50 = .ok (.iinc 4 1, 3) := by decide +kernel
theorem dX8_bound_53 : decode cX8_bound 53 = .ok (.goto (-48), 3) := by decide +kernel
theorem dX8_bound_56 : decode cX8_bound 56 = .ok (.lload_n 2, 1) := by decide +kernel
theorem dX8_bound_57 : decode cX8_bound 57 = .ok (.lreturn, 1) := by decide +kernel
theorem dX8_holdPool_0 : decode cX8_holdPool 0 = .ok (.aload_n 0, 1) := by decide +kernel
theorem dX8_holdPool_1 : decode cX8_holdPool 1 = .ok (.getfield 7, 3) := by decide +kernel
theorem dX8_holdPool_4 : decode cX8_holdPool 4 = .ok (.bipush 8, 2) := by decide +kernel
theorem dX8_holdPool_6 : decode cX8_holdPool 6 = .ok (.aload_n 0, 1) := by decide +kernel
theorem dX8_holdPool_7 : decode cX8_holdPool 7 = .ok (.getfield 7, 3) := by decide +kernel
theorem dX8_holdPool_10 : decode cX8_holdPool 10 = .ok (.bipush 8, 2) := by decide +kernel
theorem dX8_holdPool_12 : decode cX8_holdPool 12 = .ok (.laload, 1) := by decide +kernel
theorem dX8_holdPool_13 : decode cX8_holdPool 13 = .ok (.aload_n 0, 1) := by decide +kernel
theorem dX8_holdPool_14 : decode cX8_holdPool 14 = .ok (.getfield 7, 3) := by decide +kernel
theorem dX8_holdPool_17 : decode cX8_holdPool 17 = .ok (.iconst 5, 1) := by decide +kernel
theorem dX8_holdPool_18 : decode cX8_holdPool 18 = .ok (.laload, 1) := by decide +kernel
theorem dX8_holdPool_19 : decode cX8_holdPool 19 = .ok (.lcmp, 1) := by decide +kernel
theorem dX8_holdPool_20 : decode cX8_holdPool 20 = .ok (.ifCond .le 12, 3) := by decide +kernel
theorem dX8_holdPool_23 : decode cX8_holdPool 23 = .ok (.aload_n 0, 1) := by decide +kernel
theorem dX8_holdPool_24 : decode cX8_holdPool 24 = .ok (.getfield 7, 3) := by decide +kernel
theorem dX8_holdPool_27 : decode cX8_holdPool 27 = .ok (.iconst 5, 1) := by decide +kernel
theorem dX8_holdPool_28 : decode cX8_holdPool 28 = .ok (.laload, 1) := by decide +kernel
theorem dX8_holdPool_29 : decode cX8_holdPool 29 = .ok (.goto 10, 3) := by decide +kernel
theorem dX8_holdPool_32 : decode cX8_holdPool 32 = .ok (.aload_n 0, 1) := by decide +kernel
theorem dX8_holdPool_33 : decode cX8_holdPool 33 = .ok (.getfield 7, 3) := by decide +kernel
theorem dX8_holdPool_36 : decode cX8_holdPool 36 = .ok (.bipush 8, 2) := by decide +kernel
theorem dX8_holdPool_38 : decode cX8_holdPool 38 = .ok (.laload, 1) := by decide +kernel
theorem dX8_holdPool_39 : decode cX8_holdPool 39 = .ok (.lastore, 1) := by decide +kernel
theorem dX8_holdPool_40 : decode cX8_holdPool 40 = .ok (.return_, 1) := by decide +kernel
theorem dX8_makeUnits_0 : decode cX8_makeUnits 0 = .ok (.lload_n 2, 1) := by decide +kernel
theorem dX8_makeUnits_1 : decode cX8_makeUnits 1 = .ok (.lload 4, 2) := by decide +kernel
theorem dX8_makeUnits_3 : decode cX8_makeUnits 3 = .ok (.lmul, 1) := by decide +kernel
theorem dX8_makeUnits_4 : decode cX8_makeUnits 4 = .ok (.ldc2_w 49, 3) := by decide +kernel
theorem dX8_makeUnits_7 : decode cX8_makeUnits 7 = .ok (.ldiv, 1) := by decide +kernel
theorem dX8_makeUnits_8 : decode cX8_makeUnits 8 = .ok (.lstore 6, 2) := by decide +kernel
theorem dX8_makeUnits_10 : decode cX8_makeUnits 10 = .ok (.aload_n 0, 1) := by decide +kernel
theorem dX8_makeUnits_11 : decode cX8_makeUnits 11 = .ok (.iload_n 1, 1) := by decide +kernel
theorem dX8_makeUnits_12 : decode cX8_makeUnits 12 = .ok (.iconst 1, 1) := by decide +kernel
theorem dX8_makeUnits_13 : decode cX8_makeUnits 13 = .ok (.lload_n 2, 1) := by decide +kernel
theorem dX8_makeUnits_14 : decode cX8_makeUnits 14 = .ok (.invokevirtual 90, 3) := by decide +kernel
theorem dX8_makeUnits_17 : decode cX8_makeUnits 17 = .ok (.aload_n 0, 1) := by decide +kernel
theorem dX8_makeUnits_18 : decode cX8_makeUnits 18 = .ok (.getfield 7, 3) := by decide +kernel
theorem dX8_makeUnits_21 : decode cX8_makeUnits 21 = .ok (.bipush 8, 2) := by decide +kernel
theorem dX8_makeUnits_23 : decode cX8_makeUnits 23 = .ok (.dup2, 1) := by decide +kernel
theorem dX8_makeUnits_24 : decode cX8_makeUnits 24 = .ok (.laload, 1) := by decide +kernel
theorem dX8_makeUnits_25 : decode cX8_makeUnits 25 = .ok (.lload 6, 2) := by decide +kernel
theorem dX8_makeUnits_27 : decode cX8_makeUnits 27 = .ok (.ladd, 1) := by decide +kernel
theorem dX8_makeUnits_28 : decode cX8_makeUnits 28 = .ok (.lastore, 1) := by decide +kernel
theorem dX8_makeUnits_29 : decode cX8_makeUnits 29 = .ok (.aload_n 0, 1) := by decide +kernel
theorem dX8_makeUnits_30 : decode cX8_makeUnits 30 = .ok (.getfield 7, 3) := by decide +kernel
theorem dX8_makeUnits_33 : decode cX8_makeUnits 33 = .ok (.bipush 9, 2) := by decide +kernel
theorem dX8_makeUnits_35 : decode cX8_makeUnits 35 = .ok (.dup2, 1) := by decide +kernel
theorem dX8_makeUnits_36 : decode cX8_makeUnits 36 = .ok (.laload, 1) := by decide +kernel
theorem dX8_makeUnits_37 : decode cX8_makeUnits 37 = .ok (.lload 6, 2) := by decide +kernel
theorem dX8_makeUnits_39 : decode cX8_makeUnits 39 = .ok (.ladd, 1) := by decide +kernel
theorem dX8_makeUnits_40 : decode cX8_makeUnits 40 = .ok (.lastore, 1) := by decide +kernel
theorem dX8_makeUnits_41 : decode cX8_makeUnits 41 = .ok (.aload_n 0, 1) := by decide +kernel
theorem dX8_makeUnits_42 : decode cX8_makeUnits 42 = .ok (.invokevirtual 94, 3) := by decide +kernel
theorem dX8_makeUnits_45 : decode cX8_makeUnits 45 = .ok (.return_, 1) := by decide +kernel
theorem dX8_goUnits_0 : decode cX8_goUnits 0 = .ok (.aload_n 0, 1) := by decide +kernel
theorem dX8_goUnits_1 : decode cX8_goUnits 1 = .ok (.getfield 7, 3) := by decide +kernel
theorem dX8_goUnits_4 : decode cX8_goUnits 4 = .ok (.bipush 8, 2) := by decide +kernel
theorem dX8_goUnits_6 : decode cX8_goUnits 6 = .ok (.laload, 1) := by decide +kernel
theorem dX8_goUnits_7 : decode cX8_goUnits 7 = .ok (.lload_n 2, 1) := by decide +kernel
theorem dX8_goUnits_8 : decode cX8_goUnits 8 = .ok (.lload 4, 2) := by decide +kernel
theorem dX8_goUnits_10 : decode cX8_goUnits 10 = .ok (.lmul, 1) := by decide +kernel
theorem dX8_goUnits_11 : decode cX8_goUnits 11 = .ok (.ldc2_w 49, 3) := by decide +kernel
theorem dX8_goUnits_14 : decode cX8_goUnits 14 = .ok (.ldiv, 1) := by decide +kernel
theorem dX8_goUnits_15 : decode cX8_goUnits 15 = .ok (.lsub, 1) := by decide +kernel
theorem dX8_goUnits_16 : decode cX8_goUnits 16 = .ok (.lstore 6, 2) := by decide +kernel
theorem dX8_goUnits_18 : decode cX8_goUnits 18 = .ok (.aload_n 0, 1) := by decide +kernel
theorem dX8_goUnits_19 : decode cX8_goUnits 19 = .ok (.getfield 7, 3) := by decide +kernel
theorem dX8_goUnits_22 : decode cX8_goUnits 22 = .ok (.bipush 8, 2) := by decide +kernel
theorem dX8_goUnits_24 : decode cX8_goUnits 24 = .ok (.lload 6, 2) := by decide +kernel
theorem dX8_goUnits_26 : decode cX8_goUnits 26 = .ok (.lconst 0, 1) := by decide +kernel
theorem dX8_goUnits_27 : decode cX8_goUnits 27 = .ok (.lcmp, 1) := by decide +kernel
theorem dX8_goUnits_28 : decode cX8_goUnits 28 = .ok (.ifCond .ge 7, 3) := by decide +kernel
theorem dX8_goUnits_31 : decode cX8_goUnits 31 = .ok (.lconst 0, 1) := by decide +kernel
theorem dX8_goUnits_32 : decode cX8_goUnits 32 = .ok (.goto 5, 3) := by decide +kernel
theorem dX8_goUnits_35 : decode cX8_goUnits 35 = .ok (.lload 6, 2) := by decide +kernel
theorem dX8_goUnits_37 : decode cX8_goUnits 37 = .ok (.lastore, 1) := by decide +kernel
theorem dX8_goUnits_38 : decode cX8_goUnits 38 = .ok (.aload_n 0, 1) := by decide +kernel
theorem dX8_goUnits_39 : decode cX8_goUnits 39 = .ok (.iload_n 1, 1) := by decide +kernel
theorem dX8_goUnits_40 : decode cX8_goUnits 40 = .ok (.iconst 0, 1) := by decide +kernel
theorem dX8_goUnits_41 : decode cX8_goUnits 41 = .ok (.invokevirtual 57, 3) := by decide +kernel
theorem dX8_goUnits_44 : decode cX8_goUnits 44 = .ok (.lload_n 2, 1) := by decide +kernel
theorem dX8_goUnits_45 : decode cX8_goUnits 45 = .ok (.lcmp, 1) := by decide +kernel
theorem dX8_goUnits_46 : decode cX8_goUnits 46 = .ok (.ifCond .ge 12, 3) := by decide +kernel
theorem dX8_goUnits_49 : decode cX8_goUnits 49 = .ok (.aload_n 0, 1) := by decide +kernel
theorem dX8_goUnits_50 : decode cX8_goUnits 50 = .ok (.iload_n 1, 1) := by decide +kernel
theorem dX8_goUnits_51 : decode cX8_goUnits 51 = .ok (.iconst 0, 1) := by decide +kernel
theorem dX8_goUnits_52 : decode cX8_goUnits 52 = .ok (.invokevirtual 57, 3) := by decide +kernel
theorem dX8_goUnits_55 : decode cX8_goUnits 55 = .ok (.goto 4, 3) := by decide +kernel
theorem dX8_goUnits_58 : decode cX8_goUnits 58 = .ok (.lload_n 2, 1) := by decide +kernel
theorem dX8_goUnits_59 : decode cX8_goUnits 59 = .ok (.lstore 8, 2) := by decide +kernel
theorem dX8_goUnits_61 : decode cX8_goUnits 61 = .ok (.lload_n 2, 1) := by decide +kernel
theorem dX8_goUnits_62 : decode cX8_goUnits 62 = .ok (.lload 8, 2) := by decide +kernel
theorem dX8_goUnits_64 : decode cX8_goUnits 64 = .ok (.lsub, 1) := by decide +kernel
theorem dX8_goUnits_65 : decode cX8_goUnits 65 = .ok (.lstore 10, 2) := by decide +kernel
theorem dX8_goUnits_67 : decode cX8_goUnits 67 = .ok (.lload 10, 2) := by decide +kernel
theorem dX8_goUnits_69 : decode cX8_goUnits 69 = .ok (.lconst 0, 1) := by decide +kernel
theorem dX8_goUnits_70 : decode cX8_goUnits 70 = .ok (.lcmp, 1) := by decide +kernel
theorem dX8_goUnits_71 : decode cX8_goUnits 71 = .ok (.ifCond .le 28, 3) := by decide +kernel
theorem dX8_goUnits_74 : decode cX8_goUnits 74 = .ok (.aload_n 0, 1) := by decide +kernel
theorem dX8_goUnits_75 : decode cX8_goUnits 75 = .ok (.getfield 7, 3) := by decide +kernel
theorem dX8_goUnits_78 : decode cX8_goUnits 78 = .ok (.bipush 9, 2) := by decide +kernel
theorem dX8_goUnits_80 : decode cX8_goUnits 80 = .ok (.dup2, 1) := by decide +kernel
theorem dX8_goUnits_81 : decode cX8_goUnits 81 = .ok (.laload, 1) := by decide +kernel
theorem dX8_goUnits_82 : decode cX8_goUnits 82 = .ok (.lload 10, 2) := by decide +kernel
theorem dX8_goUnits_84 : decode cX8_goUnits 84 = .ok (.aload_n 0, 1) := by decide +kernel
theorem dX8_goUnits_85 : decode cX8_goUnits 85 = .ok (.getfield 7, 3) := by decide +kernel
theorem dX8_goUnits_88 : decode cX8_goUnits 88 = .ok (.bipush 9, 2) := by decide +kernel
theorem dX8_goUnits_90 : decode cX8_goUnits 90 = .ok (.laload, 1) := by decide +kernel
theorem dX8_goUnits_91 : decode cX8_goUnits 91 = .ok (.lmul, 1) := by decide +kernel
theorem dX8_goUnits_92 : decode cX8_goUnits 92 = .ok (.aload_n 0, 1) := by decide +kernel
theorem dX8_goUnits_93 : decode cX8_goUnits 93 = .ok (.invokevirtual 97, 3) := by decide +kernel
theorem dX8_goUnits_96 : decode cX8_goUnits 96 = .ok (.ldiv, 1) := by decide +kernel
theorem dX8_goUnits_97 : decode cX8_goUnits 97 = .ok (.lsub, 1) := by decide +kernel
theorem dX8_goUnits_98 : decode cX8_goUnits 98 = .ok (.lastore, 1) := by decide +kernel
theorem dX8_goUnits_99 : decode cX8_goUnits 99 = .ok (.aload_n 0, 1) := by decide +kernel
theorem dX8_goUnits_100 : decode cX8_goUnits 100 = .ok (.iload_n 1, 1) := by decide +kernel
theorem dX8_goUnits_101 : decode cX8_goUnits 101 = .ok (.iconst 0, 1) := by decide +kernel
theorem dX8_goUnits_102 : decode cX8_goUnits 102 = .ok (.lload 8, 2) := by decide +kernel
theorem dX8_goUnits_104 : decode cX8_goUnits 104 = .ok (.lneg, 1) := by decide +kernel
theorem dX8_goUnits_105 : decode cX8_goUnits 105 = .ok (.invokevirtual 90, 3) := by decide +kernel
theorem dX8_goUnits_108 : decode cX8_goUnits 108 = .ok (.aload_n 0, 1) := by decide +kernel
theorem dX8_goUnits_109 : decode cX8_goUnits 109 = .ok (.iload_n 1, 1) := by decide +kernel
theorem dX8_goUnits_110 : decode cX8_goUnits 110 = .ok (.iconst 1, 1) := by decide +kernel
theorem dX8_goUnits_111 : decode cX8_goUnits 111 = .ok (.lload 10, 2) := by decide +kernel
theorem dX8_goUnits_113 : decode cX8_goUnits 113 = .ok (.lneg, 1) := by decide +kernel
theorem dX8_goUnits_114 : decode cX8_goUnits 114 = .ok (.invokevirtual 90, 3) := by decide +kernel
theorem dX8_goUnits_117 : decode cX8_goUnits 117 = .ok (.aload_n 0, 1) := by decide +kernel
theorem dX8_goUnits_118 : decode cX8_goUnits 118 = .ok (.invokevirtual 94, 3) := by decide +kernel
theorem dX8_goUnits_121 : decode cX8_goUnits 121 = .ok (.return_, 1) := by decide +kernel
theorem dX8_takeOut_0 : decode cX8_takeOut 0 = .ok (.aload_n 0, 1) := by decide +kernel
theorem dX8_takeOut_1 : decode cX8_takeOut 1 = .ok (.getfield 7, 3) := by decide +kernel
theorem dX8_takeOut_4 : decode cX8_takeOut 4 = .ok (.iload_n 1, 1) := by decide +kernel
theorem dX8_takeOut_5 : decode cX8_takeOut 5 = .ok (.dup2, 1) := by decide +kernel
theorem dX8_takeOut_6 : decode cX8_takeOut 6 = .ok (.laload, 1) := by decide +kernel
theorem dX8_takeOut_7 : decode cX8_takeOut 7 = .ok (.lconst 1, 1) := by decide +kernel
theorem dX8_takeOut_8 : decode cX8_takeOut 8 = .ok (.lsub, 1) := by decide +kernel
theorem dX8_takeOut_9 : decode cX8_takeOut 9 = .ok (.lastore, 1) := by decide +kernel
theorem dX8_takeOut_10 : decode cX8_takeOut 10 = .ok (.iload_n 1, 1) := by decide +kernel
theorem dX8_takeOut_11 : decode cX8_takeOut 11 = .ok (.iconst 1, 1) := by decide +kernel
theorem dX8_takeOut_12 : decode cX8_takeOut 12 = .ok (.iadd, 1) := by decide +kernel
theorem dX8_takeOut_13 : decode cX8_takeOut 13 = .ok (.iconst 3, 1) := by decide +kernel
theorem dX8_takeOut_14 : decode cX8_takeOut 14 = .ok (.iload_n 2, 1) := by decide +kernel
theorem dX8_takeOut_15 : decode cX8_takeOut 15 = .ok (.imul, 1) := by decide +kernel
theorem dX8_takeOut_16 : decode cX8_takeOut 16 = .ok (.iadd, 1) := by decide +kernel
theorem dX8_takeOut_17 : decode cX8_takeOut 17 = .ok (.istore_n 3, 1) := by decide +kernel
theorem dX8_takeOut_18 : decode cX8_takeOut 18 = .ok (.iload_n 3, 1) := by decide +kernel
theorem dX8_takeOut_19 : decode cX8_takeOut 19 = .ok (.i2l, 1) := by decide +kernel
theorem dX8_takeOut_20 : decode cX8_takeOut 20 = .ok (.iload_n 1, 1) := by decide +kernel
theorem dX8_takeOut_21 : decode cX8_takeOut 21 = .ok (.iconst 1, 1) := by decide +kernel
theorem dX8_takeOut_22 : decode cX8_takeOut 22 = .ok (.iadd, 1) := by decide +kernel
theorem dX8_takeOut_23 : decode cX8_takeOut 23 = .ok (.i2l, 1) := by decide +kernel
theorem dX8_takeOut_24 : decode cX8_takeOut 24 = .ok (.ldc2_w 100, 3) := by decide +kernel
theorem dX8_takeOut_27 : decode cX8_takeOut 27 = .ok (.aload_n 0, 1) := by decide +kernel
theorem dX8_takeOut_28 : decode cX8_takeOut 28 = .ok (.getfield 7, 3) := by decide +kernel
theorem dX8_takeOut_31 : decode cX8_takeOut 31 = .ok (.iload_n 1, 1) := by decide +kernel
theorem dX8_takeOut_32 : decode cX8_takeOut 32 = .ok (.laload, 1) := by decide +kernel
theorem dX8_takeOut_33 : decode cX8_takeOut 33 = .ok (.lmul, 1) := by decide +kernel
theorem dX8_takeOut_34 : decode cX8_takeOut 34 = .ok (.ladd, 1) := by decide +kernel
theorem dX8_takeOut_35 : decode cX8_takeOut 35 = .ok (.lcmp, 1) := by decide +kernel
theorem dX8_takeOut_36 : decode cX8_takeOut 36 = .ok (.ifCond .ge 23, 3) := by decide +kernel
theorem dX8_takeOut_39 : decode cX8_takeOut 39 = .ok (.aload_n 0, 1) := by decide +kernel
theorem dX8_takeOut_40 : decode cX8_takeOut 40 = .ok (.getfield 7, 3) := by decide +kernel
theorem dX8_takeOut_43 : decode cX8_takeOut 43 = .ok (.iload_n 3, 1) := by decide +kernel
theorem dX8_takeOut_44 : decode cX8_takeOut 44 = .ok (.aload_n 0, 1) := by decide +kernel
theorem dX8_takeOut_45 : decode cX8_takeOut 45 = .ok (.getfield 7, 3) := by decide +kernel
theorem dX8_takeOut_48 : decode cX8_takeOut 48 = .ok (.iload_n 3, 1) := by decide +kernel
theorem dX8_takeOut_49 : decode cX8_takeOut 49 = .ok (.iconst 3, 1) := by decide +kernel
theorem dX8_takeOut_50 : decode cX8_takeOut 50 = .ok (.iadd, 1) := by decide +kernel
theorem dX8_takeOut_51 : decode cX8_takeOut 51 = .ok (.laload, 1) := by decide +kernel
theorem dX8_takeOut_52 : decode cX8_takeOut 52 = .ok (.lastore, 1) := by decide +kernel
theorem dX8_takeOut_53 : decode cX8_takeOut 53 = .ok (.iinc 3 1, 3) := by decide +kernel
theorem dX8_takeOut_56 : decode cX8_takeOut 56 = .ok (.goto (-38), 3) := by decide +kernel
theorem dX8_takeOut_59 : decode cX8_takeOut 59 = .ok (.return_, 1) := by decide +kernel
theorem dX8_putIn_0 : decode cX8_putIn 0 = .ok (.iload 5, 2) := by decide +kernel
theorem dX8_putIn_2 : decode cX8_putIn 2 = .ok (.i2l, 1) := by decide +kernel
theorem dX8_putIn_3 : decode cX8_putIn 3 = .ok (.aload_n 0, 1) := by decide +kernel
theorem dX8_putIn_4 : decode cX8_putIn 4 = .ok (.getfield 7, 3) := by decide +kernel
theorem dX8_putIn_7 : decode cX8_putIn 7 = .ok (.iconst 0, 1) := by decide +kernel
theorem dX8_putIn_8 : decode cX8_putIn 8 = .ok (.laload, 1) := by decide +kernel
theorem dX8_putIn_9 : decode cX8_putIn 9 = .ok (.lcmp, 1) := by decide +kernel
theorem dX8_putIn_10 : decode cX8_putIn 10 = .ok (.ifCond .ge 13, 3) := by decide +kernel
theorem dX8_putIn_13 : decode cX8_putIn 13 = .ok (.aload_n 0, 1) := by decide +kernel
theorem dX8_putIn_14 : decode cX8_putIn 14 = .ok (.getfield 7, 3) := by decide +kernel
theorem dX8_putIn_17 : decode cX8_putIn 17 = .ok (.bipush 10, 2) := by decide +kernel
theorem dX8_putIn_19 : decode cX8_putIn 19 = .ok (.laload, 1) := by decide +kernel
theorem dX8_putIn_20 : decode cX8_putIn 20 = .ok (.goto 12, 3) := by decide +kernel
theorem dX8_putIn_23 : decode cX8_putIn 23 = .ok (.aload_n 0, 1) := by decide +kernel
theorem dX8_putIn_24 : decode cX8_putIn 24 = .ok (.getfield 7, 3) := by decide +kernel
theorem dX8_putIn_27 : decode cX8_putIn 27 = .ok (.bipush 10, 2) := by decide +kernel
theorem dX8_putIn_29 : decode cX8_putIn 29 = .ok (.laload, 1) := by decide +kernel
theorem dX8_putIn_30 : decode cX8_putIn 30 = .ok (.lconst 1, 1) := by decide +kernel
theorem dX8_putIn_31 : decode cX8_putIn 31 = .ok (.ladd, 1) := by decide +kernel
theorem dX8_putIn_32 : decode cX8_putIn 32 = .ok (.lstore 6, 2) := by decide +kernel
theorem dX8_putIn_34 : decode cX8_putIn 34 = .ok (.aload_n 0, 1) := by decide +kernel
theorem dX8_putIn_35 : decode cX8_putIn 35 = .ok (.getfield 7, 3) := by decide +kernel
theorem dX8_putIn_38 : decode cX8_putIn 38 = .ok (.iload_n 1, 1) := by decide +kernel
theorem dX8_putIn_39 : decode cX8_putIn 39 = .ok (.laload, 1) := by decide +kernel
theorem dX8_putIn_40 : decode cX8_putIn 40 = .ok (.l2i, 1) := by decide +kernel
theorem dX8_putIn_41 : decode cX8_putIn 41 = .ok (.istore 8, 2) := by decide +kernel
theorem dX8_putIn_43 : decode cX8_putIn 43 = .ok (.iload 8, 2) := by decide +kernel
theorem dX8_putIn_45 : decode cX8_putIn 45 = .ok (.ifCond .le 74, 3) := by decide +kernel
theorem dX8_putIn_48 : decode cX8_putIn 48 = .ok (.aload_n 0, 1) := by decide +kernel
theorem dX8_putIn_49 : decode cX8_putIn 49 = .ok (.iload_n 1, 1) := by decide +kernel
theorem dX8_putIn_50 : decode cX8_putIn 50 = .ok (.iload 8, 2) := by decide +kernel
theorem dX8_putIn_52 : decode cX8_putIn 52 = .ok (.iconst 1, 1) := by decide +kernel
theorem dX8_putIn_53 : decode cX8_putIn 53 = .ok (.isub, 1) := by decide +kernel
theorem dX8_putIn_54 : decode cX8_putIn 54 = .ok (.iconst 2, 1) := by decide +kernel
theorem dX8_putIn_55 : decode cX8_putIn 55 = .ok (.invokevirtual 86, 3) := by decide +kernel
theorem dX8_putIn_58 : decode cX8_putIn 58 = .ok (.lload 6, 2) := by decide +kernel
theorem dX8_putIn_60 : decode cX8_putIn 60 = .ok (.lcmp, 1) := by decide +kernel
theorem dX8_putIn_61 : decode cX8_putIn 61 = .ok (.ifCond .le 58, 3) := by decide +kernel
theorem dX8_putIn_64 : decode cX8_putIn 64 = .ok (.iconst 0, 1) := by decide +kernel
theorem dX8_putIn_65 : decode cX8_putIn 65 = .ok (.istore 9, 2) := by decide +kernel
theorem dX8_putIn_67 : decode cX8_putIn 67 = .ok (.iload 9, 2) := by decide +kernel
theorem dX8_putIn_69 : decode cX8_putIn 69 = .ok (.iconst 3, 1) := by decide +kernel
theorem dX8_putIn_70 : decode cX8_putIn 70 = .ok (.if_icmp .ge 43, 3) := by decide +kernel
theorem dX8_putIn_73 : decode cX8_putIn 73 = .ok (.aload_n 0, 1) := by decide +kernel
theorem dX8_putIn_74 : decode cX8_putIn 74 = .ok (.getfield 7, 3) := by decide +kernel
theorem dX8_putIn_77 : decode cX8_putIn 77 = .ok (.iload_n 1, 1) := by decide +kernel
theorem dX8_putIn_78 : decode cX8_putIn 78 = .ok (.iconst 1, 1) := by decide +kernel
theorem dX8_putIn_79 : decode cX8_putIn 79 = .ok (.iadd, 1) := by decide +kernel
theorem dX8_putIn_80 : decode cX8_putIn 80 = .ok (.iconst 3, 1) := by decide +kernel
theorem dX8_putIn_81 : decode cX8_putIn 81 = .ok (.iload 8, 2) := by decide +kernel
theorem dX8_putIn_83 : decode cX8_putIn 83 = .ok (.imul, 1) := by decide +kernel
theorem dX8_putIn_84 : decode cX8_putIn 84 = .ok (.iadd, 1) := by decide +kernel
theorem dX8_putIn_85 : decode cX8_putIn 85 = .ok (.iload 9, 2) := by decide +kernel
theorem dX8_putIn_87 : decode cX8_putIn 87 = .ok (.iadd, 1) := by decide +kernel
theorem dX8_putIn_88 : decode cX8_putIn 88 = .ok (.aload_n 0, 1) := by decide +kernel
theorem dX8_putIn_89 : decode cX8_putIn 89 = .ok (.getfield 7, 3) := by decide +kernel
theorem dX8_putIn_92 : decode cX8_putIn 92 = .ok (.iload_n 1, 1) := by decide +kernel
theorem dX8_putIn_93 : decode cX8_putIn 93 = .ok (.iconst 1, 1) := by decide +kernel
theorem dX8_putIn_94 : decode cX8_putIn 94 = .ok (.iadd, 1) := by decide +kernel
theorem dX8_putIn_95 : decode cX8_putIn 95 = .ok (.iconst 3, 1) := by decide +kernel
theorem dX8_putIn_96 : decode cX8_putIn 96 = .ok (.iload 8, 2) := by decide +kernel
theorem dX8_putIn_98 : decode cX8_putIn 98 = .ok (.iconst 1, 1) := by decide +kernel
theorem dX8_putIn_99 : decode cX8_putIn 99 = .ok (.isub, 1) := by decide +kernel
theorem dX8_putIn_100 : decode cX8_putIn 100 = .ok (.imul, 1) := by decide +kernel
theorem dX8_putIn_101 : decode cX8_putIn 101 = .ok (.iadd, 1) := by decide +kernel
theorem dX8_putIn_102 : decode cX8_putIn 102 = .ok (.iload 9, 2) := by decide +kernel
theorem dX8_putIn_104 : decode cX8_putIn 104 = .ok (.iadd, 1) := by decide +kernel
theorem dX8_putIn_105 : decode cX8_putIn 105 = .ok (.laload, 1) := by decide +kernel
theorem dX8_putIn_106 : decode cX8_putIn 106 = .ok (.lastore, 1) := by decide +kernel
theorem dX8_putIn_107 : decode cX8_putIn 107 = .ok (.iinc 9 1, 3) := by decide +kernel
theorem dX8_putIn_110 : decode cX8_putIn 110 = .ok (.goto (-43), 3) := by decide +kernel
theorem dX8_putIn_113 : decode cX8_putIn 113 = .ok (.iinc 8 (-1), 3) := by decide +kernel
theorem dX8_putIn_116 : decode cX8_putIn 116 = .ok (.goto (-73), 3) := by decide +kernel
theorem dX8_putIn_119 : decode cX8_putIn 119 = .ok (.iload_n 1, 1) := by decide +kernel
theorem dX8_putIn_120 : decode cX8_putIn 120 = .ok (.iconst 1, 1) := by decide +kernel
theorem dX8_putIn_121 : decode cX8_putIn 121 = .ok (.iadd, 1) := by decide +kernel
theorem dX8_putIn_122 : decode cX8_putIn 122 = .ok (.iconst 3, 1) := by decide +kernel
theorem dX8_putIn_123 : decode cX8_putIn 123 = .ok (.iload 8, 2) := by decide +kernel
theorem dX8_putIn_125 : decode cX8_putIn 125 = .ok (.imul, 1) := by decide +kernel
theorem dX8_putIn_126 : decode cX8_putIn 126 = .ok (.iadd, 1) := by decide +kernel
theorem dX8_putIn_127 : decode cX8_putIn 127 = .ok (.istore 9, 2) := by decide +kernel
theorem dX8_putIn_129 : decode cX8_putIn 129 = .ok (.aload_n 0, 1) := by decide +kernel
theorem dX8_putIn_130 : decode cX8_putIn 130 = .ok (.getfield 7, 3) := by decide +kernel
theorem dX8_putIn_133 : decode cX8_putIn 133 = .ok (.iload 9, 2) := by decide +kernel
theorem dX8_putIn_135 : decode cX8_putIn 135 = .ok (.iconst 0, 1) := by decide +kernel
theorem dX8_putIn_136 : decode cX8_putIn 136 = .ok (.iadd, 1) := by decide +kernel
theorem dX8_putIn_137 : decode cX8_putIn 137 = .ok (.iload_n 2, 1) := by decide +kernel
theorem dX8_putIn_138 : decode cX8_putIn 138 = .ok (.i2l, 1) := by decide +kernel
theorem dX8_putIn_139 : decode cX8_putIn 139 = .ok (.lastore, 1) := by decide +kernel
theorem dX8_putIn_140 : decode cX8_putIn 140 = .ok (.aload_n 0, 1) := by decide +kernel
theorem dX8_putIn_141 : decode cX8_putIn 141 = .ok (.getfield 7, 3) := by decide +kernel
theorem dX8_putIn_144 : decode cX8_putIn 144 = .ok (.iload 9, 2) := by decide +kernel
theorem dX8_putIn_146 : decode cX8_putIn 146 = .ok (.iconst 1, 1) := by decide +kernel
theorem dX8_putIn_147 : decode cX8_putIn 147 = .ok (.iadd, 1) := by decide +kernel
theorem dX8_putIn_148 : decode cX8_putIn 148 = .ok (.lload_n 3, 1) := by decide +kernel
theorem dX8_putIn_149 : decode cX8_putIn 149 = .ok (.lastore, 1) := by decide +kernel
theorem dX8_putIn_150 : decode cX8_putIn 150 = .ok (.aload_n 0, 1) := by decide +kernel
theorem dX8_putIn_151 : decode cX8_putIn 151 = .ok (.getfield 7, 3) := by decide +kernel
theorem dX8_putIn_154 : decode cX8_putIn 154 = .ok (.iload 9, 2) := by decide +kernel
theorem dX8_putIn_156 : decode cX8_putIn 156 = .ok (.iconst 2, 1) := by decide +kernel
theorem dX8_putIn_157 : decode cX8_putIn 157 = .ok (.iadd, 1) := by decide +kernel
theorem dX8_putIn_158 : decode cX8_putIn 158 = .ok (.lload 6, 2) := by decide +kernel
theorem dX8_putIn_160 : decode cX8_putIn 160 = .ok (.lastore, 1) := by decide +kernel
theorem dX8_putIn_161 : decode cX8_putIn 161 = .ok (.aload_n 0, 1) := by decide +kernel
theorem dX8_putIn_162 : decode cX8_putIn 162 = .ok (.getfield 7, 3) := by decide +kernel
theorem dX8_putIn_165 : decode cX8_putIn 165 = .ok (.iload_n 1, 1) := by decide +kernel
theorem dX8_putIn_166 : decode cX8_putIn 166 = .ok (.dup2, 1) := by decide +kernel
theorem dX8_putIn_167 : decode cX8_putIn 167 = .ok (.laload, 1) := by decide +kernel
theorem dX8_putIn_168 : decode cX8_putIn 168 = .ok (.lconst 1, 1) := by decide +kernel
theorem dX8_putIn_169 : decode cX8_putIn 169 = .ok (.ladd, 1) := by decide +kernel
theorem dX8_putIn_170 : decode cX8_putIn 170 = .ok (.lastore, 1) := by decide +kernel
theorem dX8_putIn_171 : decode cX8_putIn 171 = .ok (.lload 6, 2) := by decide +kernel
theorem dX8_putIn_173 : decode cX8_putIn 173 = .ok (.lreturn, 1) := by decide +kernel
theorem dX8_set_0 : decode cX8_set 0 = .ok (.iload_n 1, 1) := by decide +kernel
theorem dX8_set_1 : decode cX8_set 1 = .ok (.ifCond .ne 8, 3) := by decide +kernel
theorem dX8_set_4 : decode cX8_set 4 = .ok (.bipush 23, 2) := by decide +kernel
theorem dX8_set_6 : decode cX8_set 6 = .ok (.goto 26, 3) := by decide +kernel
theorem dX8_set_9 : decode cX8_set 9 = .ok (.iload_n 1, 1) := by decide +kernel
theorem dX8_set_10 : decode cX8_set 10 = .ok (.iconst 2, 1) := by decide +kernel
theorem dX8_set_11 : decode cX8_set 11 = .ok (.if_icmp .ne 8, 3) := by decide +kernel
theorem dX8_set_14 : decode cX8_set 14 = .ok (.bipush 100, 2) := by decide +kernel
theorem dX8_set_16 : decode cX8_set 16 = .ok (.goto 16, 3) := by decide +kernel
theorem dX8_set_19 : decode cX8_set 19 = .ok (.iload_n 1, 1) := by decide +kernel
theorem dX8_set_20 : decode cX8_set 20 = .ok (.iconst 4, 1) := by decide +kernel
theorem dX8_set_21 : decode cX8_set 21 = .ok (.if_icmp .ne 8, 3) := by decide +kernel
theorem dX8_set_24 : decode cX8_set 24 = .ok (.bipush 50, 2) := by decide +kernel
theorem dX8_set_26 : decode cX8_set 26 = .ok (.goto 6, 3) := by decide +kernel
theorem dX8_set_29 : decode cX8_set 29 = .ok (.sipush 1000, 3) := by decide +kernel
theorem dX8_set_32 : decode cX8_set 32 = .ok (.istore_n 3, 1) := by decide +kernel
theorem dX8_set_33 : decode cX8_set 33 = .ok (.iload_n 1, 1) := by decide +kernel
theorem dX8_set_34 : decode cX8_set 34 = .ok (.i2l, 1) := by decide +kernel
theorem dX8_set_35 : decode cX8_set 35 = .ok (.lconst 0, 1) := by decide +kernel
theorem dX8_set_36 : decode cX8_set 36 = .ok (.ldc2_w 102, 3) := by decide +kernel
theorem dX8_set_39 : decode cX8_set 39 = .ok (.invokestatic 53, 3) := by decide +kernel
theorem dX8_set_42 : decode cX8_set 42 = .ok (.ifCond .eq 14, 3) := by decide +kernel
theorem dX8_set_45 : decode cX8_set 45 = .ok (.iload_n 2, 1) := by decide +kernel
theorem dX8_set_46 : decode cX8_set 46 = .ok (.i2l, 1) := by decide +kernel
theorem dX8_set_47 : decode cX8_set 47 = .ok (.lconst 0, 1) := by decide +kernel
theorem dX8_set_48 : decode cX8_set 48 = .ok (.iload_n 3, 1) := by decide +kernel
theorem dX8_set_49 : decode cX8_set 49 = .ok (.i2l, 1) := by decide +kernel
theorem dX8_set_50 : decode cX8_set 50 = .ok (.invokestatic 53, 3) := by decide +kernel
theorem dX8_set_53 : decode cX8_set 53 = .ok (.ifCond .ne 6, 3) := by decide +kernel
theorem dX8_set_56 : decode cX8_set 56 = .ok (.bipush (-2), 2) := by decide +kernel
theorem dX8_set_58 : decode cX8_set 58 = .ok (.ireturn, 1) := by decide +kernel
theorem dX8_set_59 : decode cX8_set 59 = .ok (.aload_n 0, 1) := by decide +kernel
theorem dX8_set_60 : decode cX8_set 60 = .ok (.invokevirtual 68, 3) := by decide +kernel
theorem dX8_set_63 : decode cX8_set 63 = .ok (.aload_n 0, 1) := by decide +kernel
theorem dX8_set_64 : decode cX8_set 64 = .ok (.getfield 7, 3) := by decide +kernel
theorem dX8_set_67 : decode cX8_set 67 = .ok (.iload_n 1, 1) := by decide +kernel
theorem dX8_set_68 : decode cX8_set 68 = .ok (.laload, 1) := by decide +kernel
theorem dX8_set_69 : decode cX8_set 69 = .ok (.l2i, 1) := by decide +kernel
theorem dX8_set_70 : decode cX8_set 70 = .ok (.istore 4, 2) := by decide +kernel
theorem dX8_set_72 : decode cX8_set 72 = .ok (.aload_n 0, 1) := by decide +kernel
theorem dX8_set_73 : decode cX8_set 73 = .ok (.getfield 7, 3) := by decide +kernel
theorem dX8_set_76 : decode cX8_set 76 = .ok (.iload_n 1, 1) := by decide +kernel
theorem dX8_set_77 : decode cX8_set 77 = .ok (.iload_n 2, 1) := by decide +kernel
theorem dX8_set_78 : decode cX8_set 78 = .ok (.i2l, 1) := by decide +kernel
theorem dX8_set_79 : decode cX8_set 79 = .ok (.lastore, 1) := by decide +kernel
theorem dX8_set_80 : decode cX8_set 80 = .ok (.iload 4, 2) := by decide +kernel
theorem dX8_set_82 : decode cX8_set 82 = .ok (.ireturn, 1) := by decide +kernel
theorem dX8_tryBuy_0 : decode cX8_tryBuy 0 = .ok (.iload_n 1, 1) := by decide +kernel
theorem dX8_tryBuy_1 : decode cX8_tryBuy 1 = .ok (.invokestatic 104, 3) := by decide +kernel
theorem dX8_tryBuy_4 : decode cX8_tryBuy 4 = .ok (.ifCond .ne 5, 3) := by decide +kernel
theorem dX8_tryBuy_7 : decode cX8_tryBuy 7 = .ok (.iconst (-1), 1) := by decide +kernel
theorem dX8_tryBuy_8 : decode cX8_tryBuy 8 = .ok (.ireturn, 1) := by decide +kernel
theorem dX8_tryBuy_9 : decode cX8_tryBuy 9 = .ok (.iload_n 2, 1) := by decide +kernel
theorem dX8_tryBuy_10 : decode cX8_tryBuy 10 = .ok (.i2l, 1) := by decide +kernel
theorem dX8_tryBuy_11 : decode cX8_tryBuy 11 = .ok (.lconst 1, 1) := by decide +kernel
theorem dX8_tryBuy_12 : decode cX8_tryBuy 12 = .ok (.ldc2_w 108, 3) := by decide +kernel
theorem dX8_tryBuy_15 : decode cX8_tryBuy 15 = .ok (.invokestatic 53, 3) := by decide +kernel
theorem dX8_tryBuy_18 : decode cX8_tryBuy 18 = .ok (.ifCond .eq 15, 3) := by decide +kernel
theorem dX8_tryBuy_21 : decode cX8_tryBuy 21 = .ok (.iload_n 3, 1) := by decide +kernel
theorem dX8_tryBuy_22 : decode cX8_tryBuy 22 = .ok (.i2l, 1) := by decide +kernel
theorem dX8_tryBuy_23 : decode cX8_tryBuy 23 = .ok (.lconst 0, 1) := by decide +kernel
theorem dX8_tryBuy_24 : decode cX8_tryBuy 24 = .ok (.ldc2_w 110, 3) := by decide +kernel
theorem dX8_tryBuy_27 : decode cX8_tryBuy 27 = .ok (.invokestatic 53, 3) := by decide +kernel
theorem dX8_tryBuy_30 : decode cX8_tryBuy 30 = .ok (.ifCond .ne 6, 3) := by decide +kernel
theorem dX8_tryBuy_33 : decode cX8_tryBuy 33 = .ok (.bipush (-2), 2) := by decide +kernel
theorem dX8_tryBuy_35 : decode cX8_tryBuy 35 = .ok (.ireturn, 1) := by decide +kernel
theorem dX8_tryBuy_36 : decode cX8_tryBuy 36 = .ok (.aload_n 0, 1) := by decide +kernel
theorem dX8_tryBuy_37 : decode cX8_tryBuy 37 = .ok (.getfield 7, 3) := by decide +kernel
theorem dX8_tryBuy_40 : decode cX8_tryBuy 40 = .ok (.bipush 61, 2) := by decide +kernel
theorem dX8_tryBuy_42 : decode cX8_tryBuy 42 = .ok (.laload, 1) := by decide +kernel
theorem dX8_tryBuy_43 : decode cX8_tryBuy 43 = .ok (.ldc2_w 112, 3) := by decide +kernel
theorem dX8_tryBuy_46 : decode cX8_tryBuy 46 = .ok (.lcmp, 1) := by decide +kernel
theorem dX8_tryBuy_47 : decode cX8_tryBuy 47 = .ok (.ifCond .ne 6, 3) := by decide +kernel
theorem dX8_tryBuy_50 : decode cX8_tryBuy 50 = .ok (.bipush (-4), 2) := by decide +kernel
theorem dX8_tryBuy_52 : decode cX8_tryBuy 52 = .ok (.ireturn, 1) := by decide +kernel
theorem dX8_tryBuy_53 : decode cX8_tryBuy 53 = .ok (.aload_n 0, 1) := by decide +kernel
theorem dX8_tryBuy_54 : decode cX8_tryBuy 54 = .ok (.iload 4, 2) := by decide +kernel
theorem dX8_tryBuy_56 : decode cX8_tryBuy 56 = .ok (.invokevirtual 114, 3) := by decide +kernel
theorem dX8_tryBuy_59 : decode cX8_tryBuy 59 = .ok (.aload_n 0, 1) := by decide +kernel
theorem dX8_tryBuy_60 : decode cX8_tryBuy 60 = .ok (.bipush 61, 2) := by decide +kernel
theorem dX8_tryBuy_62 : decode cX8_tryBuy 62 = .ok (.iload_n 1, 1) := by decide +kernel
theorem dX8_tryBuy_63 : decode cX8_tryBuy 63 = .ok (.iload_n 2, 1) := by decide +kernel
theorem dX8_tryBuy_64 : decode cX8_tryBuy 64 = .ok (.i2l, 1) := by decide +kernel
theorem dX8_tryBuy_65 : decode cX8_tryBuy 65 = .ok (.iload_n 3, 1) := by decide +kernel
theorem dX8_tryBuy_66 : decode cX8_tryBuy 66 = .ok (.invokevirtual 118, 3) := by decide +kernel
theorem dX8_tryBuy_69 : decode cX8_tryBuy 69 = .ok (.l2i, 1) := by decide +kernel
theorem dX8_tryBuy_70 : decode cX8_tryBuy 70 = .ok (.ireturn, 1) := by decide +kernel
theorem dX8_buy_0 : decode cX8_buy 0 = .ok (.aload_n 0, 1) := by decide +kernel
theorem dX8_buy_1 : decode cX8_buy 1 = .ok (.iload_n 1, 1) := by decide +kernel
theorem dX8_buy_2 : decode cX8_buy 2 = .ok (.iload_n 2, 1) := by decide +kernel
theorem dX8_buy_3 : decode cX8_buy 3 = .ok (.iload_n 3, 1) := by decide +kernel
theorem dX8_buy_4 : decode cX8_buy 4 = .ok (.iconst 1, 1) := by decide +kernel
theorem dX8_buy_5 : decode cX8_buy 5 = .ok (.invokevirtual 122, 3) := by decide +kernel
theorem dX8_buy_8 : decode cX8_buy 8 = .ok (.ireturn, 1) := by decide +kernel
theorem dX8_tryLeave_0 : decode cX8_tryLeave 0 = .ok (.iload_n 1, 1) := by decide +kernel
theorem dX8_tryLeave_1 : decode cX8_tryLeave 1 = .ok (.invokestatic 104, 3) := by decide +kernel
theorem dX8_tryLeave_4 : decode cX8_tryLeave 4 = .ok (.ifCond .ne 5, 3) := by decide +kernel
theorem dX8_tryLeave_7 : decode cX8_tryLeave 7 = .ok (.iconst (-1), 1) := by decide +kernel
theorem dX8_tryLeave_8 : decode cX8_tryLeave 8 = .ok (.ireturn, 1) := by decide +kernel
theorem dX8_tryLeave_9 : decode cX8_tryLeave 9 = .ok (.iload_n 2, 1) := by decide +kernel
theorem dX8_tryLeave_10 : decode cX8_tryLeave 10 = .ok (.iconst 1, 1) := by decide +kernel
theorem dX8_tryLeave_11 : decode cX8_tryLeave 11 = .ok (.if_icmp .lt 15, 3) := by decide +kernel
theorem dX8_tryLeave_14 : decode cX8_tryLeave 14 = .ok (.iload_n 3, 1) := by decide +kernel
theorem dX8_tryLeave_15 : decode cX8_tryLeave 15 = .ok (.i2l, 1) := by decide +kernel
theorem dX8_tryLeave_16 : decode cX8_tryLeave 16 = .ok (.lconst 0, 1) := by decide +kernel
theorem dX8_tryLeave_17 : decode cX8_tryLeave 17 = .ok (.ldc2_w 110, 3) := by decide +kernel
theorem dX8_tryLeave_20 : decode cX8_tryLeave 20 = .ok (.invokestatic 53, 3) := by decide +kernel
theorem dX8_tryLeave_23 : decode cX8_tryLeave 23 = .ok (.ifCond .ne 6, 3) := by decide +kernel
theorem dX8_tryLeave_26 : decode cX8_tryLeave 26 = .ok (.bipush (-2), 2) := by decide +kernel
theorem dX8_tryLeave_28 : decode cX8_tryLeave 28 = .ok (.ireturn, 1) := by decide +kernel
theorem dX8_tryLeave_29 : decode cX8_tryLeave 29 = .ok (.aload_n 0, 1) := by decide +kernel
theorem dX8_tryLeave_30 : decode cX8_tryLeave 30 = .ok (.getfield 7, 3) := by decide +kernel
theorem dX8_tryLeave_33 : decode cX8_tryLeave 33 = .ok (.bipush 122, 2) := by decide +kernel
theorem dX8_tryLeave_35 : decode cX8_tryLeave 35 = .ok (.laload, 1) := by decide +kernel
theorem dX8_tryLeave_36 : decode cX8_tryLeave 36 = .ok (.ldc2_w 112, 3) := by decide +kernel
theorem dX8_tryLeave_39 : decode cX8_tryLeave 39 = .ok (.lcmp, 1) := by decide +kernel
theorem dX8_tryLeave_40 : decode cX8_tryLeave 40 = .ok (.ifCond .ne 6, 3) := by decide +kernel
theorem dX8_tryLeave_43 : decode cX8_tryLeave 43 = .ok (.bipush (-4), 2) := by decide +kernel
theorem dX8_tryLeave_45 : decode cX8_tryLeave 45 = .ok (.ireturn, 1) := by decide +kernel
theorem dX8_tryLeave_46 : decode cX8_tryLeave 46 = .ok (.aload_n 0, 1) := by decide +kernel
theorem dX8_tryLeave_47 : decode cX8_tryLeave 47 = .ok (.iload_n 1, 1) := by decide +kernel
theorem dX8_tryLeave_48 : decode cX8_tryLeave 48 = .ok (.invokevirtual 71, 3) := by decide +kernel
theorem dX8_tryLeave_51 : decode cX8_tryLeave 51 = .ok (.aload_n 0, 1) := by decide +kernel
theorem dX8_tryLeave_52 : decode cX8_tryLeave 52 = .ok (.iload_n 1, 1) := by decide +kernel
theorem dX8_tryLeave_53 : decode cX8_tryLeave 53 = .ok (.invokevirtual 126, 3) := by decide +kernel
theorem dX8_tryLeave_56 : decode cX8_tryLeave 56 = .ok (.lsub, 1) := by decide +kernel
theorem dX8_tryLeave_57 : decode cX8_tryLeave 57 = .ok (.iload_n 2, 1) := by decide +kernel
theorem dX8_tryLeave_58 : decode cX8_tryLeave 58 = .ok (.i2l, 1) := by decide +kernel
theorem dX8_tryLeave_59 : decode cX8_tryLeave 59 = .ok (.lcmp, 1) := by decide +kernel
theorem dX8_tryLeave_60 : decode cX8_tryLeave 60 = .ok (.ifCond .ge 6, 3) := by decide +kernel
theorem dX8_tryLeave_63 : decode cX8_tryLeave 63 = .ok (.bipush (-5), 2) := by decide +kernel
theorem dX8_tryLeave_65 : decode cX8_tryLeave 65 = .ok (.ireturn, 1) := by decide +kernel
theorem dX8_tryLeave_66 : decode cX8_tryLeave 66 = .ok (.aload_n 0, 1) := by decide +kernel
theorem dX8_tryLeave_67 : decode cX8_tryLeave 67 = .ok (.iload 4, 2) := by decide +kernel
theorem dX8_tryLeave_69 : decode cX8_tryLeave 69 = .ok (.invokevirtual 114, 3) := by decide +kernel
theorem dX8_tryLeave_72 : decode cX8_tryLeave 72 = .ok (.aload_n 0, 1) := by decide +kernel
theorem dX8_tryLeave_73 : decode cX8_tryLeave 73 = .ok (.bipush 122, 2) := by decide +kernel
theorem dX8_tryLeave_75 : decode cX8_tryLeave 75 = .ok (.iload_n 1, 1) := by decide +kernel
theorem dX8_tryLeave_76 : decode cX8_tryLeave 76 = .ok (.iload_n 2, 1) := by decide +kernel
theorem dX8_tryLeave_77 : decode cX8_tryLeave 77 = .ok (.i2l, 1) := by decide +kernel
theorem dX8_tryLeave_78 : decode cX8_tryLeave 78 = .ok (.iload_n 3, 1) := by decide +kernel
theorem dX8_tryLeave_79 : decode cX8_tryLeave 79 = .ok (.invokevirtual 118, 3) := by decide +kernel
theorem dX8_tryLeave_82 : decode cX8_tryLeave 82 = .ok (.l2i, 1) := by decide +kernel
theorem dX8_tryLeave_83 : decode cX8_tryLeave 83 = .ok (.ireturn, 1) := by decide +kernel
theorem dX8_leave_0 : decode cX8_leave 0 = .ok (.aload_n 0, 1) := by decide +kernel
theorem dX8_leave_1 : decode cX8_leave 1 = .ok (.iload_n 1, 1) := by decide +kernel
theorem dX8_leave_2 : decode cX8_leave 2 = .ok (.iload_n 2, 1) := by decide +kernel
theorem dX8_leave_3 : decode cX8_leave 3 = .ok (.iload_n 3, 1) := by decide +kernel
theorem dX8_leave_4 : decode cX8_leave 4 = .ok (.iconst 1, 1) := by decide +kernel
theorem dX8_leave_5 : decode cX8_leave 5 = .ok (.invokevirtual 129, 3) := by decide +kernel
theorem dX8_leave_8 : decode cX8_leave 8 = .ok (.ireturn, 1) := by decide +kernel
theorem dX8_inKind_0 : decode cX8_inKind 0 = .ok (.iload_n 1, 1) := by decide +kernel
theorem dX8_inKind_1 : decode cX8_inKind 1 = .ok (.invokestatic 104, 3) := by decide +kernel
theorem dX8_inKind_4 : decode cX8_inKind 4 = .ok (.ifCond .ne 5, 3) := by decide +kernel
theorem dX8_inKind_7 : decode cX8_inKind 7 = .ok (.iconst (-1), 1) := by decide +kernel
theorem dX8_inKind_8 : decode cX8_inKind 8 = .ok (.ireturn, 1) := by decide +kernel
theorem dX8_inKind_9 : decode cX8_inKind 9 = .ok (.iload_n 2, 1) := by decide +kernel
theorem dX8_inKind_10 : decode cX8_inKind 10 = .ok (.iconst 1, 1) := by decide +kernel
theorem dX8_inKind_11 : decode cX8_inKind 11 = .ok (.if_icmp .ge 6, 3) := by decide +kernel
theorem dX8_inKind_14 : decode cX8_inKind 14 = .ok (.bipush (-2), 2) := by decide +kernel
theorem dX8_inKind_16 : decode cX8_inKind 16 = .ok (.ireturn, 1) := by decide +kernel
theorem dX8_inKind_17 : decode cX8_inKind 17 = .ok (.aload_n 0, 1) := by decide +kernel
theorem dX8_inKind_18 : decode cX8_inKind 18 = .ok (.iload_n 1, 1) := by decide +kernel
theorem dX8_inKind_19 : decode cX8_inKind 19 = .ok (.invokevirtual 71, 3) := by decide +kernel
theorem dX8_inKind_22 : decode cX8_inKind 22 = .ok (.aload_n 0, 1) := by decide +kernel
theorem dX8_inKind_23 : decode cX8_inKind 23 = .ok (.iload_n 1, 1) := by decide +kernel
theorem dX8_inKind_24 : decode cX8_inKind 24 = .ok (.invokevirtual 126, 3) := by decide +kernel
theorem dX8_inKind_27 : decode cX8_inKind 27 = .ok (.lsub, 1) := by decide +kernel
theorem dX8_inKind_28 : decode cX8_inKind 28 = .ok (.iload_n 2, 1) := by decide +kernel
theorem dX8_inKind_29 : decode cX8_inKind 29 = .ok (.i2l, 1) := by decide +kernel
theorem dX8_inKind_30 : decode cX8_inKind 30 = .ok (.lcmp, 1) := by decide +kernel
theorem dX8_inKind_31 : decode cX8_inKind 31 = .ok (.ifCond .ge 6, 3) := by decide +kernel
theorem dX8_inKind_34 : decode cX8_inKind 34 = .ok (.bipush (-5), 2) := by decide +kernel
theorem dX8_inKind_36 : decode cX8_inKind 36 = .ok (.ireturn, 1) := by decide +kernel
theorem dX8_inKind_37 : decode cX8_inKind 37 = .ok (.aload_n 0, 1) := by decide +kernel
theorem dX8_inKind_38 : decode cX8_inKind 38 = .ok (.invokevirtual 68, 3) := by decide +kernel
theorem dX8_inKind_41 : decode cX8_inKind 41 = .ok (.iload_n 2, 1) := by decide +kernel
theorem dX8_inKind_42 : decode cX8_inKind 42 = .ok (.i2l, 1) := by decide +kernel
theorem dX8_inKind_43 : decode cX8_inKind 43 = .ok (.aload_n 0, 1) := by decide +kernel
theorem dX8_inKind_44 : decode cX8_inKind 44 = .ok (.getfield 7, 3) := by decide +kernel
theorem dX8_inKind_47 : decode cX8_inKind 47 = .ok (.bipush 6, 2) := by decide +kernel
theorem dX8_inKind_49 : decode cX8_inKind 49 = .ok (.laload, 1) := by decide +kernel
theorem dX8_inKind_50 : decode cX8_inKind 50 = .ok (.lmul, 1) := by decide +kernel
theorem dX8_inKind_51 : decode cX8_inKind 51 = .ok (.aload_n 0, 1) := by decide +kernel
theorem dX8_inKind_52 : decode cX8_inKind 52 = .ok (.invokevirtual 75, 3) := by decide +kernel
theorem dX8_inKind_55 : decode cX8_inKind 55 = .ok (.ldiv, 1) := by decide +kernel
theorem dX8_inKind_56 : decode cX8_inKind 56 = .ok (.lstore_n 3, 1) := by decide +kernel
theorem dX8_inKind_57 : decode cX8_inKind 57 = .ok (.iload_n 2, 1) := by decide +kernel
theorem dX8_inKind_58 : decode cX8_inKind 58 = .ok (.i2l, 1) := by decide +kernel
theorem dX8_inKind_59 : decode cX8_inKind 59 = .ok (.aload_n 0, 1) := by decide +kernel
theorem dX8_inKind_60 : decode cX8_inKind 60 = .ok (.getfield 7, 3) := by decide +kernel
theorem dX8_inKind_63 : decode cX8_inKind 63 = .ok (.iconst 5, 1) := by decide +kernel
theorem dX8_inKind_64 : decode cX8_inKind 64 = .ok (.laload, 1) := by decide +kernel
theorem dX8_inKind_65 : decode cX8_inKind 65 = .ok (.lmul, 1) := by decide +kernel
theorem dX8_inKind_66 : decode cX8_inKind 66 = .ok (.aload_n 0, 1) := by decide +kernel
theorem dX8_inKind_67 : decode cX8_inKind 67 = .ok (.invokevirtual 75, 3) := by decide +kernel
theorem dX8_inKind_70 : decode cX8_inKind 70 = .ok (.ldiv, 1) := by decide +kernel
theorem dX8_inKind_71 : decode cX8_inKind 71 = .ok (.lstore 5, 2) := by decide +kernel
theorem dX8_inKind_73 : decode cX8_inKind 73 = .ok (.aload_n 0, 1) := by decide +kernel
theorem dX8_inKind_74 : decode cX8_inKind 74 = .ok (.iload_n 1, 1) := by decide +kernel
theorem dX8_inKind_75 : decode cX8_inKind 75 = .ok (.iload_n 2, 1) := by decide +kernel
theorem dX8_inKind_76 : decode cX8_inKind 76 = .ok (.i2l, 1) := by decide +kernel
theorem dX8_inKind_77 : decode cX8_inKind 77 = .ok (.aload_n 0, 1) := by decide +kernel
theorem dX8_inKind_78 : decode cX8_inKind 78 = .ok (.invokevirtual 132, 3) := by decide +kernel
theorem dX8_inKind_81 : decode cX8_inKind 81 = .ok (.invokevirtual 135, 3) := by decide +kernel
theorem dX8_inKind_84 : decode cX8_inKind 84 = .ok (.aload_n 0, 1) := by decide +kernel
theorem dX8_inKind_85 : decode cX8_inKind 85 = .ok (.getfield 7, 3) := by decide +kernel
theorem dX8_inKind_88 : decode cX8_inKind 88 = .ok (.bipush 6, 2) := by decide +kernel
theorem dX8_inKind_90 : decode cX8_inKind 90 = .ok (.dup2, 1) := by decide +kernel
theorem dX8_inKind_91 : decode cX8_inKind 91 = .ok (.laload, 1) := by decide +kernel
theorem dX8_inKind_92 : decode cX8_inKind 92 = .ok (.lload_n 3, 1) := by decide +kernel
theorem dX8_inKind_93 : decode cX8_inKind 93 = .ok (.lsub, 1) := by decide +kernel
theorem dX8_inKind_94 : decode cX8_inKind 94 = .ok (.lastore, 1) := by decide +kernel
theorem dX8_inKind_95 : decode cX8_inKind 95 = .ok (.aload_n 0, 1) := by decide +kernel
theorem dX8_inKind_96 : decode cX8_inKind 96 = .ok (.getfield 7, 3) := by decide +kernel
theorem dX8_inKind_99 : decode cX8_inKind 99 = .ok (.iconst 5, 1) := by decide +kernel
theorem dX8_inKind_100 : decode cX8_inKind 100 = .ok (.dup2, 1) := by decide +kernel
theorem dX8_inKind_101 : decode cX8_inKind 101 = .ok (.laload, 1) := by decide +kernel
theorem dX8_inKind_102 : decode cX8_inKind 102 = .ok (.lload 5, 2) := by decide +kernel
theorem dX8_inKind_104 : decode cX8_inKind 104 = .ok (.lsub, 1) := by decide +kernel
theorem dX8_inKind_105 : decode cX8_inKind 105 = .ok (.lastore, 1) := by decide +kernel
theorem dX8_inKind_106 : decode cX8_inKind 106 = .ok (.aload_n 0, 1) := by decide +kernel
theorem dX8_inKind_107 : decode cX8_inKind 107 = .ok (.invokevirtual 94, 3) := by decide +kernel
theorem dX8_inKind_110 : decode cX8_inKind 110 = .ok (.aload_n 0, 1) := by decide +kernel
theorem dX8_inKind_111 : decode cX8_inKind 111 = .ok (.iload_n 1, 1) := by decide +kernel
theorem dX8_inKind_112 : decode cX8_inKind 112 = .ok (.bipush 6, 2) := by decide +kernel
theorem dX8_inKind_114 : decode cX8_inKind 114 = .ok (.lload_n 3, 1) := by decide +kernel
theorem dX8_inKind_115 : decode cX8_inKind 115 = .ok (.invokevirtual 90, 3) := by decide +kernel
theorem dX8_inKind_118 : decode cX8_inKind 118 = .ok (.aload_n 0, 1) := by decide +kernel
theorem dX8_inKind_119 : decode cX8_inKind 119 = .ok (.iload_n 1, 1) := by decide +kernel
theorem dX8_inKind_120 : decode cX8_inKind 120 = .ok (.iconst 3, 1) := by decide +kernel
theorem dX8_inKind_121 : decode cX8_inKind 121 = .ok (.lload 5, 2) := by decide +kernel
theorem dX8_inKind_123 : decode cX8_inKind 123 = .ok (.invokevirtual 90, 3) := by decide +kernel
theorem dX8_inKind_126 : decode cX8_inKind 126 = .ok (.lload_n 3, 1) := by decide +kernel
theorem dX8_inKind_127 : decode cX8_inKind 127 = .ok (.l2i, 1) := by decide +kernel
theorem dX8_inKind_128 : decode cX8_inKind 128 = .ok (.ireturn, 1) := by decide +kernel
theorem dX8_mayLeave_0 : decode cX8_mayLeave 0 = .ok (.aload_n 0, 1) := by decide +kernel
theorem dX8_mayLeave_1 : decode cX8_mayLeave 1 = .ok (.bipush 122, 2) := by decide +kernel
theorem dX8_mayLeave_3 : decode cX8_mayLeave 3 = .ok (.aload_n 0, 1) := by decide +kernel
theorem dX8_mayLeave_4 : decode cX8_mayLeave 4 = .ok (.getfield 7, 3) := by decide +kernel
theorem dX8_mayLeave_7 : decode cX8_mayLeave 7 = .ok (.bipush 10, 2) := by decide +kernel
theorem dX8_mayLeave_9 : decode cX8_mayLeave 9 = .ok (.laload, 1) := by decide +kernel
theorem dX8_mayLeave_10 : decode cX8_mayLeave 10 = .ok (.invokevirtual 139, 3) := by decide +kernel
theorem dX8_mayLeave_13 : decode cX8_mayLeave 13 = .ok (.lstore_n 1, 1) := by decide +kernel
theorem dX8_mayLeave_14 : decode cX8_mayLeave 14 = .ok (.aload_n 0, 1) := by decide +kernel
theorem dX8_mayLeave_15 : decode cX8_mayLeave 15 = .ok (.getfield 7, 3) := by decide +kernel
theorem dX8_mayLeave_18 : decode cX8_mayLeave 18 = .ok (.iconst 3, 1) := by decide +kernel
theorem dX8_mayLeave_19 : decode cX8_mayLeave 19 = .ok (.laload, 1) := by decide +kernel
theorem dX8_mayLeave_20 : decode cX8_mayLeave 20 = .ok (.aload_n 0, 1) := by decide +kernel
theorem dX8_mayLeave_21 : decode cX8_mayLeave 21 = .ok (.invokevirtual 75, 3) := by decide +kernel
theorem dX8_mayLeave_24 : decode cX8_mayLeave 24 = .ok (.lmul, 1) := by decide +kernel
theorem dX8_mayLeave_25 : decode cX8_mayLeave 25 = .ok (.ldc2_w 49, 3) := by decide +kernel
theorem dX8_mayLeave_28 : decode cX8_mayLeave 28 = .ok (.ldiv, 1) := by decide +kernel
theorem dX8_mayLeave_29 : decode cX8_mayLeave 29 = .ok (.lstore_n 3, 1) := by decide +kernel
theorem dX8_mayLeave_30 : decode cX8_mayLeave 30 = .ok (.lload_n 1, 1) := by decide +kernel
theorem dX8_mayLeave_31 : decode cX8_mayLeave 31 = .ok (.lload_n 3, 1) := by decide +kernel
theorem dX8_mayLeave_32 : decode cX8_mayLeave 32 = .ok (.lcmp, 1) := by decide +kernel
theorem dX8_mayLeave_33 : decode cX8_mayLeave 33 = .ok (.ifCond .ge 7, 3) := by decide +kernel
theorem dX8_mayLeave_36 : decode cX8_mayLeave 36 = .ok (.lload_n 1, 1) := by decide +kernel
theorem dX8_mayLeave_37 : decode cX8_mayLeave 37 = .ok (.goto 4, 3) := by decide +kernel
theorem dX8_mayLeave_40 : decode cX8_mayLeave 40 = .ok (.lload_n 3, 1) := by decide +kernel
theorem dX8_mayLeave_41 : decode cX8_mayLeave 41 = .ok (.lreturn, 1) := by decide +kernel
theorem dX8_swing_0 : decode cX8_swing 0 = .ok (.aload_n 0, 1) := by decide +kernel
theorem dX8_swing_1 : decode cX8_swing 1 = .ok (.bipush 61, 2) := by decide +kernel
theorem dX8_swing_3 : decode cX8_swing 3 = .ok (.aload_n 0, 1) := by decide +kernel
theorem dX8_swing_4 : decode cX8_swing 4 = .ok (.getfield 7, 3) := by decide +kernel
theorem dX8_swing_7 : decode cX8_swing 7 = .ok (.bipush 10, 2) := by decide +kernel
theorem dX8_swing_9 : decode cX8_swing 9 = .ok (.laload, 1) := by decide +kernel
theorem dX8_swing_10 : decode cX8_swing 10 = .ok (.invokevirtual 139, 3) := by decide +kernel
theorem dX8_swing_13 : decode cX8_swing 13 = .ok (.aload_n 0, 1) := by decide +kernel
theorem dX8_swing_14 : decode cX8_swing 14 = .ok (.invokevirtual 143, 3) := by decide +kernel
theorem dX8_swing_17 : decode cX8_swing 17 = .ok (.aload_n 0, 1) := by decide +kernel
theorem dX8_swing_18 : decode cX8_swing 18 = .ok (.invokevirtual 146, 3) := by decide +kernel
theorem dX8_swing_21 : decode cX8_swing 21 = .ok (.lmul, 1) := by decide +kernel
theorem dX8_swing_22 : decode cX8_swing 22 = .ok (.ldc2_w 49, 3) := by decide +kernel
theorem dX8_swing_25 : decode cX8_swing 25 = .ok (.ldiv, 1) := by decide +kernel
theorem dX8_swing_26 : decode cX8_swing 26 = .ok (.lsub, 1) := by decide +kernel
theorem dX8_swing_27 : decode cX8_swing 27 = .ok (.lstore_n 1, 1) := by decide +kernel
theorem dX8_swing_28 : decode cX8_swing 28 = .ok (.aload_n 0, 1) := by decide +kernel
theorem dX8_swing_29 : decode cX8_swing 29 = .ok (.getfield 7, 3) := by decide +kernel
theorem dX8_swing_32 : decode cX8_swing 32 = .ok (.iconst 1, 1) := by decide +kernel
theorem dX8_swing_33 : decode cX8_swing 33 = .ok (.laload, 1) := by decide +kernel
theorem dX8_swing_34 : decode cX8_swing 34 = .ok (.aload_n 0, 1) := by decide +kernel
theorem dX8_swing_35 : decode cX8_swing 35 = .ok (.invokevirtual 81, 3) := by decide +kernel
theorem dX8_swing_38 : decode cX8_swing 38 = .ok (.lmul, 1) := by decide +kernel
theorem dX8_swing_39 : decode cX8_swing 39 = .ok (.lstore_n 3, 1) := by decide +kernel
theorem dX8_swing_40 : decode cX8_swing 40 = .ok (.aload_n 0, 1) := by decide +kernel
theorem dX8_swing_41 : decode cX8_swing 41 = .ok (.invokevirtual 75, 3) := by decide +kernel
theorem dX8_swing_44 : decode cX8_swing 44 = .ok (.lconst 0, 1) := by decide +kernel
theorem dX8_swing_45 : decode cX8_swing 45 = .ok (.lcmp, 1) := by decide +kernel
theorem dX8_swing_46 : decode cX8_swing 46 = .ok (.ifCond .ne 5, 3) := by decide +kernel
theorem dX8_swing_49 : decode cX8_swing 49 = .ok (.iconst 2, 1) := by decide +kernel
theorem dX8_swing_50 : decode cX8_swing 50 = .ok (.ireturn, 1) := by decide +kernel
theorem dX8_swing_51 : decode cX8_swing 51 = .ok (.lload_n 1, 1) := by decide +kernel
theorem dX8_swing_52 : decode cX8_swing 52 = .ok (.lconst 0, 1) := by decide +kernel
theorem dX8_swing_53 : decode cX8_swing 53 = .ok (.lcmp, 1) := by decide +kernel
theorem dX8_swing_54 : decode cX8_swing 54 = .ok (.ifCond .le 17, 3) := by decide +kernel
theorem dX8_swing_57 : decode cX8_swing 57 = .ok (.ldc2_w 49, 3) := by decide +kernel
theorem dX8_swing_60 : decode cX8_swing 60 = .ok (.lload_n 1, 1) := by decide +kernel
theorem dX8_swing_61 : decode cX8_swing 61 = .ok (.lmul, 1) := by decide +kernel
theorem dX8_swing_62 : decode cX8_swing 62 = .ok (.lload_n 3, 1) := by decide +kernel
theorem dX8_swing_63 : decode cX8_swing 63 = .ok (.lcmp, 1) := by decide +kernel
theorem dX8_swing_64 : decode cX8_swing 64 = .ok (.ifCond .le 7, 3) := by decide +kernel
theorem dX8_swing_67 : decode cX8_swing 67 = .ok (.iconst 3, 1) := by decide +kernel
theorem dX8_swing_68 : decode cX8_swing 68 = .ok (.goto 25, 3) := by decide +kernel
theorem dX8_swing_71 : decode cX8_swing 71 = .ok (.lload_n 1, 1) := by decide +kernel
theorem dX8_swing_72 : decode cX8_swing 72 = .ok (.lconst 0, 1) := by decide +kernel
theorem dX8_swing_73 : decode cX8_swing 73 = .ok (.lcmp, 1) := by decide +kernel
theorem dX8_swing_74 : decode cX8_swing 74 = .ok (.ifCond .ge 18, 3) := by decide +kernel
theorem dX8_swing_77 : decode cX8_swing 77 = .ok (.ldc2_w 49, 3) := by decide +kernel
theorem dX8_swing_80 : decode cX8_swing 80 = .ok (.lload_n 1, 1) := by decide +kernel
theorem dX8_swing_81 : decode cX8_swing 81 = .ok (.lmul, 1) := by decide +kernel
theorem dX8_swing_82 : decode cX8_swing 82 = .ok (.lload_n 3, 1) := by decide +kernel
theorem dX8_swing_83 : decode cX8_swing 83 = .ok (.lneg, 1) := by decide +kernel
theorem dX8_swing_84 : decode cX8_swing 84 = .ok (.lcmp, 1) := by decide +kernel
theorem dX8_swing_85 : decode cX8_swing 85 = .ok (.ifCond .ge 7, 3) := by decide +kernel
theorem dX8_swing_88 : decode cX8_swing 88 = .ok (.iconst 1, 1) := by decide +kernel
theorem dX8_swing_89 : decode cX8_swing 89 = .ok (.goto 4, 3) := by decide +kernel
theorem dX8_swing_92 : decode cX8_swing 92 = .ok (.iconst 2, 1) := by decide +kernel
theorem dX8_swing_93 : decode cX8_swing 93 = .ok (.ireturn, 1) := by decide +kernel
theorem dX8_priceNow_0 : decode cX8_priceNow 0 = .ok (.aload_n 0, 1) := by decide +kernel
theorem dX8_priceNow_1 : decode cX8_priceNow 1 = .ok (.invokevirtual 146, 3) := by decide +kernel
theorem dX8_priceNow_4 : decode cX8_priceNow 4 = .ok (.ldc2_w 49, 3) := by decide +kernel
theorem dX8_priceNow_7 : decode cX8_priceNow 7 = .ok (.aload_n 0, 1) := by decide +kernel
theorem dX8_priceNow_8 : decode cX8_priceNow 8 = .ok (.invokevirtual 149, 3) := by decide +kernel
theorem dX8_priceNow_11 : decode cX8_priceNow 11 = .ok (.iconst 2, 1) := by decide +kernel
theorem dX8_priceNow_12 : decode cX8_priceNow 12 = .ok (.isub, 1) := by decide +kernel
theorem dX8_priceNow_13 : decode cX8_priceNow 13 = .ok (.i2l, 1) := by decide +kernel
theorem dX8_priceNow_14 : decode cX8_priceNow 14 = .ok (.aload_n 0, 1) := by decide +kernel
theorem dX8_priceNow_15 : decode cX8_priceNow 15 = .ok (.getfield 7, 3) := by decide +kernel
theorem dX8_priceNow_18 : decode cX8_priceNow 18 = .ok (.iconst 2, 1) := by decide +kernel
theorem dX8_priceNow_19 : decode cX8_priceNow 19 = .ok (.laload, 1) := by decide +kernel
theorem dX8_priceNow_20 : decode cX8_priceNow 20 = .ok (.lmul, 1) := by decide +kernel
theorem dX8_priceNow_21 : decode cX8_priceNow 21 = .ok (.ladd, 1) := by decide +kernel
theorem dX8_priceNow_22 : decode cX8_priceNow 22 = .ok (.lmul, 1) := by decide +kernel
theorem dX8_priceNow_23 : decode cX8_priceNow 23 = .ok (.ldc2_w 49, 3) := by decide +kernel
theorem dX8_priceNow_26 : decode cX8_priceNow 26 = .ok (.ldiv, 1) := by decide +kernel
theorem dX8_priceNow_27 : decode cX8_priceNow 27 = .ok (.lreturn, 1) := by decide +kernel
theorem dX8_shareDay_0 : decode cX8_shareDay 0 = .ok (.lconst 0, 1) := by decide +kernel
theorem dX8_shareDay_1 : decode cX8_shareDay 1 = .ok (.lstore 5, 2) := by decide +kernel
theorem dX8_shareDay_3 : decode cX8_shareDay 3 = .ok (.iload_n 1, 1) := by decide +kernel
theorem dX8_shareDay_4 : decode cX8_shareDay 4 = .ok (.istore 7, 2) := by decide +kernel
theorem dX8_shareDay_6 : decode cX8_shareDay 6 = .ok (.iload 7, 2) := by decide +kernel
theorem dX8_shareDay_8 : decode cX8_shareDay 8 = .ok (.iload_n 2, 1) := by decide +kernel
theorem dX8_shareDay_9 : decode cX8_shareDay 9 = .ok (.if_icmp .ge 23, 3) := by decide +kernel
theorem dX8_shareDay_12 : decode cX8_shareDay 12 = .ok (.lload 5, 2) := by decide +kernel
theorem dX8_shareDay_14 : decode cX8_shareDay 14 = .ok (.aload_n 0, 1) := by decide +kernel
theorem dX8_shareDay_15 : decode cX8_shareDay 15 = .ok (.bipush 122, 2) := by decide +kernel
theorem dX8_shareDay_17 : decode cX8_shareDay 17 = .ok (.iload 7, 2) := by decide +kernel
theorem dX8_shareDay_19 : decode cX8_shareDay 19 = .ok (.iconst 1, 1) := by decide +kernel
theorem dX8_shareDay_20 : decode cX8_shareDay 20 = .ok (.invokevirtual 86, 3) := by decide +kernel
theorem dX8_shareDay_23 : decode cX8_shareDay 23 = .ok (.ladd, 1) := by decide +kernel
theorem dX8_shareDay_24 : decode cX8_shareDay 24 = .ok (.lstore 5, 2) := by decide +kernel
theorem dX8_shareDay_26 : decode cX8_shareDay 26 = .ok (.iinc 7 1, 3) := by decide +kernel
theorem dX8_shareDay_29 : decode cX8_shareDay 29 = .ok (.goto (-23), 3) := by decide +kernel
theorem dX8_shareDay_32 : decode cX8_shareDay 32 = .ok (.lload_n 3, 1) := by decide +kernel
theorem dX8_shareDay_33 : decode cX8_shareDay 33 = .ok (.lstore 7, 2) := by decide +kernel
theorem dX8_shareDay_35 : decode cX8_shareDay 35 = .ok (.iload_n 1, 1) := by decide +kernel
theorem dX8_shareDay_36 : decode cX8_shareDay 36 = .ok (.istore 9, 2) := by decide +kernel
theorem dX8_shareDay_38 : decode cX8_shareDay 38 = .ok (.iload 9, 2) := by decide +kernel
theorem dX8_shareDay_40 : decode cX8_shareDay 40 = .ok (.iload_n 2, 1) := by decide +kernel
theorem dX8_shareDay_41 : decode cX8_shareDay 41 = .ok (.if_icmp .ge 58, 3) := by decide +kernel
theorem dX8_shareDay_44 : decode cX8_shareDay 44 = .ok (.aload_n 0, 1) := by decide +kernel
theorem dX8_shareDay_45 : decode cX8_shareDay 45 = .ok (.bipush 122, 2) := by decide +kernel
theorem dX8_shareDay_47 : decode cX8_shareDay 47 = .ok (.iload 9, 2) := by decide +kernel
theorem dX8_shareDay_49 : decode cX8_shareDay 49 = .ok (.iconst 1, 1) := by decide +kernel
theorem dX8_shareDay_50 : decode cX8_shareDay 50 = .ok (.invokevirtual 86, 3) := by decide +kernel
theorem dX8_shareDay_53 : decode cX8_shareDay 53 = .ok (.lstore 10, 2) := by decide +kernel
theorem dX8_shareDay_55 : decode cX8_shareDay 55 = .ok (.aload_n 0, 1) := by decide +kernel
theorem dX8_shareDay_56 : decode cX8_shareDay 56 = .ok (.getfield 26, 3) := by decide +kernel
theorem dX8_shareDay_59 : decode cX8_shareDay 59 = .ok (.iload 9, 2) := by decide +kernel
theorem dX8_shareDay_61 : decode cX8_shareDay 61 = .ok (.lload 5, 2) := by decide +kernel
theorem dX8_shareDay_63 : decode cX8_shareDay 63 = .ok (.lload_n 3, 1) := by decide +kernel
theorem dX8_shareDay_64 : decode cX8_shareDay 64 = .ok (.lcmp, 1) := by decide +kernel
theorem dX8_shareDay_65 : decode cX8_shareDay 65 = .ok (.ifCond .gt 8, 3) := by decide +kernel
theorem dX8_shareDay_68 : decode cX8_shareDay 68 = .ok (.lload 10, 2) := by decide +kernel
theorem dX8_shareDay_70 : decode cX8_shareDay 70 = .ok (.goto 10, 3) := by decide +kernel
theorem dX8_shareDay_73 : decode cX8_shareDay 73 = .ok (.lload 10, 2) := by decide +kernel
theorem dX8_shareDay_75 : decode cX8_shareDay 75 = .ok (.lload_n 3, 1) := by decide +kernel
theorem dX8_shareDay_76 : decode cX8_shareDay 76 = .ok (.lmul, 1) := by decide +kernel
theorem dX8_shareDay_77 : decode cX8_shareDay 77 = .ok (.lload 5, 2) := by decide +kernel
theorem dX8_shareDay_79 : decode cX8_shareDay 79 = .ok (.ldiv, 1) := by decide +kernel
theorem dX8_shareDay_80 : decode cX8_shareDay 80 = .ok (.lastore, 1) := by decide +kernel
theorem dX8_shareDay_81 : decode cX8_shareDay 81 = .ok (.lload 7, 2) := by decide +kernel
theorem dX8_shareDay_83 : decode cX8_shareDay 83 = .ok (.aload_n 0, 1) := by decide +kernel
theorem dX8_shareDay_84 : decode cX8_shareDay 84 = .ok (.getfield 26, 3) := by decide +kernel
theorem dX8_shareDay_87 : decode cX8_shareDay 87 = .ok (.iload 9, 2) := by decide +kernel
theorem dX8_shareDay_89 : decode cX8_shareDay 89 = .ok (.laload, 1) := by decide +kernel
theorem dX8_shareDay_90 : decode cX8_shareDay 90 = .ok (.lsub, 1) := by decide +kernel
theorem dX8_shareDay_91 : decode cX8_shareDay 91 = .ok (.lstore 7, 2) := by decide +kernel
theorem dX8_shareDay_93 : decode cX8_shareDay 93 = .ok (.iinc 9 1, 3) := by decide +kernel
theorem dX8_shareDay_96 : decode cX8_shareDay 96 = .ok (.goto (-58), 3) := by decide +kernel
theorem dX8_shareDay_99 : decode cX8_shareDay 99 = .ok (.iload_n 1, 1) := by decide +kernel
theorem dX8_shareDay_100 : decode cX8_shareDay 100 = .ok (.istore 9, 2) := by decide +kernel
theorem dX8_shareDay_102 : decode cX8_shareDay 102 = .ok (.iload 9, 2) := by decide +kernel
theorem dX8_shareDay_104 : decode cX8_shareDay 104 = .ok (.iload_n 2, 1) := by decide +kernel
theorem dX8_shareDay_105 : decode cX8_shareDay 105 = .ok (.if_icmp .ge 40, 3) := by decide +kernel
theorem dX8_shareDay_108 : decode cX8_shareDay 108 = .ok (.lload 5, 2) := by decide +kernel
theorem dX8_shareDay_110 : decode cX8_shareDay 110 = .ok (.lload_n 3, 1) := by decide +kernel
theorem dX8_shareDay_111 : decode cX8_shareDay 111 = .ok (.lcmp, 1) := by decide +kernel
theorem dX8_shareDay_112 : decode cX8_shareDay 112 = .ok (.ifCond .le 33, 3) := by decide +kernel
theorem dX8_shareDay_115 : decode cX8_shareDay 115 = .ok (.lload 7, 2) := by decide +kernel
theorem dX8_shareDay_117 : decode cX8_shareDay 117 = .ok (.lconst 0, 1) := by decide +kernel
theorem dX8_shareDay_118 : decode cX8_shareDay 118 = .ok (.lcmp, 1) := by decide +kernel
theorem dX8_shareDay_119 : decode cX8_shareDay 119 = .ok (.ifCond .le 26, 3) := by decide +kernel
theorem dX8_shareDay_122 : decode cX8_shareDay 122 = .ok (.aload_n 0, 1) := by decide +kernel
theorem dX8_shareDay_123 : decode cX8_shareDay 123 = .ok (.getfield 26, 3) := by decide +kernel
theorem dX8_shareDay_126 : decode cX8_shareDay 126 = .ok (.iload 9, 2) := by decide +kernel
theorem dX8_shareDay_128 : decode cX8_shareDay 128 = .ok (.dup2, 1) := by decide +kernel
theorem dX8_shareDay_129 : decode cX8_shareDay 129 = .ok (.laload, 1) := by decide +kernel
theorem dX8_shareDay_130 : decode cX8_shareDay 130 = .ok (.lconst 1, 1) := by decide +kernel
theorem dX8_shareDay_131 : decode cX8_shareDay 131 = .ok (.ladd, 1) := by decide +kernel
theorem dX8_shareDay_132 : decode cX8_shareDay 132 = .ok (.lastore, 1) := by decide +kernel
theorem dX8_shareDay_133 : decode cX8_shareDay 133 = .ok (.lload 7, 2) := by decide +kernel
theorem dX8_shareDay_135 : decode cX8_shareDay 135 = .ok (.lconst 1, 1) := by decide +kernel
theorem dX8_shareDay_136 : decode cX8_shareDay 136 = .ok (.lsub, 1) := by decide +kernel
theorem dX8_shareDay_137 : decode cX8_shareDay 137 = .ok (.lstore 7, 2) := by decide +kernel
theorem dX8_shareDay_139 : decode cX8_shareDay 139 = .ok (.iinc 9 1, 3) := by decide +kernel
theorem dX8_shareDay_142 : decode cX8_shareDay 142 = .ok (.goto (-40), 3) := by decide +kernel
theorem dX8_shareDay_145 : decode cX8_shareDay 145 = .ok (.lload 7, 2) := by decide +kernel
theorem dX8_shareDay_147 : decode cX8_shareDay 147 = .ok (.lreturn, 1) := by decide +kernel
theorem dX8_shareOut_0 : decode cX8_shareOut 0 = .ok (.lload_n 1, 1) := by decide +kernel
theorem dX8_shareOut_1 : decode cX8_shareOut 1 = .ok (.lstore_n 3, 1) := by decide +kernel
theorem dX8_shareOut_2 : decode cX8_shareOut 2 = .ok (.iconst 0, 1) := by decide +kernel
theorem dX8_shareOut_3 : decode cX8_shareOut 3 = .ok (.istore 5, 2) := by decide +kernel
theorem dX8_shareOut_5 : decode cX8_shareOut 5 = .ok (.iconst 0, 1) := by decide +kernel
theorem dX8_shareOut_6 : decode cX8_shareOut 6 = .ok (.istore 6, 2) := by decide +kernel
theorem dX8_shareOut_8 : decode cX8_shareOut 8 = .ok (.iload 6, 2) := by decide +kernel
theorem dX8_shareOut_10 : decode cX8_shareOut 10 = .ok (.bipush 20, 2) := by decide +kernel
theorem dX8_shareOut_12 : decode cX8_shareOut 12 = .ok (.if_icmp .ge 17, 3) := by decide +kernel
theorem dX8_shareOut_15 : decode cX8_shareOut 15 = .ok (.aload_n 0, 1) := by decide +kernel
theorem dX8_shareOut_16 : decode cX8_shareOut 16 = .ok (.getfield 26, 3) := by decide +kernel
theorem dX8_shareOut_19 : decode cX8_shareOut 19 = .ok (.iload 6, 2) := by decide +kernel
theorem dX8_shareOut_21 : decode cX8_shareOut 21 = .ok (.lconst 0, 1) := by decide +kernel
theorem dX8_shareOut_22 : decode cX8_shareOut 22 = .ok (.lastore, 1) := by decide +kernel
theorem dX8_shareOut_23 : decode cX8_shareOut 23 = .ok (.iinc 6 1, 3) := by decide +kernel
theorem dX8_shareOut_26 : decode cX8_shareOut 26 = .ok (.goto (-18), 3) := by decide +kernel
theorem dX8_shareOut_29 : decode cX8_shareOut 29 = .ok (.iload 5, 2) := by decide +kernel
theorem dX8_shareOut_31 : decode cX8_shareOut 31 = .ok (.i2l, 1) := by decide +kernel
theorem dX8_shareOut_32 : decode cX8_shareOut 32 = .ok (.aload_n 0, 1) := by decide +kernel
theorem dX8_shareOut_33 : decode cX8_shareOut 33 = .ok (.getfield 7, 3) := by decide +kernel
theorem dX8_shareOut_36 : decode cX8_shareOut 36 = .ok (.bipush 122, 2) := by decide +kernel
theorem dX8_shareOut_38 : decode cX8_shareOut 38 = .ok (.laload, 1) := by decide +kernel
theorem dX8_shareOut_39 : decode cX8_shareOut 39 = .ok (.lcmp, 1) := by decide +kernel
theorem dX8_shareOut_40 : decode cX8_shareOut 40 = .ok (.ifCond .ge 88, 3) := by decide +kernel
theorem dX8_shareOut_43 : decode cX8_shareOut 43 = .ok (.aload_n 0, 1) := by decide +kernel
theorem dX8_shareOut_44 : decode cX8_shareOut 44 = .ok (.bipush 122, 2) := by decide +kernel
theorem dX8_shareOut_46 : decode cX8_shareOut 46 = .ok (.iload 5, 2) := by decide +kernel
theorem dX8_shareOut_48 : decode cX8_shareOut 48 = .ok (.iconst 2, 1) := by decide +kernel
theorem dX8_shareOut_49 : decode cX8_shareOut 49 = .ok (.invokevirtual 86, 3) := by decide +kernel
theorem dX8_shareOut_52 : decode cX8_shareOut 52 = .ok (.aload_n 0, 1) := by decide +kernel
theorem dX8_shareOut_53 : decode cX8_shareOut 53 = .ok (.getfield 7, 3) := by decide +kernel
theorem dX8_shareOut_56 : decode cX8_shareOut 56 = .ok (.bipush 10, 2) := by decide +kernel
theorem dX8_shareOut_58 : decode cX8_shareOut 58 = .ok (.laload, 1) := by decide +kernel
theorem dX8_shareOut_59 : decode cX8_shareOut 59 = .ok (.lcmp, 1) := by decide +kernel
theorem dX8_shareOut_60 : decode cX8_shareOut 60 = .ok (.ifCond .gt 68, 3) := by decide +kernel
theorem dX8_shareOut_63 : decode cX8_shareOut 63 = .ok (.iload 5, 2) := by decide +kernel
theorem dX8_shareOut_65 : decode cX8_shareOut 65 = .ok (.iconst 1, 1) := by decide +kernel
theorem dX8_shareOut_66 : decode cX8_shareOut 66 = .ok (.iadd, 1) := by decide +kernel
theorem dX8_shareOut_67 : decode cX8_shareOut 67 = .ok (.istore 6, 2) := by decide +kernel
theorem dX8_shareOut_69 : decode cX8_shareOut 69 = .ok (.iload 6, 2) := by decide +kernel
theorem dX8_shareOut_71 : decode cX8_shareOut 71 = .ok (.i2l, 1) := by decide +kernel
theorem dX8_shareOut_72 : decode cX8_shareOut 72 = .ok (.aload_n 0, 1) := by decide +kernel
theorem dX8_shareOut_73 : decode cX8_shareOut 73 = .ok (.getfield 7, 3) := by decide +kernel
theorem dX8_shareOut_76 : decode cX8_shareOut 76 = .ok (.bipush 122, 2) := by decide +kernel
theorem dX8_shareOut_78 : decode cX8_shareOut 78 = .ok (.laload, 1) := by decide +kernel
theorem dX8_shareOut_79 : decode cX8_shareOut 79 = .ok (.lcmp, 1) := by decide +kernel
theorem dX8_shareOut_80 : decode cX8_shareOut 80 = .ok (.ifCond .ge 31, 3) := by decide +kernel
theorem dX8_shareOut_83 : decode cX8_shareOut 83 = .ok (.aload_n 0, 1) := by decide +kernel
theorem dX8_shareOut_84 : decode cX8_shareOut 84 = .ok (.bipush 122, 2) := by decide +kernel
theorem dX8_shareOut_86 : decode cX8_shareOut 86 = .ok (.iload 6, 2) := by decide +kernel
theorem dX8_shareOut_88 : decode cX8_shareOut 88 = .ok (.iconst 2, 1) := by decide +kernel
theorem dX8_shareOut_89 : decode cX8_shareOut 89 = .ok (.invokevirtual 86, 3) := by decide +kernel
theorem dX8_shareOut_92 : decode cX8_shareOut 92 = .ok (.aload_n 0, 1) := by decide +kernel
theorem dX8_shareOut_93 : decode cX8_shareOut 93 = .ok (.bipush 122, 2) := by decide +kernel
theorem dX8_shareOut_95 : decode cX8_shareOut 95 = .ok (.iload 5, 2) := by decide +kernel
theorem dX8_shareOut_97 : decode cX8_shareOut 97 = .ok (.iconst 2, 1) := by decide +kernel
theorem dX8_shareOut_98 : decode cX8_shareOut 98 = .ok (.invokevirtual 86, 3) := by decide +kernel
theorem dX8_shareOut_101 : decode cX8_shareOut 101 = .ok (.lcmp, 1) := by decide +kernel
theorem dX8_shareOut_102 : decode cX8_shareOut 102 = .ok (.ifCond .ne 9, 3) := by decide +kernel
theorem dX8_shareOut_105 : decode cX8_shareOut 105 = .ok (.iinc 6 1, 3) := by decide +kernel
theorem dX8_shareOut_108 : decode cX8_shareOut 108 = .ok (.goto (-39), 3) := by decide +kernel
theorem dX8_shareOut_111 : decode cX8_shareOut 111 = .ok (.aload_n 0, 1) := by decide +kernel
theorem dX8_shareOut_112 : decode cX8_shareOut 112 = .ok (.iload 5, 2) := by decide +kernel
theorem dX8_shareOut_114 : decode cX8_shareOut 114 = .ok (.iload 6, 2) := by decide +kernel
theorem dX8_shareOut_116 : decode cX8_shareOut 116 = .ok (.lload_n 3, 1) := by decide +kernel
theorem dX8_shareOut_117 : decode cX8_shareOut 117 = .ok (.invokevirtual 153, 3) := by decide +kernel
theorem dX8_shareOut_120 : decode cX8_shareOut 120 = .ok (.lstore_n 3, 1) := by decide +kernel
theorem dX8_shareOut_121 : decode cX8_shareOut 121 = .ok (.iload 6, 2) := by decide +kernel
theorem dX8_shareOut_123 : decode cX8_shareOut 123 = .ok (.istore 5, 2) := by decide +kernel
theorem dX8_shareOut_125 : decode cX8_shareOut 125 = .ok (.goto (-96), 3) := by decide +kernel
theorem dX8_shareOut_128 : decode cX8_shareOut 128 = .ok (.return_, 1) := by decide +kernel
theorem dX8_sellFor_0 : decode cX8_sellFor 0 = .ok (.aload_n 0, 1) := by decide +kernel
theorem dX8_sellFor_1 : decode cX8_sellFor 1 = .ok (.getfield 7, 3) := by decide +kernel
theorem dX8_sellFor_4 : decode cX8_sellFor 4 = .ok (.iconst 5, 1) := by decide +kernel
theorem dX8_sellFor_5 : decode cX8_sellFor 5 = .ok (.laload, 1) := by decide +kernel
theorem dX8_sellFor_6 : decode cX8_sellFor 6 = .ok (.lload_n 1, 1) := by decide +kernel
theorem dX8_sellFor_7 : decode cX8_sellFor 7 = .ok (.lcmp, 1) := by decide +kernel
theorem dX8_sellFor_8 : decode cX8_sellFor 8 = .ok (.ifCond .ge 61, 3) := by decide +kernel
theorem dX8_sellFor_11 : decode cX8_sellFor 11 = .ok (.aload_n 0, 1) := by decide +kernel
theorem dX8_sellFor_12 : decode cX8_sellFor 12 = .ok (.getfield 7, 3) := by decide +kernel
theorem dX8_sellFor_15 : decode cX8_sellFor 15 = .ok (.bipush 6, 2) := by decide +kernel
theorem dX8_sellFor_17 : decode cX8_sellFor 17 = .ok (.laload, 1) := by decide +kernel
theorem dX8_sellFor_18 : decode cX8_sellFor 18 = .ok (.lconst 0, 1) := by decide +kernel
theorem dX8_sellFor_19 : decode cX8_sellFor 19 = .ok (.lcmp, 1) := by decide +kernel
theorem dX8_sellFor_20 : decode cX8_sellFor 20 = .ok (.ifCond .le 49, 3) := by decide +kernel
theorem dX8_sellFor_23 : decode cX8_sellFor 23 = .ok (.aload_n 0, 1) := by decide +kernel
theorem dX8_sellFor_24 : decode cX8_sellFor 24 = .ok (.getfield 7, 3) := by decide +kernel
theorem dX8_sellFor_27 : decode cX8_sellFor 27 = .ok (.bipush 6, 2) := by decide +kernel
theorem dX8_sellFor_29 : decode cX8_sellFor 29 = .ok (.dup2, 1) := by decide +kernel
theorem dX8_sellFor_30 : decode cX8_sellFor 30 = .ok (.laload, 1) := by decide +kernel
theorem dX8_sellFor_31 : decode cX8_sellFor 31 = .ok (.lconst 1, 1) := by decide +kernel
theorem dX8_sellFor_32 : decode cX8_sellFor 32 = .ok (.lsub, 1) := by decide +kernel
theorem dX8_sellFor_33 : decode cX8_sellFor 33 = .ok (.lastore, 1) := by decide +kernel
theorem dX8_sellFor_34 : decode cX8_sellFor 34 = .ok (.aload_n 0, 1) := by decide +kernel
theorem dX8_sellFor_35 : decode cX8_sellFor 35 = .ok (.getfield 7, 3) := by decide +kernel
theorem dX8_sellFor_38 : decode cX8_sellFor 38 = .ok (.iconst 5, 1) := by decide +kernel
theorem dX8_sellFor_39 : decode cX8_sellFor 39 = .ok (.dup2, 1) := by decide +kernel
theorem dX8_sellFor_40 : decode cX8_sellFor 40 = .ok (.laload, 1) := by decide +kernel
theorem dX8_sellFor_41 : decode cX8_sellFor 41 = .ok (.aload_n 0, 1) := by decide +kernel
theorem dX8_sellFor_42 : decode cX8_sellFor 42 = .ok (.getfield 7, 3) := by decide +kernel
theorem dX8_sellFor_45 : decode cX8_sellFor 45 = .ok (.bipush 7, 2) := by decide +kernel
theorem dX8_sellFor_47 : decode cX8_sellFor 47 = .ok (.laload, 1) := by decide +kernel
theorem dX8_sellFor_48 : decode cX8_sellFor 48 = .ok (.aload_n 0, 1) := by decide +kernel
theorem dX8_sellFor_49 : decode cX8_sellFor 49 = .ok (.invokevirtual 157, 3) := by decide +kernel
theorem dX8_sellFor_52 : decode cX8_sellFor 52 = .ok (.lsub, 1) := by decide +kernel
theorem dX8_sellFor_53 : decode cX8_sellFor 53 = .ok (.ladd, 1) := by decide +kernel
theorem dX8_sellFor_54 : decode cX8_sellFor 54 = .ok (.lastore, 1) := by decide +kernel
theorem dX8_sellFor_55 : decode cX8_sellFor 55 = .ok (.aload_n 0, 1) := by decide +kernel
theorem dX8_sellFor_56 : decode cX8_sellFor 56 = .ok (.getfield 7, 3) := by decide +kernel
theorem dX8_sellFor_59 : decode cX8_sellFor 59 = .ok (.bipush 14, 2) := by decide +kernel
theorem dX8_sellFor_61 : decode cX8_sellFor 61 = .ok (.dup2, 1) := by decide +kernel
theorem dX8_sellFor_62 : decode cX8_sellFor 62 = .ok (.laload, 1) := by decide +kernel
theorem dX8_sellFor_63 : decode cX8_sellFor 63 = .ok (.lconst 1, 1) := by decide +kernel
theorem dX8_sellFor_64 : decode cX8_sellFor 64 = .ok (.ladd, 1) := by decide +kernel
theorem dX8_sellFor_65 : decode cX8_sellFor 65 = .ok (.lastore, 1) := by decide +kernel
theorem dX8_sellFor_66 : decode cX8_sellFor 66 = .ok (.goto (-66), 3) := by decide +kernel
theorem dX8_sellFor_69 : decode cX8_sellFor 69 = .ok (.return_, 1) := by decide +kernel
theorem dX8_payThem_0 : decode cX8_payThem 0 = .ok (.iconst 1, 1) := by decide +kernel
theorem dX8_payThem_1 : decode cX8_payThem 1 = .ok (.istore 5, 2) := by decide +kernel
theorem dX8_payThem_3 : decode cX8_payThem 3 = .ok (.iconst 0, 1) := by decide +kernel
theorem dX8_payThem_4 : decode cX8_payThem 4 = .ok (.istore 6, 2) := by decide +kernel
theorem dX8_payThem_6 : decode cX8_payThem 6 = .ok (.iload 6, 2) := by decide +kernel
theorem dX8_payThem_8 : decode cX8_payThem 8 = .ok (.i2l, 1) := by decide +kernel
theorem dX8_payThem_9 : decode cX8_payThem 9 = .ok (.aload_n 0, 1) := by decide +kernel
theorem dX8_payThem_10 : decode cX8_payThem 10 = .ok (.getfield 7, 3) := by decide +kernel
theorem dX8_payThem_13 : decode cX8_payThem 13 = .ok (.bipush 122, 2) := by decide +kernel
theorem dX8_payThem_15 : decode cX8_payThem 15 = .ok (.laload, 1) := by decide +kernel
theorem dX8_payThem_16 : decode cX8_payThem 16 = .ok (.lcmp, 1) := by decide +kernel
theorem dX8_payThem_17 : decode cX8_payThem 17 = .ok (.ifCond .ge 170, 3) := by decide +kernel
theorem dX8_payThem_20 : decode cX8_payThem 20 = .ok (.iload 5, 2) := by decide +kernel
theorem dX8_payThem_22 : decode cX8_payThem 22 = .ok (.ifCond .eq 165, 3) := by decide +kernel
theorem dX8_payThem_25 : decode cX8_payThem 25 = .ok (.aload_n 0, 1) := by decide +kernel
theorem dX8_payThem_26 : decode cX8_payThem 26 = .ok (.getfield 26, 3) := by decide +kernel
theorem dX8_payThem_29 : decode cX8_payThem 29 = .ok (.iload 6, 2) := by decide +kernel
theorem dX8_payThem_31 : decode cX8_payThem 31 = .ok (.laload, 1) := by decide +kernel
theorem dX8_payThem_32 : decode cX8_payThem 32 = .ok (.lload_n 1, 1) := by decide +kernel
theorem dX8_payThem_33 : decode cX8_payThem 33 = .ok (.lmul, 1) := by decide +kernel
theorem dX8_payThem_34 : decode cX8_payThem 34 = .ok (.ldc2_w 49, 3) := by decide +kernel
theorem dX8_payThem_37 : decode cX8_payThem 37 = .ok (.ldiv, 1) := by decide +kernel
theorem dX8_payThem_38 : decode cX8_payThem 38 = .ok (.lstore 7, 2) := by decide +kernel
theorem dX8_payThem_40 : decode cX8_payThem 40 = .ok (.aload_n 0, 1) := by decide +kernel
theorem dX8_payThem_41 : decode cX8_payThem 41 = .ok (.getfield 26, 3) := by decide +kernel
theorem dX8_payThem_44 : decode cX8_payThem 44 = .ok (.iload 6, 2) := by decide +kernel
theorem dX8_payThem_46 : decode cX8_payThem 46 = .ok (.laload, 1) := by decide +kernel
theorem dX8_payThem_47 : decode cX8_payThem 47 = .ok (.lconst 0, 1) := by decide +kernel
theorem dX8_payThem_48 : decode cX8_payThem 48 = .ok (.lcmp, 1) := by decide +kernel
theorem dX8_payThem_49 : decode cX8_payThem 49 = .ok (.ifCond .le 28, 3) := by decide +kernel
theorem dX8_payThem_52 : decode cX8_payThem 52 = .ok (.aload_n 0, 1) := by decide +kernel
theorem dX8_payThem_53 : decode cX8_payThem 53 = .ok (.lload 7, 2) := by decide +kernel
theorem dX8_payThem_55 : decode cX8_payThem 55 = .ok (.invokevirtual 160, 3) := by decide +kernel
theorem dX8_payThem_58 : decode cX8_payThem 58 = .ok (.aload_n 0, 1) := by decide +kernel
theorem dX8_payThem_59 : decode cX8_payThem 59 = .ok (.getfield 7, 3) := by decide +kernel
theorem dX8_payThem_62 : decode cX8_payThem 62 = .ok (.iconst 5, 1) := by decide +kernel
theorem dX8_payThem_63 : decode cX8_payThem 63 = .ok (.laload, 1) := by decide +kernel
theorem dX8_payThem_64 : decode cX8_payThem 64 = .ok (.lload 7, 2) := by decide +kernel
theorem dX8_payThem_66 : decode cX8_payThem 66 = .ok (.lcmp, 1) := by decide +kernel
theorem dX8_payThem_67 : decode cX8_payThem 67 = .ok (.ifCond .lt 7, 3) := by decide +kernel
theorem dX8_payThem_70 : decode cX8_payThem 70 = .ok (.iconst 1, 1) := by decide +kernel
theorem dX8_payThem_71 : decode cX8_payThem 71 = .ok (.goto 4, 3) := by decide +kernel
theorem dX8_payThem_74 : decode cX8_payThem 74 = .ok (.iconst 0, 1) := by decide +kernel
theorem dX8_payThem_75 : decode cX8_payThem 75 = .ok (.istore 5, 2) := by decide +kernel
theorem dX8_payThem_77 : decode cX8_payThem 77 = .ok (.aload_n 0, 1) := by decide +kernel
theorem dX8_payThem_78 : decode cX8_payThem 78 = .ok (.getfield 26, 3) := by decide +kernel
theorem dX8_payThem_81 : decode cX8_payThem 81 = .ok (.iload 6, 2) := by decide +kernel
theorem dX8_payThem_83 : decode cX8_payThem 83 = .ok (.laload, 1) := by decide +kernel
theorem dX8_payThem_84 : decode cX8_payThem 84 = .ok (.lconst 0, 1) := by decide +kernel
theorem dX8_payThem_85 : decode cX8_payThem 85 = .ok (.lcmp, 1) := by decide +kernel
theorem dX8_payThem_86 : decode cX8_payThem 86 = .ok (.ifCond .le 95, 3) := by decide +kernel
theorem dX8_payThem_89 : decode cX8_payThem 89 = .ok (.iload 5, 2) := by decide +kernel
theorem dX8_payThem_91 : decode cX8_payThem 91 = .ok (.ifCond .eq 90, 3) := by decide +kernel
theorem dX8_payThem_94 : decode cX8_payThem 94 = .ok (.aload_n 0, 1) := by decide +kernel
theorem dX8_payThem_95 : decode cX8_payThem 95 = .ok (.bipush 122, 2) := by decide +kernel
theorem dX8_payThem_97 : decode cX8_payThem 97 = .ok (.iload 6, 2) := by decide +kernel
theorem dX8_payThem_99 : decode cX8_payThem 99 = .ok (.iconst 0, 1) := by decide +kernel
theorem dX8_payThem_100 : decode cX8_payThem 100 = .ok (.invokevirtual 86, 3) := by decide +kernel
theorem dX8_payThem_103 : decode cX8_payThem 103 = .ok (.l2i, 1) := by decide +kernel
theorem dX8_payThem_104 : decode cX8_payThem 104 = .ok (.istore 9, 2) := by decide +kernel
theorem dX8_payThem_106 : decode cX8_payThem 106 = .ok (.aload_n 0, 1) := by decide +kernel
theorem dX8_payThem_107 : decode cX8_payThem 107 = .ok (.getfield 7, 3) := by decide +kernel
theorem dX8_payThem_110 : decode cX8_payThem 110 = .ok (.iconst 5, 1) := by decide +kernel
theorem dX8_payThem_111 : decode cX8_payThem 111 = .ok (.dup2, 1) := by decide +kernel
theorem dX8_payThem_112 : decode cX8_payThem 112 = .ok (.laload, 1) := by decide +kernel
theorem dX8_payThem_113 : decode cX8_payThem 113 = .ok (.lload 7, 2) := by decide +kernel
theorem dX8_payThem_115 : decode cX8_payThem 115 = .ok (.lsub, 1) := by decide +kernel
theorem dX8_payThem_116 : decode cX8_payThem 116 = .ok (.lastore, 1) := by decide +kernel
theorem dX8_payThem_117 : decode cX8_payThem 117 = .ok (.aload_n 0, 1) := by decide +kernel
theorem dX8_payThem_118 : decode cX8_payThem 118 = .ok (.iload 9, 2) := by decide +kernel
theorem dX8_payThem_120 : decode cX8_payThem 120 = .ok (.aload_n 0, 1) := by decide +kernel
theorem dX8_payThem_121 : decode cX8_payThem 121 = .ok (.getfield 26, 3) := by decide +kernel
theorem dX8_payThem_124 : decode cX8_payThem 124 = .ok (.iload 6, 2) := by decide +kernel
theorem dX8_payThem_126 : decode cX8_payThem 126 = .ok (.laload, 1) := by decide +kernel
theorem dX8_payThem_127 : decode cX8_payThem 127 = .ok (.lload_n 3, 1) := by decide +kernel
theorem dX8_payThem_128 : decode cX8_payThem 128 = .ok (.invokevirtual 135, 3) := by decide +kernel
theorem dX8_payThem_131 : decode cX8_payThem 131 = .ok (.aload_n 0, 1) := by decide +kernel
theorem dX8_payThem_132 : decode cX8_payThem 132 = .ok (.iload 9, 2) := by decide +kernel
theorem dX8_payThem_134 : decode cX8_payThem 134 = .ok (.iconst 3, 1) := by decide +kernel
theorem dX8_payThem_135 : decode cX8_payThem 135 = .ok (.lload 7, 2) := by decide +kernel
theorem dX8_payThem_137 : decode cX8_payThem 137 = .ok (.invokevirtual 90, 3) := by decide +kernel
theorem dX8_payThem_140 : decode cX8_payThem 140 = .ok (.aload_n 0, 1) := by decide +kernel
theorem dX8_payThem_141 : decode cX8_payThem 141 = .ok (.getfield 7, 3) := by decide +kernel
theorem dX8_payThem_144 : decode cX8_payThem 144 = .ok (.bipush 123, 2) := by decide +kernel
theorem dX8_payThem_146 : decode cX8_payThem 146 = .ok (.iconst 3, 1) := by decide +kernel
theorem dX8_payThem_147 : decode cX8_payThem 147 = .ok (.iload 6, 2) := by decide +kernel
theorem dX8_payThem_149 : decode cX8_payThem 149 = .ok (.imul, 1) := by decide +kernel
theorem dX8_payThem_150 : decode cX8_payThem 150 = .ok (.iadd, 1) := by decide +kernel
theorem dX8_payThem_151 : decode cX8_payThem 151 = .ok (.iconst 1, 1) := by decide +kernel
theorem dX8_payThem_152 : decode cX8_payThem 152 = .ok (.iadd, 1) := by decide +kernel
theorem dX8_payThem_153 : decode cX8_payThem 153 = .ok (.dup2, 1) := by decide +kernel
theorem dX8_payThem_154 : decode cX8_payThem 154 = .ok (.laload, 1) := by decide +kernel
theorem dX8_payThem_155 : decode cX8_payThem 155 = .ok (.aload_n 0, 1) := by decide +kernel
theorem dX8_payThem_156 : decode cX8_payThem 156 = .ok (.getfield 26, 3) := by decide +kernel
theorem dX8_payThem_159 : decode cX8_payThem 159 = .ok (.iload 6, 2) := by decide +kernel
theorem dX8_payThem_161 : decode cX8_payThem 161 = .ok (.laload, 1) := by decide +kernel
theorem dX8_payThem_162 : decode cX8_payThem 162 = .ok (.lsub, 1) := by decide +kernel
theorem dX8_payThem_163 : decode cX8_payThem 163 = .ok (.lastore, 1) := by decide +kernel
theorem dX8_payThem_164 : decode cX8_payThem 164 = .ok (.aload_n 0, 1) := by decide +kernel
theorem dX8_payThem_165 : decode cX8_payThem 165 = .ok (.getfield 7, 3) := by decide +kernel
theorem dX8_payThem_168 : decode cX8_payThem 168 = .ok (.bipush 13, 2) := by decide +kernel
theorem dX8_payThem_170 : decode cX8_payThem 170 = .ok (.dup2, 1) := by decide +kernel
theorem dX8_payThem_171 : decode cX8_payThem 171 = .ok (.laload, 1) := by decide +kernel
theorem dX8_payThem_172 : decode cX8_payThem 172 = .ok (.aload_n 0, 1) := by decide +kernel
theorem dX8_payThem_173 : decode cX8_payThem 173 = .ok (.getfield 26, 3) := by decide +kernel
theorem dX8_payThem_176 : decode cX8_payThem 176 = .ok (.iload 6, 2) := by decide +kernel
theorem dX8_payThem_178 : decode cX8_payThem 178 = .ok (.laload, 1) := by decide +kernel
theorem dX8_payThem_179 : decode cX8_payThem 179 = .ok (.ladd, 1) := by decide +kernel
theorem dX8_payThem_180 : decode cX8_payThem 180 = .ok (.lastore, 1) := by decide +kernel
theorem dX8_payThem_181 : decode cX8_payThem 181 = .ok (.iinc 6 1, 3) := by decide +kernel
theorem dX8_payThem_184 : decode cX8_payThem 184 = .ok (.goto (-178), 3) := by decide +kernel
theorem dX8_payThem_187 : decode cX8_payThem 187 = .ok (.aload_n 0, 1) := by decide +kernel
theorem dX8_payThem_188 : decode cX8_payThem 188 = .ok (.getfield 7, 3) := by decide +kernel
theorem dX8_payThem_191 : decode cX8_payThem 191 = .ok (.bipush 122, 2) := by decide +kernel
theorem dX8_payThem_193 : decode cX8_payThem 193 = .ok (.laload, 1) := by decide +kernel
theorem dX8_payThem_194 : decode cX8_payThem 194 = .ok (.l2i, 1) := by decide +kernel
theorem dX8_payThem_195 : decode cX8_payThem 195 = .ok (.iconst 1, 1) := by decide +kernel
theorem dX8_payThem_196 : decode cX8_payThem 196 = .ok (.isub, 1) := by decide +kernel
theorem dX8_payThem_197 : decode cX8_payThem 197 = .ok (.istore 6, 2) := by decide +kernel
theorem dX8_payThem_199 : decode cX8_payThem 199 = .ok (.iload 6, 2) := by decide +kernel
theorem dX8_payThem_201 : decode cX8_payThem 201 = .ok (.ifCond .lt 31, 3) := by decide +kernel
theorem dX8_payThem_204 : decode cX8_payThem 204 = .ok (.aload_n 0, 1) := by decide +kernel
theorem dX8_payThem_205 : decode cX8_payThem 205 = .ok (.bipush 122, 2) := by decide +kernel
theorem dX8_payThem_207 : decode cX8_payThem 207 = .ok (.iload 6, 2) := by decide +kernel
theorem dX8_payThem_209 : decode cX8_payThem 209 = .ok (.iconst 1, 1) := by decide +kernel
theorem dX8_payThem_210 : decode cX8_payThem 210 = .ok (.invokevirtual 86, 3) := by decide +kernel
theorem dX8_payThem_213 : decode cX8_payThem 213 = .ok (.lconst 0, 1) := by decide +kernel
theorem dX8_payThem_214 : decode cX8_payThem 214 = .ok (.lcmp, 1) := by decide +kernel
theorem dX8_payThem_215 : decode cX8_payThem 215 = .ok (.ifCond .ne 11, 3) := by decide +kernel
theorem dX8_payThem_218 : decode cX8_payThem 218 = .ok (.aload_n 0, 1) := by decide +kernel
theorem dX8_payThem_219 : decode cX8_payThem 219 = .ok (.bipush 122, 2) := by decide +kernel
theorem dX8_payThem_221 : decode cX8_payThem 221 = .ok (.iload 6, 2) := by decide +kernel
theorem dX8_payThem_223 : decode cX8_payThem 223 = .ok (.invokevirtual 164, 3) := by decide +kernel
theorem dX8_payThem_226 : decode cX8_payThem 226 = .ok (.iinc 6 (-1), 3) := by decide +kernel
theorem dX8_payThem_229 : decode cX8_payThem 229 = .ok (.goto (-30), 3) := by decide +kernel
theorem dX8_payThem_232 : decode cX8_payThem 232 = .ok (.return_, 1) := by decide +kernel
theorem dX8_buyFor_0 : decode cX8_buyFor 0 = .ok (.lload 4, 2) := by decide +kernel
theorem dX8_buyFor_2 : decode cX8_buyFor 2 = .ok (.lconst 0, 1) := by decide +kernel
theorem dX8_buyFor_3 : decode cX8_buyFor 3 = .ok (.lcmp, 1) := by decide +kernel
theorem dX8_buyFor_4 : decode cX8_buyFor 4 = .ok (.ifCond .ne 7, 3) := by decide +kernel
theorem dX8_buyFor_7 : decode cX8_buyFor 7 = .ok (.lconst 0, 1) := by decide +kernel
theorem dX8_buyFor_8 : decode cX8_buyFor 8 = .ok (.goto 11, 3) := by decide +kernel
theorem dX8_buyFor_11 : decode cX8_buyFor 11 = .ok (.ldc2_w 49, 3) := by decide +kernel
theorem dX8_buyFor_14 : decode cX8_buyFor 14 = .ok (.lload_n 2, 1) := by decide +kernel
theorem dX8_buyFor_15 : decode cX8_buyFor 15 = .ok (.lmul, 1) := by decide +kernel
theorem dX8_buyFor_16 : decode cX8_buyFor 16 = .ok (.lload 4, 2) := by decide +kernel
theorem dX8_buyFor_18 : decode cX8_buyFor 18 = .ok (.ldiv, 1) := by decide +kernel
theorem dX8_buyFor_19 : decode cX8_buyFor 19 = .ok (.lstore 8, 2) := by decide +kernel
theorem dX8_buyFor_21 : decode cX8_buyFor 21 = .ok (.lload 8, 2) := by decide +kernel
theorem dX8_buyFor_23 : decode cX8_buyFor 23 = .ok (.lconst 0, 1) := by decide +kernel
theorem dX8_buyFor_24 : decode cX8_buyFor 24 = .ok (.lcmp, 1) := by decide +kernel
theorem dX8_buyFor_25 : decode cX8_buyFor 25 = .ok (.ifCond .eq 17, 3) := by decide +kernel
theorem dX8_buyFor_28 : decode cX8_buyFor 28 = .ok (.aload_n 0, 1) := by decide +kernel
theorem dX8_buyFor_29 : decode cX8_buyFor 29 = .ok (.invokevirtual 75, 3) := by decide +kernel
theorem dX8_buyFor_32 : decode cX8_buyFor 32 = .ok (.lload 8, 2) := by decide +kernel
theorem dX8_buyFor_34 : decode cX8_buyFor 34 = .ok (.ladd, 1) := by decide +kernel
theorem dX8_buyFor_35 : decode cX8_buyFor 35 = .ok (.ldc2_w 168, 3) := by decide +kernel
theorem dX8_buyFor_38 : decode cX8_buyFor 38 = .ok (.lcmp, 1) := by decide +kernel
theorem dX8_buyFor_39 : decode cX8_buyFor 39 = .ok (.ifCond .le 15, 3) := by decide +kernel
theorem dX8_buyFor_42 : decode cX8_buyFor 42 = .ok (.aload_n 0, 1) := by decide +kernel
theorem dX8_buyFor_43 : decode cX8_buyFor 43 = .ok (.getfield 7, 3) := by decide +kernel
theorem dX8_buyFor_46 : decode cX8_buyFor 46 = .ok (.bipush 17, 2) := by decide +kernel
theorem dX8_buyFor_48 : decode cX8_buyFor 48 = .ok (.dup2, 1) := by decide +kernel
theorem dX8_buyFor_49 : decode cX8_buyFor 49 = .ok (.laload, 1) := by decide +kernel
theorem dX8_buyFor_50 : decode cX8_buyFor 50 = .ok (.lload_n 2, 1) := by decide +kernel
theorem dX8_buyFor_51 : decode cX8_buyFor 51 = .ok (.ladd, 1) := by decide +kernel
theorem dX8_buyFor_52 : decode cX8_buyFor 52 = .ok (.lastore, 1) := by decide +kernel
theorem dX8_buyFor_53 : decode cX8_buyFor 53 = .ok (.return_, 1) := by decide +kernel
theorem dX8_buyFor_54 : decode cX8_buyFor 54 = .ok (.aload_n 0, 1) := by decide +kernel
theorem dX8_buyFor_55 : decode cX8_buyFor 55 = .ok (.getfield 7, 3) := by decide +kernel
theorem dX8_buyFor_58 : decode cX8_buyFor 58 = .ok (.iconst 5, 1) := by decide +kernel
theorem dX8_buyFor_59 : decode cX8_buyFor 59 = .ok (.dup2, 1) := by decide +kernel
theorem dX8_buyFor_60 : decode cX8_buyFor 60 = .ok (.laload, 1) := by decide +kernel
theorem dX8_buyFor_61 : decode cX8_buyFor 61 = .ok (.lload_n 2, 1) := by decide +kernel
theorem dX8_buyFor_62 : decode cX8_buyFor 62 = .ok (.ladd, 1) := by decide +kernel
theorem dX8_buyFor_63 : decode cX8_buyFor 63 = .ok (.lastore, 1) := by decide +kernel
theorem dX8_buyFor_64 : decode cX8_buyFor 64 = .ok (.aload_n 0, 1) := by decide +kernel
theorem dX8_buyFor_65 : decode cX8_buyFor 65 = .ok (.iload_n 1, 1) := by decide +kernel
theorem dX8_buyFor_66 : decode cX8_buyFor 66 = .ok (.lload 8, 2) := by decide +kernel
theorem dX8_buyFor_68 : decode cX8_buyFor 68 = .ok (.lload 6, 2) := by decide +kernel
theorem dX8_buyFor_70 : decode cX8_buyFor 70 = .ok (.invokevirtual 170, 3) := by decide +kernel
theorem dX8_buyFor_73 : decode cX8_buyFor 73 = .ok (.aload_n 0, 1) := by decide +kernel
theorem dX8_buyFor_74 : decode cX8_buyFor 74 = .ok (.iload_n 1, 1) := by decide +kernel
theorem dX8_buyFor_75 : decode cX8_buyFor 75 = .ok (.iconst 2, 1) := by decide +kernel
theorem dX8_buyFor_76 : decode cX8_buyFor 76 = .ok (.lload_n 2, 1) := by decide +kernel
theorem dX8_buyFor_77 : decode cX8_buyFor 77 = .ok (.invokevirtual 90, 3) := by decide +kernel
theorem dX8_buyFor_80 : decode cX8_buyFor 80 = .ok (.aload_n 0, 1) := by decide +kernel
theorem dX8_buyFor_81 : decode cX8_buyFor 81 = .ok (.getfield 7, 3) := by decide +kernel
theorem dX8_buyFor_84 : decode cX8_buyFor 84 = .ok (.bipush 12, 2) := by decide +kernel
theorem dX8_buyFor_86 : decode cX8_buyFor 86 = .ok (.dup2, 1) := by decide +kernel
theorem dX8_buyFor_87 : decode cX8_buyFor 87 = .ok (.laload, 1) := by decide +kernel
theorem dX8_buyFor_88 : decode cX8_buyFor 88 = .ok (.lload 8, 2) := by decide +kernel
theorem dX8_buyFor_90 : decode cX8_buyFor 90 = .ok (.ladd, 1) := by decide +kernel
theorem dX8_buyFor_91 : decode cX8_buyFor 91 = .ok (.lastore, 1) := by decide +kernel
theorem dX8_buyFor_92 : decode cX8_buyFor 92 = .ok (.return_, 1) := by decide +kernel
theorem dX8_endIt_0 : decode cX8_endIt 0 = .ok (.aload_n 0, 1) := by decide +kernel
theorem dX8_endIt_1 : decode cX8_endIt 1 = .ok (.invokevirtual 173, 3) := by decide +kernel
theorem dX8_endIt_4 : decode cX8_endIt 4 = .ok (.lstore_n 1, 1) := by decide +kernel
theorem dX8_endIt_5 : decode cX8_endIt 5 = .ok (.aload_n 0, 1) := by decide +kernel
theorem dX8_endIt_6 : decode cX8_endIt 6 = .ok (.invokevirtual 132, 3) := by decide +kernel
theorem dX8_endIt_9 : decode cX8_endIt 9 = .ok (.lstore_n 3, 1) := by decide +kernel
theorem dX8_endIt_10 : decode cX8_endIt 10 = .ok (.aload_n 0, 1) := by decide +kernel
theorem dX8_endIt_11 : decode cX8_endIt 11 = .ok (.bipush 122, 2) := by decide +kernel
theorem dX8_endIt_13 : decode cX8_endIt 13 = .ok (.aload_n 0, 1) := by decide +kernel
theorem dX8_endIt_14 : decode cX8_endIt 14 = .ok (.getfield 7, 3) := by decide +kernel
theorem dX8_endIt_17 : decode cX8_endIt 17 = .ok (.bipush 10, 2) := by decide +kernel
theorem dX8_endIt_19 : decode cX8_endIt 19 = .ok (.laload, 1) := by decide +kernel
theorem dX8_endIt_20 : decode cX8_endIt 20 = .ok (.invokevirtual 139, 3) := by decide +kernel
theorem dX8_endIt_23 : decode cX8_endIt 23 = .ok (.lstore 5, 2) := by decide +kernel
theorem dX8_endIt_25 : decode cX8_endIt 25 = .ok (.aload_n 0, 1) := by decide +kernel
theorem dX8_endIt_26 : decode cX8_endIt 26 = .ok (.invokevirtual 149, 3) := by decide +kernel
theorem dX8_endIt_29 : decode cX8_endIt 29 = .ok (.istore 7, 2) := by decide +kernel
theorem dX8_endIt_31 : decode cX8_endIt 31 = .ok (.aload_n 0, 1) := by decide +kernel
theorem dX8_endIt_32 : decode cX8_endIt 32 = .ok (.aload_n 0, 1) := by decide +kernel
theorem dX8_endIt_33 : decode cX8_endIt 33 = .ok (.invokevirtual 143, 3) := by decide +kernel
theorem dX8_endIt_36 : decode cX8_endIt 36 = .ok (.invokevirtual 176, 3) := by decide +kernel
theorem dX8_endIt_39 : decode cX8_endIt 39 = .ok (.iconst 0, 1) := by decide +kernel
theorem dX8_endIt_40 : decode cX8_endIt 40 = .ok (.istore 8, 2) := by decide +kernel
theorem dX8_endIt_42 : decode cX8_endIt 42 = .ok (.iload 8, 2) := by decide +kernel
theorem dX8_endIt_44 : decode cX8_endIt 44 = .ok (.bipush 6, 2) := by decide +kernel
theorem dX8_endIt_46 : decode cX8_endIt 46 = .ok (.if_icmp .ge 20, 3) := by decide +kernel
theorem dX8_endIt_49 : decode cX8_endIt 49 = .ok (.aload_n 0, 1) := by decide +kernel
theorem dX8_endIt_50 : decode cX8_endIt 50 = .ok (.getfield 7, 3) := by decide +kernel
theorem dX8_endIt_53 : decode cX8_endIt 53 = .ok (.bipush 12, 2) := by decide +kernel
theorem dX8_endIt_55 : decode cX8_endIt 55 = .ok (.iload 8, 2) := by decide +kernel
theorem dX8_endIt_57 : decode cX8_endIt 57 = .ok (.iadd, 1) := by decide +kernel
theorem dX8_endIt_58 : decode cX8_endIt 58 = .ok (.lconst 0, 1) := by decide +kernel
theorem dX8_endIt_59 : decode cX8_endIt 59 = .ok (.lastore, 1) := by decide +kernel
theorem dX8_endIt_60 : decode cX8_endIt 60 = .ok (.iinc 8 1, 3) := by decide +kernel
theorem dX8_endIt_63 : decode cX8_endIt 63 = .ok (.goto (-21), 3) := by decide +kernel
theorem dX8_endIt_66 : decode cX8_endIt 66 = .ok (.aload_n 0, 1) := by decide +kernel
theorem dX8_endIt_67 : decode cX8_endIt 67 = .ok (.lload_n 1, 1) := by decide +kernel
theorem dX8_endIt_68 : decode cX8_endIt 68 = .ok (.lload_n 3, 1) := by decide +kernel
theorem dX8_endIt_69 : decode cX8_endIt 69 = .ok (.invokevirtual 179, 3) := by decide +kernel
theorem dX8_endIt_72 : decode cX8_endIt 72 = .ok (.aload_n 0, 1) := by decide +kernel
theorem dX8_endIt_73 : decode cX8_endIt 73 = .ok (.getfield 7, 3) := by decide +kernel
theorem dX8_endIt_76 : decode cX8_endIt 76 = .ok (.bipush 61, 2) := by decide +kernel
theorem dX8_endIt_78 : decode cX8_endIt 78 = .ok (.laload, 1) := by decide +kernel
theorem dX8_endIt_79 : decode cX8_endIt 79 = .ok (.lconst 0, 1) := by decide +kernel
theorem dX8_endIt_80 : decode cX8_endIt 80 = .ok (.lcmp, 1) := by decide +kernel
theorem dX8_endIt_81 : decode cX8_endIt 81 = .ok (.ifCond .le 55, 3) := by decide +kernel
theorem dX8_endIt_84 : decode cX8_endIt 84 = .ok (.aload_n 0, 1) := by decide +kernel
theorem dX8_endIt_85 : decode cX8_endIt 85 = .ok (.bipush 61, 2) := by decide +kernel
theorem dX8_endIt_87 : decode cX8_endIt 87 = .ok (.iconst 0, 1) := by decide +kernel
theorem dX8_endIt_88 : decode cX8_endIt 88 = .ok (.iconst 2, 1) := by decide +kernel
theorem dX8_endIt_89 : decode cX8_endIt 89 = .ok (.invokevirtual 86, 3) := by decide +kernel
theorem dX8_endIt_92 : decode cX8_endIt 92 = .ok (.aload_n 0, 1) := by decide +kernel
theorem dX8_endIt_93 : decode cX8_endIt 93 = .ok (.getfield 7, 3) := by decide +kernel
theorem dX8_endIt_96 : decode cX8_endIt 96 = .ok (.bipush 10, 2) := by decide +kernel
theorem dX8_endIt_98 : decode cX8_endIt 98 = .ok (.laload, 1) := by decide +kernel
theorem dX8_endIt_99 : decode cX8_endIt 99 = .ok (.lcmp, 1) := by decide +kernel
theorem dX8_endIt_100 : decode cX8_endIt 100 = .ok (.ifCond .gt 36, 3) := by decide +kernel
theorem dX8_endIt_103 : decode cX8_endIt 103 = .ok (.aload_n 0, 1) := by decide +kernel
theorem dX8_endIt_104 : decode cX8_endIt 104 = .ok (.aload_n 0, 1) := by decide +kernel
theorem dX8_endIt_105 : decode cX8_endIt 105 = .ok (.bipush 61, 2) := by decide +kernel
theorem dX8_endIt_107 : decode cX8_endIt 107 = .ok (.iconst 0, 1) := by decide +kernel
theorem dX8_endIt_108 : decode cX8_endIt 108 = .ok (.iconst 0, 1) := by decide +kernel
theorem dX8_endIt_109 : decode cX8_endIt 109 = .ok (.invokevirtual 86, 3) := by decide +kernel
theorem dX8_endIt_112 : decode cX8_endIt 112 = .ok (.l2i, 1) := by decide +kernel
theorem dX8_endIt_113 : decode cX8_endIt 113 = .ok (.aload_n 0, 1) := by decide +kernel
theorem dX8_endIt_114 : decode cX8_endIt 114 = .ok (.bipush 61, 2) := by decide +kernel
theorem dX8_endIt_116 : decode cX8_endIt 116 = .ok (.iconst 0, 1) := by decide +kernel
theorem dX8_endIt_117 : decode cX8_endIt 117 = .ok (.iconst 1, 1) := by decide +kernel
theorem dX8_endIt_118 : decode cX8_endIt 118 = .ok (.invokevirtual 86, 3) := by decide +kernel
theorem dX8_endIt_121 : decode cX8_endIt 121 = .ok (.lload_n 1, 1) := by decide +kernel
theorem dX8_endIt_122 : decode cX8_endIt 122 = .ok (.lload_n 3, 1) := by decide +kernel
theorem dX8_endIt_123 : decode cX8_endIt 123 = .ok (.invokevirtual 183, 3) := by decide +kernel
theorem dX8_endIt_126 : decode cX8_endIt 126 = .ok (.aload_n 0, 1) := by decide +kernel
theorem dX8_endIt_127 : decode cX8_endIt 127 = .ok (.bipush 61, 2) := by decide +kernel
theorem dX8_endIt_129 : decode cX8_endIt 129 = .ok (.iconst 0, 1) := by decide +kernel
theorem dX8_endIt_130 : decode cX8_endIt 130 = .ok (.invokevirtual 164, 3) := by decide +kernel
theorem dX8_endIt_133 : decode cX8_endIt 133 = .ok (.goto (-61), 3) := by decide +kernel
theorem dX8_endIt_136 : decode cX8_endIt 136 = .ok (.aload_n 0, 1) := by decide +kernel
theorem dX8_endIt_137 : decode cX8_endIt 137 = .ok (.getfield 7, 3) := by decide +kernel
theorem dX8_endIt_140 : decode cX8_endIt 140 = .ok (.bipush 15, 2) := by decide +kernel
theorem dX8_endIt_142 : decode cX8_endIt 142 = .ok (.iload 7, 2) := by decide +kernel
theorem dX8_endIt_144 : decode cX8_endIt 144 = .ok (.i2l, 1) := by decide +kernel
theorem dX8_endIt_145 : decode cX8_endIt 145 = .ok (.lastore, 1) := by decide +kernel
theorem dX8_endIt_146 : decode cX8_endIt 146 = .ok (.aload_n 0, 1) := by decide +kernel
theorem dX8_endIt_147 : decode cX8_endIt 147 = .ok (.getfield 7, 3) := by decide +kernel
theorem dX8_endIt_150 : decode cX8_endIt 150 = .ok (.bipush 16, 2) := by decide +kernel
theorem dX8_endIt_152 : decode cX8_endIt 152 = .ok (.lload 5, 2) := by decide +kernel
theorem dX8_endIt_154 : decode cX8_endIt 154 = .ok (.aload_n 0, 1) := by decide +kernel
theorem dX8_endIt_155 : decode cX8_endIt 155 = .ok (.getfield 7, 3) := by decide +kernel
theorem dX8_endIt_158 : decode cX8_endIt 158 = .ok (.bipush 13, 2) := by decide +kernel
theorem dX8_endIt_160 : decode cX8_endIt 160 = .ok (.laload, 1) := by decide +kernel
theorem dX8_endIt_161 : decode cX8_endIt 161 = .ok (.lsub, 1) := by decide +kernel
theorem dX8_endIt_162 : decode cX8_endIt 162 = .ok (.lastore, 1) := by decide +kernel
theorem dX8_endIt_163 : decode cX8_endIt 163 = .ok (.aload_n 0, 1) := by decide +kernel
theorem dX8_endIt_164 : decode cX8_endIt 164 = .ok (.getfield 7, 3) := by decide +kernel
theorem dX8_endIt_167 : decode cX8_endIt 167 = .ok (.bipush 11, 2) := by decide +kernel
theorem dX8_endIt_169 : decode cX8_endIt 169 = .ok (.lload_n 1, 1) := by decide +kernel
theorem dX8_endIt_170 : decode cX8_endIt 170 = .ok (.lastore, 1) := by decide +kernel
theorem dX8_endIt_171 : decode cX8_endIt 171 = .ok (.aload_n 0, 1) := by decide +kernel
theorem dX8_endIt_172 : decode cX8_endIt 172 = .ok (.getfield 7, 3) := by decide +kernel
theorem dX8_endIt_175 : decode cX8_endIt 175 = .ok (.bipush 18, 2) := by decide +kernel
theorem dX8_endIt_177 : decode cX8_endIt 177 = .ok (.lconst 1, 1) := by decide +kernel
theorem dX8_endIt_178 : decode cX8_endIt 178 = .ok (.lastore, 1) := by decide +kernel
theorem dX8_endIt_179 : decode cX8_endIt 179 = .ok (.aload_n 0, 1) := by decide +kernel
theorem dX8_endIt_180 : decode cX8_endIt 180 = .ok (.getfield 7, 3) := by decide +kernel
theorem dX8_endIt_183 : decode cX8_endIt 183 = .ok (.bipush 10, 2) := by decide +kernel
theorem dX8_endIt_185 : decode cX8_endIt 185 = .ok (.dup2, 1) := by decide +kernel
theorem dX8_endIt_186 : decode cX8_endIt 186 = .ok (.laload, 1) := by decide +kernel
theorem dX8_endIt_187 : decode cX8_endIt 187 = .ok (.lconst 1, 1) := by decide +kernel
theorem dX8_endIt_188 : decode cX8_endIt 188 = .ok (.ladd, 1) := by decide +kernel
theorem dX8_endIt_189 : decode cX8_endIt 189 = .ok (.lastore, 1) := by decide +kernel
theorem dX8_endIt_190 : decode cX8_endIt 190 = .ok (.return_, 1) := by decide +kernel
theorem dX8_tryEndDay_0 : decode cX8_tryEndDay 0 = .ok (.aload_n 0, 1) := by decide +kernel
theorem dX8_tryEndDay_1 : decode cX8_tryEndDay 1 = .ok (.iload_n 1, 1) := by decide +kernel
theorem dX8_tryEndDay_2 : decode cX8_tryEndDay 2 = .ok (.invokevirtual 114, 3) := by decide +kernel
theorem dX8_tryEndDay_5 : decode cX8_tryEndDay 5 = .ok (.aload_n 0, 1) := by decide +kernel
theorem dX8_tryEndDay_6 : decode cX8_tryEndDay 6 = .ok (.invokevirtual 187, 3) := by decide +kernel
theorem dX8_tryEndDay_9 : decode cX8_tryEndDay 9 = .ok (.aload_n 0, 1) := by decide +kernel
theorem dX8_tryEndDay_10 : decode cX8_tryEndDay 10 = .ok (.getfield 7, 3) := by decide +kernel
theorem dX8_tryEndDay_13 : decode cX8_tryEndDay 13 = .ok (.bipush 10, 2) := by decide +kernel
theorem dX8_tryEndDay_15 : decode cX8_tryEndDay 15 = .ok (.laload, 1) := by decide +kernel
theorem dX8_tryEndDay_16 : decode cX8_tryEndDay 16 = .ok (.l2i, 1) := by decide +kernel
theorem dX8_tryEndDay_17 : decode cX8_tryEndDay 17 = .ok (.ireturn, 1) := by decide +kernel
theorem dX8_endDay_0 : decode cX8_endDay 0 = .ok (.aload_n 0, 1) := by decide +kernel
theorem dX8_endDay_1 : decode cX8_endDay 1 = .ok (.iconst 1, 1) := by decide +kernel
theorem dX8_endDay_2 : decode cX8_endDay 2 = .ok (.invokevirtual 190, 3) := by decide +kernel
theorem dX8_endDay_5 : decode cX8_endDay 5 = .ok (.ireturn, 1) := by decide +kernel
theorem dX8_tryQuote_0 : decode cX8_tryQuote 0 = .ok (.iload_n 1, 1) := by decide +kernel
theorem dX8_tryQuote_1 : decode cX8_tryQuote 1 = .ok (.i2l, 1) := by decide +kernel
theorem dX8_tryQuote_2 : decode cX8_tryQuote 2 = .ok (.lconst 1, 1) := by decide +kernel
theorem dX8_tryQuote_3 : decode cX8_tryQuote 3 = .ok (.ldc2_w 194, 3) := by decide +kernel
theorem dX8_tryQuote_6 : decode cX8_tryQuote 6 = .ok (.invokestatic 53, 3) := by decide +kernel
theorem dX8_tryQuote_9 : decode cX8_tryQuote 9 = .ok (.ifCond .ne 6, 3) := by decide +kernel
theorem dX8_tryQuote_12 : decode cX8_tryQuote 12 = .ok (.bipush (-2), 2) := by decide +kernel
theorem dX8_tryQuote_14 : decode cX8_tryQuote 14 = .ok (.ireturn, 1) := by decide +kernel
theorem dX8_tryQuote_15 : decode cX8_tryQuote 15 = .ok (.aload_n 0, 1) := by decide +kernel
theorem dX8_tryQuote_16 : decode cX8_tryQuote 16 = .ok (.iload_n 2, 1) := by decide +kernel
theorem dX8_tryQuote_17 : decode cX8_tryQuote 17 = .ok (.invokevirtual 114, 3) := by decide +kernel
theorem dX8_tryQuote_20 : decode cX8_tryQuote 20 = .ok (.aload_n 0, 1) := by decide +kernel
theorem dX8_tryQuote_21 : decode cX8_tryQuote 21 = .ok (.getfield 7, 3) := by decide +kernel
theorem dX8_tryQuote_24 : decode cX8_tryQuote 24 = .ok (.bipush 7, 2) := by decide +kernel
theorem dX8_tryQuote_26 : decode cX8_tryQuote 26 = .ok (.laload, 1) := by decide +kernel
theorem dX8_tryQuote_27 : decode cX8_tryQuote 27 = .ok (.l2i, 1) := by decide +kernel
theorem dX8_tryQuote_28 : decode cX8_tryQuote 28 = .ok (.istore_n 3, 1) := by decide +kernel
theorem dX8_tryQuote_29 : decode cX8_tryQuote 29 = .ok (.aload_n 0, 1) := by decide +kernel
theorem dX8_tryQuote_30 : decode cX8_tryQuote 30 = .ok (.getfield 7, 3) := by decide +kernel
theorem dX8_tryQuote_33 : decode cX8_tryQuote 33 = .ok (.bipush 7, 2) := by decide +kernel
theorem dX8_tryQuote_35 : decode cX8_tryQuote 35 = .ok (.iload_n 1, 1) := by decide +kernel
theorem dX8_tryQuote_36 : decode cX8_tryQuote 36 = .ok (.i2l, 1) := by decide +kernel
theorem dX8_tryQuote_37 : decode cX8_tryQuote 37 = .ok (.lastore, 1) := by decide +kernel
theorem dX8_tryQuote_38 : decode cX8_tryQuote 38 = .ok (.iload_n 3, 1) := by decide +kernel
theorem dX8_tryQuote_39 : decode cX8_tryQuote 39 = .ok (.ireturn, 1) := by decide +kernel
theorem dX8_quote_0 : decode cX8_quote 0 = .ok (.aload_n 0, 1) := by decide +kernel
theorem dX8_quote_1 : decode cX8_quote 1 = .ok (.iload_n 1, 1) := by decide +kernel
theorem dX8_quote_2 : decode cX8_quote 2 = .ok (.iconst 1, 1) := by decide +kernel
theorem dX8_quote_3 : decode cX8_quote 3 = .ok (.invokevirtual 196, 3) := by decide +kernel
theorem dX8_quote_6 : decode cX8_quote 6 = .ok (.ireturn, 1) := by decide +kernel
theorem dX8_trade_0 : decode cX8_trade 0 = .ok (.iload_n 1, 1) := by decide +kernel
theorem dX8_trade_1 : decode cX8_trade 1 = .ok (.ifCond .eq 17, 3) := by decide +kernel
theorem dX8_trade_4 : decode cX8_trade 4 = .ok (.iload_n 1, 1) := by decide +kernel
theorem dX8_trade_5 : decode cX8_trade 5 = .ok (.i2l, 1) := by decide +kernel
theorem dX8_trade_6 : decode cX8_trade 6 = .ok (.ldc2_w 200, 3) := by decide +kernel
theorem dX8_trade_9 : decode cX8_trade 9 = .ok (.ldc2_w 49, 3) := by decide +kernel
theorem dX8_trade_12 : decode cX8_trade 12 = .ok (.invokestatic 53, 3) := by decide +kernel
theorem dX8_trade_15 : decode cX8_trade 15 = .ok (.ifCond .ne 6, 3) := by decide +kernel
theorem dX8_trade_18 : decode cX8_trade 18 = .ok (.bipush (-2), 2) := by decide +kernel
theorem dX8_trade_20 : decode cX8_trade 20 = .ok (.ireturn, 1) := by decide +kernel
theorem dX8_trade_21 : decode cX8_trade 21 = .ok (.aload_n 0, 1) := by decide +kernel
theorem dX8_trade_22 : decode cX8_trade 22 = .ok (.getfield 7, 3) := by decide +kernel
theorem dX8_trade_25 : decode cX8_trade 25 = .ok (.bipush 6, 2) := by decide +kernel
theorem dX8_trade_27 : decode cX8_trade 27 = .ok (.laload, 1) := by decide +kernel
theorem dX8_trade_28 : decode cX8_trade 28 = .ok (.iload_n 1, 1) := by decide +kernel
theorem dX8_trade_29 : decode cX8_trade 29 = .ok (.i2l, 1) := by decide +kernel
theorem dX8_trade_30 : decode cX8_trade 30 = .ok (.ladd, 1) := by decide +kernel
theorem dX8_trade_31 : decode cX8_trade 31 = .ok (.ldc2_w 49, 3) := by decide +kernel
theorem dX8_trade_34 : decode cX8_trade 34 = .ok (.lcmp, 1) := by decide +kernel
theorem dX8_trade_35 : decode cX8_trade 35 = .ok (.ifCond .le 6, 3) := by decide +kernel
theorem dX8_trade_38 : decode cX8_trade 38 = .ok (.bipush (-4), 2) := by decide +kernel
theorem dX8_trade_40 : decode cX8_trade 40 = .ok (.ireturn, 1) := by decide +kernel
theorem dX8_trade_41 : decode cX8_trade 41 = .ok (.iload_n 1, 1) := by decide +kernel
theorem dX8_trade_42 : decode cX8_trade 42 = .ok (.ifCond .le 22, 3) := by decide +kernel
theorem dX8_trade_45 : decode cX8_trade 45 = .ok (.iload_n 1, 1) := by decide +kernel
theorem dX8_trade_46 : decode cX8_trade 46 = .ok (.ineg, 1) := by decide +kernel
theorem dX8_trade_47 : decode cX8_trade 47 = .ok (.i2l, 1) := by decide +kernel
theorem dX8_trade_48 : decode cX8_trade 48 = .ok (.aload_n 0, 1) := by decide +kernel
theorem dX8_trade_49 : decode cX8_trade 49 = .ok (.getfield 7, 3) := by decide +kernel
theorem dX8_trade_52 : decode cX8_trade 52 = .ok (.bipush 7, 2) := by decide +kernel
theorem dX8_trade_54 : decode cX8_trade 54 = .ok (.laload, 1) := by decide +kernel
theorem dX8_trade_55 : decode cX8_trade 55 = .ok (.aload_n 0, 1) := by decide +kernel
theorem dX8_trade_56 : decode cX8_trade 56 = .ok (.invokevirtual 157, 3) := by decide +kernel
theorem dX8_trade_59 : decode cX8_trade 59 = .ok (.ladd, 1) := by decide +kernel
theorem dX8_trade_60 : decode cX8_trade 60 = .ok (.lmul, 1) := by decide +kernel
theorem dX8_trade_61 : decode cX8_trade 61 = .ok (.goto 19, 3) := by decide +kernel
theorem dX8_trade_64 : decode cX8_trade 64 = .ok (.iload_n 1, 1) := by decide +kernel
theorem dX8_trade_65 : decode cX8_trade 65 = .ok (.ineg, 1) := by decide +kernel
theorem dX8_trade_66 : decode cX8_trade 66 = .ok (.i2l, 1) := by decide +kernel
theorem dX8_trade_67 : decode cX8_trade 67 = .ok (.aload_n 0, 1) := by decide +kernel
theorem dX8_trade_68 : decode cX8_trade 68 = .ok (.getfield 7, 3) := by decide +kernel
theorem dX8_trade_71 : decode cX8_trade 71 = .ok (.bipush 7, 2) := by decide +kernel
theorem dX8_trade_73 : decode cX8_trade 73 = .ok (.laload, 1) := by decide +kernel
theorem dX8_trade_74 : decode cX8_trade 74 = .ok (.aload_n 0, 1) := by decide +kernel
theorem dX8_trade_75 : decode cX8_trade 75 = .ok (.invokevirtual 157, 3) := by decide +kernel
theorem dX8_trade_78 : decode cX8_trade 78 = .ok (.lsub, 1) := by decide +kernel
theorem dX8_trade_79 : decode cX8_trade 79 = .ok (.lmul, 1) := by decide +kernel
theorem dX8_trade_80 : decode cX8_trade 80 = .ok (.lstore_n 2, 1) := by decide +kernel
theorem dX8_trade_81 : decode cX8_trade 81 = .ok (.aload_n 0, 1) := by decide +kernel
theorem dX8_trade_82 : decode cX8_trade 82 = .ok (.getfield 7, 3) := by decide +kernel
theorem dX8_trade_85 : decode cX8_trade 85 = .ok (.bipush 6, 2) := by decide +kernel
theorem dX8_trade_87 : decode cX8_trade 87 = .ok (.laload, 1) := by decide +kernel
theorem dX8_trade_88 : decode cX8_trade 88 = .ok (.iload_n 1, 1) := by decide +kernel
theorem dX8_trade_89 : decode cX8_trade 89 = .ok (.i2l, 1) := by decide +kernel
theorem dX8_trade_90 : decode cX8_trade 90 = .ok (.ladd, 1) := by decide +kernel
theorem dX8_trade_91 : decode cX8_trade 91 = .ok (.lconst 0, 1) := by decide +kernel
theorem dX8_trade_92 : decode cX8_trade 92 = .ok (.lcmp, 1) := by decide +kernel
theorem dX8_trade_93 : decode cX8_trade 93 = .ok (.ifCond .lt 28, 3) := by decide +kernel
theorem dX8_trade_96 : decode cX8_trade 96 = .ok (.iload_n 1, 1) := by decide +kernel
theorem dX8_trade_97 : decode cX8_trade 97 = .ok (.ifCond .le 27, 3) := by decide +kernel
theorem dX8_trade_100 : decode cX8_trade 100 = .ok (.aload_n 0, 1) := by decide +kernel
theorem dX8_trade_101 : decode cX8_trade 101 = .ok (.getfield 7, 3) := by decide +kernel
theorem dX8_trade_104 : decode cX8_trade 104 = .ok (.iconst 5, 1) := by decide +kernel
theorem dX8_trade_105 : decode cX8_trade 105 = .ok (.laload, 1) := by decide +kernel
theorem dX8_trade_106 : decode cX8_trade 106 = .ok (.aload_n 0, 1) := by decide +kernel
theorem dX8_trade_107 : decode cX8_trade 107 = .ok (.getfield 7, 3) := by decide +kernel
theorem dX8_trade_110 : decode cX8_trade 110 = .ok (.bipush 8, 2) := by decide +kernel
theorem dX8_trade_112 : decode cX8_trade 112 = .ok (.laload, 1) := by decide +kernel
theorem dX8_trade_113 : decode cX8_trade 113 = .ok (.lsub, 1) := by decide +kernel
theorem dX8_trade_114 : decode cX8_trade 114 = .ok (.lload_n 2, 1) := by decide +kernel
theorem dX8_trade_115 : decode cX8_trade 115 = .ok (.ladd, 1) := by decide +kernel
theorem dX8_trade_116 : decode cX8_trade 116 = .ok (.lconst 0, 1) := by decide +kernel
theorem dX8_trade_117 : decode cX8_trade 117 = .ok (.lcmp, 1) := by decide +kernel
theorem dX8_trade_118 : decode cX8_trade 118 = .ok (.ifCond .ge 6, 3) := by decide +kernel
theorem dX8_trade_121 : decode cX8_trade 121 = .ok (.bipush (-5), 2) := by decide +kernel
theorem dX8_trade_123 : decode cX8_trade 123 = .ok (.ireturn, 1) := by decide +kernel
theorem dX8_trade_124 : decode cX8_trade 124 = .ok (.aload_n 0, 1) := by decide +kernel
theorem dX8_trade_125 : decode cX8_trade 125 = .ok (.invokevirtual 68, 3) := by decide +kernel
theorem dX8_trade_128 : decode cX8_trade 128 = .ok (.aload_n 0, 1) := by decide +kernel
theorem dX8_trade_129 : decode cX8_trade 129 = .ok (.getfield 7, 3) := by decide +kernel
theorem dX8_trade_132 : decode cX8_trade 132 = .ok (.bipush 6, 2) := by decide +kernel
theorem dX8_trade_134 : decode cX8_trade 134 = .ok (.dup2, 1) := by decide +kernel
theorem dX8_trade_135 : decode cX8_trade 135 = .ok (.laload, 1) := by decide +kernel
theorem dX8_trade_136 : decode cX8_trade 136 = .ok (.iload_n 1, 1) := by decide +kernel
theorem dX8_trade_137 : decode cX8_trade 137 = .ok (.i2l, 1) := by decide +kernel
theorem dX8_trade_138 : decode cX8_trade 138 = .ok (.ladd, 1) := by decide +kernel
theorem dX8_trade_139 : decode cX8_trade 139 = .ok (.lastore, 1) := by decide +kernel
theorem dX8_trade_140 : decode cX8_trade 140 = .ok (.aload_n 0, 1) := by decide +kernel
theorem dX8_trade_141 : decode cX8_trade 141 = .ok (.getfield 7, 3) := by decide +kernel
theorem dX8_trade_144 : decode cX8_trade 144 = .ok (.iconst 5, 1) := by decide +kernel
theorem dX8_trade_145 : decode cX8_trade 145 = .ok (.dup2, 1) := by decide +kernel
theorem dX8_trade_146 : decode cX8_trade 146 = .ok (.laload, 1) := by decide +kernel
theorem dX8_trade_147 : decode cX8_trade 147 = .ok (.lload_n 2, 1) := by decide +kernel
theorem dX8_trade_148 : decode cX8_trade 148 = .ok (.ladd, 1) := by decide +kernel
theorem dX8_trade_149 : decode cX8_trade 149 = .ok (.lastore, 1) := by decide +kernel
theorem dX8_trade_150 : decode cX8_trade 150 = .ok (.aload_n 0, 1) := by decide +kernel
theorem dX8_trade_151 : decode cX8_trade 151 = .ok (.getfield 7, 3) := by decide +kernel
theorem dX8_trade_154 : decode cX8_trade 154 = .ok (.bipush 6, 2) := by decide +kernel
theorem dX8_trade_156 : decode cX8_trade 156 = .ok (.laload, 1) := by decide +kernel
theorem dX8_trade_157 : decode cX8_trade 157 = .ok (.l2i, 1) := by decide +kernel
theorem dX8_trade_158 : decode cX8_trade 158 = .ok (.ireturn, 1) := by decide +kernel
theorem dX8_tryIncome_0 : decode cX8_tryIncome 0 = .ok (.iload_n 1, 1) := by decide +kernel
theorem dX8_tryIncome_1 : decode cX8_tryIncome 1 = .ok (.i2l, 1) := by decide +kernel
theorem dX8_tryIncome_2 : decode cX8_tryIncome 2 = .ok (.lconst 1, 1) := by decide +kernel
theorem dX8_tryIncome_3 : decode cX8_tryIncome 3 = .ok (.ldc2_w 108, 3) := by decide +kernel
theorem dX8_tryIncome_6 : decode cX8_tryIncome 6 = .ok (.invokestatic 53, 3) := by decide +kernel
theorem dX8_tryIncome_9 : decode cX8_tryIncome 9 = .ok (.ifCond .ne 6, 3) := by decide +kernel
theorem dX8_tryIncome_12 : decode cX8_tryIncome 12 = .ok (.bipush (-2), 2) := by decide +kernel
theorem dX8_tryIncome_14 : decode cX8_tryIncome 14 = .ok (.ireturn, 1) := by decide +kernel
theorem dX8_tryIncome_15 : decode cX8_tryIncome 15 = .ok (.aload_n 0, 1) := by decide +kernel
theorem dX8_tryIncome_16 : decode cX8_tryIncome 16 = .ok (.invokevirtual 75, 3) := by decide +kernel
theorem dX8_tryIncome_19 : decode cX8_tryIncome 19 = .ok (.lconst 0, 1) := by decide +kernel
theorem dX8_tryIncome_20 : decode cX8_tryIncome 20 = .ok (.lcmp, 1) := by decide +kernel
theorem dX8_tryIncome_21 : decode cX8_tryIncome 21 = .ok (.ifCond .ne 6, 3) := by decide +kernel
theorem dX8_tryIncome_24 : decode cX8_tryIncome 24 = .ok (.bipush (-5), 2) := by decide +kernel
theorem dX8_tryIncome_26 : decode cX8_tryIncome 26 = .ok (.ireturn, 1) := by decide +kernel
theorem dX8_tryIncome_27 : decode cX8_tryIncome 27 = .ok (.aload_n 0, 1) := by decide +kernel
theorem dX8_tryIncome_28 : decode cX8_tryIncome 28 = .ok (.iload_n 2, 1) := by decide +kernel
theorem dX8_tryIncome_29 : decode cX8_tryIncome 29 = .ok (.invokevirtual 114, 3) := by decide +kernel
theorem dX8_tryIncome_32 : decode cX8_tryIncome 32 = .ok (.aload_n 0, 1) := by decide +kernel
theorem dX8_tryIncome_33 : decode cX8_tryIncome 33 = .ok (.getfield 7, 3) := by decide +kernel
theorem dX8_tryIncome_36 : decode cX8_tryIncome 36 = .ok (.iconst 5, 1) := by decide +kernel
theorem dX8_tryIncome_37 : decode cX8_tryIncome 37 = .ok (.dup2, 1) := by decide +kernel
theorem dX8_tryIncome_38 : decode cX8_tryIncome 38 = .ok (.laload, 1) := by decide +kernel
theorem dX8_tryIncome_39 : decode cX8_tryIncome 39 = .ok (.iload_n 1, 1) := by decide +kernel
theorem dX8_tryIncome_40 : decode cX8_tryIncome 40 = .ok (.i2l, 1) := by decide +kernel
theorem dX8_tryIncome_41 : decode cX8_tryIncome 41 = .ok (.ladd, 1) := by decide +kernel
theorem dX8_tryIncome_42 : decode cX8_tryIncome 42 = .ok (.lastore, 1) := by decide +kernel
theorem dX8_tryIncome_43 : decode cX8_tryIncome 43 = .ok (.aload_n 0, 1) := by decide +kernel
theorem dX8_tryIncome_44 : decode cX8_tryIncome 44 = .ok (.getfield 7, 3) := by decide +kernel
theorem dX8_tryIncome_47 : decode cX8_tryIncome 47 = .ok (.bipush 8, 2) := by decide +kernel
theorem dX8_tryIncome_49 : decode cX8_tryIncome 49 = .ok (.dup2, 1) := by decide +kernel
theorem dX8_tryIncome_50 : decode cX8_tryIncome 50 = .ok (.laload, 1) := by decide +kernel
theorem dX8_tryIncome_51 : decode cX8_tryIncome 51 = .ok (.iload_n 1, 1) := by decide +kernel
theorem dX8_tryIncome_52 : decode cX8_tryIncome 52 = .ok (.i2l, 1) := by decide +kernel
theorem dX8_tryIncome_53 : decode cX8_tryIncome 53 = .ok (.ladd, 1) := by decide +kernel
theorem dX8_tryIncome_54 : decode cX8_tryIncome 54 = .ok (.lastore, 1) := by decide +kernel
theorem dX8_tryIncome_55 : decode cX8_tryIncome 55 = .ok (.aload_n 0, 1) := by decide +kernel
theorem dX8_tryIncome_56 : decode cX8_tryIncome 56 = .ok (.getfield 7, 3) := by decide +kernel
theorem dX8_tryIncome_59 : decode cX8_tryIncome 59 = .ok (.bipush 8, 2) := by decide +kernel
theorem dX8_tryIncome_61 : decode cX8_tryIncome 61 = .ok (.laload, 1) := by decide +kernel
theorem dX8_tryIncome_62 : decode cX8_tryIncome 62 = .ok (.l2i, 1) := by decide +kernel
theorem dX8_tryIncome_63 : decode cX8_tryIncome 63 = .ok (.ireturn, 1) := by decide +kernel
theorem dX8_income_0 : decode cX8_income 0 = .ok (.aload_n 0, 1) := by decide +kernel
theorem dX8_income_1 : decode cX8_income 1 = .ok (.iload_n 1, 1) := by decide +kernel
theorem dX8_income_2 : decode cX8_income 2 = .ok (.iconst 1, 1) := by decide +kernel
theorem dX8_income_3 : decode cX8_income 3 = .ok (.invokevirtual 202, 3) := by decide +kernel
theorem dX8_income_6 : decode cX8_income 6 = .ok (.ireturn, 1) := by decide +kernel
theorem dX8_tryPay_0 : decode cX8_tryPay 0 = .ok (.aload_n 0, 1) := by decide +kernel
theorem dX8_tryPay_1 : decode cX8_tryPay 1 = .ok (.iload_n 1, 1) := by decide +kernel
theorem dX8_tryPay_2 : decode cX8_tryPay 2 = .ok (.invokevirtual 114, 3) := by decide +kernel
theorem dX8_tryPay_5 : decode cX8_tryPay 5 = .ok (.aload_n 0, 1) := by decide +kernel
theorem dX8_tryPay_6 : decode cX8_tryPay 6 = .ok (.invokevirtual 132, 3) := by decide +kernel
theorem dX8_tryPay_9 : decode cX8_tryPay 9 = .ok (.lstore_n 2, 1) := by decide +kernel
theorem dX8_tryPay_10 : decode cX8_tryPay 10 = .ok (.aload_n 0, 1) := by decide +kernel
theorem dX8_tryPay_11 : decode cX8_tryPay 11 = .ok (.invokevirtual 97, 3) := by decide +kernel
theorem dX8_tryPay_14 : decode cX8_tryPay 14 = .ok (.lconst 0, 1) := by decide +kernel
theorem dX8_tryPay_15 : decode cX8_tryPay 15 = .ok (.lcmp, 1) := by decide +kernel
theorem dX8_tryPay_16 : decode cX8_tryPay 16 = .ok (.ifCond .ne 7, 3) := by decide +kernel
theorem dX8_tryPay_19 : decode cX8_tryPay 19 = .ok (.lconst 0, 1) := by decide +kernel
theorem dX8_tryPay_20 : decode cX8_tryPay 20 = .ok (.goto 19, 3) := by decide +kernel
theorem dX8_tryPay_23 : decode cX8_tryPay 23 = .ok (.ldc2_w 49, 3) := by decide +kernel
theorem dX8_tryPay_26 : decode cX8_tryPay 26 = .ok (.aload_n 0, 1) := by decide +kernel
theorem dX8_tryPay_27 : decode cX8_tryPay 27 = .ok (.getfield 7, 3) := by decide +kernel
theorem dX8_tryPay_30 : decode cX8_tryPay 30 = .ok (.bipush 9, 2) := by decide +kernel
theorem dX8_tryPay_32 : decode cX8_tryPay 32 = .ok (.laload, 1) := by decide +kernel
theorem dX8_tryPay_33 : decode cX8_tryPay 33 = .ok (.lmul, 1) := by decide +kernel
theorem dX8_tryPay_34 : decode cX8_tryPay 34 = .ok (.aload_n 0, 1) := by decide +kernel
theorem dX8_tryPay_35 : decode cX8_tryPay 35 = .ok (.invokevirtual 97, 3) := by decide +kernel
theorem dX8_tryPay_38 : decode cX8_tryPay 38 = .ok (.ldiv, 1) := by decide +kernel
theorem dX8_tryPay_39 : decode cX8_tryPay 39 = .ok (.lstore 4, 2) := by decide +kernel
theorem dX8_tryPay_41 : decode cX8_tryPay 41 = .ok (.lconst 0, 1) := by decide +kernel
theorem dX8_tryPay_42 : decode cX8_tryPay 42 = .ok (.lstore 6, 2) := by decide +kernel
theorem dX8_tryPay_44 : decode cX8_tryPay 44 = .ok (.iconst 0, 1) := by decide +kernel
theorem dX8_tryPay_45 : decode cX8_tryPay 45 = .ok (.istore 8, 2) := by decide +kernel
theorem dX8_tryPay_47 : decode cX8_tryPay 47 = .ok (.iload 8, 2) := by decide +kernel
theorem dX8_tryPay_49 : decode cX8_tryPay 49 = .ok (.bipush 6, 2) := by decide +kernel
theorem dX8_tryPay_51 : decode cX8_tryPay 51 = .ok (.if_icmp .ge 77, 3) := by decide +kernel
theorem dX8_tryPay_54 : decode cX8_tryPay 54 = .ok (.aload_n 0, 1) := by decide +kernel
theorem dX8_tryPay_55 : decode cX8_tryPay 55 = .ok (.iload 8, 2) := by decide +kernel
theorem dX8_tryPay_57 : decode cX8_tryPay 57 = .ok (.invokevirtual 71, 3) := by decide +kernel
theorem dX8_tryPay_60 : decode cX8_tryPay 60 = .ok (.lload_n 2, 1) := by decide +kernel
theorem dX8_tryPay_61 : decode cX8_tryPay 61 = .ok (.lmul, 1) := by decide +kernel
theorem dX8_tryPay_62 : decode cX8_tryPay 62 = .ok (.ldc2_w 49, 3) := by decide +kernel
theorem dX8_tryPay_65 : decode cX8_tryPay 65 = .ok (.ldiv, 1) := by decide +kernel
theorem dX8_tryPay_66 : decode cX8_tryPay 66 = .ok (.lstore 9, 2) := by decide +kernel
theorem dX8_tryPay_68 : decode cX8_tryPay 68 = .ok (.aload_n 0, 1) := by decide +kernel
theorem dX8_tryPay_69 : decode cX8_tryPay 69 = .ok (.iload 8, 2) := by decide +kernel
theorem dX8_tryPay_71 : decode cX8_tryPay 71 = .ok (.iconst 1, 1) := by decide +kernel
theorem dX8_tryPay_72 : decode cX8_tryPay 72 = .ok (.invokevirtual 57, 3) := by decide +kernel
theorem dX8_tryPay_75 : decode cX8_tryPay 75 = .ok (.lload 4, 2) := by decide +kernel
theorem dX8_tryPay_77 : decode cX8_tryPay 77 = .ok (.lmul, 1) := by decide +kernel
theorem dX8_tryPay_78 : decode cX8_tryPay 78 = .ok (.ldc2_w 49, 3) := by decide +kernel
theorem dX8_tryPay_81 : decode cX8_tryPay 81 = .ok (.ldiv, 1) := by decide +kernel
theorem dX8_tryPay_82 : decode cX8_tryPay 82 = .ok (.lstore 11, 2) := by decide +kernel
theorem dX8_tryPay_84 : decode cX8_tryPay 84 = .ok (.aload_n 0, 1) := by decide +kernel
theorem dX8_tryPay_85 : decode cX8_tryPay 85 = .ok (.iload 8, 2) := by decide +kernel
theorem dX8_tryPay_87 : decode cX8_tryPay 87 = .ok (.iconst 4, 1) := by decide +kernel
theorem dX8_tryPay_88 : decode cX8_tryPay 88 = .ok (.lload 9, 2) := by decide +kernel
theorem dX8_tryPay_90 : decode cX8_tryPay 90 = .ok (.invokevirtual 90, 3) := by decide +kernel
theorem dX8_tryPay_93 : decode cX8_tryPay 93 = .ok (.aload_n 0, 1) := by decide +kernel
theorem dX8_tryPay_94 : decode cX8_tryPay 94 = .ok (.iload 8, 2) := by decide +kernel
theorem dX8_tryPay_96 : decode cX8_tryPay 96 = .ok (.iconst 5, 1) := by decide +kernel
theorem dX8_tryPay_97 : decode cX8_tryPay 97 = .ok (.lload 11, 2) := by decide +kernel
theorem dX8_tryPay_99 : decode cX8_tryPay 99 = .ok (.lload 9, 2) := by decide +kernel
theorem dX8_tryPay_101 : decode cX8_tryPay 101 = .ok (.lcmp, 1) := by decide +kernel
theorem dX8_tryPay_102 : decode cX8_tryPay 102 = .ok (.ifCond .ge 8, 3) := by decide +kernel
