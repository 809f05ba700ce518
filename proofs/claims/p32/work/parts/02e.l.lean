theorem dL_used_0 : decode cL_used 0 = .ok (.iconst 0, 1) := by decide +kernel
theorem dL_used_1 : decode cL_used 1 = .ok (.istore_n 1, 1) := by decide +kernel
theorem dL_used_2 : decode cL_used 2 = .ok (.iconst 0, 1) := by decide +kernel
theorem dL_used_3 : decode cL_used 3 = .ok (.istore_n 2, 1) := by decide +kernel
theorem dL_used_4 : decode cL_used 4 = .ok (.iload_n 2, 1) := by decide +kernel
theorem dL_used_5 : decode cL_used 5 = .ok (.bipush 32, 2) := by decide +kernel
theorem dL_used_7 : decode cL_used 7 = .ok (.if_icmp .ge 15, 3) := by decide +kernel
theorem dL_used_10 : decode cL_used 10 = .ok (.iload_n 1, 1) := by decide +kernel
theorem dL_used_11 : decode cL_used 11 = .ok (.aload_n 0, 1) := by decide +kernel
theorem dL_used_12 : decode cL_used 12 = .ok (.iload_n 2, 1) := by decide +kernel
theorem dL_used_13 : decode cL_used 13 = .ok (.iaload, 1) := by decide +kernel
theorem dL_used_14 : decode cL_used 14 = .ok (.iadd, 1) := by decide +kernel
theorem dL_used_15 : decode cL_used 15 = .ok (.istore_n 1, 1) := by decide +kernel
theorem dL_used_16 : decode cL_used 16 = .ok (.iinc 2 1, 3) := by decide +kernel
theorem dL_used_19 : decode cL_used 19 = .ok (.goto (-15), 3) := by decide +kernel
theorem dL_used_22 : decode cL_used 22 = .ok (.iload_n 1, 1) := by decide +kernel
theorem dL_used_23 : decode cL_used 23 = .ok (.ireturn, 1) := by decide +kernel
theorem dL_takeOut_0 : decode cL_takeOut 0 = .ok (.iconst 0, 1) := by decide +kernel
theorem dL_takeOut_1 : decode cL_takeOut 1 = .ok (.istore_n 3, 1) := by decide +kernel
theorem dL_takeOut_2 : decode cL_takeOut 2 = .ok (.iconst 0, 1) := by decide +kernel
theorem dL_takeOut_3 : decode cL_takeOut 3 = .ok (.istore 4, 2) := by decide +kernel
theorem dL_takeOut_5 : decode cL_takeOut 5 = .ok (.iload 4, 2) := by decide +kernel
theorem dL_takeOut_7 : decode cL_takeOut 7 = .ok (.aload_n 1, 1) := by decide +kernel
theorem dL_takeOut_8 : decode cL_takeOut 8 = .ok (.iconst 3, 1) := by decide +kernel
theorem dL_takeOut_9 : decode cL_takeOut 9 = .ok (.iaload, 1) := by decide +kernel
theorem dL_takeOut_10 : decode cL_takeOut 10 = .ok (.if_icmp .ge 32, 3) := by decide +kernel
theorem dL_takeOut_13 : decode cL_takeOut 13 = .ok (.aload_n 0, 1) := by decide +kernel
theorem dL_takeOut_14 : decode cL_takeOut 14 = .ok (.iload_n 3, 1) := by decide +kernel
theorem dL_takeOut_15 : decode cL_takeOut 15 = .ok (.aload_n 0, 1) := by decide +kernel
theorem dL_takeOut_16 : decode cL_takeOut 16 = .ok (.iload 4, 2) := by decide +kernel
theorem dL_takeOut_18 : decode cL_takeOut 18 = .ok (.iaload, 1) := by decide +kernel
theorem dL_takeOut_19 : decode cL_takeOut 19 = .ok (.iastore, 1) := by decide +kernel
theorem dL_takeOut_20 : decode cL_takeOut 20 = .ok (.iload_n 3, 1) := by decide +kernel
theorem dL_takeOut_21 : decode cL_takeOut 21 = .ok (.aload_n 0, 1) := by decide +kernel
theorem dL_takeOut_22 : decode cL_takeOut 22 = .ok (.iload 4, 2) := by decide +kernel
theorem dL_takeOut_24 : decode cL_takeOut 24 = .ok (.iaload, 1) := by decide +kernel
theorem dL_takeOut_25 : decode cL_takeOut 25 = .ok (.iload_n 2, 1) := by decide +kernel
theorem dL_takeOut_26 : decode cL_takeOut 26 = .ok (.if_icmp .ne 7, 3) := by decide +kernel
theorem dL_takeOut_29 : decode cL_takeOut 29 = .ok (.iconst 0, 1) := by decide +kernel
theorem dL_takeOut_30 : decode cL_takeOut 30 = .ok (.goto 4, 3) := by decide +kernel
theorem dL_takeOut_33 : decode cL_takeOut 33 = .ok (.iconst 1, 1) := by decide +kernel
theorem dL_takeOut_34 : decode cL_takeOut 34 = .ok (.iadd, 1) := by decide +kernel
theorem dL_takeOut_35 : decode cL_takeOut 35 = .ok (.istore_n 3, 1) := by decide +kernel
theorem dL_takeOut_36 : decode cL_takeOut 36 = .ok (.iinc 4 1, 3) := by decide +kernel
theorem dL_takeOut_39 : decode cL_takeOut 39 = .ok (.goto (-34), 3) := by decide +kernel
theorem dL_takeOut_42 : decode cL_takeOut 42 = .ok (.aload_n 1, 1) := by decide +kernel
theorem dL_takeOut_43 : decode cL_takeOut 43 = .ok (.iconst 3, 1) := by decide +kernel
theorem dL_takeOut_44 : decode cL_takeOut 44 = .ok (.iload_n 3, 1) := by decide +kernel
theorem dL_takeOut_45 : decode cL_takeOut 45 = .ok (.iastore, 1) := by decide +kernel
theorem dL_takeOut_46 : decode cL_takeOut 46 = .ok (.return_, 1) := by decide +kernel
theorem dL_putIn_0 : decode cL_putIn 0 = .ok (.aload_n 1, 1) := by decide +kernel
theorem dL_putIn_1 : decode cL_putIn 1 = .ok (.iconst 3, 1) := by decide +kernel
theorem dL_putIn_2 : decode cL_putIn 2 = .ok (.iaload, 1) := by decide +kernel
theorem dL_putIn_3 : decode cL_putIn 3 = .ok (.istore 4, 2) := by decide +kernel
theorem dL_putIn_5 : decode cL_putIn 5 = .ok (.iload 4, 2) := by decide +kernel
theorem dL_putIn_7 : decode cL_putIn 7 = .ok (.ifCond .le 70, 3) := by decide +kernel
theorem dL_putIn_10 : decode cL_putIn 10 = .ok (.aload_n 2, 1) := by decide +kernel
theorem dL_putIn_11 : decode cL_putIn 11 = .ok (.aload_n 0, 1) := by decide +kernel
theorem dL_putIn_12 : decode cL_putIn 12 = .ok (.iload 4, 2) := by decide +kernel
theorem dL_putIn_14 : decode cL_putIn 14 = .ok (.iconst 1, 1) := by decide +kernel
theorem dL_putIn_15 : decode cL_putIn 15 = .ok (.isub, 1) := by decide +kernel
theorem dL_putIn_16 : decode cL_putIn 16 = .ok (.iaload, 1) := by decide +kernel
theorem dL_putIn_17 : decode cL_putIn 17 = .ok (.laload, 1) := by decide +kernel
theorem dL_putIn_18 : decode cL_putIn 18 = .ok (.aload_n 2, 1) := by decide +kernel
theorem dL_putIn_19 : decode cL_putIn 19 = .ok (.iload_n 3, 1) := by decide +kernel
theorem dL_putIn_20 : decode cL_putIn 20 = .ok (.laload, 1) := by decide +kernel
theorem dL_putIn_21 : decode cL_putIn 21 = .ok (.lcmp, 1) := by decide +kernel
theorem dL_putIn_22 : decode cL_putIn 22 = .ok (.ifCond .gt 39, 3) := by decide +kernel
theorem dL_putIn_25 : decode cL_putIn 25 = .ok (.aload_n 2, 1) := by decide +kernel
theorem dL_putIn_26 : decode cL_putIn 26 = .ok (.aload_n 0, 1) := by decide +kernel
theorem dL_putIn_27 : decode cL_putIn 27 = .ok (.iload 4, 2) := by decide +kernel
theorem dL_putIn_29 : decode cL_putIn 29 = .ok (.iconst 1, 1) := by decide +kernel
theorem dL_putIn_30 : decode cL_putIn 30 = .ok (.isub, 1) := by decide +kernel
theorem dL_putIn_31 : decode cL_putIn 31 = .ok (.iaload, 1) := by decide +kernel
theorem dL_putIn_32 : decode cL_putIn 32 = .ok (.laload, 1) := by decide +kernel
theorem dL_putIn_33 : decode cL_putIn 33 = .ok (.aload_n 2, 1) := by decide +kernel
theorem dL_putIn_34 : decode cL_putIn 34 = .ok (.iload_n 3, 1) := by decide +kernel
theorem dL_putIn_35 : decode cL_putIn 35 = .ok (.laload, 1) := by decide +kernel
theorem dL_putIn_36 : decode cL_putIn 36 = .ok (.lcmp, 1) := by decide +kernel
theorem dL_putIn_37 : decode cL_putIn 37 = .ok (.ifCond .ne 40, 3) := by decide +kernel
theorem dL_putIn_40 : decode cL_putIn 40 = .ok (.aload_n 2, 1) := by decide +kernel
theorem dL_putIn_41 : decode cL_putIn 41 = .ok (.bipush 32, 2) := by decide +kernel
theorem dL_putIn_43 : decode cL_putIn 43 = .ok (.aload_n 0, 1) := by decide +kernel
theorem dL_putIn_44 : decode cL_putIn 44 = .ok (.iload 4, 2) := by decide +kernel
theorem dL_putIn_46 : decode cL_putIn 46 = .ok (.iconst 1, 1) := by decide +kernel
theorem dL_putIn_47 : decode cL_putIn 47 = .ok (.isub, 1) := by decide +kernel
theorem dL_putIn_48 : decode cL_putIn 48 = .ok (.iaload, 1) := by decide +kernel
theorem dL_putIn_49 : decode cL_putIn 49 = .ok (.iadd, 1) := by decide +kernel
theorem dL_putIn_50 : decode cL_putIn 50 = .ok (.laload, 1) := by decide +kernel
theorem dL_putIn_51 : decode cL_putIn 51 = .ok (.aload_n 2, 1) := by decide +kernel
theorem dL_putIn_52 : decode cL_putIn 52 = .ok (.bipush 32, 2) := by decide +kernel
theorem dL_putIn_54 : decode cL_putIn 54 = .ok (.iload_n 3, 1) := by decide +kernel
theorem dL_putIn_55 : decode cL_putIn 55 = .ok (.iadd, 1) := by decide +kernel
theorem dL_putIn_56 : decode cL_putIn 56 = .ok (.laload, 1) := by decide +kernel
theorem dL_putIn_57 : decode cL_putIn 57 = .ok (.lcmp, 1) := by decide +kernel
theorem dL_putIn_58 : decode cL_putIn 58 = .ok (.ifCond .le 19, 3) := by decide +kernel
theorem dL_putIn_61 : decode cL_putIn 61 = .ok (.aload_n 0, 1) := by decide +kernel
theorem dL_putIn_62 : decode cL_putIn 62 = .ok (.iload 4, 2) := by decide +kernel
theorem dL_putIn_64 : decode cL_putIn 64 = .ok (.aload_n 0, 1) := by decide +kernel
theorem dL_putIn_65 : decode cL_putIn 65 = .ok (.iload 4, 2) := by decide +kernel
theorem dL_putIn_67 : decode cL_putIn 67 = .ok (.iconst 1, 1) := by decide +kernel
theorem dL_putIn_68 : decode cL_putIn 68 = .ok (.isub, 1) := by decide +kernel
theorem dL_putIn_69 : decode cL_putIn 69 = .ok (.iaload, 1) := by decide +kernel
theorem dL_putIn_70 : decode cL_putIn 70 = .ok (.iastore, 1) := by decide +kernel
theorem dL_putIn_71 : decode cL_putIn 71 = .ok (.iinc 4 (-1), 3) := by decide +kernel
theorem dL_putIn_74 : decode cL_putIn 74 = .ok (.goto (-69), 3) := by decide +kernel
theorem dL_putIn_77 : decode cL_putIn 77 = .ok (.aload_n 0, 1) := by decide +kernel
theorem dL_putIn_78 : decode cL_putIn 78 = .ok (.iload 4, 2) := by decide +kernel
theorem dL_putIn_80 : decode cL_putIn 80 = .ok (.iload_n 3, 1) := by decide +kernel
theorem dL_putIn_81 : decode cL_putIn 81 = .ok (.iastore, 1) := by decide +kernel
theorem dL_putIn_82 : decode cL_putIn 82 = .ok (.aload_n 1, 1) := by decide +kernel
theorem dL_putIn_83 : decode cL_putIn 83 = .ok (.iconst 3, 1) := by decide +kernel
theorem dL_putIn_84 : decode cL_putIn 84 = .ok (.dup2, 1) := by decide +kernel
theorem dL_putIn_85 : decode cL_putIn 85 = .ok (.iaload, 1) := by decide +kernel
theorem dL_putIn_86 : decode cL_putIn 86 = .ok (.iconst 1, 1) := by decide +kernel
theorem dL_putIn_87 : decode cL_putIn 87 = .ok (.iadd, 1) := by decide +kernel
theorem dL_putIn_88 : decode cL_putIn 88 = .ok (.iastore, 1) := by decide +kernel
theorem dL_putIn_89 : decode cL_putIn 89 = .ok (.return_, 1) := by decide +kernel
set_option maxRecDepth 20000 in
theorem ggL_removes_L_takeOut : GoodIn wsL_removes wsL_takeOut := goodIn_r _ [4] (by decide +kernel) (by decide +kernel)
set_option maxRecDepth 20000 in
theorem gL_removes_L_takeOut : GoodIn wsL_removes (va_wsS RL 7 yL_takeOut wsL_takeOut) := goodIn_app (goodIn_of _ (by decide +kernel)) ggL_removes_L_takeOut
theorem dL_removes_0 : decode cL_removes 0 = .ok (.aload_n 0, 1) := by decide +kernel
theorem dL_removes_1 : decode cL_removes 1 = .ok (.iload_n 3, 1) := by decide +kernel
theorem dL_removes_2 : decode cL_removes 2 = .ok (.iconst 0, 1) := by decide +kernel
theorem dL_removes_3 : decode cL_removes 3 = .ok (.iastore, 1) := by decide +kernel
theorem dL_removes_4 : decode cL_removes 4 = .ok (.aload_n 1, 1) := by decide +kernel
theorem dL_removes_5 : decode cL_removes 5 = .ok (.aload_n 2, 1) := by decide +kernel
theorem dL_removes_6 : decode cL_removes 6 = .ok (.iload_n 3, 1) := by decide +kernel
theorem dL_removes_7 : decode cL_removes 7 = .ok (.invokestatic 7, 3) := by decide +kernel
theorem dL_removes_10 : decode cL_removes 10 = .ok (.return_, 1) := by decide +kernel
set_option maxRecDepth 20000 in
theorem ggL_clears_L_removes : GoodIn wsL_clears wsL_removes := goodIn_r _ [4, 5, 6, 3, 7] (by decide +kernel) (by decide +kernel)
set_option maxRecDepth 20000 in
theorem gL_clears_L_removes : GoodIn wsL_clears (va_wsS RL 13 yL_removes wsL_removes) := goodIn_app (goodIn_of _ (by decide +kernel)) ggL_clears_L_removes
theorem dL_clears_0 : decode cL_clears 0 = .ok (.iconst 0, 1) := by decide +kernel
theorem dL_clears_1 : decode cL_clears 1 = .ok (.istore 4, 2) := by decide +kernel
theorem dL_clears_3 : decode cL_clears 3 = .ok (.iconst 0, 1) := by decide +kernel
theorem dL_clears_4 : decode cL_clears 4 = .ok (.istore 5, 2) := by decide +kernel
theorem dL_clears_6 : decode cL_clears 6 = .ok (.iload 5, 2) := by decide +kernel
theorem dL_clears_8 : decode cL_clears 8 = .ok (.bipush 32, 2) := by decide +kernel
theorem dL_clears_10 : decode cL_clears 10 = .ok (.if_icmp .ge 37, 3) := by decide +kernel
theorem dL_clears_13 : decode cL_clears 13 = .ok (.aload_n 0, 1) := by decide +kernel
theorem dL_clears_14 : decode cL_clears 14 = .ok (.iload 5, 2) := by decide +kernel
theorem dL_clears_16 : decode cL_clears 16 = .ok (.iaload, 1) := by decide +kernel
theorem dL_clears_17 : decode cL_clears 17 = .ok (.ifCond .le 24, 3) := by decide +kernel
theorem dL_clears_20 : decode cL_clears 20 = .ok (.aload_n 1, 1) := by decide +kernel
theorem dL_clears_21 : decode cL_clears 21 = .ok (.iload 5, 2) := by decide +kernel
theorem dL_clears_23 : decode cL_clears 23 = .ok (.iaload, 1) := by decide +kernel
theorem dL_clears_24 : decode cL_clears 24 = .ok (.aload_n 3, 1) := by decide +kernel
theorem dL_clears_25 : decode cL_clears 25 = .ok (.iconst 0, 1) := by decide +kernel
theorem dL_clears_26 : decode cL_clears 26 = .ok (.iaload, 1) := by decide +kernel
theorem dL_clears_27 : decode cL_clears 27 = .ok (.if_icmp .gt 14, 3) := by decide +kernel
theorem dL_clears_30 : decode cL_clears 30 = .ok (.aload_n 0, 1) := by decide +kernel
theorem dL_clears_31 : decode cL_clears 31 = .ok (.aload_n 2, 1) := by decide +kernel
theorem dL_clears_32 : decode cL_clears 32 = .ok (.aload_n 3, 1) := by decide +kernel
theorem dL_clears_33 : decode cL_clears 33 = .ok (.iload 5, 2) := by decide +kernel
theorem dL_clears_35 : decode cL_clears 35 = .ok (.invokestatic 13, 3) := by decide +kernel
theorem dL_clears_38 : decode cL_clears 38 = .ok (.iinc 4 1, 3) := by decide +kernel
theorem dL_clears_41 : decode cL_clears 41 = .ok (.iinc 5 1, 3) := by decide +kernel
theorem dL_clears_44 : decode cL_clears 44 = .ok (.goto (-38), 3) := by decide +kernel
theorem dL_clears_47 : decode cL_clears 47 = .ok (.aload_n 3, 1) := by decide +kernel
theorem dL_clears_48 : decode cL_clears 48 = .ok (.bipush 7, 2) := by decide +kernel
theorem dL_clears_50 : decode cL_clears 50 = .ok (.dup2, 1) := by decide +kernel
theorem dL_clears_51 : decode cL_clears 51 = .ok (.iaload, 1) := by decide +kernel
theorem dL_clears_52 : decode cL_clears 52 = .ok (.iload 4, 2) := by decide +kernel
theorem dL_clears_54 : decode cL_clears 54 = .ok (.iadd, 1) := by decide +kernel
theorem dL_clears_55 : decode cL_clears 55 = .ok (.iastore, 1) := by decide +kernel
theorem dL_clears_56 : decode cL_clears 56 = .ok (.iload 4, 2) := by decide +kernel
theorem dL_clears_58 : decode cL_clears 58 = .ok (.ireturn, 1) := by decide +kernel
set_option maxRecDepth 20000 in
theorem ggL_leaves_L_removes : GoodIn wsL_leaves wsL_removes := goodIn_r _ [4, 5, 6, 3, 7] (by decide +kernel) (by decide +kernel)
set_option maxRecDepth 20000 in
theorem gL_leaves_L_removes : GoodIn wsL_leaves (va_wsS RL 13 yL_removes wsL_removes) := goodIn_app (goodIn_of _ (by decide +kernel)) ggL_leaves_L_removes
theorem dL_leaves_0 : decode cL_leaves 0 = .ok (.aload_n 1, 1) := by decide +kernel
theorem dL_leaves_1 : decode cL_leaves 1 = .ok (.iconst 0, 1) := by decide +kernel
theorem dL_leaves_2 : decode cL_leaves 2 = .ok (.iaload, 1) := by decide +kernel
theorem dL_leaves_3 : decode cL_leaves 3 = .ok (.istore 5, 2) := by decide +kernel
theorem dL_leaves_5 : decode cL_leaves 5 = .ok (.aload 4, 2) := by decide +kernel
theorem dL_leaves_7 : decode cL_leaves 7 = .ok (.iconst 0, 1) := by decide +kernel
theorem dL_leaves_8 : decode cL_leaves 8 = .ok (.aload_n 3, 1) := by decide +kernel
theorem dL_leaves_9 : decode cL_leaves 9 = .ok (.iload 5, 2) := by decide +kernel
theorem dL_leaves_11 : decode cL_leaves 11 = .ok (.laload, 1) := by decide +kernel
theorem dL_leaves_12 : decode cL_leaves 12 = .ok (.aload 4, 2) := by decide +kernel
theorem dL_leaves_14 : decode cL_leaves 14 = .ok (.iconst 0, 1) := by decide +kernel
theorem dL_leaves_15 : decode cL_leaves 15 = .ok (.laload, 1) := by decide +kernel
theorem dL_leaves_16 : decode cL_leaves 16 = .ok (.lcmp, 1) := by decide +kernel
theorem dL_leaves_17 : decode cL_leaves 17 = .ok (.ifCond .le 10, 3) := by decide +kernel
theorem dL_leaves_20 : decode cL_leaves 20 = .ok (.aload_n 3, 1) := by decide +kernel
theorem dL_leaves_21 : decode cL_leaves 21 = .ok (.iload 5, 2) := by decide +kernel
theorem dL_leaves_23 : decode cL_leaves 23 = .ok (.laload, 1) := by decide +kernel
theorem dL_leaves_24 : decode cL_leaves 24 = .ok (.goto 7, 3) := by decide +kernel
theorem dL_leaves_27 : decode cL_leaves 27 = .ok (.aload 4, 2) := by decide +kernel
theorem dL_leaves_29 : decode cL_leaves 29 = .ok (.iconst 0, 1) := by decide +kernel
theorem dL_leaves_30 : decode cL_leaves 30 = .ok (.laload, 1) := by decide +kernel
theorem dL_leaves_31 : decode cL_leaves 31 = .ok (.lastore, 1) := by decide +kernel
theorem dL_leaves_32 : decode cL_leaves 32 = .ok (.aload_n 2, 1) := by decide +kernel
theorem dL_leaves_33 : decode cL_leaves 33 = .ok (.bipush 6, 2) := by decide +kernel
theorem dL_leaves_35 : decode cL_leaves 35 = .ok (.dup2, 1) := by decide +kernel
theorem dL_leaves_36 : decode cL_leaves 36 = .ok (.iaload, 1) := by decide +kernel
theorem dL_leaves_37 : decode cL_leaves 37 = .ok (.iconst 1, 1) := by decide +kernel
theorem dL_leaves_38 : decode cL_leaves 38 = .ok (.iadd, 1) := by decide +kernel
theorem dL_leaves_39 : decode cL_leaves 39 = .ok (.iastore, 1) := by decide +kernel
theorem dL_leaves_40 : decode cL_leaves 40 = .ok (.aload_n 0, 1) := by decide +kernel
theorem dL_leaves_41 : decode cL_leaves 41 = .ok (.aload_n 1, 1) := by decide +kernel
theorem dL_leaves_42 : decode cL_leaves 42 = .ok (.aload_n 2, 1) := by decide +kernel
theorem dL_leaves_43 : decode cL_leaves 43 = .ok (.iload 5, 2) := by decide +kernel
theorem dL_leaves_45 : decode cL_leaves 45 = .ok (.invokestatic 13, 3) := by decide +kernel
theorem dL_leaves_48 : decode cL_leaves 48 = .ok (.return_, 1) := by decide +kernel
set_option maxRecDepth 20000 in
theorem ggL_counts_L_takeOut : GoodIn wsL_counts wsL_takeOut := goodIn_r _ [5] (by decide +kernel) (by decide +kernel)
set_option maxRecDepth 20000 in
theorem gL_counts_L_takeOut : GoodIn wsL_counts (va_wsS RL 7 yL_takeOut wsL_takeOut) := goodIn_app (goodIn_of _ (by decide +kernel)) ggL_counts_L_takeOut
theorem dL_counts_0 : decode cL_counts 0 = .ok (.aload_n 2, 1) := by decide +kernel
theorem dL_counts_1 : decode cL_counts 1 = .ok (.aload_n 3, 1) := by decide +kernel
theorem dL_counts_2 : decode cL_counts 2 = .ok (.iload 6, 2) := by decide +kernel
theorem dL_counts_4 : decode cL_counts 4 = .ok (.invokestatic 7, 3) := by decide +kernel
theorem dL_counts_7 : decode cL_counts 7 = .ok (.aload 4, 2) := by decide +kernel
theorem dL_counts_9 : decode cL_counts 9 = .ok (.iload 6, 2) := by decide +kernel
theorem dL_counts_11 : decode cL_counts 11 = .ok (.aload 5, 2) := by decide +kernel
theorem dL_counts_13 : decode cL_counts 13 = .ok (.iconst 0, 1) := by decide +kernel
theorem dL_counts_14 : decode cL_counts 14 = .ok (.laload, 1) := by decide +kernel
theorem dL_counts_15 : decode cL_counts 15 = .ok (.ldc2_w 17, 3) := by decide +kernel
theorem dL_counts_18 : decode cL_counts 18 = .ok (.iload 7, 2) := by decide +kernel
theorem dL_counts_20 : decode cL_counts 20 = .ok (.i2l, 1) := by decide +kernel
theorem dL_counts_21 : decode cL_counts 21 = .ok (.lmul, 1) := by decide +kernel
theorem dL_counts_22 : decode cL_counts 22 = .ok (.aload_n 1, 1) := by decide +kernel
theorem dL_counts_23 : decode cL_counts 23 = .ok (.iload 6, 2) := by decide +kernel
theorem dL_counts_25 : decode cL_counts 25 = .ok (.iaload, 1) := by decide +kernel
theorem dL_counts_26 : decode cL_counts 26 = .ok (.i2l, 1) := by decide +kernel
theorem dL_counts_27 : decode cL_counts 27 = .ok (.lmul, 1) := by decide +kernel
theorem dL_counts_28 : decode cL_counts 28 = .ok (.aload_n 0, 1) := by decide +kernel
theorem dL_counts_29 : decode cL_counts 29 = .ok (.iload 6, 2) := by decide +kernel
theorem dL_counts_31 : decode cL_counts 31 = .ok (.iaload, 1) := by decide +kernel
theorem dL_counts_32 : decode cL_counts 32 = .ok (.i2l, 1) := by decide +kernel
theorem dL_counts_33 : decode cL_counts 33 = .ok (.ldiv, 1) := by decide +kernel
theorem dL_counts_34 : decode cL_counts 34 = .ok (.ladd, 1) := by decide +kernel
theorem dL_counts_35 : decode cL_counts 35 = .ok (.lastore, 1) := by decide +kernel
theorem dL_counts_36 : decode cL_counts 36 = .ok (.aload 5, 2) := by decide +kernel
theorem dL_counts_38 : decode cL_counts 38 = .ok (.iconst 4, 1) := by decide +kernel
theorem dL_counts_39 : decode cL_counts 39 = .ok (.dup2, 1) := by decide +kernel
theorem dL_counts_40 : decode cL_counts 40 = .ok (.laload, 1) := by decide +kernel
theorem dL_counts_41 : decode cL_counts 41 = .ok (.lconst 1, 1) := by decide +kernel
theorem dL_counts_42 : decode cL_counts 42 = .ok (.ladd, 1) := by decide +kernel
theorem dL_counts_43 : decode cL_counts 43 = .ok (.lastore, 1) := by decide +kernel
theorem dL_counts_44 : decode cL_counts 44 = .ok (.aload 4, 2) := by decide +kernel
theorem dL_counts_46 : decode cL_counts 46 = .ok (.bipush 32, 2) := by decide +kernel
theorem dL_counts_48 : decode cL_counts 48 = .ok (.iload 6, 2) := by decide +kernel
theorem dL_counts_50 : decode cL_counts 50 = .ok (.iadd, 1) := by decide +kernel
theorem dL_counts_51 : decode cL_counts 51 = .ok (.aload 5, 2) := by decide +kernel
theorem dL_counts_53 : decode cL_counts 53 = .ok (.iconst 4, 1) := by decide +kernel
theorem dL_counts_54 : decode cL_counts 54 = .ok (.laload, 1) := by decide +kernel
theorem dL_counts_55 : decode cL_counts 55 = .ok (.lastore, 1) := by decide +kernel
theorem dL_counts_56 : decode cL_counts 56 = .ok (.return_, 1) := by decide +kernel
theorem dL_pinned_0 : decode cL_pinned 0 = .ok (.iconst 0, 1) := by decide +kernel
theorem dL_pinned_1 : decode cL_pinned 1 = .ok (.istore 5, 2) := by decide +kernel
theorem dL_pinned_3 : decode cL_pinned 3 = .ok (.iconst 0, 1) := by decide +kernel
theorem dL_pinned_4 : decode cL_pinned 4 = .ok (.istore 6, 2) := by decide +kernel
theorem dL_pinned_6 : decode cL_pinned 6 = .ok (.iload 6, 2) := by decide +kernel
theorem dL_pinned_8 : decode cL_pinned 8 = .ok (.bipush 32, 2) := by decide +kernel
theorem dL_pinned_10 : decode cL_pinned 10 = .ok (.if_icmp .ge 45, 3) := by decide +kernel
theorem dL_pinned_13 : decode cL_pinned 13 = .ok (.iload 5, 2) := by decide +kernel
theorem dL_pinned_15 : decode cL_pinned 15 = .ok (.aload_n 2, 1) := by decide +kernel
theorem dL_pinned_16 : decode cL_pinned 16 = .ok (.iload 6, 2) := by decide +kernel
theorem dL_pinned_18 : decode cL_pinned 18 = .ok (.iaload, 1) := by decide +kernel
theorem dL_pinned_19 : decode cL_pinned 19 = .ok (.iconst 1, 1) := by decide +kernel
theorem dL_pinned_20 : decode cL_pinned 20 = .ok (.if_icmp .ne 25, 3) := by decide +kernel
theorem dL_pinned_23 : decode cL_pinned 23 = .ok (.iload 4, 2) := by decide +kernel
theorem dL_pinned_25 : decode cL_pinned 25 = .ok (.ifCond .ne 13, 3) := by decide +kernel
theorem dL_pinned_28 : decode cL_pinned 28 = .ok (.aload_n 1, 1) := by decide +kernel
theorem dL_pinned_29 : decode cL_pinned 29 = .ok (.iload 6, 2) := by decide +kernel
theorem dL_pinned_31 : decode cL_pinned 31 = .ok (.iaload, 1) := by decide +kernel
theorem dL_pinned_32 : decode cL_pinned 32 = .ok (.aload_n 3, 1) := by decide +kernel
theorem dL_pinned_33 : decode cL_pinned 33 = .ok (.iconst 0, 1) := by decide +kernel
theorem dL_pinned_34 : decode cL_pinned 34 = .ok (.iaload, 1) := by decide +kernel
theorem dL_pinned_35 : decode cL_pinned 35 = .ok (.if_icmp .le 10, 3) := by decide +kernel
theorem dL_pinned_38 : decode cL_pinned 38 = .ok (.aload_n 0, 1) := by decide +kernel
theorem dL_pinned_39 : decode cL_pinned 39 = .ok (.iload 6, 2) := by decide +kernel
theorem dL_pinned_41 : decode cL_pinned 41 = .ok (.iaload, 1) := by decide +kernel
theorem dL_pinned_42 : decode cL_pinned 42 = .ok (.goto 4, 3) := by decide +kernel
theorem dL_pinned_45 : decode cL_pinned 45 = .ok (.iconst 0, 1) := by decide +kernel
theorem dL_pinned_46 : decode cL_pinned 46 = .ok (.iadd, 1) := by decide +kernel
theorem dL_pinned_47 : decode cL_pinned 47 = .ok (.istore 5, 2) := by decide +kernel
theorem dL_pinned_49 : decode cL_pinned 49 = .ok (.iinc 6 1, 3) := by decide +kernel
theorem dL_pinned_52 : decode cL_pinned 52 = .ok (.goto (-46), 3) := by decide +kernel
theorem dL_pinned_55 : decode cL_pinned 55 = .ok (.iload 5, 2) := by decide +kernel
theorem dL_pinned_57 : decode cL_pinned 57 = .ok (.ireturn, 1) := by decide +kernel
set_option maxRecDepth 20000 in
theorem ggL_fetches_L_counts : GoodIn wsL_fetches wsL_counts := goodIn_r _ [4, 5, 6, 7, 3, 8] (by decide +kernel) (by decide +kernel)
set_option maxRecDepth 20000 in
theorem gL_fetches_L_counts : GoodIn wsL_fetches (va_wsS RL 19 yL_counts wsL_counts) := goodIn_app (goodIn_of _ (by decide +kernel)) ggL_fetches_L_counts
set_option maxRecDepth 20000 in
theorem ggL_fetches_L_putIn : GoodIn wsL_fetches wsL_putIn := goodIn_r _ [11] (by decide +kernel) (by decide +kernel)
set_option maxRecDepth 20000 in
theorem gL_fetches_L_putIn : GoodIn wsL_fetches (va_wsS RL 23 yL_putIn wsL_putIn) := goodIn_app (goodIn_of _ (by decide +kernel)) ggL_fetches_L_putIn
set_option maxRecDepth 20000 in
theorem ggL_fetches_L_removes : GoodIn wsL_fetches wsL_removes := goodIn_r _ [14, 6, 7, 3, 8] (by decide +kernel) (by decide +kernel)
set_option maxRecDepth 20000 in
theorem gL_fetches_L_removes : GoodIn wsL_fetches (va_wsS RL 13 yL_removes wsL_removes) := goodIn_app (goodIn_of _ (by decide +kernel)) ggL_fetches_L_removes
set_option maxRecDepth 20000 in
theorem ggL_fetches_L_used : GoodIn wsL_fetches wsL_used := goodIn_r _ [17] (by decide +kernel) (by decide +kernel)
set_option maxRecDepth 20000 in
theorem gL_fetches_L_used : GoodIn wsL_fetches (va_wsS RL 27 yL_used wsL_used) := goodIn_app (goodIn_of _ (by decide +kernel)) ggL_fetches_L_used
set_option maxRecDepth 20000 in
theorem ggL_fetches_L_clears : GoodIn wsL_fetches wsL_clears := goodIn_r _ [20, 12, 13, 3, 14, 6, 7, 8] (by decide +kernel) (by decide +kernel)
set_option maxRecDepth 20000 in
theorem gL_fetches_L_clears : GoodIn wsL_fetches (va_wsS RL 31 yL_clears wsL_clears) := goodIn_app (goodIn_of _ (by decide +kernel)) ggL_fetches_L_clears
set_option maxRecDepth 20000 in
theorem ggL_fetches_L_pinned : GoodIn wsL_fetches wsL_pinned := goodIn_r _ [23] (by decide +kernel) (by decide +kernel)
set_option maxRecDepth 20000 in
theorem gL_fetches_L_pinned : GoodIn wsL_fetches (va_wsS RL 35 yL_pinned wsL_pinned) := goodIn_app (goodIn_of _ (by decide +kernel)) ggL_fetches_L_pinned
set_option maxRecDepth 20000 in
theorem ggL_fetches_L_leaves : GoodIn wsL_fetches wsL_leaves := goodIn_r _ [26, 12, 13, 3, 14, 6, 7, 8] (by decide +kernel) (by decide +kernel)
set_option maxRecDepth 20000 in
theorem gL_fetches_L_leaves : GoodIn wsL_fetches (va_wsS RL 39 yL_leaves wsL_leaves) := goodIn_app (goodIn_of _ (by decide +kernel)) ggL_fetches_L_leaves
theorem dL_fetches_0 : decode cL_fetches 0 = .ok (.aload_n 0, 1) := by decide +kernel
theorem dL_fetches_1 : decode cL_fetches 1 = .ok (.iload 9, 2) := by decide +kernel
theorem dL_fetches_3 : decode cL_fetches 3 = .ok (.iaload, 1) := by decide +kernel
theorem dL_fetches_4 : decode cL_fetches 4 = .ok (.ifCond .le 18, 3) := by decide +kernel
theorem dL_fetches_7 : decode cL_fetches 7 = .ok (.aload_n 2, 1) := by decide +kernel
theorem dL_fetches_8 : decode cL_fetches 8 = .ok (.iload 9, 2) := by decide +kernel
theorem dL_fetches_10 : decode cL_fetches 10 = .ok (.iaload, 1) := by decide +kernel
theorem dL_fetches_11 : decode cL_fetches 11 = .ok (.aload 6, 2) := by decide +kernel
theorem dL_fetches_13 : decode cL_fetches 13 = .ok (.iconst 0, 1) := by decide +kernel
theorem dL_fetches_14 : decode cL_fetches 14 = .ok (.iaload, 1) := by decide +kernel
theorem dL_fetches_15 : decode cL_fetches 15 = .ok (.if_icmp .le 7, 3) := by decide +kernel
theorem dL_fetches_18 : decode cL_fetches 18 = .ok (.iconst 1, 1) := by decide +kernel
theorem dL_fetches_19 : decode cL_fetches 19 = .ok (.goto 4, 3) := by decide +kernel
theorem dL_fetches_22 : decode cL_fetches 22 = .ok (.iconst 0, 1) := by decide +kernel
theorem dL_fetches_23 : decode cL_fetches 23 = .ok (.istore 13, 2) := by decide +kernel
theorem dL_fetches_25 : decode cL_fetches 25 = .ok (.iload 13, 2) := by decide +kernel
theorem dL_fetches_27 : decode cL_fetches 27 = .ok (.ifCond .eq 85, 3) := by decide +kernel
theorem dL_fetches_30 : decode cL_fetches 30 = .ok (.aload_n 0, 1) := by decide +kernel
theorem dL_fetches_31 : decode cL_fetches 31 = .ok (.iload 9, 2) := by decide +kernel
theorem dL_fetches_33 : decode cL_fetches 33 = .ok (.iaload, 1) := by decide +kernel
theorem dL_fetches_34 : decode cL_fetches 34 = .ok (.iload 10, 2) := by decide +kernel
theorem dL_fetches_36 : decode cL_fetches 36 = .ok (.if_icmp .ne 76, 3) := by decide +kernel
theorem dL_fetches_39 : decode cL_fetches 39 = .ok (.aload_n 1, 1) := by decide +kernel
theorem dL_fetches_40 : decode cL_fetches 40 = .ok (.iload 9, 2) := by decide +kernel
theorem dL_fetches_42 : decode cL_fetches 42 = .ok (.dup2, 1) := by decide +kernel
theorem dL_fetches_43 : decode cL_fetches 43 = .ok (.iaload, 1) := by decide +kernel
theorem dL_fetches_44 : decode cL_fetches 44 = .ok (.iconst 1, 1) := by decide +kernel
theorem dL_fetches_45 : decode cL_fetches 45 = .ok (.iadd, 1) := by decide +kernel
theorem dL_fetches_46 : decode cL_fetches 46 = .ok (.iastore, 1) := by decide +kernel
theorem dL_fetches_47 : decode cL_fetches 47 = .ok (.aload_n 0, 1) := by decide +kernel
theorem dL_fetches_48 : decode cL_fetches 48 = .ok (.aload_n 1, 1) := by decide +kernel
theorem dL_fetches_49 : decode cL_fetches 49 = .ok (.aload 5, 2) := by decide +kernel
theorem dL_fetches_51 : decode cL_fetches 51 = .ok (.aload 6, 2) := by decide +kernel
theorem dL_fetches_53 : decode cL_fetches 53 = .ok (.aload 7, 2) := by decide +kernel
theorem dL_fetches_55 : decode cL_fetches 55 = .ok (.aload 8, 2) := by decide +kernel
theorem dL_fetches_57 : decode cL_fetches 57 = .ok (.iload 9, 2) := by decide +kernel
theorem dL_fetches_59 : decode cL_fetches 59 = .ok (.iload 11, 2) := by decide +kernel
theorem dL_fetches_61 : decode cL_fetches 61 = .ok (.invokestatic 19, 3) := by decide +kernel
theorem dL_fetches_64 : decode cL_fetches 64 = .ok (.aload_n 3, 1) := by decide +kernel
theorem dL_fetches_65 : decode cL_fetches 65 = .ok (.iload 9, 2) := by decide +kernel
theorem dL_fetches_67 : decode cL_fetches 67 = .ok (.iaload, 1) := by decide +kernel
theorem dL_fetches_68 : decode cL_fetches 68 = .ok (.ifCond .ne 14, 3) := by decide +kernel
theorem dL_fetches_71 : decode cL_fetches 71 = .ok (.aload 5, 2) := by decide +kernel
theorem dL_fetches_73 : decode cL_fetches 73 = .ok (.aload 6, 2) := by decide +kernel
theorem dL_fetches_75 : decode cL_fetches 75 = .ok (.aload 7, 2) := by decide +kernel
theorem dL_fetches_77 : decode cL_fetches 77 = .ok (.iload 9, 2) := by decide +kernel
theorem dL_fetches_79 : decode cL_fetches 79 = .ok (.invokestatic 23, 3) := by decide +kernel
theorem dL_fetches_82 : decode cL_fetches 82 = .ok (.aload 6, 2) := by decide +kernel
theorem dL_fetches_84 : decode cL_fetches 84 = .ok (.iconst 4, 1) := by decide +kernel
theorem dL_fetches_85 : decode cL_fetches 85 = .ok (.dup2, 1) := by decide +kernel
theorem dL_fetches_86 : decode cL_fetches 86 = .ok (.iaload, 1) := by decide +kernel
theorem dL_fetches_87 : decode cL_fetches 87 = .ok (.iconst 1, 1) := by decide +kernel
theorem dL_fetches_88 : decode cL_fetches 88 = .ok (.iadd, 1) := by decide +kernel
theorem dL_fetches_89 : decode cL_fetches 89 = .ok (.iastore, 1) := by decide +kernel
theorem dL_fetches_90 : decode cL_fetches 90 = .ok (.aload 8, 2) := by decide +kernel
theorem dL_fetches_92 : decode cL_fetches 92 = .ok (.iconst 1, 1) := by decide +kernel
theorem dL_fetches_93 : decode cL_fetches 93 = .ok (.dup2, 1) := by decide +kernel
theorem dL_fetches_94 : decode cL_fetches 94 = .ok (.laload, 1) := by decide +kernel
theorem dL_fetches_95 : decode cL_fetches 95 = .ok (.iload 10, 2) := by decide +kernel
theorem dL_fetches_97 : decode cL_fetches 97 = .ok (.i2l, 1) := by decide +kernel
theorem dL_fetches_98 : decode cL_fetches 98 = .ok (.ladd, 1) := by decide +kernel
theorem dL_fetches_99 : decode cL_fetches 99 = .ok (.lastore, 1) := by decide +kernel
theorem dL_fetches_100 : decode cL_fetches 100 = .ok (.aload 8, 2) := by decide +kernel
theorem dL_fetches_102 : decode cL_fetches 102 = .ok (.iconst 2, 1) := by decide +kernel
theorem dL_fetches_103 : decode cL_fetches 103 = .ok (.dup2, 1) := by decide +kernel
theorem dL_fetches_104 : decode cL_fetches 104 = .ok (.laload, 1) := by decide +kernel
theorem dL_fetches_105 : decode cL_fetches 105 = .ok (.iload 11, 2) := by decide +kernel
theorem dL_fetches_107 : decode cL_fetches 107 = .ok (.i2l, 1) := by decide +kernel
theorem dL_fetches_108 : decode cL_fetches 108 = .ok (.ladd, 1) := by decide +kernel
theorem dL_fetches_109 : decode cL_fetches 109 = .ok (.lastore, 1) := by decide +kernel
theorem dL_fetches_110 : decode cL_fetches 110 = .ok (.iconst 0, 1) := by decide +kernel
theorem dL_fetches_111 : decode cL_fetches 111 = .ok (.ireturn, 1) := by decide +kernel
theorem dL_fetches_112 : decode cL_fetches 112 = .ok (.aload 6, 2) := by decide +kernel
theorem dL_fetches_114 : decode cL_fetches 114 = .ok (.iconst 5, 1) := by decide +kernel
theorem dL_fetches_115 : decode cL_fetches 115 = .ok (.dup2, 1) := by decide +kernel
theorem dL_fetches_116 : decode cL_fetches 116 = .ok (.iaload, 1) := by decide +kernel
theorem dL_fetches_117 : decode cL_fetches 117 = .ok (.iconst 1, 1) := by decide +kernel
theorem dL_fetches_118 : decode cL_fetches 118 = .ok (.iadd, 1) := by decide +kernel
theorem dL_fetches_119 : decode cL_fetches 119 = .ok (.iastore, 1) := by decide +kernel
theorem dL_fetches_120 : decode cL_fetches 120 = .ok (.aload 8, 2) := by decide +kernel
theorem dL_fetches_122 : decode cL_fetches 122 = .ok (.iconst 3, 1) := by decide +kernel
theorem dL_fetches_123 : decode cL_fetches 123 = .ok (.dup2, 1) := by decide +kernel
theorem dL_fetches_124 : decode cL_fetches 124 = .ok (.laload, 1) := by decide +kernel
theorem dL_fetches_125 : decode cL_fetches 125 = .ok (.iload 11, 2) := by decide +kernel
theorem dL_fetches_127 : decode cL_fetches 127 = .ok (.i2l, 1) := by decide +kernel
theorem dL_fetches_128 : decode cL_fetches 128 = .ok (.ladd, 1) := by decide +kernel
theorem dL_fetches_129 : decode cL_fetches 129 = .ok (.lastore, 1) := by decide +kernel
theorem dL_fetches_130 : decode cL_fetches 130 = .ok (.aload 6, 2) := by decide +kernel
theorem dL_fetches_132 : decode cL_fetches 132 = .ok (.bipush 7, 2) := by decide +kernel
theorem dL_fetches_134 : decode cL_fetches 134 = .ok (.dup2, 1) := by decide +kernel
theorem dL_fetches_135 : decode cL_fetches 135 = .ok (.iaload, 1) := by decide +kernel
theorem dL_fetches_136 : decode cL_fetches 136 = .ok (.aload_n 0, 1) := by decide +kernel
theorem dL_fetches_137 : decode cL_fetches 137 = .ok (.iload 9, 2) := by decide +kernel
theorem dL_fetches_139 : decode cL_fetches 139 = .ok (.iaload, 1) := by decide +kernel
theorem dL_fetches_140 : decode cL_fetches 140 = .ok (.ifCond .le 12, 3) := by decide +kernel
theorem dL_fetches_143 : decode cL_fetches 143 = .ok (.iload 13, 2) := by decide +kernel
theorem dL_fetches_145 : decode cL_fetches 145 = .ok (.ifCond .ne 7, 3) := by decide +kernel
theorem dL_fetches_148 : decode cL_fetches 148 = .ok (.iconst 1, 1) := by decide +kernel
theorem dL_fetches_149 : decode cL_fetches 149 = .ok (.goto 4, 3) := by decide +kernel
theorem dL_fetches_152 : decode cL_fetches 152 = .ok (.iconst 0, 1) := by decide +kernel
theorem dL_fetches_153 : decode cL_fetches 153 = .ok (.iadd, 1) := by decide +kernel
theorem dL_fetches_154 : decode cL_fetches 154 = .ok (.iastore, 1) := by decide +kernel
theorem dL_fetches_155 : decode cL_fetches 155 = .ok (.aload_n 0, 1) := by decide +kernel
theorem dL_fetches_156 : decode cL_fetches 156 = .ok (.aload 5, 2) := by decide +kernel
theorem dL_fetches_158 : decode cL_fetches 158 = .ok (.aload 6, 2) := by decide +kernel
theorem dL_fetches_160 : decode cL_fetches 160 = .ok (.iload 9, 2) := by decide +kernel
theorem dL_fetches_162 : decode cL_fetches 162 = .ok (.invokestatic 13, 3) := by decide +kernel
theorem dL_fetches_165 : decode cL_fetches 165 = .ok (.aload 4, 2) := by decide +kernel
theorem dL_fetches_167 : decode cL_fetches 167 = .ok (.iload 9, 2) := by decide +kernel
theorem dL_fetches_169 : decode cL_fetches 169 = .ok (.iaload, 1) := by decide +kernel
theorem dL_fetches_170 : decode cL_fetches 170 = .ok (.ifCond .le 24, 3) := by decide +kernel
theorem dL_fetches_173 : decode cL_fetches 173 = .ok (.aload 6, 2) := by decide +kernel
theorem dL_fetches_175 : decode cL_fetches 175 = .ok (.iconst 0, 1) := by decide +kernel
theorem dL_fetches_176 : decode cL_fetches 176 = .ok (.iaload, 1) := by decide +kernel
theorem dL_fetches_177 : decode cL_fetches 177 = .ok (.aload 4, 2) := by decide +kernel
theorem dL_fetches_179 : decode cL_fetches 179 = .ok (.iload 9, 2) := by decide +kernel
theorem dL_fetches_181 : decode cL_fetches 181 = .ok (.iaload, 1) := by decide +kernel
theorem dL_fetches_182 : decode cL_fetches 182 = .ok (.isub, 1) := by decide +kernel
theorem dL_fetches_183 : decode cL_fetches 183 = .ok (.iconst 1, 1) := by decide +kernel
theorem dL_fetches_184 : decode cL_fetches 184 = .ok (.iadd, 1) := by decide +kernel
theorem dL_fetches_185 : decode cL_fetches 185 = .ok (.bipush 51, 2) := by decide +kernel
theorem dL_fetches_187 : decode cL_fetches 187 = .ok (.if_icmp .ge 7, 3) := by decide +kernel
theorem dL_fetches_190 : decode cL_fetches 190 = .ok (.iconst 1, 1) := by decide +kernel
theorem dL_fetches_191 : decode cL_fetches 191 = .ok (.goto 4, 3) := by decide +kernel
theorem dL_fetches_194 : decode cL_fetches 194 = .ok (.iconst 0, 1) := by decide +kernel
theorem dL_fetches_195 : decode cL_fetches 195 = .ok (.istore 14, 2) := by decide +kernel
theorem dL_fetches_197 : decode cL_fetches 197 = .ok (.aload 4, 2) := by decide +kernel
theorem dL_fetches_199 : decode cL_fetches 199 = .ok (.iload 9, 2) := by decide +kernel
theorem dL_fetches_201 : decode cL_fetches 201 = .ok (.aload 6, 2) := by decide +kernel
theorem dL_fetches_203 : decode cL_fetches 203 = .ok (.iconst 0, 1) := by decide +kernel
theorem dL_fetches_204 : decode cL_fetches 204 = .ok (.iaload, 1) := by decide +kernel
theorem dL_fetches_205 : decode cL_fetches 205 = .ok (.iconst 1, 1) := by decide +kernel
theorem dL_fetches_206 : decode cL_fetches 206 = .ok (.iadd, 1) := by decide +kernel
theorem dL_fetches_207 : decode cL_fetches 207 = .ok (.iastore, 1) := by decide +kernel
theorem dL_fetches_208 : decode cL_fetches 208 = .ok (.iload 10, 2) := by decide +kernel
theorem dL_fetches_210 : decode cL_fetches 210 = .ok (.aload 6, 2) := by decide +kernel
theorem dL_fetches_212 : decode cL_fetches 212 = .ok (.iconst 1, 1) := by decide +kernel
theorem dL_fetches_213 : decode cL_fetches 213 = .ok (.iaload, 1) := by decide +kernel
theorem dL_fetches_214 : decode cL_fetches 214 = .ok (.if_icmp .gt 17, 3) := by decide +kernel
theorem dL_fetches_217 : decode cL_fetches 217 = .ok (.iload 10, 2) := by decide +kernel
theorem dL_fetches_219 : decode cL_fetches 219 = .ok (.aload 6, 2) := by decide +kernel
theorem dL_fetches_221 : decode cL_fetches 221 = .ok (.iconst 2, 1) := by decide +kernel
theorem dL_fetches_222 : decode cL_fetches 222 = .ok (.iaload, 1) := by decide +kernel
theorem dL_fetches_223 : decode cL_fetches 223 = .ok (.if_icmp .le 10, 3) := by decide +kernel
theorem dL_fetches_226 : decode cL_fetches 226 = .ok (.iload 14, 2) := by decide +kernel
theorem dL_fetches_228 : decode cL_fetches 228 = .ok (.ifCond .ne 5, 3) := by decide +kernel
theorem dL_fetches_231 : decode cL_fetches 231 = .ok (.iconst 2, 1) := by decide +kernel
theorem dL_fetches_232 : decode cL_fetches 232 = .ok (.ireturn, 1) := by decide +kernel
theorem dL_fetches_233 : decode cL_fetches 233 = .ok (.aload_n 0, 1) := by decide +kernel
theorem dL_fetches_234 : decode cL_fetches 234 = .ok (.invokestatic 27, 3) := by decide +kernel
theorem dL_fetches_237 : decode cL_fetches 237 = .ok (.iload 10, 2) := by decide +kernel
theorem dL_fetches_239 : decode cL_fetches 239 = .ok (.iadd, 1) := by decide +kernel
theorem dL_fetches_240 : decode cL_fetches 240 = .ok (.aload 6, 2) := by decide +kernel
theorem dL_fetches_242 : decode cL_fetches 242 = .ok (.iconst 1, 1) := by decide +kernel
theorem dL_fetches_243 : decode cL_fetches 243 = .ok (.iaload, 1) := by decide +kernel
theorem dL_fetches_244 : decode cL_fetches 244 = .ok (.if_icmp .le 63, 3) := by decide +kernel
theorem dL_fetches_247 : decode cL_fetches 247 = .ok (.aload_n 0, 1) := by decide +kernel
theorem dL_fetches_248 : decode cL_fetches 248 = .ok (.aload_n 2, 1) := by decide +kernel
theorem dL_fetches_249 : decode cL_fetches 249 = .ok (.aload 5, 2) := by decide +kernel
theorem dL_fetches_251 : decode cL_fetches 251 = .ok (.aload 6, 2) := by decide +kernel
theorem dL_fetches_253 : decode cL_fetches 253 = .ok (.invokestatic 31, 3) := by decide +kernel
theorem dL_fetches_256 : decode cL_fetches 256 = .ok (.pop, 1) := by decide +kernel
theorem dL_fetches_257 : decode cL_fetches 257 = .ok (.aload_n 0, 1) := by decide +kernel
theorem dL_fetches_258 : decode cL_fetches 258 = .ok (.aload_n 2, 1) := by decide +kernel
theorem dL_fetches_259 : decode cL_fetches 259 = .ok (.aload_n 3, 1) := by decide +kernel
theorem dL_fetches_260 : decode cL_fetches 260 = .ok (.aload 6, 2) := by decide +kernel
theorem dL_fetches_262 : decode cL_fetches 262 = .ok (.iconst 1, 1) := by decide +kernel
theorem dL_fetches_263 : decode cL_fetches 263 = .ok (.invokestatic 35, 3) := by decide +kernel
theorem dL_fetches_266 : decode cL_fetches 266 = .ok (.iload 10, 2) := by decide +kernel
theorem dL_fetches_268 : decode cL_fetches 268 = .ok (.iadd, 1) := by decide +kernel
theorem dL_fetches_269 : decode cL_fetches 269 = .ok (.aload 6, 2) := by decide +kernel
theorem dL_fetches_271 : decode cL_fetches 271 = .ok (.iconst 1, 1) := by decide +kernel
theorem dL_fetches_272 : decode cL_fetches 272 = .ok (.iaload, 1) := by decide +kernel
theorem dL_fetches_273 : decode cL_fetches 273 = .ok (.if_icmp .le 5, 3) := by decide +kernel
theorem dL_fetches_276 : decode cL_fetches 276 = .ok (.iconst 2, 1) := by decide +kernel
theorem dL_fetches_277 : decode cL_fetches 277 = .ok (.ireturn, 1) := by decide +kernel
theorem dL_fetches_278 : decode cL_fetches 278 = .ok (.aload_n 0, 1) := by decide +kernel
theorem dL_fetches_279 : decode cL_fetches 279 = .ok (.invokestatic 27, 3) := by decide +kernel
theorem dL_fetches_282 : decode cL_fetches 282 = .ok (.iload 10, 2) := by decide +kernel
theorem dL_fetches_284 : decode cL_fetches 284 = .ok (.iadd, 1) := by decide +kernel
theorem dL_fetches_285 : decode cL_fetches 285 = .ok (.aload 6, 2) := by decide +kernel
theorem dL_fetches_287 : decode cL_fetches 287 = .ok (.iconst 1, 1) := by decide +kernel
theorem dL_fetches_288 : decode cL_fetches 288 = .ok (.iaload, 1) := by decide +kernel
theorem dL_fetches_289 : decode cL_fetches 289 = .ok (.if_icmp .le 18, 3) := by decide +kernel
theorem dL_fetches_292 : decode cL_fetches 292 = .ok (.aload_n 0, 1) := by decide +kernel
theorem dL_fetches_293 : decode cL_fetches 293 = .ok (.aload 5, 2) := by decide +kernel
theorem dL_fetches_295 : decode cL_fetches 295 = .ok (.aload 6, 2) := by decide +kernel
theorem dL_fetches_297 : decode cL_fetches 297 = .ok (.aload 7, 2) := by decide +kernel
theorem dL_fetches_299 : decode cL_fetches 299 = .ok (.aload 8, 2) := by decide +kernel
theorem dL_fetches_301 : decode cL_fetches 301 = .ok (.invokestatic 39, 3) := by decide +kernel
theorem dL_fetches_304 : decode cL_fetches 304 = .ok (.goto (-26), 3) := by decide +kernel
theorem dL_fetches_307 : decode cL_fetches 307 = .ok (.aload_n 0, 1) := by decide +kernel
theorem dL_fetches_308 : decode cL_fetches 308 = .ok (.iload 9, 2) := by decide +kernel
theorem dL_fetches_310 : decode cL_fetches 310 = .ok (.iload 10, 2) := by decide +kernel
theorem dL_fetches_312 : decode cL_fetches 312 = .ok (.iastore, 1) := by decide +kernel
theorem dL_fetches_313 : decode cL_fetches 313 = .ok (.aload_n 1, 1) := by decide +kernel
theorem dL_fetches_314 : decode cL_fetches 314 = .ok (.iload 9, 2) := by decide +kernel
theorem dL_fetches_316 : decode cL_fetches 316 = .ok (.iconst 1, 1) := by decide +kernel
theorem dL_fetches_317 : decode cL_fetches 317 = .ok (.iastore, 1) := by decide +kernel
theorem dL_fetches_318 : decode cL_fetches 318 = .ok (.aload_n 2, 1) := by decide +kernel
theorem dL_fetches_319 : decode cL_fetches 319 = .ok (.iload 9, 2) := by decide +kernel
theorem dL_fetches_321 : decode cL_fetches 321 = .ok (.aload 6, 2) := by decide +kernel
theorem dL_fetches_323 : decode cL_fetches 323 = .ok (.iconst 0, 1) := by decide +kernel
theorem dL_fetches_324 : decode cL_fetches 324 = .ok (.iaload, 1) := by decide +kernel
theorem dL_fetches_325 : decode cL_fetches 325 = .ok (.iload 12, 2) := by decide +kernel
theorem dL_fetches_327 : decode cL_fetches 327 = .ok (.iadd, 1) := by decide +kernel
theorem dL_fetches_328 : decode cL_fetches 328 = .ok (.iastore, 1) := by decide +kernel
theorem dL_fetches_329 : decode cL_fetches 329 = .ok (.aload_n 3, 1) := by decide +kernel
theorem dL_fetches_330 : decode cL_fetches 330 = .ok (.iload 9, 2) := by decide +kernel
theorem dL_fetches_332 : decode cL_fetches 332 = .ok (.iconst 0, 1) := by decide +kernel
theorem dL_fetches_333 : decode cL_fetches 333 = .ok (.iastore, 1) := by decide +kernel
theorem dL_fetches_334 : decode cL_fetches 334 = .ok (.aload_n 0, 1) := by decide +kernel
theorem dL_fetches_335 : decode cL_fetches 335 = .ok (.aload_n 1, 1) := by decide +kernel
theorem dL_fetches_336 : decode cL_fetches 336 = .ok (.aload 5, 2) := by decide +kernel
theorem dL_fetches_338 : decode cL_fetches 338 = .ok (.aload 6, 2) := by decide +kernel
theorem dL_fetches_340 : decode cL_fetches 340 = .ok (.aload 7, 2) := by decide +kernel
theorem dL_fetches_342 : decode cL_fetches 342 = .ok (.aload 8, 2) := by decide +kernel
theorem dL_fetches_344 : decode cL_fetches 344 = .ok (.iload 9, 2) := by decide +kernel
theorem dL_fetches_346 : decode cL_fetches 346 = .ok (.iload 11, 2) := by decide +kernel
theorem dL_fetches_348 : decode cL_fetches 348 = .ok (.invokestatic 19, 3) := by decide +kernel
theorem dL_fetches_351 : decode cL_fetches 351 = .ok (.aload 5, 2) := by decide +kernel
theorem dL_fetches_353 : decode cL_fetches 353 = .ok (.aload 6, 2) := by decide +kernel
theorem dL_fetches_355 : decode cL_fetches 355 = .ok (.aload 7, 2) := by decide +kernel
theorem dL_fetches_357 : decode cL_fetches 357 = .ok (.iload 9, 2) := by decide +kernel
theorem dL_fetches_359 : decode cL_fetches 359 = .ok (.invokestatic 23, 3) := by decide +kernel
theorem dL_fetches_362 : decode cL_fetches 362 = .ok (.iconst 1, 1) := by decide +kernel
theorem dL_fetches_363 : decode cL_fetches 363 = .ok (.ireturn, 1) := by decide +kernel
set_option maxRecDepth 20000 in
theorem ggL_would_L_used : GoodIn wsL_would wsL_used := goodIn_r _ [4] (by decide +kernel) (by decide +kernel)
set_option maxRecDepth 20000 in
theorem gL_would_L_used : GoodIn wsL_would (va_wsS RL 27 yL_used wsL_used) := goodIn_app (goodIn_of _ (by decide +kernel)) ggL_would_L_used
theorem dL_would_0 : decode cL_would 0 = .ok (.aload_n 0, 1) := by decide +kernel
theorem dL_would_1 : decode cL_would 1 = .ok (.invokestatic 27, 3) := by decide +kernel
theorem dL_would_4 : decode cL_would 4 = .ok (.istore 6, 2) := by decide +kernel
theorem dL_would_6 : decode cL_would 6 = .ok (.iload 6, 2) := by decide +kernel
theorem dL_would_8 : decode cL_would 8 = .ok (.iload 5, 2) := by decide +kernel
theorem dL_would_10 : decode cL_would 10 = .ok (.iadd, 1) := by decide +kernel
theorem dL_would_11 : decode cL_would 11 = .ok (.aload 4, 2) := by decide +kernel
theorem dL_would_13 : decode cL_would 13 = .ok (.iconst 1, 1) := by decide +kernel
theorem dL_would_14 : decode cL_would 14 = .ok (.iaload, 1) := by decide +kernel
theorem dL_would_15 : decode cL_would 15 = .ok (.if_icmp .gt 5, 3) := by decide +kernel
theorem dL_would_18 : decode cL_would 18 = .ok (.iconst 0, 1) := by decide +kernel
theorem dL_would_19 : decode cL_would 19 = .ok (.ireturn, 1) := by decide +kernel
theorem dL_would_20 : decode cL_would 20 = .ok (.iconst 0, 1) := by decide +kernel
theorem dL_would_21 : decode cL_would 21 = .ok (.istore 7, 2) := by decide +kernel
theorem dL_would_23 : decode cL_would 23 = .ok (.iconst 0, 1) := by decide +kernel
theorem dL_would_24 : decode cL_would 24 = .ok (.istore 8, 2) := by decide +kernel
theorem dL_would_26 : decode cL_would 26 = .ok (.iload 8, 2) := by decide +kernel
theorem dL_would_28 : decode cL_would 28 = .ok (.bipush 32, 2) := by decide +kernel
theorem dL_would_30 : decode cL_would 30 = .ok (.if_icmp .ge 33, 3) := by decide +kernel
theorem dL_would_33 : decode cL_would 33 = .ok (.iload 6, 2) := by decide +kernel
theorem dL_would_35 : decode cL_would 35 = .ok (.aload_n 1, 1) := by decide +kernel
theorem dL_would_36 : decode cL_would 36 = .ok (.iload 8, 2) := by decide +kernel
theorem dL_would_38 : decode cL_would 38 = .ok (.iaload, 1) := by decide +kernel
theorem dL_would_39 : decode cL_would 39 = .ok (.aload 4, 2) := by decide +kernel
theorem dL_would_41 : decode cL_would 41 = .ok (.iconst 0, 1) := by decide +kernel
theorem dL_would_42 : decode cL_would 42 = .ok (.iaload, 1) := by decide +kernel
theorem dL_would_43 : decode cL_would 43 = .ok (.if_icmp .gt 10, 3) := by decide +kernel
theorem dL_would_46 : decode cL_would 46 = .ok (.aload_n 0, 1) := by decide +kernel
theorem dL_would_47 : decode cL_would 47 = .ok (.iload 8, 2) := by decide +kernel
theorem dL_would_49 : decode cL_would 49 = .ok (.iaload, 1) := by decide +kernel
theorem dL_would_50 : decode cL_would 50 = .ok (.goto 4, 3) := by decide +kernel
theorem dL_would_53 : decode cL_would 53 = .ok (.iconst 0, 1) := by decide +kernel
theorem dL_would_54 : decode cL_would 54 = .ok (.isub, 1) := by decide +kernel
theorem dL_would_55 : decode cL_would 55 = .ok (.istore 6, 2) := by decide +kernel
theorem dL_would_57 : decode cL_would 57 = .ok (.iinc 8 1, 3) := by decide +kernel
theorem dL_would_60 : decode cL_would 60 = .ok (.goto (-34), 3) := by decide +kernel
theorem dL_would_63 : decode cL_would 63 = .ok (.iconst 0, 1) := by decide +kernel
theorem dL_would_64 : decode cL_would 64 = .ok (.istore 8, 2) := by decide +kernel
theorem dL_would_66 : decode cL_would 66 = .ok (.iload 8, 2) := by decide +kernel
theorem dL_would_68 : decode cL_would 68 = .ok (.aload 4, 2) := by decide +kernel
theorem dL_would_70 : decode cL_would 70 = .ok (.iconst 3, 1) := by decide +kernel
theorem dL_would_71 : decode cL_would 71 = .ok (.iaload, 1) := by decide +kernel
theorem dL_would_72 : decode cL_would 72 = .ok (.if_icmp .ge 72, 3) := by decide +kernel
theorem dL_would_75 : decode cL_would 75 = .ok (.iload 6, 2) := by decide +kernel
theorem dL_would_77 : decode cL_would 77 = .ok (.iload 5, 2) := by decide +kernel
theorem dL_would_79 : decode cL_would 79 = .ok (.iadd, 1) := by decide +kernel
theorem dL_would_80 : decode cL_would 80 = .ok (.aload 4, 2) := by decide +kernel
theorem dL_would_82 : decode cL_would 82 = .ok (.iconst 1, 1) := by decide +kernel
theorem dL_would_83 : decode cL_would 83 = .ok (.iaload, 1) := by decide +kernel
theorem dL_would_84 : decode cL_would 84 = .ok (.if_icmp .le 60, 3) := by decide +kernel
theorem dL_would_87 : decode cL_would 87 = .ok (.iload 7, 2) := by decide +kernel
theorem dL_would_89 : decode cL_would 89 = .ok (.aload_n 1, 1) := by decide +kernel
theorem dL_would_90 : decode cL_would 90 = .ok (.aload_n 3, 1) := by decide +kernel
theorem dL_would_91 : decode cL_would 91 = .ok (.iload 8, 2) := by decide +kernel
theorem dL_would_93 : decode cL_would 93 = .ok (.iaload, 1) := by decide +kernel
theorem dL_would_94 : decode cL_would 94 = .ok (.iaload, 1) := by decide +kernel
theorem dL_would_95 : decode cL_would 95 = .ok (.aload 4, 2) := by decide +kernel
theorem dL_would_97 : decode cL_would 97 = .ok (.iconst 0, 1) := by decide +kernel
theorem dL_would_98 : decode cL_would 98 = .ok (.iaload, 1) := by decide +kernel
theorem dL_would_99 : decode cL_would 99 = .ok (.if_icmp .gt 7, 3) := by decide +kernel
theorem dL_would_102 : decode cL_would 102 = .ok (.iconst 0, 1) := by decide +kernel
theorem dL_would_103 : decode cL_would 103 = .ok (.goto 4, 3) := by decide +kernel
theorem dL_would_106 : decode cL_would 106 = .ok (.iconst 1, 1) := by decide +kernel
theorem dL_would_107 : decode cL_would 107 = .ok (.iadd, 1) := by decide +kernel
theorem dL_would_108 : decode cL_would 108 = .ok (.istore 7, 2) := by decide +kernel
theorem dL_would_110 : decode cL_would 110 = .ok (.iload 6, 2) := by decide +kernel
theorem dL_would_112 : decode cL_would 112 = .ok (.aload_n 1, 1) := by decide +kernel
theorem dL_would_113 : decode cL_would 113 = .ok (.aload_n 3, 1) := by decide +kernel
theorem dL_would_114 : decode cL_would 114 = .ok (.iload 8, 2) := by decide +kernel
theorem dL_would_116 : decode cL_would 116 = .ok (.iaload, 1) := by decide +kernel
theorem dL_would_117 : decode cL_would 117 = .ok (.iaload, 1) := by decide +kernel
theorem dL_would_118 : decode cL_would 118 = .ok (.aload 4, 2) := by decide +kernel
theorem dL_would_120 : decode cL_would 120 = .ok (.iconst 0, 1) := by decide +kernel
theorem dL_would_121 : decode cL_would 121 = .ok (.iaload, 1) := by decide +kernel
theorem dL_would_122 : decode cL_would 122 = .ok (.if_icmp .gt 7, 3) := by decide +kernel
theorem dL_would_125 : decode cL_would 125 = .ok (.iconst 0, 1) := by decide +kernel
theorem dL_would_126 : decode cL_would 126 = .ok (.goto 9, 3) := by decide +kernel
theorem dL_would_129 : decode cL_would 129 = .ok (.aload_n 0, 1) := by decide +kernel
theorem dL_would_130 : decode cL_would 130 = .ok (.aload_n 3, 1) := by decide +kernel
theorem dL_would_131 : decode cL_would 131 = .ok (.iload 8, 2) := by decide +kernel
theorem dL_would_133 : decode cL_would 133 = .ok (.iaload, 1) := by decide +kernel
theorem dL_would_134 : decode cL_would 134 = .ok (.iaload, 1) := by decide +kernel
theorem dL_would_135 : decode cL_would 135 = .ok (.isub, 1) := by decide +kernel
theorem dL_would_136 : decode cL_would 136 = .ok (.istore 6, 2) := by decide +kernel
theorem dL_would_138 : decode cL_would 138 = .ok (.iinc 8 1, 3) := by decide +kernel
theorem dL_would_141 : decode cL_would 141 = .ok (.goto (-75), 3) := by decide +kernel
theorem dL_would_144 : decode cL_would 144 = .ok (.iload 6, 2) := by decide +kernel
theorem dL_would_146 : decode cL_would 146 = .ok (.iload 5, 2) := by decide +kernel
theorem dL_would_148 : decode cL_would 148 = .ok (.iadd, 1) := by decide +kernel
theorem dL_would_149 : decode cL_would 149 = .ok (.aload 4, 2) := by decide +kernel
theorem dL_would_151 : decode cL_would 151 = .ok (.iconst 1, 1) := by decide +kernel
theorem dL_would_152 : decode cL_would 152 = .ok (.iaload, 1) := by decide +kernel
theorem dL_would_153 : decode cL_would 153 = .ok (.if_icmp .le 7, 3) := by decide +kernel
theorem dL_would_156 : decode cL_would 156 = .ok (.iconst (-1), 1) := by decide +kernel
theorem dL_would_157 : decode cL_would 157 = .ok (.goto 5, 3) := by decide +kernel
theorem dL_would_160 : decode cL_would 160 = .ok (.iload 7, 2) := by decide +kernel
theorem dL_would_162 : decode cL_would 162 = .ok (.ireturn, 1) := by decide +kernel
set_option maxRecDepth 20000 in
theorem ggL_told_X1_pin : GoodIn wsL_told wsX1_pin := goodIn_ca (goodIn_ca (goodIn_r _ [6, 7, 8, 9, 5, 10, 11, 12, 13, 14, 15, 16, 17, 18, 19, 81, 82, 83, 84, 85, 86, 87, 88, 89, 90, 91, 92, 93, 94, 95, 96, 97, 98, 99, 100, 101, 102] (by decide +kernel) (by decide +kernel)) (goodIn_sub (fun _ h => List.mem_cons_of_mem _ (List.mem_append_left _ (List.mem_append_left _ (List.mem_append_right _ h)))) (by decide +kernel))) (goodIn_sub (fun _ h => List.mem_cons_of_mem _ (List.mem_append_left _ (List.mem_append_right _ h))) (by decide +kernel))
set_option maxRecDepth 20000 in
theorem gL_told_X1_pin : GoodIn wsL_told (wsV RL 43 RX1 yX1_pin wsX1_pin) := goodIn_app (goodIn_of _ (by decide +kernel)) ggL_told_X1_pin
set_option maxRecDepth 20000 in
theorem ggL_told_X1_drop : GoodIn wsL_told wsX1_drop := goodIn_ca (goodIn_ca (goodIn_r _ [23, 7, 8, 9, 5, 10, 11, 12, 13, 14, 15, 16, 17, 18, 19, 81, 82, 83, 84, 85, 86, 87, 88, 89, 90, 91, 92, 93, 94, 95, 96, 97, 98, 99, 100, 101, 102] (by decide +kernel) (by decide +kernel)) (goodIn_sub (fun _ h => List.mem_cons_of_mem _ (List.mem_append_left _ (List.mem_append_left _ (List.mem_append_right _ h)))) (by decide +kernel))) (goodIn_sub (fun _ h => List.mem_cons_of_mem _ (List.mem_append_left _ (List.mem_append_right _ h))) (by decide +kernel))
set_option maxRecDepth 20000 in
theorem gL_told_X1_drop : GoodIn wsL_told (wsV RL 49 RX1 yX1_drop wsX1_drop) := goodIn_app (goodIn_of _ (by decide +kernel)) ggL_told_X1_drop
set_option maxRecDepth 20000 in
theorem ggL_told_X1_setCapacity : GoodIn wsL_told wsX1_setCapacity := goodIn_ca (goodIn_ca (goodIn_r _ [27, 11, 12, 28, 29, 30, 5, 31, 32, 33, 34, 35, 36, 37, 19, 38, 39, 40, 41, 42, 43, 44, 45, 46, 47, 48, 49, 50, 51, 52, 53, 54, 55, 56, 57, 58, 59, 60, 61, 62, 63, 64, 65, 66, 67, 68, 69, 70, 71, 72, 73, 74, 75, 90, 91, 92, 93, 94, 95, 96, 97, 98, 99, 100, 101, 102, 81, 82, 83, 84, 85, 86, 87, 88, 89] (by decide +kernel) (by decide +kernel)) (goodIn_sub (fun _ h => List.mem_cons_of_mem _ (List.mem_append_left _ (List.mem_append_left _ (List.mem_append_right _ h)))) (by decide +kernel))) (goodIn_sub (fun _ h => List.mem_cons_of_mem _ (List.mem_append_right _ h)) (by decide +kernel))
set_option maxRecDepth 20000 in
theorem gL_told_X1_setCapacity : GoodIn wsL_told (wsV RL 53 RX1 yX1_setCapacity wsX1_setCapacity) := goodIn_app (goodIn_of _ (by decide +kernel)) ggL_told_X1_setCapacity
set_option maxRecDepth 20000 in
theorem ggL_told_X1_setThreshold : GoodIn wsL_told wsX1_setThreshold := goodIn_ca (goodIn_r _ [79, 80, 29, 30, 5, 31, 32, 33, 90, 91, 92, 93, 94, 95, 96, 97, 98, 99, 100, 101, 102] (by decide +kernel) (by decide +kernel)) (goodIn_sub (fun _ h => List.mem_cons_of_mem _ (List.mem_append_right _ h)) (by decide +kernel))
set_option maxRecDepth 20000 in
theorem gL_told_X1_setThreshold : GoodIn wsL_told (wsV RL 56 RX1 yX1_setThreshold wsX1_setThreshold) := goodIn_app (goodIn_of _ (by decide +kernel)) ggL_told_X1_setThreshold
theorem dL_told_0 : decode cL_told 0 = .ok (.iload_n 1, 1) := by decide +kernel
theorem dL_told_1 : decode cL_told 1 = .ok (.ifCond .ne 29, 3) := by decide +kernel
theorem dL_told_4 : decode cL_told 4 = .ok (.aload_n 0, 1) := by decide +kernel
theorem dL_told_5 : decode cL_told 5 = .ok (.iload_n 2, 1) := by decide +kernel
theorem dL_told_6 : decode cL_told 6 = .ok (.iload_n 3, 1) := by decide +kernel
theorem dL_told_7 : decode cL_told 7 = .ok (.iconst 1, 1) := by decide +kernel
theorem dL_told_8 : decode cL_told 8 = .ok (.if_icmp .ne 7, 3) := by decide +kernel
theorem dL_told_11 : decode cL_told 11 = .ok (.iconst 1, 1) := by decide +kernel
theorem dL_told_12 : decode cL_told 12 = .ok (.goto 4, 3) := by decide +kernel
theorem dL_told_15 : decode cL_told 15 = .ok (.iconst 0, 1) := by decide +kernel
theorem dL_told_16 : decode cL_told 16 = .ok (.invokevirtual 43, 3) := by decide +kernel
theorem dL_told_19 : decode cL_told 19 = .ok (.ifCond .eq 7, 3) := by decide +kernel
theorem dL_told_22 : decode cL_told 22 = .ok (.iconst 1, 1) := by decide +kernel
theorem dL_told_23 : decode cL_told 23 = .ok (.goto 38, 3) := by decide +kernel
theorem dL_told_26 : decode cL_told 26 = .ok (.iconst 0, 1) := by decide +kernel
theorem dL_told_27 : decode cL_told 27 = .ok (.goto 34, 3) := by decide +kernel
theorem dL_told_30 : decode cL_told 30 = .ok (.iload_n 1, 1) := by decide +kernel
theorem dL_told_31 : decode cL_told 31 = .ok (.iconst 1, 1) := by decide +kernel
theorem dL_told_32 : decode cL_told 32 = .ok (.if_icmp .ne 11, 3) := by decide +kernel
theorem dL_told_35 : decode cL_told 35 = .ok (.aload_n 0, 1) := by decide +kernel
theorem dL_told_36 : decode cL_told 36 = .ok (.iload_n 2, 1) := by decide +kernel
theorem dL_told_37 : decode cL_told 37 = .ok (.invokevirtual 49, 3) := by decide +kernel
theorem dL_told_40 : decode cL_told 40 = .ok (.goto 21, 3) := by decide +kernel
theorem dL_told_43 : decode cL_told 43 = .ok (.iload_n 1, 1) := by decide +kernel
theorem dL_told_44 : decode cL_told 44 = .ok (.iconst 2, 1) := by decide +kernel
theorem dL_told_45 : decode cL_told 45 = .ok (.if_icmp .ne 11, 3) := by decide +kernel
theorem dL_told_48 : decode cL_told 48 = .ok (.aload_n 0, 1) := by decide +kernel
theorem dL_told_49 : decode cL_told 49 = .ok (.iload_n 2, 1) := by decide +kernel
theorem dL_told_50 : decode cL_told 50 = .ok (.invokevirtual 53, 3) := by decide +kernel
theorem dL_told_53 : decode cL_told 53 = .ok (.goto 8, 3) := by decide +kernel
theorem dL_told_56 : decode cL_told 56 = .ok (.aload_n 0, 1) := by decide +kernel
theorem dL_told_57 : decode cL_told 57 = .ok (.iload_n 2, 1) := by decide +kernel
theorem dL_told_58 : decode cL_told 58 = .ok (.invokevirtual 56, 3) := by decide +kernel
theorem dL_told_61 : decode cL_told 61 = .ok (.ireturn, 1) := by decide +kernel
theorem dL_told_62 : decode cL_told 62 = .ok (.astore 4, 2) := by decide +kernel
theorem dL_told_64 : decode cL_told 64 = .ok (.bipush (-13), 2) := by decide +kernel
theorem dL_told_66 : decode cL_told 66 = .ok (.ireturn, 1) := by decide +kernel
set_option maxRecDepth 20000 in
theorem ggL_order_X1_leaving : GoodIn wsL_order wsX1_leaving := goodIn_ca (goodIn_r _ [6, 7, 8, 9, 10, 11, 5, 12, 13, 14, 15, 16, 17, 18, 19, 20, 21, 22, 23, 24, 25, 26, 27, 28, 29, 30, 31, 32, 33, 34, 35, 36, 37, 38, 39, 40, 41, 42, 43, 44, 45] (by decide +kernel) (by decide +kernel)) (goodIn_sub (fun _ h => List.mem_cons_of_mem _ (List.mem_append_right _ h)) (by decide +kernel))
set_option maxRecDepth 20000 in
theorem gL_order_X1_leaving : GoodIn wsL_order (wsV RL 61 RX1 yX1_leaving wsX1_leaving) := goodIn_app (goodIn_of _ (by decide +kernel)) ggL_order_X1_leaving
theorem dL_order_0 : decode cL_order 0 = .ok (.aload_n 0, 1) := by decide +kernel
theorem dL_order_1 : decode cL_order 1 = .ok (.iload_n 1, 1) := by decide +kernel
theorem dL_order_2 : decode cL_order 2 = .ok (.invokevirtual 61, 3) := by decide +kernel
theorem dL_order_5 : decode cL_order 5 = .ok (.ireturn, 1) := by decide +kernel
theorem dL_order_6 : decode cL_order 6 = .ok (.astore_n 2, 1) := by decide +kernel
theorem dL_order_7 : decode cL_order 7 = .ok (.bipush (-11), 2) := by decide +kernel
theorem dL_order_9 : decode cL_order 9 = .ok (.ireturn, 1) := by decide +kernel
set_option maxRecDepth 20000 in
theorem ggL_isCache_X1_time : GoodIn wsL_isCache wsX1_time := goodIn_r _ [6, 7, 155, 156, 157, 158, 159, 160, 161, 162, 163, 164, 165, 166, 167] (by decide +kernel) (by decide +kernel)
set_option maxRecDepth 20000 in
theorem gL_isCache_X1_time : GoodIn wsL_isCache (wsV RL 66 RX1 yX1_time wsX1_time) := goodIn_app (goodIn_of _ (by decide +kernel)) ggL_isCache_X1_time
set_option maxRecDepth 20000 in
theorem ggL_isCache_X1_capacity : GoodIn wsL_isCache wsX1_capacity := goodIn_r _ [11, 12, 155, 156, 157, 158, 159, 160, 161, 162, 163, 164, 165, 166, 167] (by decide +kernel) (by decide +kernel)
set_option maxRecDepth 20000 in
theorem gL_isCache_X1_capacity : GoodIn wsL_isCache (wsV RL 70 RX1 yX1_capacity wsX1_capacity) := goodIn_app (goodIn_of _ (by decide +kernel)) ggL_isCache_X1_capacity
set_option maxRecDepth 20000 in
theorem ggL_isCache_X1_hits : GoodIn wsL_isCache wsX1_hits := goodIn_r _ [16, 17, 155, 156, 157, 158, 159, 160, 161, 162, 163, 164, 165, 166, 167] (by decide +kernel) (by decide +kernel)
set_option maxRecDepth 20000 in
theorem gL_isCache_X1_hits : GoodIn wsL_isCache (wsV RL 73 RX1 yX1_hits wsX1_hits) := goodIn_app (goodIn_of _ (by decide +kernel)) ggL_isCache_X1_hits
set_option maxRecDepth 20000 in
theorem ggL_isCache_X1_misses : GoodIn wsL_isCache wsX1_misses := goodIn_r _ [21, 22, 155, 156, 157, 158, 159, 160, 161, 162, 163, 164, 165, 166, 167] (by decide +kernel) (by decide +kernel)
set_option maxRecDepth 20000 in
theorem gL_isCache_X1_misses : GoodIn wsL_isCache (wsV RL 76 RX1 yX1_misses wsX1_misses) := goodIn_app (goodIn_of _ (by decide +kernel)) ggL_isCache_X1_misses
set_option maxRecDepth 20000 in
theorem ggL_isCache_X1_left : GoodIn wsL_isCache wsX1_left := goodIn_r _ [26, 27, 155, 156, 157, 158, 159, 160, 161, 162, 163, 164, 165, 166, 167] (by decide +kernel) (by decide +kernel)
set_option maxRecDepth 20000 in
theorem gL_isCache_X1_left : GoodIn wsL_isCache (wsV RL 79 RX1 yX1_left wsX1_left) := goodIn_app (goodIn_of _ (by decide +kernel)) ggL_isCache_X1_left
set_option maxRecDepth 20000 in
theorem ggL_isCache_X1_removedOver : GoodIn wsL_isCache wsX1_removedOver := goodIn_r _ [31, 32, 155, 156, 157, 158, 159, 160, 161, 162, 163, 164, 165, 166, 167] (by decide +kernel) (by decide +kernel)
set_option maxRecDepth 20000 in
theorem gL_isCache_X1_removedOver : GoodIn wsL_isCache (wsV RL 82 RX1 yX1_removedOver wsX1_removedOver) := goodIn_app (goodIn_of _ (by decide +kernel)) ggL_isCache_X1_removedOver
set_option maxRecDepth 20000 in
theorem ggL_isCache_X1_clock : GoodIn wsL_isCache wsX1_clock := goodIn_r _ [36, 37, 155, 156, 157, 158, 159, 160, 161, 162, 163, 164, 165, 166, 167] (by decide +kernel) (by decide +kernel)
set_option maxRecDepth 20000 in
theorem gL_isCache_X1_clock : GoodIn wsL_isCache (wsV RL 85 RX1 yX1_clock wsX1_clock) := goodIn_app (goodIn_of _ (by decide +kernel)) ggL_isCache_X1_clock
set_option maxRecDepth 20000 in
theorem ggL_isCache_X1_bytesHit : GoodIn wsL_isCache wsX1_bytesHit := goodIn_r _ [41, 42, 155, 156, 157, 158, 159, 160, 161, 162, 163, 164, 165, 166, 167] (by decide +kernel) (by decide +kernel)
set_option maxRecDepth 20000 in
theorem gL_isCache_X1_bytesHit : GoodIn wsL_isCache (wsV RL 89 RX1 yX1_bytesHit wsX1_bytesHit) := goodIn_app (goodIn_of _ (by decide +kernel)) ggL_isCache_X1_bytesHit
set_option maxRecDepth 20000 in
theorem ggL_isCache_X1_saved : GoodIn wsL_isCache wsX1_saved := goodIn_r _ [46, 47, 155, 156, 157, 158, 159, 160, 161, 162, 163, 164, 165, 166, 167] (by decide +kernel) (by decide +kernel)
set_option maxRecDepth 20000 in
theorem gL_isCache_X1_saved : GoodIn wsL_isCache (wsV RL 92 RX1 yX1_saved wsX1_saved) := goodIn_app (goodIn_of _ (by decide +kernel)) ggL_isCache_X1_saved
set_option maxRecDepth 20000 in
theorem ggL_isCache_X1_paid : GoodIn wsL_isCache wsX1_paid := goodIn_r _ [51, 52, 155, 156, 157, 158, 159, 160, 161, 162, 163, 164, 165, 166, 167] (by decide +kernel) (by decide +kernel)
set_option maxRecDepth 20000 in
theorem gL_isCache_X1_paid : GoodIn wsL_isCache (wsV RL 95 RX1 yX1_paid wsX1_paid) := goodIn_app (goodIn_of _ (by decide +kernel)) ggL_isCache_X1_paid
set_option maxRecDepth 20000 in
theorem ggL_isCache_X1_used : GoodIn wsL_isCache wsX1_used := goodIn_r _ [56, 57, 155, 156, 157, 158, 159, 160, 161, 162, 163, 164, 165, 166, 167, 168, 169, 170, 171, 172, 173, 174, 175, 176] (by decide +kernel) (by decide +kernel)
set_option maxRecDepth 20000 in
theorem gL_isCache_X1_used : GoodIn wsL_isCache (wsV RL 98 RX1 yX1_used wsX1_used) := goodIn_app (goodIn_of _ (by decide +kernel)) ggL_isCache_X1_used
set_option maxRecDepth 20000 in
theorem ggL_isCache_L_used : GoodIn wsL_isCache wsL_used := goodIn_r _ [61] (by decide +kernel) (by decide +kernel)
set_option maxRecDepth 20000 in
theorem gL_isCache_L_used : GoodIn wsL_isCache (va_wsS RL 27 yL_used wsL_used) := goodIn_app (goodIn_of _ (by decide +kernel)) ggL_isCache_L_used
set_option maxRecDepth 20000 in
theorem ggL_isCache_X1_has : GoodIn wsL_isCache wsX1_has := goodIn_ca (goodIn_r _ [65, 66, 67, 68, 5, 69, 70, 71, 57, 168, 169, 170, 171, 172, 173, 174, 175, 176, 155, 156, 157, 158, 159, 160, 161, 162, 163, 164, 165, 166, 167] (by decide +kernel) (by decide +kernel)) (goodIn_sub (fun _ h => List.mem_cons_of_mem _ (List.mem_append_left _ (List.mem_append_right _ h))) (by decide +kernel))
set_option maxRecDepth 20000 in
theorem gL_isCache_X1_has : GoodIn wsL_isCache (wsV RL 100 RX1 yX1_has wsX1_has) := goodIn_app (goodIn_of _ (by decide +kernel)) ggL_isCache_X1_has
set_option maxRecDepth 20000 in
theorem ggL_isCache_X1_isOver : GoodIn wsL_isCache wsX1_isOver := goodIn_ca (goodIn_r _ [75, 66, 67, 68, 5, 69, 70, 71, 57, 76, 77, 78, 79, 7, 168, 169, 170, 171, 172, 173, 174, 175, 176, 155, 156, 157, 158, 159, 160, 161, 162, 163, 164, 165, 166, 167] (by decide +kernel) (by decide +kernel)) (goodIn_sub (fun _ h => List.mem_cons_of_mem _ (List.mem_append_left _ (List.mem_append_right _ h))) (by decide +kernel))
set_option maxRecDepth 20000 in
theorem gL_isCache_X1_isOver : GoodIn wsL_isCache (wsV RL 104 RX1 yX1_isOver wsX1_isOver) := goodIn_app (goodIn_of _ (by decide +kernel)) ggL_isCache_X1_isOver
set_option maxRecDepth 20000 in
theorem ggL_isCache_X1_sizeOf : GoodIn wsL_isCache wsX1_sizeOf := goodIn_ca (goodIn_r _ [83, 66, 67, 68, 5, 69, 70, 71, 57, 168, 169, 170, 171, 172, 173, 174, 175, 176, 155, 156, 157, 158, 159, 160, 161, 162, 163, 164, 165, 166, 167] (by decide +kernel) (by decide +kernel)) (goodIn_sub (fun _ h => List.mem_cons_of_mem _ (List.mem_append_left _ (List.mem_append_right _ h))) (by decide +kernel))
set_option maxRecDepth 20000 in
theorem gL_isCache_X1_sizeOf : GoodIn wsL_isCache (wsV RL 107 RX1 yX1_sizeOf wsX1_sizeOf) := goodIn_app (goodIn_of _ (by decide +kernel)) ggL_isCache_X1_sizeOf
set_option maxRecDepth 20000 in
theorem ggL_isCache_X1_frequencyOf : GoodIn wsL_isCache wsX1_frequencyOf := goodIn_ca (goodIn_r _ [87, 66, 67, 68, 5, 69, 70, 71, 57, 168, 169, 170, 171, 172, 173, 174, 175, 176, 155, 156, 157, 158, 159, 160, 161, 162, 163, 164, 165, 166, 167] (by decide +kernel) (by decide +kernel)) (goodIn_sub (fun _ h => List.mem_cons_of_mem _ (List.mem_append_left _ (List.mem_append_right _ h))) (by decide +kernel))
set_option maxRecDepth 20000 in
theorem gL_isCache_X1_frequencyOf : GoodIn wsL_isCache (wsV RL 110 RX1 yX1_frequencyOf wsX1_frequencyOf) := goodIn_app (goodIn_of _ (by decide +kernel)) ggL_isCache_X1_frequencyOf
set_option maxRecDepth 20000 in
theorem ggL_isCache_X1_worthOf : GoodIn wsL_isCache wsX1_worthOf := goodIn_ca (goodIn_r _ [91, 92, 66, 67, 68, 5, 69, 70, 71, 57, 168, 169, 170, 171, 172, 173, 174, 175, 176, 155, 156, 157, 158, 159, 160, 161, 162, 163, 164, 165, 166, 167] (by decide +kernel) (by decide +kernel)) (goodIn_sub (fun _ h => List.mem_cons_of_mem _ (List.mem_append_left _ (List.mem_append_right _ h))) (by decide +kernel))
set_option maxRecDepth 20000 in
theorem gL_isCache_X1_worthOf : GoodIn wsL_isCache (wsV RL 113 RX1 yX1_worthOf wsX1_worthOf) := goodIn_app (goodIn_of _ (by decide +kernel)) ggL_isCache_X1_worthOf
set_option maxRecDepth 20000 in
theorem ggL_isCache_X1_endOf : GoodIn wsL_isCache wsX1_endOf := goodIn_ca (goodIn_r _ [96, 66, 67, 68, 5, 69, 70, 71, 57, 168, 169, 170, 171, 172, 173, 174, 175, 176, 155, 156, 157, 158, 159, 160, 161, 162, 163, 164, 165, 166, 167] (by decide +kernel) (by decide +kernel)) (goodIn_sub (fun _ h => List.mem_cons_of_mem _ (List.mem_append_left _ (List.mem_append_right _ h))) (by decide +kernel))
set_option maxRecDepth 20000 in
theorem gL_isCache_X1_endOf : GoodIn wsL_isCache (wsV RL 119 RX1 yX1_endOf wsX1_endOf) := goodIn_app (goodIn_of _ (by decide +kernel)) ggL_isCache_X1_endOf
set_option maxRecDepth 20000 in
theorem ggL_isCache_X1_placeOf : GoodIn wsL_isCache wsX1_placeOf := goodIn_ca (goodIn_r _ [100, 57, 66, 67, 68, 5, 69, 70, 71, 101, 102, 103, 104, 105, 106, 155, 156, 157, 158, 159, 160, 161, 162, 163, 164, 165, 166, 167, 168, 169, 170, 171, 172, 173, 174, 175, 176] (by decide +kernel) (by decide +kernel)) (goodIn_sub (fun _ h => List.mem_cons_of_mem _ (List.mem_append_left _ (List.mem_append_right _ h))) (by decide +kernel))
set_option maxRecDepth 20000 in
theorem gL_isCache_X1_placeOf : GoodIn wsL_isCache (wsV RL 122 RX1 yX1_placeOf wsX1_placeOf) := goodIn_app (goodIn_of _ (by decide +kernel)) ggL_isCache_X1_placeOf
set_option maxRecDepth 20000 in
theorem ggL_isCache_L_order : GoodIn wsL_isCache wsL_order := goodIn_ca (goodIn_r _ [109, 110, 111, 112, 113, 5, 114, 70, 71, 115, 116, 117, 118, 119, 120, 121, 122, 57, 104, 105, 106, 101, 102, 103, 168, 169, 170, 171, 172, 173, 174, 175, 176, 155, 156, 157, 158, 159, 160, 161, 162, 163, 164, 165, 166, 167] (by decide +kernel) (by decide +kernel)) (goodIn_sub (fun _ h => List.mem_cons_of_mem _ (List.mem_append_left _ (List.mem_append_right _ h))) (by decide +kernel))
set_option maxRecDepth 20000 in
theorem gL_isCache_L_order : GoodIn wsL_isCache (va_wsS RL 125 yL_order wsL_order) := goodIn_app (goodIn_of _ (by decide +kernel)) ggL_isCache_L_order
set_option maxRecDepth 20000 in
theorem ggL_isCache_X1_entries : GoodIn wsL_isCache wsX1_entries := goodIn_r _ [126, 57, 155, 156, 157, 158, 159, 160, 161, 162, 163, 164, 165, 166, 167, 168, 169, 170, 171, 172, 173, 174, 175, 176] (by decide +kernel) (by decide +kernel)
set_option maxRecDepth 20000 in
theorem gL_isCache_X1_entries : GoodIn wsL_isCache (wsV RL 129 RX1 yX1_entries wsX1_entries) := goodIn_app (goodIn_of _ (by decide +kernel)) ggL_isCache_X1_entries
set_option maxRecDepth 20000 in
theorem ggL_isCache_X1_endsFirst : GoodIn wsL_isCache wsX1_endsFirst := goodIn_r _ [130, 57, 155, 156, 157, 158, 159, 160, 161, 162, 163, 164, 165, 166, 167, 168, 169, 170, 171, 172, 173, 174, 175, 176] (by decide +kernel) (by decide +kernel)
set_option maxRecDepth 20000 in
theorem gL_isCache_X1_endsFirst : GoodIn wsL_isCache (wsV RL 132 RX1 yX1_endsFirst wsX1_endsFirst) := goodIn_app (goodIn_of _ (by decide +kernel)) ggL_isCache_X1_endsFirst
set_option maxRecDepth 20000 in
theorem ggL_isCache_X1_wouldLeave : GoodIn wsL_isCache wsX1_wouldLeave := goodIn_ca (goodIn_r _ [134, 12, 135, 136, 5, 137, 138, 139, 140, 141, 142, 143, 57, 76, 77, 78, 79, 7, 144, 145, 146, 147, 148, 149, 150, 151, 115, 116, 117, 118, 119, 120, 121, 122, 104, 105, 106, 101, 102, 103, 155, 156, 157, 158, 159, 160, 161, 162, 163, 164, 165, 166, 167, 168, 169, 170, 171, 172, 173, 174, 175, 176] (by decide +kernel) (by decide +kernel)) (goodIn_sub (fun _ h => List.mem_cons_of_mem _ (List.mem_append_right _ h)) (by decide +kernel))
set_option maxRecDepth 20000 in
theorem gL_isCache_X1_wouldLeave : GoodIn wsL_isCache (wsV RL 135 RX1 yX1_wouldLeave wsX1_wouldLeave) := goodIn_app (goodIn_of _ (by decide +kernel)) ggL_isCache_X1_wouldLeave
set_option maxRecDepth 20000 in
theorem ggL_isCache_L_would : GoodIn wsL_isCache wsL_would := goodIn_r _ [154, 58, 59, 60, 61] (by decide +kernel) (by decide +kernel)
set_option maxRecDepth 20000 in
theorem gL_isCache_L_would : GoodIn wsL_isCache (va_wsS RL 138 yL_would wsL_would) := goodIn_app (goodIn_of _ (by decide +kernel)) ggL_isCache_L_would
theorem dL_isCache_0 : decode cL_isCache 0 = .ok (.iconst 0, 1) := by decide +kernel
theorem dL_isCache_1 : decode cL_isCache 1 = .ok (.istore 10, 2) := by decide +kernel
theorem dL_isCache_3 : decode cL_isCache 3 = .ok (.iconst (-1), 1) := by decide +kernel
theorem dL_isCache_4 : decode cL_isCache 4 = .ok (.istore 11, 2) := by decide +kernel
theorem dL_isCache_6 : decode cL_isCache 6 = .ok (.aload_n 0, 1) := by decide +kernel
theorem dL_isCache_7 : decode cL_isCache 7 = .ok (.invokevirtual 66, 3) := by decide +kernel
theorem dL_isCache_10 : decode cL_isCache 10 = .ok (.aload 6, 2) := by decide +kernel
theorem dL_isCache_12 : decode cL_isCache 12 = .ok (.iconst 0, 1) := by decide +kernel
theorem dL_isCache_13 : decode cL_isCache 13 = .ok (.iaload, 1) := by decide +kernel
theorem dL_isCache_14 : decode cL_isCache 14 = .ok (.if_icmp .ne 123, 3) := by decide +kernel
theorem dL_isCache_17 : decode cL_isCache 17 = .ok (.aload_n 0, 1) := by decide +kernel
theorem dL_isCache_18 : decode cL_isCache 18 = .ok (.invokevirtual 70, 3) := by decide +kernel
theorem dL_isCache_21 : decode cL_isCache 21 = .ok (.aload 6, 2) := by decide +kernel
theorem dL_isCache_23 : decode cL_isCache 23 = .ok (.iconst 1, 1) := by decide +kernel
theorem dL_isCache_24 : decode cL_isCache 24 = .ok (.iaload, 1) := by decide +kernel
theorem dL_isCache_25 : decode cL_isCache 25 = .ok (.if_icmp .ne 112, 3) := by decide +kernel
theorem dL_isCache_28 : decode cL_isCache 28 = .ok (.aload_n 0, 1) := by decide +kernel
theorem dL_isCache_29 : decode cL_isCache 29 = .ok (.invokevirtual 73, 3) := by decide +kernel
theorem dL_isCache_32 : decode cL_isCache 32 = .ok (.aload 6, 2) := by decide +kernel
theorem dL_isCache_34 : decode cL_isCache 34 = .ok (.iconst 4, 1) := by decide +kernel
theorem dL_isCache_35 : decode cL_isCache 35 = .ok (.iaload, 1) := by decide +kernel
theorem dL_isCache_36 : decode cL_isCache 36 = .ok (.if_icmp .ne 101, 3) := by decide +kernel
theorem dL_isCache_39 : decode cL_isCache 39 = .ok (.aload_n 0, 1) := by decide +kernel
theorem dL_isCache_40 : decode cL_isCache 40 = .ok (.invokevirtual 76, 3) := by decide +kernel
theorem dL_isCache_43 : decode cL_isCache 43 = .ok (.aload 6, 2) := by decide +kernel
theorem dL_isCache_45 : decode cL_isCache 45 = .ok (.iconst 5, 1) := by decide +kernel
theorem dL_isCache_46 : decode cL_isCache 46 = .ok (.iaload, 1) := by decide +kernel
theorem dL_isCache_47 : decode cL_isCache 47 = .ok (.if_icmp .ne 90, 3) := by decide +kernel
theorem dL_isCache_50 : decode cL_isCache 50 = .ok (.aload_n 0, 1) := by decide +kernel
theorem dL_isCache_51 : decode cL_isCache 51 = .ok (.invokevirtual 79, 3) := by decide +kernel
theorem dL_isCache_54 : decode cL_isCache 54 = .ok (.aload 6, 2) := by decide +kernel
theorem dL_isCache_56 : decode cL_isCache 56 = .ok (.bipush 6, 2) := by decide +kernel
theorem dL_isCache_58 : decode cL_isCache 58 = .ok (.iaload, 1) := by decide +kernel
theorem dL_isCache_59 : decode cL_isCache 59 = .ok (.if_icmp .ne 78, 3) := by decide +kernel
theorem dL_isCache_62 : decode cL_isCache 62 = .ok (.aload_n 0, 1) := by decide +kernel
theorem dL_isCache_63 : decode cL_isCache 63 = .ok (.invokevirtual 82, 3) := by decide +kernel
theorem dL_isCache_66 : decode cL_isCache 66 = .ok (.aload 6, 2) := by decide +kernel
theorem dL_isCache_68 : decode cL_isCache 68 = .ok (.bipush 7, 2) := by decide +kernel
theorem dL_isCache_70 : decode cL_isCache 70 = .ok (.iaload, 1) := by decide +kernel
theorem dL_isCache_71 : decode cL_isCache 71 = .ok (.if_icmp .ne 66, 3) := by decide +kernel
theorem dL_isCache_74 : decode cL_isCache 74 = .ok (.aload_n 0, 1) := by decide +kernel
theorem dL_isCache_75 : decode cL_isCache 75 = .ok (.invokevirtual 85, 3) := by decide +kernel
theorem dL_isCache_78 : decode cL_isCache 78 = .ok (.aload 8, 2) := by decide +kernel
theorem dL_isCache_80 : decode cL_isCache 80 = .ok (.iconst 0, 1) := by decide +kernel
theorem dL_isCache_81 : decode cL_isCache 81 = .ok (.laload, 1) := by decide +kernel
theorem dL_isCache_82 : decode cL_isCache 82 = .ok (.lcmp, 1) := by decide +kernel
theorem dL_isCache_83 : decode cL_isCache 83 = .ok (.ifCond .ne 54, 3) := by decide +kernel
theorem dL_isCache_86 : decode cL_isCache 86 = .ok (.aload_n 0, 1) := by decide +kernel
theorem dL_isCache_87 : decode cL_isCache 87 = .ok (.invokevirtual 89, 3) := by decide +kernel
theorem dL_isCache_90 : decode cL_isCache 90 = .ok (.aload 8, 2) := by decide +kernel
theorem dL_isCache_92 : decode cL_isCache 92 = .ok (.iconst 1, 1) := by decide +kernel
theorem dL_isCache_93 : decode cL_isCache 93 = .ok (.laload, 1) := by decide +kernel
theorem dL_isCache_94 : decode cL_isCache 94 = .ok (.lcmp, 1) := by decide +kernel
theorem dL_isCache_95 : decode cL_isCache 95 = .ok (.ifCond .ne 42, 3) := by decide +kernel
theorem dL_isCache_98 : decode cL_isCache 98 = .ok (.aload_n 0, 1) := by decide +kernel
theorem dL_isCache_99 : decode cL_isCache 99 = .ok (.invokevirtual 92, 3) := by decide +kernel
theorem dL_isCache_102 : decode cL_isCache 102 = .ok (.aload 8, 2) := by decide +kernel
theorem dL_isCache_104 : decode cL_isCache 104 = .ok (.iconst 2, 1) := by decide +kernel
theorem dL_isCache_105 : decode cL_isCache 105 = .ok (.laload, 1) := by decide +kernel
theorem dL_isCache_106 : decode cL_isCache 106 = .ok (.lcmp, 1) := by decide +kernel
theorem dL_isCache_107 : decode cL_isCache 107 = .ok (.ifCond .ne 30, 3) := by decide +kernel
theorem dL_isCache_110 : decode cL_isCache 110 = .ok (.aload_n 0, 1) := by decide +kernel
theorem dL_isCache_111 : decode cL_isCache 111 = .ok (.invokevirtual 95, 3) := by decide +kernel
theorem dL_isCache_114 : decode cL_isCache 114 = .ok (.aload 8, 2) := by decide +kernel
theorem dL_isCache_116 : decode cL_isCache 116 = .ok (.iconst 3, 1) := by decide +kernel
theorem dL_isCache_117 : decode cL_isCache 117 = .ok (.laload, 1) := by decide +kernel
theorem dL_isCache_118 : decode cL_isCache 118 = .ok (.lcmp, 1) := by decide +kernel
theorem dL_isCache_119 : decode cL_isCache 119 = .ok (.ifCond .ne 18, 3) := by decide +kernel
theorem dL_isCache_122 : decode cL_isCache 122 = .ok (.aload_n 0, 1) := by decide +kernel
theorem dL_isCache_123 : decode cL_isCache 123 = .ok (.invokevirtual 98, 3) := by decide +kernel
theorem dL_isCache_126 : decode cL_isCache 126 = .ok (.aload_n 1, 1) := by decide +kernel
theorem dL_isCache_127 : decode cL_isCache 127 = .ok (.invokestatic 27, 3) := by decide +kernel
theorem dL_isCache_130 : decode cL_isCache 130 = .ok (.if_icmp .ne 7, 3) := by decide +kernel
theorem dL_isCache_133 : decode cL_isCache 133 = .ok (.iconst 1, 1) := by decide +kernel
theorem dL_isCache_134 : decode cL_isCache 134 = .ok (.goto 4, 3) := by decide +kernel
theorem dL_isCache_137 : decode cL_isCache 137 = .ok (.iconst 0, 1) := by decide +kernel
theorem dL_isCache_138 : decode cL_isCache 138 = .ok (.istore 12, 2) := by decide +kernel
theorem dL_isCache_140 : decode cL_isCache 140 = .ok (.iconst 0, 1) := by decide +kernel
theorem dL_isCache_141 : decode cL_isCache 141 = .ok (.istore 13, 2) := by decide +kernel
theorem dL_isCache_143 : decode cL_isCache 143 = .ok (.iload 13, 2) := by decide +kernel
theorem dL_isCache_145 : decode cL_isCache 145 = .ok (.bipush 32, 2) := by decide +kernel
theorem dL_isCache_147 : decode cL_isCache 147 = .ok (.if_icmp .ge 283, 3) := by decide +kernel
theorem dL_isCache_150 : decode cL_isCache 150 = .ok (.iload 12, 2) := by decide +kernel
theorem dL_isCache_152 : decode cL_isCache 152 = .ok (.ifCond .eq 278, 3) := by decide +kernel
theorem dL_isCache_155 : decode cL_isCache 155 = .ok (.aload_n 1, 1) := by decide +kernel
theorem dL_isCache_156 : decode cL_isCache 156 = .ok (.iload 13, 2) := by decide +kernel
theorem dL_isCache_158 : decode cL_isCache 158 = .ok (.iaload, 1) := by decide +kernel
theorem dL_isCache_159 : decode cL_isCache 159 = .ok (.ifCond .le 7, 3) := by decide +kernel
theorem dL_isCache_162 : decode cL_isCache 162 = .ok (.iconst 1, 1) := by decide +kernel
theorem dL_isCache_163 : decode cL_isCache 163 = .ok (.goto 4, 3) := by decide +kernel
theorem dL_isCache_166 : decode cL_isCache 166 = .ok (.iconst 0, 1) := by decide +kernel
theorem dL_isCache_167 : decode cL_isCache 167 = .ok (.istore 14, 2) := by decide +kernel
theorem dL_isCache_169 : decode cL_isCache 169 = .ok (.iload 10, 2) := by decide +kernel
theorem dL_isCache_171 : decode cL_isCache 171 = .ok (.iload 14, 2) := by decide +kernel
theorem dL_isCache_173 : decode cL_isCache 173 = .ok (.ifCond .eq 7, 3) := by decide +kernel
theorem dL_isCache_176 : decode cL_isCache 176 = .ok (.iconst 1, 1) := by decide +kernel
theorem dL_isCache_177 : decode cL_isCache 177 = .ok (.goto 4, 3) := by decide +kernel
theorem dL_isCache_180 : decode cL_isCache 180 = .ok (.iconst 0, 1) := by decide +kernel
theorem dL_isCache_181 : decode cL_isCache 181 = .ok (.iadd, 1) := by decide +kernel
theorem dL_isCache_182 : decode cL_isCache 182 = .ok (.istore 10, 2) := by decide +kernel
theorem dL_isCache_184 : decode cL_isCache 184 = .ok (.iload 14, 2) := by decide +kernel
theorem dL_isCache_186 : decode cL_isCache 186 = .ok (.ifCond .eq 24, 3) := by decide +kernel
theorem dL_isCache_189 : decode cL_isCache 189 = .ok (.iload 11, 2) := by decide +kernel
theorem dL_isCache_191 : decode cL_isCache 191 = .ok (.ifCond .lt 14, 3) := by decide +kernel
theorem dL_isCache_194 : decode cL_isCache 194 = .ok (.aload_n 3, 1) := by decide +kernel
theorem dL_isCache_195 : decode cL_isCache 195 = .ok (.iload 13, 2) := by decide +kernel
theorem dL_isCache_197 : decode cL_isCache 197 = .ok (.iaload, 1) := by decide +kernel
theorem dL_isCache_198 : decode cL_isCache 198 = .ok (.aload_n 3, 1) := by decide +kernel
theorem dL_isCache_199 : decode cL_isCache 199 = .ok (.iload 11, 2) := by decide +kernel
theorem dL_isCache_201 : decode cL_isCache 201 = .ok (.iaload, 1) := by decide +kernel
theorem dL_isCache_202 : decode cL_isCache 202 = .ok (.if_icmp .ge 8, 3) := by decide +kernel
theorem dL_isCache_205 : decode cL_isCache 205 = .ok (.iload 13, 2) := by decide +kernel
theorem dL_isCache_207 : decode cL_isCache 207 = .ok (.goto 5, 3) := by decide +kernel
theorem dL_isCache_210 : decode cL_isCache 210 = .ok (.iload 11, 2) := by decide +kernel
theorem dL_isCache_212 : decode cL_isCache 212 = .ok (.istore 11, 2) := by decide +kernel
theorem dL_isCache_214 : decode cL_isCache 214 = .ok (.iconst (-1), 1) := by decide +kernel
theorem dL_isCache_215 : decode cL_isCache 215 = .ok (.istore 15, 2) := by decide +kernel
theorem dL_isCache_217 : decode cL_isCache 217 = .ok (.iconst 0, 1) := by decide +kernel
theorem dL_isCache_218 : decode cL_isCache 218 = .ok (.istore 16, 2) := by decide +kernel
theorem dL_isCache_220 : decode cL_isCache 220 = .ok (.iload 16, 2) := by decide +kernel
theorem dL_isCache_222 : decode cL_isCache 222 = .ok (.aload 6, 2) := by decide +kernel
theorem dL_isCache_224 : decode cL_isCache 224 = .ok (.iconst 3, 1) := by decide +kernel
theorem dL_isCache_225 : decode cL_isCache 225 = .ok (.iaload, 1) := by decide +kernel
theorem dL_isCache_226 : decode cL_isCache 226 = .ok (.if_icmp .ge 28, 3) := by decide +kernel
theorem dL_isCache_229 : decode cL_isCache 229 = .ok (.aload 5, 2) := by decide +kernel
theorem dL_isCache_231 : decode cL_isCache 231 = .ok (.iload 16, 2) := by decide +kernel
theorem dL_isCache_233 : decode cL_isCache 233 = .ok (.iaload, 1) := by decide +kernel
theorem dL_isCache_234 : decode cL_isCache 234 = .ok (.iload 13, 2) := by decide +kernel
theorem dL_isCache_236 : decode cL_isCache 236 = .ok (.if_icmp .ne 8, 3) := by decide +kernel
theorem dL_isCache_239 : decode cL_isCache 239 = .ok (.iload 16, 2) := by decide +kernel
theorem dL_isCache_241 : decode cL_isCache 241 = .ok (.goto 5, 3) := by decide +kernel
theorem dL_isCache_244 : decode cL_isCache 244 = .ok (.iload 15, 2) := by decide +kernel
theorem dL_isCache_246 : decode cL_isCache 246 = .ok (.istore 15, 2) := by decide +kernel
theorem dL_isCache_248 : decode cL_isCache 248 = .ok (.iinc 16 1, 3) := by decide +kernel
theorem dL_isCache_251 : decode cL_isCache 251 = .ok (.goto (-31), 3) := by decide +kernel
theorem dL_isCache_254 : decode cL_isCache 254 = .ok (.aload_n 0, 1) := by decide +kernel
theorem dL_isCache_255 : decode cL_isCache 255 = .ok (.iload 13, 2) := by decide +kernel
theorem dL_isCache_257 : decode cL_isCache 257 = .ok (.invokevirtual 100, 3) := by decide +kernel
theorem dL_isCache_260 : decode cL_isCache 260 = .ok (.iload 14, 2) := by decide +kernel
theorem dL_isCache_262 : decode cL_isCache 262 = .ok (.if_icmp .ne 159, 3) := by decide +kernel
theorem dL_isCache_265 : decode cL_isCache 265 = .ok (.aload_n 0, 1) := by decide +kernel
theorem dL_isCache_266 : decode cL_isCache 266 = .ok (.iload 13, 2) := by decide +kernel
theorem dL_isCache_268 : decode cL_isCache 268 = .ok (.invokevirtual 104, 3) := by decide +kernel
theorem dL_isCache_271 : decode cL_isCache 271 = .ok (.iload 14, 2) := by decide +kernel
theorem dL_isCache_273 : decode cL_isCache 273 = .ok (.ifCond .eq 18, 3) := by decide +kernel
theorem dL_isCache_276 : decode cL_isCache 276 = .ok (.aload_n 3, 1) := by decide +kernel
theorem dL_isCache_277 : decode cL_isCache 277 = .ok (.iload 13, 2) := by decide +kernel
theorem dL_isCache_279 : decode cL_isCache 279 = .ok (.iaload, 1) := by decide +kernel
theorem dL_isCache_280 : decode cL_isCache 280 = .ok (.aload 6, 2) := by decide +kernel
theorem dL_isCache_282 : decode cL_isCache 282 = .ok (.iconst 0, 1) := by decide +kernel
theorem dL_isCache_283 : decode cL_isCache 283 = .ok (.iaload, 1) := by decide +kernel
theorem dL_isCache_284 : decode cL_isCache 284 = .ok (.if_icmp .gt 7, 3) := by decide +kernel
theorem dL_isCache_287 : decode cL_isCache 287 = .ok (.iconst 1, 1) := by decide +kernel
theorem dL_isCache_288 : decode cL_isCache 288 = .ok (.goto 4, 3) := by decide +kernel
theorem dL_isCache_291 : decode cL_isCache 291 = .ok (.iconst 0, 1) := by decide +kernel
theorem dL_isCache_292 : decode cL_isCache 292 = .ok (.if_icmp .ne 129, 3) := by decide +kernel
theorem dL_isCache_295 : decode cL_isCache 295 = .ok (.aload_n 0, 1) := by decide +kernel
theorem dL_isCache_296 : decode cL_isCache 296 = .ok (.iload 13, 2) := by decide +kernel
theorem dL_isCache_298 : decode cL_isCache 298 = .ok (.invokevirtual 107, 3) := by decide +kernel
theorem dL_isCache_301 : decode cL_isCache 301 = .ok (.aload_n 1, 1) := by decide +kernel
theorem dL_isCache_302 : decode cL_isCache 302 = .ok (.iload 13, 2) := by decide +kernel
theorem dL_isCache_304 : decode cL_isCache 304 = .ok (.iaload, 1) := by decide +kernel
theorem dL_isCache_305 : decode cL_isCache 305 = .ok (.if_icmp .ne 116, 3) := by decide +kernel
theorem dL_isCache_308 : decode cL_isCache 308 = .ok (.aload_n 0, 1) := by decide +kernel
theorem dL_isCache_309 : decode cL_isCache 309 = .ok (.iload 13, 2) := by decide +kernel
theorem dL_isCache_311 : decode cL_isCache 311 = .ok (.invokevirtual 110, 3) := by decide +kernel
theorem dL_isCache_314 : decode cL_isCache 314 = .ok (.iload 14, 2) := by decide +kernel
theorem dL_isCache_316 : decode cL_isCache 316 = .ok (.ifCond .eq 10, 3) := by decide +kernel
theorem dL_isCache_319 : decode cL_isCache 319 = .ok (.aload_n 2, 1) := by decide +kernel
theorem dL_isCache_320 : decode cL_isCache 320 = .ok (.iload 13, 2) := by decide +kernel
theorem dL_isCache_322 : decode cL_isCache 322 = .ok (.iaload, 1) := by decide +kernel
theorem dL_isCache_323 : decode cL_isCache 323 = .ok (.goto 4, 3) := by decide +kernel
theorem dL_isCache_326 : decode cL_isCache 326 = .ok (.iconst 0, 1) := by decide +kernel
theorem dL_isCache_327 : decode cL_isCache 327 = .ok (.if_icmp .ne 94, 3) := by decide +kernel
theorem dL_isCache_330 : decode cL_isCache 330 = .ok (.aload_n 0, 1) := by decide +kernel
theorem dL_isCache_331 : decode cL_isCache 331 = .ok (.iload 13, 2) := by decide +kernel
theorem dL_isCache_333 : decode cL_isCache 333 = .ok (.invokevirtual 113, 3) := by decide +kernel
theorem dL_isCache_336 : decode cL_isCache 336 = .ok (.iload 14, 2) := by decide +kernel
theorem dL_isCache_338 : decode cL_isCache 338 = .ok (.ifCond .eq 11, 3) := by decide +kernel
theorem dL_isCache_341 : decode cL_isCache 341 = .ok (.aload 7, 2) := by decide +kernel
theorem dL_isCache_343 : decode cL_isCache 343 = .ok (.iload 13, 2) := by decide +kernel
theorem dL_isCache_345 : decode cL_isCache 345 = .ok (.laload, 1) := by decide +kernel
theorem dL_isCache_346 : decode cL_isCache 346 = .ok (.goto 6, 3) := by decide +kernel
theorem dL_isCache_349 : decode cL_isCache 349 = .ok (.ldc2_w 117, 3) := by decide +kernel
theorem dL_isCache_352 : decode cL_isCache 352 = .ok (.lcmp, 1) := by decide +kernel
theorem dL_isCache_353 : decode cL_isCache 353 = .ok (.ifCond .ne 68, 3) := by decide +kernel
theorem dL_isCache_356 : decode cL_isCache 356 = .ok (.aload_n 0, 1) := by decide +kernel
theorem dL_isCache_357 : decode cL_isCache 357 = .ok (.iload 13, 2) := by decide +kernel
theorem dL_isCache_359 : decode cL_isCache 359 = .ok (.invokevirtual 119, 3) := by decide +kernel
theorem dL_isCache_362 : decode cL_isCache 362 = .ok (.iload 14, 2) := by decide +kernel
theorem dL_isCache_364 : decode cL_isCache 364 = .ok (.ifCond .eq 10, 3) := by decide +kernel
theorem dL_isCache_367 : decode cL_isCache 367 = .ok (.aload_n 3, 1) := by decide +kernel
theorem dL_isCache_368 : decode cL_isCache 368 = .ok (.iload 13, 2) := by decide +kernel
theorem dL_isCache_370 : decode cL_isCache 370 = .ok (.iaload, 1) := by decide +kernel
theorem dL_isCache_371 : decode cL_isCache 371 = .ok (.goto 4, 3) := by decide +kernel
theorem dL_isCache_374 : decode cL_isCache 374 = .ok (.iconst (-1), 1) := by decide +kernel
theorem dL_isCache_375 : decode cL_isCache 375 = .ok (.if_icmp .ne 46, 3) := by decide +kernel
theorem dL_isCache_378 : decode cL_isCache 378 = .ok (.aload_n 0, 1) := by decide +kernel
theorem dL_isCache_379 : decode cL_isCache 379 = .ok (.iload 13, 2) := by decide +kernel
theorem dL_isCache_381 : decode cL_isCache 381 = .ok (.invokevirtual 122, 3) := by decide +kernel
theorem dL_isCache_384 : decode cL_isCache 384 = .ok (.iload 15, 2) := by decide +kernel
theorem dL_isCache_386 : decode cL_isCache 386 = .ok (.if_icmp .ne 35, 3) := by decide +kernel
theorem dL_isCache_389 : decode cL_isCache 389 = .ok (.aload_n 0, 1) := by decide +kernel
theorem dL_isCache_390 : decode cL_isCache 390 = .ok (.iload 13, 2) := by decide +kernel
theorem dL_isCache_392 : decode cL_isCache 392 = .ok (.invokestatic 125, 3) := by decide +kernel
theorem dL_isCache_395 : decode cL_isCache 395 = .ok (.iload 13, 2) := by decide +kernel
theorem dL_isCache_397 : decode cL_isCache 397 = .ok (.aload 6, 2) := by decide +kernel
theorem dL_isCache_399 : decode cL_isCache 399 = .ok (.iconst 3, 1) := by decide +kernel
theorem dL_isCache_400 : decode cL_isCache 400 = .ok (.iaload, 1) := by decide +kernel
theorem dL_isCache_401 : decode cL_isCache 401 = .ok (.if_icmp .ge 11, 3) := by decide +kernel
theorem dL_isCache_404 : decode cL_isCache 404 = .ok (.aload 5, 2) := by decide +kernel
theorem dL_isCache_406 : decode cL_isCache 406 = .ok (.iload 13, 2) := by decide +kernel
theorem dL_isCache_408 : decode cL_isCache 408 = .ok (.iaload, 1) := by decide +kernel
theorem dL_isCache_409 : decode cL_isCache 409 = .ok (.goto 5, 3) := by decide +kernel
theorem dL_isCache_412 : decode cL_isCache 412 = .ok (.bipush (-11), 2) := by decide +kernel
theorem dL_isCache_414 : decode cL_isCache 414 = .ok (.if_icmp .ne 7, 3) := by decide +kernel
theorem dL_isCache_417 : decode cL_isCache 417 = .ok (.iconst 1, 1) := by decide +kernel
theorem dL_isCache_418 : decode cL_isCache 418 = .ok (.goto 4, 3) := by decide +kernel
theorem dL_isCache_421 : decode cL_isCache 421 = .ok (.iconst 0, 1) := by decide +kernel
theorem dL_isCache_422 : decode cL_isCache 422 = .ok (.istore 12, 2) := by decide +kernel
theorem dL_isCache_424 : decode cL_isCache 424 = .ok (.iinc 13 1, 3) := by decide +kernel
theorem dL_isCache_427 : decode cL_isCache 427 = .ok (.goto (-284), 3) := by decide +kernel
theorem dL_isCache_430 : decode cL_isCache 430 = .ok (.iconst 1, 1) := by decide +kernel
theorem dL_isCache_431 : decode cL_isCache 431 = .ok (.iload 9, 2) := by decide +kernel
theorem dL_isCache_433 : decode cL_isCache 433 = .ok (.sipush 140, 3) := by decide +kernel
theorem dL_isCache_436 : decode cL_isCache 436 = .ok (.irem, 1) := by decide +kernel
theorem dL_isCache_437 : decode cL_isCache 437 = .ok (.iadd, 1) := by decide +kernel
theorem dL_isCache_438 : decode cL_isCache 438 = .ok (.istore 13, 2) := by decide +kernel
theorem dL_isCache_440 : decode cL_isCache 440 = .ok (.iload 12, 2) := by decide +kernel
theorem dL_isCache_442 : decode cL_isCache 442 = .ok (.ifCond .eq 47, 3) := by decide +kernel
theorem dL_isCache_445 : decode cL_isCache 445 = .ok (.aload_n 0, 1) := by decide +kernel
theorem dL_isCache_446 : decode cL_isCache 446 = .ok (.invokevirtual 129, 3) := by decide +kernel
theorem dL_isCache_449 : decode cL_isCache 449 = .ok (.iload 10, 2) := by decide +kernel
theorem dL_isCache_451 : decode cL_isCache 451 = .ok (.if_icmp .ne 38, 3) := by decide +kernel
theorem dL_isCache_454 : decode cL_isCache 454 = .ok (.aload_n 0, 1) := by decide +kernel
theorem dL_isCache_455 : decode cL_isCache 455 = .ok (.invokevirtual 132, 3) := by decide +kernel
theorem dL_isCache_458 : decode cL_isCache 458 = .ok (.iload 11, 2) := by decide +kernel
theorem dL_isCache_460 : decode cL_isCache 460 = .ok (.if_icmp .ne 29, 3) := by decide +kernel
theorem dL_isCache_463 : decode cL_isCache 463 = .ok (.aload_n 0, 1) := by decide +kernel
theorem dL_isCache_464 : decode cL_isCache 464 = .ok (.iload 13, 2) := by decide +kernel
theorem dL_isCache_466 : decode cL_isCache 466 = .ok (.invokevirtual 135, 3) := by decide +kernel
theorem dL_isCache_469 : decode cL_isCache 469 = .ok (.aload_n 1, 1) := by decide +kernel
theorem dL_isCache_470 : decode cL_isCache 470 = .ok (.aload_n 3, 1) := by decide +kernel
theorem dL_isCache_471 : decode cL_isCache 471 = .ok (.aload 4, 2) := by decide +kernel
theorem dL_isCache_473 : decode cL_isCache 473 = .ok (.aload 5, 2) := by decide +kernel
theorem dL_isCache_475 : decode cL_isCache 475 = .ok (.aload 6, 2) := by decide +kernel
theorem dL_isCache_477 : decode cL_isCache 477 = .ok (.iload 13, 2) := by decide +kernel
theorem dL_isCache_479 : decode cL_isCache 479 = .ok (.invokestatic 138, 3) := by decide +kernel
theorem dL_isCache_482 : decode cL_isCache 482 = .ok (.if_icmp .ne 7, 3) := by decide +kernel
theorem dL_isCache_485 : decode cL_isCache 485 = .ok (.iconst 1, 1) := by decide +kernel
theorem dL_isCache_486 : decode cL_isCache 486 = .ok (.goto 4, 3) := by decide +kernel
theorem dL_isCache_489 : decode cL_isCache 489 = .ok (.iconst 0, 1) := by decide +kernel
theorem dL_isCache_490 : decode cL_isCache 490 = .ok (.ireturn, 1) := by decide +kernel
set_option maxRecDepth 20000 in
theorem ggL_law_X1_init : GoodIn wsL_law wsX1_init := goodIn_r _ [9, 10, 11, 12, 13, 14, 15, 16, 17, 18, 19, 20, 21, 22, 23, 292, 293, 294, 295, 296, 297, 298, 299, 300, 301, 302, 303, 304, 305, 306, 307, 308, 309, 310, 311, 312, 313] (by decide +kernel) (by decide +kernel)
set_option maxRecDepth 20000 in
theorem gL_law_X1_init : GoodIn wsL_law (wsX1_init) := ggL_law_X1_init
set_option maxRecDepth 20000 in
theorem ggL_law_L_isCache : GoodIn wsL_law wsL_isCache := goodIn_ca (goodIn_ca (goodIn_r _ [27, 28, 29, 30, 31, 2, 32, 33, 34, 35, 36, 37, 15, 38, 39, 40, 41, 42, 43, 44, 45, 46, 47, 48, 49, 50, 51, 52, 53, 54, 55, 56, 57, 58, 59, 60, 61, 62, 63, 64, 65, 66, 67, 68, 69, 70, 71, 72, 73, 74, 75, 76, 77, 78, 79, 80, 81, 14, 82, 83, 26, 84, 85, 86, 87, 88, 89, 90, 91, 92, 93, 94, 95, 96, 97, 98, 99, 100, 101, 102, 103, 104, 105, 106, 107, 108, 109, 110, 111, 112, 113, 114, 115, 116, 117, 118, 119, 120, 121, 122, 123, 124, 125, 126, 127, 128, 129, 130, 131, 132, 133, 134, 135, 136, 137, 138, 139, 140, 141, 142, 143, 144, 145, 146, 147, 148, 149, 150, 151, 152, 153, 154, 155, 156, 157, 158, 159, 160, 161, 162, 163, 164, 165, 166, 167, 168, 169, 170, 171, 172, 173, 174, 175, 176, 177, 292, 293, 294, 295, 296, 297, 298, 299, 300, 301, 302, 303, 304, 305, 306, 307, 308, 309, 310, 311, 312, 313] (by decide +kernel) (by decide +kernel)) (goodIn_sub (fun _ h => List.mem_append_left _ (List.mem_append_left _ (List.mem_append_right _ h))) (by decide +kernel))) (goodIn_sub (fun _ h => List.mem_append_left _ (List.mem_append_right _ h)) (by decide +kernel))
set_option maxRecDepth 20000 in
theorem gL_law_L_isCache : GoodIn wsL_law (va_wsS RL 143 yL_isCache wsL_isCache) := goodIn_app (goodIn_of _ (by decide +kernel)) ggL_law_L_isCache
set_option maxRecDepth 20000 in
theorem ggL_law_X1_fetch : GoodIn wsL_law wsX1_fetch := goodIn_ca (goodIn_ca (goodIn_r _ [181, 89, 90, 91, 2, 92, 93, 94, 14, 158, 159, 160, 161, 162, 99, 100, 101, 102, 33, 182, 183, 184, 185, 42, 67, 72, 186, 187, 188, 189, 190, 62, 191, 192, 193, 194, 195, 47, 77, 196, 197, 198, 199, 15, 16, 200, 201, 202, 203, 204, 205, 206, 207, 57, 208, 209, 210, 211, 212, 213, 214, 215, 216, 79, 80, 81, 217, 218, 219, 220, 163, 164, 165, 166, 221, 222, 223, 224, 225, 226, 227, 228, 52, 138, 139, 140, 141, 142, 143, 144, 145, 127, 128, 129, 124, 125, 126, 229, 230, 231, 232, 305, 306, 307, 308, 309, 310, 311, 312, 313, 292, 293, 294, 295, 296, 297, 298, 299, 300, 301, 302, 303, 304] (by decide +kernel) (by decide +kernel)) (goodIn_sub (fun _ h => List.mem_append_left _ (List.mem_append_left _ (List.mem_append_right _ h))) (by decide +kernel))) (goodIn_sub (fun _ h => List.mem_append_left _ (List.mem_append_right _ h)) (by decide +kernel))
set_option maxRecDepth 20000 in
theorem gL_law_X1_fetch : GoodIn wsL_law (wsV RL 149 RX1 yX1_fetch wsX1_fetch) := goodIn_app (goodIn_of _ (by decide +kernel)) ggL_law_X1_fetch
set_option maxRecDepth 20000 in
theorem ggL_law_L_fetches : GoodIn wsL_law wsL_fetches := goodIn_r _ [235, 236, 237, 26, 238, 239, 240, 241, 242, 243, 244, 245, 246, 247, 248, 82, 83, 84, 249, 250, 251, 252, 253, 254, 255, 256, 257] (by decide +kernel) (by decide +kernel)
set_option maxRecDepth 20000 in
theorem gL_law_L_fetches : GoodIn wsL_law (va_wsS RL 153 yL_fetches wsL_fetches) := goodIn_app (goodIn_of _ (by decide +kernel)) ggL_law_L_fetches
set_option maxRecDepth 20000 in
theorem ggL_law_X1_pass : GoodIn wsL_law wsX1_pass := goodIn_ca (goodIn_r _ [261, 33, 158, 159, 2, 160, 161, 162, 292, 293, 294, 295, 296, 297, 298, 299, 300, 301, 302, 303, 304] (by decide +kernel) (by decide +kernel)) (goodIn_sub (fun _ h => List.mem_append_left _ (List.mem_append_right _ h)) (by decide +kernel))
set_option maxRecDepth 20000 in
theorem gL_law_X1_pass : GoodIn wsL_law (wsV RL 157 RX1 yX1_pass wsX1_pass) := goodIn_app (goodIn_of _ (by decide +kernel)) ggL_law_X1_pass
set_option maxRecDepth 20000 in
theorem ggL_law_L_told : GoodIn wsL_law wsL_told := goodIn_ca (goodIn_ca (goodIn_ca (goodIn_r _ [264, 265, 266, 267, 268, 2, 269, 270, 271, 272, 273, 274, 275, 89, 90, 91, 92, 93, 94, 14, 276, 277, 278, 279, 280, 281, 282, 283, 15, 158, 159, 160, 161, 162, 163, 164, 165, 166, 99, 100, 101, 102, 33, 216, 79, 80, 81, 217, 218, 219, 220, 57, 221, 222, 223, 224, 62, 225, 226, 227, 228, 52, 138, 139, 140, 141, 142, 143, 144, 145, 127, 128, 129, 124, 125, 126, 284, 285, 286, 287, 16, 305, 306, 307, 308, 309, 310, 311, 312, 313, 292, 293, 294, 295, 296, 297, 298, 299, 300, 301, 302, 303, 304] (by decide +kernel) (by decide +kernel)) (goodIn_sub (fun _ h => List.mem_append_right _ h) (by decide +kernel))) (goodIn_sub (fun _ h => List.mem_append_left _ (List.mem_append_left _ (List.mem_append_right _ h))) (by decide +kernel))) (goodIn_sub (fun _ h => List.mem_append_left _ (List.mem_append_right _ h)) (by decide +kernel))
set_option maxRecDepth 20000 in
theorem gL_law_L_told : GoodIn wsL_law (va_wsS RL 160 yL_told wsL_told) := goodIn_app (goodIn_of _ (by decide +kernel)) ggL_law_L_told
set_option maxRecDepth 20000 in
theorem ggL_law_L_takeOut : GoodIn wsL_law wsL_takeOut := goodIn_r _ [242] (by decide +kernel) (by decide +kernel)
set_option maxRecDepth 20000 in
theorem gL_law_L_takeOut : GoodIn wsL_law (va_wsS RL 7 yL_takeOut wsL_takeOut) := goodIn_app (goodIn_of _ (by decide +kernel)) ggL_law_L_takeOut
set_option maxRecDepth 20000 in
theorem ggL_law_L_putIn : GoodIn wsL_law wsL_putIn := goodIn_r _ [245] (by decide +kernel) (by decide +kernel)
set_option maxRecDepth 20000 in
theorem gL_law_L_putIn : GoodIn wsL_law (va_wsS RL 23 yL_putIn wsL_putIn) := goodIn_app (goodIn_of _ (by decide +kernel)) ggL_law_L_putIn
set_option maxRecDepth 20000 in
theorem ggL_law_L_removes : GoodIn wsL_law wsL_removes := goodIn_r _ [248, 240, 241, 26, 242] (by decide +kernel) (by decide +kernel)
set_option maxRecDepth 20000 in
theorem gL_law_L_removes : GoodIn wsL_law (va_wsS RL 13 yL_removes wsL_removes) := goodIn_app (goodIn_of _ (by decide +kernel)) ggL_law_L_removes
set_option maxRecDepth 20000 in
theorem ggL_law_X1_purge : GoodIn wsL_law wsX1_purge := goodIn_r _ [291, 217, 218, 219, 2, 220, 14, 57, 99, 100, 101, 102, 33, 292, 293, 294, 295, 296, 297, 298, 299, 300, 301, 302, 303, 304, 305, 306, 307, 308, 309, 310, 311, 312, 313] (by decide +kernel) (by decide +kernel)
set_option maxRecDepth 20000 in
theorem gL_law_X1_purge : GoodIn wsL_law (wsV RL 164 RX1 yX1_purge wsX1_purge) := goodIn_app (goodIn_of _ (by decide +kernel)) ggL_law_X1_purge
set_option maxRecDepth 20000 in
theorem ggL_law_L_clears : GoodIn wsL_law wsL_clears := goodIn_r _ [251, 246, 247, 26, 248, 240, 241, 242] (by decide +kernel) (by decide +kernel)
set_option maxRecDepth 20000 in
theorem gL_law_L_clears : GoodIn wsL_law (va_wsS RL 31 yL_clears wsL_clears) := goodIn_app (goodIn_of _ (by decide +kernel)) ggL_law_L_clears
set_option maxRecDepth 20000 in
theorem ggL_law_L_pinned : GoodIn wsL_law wsL_pinned := goodIn_r _ [254] (by decide +kernel) (by decide +kernel)
set_option maxRecDepth 20000 in
theorem gL_law_L_pinned : GoodIn wsL_law (va_wsS RL 35 yL_pinned wsL_pinned) := goodIn_app (goodIn_of _ (by decide +kernel)) ggL_law_L_pinned
set_option maxRecDepth 20000 in
theorem ggL_law_L_used : GoodIn wsL_law wsL_used := goodIn_r _ [84] (by decide +kernel) (by decide +kernel)
set_option maxRecDepth 20000 in
theorem gL_law_L_used : GoodIn wsL_law (va_wsS RL 27 yL_used wsL_used) := goodIn_app (goodIn_of _ (by decide +kernel)) ggL_law_L_used
set_option maxRecDepth 20000 in
theorem ggL_law_L_leaves : GoodIn wsL_law wsL_leaves := goodIn_r _ [257, 246, 247, 26, 248, 240, 241, 242] (by decide +kernel) (by decide +kernel)
set_option maxRecDepth 20000 in
theorem gL_law_L_leaves : GoodIn wsL_law (va_wsS RL 39 yL_leaves wsL_leaves) := goodIn_app (goodIn_of _ (by decide +kernel)) ggL_law_L_leaves
