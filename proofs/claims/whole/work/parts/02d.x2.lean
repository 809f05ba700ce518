theorem dX2_init_0 : decode cX2_init 0 = .ok (.aload_n 0, 1) := by decide +kernel
theorem dX2_init_1 : decode cX2_init 1 = .ok (.invokespecial 1, 3) := by decide +kernel
theorem dX2_init_4 : decode cX2_init 4 = .ok (.aload_n 0, 1) := by decide +kernel
theorem dX2_init_5 : decode cX2_init 5 = .ok (.bipush 32, 2) := by decide +kernel
theorem dX2_init_7 : decode cX2_init 7 = .ok (.newarray .boolean, 2) := by decide +kernel
theorem dX2_init_9 : decode cX2_init 9 = .ok (.putfield 7, 3) := by decide +kernel
theorem dX2_init_12 : decode cX2_init 12 = .ok (.aload_n 0, 1) := by decide +kernel
theorem dX2_init_13 : decode cX2_init 13 = .ok (.bipush 32, 2) := by decide +kernel
theorem dX2_init_15 : decode cX2_init 15 = .ok (.newarray .boolean, 2) := by decide +kernel
theorem dX2_init_17 : decode cX2_init 17 = .ok (.putfield 13, 3) := by decide +kernel
theorem dX2_init_20 : decode cX2_init 20 = .ok (.aload_n 0, 1) := by decide +kernel
theorem dX2_init_21 : decode cX2_init 21 = .ok (.bipush 32, 2) := by decide +kernel
theorem dX2_init_23 : decode cX2_init 23 = .ok (.newarray .int, 2) := by decide +kernel
theorem dX2_init_25 : decode cX2_init 25 = .ok (.putfield 16, 3) := by decide +kernel
theorem dX2_init_28 : decode cX2_init 28 = .ok (.aload_n 0, 1) := by decide +kernel
theorem dX2_init_29 : decode cX2_init 29 = .ok (.bipush 32, 2) := by decide +kernel
theorem dX2_init_31 : decode cX2_init 31 = .ok (.newarray .int, 2) := by decide +kernel
theorem dX2_init_33 : decode cX2_init 33 = .ok (.putfield 20, 3) := by decide +kernel
theorem dX2_init_36 : decode cX2_init 36 = .ok (.aload_n 0, 1) := by decide +kernel
theorem dX2_init_37 : decode cX2_init 37 = .ok (.bipush 32, 2) := by decide +kernel
theorem dX2_init_39 : decode cX2_init 39 = .ok (.newarray .int, 2) := by decide +kernel
theorem dX2_init_41 : decode cX2_init 41 = .ok (.putfield 23, 3) := by decide +kernel
theorem dX2_init_44 : decode cX2_init 44 = .ok (.aload_n 0, 1) := by decide +kernel
theorem dX2_init_45 : decode cX2_init 45 = .ok (.bipush 32, 2) := by decide +kernel
theorem dX2_init_47 : decode cX2_init 47 = .ok (.newarray .long, 2) := by decide +kernel
theorem dX2_init_49 : decode cX2_init 49 = .ok (.putfield 26, 3) := by decide +kernel
theorem dX2_init_52 : decode cX2_init 52 = .ok (.aload_n 0, 1) := by decide +kernel
theorem dX2_init_53 : decode cX2_init 53 = .ok (.bipush 32, 2) := by decide +kernel
theorem dX2_init_55 : decode cX2_init 55 = .ok (.newarray .int, 2) := by decide +kernel
theorem dX2_init_57 : decode cX2_init 57 = .ok (.putfield 30, 3) := by decide +kernel
theorem dX2_init_60 : decode cX2_init 60 = .ok (.aload_n 0, 1) := by decide +kernel
theorem dX2_init_61 : decode cX2_init 61 = .ok (.bipush 32, 2) := by decide +kernel
theorem dX2_init_63 : decode cX2_init 63 = .ok (.newarray .long, 2) := by decide +kernel
theorem dX2_init_65 : decode cX2_init 65 = .ok (.putfield 33, 3) := by decide +kernel
theorem dX2_init_68 : decode cX2_init 68 = .ok (.aload_n 0, 1) := by decide +kernel
theorem dX2_init_69 : decode cX2_init 69 = .ok (.bipush 32, 2) := by decide +kernel
theorem dX2_init_71 : decode cX2_init 71 = .ok (.newarray .int, 2) := by decide +kernel
theorem dX2_init_73 : decode cX2_init 73 = .ok (.putfield 36, 3) := by decide +kernel
theorem dX2_init_76 : decode cX2_init 76 = .ok (.aload_n 0, 1) := by decide +kernel
theorem dX2_init_77 : decode cX2_init 77 = .ok (.bipush 100, 2) := by decide +kernel
theorem dX2_init_79 : decode cX2_init 79 = .ok (.putfield 39, 3) := by decide +kernel
theorem dX2_init_82 : decode cX2_init 82 = .ok (.aload_n 0, 1) := by decide +kernel
theorem dX2_init_83 : decode cX2_init 83 = .ok (.sipush 1000, 3) := by decide +kernel
theorem dX2_init_86 : decode cX2_init 86 = .ok (.putfield 43, 3) := by decide +kernel
theorem dX2_init_89 : decode cX2_init 89 = .ok (.iconst 0, 1) := by decide +kernel
theorem dX2_init_90 : decode cX2_init 90 = .ok (.istore_n 1, 1) := by decide +kernel
theorem dX2_init_91 : decode cX2_init 91 = .ok (.iload_n 1, 1) := by decide +kernel
theorem dX2_init_92 : decode cX2_init 92 = .ok (.bipush 32, 2) := by decide +kernel
theorem dX2_init_94 : decode cX2_init 94 = .ok (.if_icmp .ge 16, 3) := by decide +kernel
theorem dX2_init_97 : decode cX2_init 97 = .ok (.aload_n 0, 1) := by decide +kernel
theorem dX2_init_98 : decode cX2_init 98 = .ok (.getfield 36, 3) := by decide +kernel
theorem dX2_init_101 : decode cX2_init 101 = .ok (.iload_n 1, 1) := by decide +kernel
theorem dX2_init_102 : decode cX2_init 102 = .ok (.iconst (-1), 1) := by decide +kernel
theorem dX2_init_103 : decode cX2_init 103 = .ok (.iastore, 1) := by decide +kernel
theorem dX2_init_104 : decode cX2_init 104 = .ok (.iinc 1 1, 3) := by decide +kernel
theorem dX2_init_107 : decode cX2_init 107 = .ok (.goto (-16), 3) := by decide +kernel
theorem dX2_init_110 : decode cX2_init 110 = .ok (.return_, 1) := by decide +kernel
theorem dX2_thrown_0 : decode cX2_thrown 0 = .ok (.aload_n 0, 1) := by decide +kernel
theorem dX2_thrown_1 : decode cX2_thrown 1 = .ok (.getfield 46, 3) := by decide +kernel
theorem dX2_thrown_4 : decode cX2_thrown 4 = .ok (.ireturn, 1) := by decide +kernel
theorem dX2_in_0 : decode cX2_in 0 = .ok (.iload_n 0, 1) := by decide +kernel
theorem dX2_in_1 : decode cX2_in 1 = .ok (.iload_n 1, 1) := by decide +kernel
theorem dX2_in_2 : decode cX2_in 2 = .ok (.if_icmp .lt 12, 3) := by decide +kernel
theorem dX2_in_5 : decode cX2_in 5 = .ok (.iload_n 0, 1) := by decide +kernel
theorem dX2_in_6 : decode cX2_in 6 = .ok (.iload_n 2, 1) := by decide +kernel
theorem dX2_in_7 : decode cX2_in 7 = .ok (.if_icmp .gt 7, 3) := by decide +kernel
theorem dX2_in_10 : decode cX2_in 10 = .ok (.iconst 1, 1) := by decide +kernel
theorem dX2_in_11 : decode cX2_in 11 = .ok (.goto 4, 3) := by decide +kernel
theorem dX2_in_14 : decode cX2_in 14 = .ok (.iconst 0, 1) := by decide +kernel
theorem dX2_in_15 : decode cX2_in 15 = .ok (.ireturn, 1) := by decide +kernel
set_option maxRecDepth 20000 in
theorem ggX2_isThing_X2_in : GoodIn wsX2_isThing wsX2_in := goodIn_r _ [5] (by decide +kernel) (by decide +kernel)
set_option maxRecDepth 20000 in
theorem gX2_isThing_X2_in : GoodIn wsX2_isThing (va_wsS RX2 49 yX2_in wsX2_in) := goodIn_app (goodIn_of _ (by decide +kernel)) ggX2_isThing_X2_in
theorem dX2_isThing_0 : decode cX2_isThing 0 = .ok (.aload_n 0, 1) := by decide +kernel
theorem dX2_isThing_1 : decode cX2_isThing 1 = .ok (.iload_n 1, 1) := by decide +kernel
theorem dX2_isThing_2 : decode cX2_isThing 2 = .ok (.iconst 0, 1) := by decide +kernel
theorem dX2_isThing_3 : decode cX2_isThing 3 = .ok (.bipush 31, 2) := by decide +kernel
theorem dX2_isThing_5 : decode cX2_isThing 5 = .ok (.invokestatic 49, 3) := by decide +kernel
theorem dX2_isThing_8 : decode cX2_isThing 8 = .ok (.ifCond .eq 7, 3) := by decide +kernel
theorem dX2_isThing_11 : decode cX2_isThing 11 = .ok (.iconst 0, 1) := by decide +kernel
theorem dX2_isThing_12 : decode cX2_isThing 12 = .ok (.goto 4, 3) := by decide +kernel
theorem dX2_isThing_15 : decode cX2_isThing 15 = .ok (.iconst 1, 1) := by decide +kernel
theorem dX2_isThing_16 : decode cX2_isThing 16 = .ok (.putfield 46, 3) := by decide +kernel
theorem dX2_isThing_19 : decode cX2_isThing 19 = .ok (.aload_n 0, 1) := by decide +kernel
theorem dX2_isThing_20 : decode cX2_isThing 20 = .ok (.getfield 46, 3) := by decide +kernel
theorem dX2_isThing_23 : decode cX2_isThing 23 = .ok (.ifCond .ne 7, 3) := by decide +kernel
theorem dX2_isThing_26 : decode cX2_isThing 26 = .ok (.iconst 1, 1) := by decide +kernel
theorem dX2_isThing_27 : decode cX2_isThing 27 = .ok (.goto 4, 3) := by decide +kernel
theorem dX2_isThing_30 : decode cX2_isThing 30 = .ok (.iconst 0, 1) := by decide +kernel
theorem dX2_isThing_31 : decode cX2_isThing 31 = .ok (.ireturn, 1) := by decide +kernel
theorem dX2_over_0 : decode cX2_over 0 = .ok (.aload_n 0, 1) := by decide +kernel
theorem dX2_over_1 : decode cX2_over 1 = .ok (.getfield 7, 3) := by decide +kernel
theorem dX2_over_4 : decode cX2_over 4 = .ok (.iload_n 1, 1) := by decide +kernel
theorem dX2_over_5 : decode cX2_over 5 = .ok (.baload, 1) := by decide +kernel
theorem dX2_over_6 : decode cX2_over 6 = .ok (.ifCond .eq 20, 3) := by decide +kernel
theorem dX2_over_9 : decode cX2_over 9 = .ok (.aload_n 0, 1) := by decide +kernel
theorem dX2_over_10 : decode cX2_over 10 = .ok (.getfield 53, 3) := by decide +kernel
theorem dX2_over_13 : decode cX2_over 13 = .ok (.aload_n 0, 1) := by decide +kernel
theorem dX2_over_14 : decode cX2_over 14 = .ok (.getfield 30, 3) := by decide +kernel
theorem dX2_over_17 : decode cX2_over 17 = .ok (.iload_n 1, 1) := by decide +kernel
theorem dX2_over_18 : decode cX2_over 18 = .ok (.iaload, 1) := by decide +kernel
theorem dX2_over_19 : decode cX2_over 19 = .ok (.if_icmp .lt 7, 3) := by decide +kernel
theorem dX2_over_22 : decode cX2_over 22 = .ok (.iconst 1, 1) := by decide +kernel
theorem dX2_over_23 : decode cX2_over 23 = .ok (.goto 4, 3) := by decide +kernel
theorem dX2_over_26 : decode cX2_over 26 = .ok (.iconst 0, 1) := by decide +kernel
theorem dX2_over_27 : decode cX2_over 27 = .ok (.ireturn, 1) := by decide +kernel
theorem dX2_usedBytes_0 : decode cX2_usedBytes 0 = .ok (.iconst 0, 1) := by decide +kernel
theorem dX2_usedBytes_1 : decode cX2_usedBytes 1 = .ok (.istore_n 1, 1) := by decide +kernel
theorem dX2_usedBytes_2 : decode cX2_usedBytes 2 = .ok (.iconst 0, 1) := by decide +kernel
theorem dX2_usedBytes_3 : decode cX2_usedBytes 3 = .ok (.istore_n 2, 1) := by decide +kernel
theorem dX2_usedBytes_4 : decode cX2_usedBytes 4 = .ok (.iload_n 2, 1) := by decide +kernel
theorem dX2_usedBytes_5 : decode cX2_usedBytes 5 = .ok (.bipush 32, 2) := by decide +kernel
theorem dX2_usedBytes_7 : decode cX2_usedBytes 7 = .ok (.if_icmp .ge 31, 3) := by decide +kernel
theorem dX2_usedBytes_10 : decode cX2_usedBytes 10 = .ok (.iload_n 1, 1) := by decide +kernel
theorem dX2_usedBytes_11 : decode cX2_usedBytes 11 = .ok (.aload_n 0, 1) := by decide +kernel
theorem dX2_usedBytes_12 : decode cX2_usedBytes 12 = .ok (.getfield 7, 3) := by decide +kernel
theorem dX2_usedBytes_15 : decode cX2_usedBytes 15 = .ok (.iload_n 2, 1) := by decide +kernel
theorem dX2_usedBytes_16 : decode cX2_usedBytes 16 = .ok (.baload, 1) := by decide +kernel
theorem dX2_usedBytes_17 : decode cX2_usedBytes 17 = .ok (.ifCond .eq 12, 3) := by decide +kernel
theorem dX2_usedBytes_20 : decode cX2_usedBytes 20 = .ok (.aload_n 0, 1) := by decide +kernel
theorem dX2_usedBytes_21 : decode cX2_usedBytes 21 = .ok (.getfield 16, 3) := by decide +kernel
theorem dX2_usedBytes_24 : decode cX2_usedBytes 24 = .ok (.iload_n 2, 1) := by decide +kernel
theorem dX2_usedBytes_25 : decode cX2_usedBytes 25 = .ok (.iaload, 1) := by decide +kernel
theorem dX2_usedBytes_26 : decode cX2_usedBytes 26 = .ok (.goto 4, 3) := by decide +kernel
theorem dX2_usedBytes_29 : decode cX2_usedBytes 29 = .ok (.iconst 0, 1) := by decide +kernel
theorem dX2_usedBytes_30 : decode cX2_usedBytes 30 = .ok (.iadd, 1) := by decide +kernel
theorem dX2_usedBytes_31 : decode cX2_usedBytes 31 = .ok (.istore_n 1, 1) := by decide +kernel
theorem dX2_usedBytes_32 : decode cX2_usedBytes 32 = .ok (.iinc 2 1, 3) := by decide +kernel
theorem dX2_usedBytes_35 : decode cX2_usedBytes 35 = .ok (.goto (-31), 3) := by decide +kernel
theorem dX2_usedBytes_38 : decode cX2_usedBytes 38 = .ok (.iload_n 1, 1) := by decide +kernel
theorem dX2_usedBytes_39 : decode cX2_usedBytes 39 = .ok (.ireturn, 1) := by decide +kernel
theorem dX2_isAhead_0 : decode cX2_isAhead 0 = .ok (.aload_n 0, 1) := by decide +kernel
theorem dX2_isAhead_1 : decode cX2_isAhead 1 = .ok (.getfield 26, 3) := by decide +kernel
theorem dX2_isAhead_4 : decode cX2_isAhead 4 = .ok (.iload_n 1, 1) := by decide +kernel
theorem dX2_isAhead_5 : decode cX2_isAhead 5 = .ok (.laload, 1) := by decide +kernel
theorem dX2_isAhead_6 : decode cX2_isAhead 6 = .ok (.aload_n 0, 1) := by decide +kernel
theorem dX2_isAhead_7 : decode cX2_isAhead 7 = .ok (.getfield 26, 3) := by decide +kernel
theorem dX2_isAhead_10 : decode cX2_isAhead 10 = .ok (.iload_n 2, 1) := by decide +kernel
theorem dX2_isAhead_11 : decode cX2_isAhead 11 = .ok (.laload, 1) := by decide +kernel
theorem dX2_isAhead_12 : decode cX2_isAhead 12 = .ok (.lcmp, 1) := by decide +kernel
theorem dX2_isAhead_13 : decode cX2_isAhead 13 = .ok (.ifCond .eq 27, 3) := by decide +kernel
theorem dX2_isAhead_16 : decode cX2_isAhead 16 = .ok (.aload_n 0, 1) := by decide +kernel
theorem dX2_isAhead_17 : decode cX2_isAhead 17 = .ok (.getfield 26, 3) := by decide +kernel
theorem dX2_isAhead_20 : decode cX2_isAhead 20 = .ok (.iload_n 1, 1) := by decide +kernel
theorem dX2_isAhead_21 : decode cX2_isAhead 21 = .ok (.laload, 1) := by decide +kernel
theorem dX2_isAhead_22 : decode cX2_isAhead 22 = .ok (.aload_n 0, 1) := by decide +kernel
theorem dX2_isAhead_23 : decode cX2_isAhead 23 = .ok (.getfield 26, 3) := by decide +kernel
theorem dX2_isAhead_26 : decode cX2_isAhead 26 = .ok (.iload_n 2, 1) := by decide +kernel
theorem dX2_isAhead_27 : decode cX2_isAhead 27 = .ok (.laload, 1) := by decide +kernel
theorem dX2_isAhead_28 : decode cX2_isAhead 28 = .ok (.lcmp, 1) := by decide +kernel
theorem dX2_isAhead_29 : decode cX2_isAhead 29 = .ok (.ifCond .ge 7, 3) := by decide +kernel
theorem dX2_isAhead_32 : decode cX2_isAhead 32 = .ok (.iconst 1, 1) := by decide +kernel
theorem dX2_isAhead_33 : decode cX2_isAhead 33 = .ok (.goto 28, 3) := by decide +kernel
theorem dX2_isAhead_36 : decode cX2_isAhead 36 = .ok (.iconst 0, 1) := by decide +kernel
theorem dX2_isAhead_37 : decode cX2_isAhead 37 = .ok (.goto 24, 3) := by decide +kernel
theorem dX2_isAhead_40 : decode cX2_isAhead 40 = .ok (.aload_n 0, 1) := by decide +kernel
theorem dX2_isAhead_41 : decode cX2_isAhead 41 = .ok (.getfield 33, 3) := by decide +kernel
theorem dX2_isAhead_44 : decode cX2_isAhead 44 = .ok (.iload_n 1, 1) := by decide +kernel
theorem dX2_isAhead_45 : decode cX2_isAhead 45 = .ok (.laload, 1) := by decide +kernel
theorem dX2_isAhead_46 : decode cX2_isAhead 46 = .ok (.aload_n 0, 1) := by decide +kernel
theorem dX2_isAhead_47 : decode cX2_isAhead 47 = .ok (.getfield 33, 3) := by decide +kernel
theorem dX2_isAhead_50 : decode cX2_isAhead 50 = .ok (.iload_n 2, 1) := by decide +kernel
theorem dX2_isAhead_51 : decode cX2_isAhead 51 = .ok (.laload, 1) := by decide +kernel
theorem dX2_isAhead_52 : decode cX2_isAhead 52 = .ok (.lcmp, 1) := by decide +kernel
theorem dX2_isAhead_53 : decode cX2_isAhead 53 = .ok (.ifCond .ge 7, 3) := by decide +kernel
theorem dX2_isAhead_56 : decode cX2_isAhead 56 = .ok (.iconst 1, 1) := by decide +kernel
theorem dX2_isAhead_57 : decode cX2_isAhead 57 = .ok (.goto 4, 3) := by decide +kernel
theorem dX2_isAhead_60 : decode cX2_isAhead 60 = .ok (.iconst 0, 1) := by decide +kernel
theorem dX2_isAhead_61 : decode cX2_isAhead 61 = .ok (.ireturn, 1) := by decide +kernel
set_option maxRecDepth 20000 in
theorem ggX2_place_X2_isAhead : GoodIn wsX2_place wsX2_isAhead := goodIn_r _ [7, 8, 9, 10, 11, 12, 13, 14, 15, 16, 17, 18, 19, 20, 21, 22, 23, 24, 25, 26, 27, 28, 29, 30, 31] (by decide +kernel) (by decide +kernel)
set_option maxRecDepth 20000 in
theorem gX2_place_X2_isAhead : GoodIn wsX2_place (wsV RX2 56 RX2 yX2_isAhead wsX2_isAhead) := goodIn_app (goodIn_of _ (by decide +kernel)) ggX2_place_X2_isAhead
theorem dX2_place_0 : decode cX2_place 0 = .ok (.aload_n 0, 1) := by decide +kernel
theorem dX2_place_1 : decode cX2_place 1 = .ok (.getfield 7, 3) := by decide +kernel
theorem dX2_place_4 : decode cX2_place 4 = .ok (.iload_n 1, 1) := by decide +kernel
theorem dX2_place_5 : decode cX2_place 5 = .ok (.baload, 1) := by decide +kernel
theorem dX2_place_6 : decode cX2_place 6 = .ok (.ifCond .eq 12, 3) := by decide +kernel
theorem dX2_place_9 : decode cX2_place 9 = .ok (.aload_n 0, 1) := by decide +kernel
theorem dX2_place_10 : decode cX2_place 10 = .ok (.getfield 13, 3) := by decide +kernel
theorem dX2_place_13 : decode cX2_place 13 = .ok (.iload_n 1, 1) := by decide +kernel
theorem dX2_place_14 : decode cX2_place 14 = .ok (.baload, 1) := by decide +kernel
theorem dX2_place_15 : decode cX2_place 15 = .ok (.ifCond .eq 5, 3) := by decide +kernel
theorem dX2_place_18 : decode cX2_place 18 = .ok (.iconst (-1), 1) := by decide +kernel
theorem dX2_place_19 : decode cX2_place 19 = .ok (.ireturn, 1) := by decide +kernel
theorem dX2_place_20 : decode cX2_place 20 = .ok (.iconst 0, 1) := by decide +kernel
theorem dX2_place_21 : decode cX2_place 21 = .ok (.istore_n 2, 1) := by decide +kernel
theorem dX2_place_22 : decode cX2_place 22 = .ok (.iconst 0, 1) := by decide +kernel
theorem dX2_place_23 : decode cX2_place 23 = .ok (.istore_n 3, 1) := by decide +kernel
theorem dX2_place_24 : decode cX2_place 24 = .ok (.iload_n 3, 1) := by decide +kernel
theorem dX2_place_25 : decode cX2_place 25 = .ok (.bipush 32, 2) := by decide +kernel
theorem dX2_place_27 : decode cX2_place 27 = .ok (.if_icmp .ge 49, 3) := by decide +kernel
theorem dX2_place_30 : decode cX2_place 30 = .ok (.iload_n 2, 1) := by decide +kernel
theorem dX2_place_31 : decode cX2_place 31 = .ok (.aload_n 0, 1) := by decide +kernel
theorem dX2_place_32 : decode cX2_place 32 = .ok (.getfield 7, 3) := by decide +kernel
theorem dX2_place_35 : decode cX2_place 35 = .ok (.iload_n 3, 1) := by decide +kernel
theorem dX2_place_36 : decode cX2_place 36 = .ok (.baload, 1) := by decide +kernel
theorem dX2_place_37 : decode cX2_place 37 = .ok (.ifCond .eq 30, 3) := by decide +kernel
theorem dX2_place_40 : decode cX2_place 40 = .ok (.aload_n 0, 1) := by decide +kernel
theorem dX2_place_41 : decode cX2_place 41 = .ok (.getfield 13, 3) := by decide +kernel
theorem dX2_place_44 : decode cX2_place 44 = .ok (.iload_n 3, 1) := by decide +kernel
theorem dX2_place_45 : decode cX2_place 45 = .ok (.baload, 1) := by decide +kernel
theorem dX2_place_46 : decode cX2_place 46 = .ok (.ifCond .ne 21, 3) := by decide +kernel
theorem dX2_place_49 : decode cX2_place 49 = .ok (.iload_n 3, 1) := by decide +kernel
theorem dX2_place_50 : decode cX2_place 50 = .ok (.iload_n 1, 1) := by decide +kernel
theorem dX2_place_51 : decode cX2_place 51 = .ok (.if_icmp .eq 16, 3) := by decide +kernel
theorem dX2_place_54 : decode cX2_place 54 = .ok (.aload_n 0, 1) := by decide +kernel
theorem dX2_place_55 : decode cX2_place 55 = .ok (.iload_n 3, 1) := by decide +kernel
theorem dX2_place_56 : decode cX2_place 56 = .ok (.iload_n 1, 1) := by decide +kernel
theorem dX2_place_57 : decode cX2_place 57 = .ok (.invokevirtual 56, 3) := by decide +kernel
theorem dX2_place_60 : decode cX2_place 60 = .ok (.ifCond .eq 7, 3) := by decide +kernel
theorem dX2_place_63 : decode cX2_place 63 = .ok (.iconst 1, 1) := by decide +kernel
theorem dX2_place_64 : decode cX2_place 64 = .ok (.goto 4, 3) := by decide +kernel
theorem dX2_place_67 : decode cX2_place 67 = .ok (.iconst 0, 1) := by decide +kernel
theorem dX2_place_68 : decode cX2_place 68 = .ok (.iadd, 1) := by decide +kernel
theorem dX2_place_69 : decode cX2_place 69 = .ok (.istore_n 2, 1) := by decide +kernel
theorem dX2_place_70 : decode cX2_place 70 = .ok (.iinc 3 1, 3) := by decide +kernel
theorem dX2_place_73 : decode cX2_place 73 = .ok (.goto (-49), 3) := by decide +kernel
theorem dX2_place_76 : decode cX2_place 76 = .ok (.iload_n 2, 1) := by decide +kernel
theorem dX2_place_77 : decode cX2_place 77 = .ok (.ireturn, 1) := by decide +kernel
set_option maxRecDepth 20000 in
theorem ggX2_at_X2_place : GoodIn wsX2_at wsX2_place := goodIn_r _ [5, 6, 7, 8, 9, 10, 4, 11, 12, 13, 14, 15, 16, 17, 18, 19, 20, 21, 22, 23, 24, 25, 26, 27, 28, 29, 30, 31, 32, 33, 34, 35] (by decide +kernel) (by decide +kernel)
set_option maxRecDepth 20000 in
theorem gX2_at_X2_place : GoodIn wsX2_at (wsV RX2 60 RX2 yX2_place wsX2_place) := goodIn_app (goodIn_of _ (by decide +kernel)) ggX2_at_X2_place
theorem dX2_at_0 : decode cX2_at 0 = .ok (.iconst 0, 1) := by decide +kernel
theorem dX2_at_1 : decode cX2_at 1 = .ok (.istore_n 2, 1) := by decide +kernel
theorem dX2_at_2 : decode cX2_at 2 = .ok (.iload_n 2, 1) := by decide +kernel
theorem dX2_at_3 : decode cX2_at 3 = .ok (.bipush 32, 2) := by decide +kernel
theorem dX2_at_5 : decode cX2_at 5 = .ok (.if_icmp .ge 20, 3) := by decide +kernel
theorem dX2_at_8 : decode cX2_at 8 = .ok (.aload_n 0, 1) := by decide +kernel
theorem dX2_at_9 : decode cX2_at 9 = .ok (.iload_n 2, 1) := by decide +kernel
theorem dX2_at_10 : decode cX2_at 10 = .ok (.invokevirtual 60, 3) := by decide +kernel
theorem dX2_at_13 : decode cX2_at 13 = .ok (.iload_n 1, 1) := by decide +kernel
theorem dX2_at_14 : decode cX2_at 14 = .ok (.if_icmp .ne 5, 3) := by decide +kernel
theorem dX2_at_17 : decode cX2_at 17 = .ok (.iload_n 2, 1) := by decide +kernel
theorem dX2_at_18 : decode cX2_at 18 = .ok (.ireturn, 1) := by decide +kernel
theorem dX2_at_19 : decode cX2_at 19 = .ok (.iinc 2 1, 3) := by decide +kernel
theorem dX2_at_22 : decode cX2_at 22 = .ok (.goto (-20), 3) := by decide +kernel
theorem dX2_at_25 : decode cX2_at 25 = .ok (.iconst (-1), 1) := by decide +kernel
theorem dX2_at_26 : decode cX2_at 26 = .ok (.ireturn, 1) := by decide +kernel
set_option maxRecDepth 20000 in
theorem ggX2_firstLeaves_X2_at : GoodIn wsX2_firstLeaves wsX2_at := goodIn_r _ [9, 10, 11, 12, 8, 13, 1, 14, 15, 16, 17, 18, 2, 19, 20, 21, 22, 23, 24, 25, 26, 27, 28, 29, 30, 31, 32, 33, 34, 35, 36, 37, 38, 39, 40, 41] (by decide +kernel) (by decide +kernel)
set_option maxRecDepth 20000 in
theorem gX2_firstLeaves_X2_at : GoodIn wsX2_firstLeaves (wsV RX2 64 RX2 yX2_at wsX2_at) := goodIn_app (goodIn_of _ (by decide +kernel)) ggX2_firstLeaves_X2_at
theorem dX2_firstLeaves_0 : decode cX2_firstLeaves 0 = .ok (.aload_n 0, 1) := by decide +kernel
theorem dX2_firstLeaves_1 : decode cX2_firstLeaves 1 = .ok (.iconst 0, 1) := by decide +kernel
theorem dX2_firstLeaves_2 : decode cX2_firstLeaves 2 = .ok (.invokevirtual 64, 3) := by decide +kernel
theorem dX2_firstLeaves_5 : decode cX2_firstLeaves 5 = .ok (.istore_n 1, 1) := by decide +kernel
theorem dX2_firstLeaves_6 : decode cX2_firstLeaves 6 = .ok (.aload_n 0, 1) := by decide +kernel
theorem dX2_firstLeaves_7 : decode cX2_firstLeaves 7 = .ok (.getfield 7, 3) := by decide +kernel
theorem dX2_firstLeaves_10 : decode cX2_firstLeaves 10 = .ok (.iload_n 1, 1) := by decide +kernel
theorem dX2_firstLeaves_11 : decode cX2_firstLeaves 11 = .ok (.iconst 0, 1) := by decide +kernel
theorem dX2_firstLeaves_12 : decode cX2_firstLeaves 12 = .ok (.bastore, 1) := by decide +kernel
theorem dX2_firstLeaves_13 : decode cX2_firstLeaves 13 = .ok (.aload_n 0, 1) := by decide +kernel
theorem dX2_firstLeaves_14 : decode cX2_firstLeaves 14 = .ok (.aload_n 0, 1) := by decide +kernel
theorem dX2_firstLeaves_15 : decode cX2_firstLeaves 15 = .ok (.getfield 26, 3) := by decide +kernel
theorem dX2_firstLeaves_18 : decode cX2_firstLeaves 18 = .ok (.iload_n 1, 1) := by decide +kernel
theorem dX2_firstLeaves_19 : decode cX2_firstLeaves 19 = .ok (.laload, 1) := by decide +kernel
theorem dX2_firstLeaves_20 : decode cX2_firstLeaves 20 = .ok (.aload_n 0, 1) := by decide +kernel
theorem dX2_firstLeaves_21 : decode cX2_firstLeaves 21 = .ok (.getfield 67, 3) := by decide +kernel
theorem dX2_firstLeaves_24 : decode cX2_firstLeaves 24 = .ok (.lcmp, 1) := by decide +kernel
theorem dX2_firstLeaves_25 : decode cX2_firstLeaves 25 = .ok (.ifCond .le 12, 3) := by decide +kernel
theorem dX2_firstLeaves_28 : decode cX2_firstLeaves 28 = .ok (.aload_n 0, 1) := by decide +kernel
theorem dX2_firstLeaves_29 : decode cX2_firstLeaves 29 = .ok (.getfield 26, 3) := by decide +kernel
theorem dX2_firstLeaves_32 : decode cX2_firstLeaves 32 = .ok (.iload_n 1, 1) := by decide +kernel
theorem dX2_firstLeaves_33 : decode cX2_firstLeaves 33 = .ok (.laload, 1) := by decide +kernel
theorem dX2_firstLeaves_34 : decode cX2_firstLeaves 34 = .ok (.goto 7, 3) := by decide +kernel
theorem dX2_firstLeaves_37 : decode cX2_firstLeaves 37 = .ok (.aload_n 0, 1) := by decide +kernel
theorem dX2_firstLeaves_38 : decode cX2_firstLeaves 38 = .ok (.getfield 67, 3) := by decide +kernel
theorem dX2_firstLeaves_41 : decode cX2_firstLeaves 41 = .ok (.putfield 67, 3) := by decide +kernel
theorem dX2_firstLeaves_44 : decode cX2_firstLeaves 44 = .ok (.aload_n 0, 1) := by decide +kernel
theorem dX2_firstLeaves_45 : decode cX2_firstLeaves 45 = .ok (.dup, 1) := by decide +kernel
theorem dX2_firstLeaves_46 : decode cX2_firstLeaves 46 = .ok (.getfield 71, 3) := by decide +kernel
theorem dX2_firstLeaves_49 : decode cX2_firstLeaves 49 = .ok (.iconst 1, 1) := by decide +kernel
theorem dX2_firstLeaves_50 : decode cX2_firstLeaves 50 = .ok (.iadd, 1) := by decide +kernel
theorem dX2_firstLeaves_51 : decode cX2_firstLeaves 51 = .ok (.putfield 71, 3) := by decide +kernel
theorem dX2_firstLeaves_54 : decode cX2_firstLeaves 54 = .ok (.return_, 1) := by decide +kernel
set_option maxRecDepth 20000 in
theorem ggX2_removeOver_X2_over : GoodIn wsX2_removeOver wsX2_over := goodIn_r _ [7, 1, 8, 9, 10, 11, 12, 13, 14, 15, 16, 17, 18, 19, 20, 21, 22, 23, 24, 25, 26, 27, 28, 29, 30, 31] (by decide +kernel) (by decide +kernel)
set_option maxRecDepth 20000 in
theorem gX2_removeOver_X2_over : GoodIn wsX2_removeOver (wsV RX2 74 RX2 yX2_over wsX2_over) := goodIn_app (goodIn_of _ (by decide +kernel)) ggX2_removeOver_X2_over
theorem dX2_removeOver_0 : decode cX2_removeOver 0 = .ok (.iconst 0, 1) := by decide +kernel
theorem dX2_removeOver_1 : decode cX2_removeOver 1 = .ok (.istore_n 1, 1) := by decide +kernel
theorem dX2_removeOver_2 : decode cX2_removeOver 2 = .ok (.iconst 0, 1) := by decide +kernel
theorem dX2_removeOver_3 : decode cX2_removeOver 3 = .ok (.istore_n 2, 1) := by decide +kernel
theorem dX2_removeOver_4 : decode cX2_removeOver 4 = .ok (.iload_n 2, 1) := by decide +kernel
theorem dX2_removeOver_5 : decode cX2_removeOver 5 = .ok (.bipush 32, 2) := by decide +kernel
theorem dX2_removeOver_7 : decode cX2_removeOver 7 = .ok (.if_icmp .ge 27, 3) := by decide +kernel
theorem dX2_removeOver_10 : decode cX2_removeOver 10 = .ok (.aload_n 0, 1) := by decide +kernel
theorem dX2_removeOver_11 : decode cX2_removeOver 11 = .ok (.iload_n 2, 1) := by decide +kernel
theorem dX2_removeOver_12 : decode cX2_removeOver 12 = .ok (.invokevirtual 74, 3) := by decide +kernel
theorem dX2_removeOver_15 : decode cX2_removeOver 15 = .ok (.ifCond .eq 13, 3) := by decide +kernel
theorem dX2_removeOver_18 : decode cX2_removeOver 18 = .ok (.aload_n 0, 1) := by decide +kernel
theorem dX2_removeOver_19 : decode cX2_removeOver 19 = .ok (.getfield 7, 3) := by decide +kernel
theorem dX2_removeOver_22 : decode cX2_removeOver 22 = .ok (.iload_n 2, 1) := by decide +kernel
theorem dX2_removeOver_23 : decode cX2_removeOver 23 = .ok (.iconst 0, 1) := by decide +kernel
theorem dX2_removeOver_24 : decode cX2_removeOver 24 = .ok (.bastore, 1) := by decide +kernel
theorem dX2_removeOver_25 : decode cX2_removeOver 25 = .ok (.iinc 1 1, 3) := by decide +kernel
theorem dX2_removeOver_28 : decode cX2_removeOver 28 = .ok (.iinc 2 1, 3) := by decide +kernel
theorem dX2_removeOver_31 : decode cX2_removeOver 31 = .ok (.goto (-27), 3) := by decide +kernel
theorem dX2_removeOver_34 : decode cX2_removeOver 34 = .ok (.aload_n 0, 1) := by decide +kernel
theorem dX2_removeOver_35 : decode cX2_removeOver 35 = .ok (.dup, 1) := by decide +kernel
theorem dX2_removeOver_36 : decode cX2_removeOver 36 = .ok (.getfield 78, 3) := by decide +kernel
theorem dX2_removeOver_39 : decode cX2_removeOver 39 = .ok (.iload_n 1, 1) := by decide +kernel
theorem dX2_removeOver_40 : decode cX2_removeOver 40 = .ok (.iadd, 1) := by decide +kernel
theorem dX2_removeOver_41 : decode cX2_removeOver 41 = .ok (.putfield 78, 3) := by decide +kernel
theorem dX2_removeOver_44 : decode cX2_removeOver 44 = .ok (.iload_n 1, 1) := by decide +kernel
theorem dX2_removeOver_45 : decode cX2_removeOver 45 = .ok (.ireturn, 1) := by decide +kernel
theorem dX2_setWorth_0 : decode cX2_setWorth 0 = .ok (.aload_n 0, 1) := by decide +kernel
theorem dX2_setWorth_1 : decode cX2_setWorth 1 = .ok (.getfield 26, 3) := by decide +kernel
theorem dX2_setWorth_4 : decode cX2_setWorth 4 = .ok (.iload_n 1, 1) := by decide +kernel
theorem dX2_setWorth_5 : decode cX2_setWorth 5 = .ok (.aload_n 0, 1) := by decide +kernel
theorem dX2_setWorth_6 : decode cX2_setWorth 6 = .ok (.getfield 67, 3) := by decide +kernel
theorem dX2_setWorth_9 : decode cX2_setWorth 9 = .ok (.ldc2_w 81, 3) := by decide +kernel
theorem dX2_setWorth_12 : decode cX2_setWorth 12 = .ok (.aload_n 0, 1) := by decide +kernel
theorem dX2_setWorth_13 : decode cX2_setWorth 13 = .ok (.getfield 23, 3) := by decide +kernel
theorem dX2_setWorth_16 : decode cX2_setWorth 16 = .ok (.iload_n 1, 1) := by decide +kernel
theorem dX2_setWorth_17 : decode cX2_setWorth 17 = .ok (.iaload, 1) := by decide +kernel
theorem dX2_setWorth_18 : decode cX2_setWorth 18 = .ok (.i2l, 1) := by decide +kernel
theorem dX2_setWorth_19 : decode cX2_setWorth 19 = .ok (.lmul, 1) := by decide +kernel
theorem dX2_setWorth_20 : decode cX2_setWorth 20 = .ok (.aload_n 0, 1) := by decide +kernel
theorem dX2_setWorth_21 : decode cX2_setWorth 21 = .ok (.getfield 20, 3) := by decide +kernel
theorem dX2_setWorth_24 : decode cX2_setWorth 24 = .ok (.iload_n 1, 1) := by decide +kernel
theorem dX2_setWorth_25 : decode cX2_setWorth 25 = .ok (.iaload, 1) := by decide +kernel
theorem dX2_setWorth_26 : decode cX2_setWorth 26 = .ok (.i2l, 1) := by decide +kernel
theorem dX2_setWorth_27 : decode cX2_setWorth 27 = .ok (.lmul, 1) := by decide +kernel
theorem dX2_setWorth_28 : decode cX2_setWorth 28 = .ok (.aload_n 0, 1) := by decide +kernel
theorem dX2_setWorth_29 : decode cX2_setWorth 29 = .ok (.getfield 16, 3) := by decide +kernel
theorem dX2_setWorth_32 : decode cX2_setWorth 32 = .ok (.iload_n 1, 1) := by decide +kernel
theorem dX2_setWorth_33 : decode cX2_setWorth 33 = .ok (.iaload, 1) := by decide +kernel
theorem dX2_setWorth_34 : decode cX2_setWorth 34 = .ok (.i2l, 1) := by decide +kernel
theorem dX2_setWorth_35 : decode cX2_setWorth 35 = .ok (.ldiv, 1) := by decide +kernel
theorem dX2_setWorth_36 : decode cX2_setWorth 36 = .ok (.ladd, 1) := by decide +kernel
theorem dX2_setWorth_37 : decode cX2_setWorth 37 = .ok (.lastore, 1) := by decide +kernel
theorem dX2_setWorth_38 : decode cX2_setWorth 38 = .ok (.aload_n 0, 1) := by decide +kernel
theorem dX2_setWorth_39 : decode cX2_setWorth 39 = .ok (.dup, 1) := by decide +kernel
theorem dX2_setWorth_40 : decode cX2_setWorth 40 = .ok (.getfield 83, 3) := by decide +kernel
theorem dX2_setWorth_43 : decode cX2_setWorth 43 = .ok (.lconst 1, 1) := by decide +kernel
theorem dX2_setWorth_44 : decode cX2_setWorth 44 = .ok (.ladd, 1) := by decide +kernel
theorem dX2_setWorth_45 : decode cX2_setWorth 45 = .ok (.putfield 83, 3) := by decide +kernel
theorem dX2_setWorth_48 : decode cX2_setWorth 48 = .ok (.aload_n 0, 1) := by decide +kernel
theorem dX2_setWorth_49 : decode cX2_setWorth 49 = .ok (.getfield 33, 3) := by decide +kernel
theorem dX2_setWorth_52 : decode cX2_setWorth 52 = .ok (.iload_n 1, 1) := by decide +kernel
theorem dX2_setWorth_53 : decode cX2_setWorth 53 = .ok (.aload_n 0, 1) := by decide +kernel
theorem dX2_setWorth_54 : decode cX2_setWorth 54 = .ok (.getfield 83, 3) := by decide +kernel
theorem dX2_setWorth_57 : decode cX2_setWorth 57 = .ok (.lastore, 1) := by decide +kernel
theorem dX2_setWorth_58 : decode cX2_setWorth 58 = .ok (.return_, 1) := by decide +kernel
set_option maxRecDepth 20000 in
theorem ggX2_pinnedBytes_X2_over : GoodIn wsX2_pinnedBytes wsX2_over := goodIn_r _ [8, 1, 9, 10, 11, 12, 13, 14, 15, 16, 17, 18, 19, 20, 21, 22, 23, 24, 25, 26, 27, 28, 29, 30, 31, 32] (by decide +kernel) (by decide +kernel)
set_option maxRecDepth 20000 in
theorem gX2_pinnedBytes_X2_over : GoodIn wsX2_pinnedBytes (wsV RX2 74 RX2 yX2_over wsX2_over) := goodIn_app (goodIn_of _ (by decide +kernel)) ggX2_pinnedBytes_X2_over
theorem dX2_pinnedBytes_0 : decode cX2_pinnedBytes 0 = .ok (.iconst 0, 1) := by decide +kernel
theorem dX2_pinnedBytes_1 : decode cX2_pinnedBytes 1 = .ok (.istore_n 2, 1) := by decide +kernel
theorem dX2_pinnedBytes_2 : decode cX2_pinnedBytes 2 = .ok (.iconst 0, 1) := by decide +kernel
theorem dX2_pinnedBytes_3 : decode cX2_pinnedBytes 3 = .ok (.istore_n 3, 1) := by decide +kernel
theorem dX2_pinnedBytes_4 : decode cX2_pinnedBytes 4 = .ok (.iload_n 3, 1) := by decide +kernel
theorem dX2_pinnedBytes_5 : decode cX2_pinnedBytes 5 = .ok (.bipush 32, 2) := by decide +kernel
theorem dX2_pinnedBytes_7 : decode cX2_pinnedBytes 7 = .ok (.if_icmp .ge 52, 3) := by decide +kernel
theorem dX2_pinnedBytes_10 : decode cX2_pinnedBytes 10 = .ok (.iload_n 2, 1) := by decide +kernel
theorem dX2_pinnedBytes_11 : decode cX2_pinnedBytes 11 = .ok (.aload_n 0, 1) := by decide +kernel
theorem dX2_pinnedBytes_12 : decode cX2_pinnedBytes 12 = .ok (.getfield 7, 3) := by decide +kernel
theorem dX2_pinnedBytes_15 : decode cX2_pinnedBytes 15 = .ok (.iload_n 3, 1) := by decide +kernel
theorem dX2_pinnedBytes_16 : decode cX2_pinnedBytes 16 = .ok (.baload, 1) := by decide +kernel
theorem dX2_pinnedBytes_17 : decode cX2_pinnedBytes 17 = .ok (.ifCond .eq 33, 3) := by decide +kernel
theorem dX2_pinnedBytes_20 : decode cX2_pinnedBytes 20 = .ok (.aload_n 0, 1) := by decide +kernel
theorem dX2_pinnedBytes_21 : decode cX2_pinnedBytes 21 = .ok (.getfield 13, 3) := by decide +kernel
theorem dX2_pinnedBytes_24 : decode cX2_pinnedBytes 24 = .ok (.iload_n 3, 1) := by decide +kernel
theorem dX2_pinnedBytes_25 : decode cX2_pinnedBytes 25 = .ok (.baload, 1) := by decide +kernel
theorem dX2_pinnedBytes_26 : decode cX2_pinnedBytes 26 = .ok (.ifCond .eq 24, 3) := by decide +kernel
theorem dX2_pinnedBytes_29 : decode cX2_pinnedBytes 29 = .ok (.iload_n 1, 1) := by decide +kernel
theorem dX2_pinnedBytes_30 : decode cX2_pinnedBytes 30 = .ok (.ifCond .ne 11, 3) := by decide +kernel
theorem dX2_pinnedBytes_33 : decode cX2_pinnedBytes 33 = .ok (.aload_n 0, 1) := by decide +kernel
theorem dX2_pinnedBytes_34 : decode cX2_pinnedBytes 34 = .ok (.iload_n 3, 1) := by decide +kernel
theorem dX2_pinnedBytes_35 : decode cX2_pinnedBytes 35 = .ok (.invokevirtual 74, 3) := by decide +kernel
theorem dX2_pinnedBytes_38 : decode cX2_pinnedBytes 38 = .ok (.ifCond .ne 12, 3) := by decide +kernel
theorem dX2_pinnedBytes_41 : decode cX2_pinnedBytes 41 = .ok (.aload_n 0, 1) := by decide +kernel
theorem dX2_pinnedBytes_42 : decode cX2_pinnedBytes 42 = .ok (.getfield 16, 3) := by decide +kernel
theorem dX2_pinnedBytes_45 : decode cX2_pinnedBytes 45 = .ok (.iload_n 3, 1) := by decide +kernel
theorem dX2_pinnedBytes_46 : decode cX2_pinnedBytes 46 = .ok (.iaload, 1) := by decide +kernel
theorem dX2_pinnedBytes_47 : decode cX2_pinnedBytes 47 = .ok (.goto 4, 3) := by decide +kernel
theorem dX2_pinnedBytes_50 : decode cX2_pinnedBytes 50 = .ok (.iconst 0, 1) := by decide +kernel
theorem dX2_pinnedBytes_51 : decode cX2_pinnedBytes 51 = .ok (.iadd, 1) := by decide +kernel
theorem dX2_pinnedBytes_52 : decode cX2_pinnedBytes 52 = .ok (.istore_n 2, 1) := by decide +kernel
theorem dX2_pinnedBytes_53 : decode cX2_pinnedBytes 53 = .ok (.iinc 3 1, 3) := by decide +kernel
theorem dX2_pinnedBytes_56 : decode cX2_pinnedBytes 56 = .ok (.goto (-52), 3) := by decide +kernel
theorem dX2_pinnedBytes_59 : decode cX2_pinnedBytes 59 = .ok (.iload_n 2, 1) := by decide +kernel
theorem dX2_pinnedBytes_60 : decode cX2_pinnedBytes 60 = .ok (.ireturn, 1) := by decide +kernel
set_option maxRecDepth 20000 in
theorem ggX2_makesRoom_X2_usedBytes : GoodIn wsX2_makesRoom wsX2_usedBytes := goodIn_r _ [6, 7, 8, 45, 46, 47, 48, 49, 50, 51, 52, 53, 54, 55, 56, 57, 58, 59, 60, 61, 62, 63, 64, 65, 66] (by decide +kernel) (by decide +kernel)
set_option maxRecDepth 20000 in
theorem gX2_makesRoom_X2_usedBytes : GoodIn wsX2_makesRoom (wsV RX2 86 RX2 yX2_usedBytes wsX2_usedBytes) := goodIn_app (goodIn_of _ (by decide +kernel)) ggX2_makesRoom_X2_usedBytes
set_option maxRecDepth 20000 in
theorem ggX2_makesRoom_X2_removeOver : GoodIn wsX2_makesRoom wsX2_removeOver := goodIn_r _ [12, 7, 13, 14, 15, 16, 5, 17, 18, 19, 45, 46, 47, 48, 49, 50, 51, 52, 53, 54, 55, 56, 57, 58, 59, 60, 61, 62, 63, 64, 65, 66] (by decide +kernel) (by decide +kernel)
set_option maxRecDepth 20000 in
theorem gX2_makesRoom_X2_removeOver : GoodIn wsX2_makesRoom (wsV RX2 90 RX2 yX2_removeOver wsX2_removeOver) := goodIn_app (goodIn_of _ (by decide +kernel)) ggX2_makesRoom_X2_removeOver
set_option maxRecDepth 20000 in
theorem ggX2_makesRoom_X2_pinnedBytes : GoodIn wsX2_makesRoom wsX2_pinnedBytes := goodIn_r _ [23, 7, 24, 8, 14, 15, 16, 5, 17, 18, 19, 45, 46, 47, 48, 49, 50, 51, 52, 53, 54, 55, 56, 57, 58, 59, 60, 61, 62, 63, 64, 65, 66] (by decide +kernel) (by decide +kernel)
set_option maxRecDepth 20000 in
theorem gX2_makesRoom_X2_pinnedBytes : GoodIn wsX2_makesRoom (wsV RX2 93 RX2 yX2_pinnedBytes wsX2_pinnedBytes) := goodIn_app (goodIn_of _ (by decide +kernel)) ggX2_makesRoom_X2_pinnedBytes
set_option maxRecDepth 20000 in
theorem ggX2_makesRoom_X2_firstLeaves : GoodIn wsX2_makesRoom wsX2_firstLeaves := goodIn_r _ [28, 7, 29, 30, 31, 32, 33, 34, 5, 35, 36, 37, 38, 39, 24, 40, 41, 42, 43, 44, 45, 46, 47, 48, 49, 50, 51, 52, 53, 54, 55, 56, 57, 58, 59, 60, 61, 62, 63, 64, 65, 66] (by decide +kernel) (by decide +kernel)
set_option maxRecDepth 20000 in
theorem gX2_makesRoom_X2_firstLeaves : GoodIn wsX2_makesRoom (wsV RX2 97 RX2 yX2_firstLeaves wsX2_firstLeaves) := goodIn_app (goodIn_of _ (by decide +kernel)) ggX2_makesRoom_X2_firstLeaves
theorem dX2_makesRoom_0 : decode cX2_makesRoom 0 = .ok (.aload_n 0, 1) := by decide +kernel
theorem dX2_makesRoom_1 : decode cX2_makesRoom 1 = .ok (.invokevirtual 86, 3) := by decide +kernel
theorem dX2_makesRoom_4 : decode cX2_makesRoom 4 = .ok (.iload_n 1, 1) := by decide +kernel
theorem dX2_makesRoom_5 : decode cX2_makesRoom 5 = .ok (.iadd, 1) := by decide +kernel
theorem dX2_makesRoom_6 : decode cX2_makesRoom 6 = .ok (.aload_n 0, 1) := by decide +kernel
theorem dX2_makesRoom_7 : decode cX2_makesRoom 7 = .ok (.getfield 39, 3) := by decide +kernel
theorem dX2_makesRoom_10 : decode cX2_makesRoom 10 = .ok (.if_icmp .le 8, 3) := by decide +kernel
theorem dX2_makesRoom_13 : decode cX2_makesRoom 13 = .ok (.aload_n 0, 1) := by decide +kernel
theorem dX2_makesRoom_14 : decode cX2_makesRoom 14 = .ok (.invokevirtual 90, 3) := by decide +kernel
theorem dX2_makesRoom_17 : decode cX2_makesRoom 17 = .ok (.istore_n 2, 1) := by decide +kernel
theorem dX2_makesRoom_18 : decode cX2_makesRoom 18 = .ok (.aload_n 0, 1) := by decide +kernel
theorem dX2_makesRoom_19 : decode cX2_makesRoom 19 = .ok (.iconst 1, 1) := by decide +kernel
theorem dX2_makesRoom_20 : decode cX2_makesRoom 20 = .ok (.invokevirtual 93, 3) := by decide +kernel
theorem dX2_makesRoom_23 : decode cX2_makesRoom 23 = .ok (.iload_n 1, 1) := by decide +kernel
theorem dX2_makesRoom_24 : decode cX2_makesRoom 24 = .ok (.iadd, 1) := by decide +kernel
theorem dX2_makesRoom_25 : decode cX2_makesRoom 25 = .ok (.aload_n 0, 1) := by decide +kernel
theorem dX2_makesRoom_26 : decode cX2_makesRoom 26 = .ok (.getfield 39, 3) := by decide +kernel
theorem dX2_makesRoom_29 : decode cX2_makesRoom 29 = .ok (.if_icmp .le 5, 3) := by decide +kernel
theorem dX2_makesRoom_32 : decode cX2_makesRoom 32 = .ok (.iconst 0, 1) := by decide +kernel
theorem dX2_makesRoom_33 : decode cX2_makesRoom 33 = .ok (.ireturn, 1) := by decide +kernel
theorem dX2_makesRoom_34 : decode cX2_makesRoom 34 = .ok (.aload_n 0, 1) := by decide +kernel
theorem dX2_makesRoom_35 : decode cX2_makesRoom 35 = .ok (.invokevirtual 86, 3) := by decide +kernel
theorem dX2_makesRoom_38 : decode cX2_makesRoom 38 = .ok (.iload_n 1, 1) := by decide +kernel
theorem dX2_makesRoom_39 : decode cX2_makesRoom 39 = .ok (.iadd, 1) := by decide +kernel
theorem dX2_makesRoom_40 : decode cX2_makesRoom 40 = .ok (.aload_n 0, 1) := by decide +kernel
theorem dX2_makesRoom_41 : decode cX2_makesRoom 41 = .ok (.getfield 39, 3) := by decide +kernel
theorem dX2_makesRoom_44 : decode cX2_makesRoom 44 = .ok (.if_icmp .le 10, 3) := by decide +kernel
theorem dX2_makesRoom_47 : decode cX2_makesRoom 47 = .ok (.aload_n 0, 1) := by decide +kernel
theorem dX2_makesRoom_48 : decode cX2_makesRoom 48 = .ok (.invokevirtual 97, 3) := by decide +kernel
theorem dX2_makesRoom_51 : decode cX2_makesRoom 51 = .ok (.goto (-17), 3) := by decide +kernel
theorem dX2_makesRoom_54 : decode cX2_makesRoom 54 = .ok (.iconst 1, 1) := by decide +kernel
theorem dX2_makesRoom_55 : decode cX2_makesRoom 55 = .ok (.ireturn, 1) := by decide +kernel
set_option maxRecDepth 20000 in
theorem ggX2_fetch_X2_isThing : GoodIn wsX2_fetch wsX2_isThing := goodIn_r _ [22, 1, 23, 24, 21, 25, 72, 73, 74, 75, 76, 77, 78, 79, 80, 81, 82, 83, 84, 85, 86, 87, 88, 89, 90, 91, 92, 93] (by decide +kernel) (by decide +kernel)
set_option maxRecDepth 20000 in
theorem gX2_fetch_X2_isThing : GoodIn wsX2_fetch (wsV RX2 100 RX2 yX2_isThing wsX2_isThing) := goodIn_app (goodIn_of _ (by decide +kernel)) ggX2_fetch_X2_isThing
set_option maxRecDepth 20000 in
theorem ggX2_fetch_X2_in : GoodIn wsX2_fetch wsX2_in := goodIn_r _ [25] (by decide +kernel) (by decide +kernel)
set_option maxRecDepth 20000 in
theorem gX2_fetch_X2_in : GoodIn wsX2_fetch (va_wsS RX2 49 yX2_in wsX2_in) := goodIn_app (goodIn_of _ (by decide +kernel)) ggX2_fetch_X2_in
set_option maxRecDepth 20000 in
theorem ggX2_fetch_X2_over : GoodIn wsX2_fetch wsX2_over := goodIn_r _ [29, 2, 10, 17, 72, 73, 74, 75, 76, 77, 78, 79, 80, 81, 82, 83, 84, 85, 86, 87, 88, 89, 90, 91, 92, 93] (by decide +kernel) (by decide +kernel)
set_option maxRecDepth 20000 in
theorem gX2_fetch_X2_over : GoodIn wsX2_fetch (wsV RX2 74 RX2 yX2_over wsX2_over) := goodIn_app (goodIn_of _ (by decide +kernel)) ggX2_fetch_X2_over
set_option maxRecDepth 20000 in
theorem ggX2_fetch_X2_setWorth : GoodIn wsX2_fetch wsX2_setWorth := goodIn_r _ [33, 34, 35, 36, 4, 5, 3, 37, 38, 72, 73, 74, 75, 76, 77, 78, 79, 80, 81, 82, 83, 84, 85, 86, 87, 88, 89, 90, 91, 92, 93] (by decide +kernel) (by decide +kernel)
set_option maxRecDepth 20000 in
theorem gX2_fetch_X2_setWorth : GoodIn wsX2_fetch (wsV RX2 103 RX2 yX2_setWorth wsX2_setWorth) := goodIn_app (goodIn_of _ (by decide +kernel)) ggX2_fetch_X2_setWorth
set_option maxRecDepth 20000 in
theorem ggX2_fetch_X2_makesRoom : GoodIn wsX2_fetch wsX2_makesRoom := goodIn_r _ [42, 14, 43, 44, 45, 21, 46, 2, 3, 47, 48, 49, 50, 13, 26, 27, 28, 29, 10, 17, 51, 52, 53, 54, 16, 55, 56, 57, 58, 34, 35, 59, 60, 61, 62, 63, 64, 65, 66, 67, 68, 69, 70, 71, 38, 72, 73, 74, 75, 76, 77, 78, 79, 80, 81, 82, 83, 84, 85, 86, 87, 88, 89, 90, 91, 92, 93] (by decide +kernel) (by decide +kernel)
set_option maxRecDepth 20000 in
theorem gX2_fetch_X2_makesRoom : GoodIn wsX2_fetch (wsV RX2 122 RX2 yX2_makesRoom wsX2_makesRoom) := goodIn_app (goodIn_of _ (by decide +kernel)) ggX2_fetch_X2_makesRoom
theorem dX2_fetch_0 : decode cX2_fetch 0 = .ok (.aload_n 0, 1) := by decide +kernel
theorem dX2_fetch_1 : decode cX2_fetch 1 = .ok (.iload_n 1, 1) := by decide +kernel
theorem dX2_fetch_2 : decode cX2_fetch 2 = .ok (.invokevirtual 100, 3) := by decide +kernel
theorem dX2_fetch_5 : decode cX2_fetch 5 = .ok (.ifCond .ne 5, 3) := by decide +kernel
theorem dX2_fetch_8 : decode cX2_fetch 8 = .ok (.iconst 0, 1) := by decide +kernel
theorem dX2_fetch_9 : decode cX2_fetch 9 = .ok (.ireturn, 1) := by decide +kernel
theorem dX2_fetch_10 : decode cX2_fetch 10 = .ok (.aload_n 0, 1) := by decide +kernel
theorem dX2_fetch_11 : decode cX2_fetch 11 = .ok (.iload_n 2, 1) := by decide +kernel
theorem dX2_fetch_12 : decode cX2_fetch 12 = .ok (.iconst 1, 1) := by decide +kernel
theorem dX2_fetch_13 : decode cX2_fetch 13 = .ok (.sipush 1000, 3) := by decide +kernel
theorem dX2_fetch_16 : decode cX2_fetch 16 = .ok (.invokestatic 49, 3) := by decide +kernel
theorem dX2_fetch_19 : decode cX2_fetch 19 = .ok (.ifCond .eq 30, 3) := by decide +kernel
theorem dX2_fetch_22 : decode cX2_fetch 22 = .ok (.iload_n 3, 1) := by decide +kernel
theorem dX2_fetch_23 : decode cX2_fetch 23 = .ok (.iconst 0, 1) := by decide +kernel
theorem dX2_fetch_24 : decode cX2_fetch 24 = .ok (.sipush 1000, 3) := by decide +kernel
theorem dX2_fetch_27 : decode cX2_fetch 27 = .ok (.invokestatic 49, 3) := by decide +kernel
theorem dX2_fetch_30 : decode cX2_fetch 30 = .ok (.ifCond .eq 19, 3) := by decide +kernel
theorem dX2_fetch_33 : decode cX2_fetch 33 = .ok (.iload 4, 2) := by decide +kernel
theorem dX2_fetch_35 : decode cX2_fetch 35 = .ok (.iconst 1, 1) := by decide +kernel
theorem dX2_fetch_36 : decode cX2_fetch 36 = .ok (.sipush 10000, 3) := by decide +kernel
theorem dX2_fetch_39 : decode cX2_fetch 39 = .ok (.invokestatic 49, 3) := by decide +kernel
theorem dX2_fetch_42 : decode cX2_fetch 42 = .ok (.ifCond .eq 7, 3) := by decide +kernel
theorem dX2_fetch_45 : decode cX2_fetch 45 = .ok (.iconst 0, 1) := by decide +kernel
theorem dX2_fetch_46 : decode cX2_fetch 46 = .ok (.goto 4, 3) := by decide +kernel
theorem dX2_fetch_49 : decode cX2_fetch 49 = .ok (.iconst 2, 1) := by decide +kernel
theorem dX2_fetch_50 : decode cX2_fetch 50 = .ok (.putfield 46, 3) := by decide +kernel
theorem dX2_fetch_53 : decode cX2_fetch 53 = .ok (.aload_n 0, 1) := by decide +kernel
theorem dX2_fetch_54 : decode cX2_fetch 54 = .ok (.getfield 46, 3) := by decide +kernel
theorem dX2_fetch_57 : decode cX2_fetch 57 = .ok (.ifCond .le 5, 3) := by decide +kernel
theorem dX2_fetch_60 : decode cX2_fetch 60 = .ok (.iconst 0, 1) := by decide +kernel
theorem dX2_fetch_61 : decode cX2_fetch 61 = .ok (.ireturn, 1) := by decide +kernel
theorem dX2_fetch_62 : decode cX2_fetch 62 = .ok (.aload_n 0, 1) := by decide +kernel
theorem dX2_fetch_63 : decode cX2_fetch 63 = .ok (.getfield 7, 3) := by decide +kernel
theorem dX2_fetch_66 : decode cX2_fetch 66 = .ok (.iload_n 1, 1) := by decide +kernel
theorem dX2_fetch_67 : decode cX2_fetch 67 = .ok (.baload, 1) := by decide +kernel
theorem dX2_fetch_68 : decode cX2_fetch 68 = .ok (.ifCond .eq 77, 3) := by decide +kernel
theorem dX2_fetch_71 : decode cX2_fetch 71 = .ok (.aload_n 0, 1) := by decide +kernel
theorem dX2_fetch_72 : decode cX2_fetch 72 = .ok (.iload_n 1, 1) := by decide +kernel
theorem dX2_fetch_73 : decode cX2_fetch 73 = .ok (.invokevirtual 74, 3) := by decide +kernel
theorem dX2_fetch_76 : decode cX2_fetch 76 = .ok (.ifCond .ne 69, 3) := by decide +kernel
theorem dX2_fetch_79 : decode cX2_fetch 79 = .ok (.aload_n 0, 1) := by decide +kernel
theorem dX2_fetch_80 : decode cX2_fetch 80 = .ok (.getfield 16, 3) := by decide +kernel
theorem dX2_fetch_83 : decode cX2_fetch 83 = .ok (.iload_n 1, 1) := by decide +kernel
theorem dX2_fetch_84 : decode cX2_fetch 84 = .ok (.iaload, 1) := by decide +kernel
theorem dX2_fetch_85 : decode cX2_fetch 85 = .ok (.iload_n 2, 1) := by decide +kernel
theorem dX2_fetch_86 : decode cX2_fetch 86 = .ok (.if_icmp .ne 59, 3) := by decide +kernel
theorem dX2_fetch_89 : decode cX2_fetch 89 = .ok (.aload_n 0, 1) := by decide +kernel
theorem dX2_fetch_90 : decode cX2_fetch 90 = .ok (.getfield 23, 3) := by decide +kernel
theorem dX2_fetch_93 : decode cX2_fetch 93 = .ok (.iload_n 1, 1) := by decide +kernel
theorem dX2_fetch_94 : decode cX2_fetch 94 = .ok (.dup2, 1) := by decide +kernel
theorem dX2_fetch_95 : decode cX2_fetch 95 = .ok (.iaload, 1) := by decide +kernel
theorem dX2_fetch_96 : decode cX2_fetch 96 = .ok (.iconst 1, 1) := by decide +kernel
theorem dX2_fetch_97 : decode cX2_fetch 97 = .ok (.iadd, 1) := by decide +kernel
theorem dX2_fetch_98 : decode cX2_fetch 98 = .ok (.iastore, 1) := by decide +kernel
theorem dX2_fetch_99 : decode cX2_fetch 99 = .ok (.aload_n 0, 1) := by decide +kernel
theorem dX2_fetch_100 : decode cX2_fetch 100 = .ok (.getfield 20, 3) := by decide +kernel
theorem dX2_fetch_103 : decode cX2_fetch 103 = .ok (.iload_n 1, 1) := by decide +kernel
theorem dX2_fetch_104 : decode cX2_fetch 104 = .ok (.iload_n 3, 1) := by decide +kernel
theorem dX2_fetch_105 : decode cX2_fetch 105 = .ok (.iastore, 1) := by decide +kernel
theorem dX2_fetch_106 : decode cX2_fetch 106 = .ok (.aload_n 0, 1) := by decide +kernel
theorem dX2_fetch_107 : decode cX2_fetch 107 = .ok (.iload_n 1, 1) := by decide +kernel
theorem dX2_fetch_108 : decode cX2_fetch 108 = .ok (.invokevirtual 103, 3) := by decide +kernel
theorem dX2_fetch_111 : decode cX2_fetch 111 = .ok (.aload_n 0, 1) := by decide +kernel
theorem dX2_fetch_112 : decode cX2_fetch 112 = .ok (.dup, 1) := by decide +kernel
theorem dX2_fetch_113 : decode cX2_fetch 113 = .ok (.getfield 107, 3) := by decide +kernel
theorem dX2_fetch_116 : decode cX2_fetch 116 = .ok (.iconst 1, 1) := by decide +kernel
theorem dX2_fetch_117 : decode cX2_fetch 117 = .ok (.iadd, 1) := by decide +kernel
theorem dX2_fetch_118 : decode cX2_fetch 118 = .ok (.putfield 107, 3) := by decide +kernel
theorem dX2_fetch_121 : decode cX2_fetch 121 = .ok (.aload_n 0, 1) := by decide +kernel
theorem dX2_fetch_122 : decode cX2_fetch 122 = .ok (.dup, 1) := by decide +kernel
theorem dX2_fetch_123 : decode cX2_fetch 123 = .ok (.getfield 110, 3) := by decide +kernel
theorem dX2_fetch_126 : decode cX2_fetch 126 = .ok (.iload_n 2, 1) := by decide +kernel
theorem dX2_fetch_127 : decode cX2_fetch 127 = .ok (.i2l, 1) := by decide +kernel
theorem dX2_fetch_128 : decode cX2_fetch 128 = .ok (.ladd, 1) := by decide +kernel
theorem dX2_fetch_129 : decode cX2_fetch 129 = .ok (.putfield 110, 3) := by decide +kernel
theorem dX2_fetch_132 : decode cX2_fetch 132 = .ok (.aload_n 0, 1) := by decide +kernel
theorem dX2_fetch_133 : decode cX2_fetch 133 = .ok (.dup, 1) := by decide +kernel
theorem dX2_fetch_134 : decode cX2_fetch 134 = .ok (.getfield 113, 3) := by decide +kernel
theorem dX2_fetch_137 : decode cX2_fetch 137 = .ok (.iload_n 3, 1) := by decide +kernel
theorem dX2_fetch_138 : decode cX2_fetch 138 = .ok (.i2l, 1) := by decide +kernel
theorem dX2_fetch_139 : decode cX2_fetch 139 = .ok (.ladd, 1) := by decide +kernel
theorem dX2_fetch_140 : decode cX2_fetch 140 = .ok (.putfield 113, 3) := by decide +kernel
theorem dX2_fetch_143 : decode cX2_fetch 143 = .ok (.iconst 0, 1) := by decide +kernel
theorem dX2_fetch_144 : decode cX2_fetch 144 = .ok (.ireturn, 1) := by decide +kernel
theorem dX2_fetch_145 : decode cX2_fetch 145 = .ok (.aload_n 0, 1) := by decide +kernel
theorem dX2_fetch_146 : decode cX2_fetch 146 = .ok (.getfield 36, 3) := by decide +kernel
theorem dX2_fetch_149 : decode cX2_fetch 149 = .ok (.iload_n 1, 1) := by decide +kernel
theorem dX2_fetch_150 : decode cX2_fetch 150 = .ok (.iaload, 1) := by decide +kernel
theorem dX2_fetch_151 : decode cX2_fetch 151 = .ok (.iconst (-1), 1) := by decide +kernel
theorem dX2_fetch_152 : decode cX2_fetch 152 = .ok (.if_icmp .eq 23, 3) := by decide +kernel
theorem dX2_fetch_155 : decode cX2_fetch 155 = .ok (.aload_n 0, 1) := by decide +kernel
theorem dX2_fetch_156 : decode cX2_fetch 156 = .ok (.getfield 53, 3) := by decide +kernel
theorem dX2_fetch_159 : decode cX2_fetch 159 = .ok (.aload_n 0, 1) := by decide +kernel
theorem dX2_fetch_160 : decode cX2_fetch 160 = .ok (.getfield 36, 3) := by decide +kernel
theorem dX2_fetch_163 : decode cX2_fetch 163 = .ok (.iload_n 1, 1) := by decide +kernel
theorem dX2_fetch_164 : decode cX2_fetch 164 = .ok (.iaload, 1) := by decide +kernel
theorem dX2_fetch_165 : decode cX2_fetch 165 = .ok (.isub, 1) := by decide +kernel
theorem dX2_fetch_166 : decode cX2_fetch 166 = .ok (.bipush 50, 2) := by decide +kernel
theorem dX2_fetch_168 : decode cX2_fetch 168 = .ok (.if_icmp .gt 7, 3) := by decide +kernel
theorem dX2_fetch_171 : decode cX2_fetch 171 = .ok (.iconst 1, 1) := by decide +kernel
theorem dX2_fetch_172 : decode cX2_fetch 172 = .ok (.goto 4, 3) := by decide +kernel
theorem dX2_fetch_175 : decode cX2_fetch 175 = .ok (.iconst 0, 1) := by decide +kernel
theorem dX2_fetch_176 : decode cX2_fetch 176 = .ok (.istore 5, 2) := by decide +kernel
theorem dX2_fetch_178 : decode cX2_fetch 178 = .ok (.aload_n 0, 1) := by decide +kernel
theorem dX2_fetch_179 : decode cX2_fetch 179 = .ok (.getfield 36, 3) := by decide +kernel
theorem dX2_fetch_182 : decode cX2_fetch 182 = .ok (.iload_n 1, 1) := by decide +kernel
theorem dX2_fetch_183 : decode cX2_fetch 183 = .ok (.aload_n 0, 1) := by decide +kernel
theorem dX2_fetch_184 : decode cX2_fetch 184 = .ok (.getfield 53, 3) := by decide +kernel
theorem dX2_fetch_187 : decode cX2_fetch 187 = .ok (.iastore, 1) := by decide +kernel
theorem dX2_fetch_188 : decode cX2_fetch 188 = .ok (.aload_n 0, 1) := by decide +kernel
theorem dX2_fetch_189 : decode cX2_fetch 189 = .ok (.dup, 1) := by decide +kernel
theorem dX2_fetch_190 : decode cX2_fetch 190 = .ok (.getfield 116, 3) := by decide +kernel
theorem dX2_fetch_193 : decode cX2_fetch 193 = .ok (.iconst 1, 1) := by decide +kernel
theorem dX2_fetch_194 : decode cX2_fetch 194 = .ok (.iadd, 1) := by decide +kernel
theorem dX2_fetch_195 : decode cX2_fetch 195 = .ok (.putfield 116, 3) := by decide +kernel
theorem dX2_fetch_198 : decode cX2_fetch 198 = .ok (.aload_n 0, 1) := by decide +kernel
theorem dX2_fetch_199 : decode cX2_fetch 199 = .ok (.dup, 1) := by decide +kernel
theorem dX2_fetch_200 : decode cX2_fetch 200 = .ok (.getfield 119, 3) := by decide +kernel
theorem dX2_fetch_203 : decode cX2_fetch 203 = .ok (.iload_n 3, 1) := by decide +kernel
theorem dX2_fetch_204 : decode cX2_fetch 204 = .ok (.i2l, 1) := by decide +kernel
theorem dX2_fetch_205 : decode cX2_fetch 205 = .ok (.ladd, 1) := by decide +kernel
theorem dX2_fetch_206 : decode cX2_fetch 206 = .ok (.putfield 119, 3) := by decide +kernel
theorem dX2_fetch_209 : decode cX2_fetch 209 = .ok (.aload_n 0, 1) := by decide +kernel
theorem dX2_fetch_210 : decode cX2_fetch 210 = .ok (.dup, 1) := by decide +kernel
theorem dX2_fetch_211 : decode cX2_fetch 211 = .ok (.getfield 78, 3) := by decide +kernel
theorem dX2_fetch_214 : decode cX2_fetch 214 = .ok (.aload_n 0, 1) := by decide +kernel
theorem dX2_fetch_215 : decode cX2_fetch 215 = .ok (.iload_n 1, 1) := by decide +kernel
theorem dX2_fetch_216 : decode cX2_fetch 216 = .ok (.invokevirtual 74, 3) := by decide +kernel
theorem dX2_fetch_219 : decode cX2_fetch 219 = .ok (.ifCond .eq 7, 3) := by decide +kernel
theorem dX2_fetch_222 : decode cX2_fetch 222 = .ok (.iconst 1, 1) := by decide +kernel
theorem dX2_fetch_223 : decode cX2_fetch 223 = .ok (.goto 4, 3) := by decide +kernel
theorem dX2_fetch_226 : decode cX2_fetch 226 = .ok (.iconst 0, 1) := by decide +kernel
theorem dX2_fetch_227 : decode cX2_fetch 227 = .ok (.iadd, 1) := by decide +kernel
theorem dX2_fetch_228 : decode cX2_fetch 228 = .ok (.putfield 78, 3) := by decide +kernel
theorem dX2_fetch_231 : decode cX2_fetch 231 = .ok (.aload_n 0, 1) := by decide +kernel
theorem dX2_fetch_232 : decode cX2_fetch 232 = .ok (.getfield 7, 3) := by decide +kernel
theorem dX2_fetch_235 : decode cX2_fetch 235 = .ok (.iload_n 1, 1) := by decide +kernel
theorem dX2_fetch_236 : decode cX2_fetch 236 = .ok (.iconst 0, 1) := by decide +kernel
theorem dX2_fetch_237 : decode cX2_fetch 237 = .ok (.bastore, 1) := by decide +kernel
theorem dX2_fetch_238 : decode cX2_fetch 238 = .ok (.iload_n 2, 1) := by decide +kernel
theorem dX2_fetch_239 : decode cX2_fetch 239 = .ok (.aload_n 0, 1) := by decide +kernel
theorem dX2_fetch_240 : decode cX2_fetch 240 = .ok (.getfield 39, 3) := by decide +kernel
theorem dX2_fetch_243 : decode cX2_fetch 243 = .ok (.if_icmp .gt 24, 3) := by decide +kernel
theorem dX2_fetch_246 : decode cX2_fetch 246 = .ok (.iload_n 2, 1) := by decide +kernel
theorem dX2_fetch_247 : decode cX2_fetch 247 = .ok (.aload_n 0, 1) := by decide +kernel
theorem dX2_fetch_248 : decode cX2_fetch 248 = .ok (.getfield 43, 3) := by decide +kernel
theorem dX2_fetch_251 : decode cX2_fetch 251 = .ok (.if_icmp .le 8, 3) := by decide +kernel
theorem dX2_fetch_254 : decode cX2_fetch 254 = .ok (.iload 5, 2) := by decide +kernel
theorem dX2_fetch_256 : decode cX2_fetch 256 = .ok (.ifCond .eq 11, 3) := by decide +kernel
theorem dX2_fetch_259 : decode cX2_fetch 259 = .ok (.aload_n 0, 1) := by decide +kernel
theorem dX2_fetch_260 : decode cX2_fetch 260 = .ok (.iload_n 2, 1) := by decide +kernel
theorem dX2_fetch_261 : decode cX2_fetch 261 = .ok (.invokevirtual 122, 3) := by decide +kernel
theorem dX2_fetch_264 : decode cX2_fetch 264 = .ok (.ifCond .ne 5, 3) := by decide +kernel
theorem dX2_fetch_267 : decode cX2_fetch 267 = .ok (.iconst 2, 1) := by decide +kernel
theorem dX2_fetch_268 : decode cX2_fetch 268 = .ok (.ireturn, 1) := by decide +kernel
theorem dX2_fetch_269 : decode cX2_fetch 269 = .ok (.aload_n 0, 1) := by decide +kernel
theorem dX2_fetch_270 : decode cX2_fetch 270 = .ok (.getfield 7, 3) := by decide +kernel
theorem dX2_fetch_273 : decode cX2_fetch 273 = .ok (.iload_n 1, 1) := by decide +kernel
theorem dX2_fetch_274 : decode cX2_fetch 274 = .ok (.iconst 1, 1) := by decide +kernel
theorem dX2_fetch_275 : decode cX2_fetch 275 = .ok (.bastore, 1) := by decide +kernel
theorem dX2_fetch_276 : decode cX2_fetch 276 = .ok (.aload_n 0, 1) := by decide +kernel
theorem dX2_fetch_277 : decode cX2_fetch 277 = .ok (.getfield 13, 3) := by decide +kernel
theorem dX2_fetch_280 : decode cX2_fetch 280 = .ok (.iload_n 1, 1) := by decide +kernel
theorem dX2_fetch_281 : decode cX2_fetch 281 = .ok (.iconst 0, 1) := by decide +kernel
theorem dX2_fetch_282 : decode cX2_fetch 282 = .ok (.bastore, 1) := by decide +kernel
theorem dX2_fetch_283 : decode cX2_fetch 283 = .ok (.aload_n 0, 1) := by decide +kernel
theorem dX2_fetch_284 : decode cX2_fetch 284 = .ok (.getfield 16, 3) := by decide +kernel
theorem dX2_fetch_287 : decode cX2_fetch 287 = .ok (.iload_n 1, 1) := by decide +kernel
theorem dX2_fetch_288 : decode cX2_fetch 288 = .ok (.iload_n 2, 1) := by decide +kernel
theorem dX2_fetch_289 : decode cX2_fetch 289 = .ok (.iastore, 1) := by decide +kernel
theorem dX2_fetch_290 : decode cX2_fetch 290 = .ok (.aload_n 0, 1) := by decide +kernel
theorem dX2_fetch_291 : decode cX2_fetch 291 = .ok (.getfield 20, 3) := by decide +kernel
theorem dX2_fetch_294 : decode cX2_fetch 294 = .ok (.iload_n 1, 1) := by decide +kernel
theorem dX2_fetch_295 : decode cX2_fetch 295 = .ok (.iload_n 3, 1) := by decide +kernel
theorem dX2_fetch_296 : decode cX2_fetch 296 = .ok (.iastore, 1) := by decide +kernel
theorem dX2_fetch_297 : decode cX2_fetch 297 = .ok (.aload_n 0, 1) := by decide +kernel
theorem dX2_fetch_298 : decode cX2_fetch 298 = .ok (.getfield 23, 3) := by decide +kernel
theorem dX2_fetch_301 : decode cX2_fetch 301 = .ok (.iload_n 1, 1) := by decide +kernel
theorem dX2_fetch_302 : decode cX2_fetch 302 = .ok (.iconst 1, 1) := by decide +kernel
theorem dX2_fetch_303 : decode cX2_fetch 303 = .ok (.iastore, 1) := by decide +kernel
theorem dX2_fetch_304 : decode cX2_fetch 304 = .ok (.aload_n 0, 1) := by decide +kernel
theorem dX2_fetch_305 : decode cX2_fetch 305 = .ok (.getfield 30, 3) := by decide +kernel
theorem dX2_fetch_308 : decode cX2_fetch 308 = .ok (.iload_n 1, 1) := by decide +kernel
theorem dX2_fetch_309 : decode cX2_fetch 309 = .ok (.aload_n 0, 1) := by decide +kernel
theorem dX2_fetch_310 : decode cX2_fetch 310 = .ok (.getfield 53, 3) := by decide +kernel
theorem dX2_fetch_313 : decode cX2_fetch 313 = .ok (.iload 4, 2) := by decide +kernel
theorem dX2_fetch_315 : decode cX2_fetch 315 = .ok (.iadd, 1) := by decide +kernel
theorem dX2_fetch_316 : decode cX2_fetch 316 = .ok (.iastore, 1) := by decide +kernel
theorem dX2_fetch_317 : decode cX2_fetch 317 = .ok (.aload_n 0, 1) := by decide +kernel
theorem dX2_fetch_318 : decode cX2_fetch 318 = .ok (.iload_n 1, 1) := by decide +kernel
theorem dX2_fetch_319 : decode cX2_fetch 319 = .ok (.invokevirtual 103, 3) := by decide +kernel
theorem dX2_fetch_322 : decode cX2_fetch 322 = .ok (.iconst 1, 1) := by decide +kernel
theorem dX2_fetch_323 : decode cX2_fetch 323 = .ok (.ireturn, 1) := by decide +kernel
set_option maxRecDepth 20000 in
theorem ggX2_pass_X2_in : GoodIn wsX2_pass wsX2_in := goodIn_r _ [6] (by decide +kernel) (by decide +kernel)
set_option maxRecDepth 20000 in
theorem gX2_pass_X2_in : GoodIn wsX2_pass (va_wsS RX2 49 yX2_in wsX2_in) := goodIn_app (goodIn_of _ (by decide +kernel)) ggX2_pass_X2_in
theorem dX2_pass_0 : decode cX2_pass 0 = .ok (.aload_n 0, 1) := by decide +kernel
theorem dX2_pass_1 : decode cX2_pass 1 = .ok (.iload_n 1, 1) := by decide +kernel
theorem dX2_pass_2 : decode cX2_pass 2 = .ok (.iconst 1, 1) := by decide +kernel
theorem dX2_pass_3 : decode cX2_pass 3 = .ok (.sipush 10000, 3) := by decide +kernel
theorem dX2_pass_6 : decode cX2_pass 6 = .ok (.invokestatic 49, 3) := by decide +kernel
theorem dX2_pass_9 : decode cX2_pass 9 = .ok (.ifCond .eq 7, 3) := by decide +kernel
theorem dX2_pass_12 : decode cX2_pass 12 = .ok (.iconst 0, 1) := by decide +kernel
theorem dX2_pass_13 : decode cX2_pass 13 = .ok (.goto 4, 3) := by decide +kernel
theorem dX2_pass_16 : decode cX2_pass 16 = .ok (.iconst 1, 1) := by decide +kernel
theorem dX2_pass_17 : decode cX2_pass 17 = .ok (.putfield 46, 3) := by decide +kernel
theorem dX2_pass_20 : decode cX2_pass 20 = .ok (.aload_n 0, 1) := by decide +kernel
theorem dX2_pass_21 : decode cX2_pass 21 = .ok (.dup, 1) := by decide +kernel
theorem dX2_pass_22 : decode cX2_pass 22 = .ok (.getfield 53, 3) := by decide +kernel
theorem dX2_pass_25 : decode cX2_pass 25 = .ok (.aload_n 0, 1) := by decide +kernel
theorem dX2_pass_26 : decode cX2_pass 26 = .ok (.getfield 46, 3) := by decide +kernel
theorem dX2_pass_29 : decode cX2_pass 29 = .ok (.ifCond .ne 7, 3) := by decide +kernel
theorem dX2_pass_32 : decode cX2_pass 32 = .ok (.iload_n 1, 1) := by decide +kernel
theorem dX2_pass_33 : decode cX2_pass 33 = .ok (.goto 4, 3) := by decide +kernel
theorem dX2_pass_36 : decode cX2_pass 36 = .ok (.iconst 0, 1) := by decide +kernel
theorem dX2_pass_37 : decode cX2_pass 37 = .ok (.iadd, 1) := by decide +kernel
theorem dX2_pass_38 : decode cX2_pass 38 = .ok (.putfield 53, 3) := by decide +kernel
theorem dX2_pass_41 : decode cX2_pass 41 = .ok (.aload_n 0, 1) := by decide +kernel
theorem dX2_pass_42 : decode cX2_pass 42 = .ok (.getfield 46, 3) := by decide +kernel
theorem dX2_pass_45 : decode cX2_pass 45 = .ok (.ifCond .ne 10, 3) := by decide +kernel
theorem dX2_pass_48 : decode cX2_pass 48 = .ok (.aload_n 0, 1) := by decide +kernel
theorem dX2_pass_49 : decode cX2_pass 49 = .ok (.getfield 53, 3) := by decide +kernel
theorem dX2_pass_52 : decode cX2_pass 52 = .ok (.goto 4, 3) := by decide +kernel
theorem dX2_pass_55 : decode cX2_pass 55 = .ok (.iconst 0, 1) := by decide +kernel
theorem dX2_pass_56 : decode cX2_pass 56 = .ok (.ireturn, 1) := by decide +kernel
set_option maxRecDepth 20000 in
theorem ggX2_hasEntry_X2_isThing : GoodIn wsX2_hasEntry wsX2_isThing := goodIn_r _ [7, 2, 8, 9, 6, 10, 11, 12, 13, 14, 15, 16, 17, 18, 19, 20, 21, 22, 23, 24, 25, 26, 27, 28, 29, 30, 31, 32] (by decide +kernel) (by decide +kernel)
set_option maxRecDepth 20000 in
theorem gX2_hasEntry_X2_isThing : GoodIn wsX2_hasEntry (wsV RX2 100 RX2 yX2_isThing wsX2_isThing) := goodIn_app (goodIn_of _ (by decide +kernel)) ggX2_hasEntry_X2_isThing
theorem dX2_hasEntry_0 : decode cX2_hasEntry 0 = .ok (.aload_n 0, 1) := by decide +kernel
theorem dX2_hasEntry_1 : decode cX2_hasEntry 1 = .ok (.iload_n 1, 1) := by decide +kernel
theorem dX2_hasEntry_2 : decode cX2_hasEntry 2 = .ok (.invokevirtual 100, 3) := by decide +kernel
theorem dX2_hasEntry_5 : decode cX2_hasEntry 5 = .ok (.ifCond .eq 21, 3) := by decide +kernel
theorem dX2_hasEntry_8 : decode cX2_hasEntry 8 = .ok (.aload_n 0, 1) := by decide +kernel
theorem dX2_hasEntry_9 : decode cX2_hasEntry 9 = .ok (.aload_n 0, 1) := by decide +kernel
theorem dX2_hasEntry_10 : decode cX2_hasEntry 10 = .ok (.getfield 7, 3) := by decide +kernel
theorem dX2_hasEntry_13 : decode cX2_hasEntry 13 = .ok (.iload_n 1, 1) := by decide +kernel
theorem dX2_hasEntry_14 : decode cX2_hasEntry 14 = .ok (.baload, 1) := by decide +kernel
theorem dX2_hasEntry_15 : decode cX2_hasEntry 15 = .ok (.ifCond .eq 7, 3) := by decide +kernel
theorem dX2_hasEntry_18 : decode cX2_hasEntry 18 = .ok (.iconst 0, 1) := by decide +kernel
theorem dX2_hasEntry_19 : decode cX2_hasEntry 19 = .ok (.goto 4, 3) := by decide +kernel
theorem dX2_hasEntry_22 : decode cX2_hasEntry 22 = .ok (.iconst 2, 1) := by decide +kernel
theorem dX2_hasEntry_23 : decode cX2_hasEntry 23 = .ok (.putfield 46, 3) := by decide +kernel
theorem dX2_hasEntry_26 : decode cX2_hasEntry 26 = .ok (.aload_n 0, 1) := by decide +kernel
theorem dX2_hasEntry_27 : decode cX2_hasEntry 27 = .ok (.getfield 46, 3) := by decide +kernel
theorem dX2_hasEntry_30 : decode cX2_hasEntry 30 = .ok (.ifCond .ne 7, 3) := by decide +kernel
theorem dX2_hasEntry_33 : decode cX2_hasEntry 33 = .ok (.iconst 1, 1) := by decide +kernel
theorem dX2_hasEntry_34 : decode cX2_hasEntry 34 = .ok (.goto 4, 3) := by decide +kernel
theorem dX2_hasEntry_37 : decode cX2_hasEntry 37 = .ok (.iconst 0, 1) := by decide +kernel
theorem dX2_hasEntry_38 : decode cX2_hasEntry 38 = .ok (.ireturn, 1) := by decide +kernel
set_option maxRecDepth 20000 in
theorem ggX2_pin_X2_hasEntry : GoodIn wsX2_pin wsX2_hasEntry := goodIn_r _ [6, 7, 8, 9, 10, 11, 5, 12, 13, 14, 15, 16, 17, 18, 19, 20, 21, 22, 23, 24, 25, 26, 27, 28, 29, 30, 31, 32, 33, 34, 35, 36, 37] (by decide +kernel) (by decide +kernel)
set_option maxRecDepth 20000 in
theorem gX2_pin_X2_hasEntry : GoodIn wsX2_pin (wsV RX2 125 RX2 yX2_hasEntry wsX2_hasEntry) := goodIn_app (goodIn_of _ (by decide +kernel)) ggX2_pin_X2_hasEntry
theorem dX2_pin_0 : decode cX2_pin 0 = .ok (.aload_n 0, 1) := by decide +kernel
theorem dX2_pin_1 : decode cX2_pin 1 = .ok (.iload_n 1, 1) := by decide +kernel
theorem dX2_pin_2 : decode cX2_pin 2 = .ok (.invokevirtual 125, 3) := by decide +kernel
theorem dX2_pin_5 : decode cX2_pin 5 = .ok (.ifCond .ne 5, 3) := by decide +kernel
theorem dX2_pin_8 : decode cX2_pin 8 = .ok (.iconst 0, 1) := by decide +kernel
theorem dX2_pin_9 : decode cX2_pin 9 = .ok (.ireturn, 1) := by decide +kernel
theorem dX2_pin_10 : decode cX2_pin 10 = .ok (.aload_n 0, 1) := by decide +kernel
theorem dX2_pin_11 : decode cX2_pin 11 = .ok (.getfield 13, 3) := by decide +kernel
theorem dX2_pin_14 : decode cX2_pin 14 = .ok (.iload_n 1, 1) := by decide +kernel
theorem dX2_pin_15 : decode cX2_pin 15 = .ok (.baload, 1) := by decide +kernel
theorem dX2_pin_16 : decode cX2_pin 16 = .ok (.istore_n 3, 1) := by decide +kernel
theorem dX2_pin_17 : decode cX2_pin 17 = .ok (.aload_n 0, 1) := by decide +kernel
theorem dX2_pin_18 : decode cX2_pin 18 = .ok (.getfield 13, 3) := by decide +kernel
theorem dX2_pin_21 : decode cX2_pin 21 = .ok (.iload_n 1, 1) := by decide +kernel
theorem dX2_pin_22 : decode cX2_pin 22 = .ok (.iload_n 2, 1) := by decide +kernel
theorem dX2_pin_23 : decode cX2_pin 23 = .ok (.bastore, 1) := by decide +kernel
theorem dX2_pin_24 : decode cX2_pin 24 = .ok (.iload_n 3, 1) := by decide +kernel
theorem dX2_pin_25 : decode cX2_pin 25 = .ok (.ireturn, 1) := by decide +kernel
set_option maxRecDepth 20000 in
theorem ggX2_drop_X2_hasEntry : GoodIn wsX2_drop wsX2_hasEntry := goodIn_r _ [7, 1, 8, 9, 10, 11, 6, 12, 13, 14, 15, 16, 17, 18, 19, 20, 21, 22, 23, 24, 25, 26, 27, 28, 29, 30, 31, 32, 33, 34, 35, 36, 37] (by decide +kernel) (by decide +kernel)
set_option maxRecDepth 20000 in
theorem gX2_drop_X2_hasEntry : GoodIn wsX2_drop (wsV RX2 125 RX2 yX2_hasEntry wsX2_hasEntry) := goodIn_app (goodIn_of _ (by decide +kernel)) ggX2_drop_X2_hasEntry
theorem dX2_drop_0 : decode cX2_drop 0 = .ok (.aload_n 0, 1) := by decide +kernel
theorem dX2_drop_1 : decode cX2_drop 1 = .ok (.iload_n 1, 1) := by decide +kernel
theorem dX2_drop_2 : decode cX2_drop 2 = .ok (.invokevirtual 125, 3) := by decide +kernel
theorem dX2_drop_5 : decode cX2_drop 5 = .ok (.ifCond .ne 5, 3) := by decide +kernel
theorem dX2_drop_8 : decode cX2_drop 8 = .ok (.iconst 0, 1) := by decide +kernel
theorem dX2_drop_9 : decode cX2_drop 9 = .ok (.ireturn, 1) := by decide +kernel
theorem dX2_drop_10 : decode cX2_drop 10 = .ok (.aload_n 0, 1) := by decide +kernel
theorem dX2_drop_11 : decode cX2_drop 11 = .ok (.getfield 7, 3) := by decide +kernel
theorem dX2_drop_14 : decode cX2_drop 14 = .ok (.iload_n 1, 1) := by decide +kernel
theorem dX2_drop_15 : decode cX2_drop 15 = .ok (.iconst 0, 1) := by decide +kernel
theorem dX2_drop_16 : decode cX2_drop 16 = .ok (.bastore, 1) := by decide +kernel
theorem dX2_drop_17 : decode cX2_drop 17 = .ok (.aload_n 0, 1) := by decide +kernel
theorem dX2_drop_18 : decode cX2_drop 18 = .ok (.getfield 16, 3) := by decide +kernel
theorem dX2_drop_21 : decode cX2_drop 21 = .ok (.iload_n 1, 1) := by decide +kernel
theorem dX2_drop_22 : decode cX2_drop 22 = .ok (.iaload, 1) := by decide +kernel
theorem dX2_drop_23 : decode cX2_drop 23 = .ok (.ireturn, 1) := by decide +kernel
set_option maxRecDepth 20000 in
theorem ggX2_purge_X2_removeOver : GoodIn wsX2_purge wsX2_removeOver := goodIn_r _ [6, 7, 8, 9, 10, 11, 5, 12, 13, 14, 15, 16, 17, 18, 19, 20, 21, 22, 23, 24, 25, 26, 27, 28, 29, 30, 31, 32, 33, 34, 35, 36] (by decide +kernel) (by decide +kernel)
set_option maxRecDepth 20000 in
theorem gX2_purge_X2_removeOver : GoodIn wsX2_purge (wsV RX2 90 RX2 yX2_removeOver wsX2_removeOver) := goodIn_app (goodIn_of _ (by decide +kernel)) ggX2_purge_X2_removeOver
theorem dX2_purge_0 : decode cX2_purge 0 = .ok (.aload_n 0, 1) := by decide +kernel
theorem dX2_purge_1 : decode cX2_purge 1 = .ok (.iconst 0, 1) := by decide +kernel
theorem dX2_purge_2 : decode cX2_purge 2 = .ok (.putfield 46, 3) := by decide +kernel
theorem dX2_purge_5 : decode cX2_purge 5 = .ok (.aload_n 0, 1) := by decide +kernel
theorem dX2_purge_6 : decode cX2_purge 6 = .ok (.invokevirtual 90, 3) := by decide +kernel
theorem dX2_purge_9 : decode cX2_purge 9 = .ok (.ireturn, 1) := by decide +kernel
set_option maxRecDepth 20000 in
theorem ggX2_setCapacity_X2_in : GoodIn wsX2_setCapacity wsX2_in := goodIn_r _ [6] (by decide +kernel) (by decide +kernel)
set_option maxRecDepth 20000 in
theorem gX2_setCapacity_X2_in : GoodIn wsX2_setCapacity (va_wsS RX2 49 yX2_in wsX2_in) := goodIn_app (goodIn_of _ (by decide +kernel)) ggX2_setCapacity_X2_in
set_option maxRecDepth 20000 in
theorem ggX2_setCapacity_X2_pinnedBytes : GoodIn wsX2_setCapacity wsX2_pinnedBytes := goodIn_r _ [10, 11, 12, 13, 14, 15, 16, 5, 17, 18, 19, 49, 50, 51, 52, 53, 54, 55, 56, 57, 58, 59, 60, 61, 62, 63, 64, 65, 66, 67, 68, 69, 70] (by decide +kernel) (by decide +kernel)
set_option maxRecDepth 20000 in
theorem gX2_setCapacity_X2_pinnedBytes : GoodIn wsX2_setCapacity (wsV RX2 93 RX2 yX2_pinnedBytes wsX2_pinnedBytes) := goodIn_app (goodIn_of _ (by decide +kernel)) ggX2_setCapacity_X2_pinnedBytes
set_option maxRecDepth 20000 in
theorem ggX2_setCapacity_X2_usedBytes : GoodIn wsX2_setCapacity wsX2_usedBytes := goodIn_r _ [23, 11, 13, 49, 50, 51, 52, 53, 54, 55, 56, 57, 58, 59, 60, 61, 62, 63, 64, 65, 66, 67, 68, 69, 70] (by decide +kernel) (by decide +kernel)
set_option maxRecDepth 20000 in
theorem gX2_setCapacity_X2_usedBytes : GoodIn wsX2_setCapacity (wsV RX2 86 RX2 yX2_usedBytes wsX2_usedBytes) := goodIn_app (goodIn_of _ (by decide +kernel)) ggX2_setCapacity_X2_usedBytes
set_option maxRecDepth 20000 in
theorem ggX2_setCapacity_X2_removeOver : GoodIn wsX2_setCapacity wsX2_removeOver := goodIn_r _ [27, 11, 28, 14, 15, 16, 5, 17, 18, 19, 49, 50, 51, 52, 53, 54, 55, 56, 57, 58, 59, 60, 61, 62, 63, 64, 65, 66, 67, 68, 69, 70] (by decide +kernel) (by decide +kernel)
set_option maxRecDepth 20000 in
theorem gX2_setCapacity_X2_removeOver : GoodIn wsX2_setCapacity (wsV RX2 90 RX2 yX2_removeOver wsX2_removeOver) := goodIn_app (goodIn_of _ (by decide +kernel)) ggX2_setCapacity_X2_removeOver
set_option maxRecDepth 20000 in
theorem ggX2_setCapacity_X2_firstLeaves : GoodIn wsX2_setCapacity wsX2_firstLeaves := goodIn_r _ [32, 11, 33, 34, 35, 36, 37, 38, 5, 39, 40, 41, 42, 43, 12, 44, 45, 46, 47, 48, 49, 50, 51, 52, 53, 54, 55, 56, 57, 58, 59, 60, 61, 62, 63, 64, 65, 66, 67, 68, 69, 70] (by decide +kernel) (by decide +kernel)
set_option maxRecDepth 20000 in
theorem gX2_setCapacity_X2_firstLeaves : GoodIn wsX2_setCapacity (wsV RX2 97 RX2 yX2_firstLeaves wsX2_firstLeaves) := goodIn_app (goodIn_of _ (by decide +kernel)) ggX2_setCapacity_X2_firstLeaves
theorem dX2_setCapacity_0 : decode cX2_setCapacity 0 = .ok (.aload_n 0, 1) := by decide +kernel
theorem dX2_setCapacity_1 : decode cX2_setCapacity 1 = .ok (.iload_n 1, 1) := by decide +kernel
theorem dX2_setCapacity_2 : decode cX2_setCapacity 2 = .ok (.iconst 1, 1) := by decide +kernel
theorem dX2_setCapacity_3 : decode cX2_setCapacity 3 = .ok (.sipush 10000, 3) := by decide +kernel
theorem dX2_setCapacity_6 : decode cX2_setCapacity 6 = .ok (.invokestatic 49, 3) := by decide +kernel
theorem dX2_setCapacity_9 : decode cX2_setCapacity 9 = .ok (.ifCond .ne 7, 3) := by decide +kernel
theorem dX2_setCapacity_12 : decode cX2_setCapacity 12 = .ok (.iconst 1, 1) := by decide +kernel
theorem dX2_setCapacity_13 : decode cX2_setCapacity 13 = .ok (.goto 17, 3) := by decide +kernel
theorem dX2_setCapacity_16 : decode cX2_setCapacity 16 = .ok (.aload_n 0, 1) := by decide +kernel
theorem dX2_setCapacity_17 : decode cX2_setCapacity 17 = .ok (.iconst 0, 1) := by decide +kernel
theorem dX2_setCapacity_18 : decode cX2_setCapacity 18 = .ok (.invokevirtual 93, 3) := by decide +kernel
theorem dX2_setCapacity_21 : decode cX2_setCapacity 21 = .ok (.iload_n 1, 1) := by decide +kernel
theorem dX2_setCapacity_22 : decode cX2_setCapacity 22 = .ok (.if_icmp .le 7, 3) := by decide +kernel
theorem dX2_setCapacity_25 : decode cX2_setCapacity 25 = .ok (.iconst 2, 1) := by decide +kernel
theorem dX2_setCapacity_26 : decode cX2_setCapacity 26 = .ok (.goto 4, 3) := by decide +kernel
theorem dX2_setCapacity_29 : decode cX2_setCapacity 29 = .ok (.iconst 0, 1) := by decide +kernel
theorem dX2_setCapacity_30 : decode cX2_setCapacity 30 = .ok (.putfield 46, 3) := by decide +kernel
theorem dX2_setCapacity_33 : decode cX2_setCapacity 33 = .ok (.aload_n 0, 1) := by decide +kernel
theorem dX2_setCapacity_34 : decode cX2_setCapacity 34 = .ok (.getfield 46, 3) := by decide +kernel
theorem dX2_setCapacity_37 : decode cX2_setCapacity 37 = .ok (.ifCond .le 5, 3) := by decide +kernel
theorem dX2_setCapacity_40 : decode cX2_setCapacity 40 = .ok (.iconst 0, 1) := by decide +kernel
theorem dX2_setCapacity_41 : decode cX2_setCapacity 41 = .ok (.ireturn, 1) := by decide +kernel
theorem dX2_setCapacity_42 : decode cX2_setCapacity 42 = .ok (.aload_n 0, 1) := by decide +kernel
theorem dX2_setCapacity_43 : decode cX2_setCapacity 43 = .ok (.iload_n 1, 1) := by decide +kernel
theorem dX2_setCapacity_44 : decode cX2_setCapacity 44 = .ok (.putfield 39, 3) := by decide +kernel
theorem dX2_setCapacity_47 : decode cX2_setCapacity 47 = .ok (.aload_n 0, 1) := by decide +kernel
theorem dX2_setCapacity_48 : decode cX2_setCapacity 48 = .ok (.invokevirtual 86, 3) := by decide +kernel
theorem dX2_setCapacity_51 : decode cX2_setCapacity 51 = .ok (.iload_n 1, 1) := by decide +kernel
theorem dX2_setCapacity_52 : decode cX2_setCapacity 52 = .ok (.if_icmp .le 8, 3) := by decide +kernel
theorem dX2_setCapacity_55 : decode cX2_setCapacity 55 = .ok (.aload_n 0, 1) := by decide +kernel
theorem dX2_setCapacity_56 : decode cX2_setCapacity 56 = .ok (.invokevirtual 90, 3) := by decide +kernel
theorem dX2_setCapacity_59 : decode cX2_setCapacity 59 = .ok (.istore_n 2, 1) := by decide +kernel
theorem dX2_setCapacity_60 : decode cX2_setCapacity 60 = .ok (.iconst 0, 1) := by decide +kernel
theorem dX2_setCapacity_61 : decode cX2_setCapacity 61 = .ok (.istore_n 2, 1) := by decide +kernel
theorem dX2_setCapacity_62 : decode cX2_setCapacity 62 = .ok (.aload_n 0, 1) := by decide +kernel
theorem dX2_setCapacity_63 : decode cX2_setCapacity 63 = .ok (.invokevirtual 86, 3) := by decide +kernel
theorem dX2_setCapacity_66 : decode cX2_setCapacity 66 = .ok (.iload_n 1, 1) := by decide +kernel
theorem dX2_setCapacity_67 : decode cX2_setCapacity 67 = .ok (.if_icmp .le 13, 3) := by decide +kernel
theorem dX2_setCapacity_70 : decode cX2_setCapacity 70 = .ok (.aload_n 0, 1) := by decide +kernel
theorem dX2_setCapacity_71 : decode cX2_setCapacity 71 = .ok (.invokevirtual 97, 3) := by decide +kernel
theorem dX2_setCapacity_74 : decode cX2_setCapacity 74 = .ok (.iinc 2 1, 3) := by decide +kernel
theorem dX2_setCapacity_77 : decode cX2_setCapacity 77 = .ok (.goto (-15), 3) := by decide +kernel
theorem dX2_setCapacity_80 : decode cX2_setCapacity 80 = .ok (.iload_n 2, 1) := by decide +kernel
theorem dX2_setCapacity_81 : decode cX2_setCapacity 81 = .ok (.ireturn, 1) := by decide +kernel
set_option maxRecDepth 20000 in
theorem ggX2_setThreshold_X2_in : GoodIn wsX2_setThreshold wsX2_in := goodIn_r _ [6] (by decide +kernel) (by decide +kernel)
set_option maxRecDepth 20000 in
theorem gX2_setThreshold_X2_in : GoodIn wsX2_setThreshold (va_wsS RX2 49 yX2_in wsX2_in) := goodIn_app (goodIn_of _ (by decide +kernel)) ggX2_setThreshold_X2_in
theorem dX2_setThreshold_0 : decode cX2_setThreshold 0 = .ok (.aload_n 0, 1) := by decide +kernel
theorem dX2_setThreshold_1 : decode cX2_setThreshold 1 = .ok (.iload_n 1, 1) := by decide +kernel
theorem dX2_setThreshold_2 : decode cX2_setThreshold 2 = .ok (.iconst 1, 1) := by decide +kernel
theorem dX2_setThreshold_3 : decode cX2_setThreshold 3 = .ok (.sipush 1000, 3) := by decide +kernel
theorem dX2_setThreshold_6 : decode cX2_setThreshold 6 = .ok (.invokestatic 49, 3) := by decide +kernel
theorem dX2_setThreshold_9 : decode cX2_setThreshold 9 = .ok (.ifCond .eq 7, 3) := by decide +kernel
theorem dX2_setThreshold_12 : decode cX2_setThreshold 12 = .ok (.iconst 0, 1) := by decide +kernel
theorem dX2_setThreshold_13 : decode cX2_setThreshold 13 = .ok (.goto 4, 3) := by decide +kernel
theorem dX2_setThreshold_16 : decode cX2_setThreshold 16 = .ok (.iconst 1, 1) := by decide +kernel
theorem dX2_setThreshold_17 : decode cX2_setThreshold 17 = .ok (.putfield 46, 3) := by decide +kernel
theorem dX2_setThreshold_20 : decode cX2_setThreshold 20 = .ok (.aload_n 0, 1) := by decide +kernel
theorem dX2_setThreshold_21 : decode cX2_setThreshold 21 = .ok (.getfield 46, 3) := by decide +kernel
theorem dX2_setThreshold_24 : decode cX2_setThreshold 24 = .ok (.ifCond .le 5, 3) := by decide +kernel
theorem dX2_setThreshold_27 : decode cX2_setThreshold 27 = .ok (.iconst 0, 1) := by decide +kernel
theorem dX2_setThreshold_28 : decode cX2_setThreshold 28 = .ok (.ireturn, 1) := by decide +kernel
theorem dX2_setThreshold_29 : decode cX2_setThreshold 29 = .ok (.aload_n 0, 1) := by decide +kernel
theorem dX2_setThreshold_30 : decode cX2_setThreshold 30 = .ok (.getfield 43, 3) := by decide +kernel
theorem dX2_setThreshold_33 : decode cX2_setThreshold 33 = .ok (.istore_n 2, 1) := by decide +kernel
theorem dX2_setThreshold_34 : decode cX2_setThreshold 34 = .ok (.aload_n 0, 1) := by decide +kernel
theorem dX2_setThreshold_35 : decode cX2_setThreshold 35 = .ok (.iload_n 1, 1) := by decide +kernel
theorem dX2_setThreshold_36 : decode cX2_setThreshold 36 = .ok (.putfield 43, 3) := by decide +kernel
theorem dX2_setThreshold_39 : decode cX2_setThreshold 39 = .ok (.iload_n 2, 1) := by decide +kernel
theorem dX2_setThreshold_40 : decode cX2_setThreshold 40 = .ok (.ireturn, 1) := by decide +kernel
set_option maxRecDepth 20000 in
theorem ggX2_has_X2_isThing : GoodIn wsX2_has wsX2_isThing := goodIn_r _ [6, 7, 8, 9, 5, 10, 11, 12, 13, 14, 15, 16, 17, 18, 19, 20, 21, 22, 23, 24, 25, 26, 27, 28, 29, 30, 31, 32] (by decide +kernel) (by decide +kernel)
set_option maxRecDepth 20000 in
theorem gX2_has_X2_isThing : GoodIn wsX2_has (wsV RX2 100 RX2 yX2_isThing wsX2_isThing) := goodIn_app (goodIn_of _ (by decide +kernel)) ggX2_has_X2_isThing
theorem dX2_has_0 : decode cX2_has 0 = .ok (.aload_n 0, 1) := by decide +kernel
theorem dX2_has_1 : decode cX2_has 1 = .ok (.iload_n 1, 1) := by decide +kernel
theorem dX2_has_2 : decode cX2_has 2 = .ok (.invokevirtual 100, 3) := by decide +kernel
theorem dX2_has_5 : decode cX2_has 5 = .ok (.ifCond .eq 16, 3) := by decide +kernel
theorem dX2_has_8 : decode cX2_has 8 = .ok (.aload_n 0, 1) := by decide +kernel
theorem dX2_has_9 : decode cX2_has 9 = .ok (.getfield 7, 3) := by decide +kernel
theorem dX2_has_12 : decode cX2_has 12 = .ok (.iload_n 1, 1) := by decide +kernel
theorem dX2_has_13 : decode cX2_has 13 = .ok (.baload, 1) := by decide +kernel
theorem dX2_has_14 : decode cX2_has 14 = .ok (.ifCond .eq 7, 3) := by decide +kernel
theorem dX2_has_17 : decode cX2_has 17 = .ok (.iconst 1, 1) := by decide +kernel
theorem dX2_has_18 : decode cX2_has 18 = .ok (.goto 4, 3) := by decide +kernel
theorem dX2_has_21 : decode cX2_has 21 = .ok (.iconst 0, 1) := by decide +kernel
theorem dX2_has_22 : decode cX2_has 22 = .ok (.ireturn, 1) := by decide +kernel
set_option maxRecDepth 20000 in
theorem ggX2_isOver_X2_isThing : GoodIn wsX2_isOver wsX2_isThing := goodIn_r _ [5, 6, 7, 8, 4, 9, 17, 18, 19, 20, 21, 22, 23, 24, 25, 26, 27, 28, 29, 30, 31, 32, 33, 34, 35, 36, 37, 38] (by decide +kernel) (by decide +kernel)
set_option maxRecDepth 20000 in
theorem gX2_isOver_X2_isThing : GoodIn wsX2_isOver (wsV RX2 100 RX2 yX2_isThing wsX2_isThing) := goodIn_app (goodIn_of _ (by decide +kernel)) ggX2_isOver_X2_isThing
set_option maxRecDepth 20000 in
theorem ggX2_isOver_X2_over : GoodIn wsX2_isOver wsX2_over := goodIn_r _ [13, 14, 15, 16, 17, 18, 19, 20, 21, 22, 23, 24, 25, 26, 27, 28, 29, 30, 31, 32, 33, 34, 35, 36, 37, 38] (by decide +kernel) (by decide +kernel)
set_option maxRecDepth 20000 in
theorem gX2_isOver_X2_over : GoodIn wsX2_isOver (wsV RX2 74 RX2 yX2_over wsX2_over) := goodIn_app (goodIn_of _ (by decide +kernel)) ggX2_isOver_X2_over
theorem dX2_isOver_0 : decode cX2_isOver 0 = .ok (.aload_n 0, 1) := by decide +kernel
theorem dX2_isOver_1 : decode cX2_isOver 1 = .ok (.iload_n 1, 1) := by decide +kernel
theorem dX2_isOver_2 : decode cX2_isOver 2 = .ok (.invokevirtual 100, 3) := by decide +kernel
theorem dX2_isOver_5 : decode cX2_isOver 5 = .ok (.ifCond .eq 15, 3) := by decide +kernel
theorem dX2_isOver_8 : decode cX2_isOver 8 = .ok (.aload_n 0, 1) := by decide +kernel
theorem dX2_isOver_9 : decode cX2_isOver 9 = .ok (.iload_n 1, 1) := by decide +kernel
theorem dX2_isOver_10 : decode cX2_isOver 10 = .ok (.invokevirtual 74, 3) := by decide +kernel
theorem dX2_isOver_13 : decode cX2_isOver 13 = .ok (.ifCond .eq 7, 3) := by decide +kernel
theorem dX2_isOver_16 : decode cX2_isOver 16 = .ok (.iconst 1, 1) := by decide +kernel
theorem dX2_isOver_17 : decode cX2_isOver 17 = .ok (.goto 4, 3) := by decide +kernel
theorem dX2_isOver_20 : decode cX2_isOver 20 = .ok (.iconst 0, 1) := by decide +kernel
theorem dX2_isOver_21 : decode cX2_isOver 21 = .ok (.ireturn, 1) := by decide +kernel
set_option maxRecDepth 20000 in
theorem ggX2_sizeOf_X2_isThing : GoodIn wsX2_sizeOf wsX2_isThing := goodIn_r _ [7, 8, 9, 10, 6, 11, 12, 13, 14, 15, 16, 17, 18, 19, 20, 21, 22, 23, 24, 25, 26, 27, 28, 29, 30, 31, 32, 33] (by decide +kernel) (by decide +kernel)
set_option maxRecDepth 20000 in
theorem gX2_sizeOf_X2_isThing : GoodIn wsX2_sizeOf (wsV RX2 100 RX2 yX2_isThing wsX2_isThing) := goodIn_app (goodIn_of _ (by decide +kernel)) ggX2_sizeOf_X2_isThing
theorem dX2_sizeOf_0 : decode cX2_sizeOf 0 = .ok (.aload_n 0, 1) := by decide +kernel
theorem dX2_sizeOf_1 : decode cX2_sizeOf 1 = .ok (.iload_n 1, 1) := by decide +kernel
theorem dX2_sizeOf_2 : decode cX2_sizeOf 2 = .ok (.invokevirtual 100, 3) := by decide +kernel
theorem dX2_sizeOf_5 : decode cX2_sizeOf 5 = .ok (.ifCond .eq 21, 3) := by decide +kernel
theorem dX2_sizeOf_8 : decode cX2_sizeOf 8 = .ok (.aload_n 0, 1) := by decide +kernel
theorem dX2_sizeOf_9 : decode cX2_sizeOf 9 = .ok (.getfield 7, 3) := by decide +kernel
theorem dX2_sizeOf_12 : decode cX2_sizeOf 12 = .ok (.iload_n 1, 1) := by decide +kernel
theorem dX2_sizeOf_13 : decode cX2_sizeOf 13 = .ok (.baload, 1) := by decide +kernel
theorem dX2_sizeOf_14 : decode cX2_sizeOf 14 = .ok (.ifCond .eq 12, 3) := by decide +kernel
theorem dX2_sizeOf_17 : decode cX2_sizeOf 17 = .ok (.aload_n 0, 1) := by decide +kernel
theorem dX2_sizeOf_18 : decode cX2_sizeOf 18 = .ok (.getfield 16, 3) := by decide +kernel
theorem dX2_sizeOf_21 : decode cX2_sizeOf 21 = .ok (.iload_n 1, 1) := by decide +kernel
theorem dX2_sizeOf_22 : decode cX2_sizeOf 22 = .ok (.iaload, 1) := by decide +kernel
theorem dX2_sizeOf_23 : decode cX2_sizeOf 23 = .ok (.goto 4, 3) := by decide +kernel
theorem dX2_sizeOf_26 : decode cX2_sizeOf 26 = .ok (.iconst 0, 1) := by decide +kernel
theorem dX2_sizeOf_27 : decode cX2_sizeOf 27 = .ok (.ireturn, 1) := by decide +kernel
set_option maxRecDepth 20000 in
theorem ggX2_frequencyOf_X2_isThing : GoodIn wsX2_frequencyOf wsX2_isThing := goodIn_r _ [7, 8, 9, 10, 6, 11, 12, 13, 14, 15, 16, 17, 18, 19, 20, 21, 22, 23, 24, 25, 26, 27, 28, 29, 30, 31, 32, 33] (by decide +kernel) (by decide +kernel)
set_option maxRecDepth 20000 in
theorem gX2_frequencyOf_X2_isThing : GoodIn wsX2_frequencyOf (wsV RX2 100 RX2 yX2_isThing wsX2_isThing) := goodIn_app (goodIn_of _ (by decide +kernel)) ggX2_frequencyOf_X2_isThing
theorem dX2_frequencyOf_0 : decode cX2_frequencyOf 0 = .ok (.aload_n 0, 1) := by decide +kernel
theorem dX2_frequencyOf_1 : decode cX2_frequencyOf 1 = .ok (.iload_n 1, 1) := by decide +kernel
theorem dX2_frequencyOf_2 : decode cX2_frequencyOf 2 = .ok (.invokevirtual 100, 3) := by decide +kernel
theorem dX2_frequencyOf_5 : decode cX2_frequencyOf 5 = .ok (.ifCond .eq 21, 3) := by decide +kernel
theorem dX2_frequencyOf_8 : decode cX2_frequencyOf 8 = .ok (.aload_n 0, 1) := by decide +kernel
theorem dX2_frequencyOf_9 : decode cX2_frequencyOf 9 = .ok (.getfield 7, 3) := by decide +kernel
theorem dX2_frequencyOf_12 : decode cX2_frequencyOf 12 = .ok (.iload_n 1, 1) := by decide +kernel
theorem dX2_frequencyOf_13 : decode cX2_frequencyOf 13 = .ok (.baload, 1) := by decide +kernel
theorem dX2_frequencyOf_14 : decode cX2_frequencyOf 14 = .ok (.ifCond .eq 12, 3) := by decide +kernel
theorem dX2_frequencyOf_17 : decode cX2_frequencyOf 17 = .ok (.aload_n 0, 1) := by decide +kernel
theorem dX2_frequencyOf_18 : decode cX2_frequencyOf 18 = .ok (.getfield 23, 3) := by decide +kernel
theorem dX2_frequencyOf_21 : decode cX2_frequencyOf 21 = .ok (.iload_n 1, 1) := by decide +kernel
theorem dX2_frequencyOf_22 : decode cX2_frequencyOf 22 = .ok (.iaload, 1) := by decide +kernel
theorem dX2_frequencyOf_23 : decode cX2_frequencyOf 23 = .ok (.goto 4, 3) := by decide +kernel
theorem dX2_frequencyOf_26 : decode cX2_frequencyOf 26 = .ok (.iconst 0, 1) := by decide +kernel
theorem dX2_frequencyOf_27 : decode cX2_frequencyOf 27 = .ok (.ireturn, 1) := by decide +kernel
set_option maxRecDepth 20000 in
theorem ggX2_worthOf_X2_isThing : GoodIn wsX2_worthOf wsX2_isThing := goodIn_r _ [8, 9, 10, 11, 7, 12, 13, 14, 15, 16, 17, 18, 19, 20, 21, 22, 23, 24, 25, 26, 27, 28, 29, 30, 31, 32, 33, 34] (by decide +kernel) (by decide +kernel)
set_option maxRecDepth 20000 in
theorem gX2_worthOf_X2_isThing : GoodIn wsX2_worthOf (wsV RX2 100 RX2 yX2_isThing wsX2_isThing) := goodIn_app (goodIn_of _ (by decide +kernel)) ggX2_worthOf_X2_isThing
theorem dX2_worthOf_0 : decode cX2_worthOf 0 = .ok (.aload_n 0, 1) := by decide +kernel
theorem dX2_worthOf_1 : decode cX2_worthOf 1 = .ok (.iload_n 1, 1) := by decide +kernel
theorem dX2_worthOf_2 : decode cX2_worthOf 2 = .ok (.invokevirtual 100, 3) := by decide +kernel
theorem dX2_worthOf_5 : decode cX2_worthOf 5 = .ok (.ifCond .ne 7, 3) := by decide +kernel
theorem dX2_worthOf_8 : decode cX2_worthOf 8 = .ok (.lconst 0, 1) := by decide +kernel
theorem dX2_worthOf_9 : decode cX2_worthOf 9 = .ok (.goto 24, 3) := by decide +kernel
theorem dX2_worthOf_12 : decode cX2_worthOf 12 = .ok (.aload_n 0, 1) := by decide +kernel
theorem dX2_worthOf_13 : decode cX2_worthOf 13 = .ok (.getfield 7, 3) := by decide +kernel
theorem dX2_worthOf_16 : decode cX2_worthOf 16 = .ok (.iload_n 1, 1) := by decide +kernel
theorem dX2_worthOf_17 : decode cX2_worthOf 17 = .ok (.baload, 1) := by decide +kernel
theorem dX2_worthOf_18 : decode cX2_worthOf 18 = .ok (.ifCond .eq 12, 3) := by decide +kernel
theorem dX2_worthOf_21 : decode cX2_worthOf 21 = .ok (.aload_n 0, 1) := by decide +kernel
theorem dX2_worthOf_22 : decode cX2_worthOf 22 = .ok (.getfield 26, 3) := by decide +kernel
theorem dX2_worthOf_25 : decode cX2_worthOf 25 = .ok (.iload_n 1, 1) := by decide +kernel
theorem dX2_worthOf_26 : decode cX2_worthOf 26 = .ok (.laload, 1) := by decide +kernel
theorem dX2_worthOf_27 : decode cX2_worthOf 27 = .ok (.goto 6, 3) := by decide +kernel
theorem dX2_worthOf_30 : decode cX2_worthOf 30 = .ok (.ldc2_w 128, 3) := by decide +kernel
theorem dX2_worthOf_33 : decode cX2_worthOf 33 = .ok (.lreturn, 1) := by decide +kernel
set_option maxRecDepth 20000 in
theorem ggX2_endOf_X2_isThing : GoodIn wsX2_endOf wsX2_isThing := goodIn_r _ [7, 8, 9, 10, 6, 11, 12, 13, 14, 15, 16, 17, 18, 19, 20, 21, 22, 23, 24, 25, 26, 27, 28, 29, 30, 31, 32, 33] (by decide +kernel) (by decide +kernel)
set_option maxRecDepth 20000 in
theorem gX2_endOf_X2_isThing : GoodIn wsX2_endOf (wsV RX2 100 RX2 yX2_isThing wsX2_isThing) := goodIn_app (goodIn_of _ (by decide +kernel)) ggX2_endOf_X2_isThing
theorem dX2_endOf_0 : decode cX2_endOf 0 = .ok (.aload_n 0, 1) := by decide +kernel
theorem dX2_endOf_1 : decode cX2_endOf 1 = .ok (.iload_n 1, 1) := by decide +kernel
theorem dX2_endOf_2 : decode cX2_endOf 2 = .ok (.invokevirtual 100, 3) := by decide +kernel
theorem dX2_endOf_5 : decode cX2_endOf 5 = .ok (.ifCond .ne 7, 3) := by decide +kernel
theorem dX2_endOf_8 : decode cX2_endOf 8 = .ok (.iconst 0, 1) := by decide +kernel
theorem dX2_endOf_9 : decode cX2_endOf 9 = .ok (.goto 22, 3) := by decide +kernel
theorem dX2_endOf_12 : decode cX2_endOf 12 = .ok (.aload_n 0, 1) := by decide +kernel
theorem dX2_endOf_13 : decode cX2_endOf 13 = .ok (.getfield 7, 3) := by decide +kernel
theorem dX2_endOf_16 : decode cX2_endOf 16 = .ok (.iload_n 1, 1) := by decide +kernel
theorem dX2_endOf_17 : decode cX2_endOf 17 = .ok (.baload, 1) := by decide +kernel
theorem dX2_endOf_18 : decode cX2_endOf 18 = .ok (.ifCond .eq 12, 3) := by decide +kernel
theorem dX2_endOf_21 : decode cX2_endOf 21 = .ok (.aload_n 0, 1) := by decide +kernel
theorem dX2_endOf_22 : decode cX2_endOf 22 = .ok (.getfield 30, 3) := by decide +kernel
theorem dX2_endOf_25 : decode cX2_endOf 25 = .ok (.iload_n 1, 1) := by decide +kernel
theorem dX2_endOf_26 : decode cX2_endOf 26 = .ok (.iaload, 1) := by decide +kernel
theorem dX2_endOf_27 : decode cX2_endOf 27 = .ok (.goto 4, 3) := by decide +kernel
theorem dX2_endOf_30 : decode cX2_endOf 30 = .ok (.iconst (-1), 1) := by decide +kernel
theorem dX2_endOf_31 : decode cX2_endOf 31 = .ok (.ireturn, 1) := by decide +kernel
set_option maxRecDepth 20000 in
theorem ggX2_leaving_X2_at : GoodIn wsX2_leaving wsX2_at := goodIn_r _ [6, 7, 8, 9, 5, 10, 11, 12, 13, 14, 15, 16, 17, 18, 19, 20, 21, 22, 23, 24, 25, 26, 27, 28, 29, 30, 31, 32, 33, 34, 35, 36, 37, 38, 39, 40] (by decide +kernel) (by decide +kernel)
set_option maxRecDepth 20000 in
theorem gX2_leaving_X2_at : GoodIn wsX2_leaving (wsV RX2 64 RX2 yX2_at wsX2_at) := goodIn_app (goodIn_of _ (by decide +kernel)) ggX2_leaving_X2_at
theorem dX2_leaving_0 : decode cX2_leaving 0 = .ok (.iload_n 1, 1) := by decide +kernel
theorem dX2_leaving_1 : decode cX2_leaving 1 = .ok (.ifCond .ge 7, 3) := by decide +kernel
theorem dX2_leaving_4 : decode cX2_leaving 4 = .ok (.iconst (-1), 1) := by decide +kernel
theorem dX2_leaving_5 : decode cX2_leaving 5 = .ok (.goto 8, 3) := by decide +kernel
theorem dX2_leaving_8 : decode cX2_leaving 8 = .ok (.aload_n 0, 1) := by decide +kernel
theorem dX2_leaving_9 : decode cX2_leaving 9 = .ok (.iload_n 1, 1) := by decide +kernel
theorem dX2_leaving_10 : decode cX2_leaving 10 = .ok (.invokevirtual 64, 3) := by decide +kernel
theorem dX2_leaving_13 : decode cX2_leaving 13 = .ok (.istore_n 2, 1) := by decide +kernel
theorem dX2_leaving_14 : decode cX2_leaving 14 = .ok (.aload_n 0, 1) := by decide +kernel
theorem dX2_leaving_15 : decode cX2_leaving 15 = .ok (.iload_n 2, 1) := by decide +kernel
theorem dX2_leaving_16 : decode cX2_leaving 16 = .ok (.iconst (-1), 1) := by decide +kernel
theorem dX2_leaving_17 : decode cX2_leaving 17 = .ok (.if_icmp .ne 7, 3) := by decide +kernel
theorem dX2_leaving_20 : decode cX2_leaving 20 = .ok (.iconst 1, 1) := by decide +kernel
theorem dX2_leaving_21 : decode cX2_leaving 21 = .ok (.goto 4, 3) := by decide +kernel
theorem dX2_leaving_24 : decode cX2_leaving 24 = .ok (.iconst 0, 1) := by decide +kernel
theorem dX2_leaving_25 : decode cX2_leaving 25 = .ok (.putfield 46, 3) := by decide +kernel
theorem dX2_leaving_28 : decode cX2_leaving 28 = .ok (.aload_n 0, 1) := by decide +kernel
theorem dX2_leaving_29 : decode cX2_leaving 29 = .ok (.getfield 46, 3) := by decide +kernel
theorem dX2_leaving_32 : decode cX2_leaving 32 = .ok (.ifCond .ne 7, 3) := by decide +kernel
theorem dX2_leaving_35 : decode cX2_leaving 35 = .ok (.iload_n 2, 1) := by decide +kernel
theorem dX2_leaving_36 : decode cX2_leaving 36 = .ok (.goto 4, 3) := by decide +kernel
theorem dX2_leaving_39 : decode cX2_leaving 39 = .ok (.iconst 0, 1) := by decide +kernel
theorem dX2_leaving_40 : decode cX2_leaving 40 = .ok (.ireturn, 1) := by decide +kernel
set_option maxRecDepth 20000 in
theorem ggX2_placeOf_X2_isThing : GoodIn wsX2_placeOf wsX2_isThing := goodIn_r _ [5, 6, 7, 8, 4, 9, 22, 23, 24, 25, 26, 27, 28, 29, 30, 31, 32, 33, 34, 35, 36, 37, 38, 39, 40, 41, 42, 43] (by decide +kernel) (by decide +kernel)
set_option maxRecDepth 20000 in
theorem gX2_placeOf_X2_isThing : GoodIn wsX2_placeOf (wsV RX2 100 RX2 yX2_isThing wsX2_isThing) := goodIn_app (goodIn_of _ (by decide +kernel)) ggX2_placeOf_X2_isThing
set_option maxRecDepth 20000 in
theorem ggX2_placeOf_X2_place : GoodIn wsX2_placeOf wsX2_place := goodIn_r _ [13, 14, 15, 16, 17, 18, 4, 19, 20, 21, 22, 23, 24, 25, 26, 27, 28, 29, 30, 31, 32, 33, 34, 35, 36, 37, 38, 39, 40, 41, 42, 43] (by decide +kernel) (by decide +kernel)
set_option maxRecDepth 20000 in
theorem gX2_placeOf_X2_place : GoodIn wsX2_placeOf (wsV RX2 60 RX2 yX2_place wsX2_place) := goodIn_app (goodIn_of _ (by decide +kernel)) ggX2_placeOf_X2_place
theorem dX2_placeOf_0 : decode cX2_placeOf 0 = .ok (.aload_n 0, 1) := by decide +kernel
theorem dX2_placeOf_1 : decode cX2_placeOf 1 = .ok (.iload_n 1, 1) := by decide +kernel
theorem dX2_placeOf_2 : decode cX2_placeOf 2 = .ok (.invokevirtual 100, 3) := by decide +kernel
theorem dX2_placeOf_5 : decode cX2_placeOf 5 = .ok (.ifCond .eq 11, 3) := by decide +kernel
theorem dX2_placeOf_8 : decode cX2_placeOf 8 = .ok (.aload_n 0, 1) := by decide +kernel
theorem dX2_placeOf_9 : decode cX2_placeOf 9 = .ok (.iload_n 1, 1) := by decide +kernel
theorem dX2_placeOf_10 : decode cX2_placeOf 10 = .ok (.invokevirtual 60, 3) := by decide +kernel
theorem dX2_placeOf_13 : decode cX2_placeOf 13 = .ok (.goto 4, 3) := by decide +kernel
theorem dX2_placeOf_16 : decode cX2_placeOf 16 = .ok (.iconst 0, 1) := by decide +kernel
theorem dX2_placeOf_17 : decode cX2_placeOf 17 = .ok (.ireturn, 1) := by decide +kernel
theorem dX2_endsFirst_0 : decode cX2_endsFirst 0 = .ok (.aload_n 0, 1) := by decide +kernel
theorem dX2_endsFirst_1 : decode cX2_endsFirst 1 = .ok (.iconst 0, 1) := by decide +kernel
theorem dX2_endsFirst_2 : decode cX2_endsFirst 2 = .ok (.putfield 46, 3) := by decide +kernel
theorem dX2_endsFirst_5 : decode cX2_endsFirst 5 = .ok (.iconst (-1), 1) := by decide +kernel
theorem dX2_endsFirst_6 : decode cX2_endsFirst 6 = .ok (.istore_n 1, 1) := by decide +kernel
theorem dX2_endsFirst_7 : decode cX2_endsFirst 7 = .ok (.iconst 0, 1) := by decide +kernel
theorem dX2_endsFirst_8 : decode cX2_endsFirst 8 = .ok (.istore_n 2, 1) := by decide +kernel
theorem dX2_endsFirst_9 : decode cX2_endsFirst 9 = .ok (.iload_n 2, 1) := by decide +kernel
theorem dX2_endsFirst_10 : decode cX2_endsFirst 10 = .ok (.bipush 32, 2) := by decide +kernel
theorem dX2_endsFirst_12 : decode cX2_endsFirst 12 = .ok (.if_icmp .ge 44, 3) := by decide +kernel
theorem dX2_endsFirst_15 : decode cX2_endsFirst 15 = .ok (.aload_n 0, 1) := by decide +kernel
theorem dX2_endsFirst_16 : decode cX2_endsFirst 16 = .ok (.getfield 7, 3) := by decide +kernel
theorem dX2_endsFirst_19 : decode cX2_endsFirst 19 = .ok (.iload_n 2, 1) := by decide +kernel
theorem dX2_endsFirst_20 : decode cX2_endsFirst 20 = .ok (.baload, 1) := by decide +kernel
theorem dX2_endsFirst_21 : decode cX2_endsFirst 21 = .ok (.ifCond .eq 27, 3) := by decide +kernel
theorem dX2_endsFirst_24 : decode cX2_endsFirst 24 = .ok (.iload_n 1, 1) := by decide +kernel
theorem dX2_endsFirst_25 : decode cX2_endsFirst 25 = .ok (.iconst (-1), 1) := by decide +kernel
theorem dX2_endsFirst_26 : decode cX2_endsFirst 26 = .ok (.if_icmp .eq 18, 3) := by decide +kernel
theorem dX2_endsFirst_29 : decode cX2_endsFirst 29 = .ok (.aload_n 0, 1) := by decide +kernel
theorem dX2_endsFirst_30 : decode cX2_endsFirst 30 = .ok (.getfield 30, 3) := by decide +kernel
theorem dX2_endsFirst_33 : decode cX2_endsFirst 33 = .ok (.iload_n 2, 1) := by decide +kernel
theorem dX2_endsFirst_34 : decode cX2_endsFirst 34 = .ok (.iaload, 1) := by decide +kernel
theorem dX2_endsFirst_35 : decode cX2_endsFirst 35 = .ok (.aload_n 0, 1) := by decide +kernel
theorem dX2_endsFirst_36 : decode cX2_endsFirst 36 = .ok (.getfield 30, 3) := by decide +kernel
theorem dX2_endsFirst_39 : decode cX2_endsFirst 39 = .ok (.iload_n 1, 1) := by decide +kernel
theorem dX2_endsFirst_40 : decode cX2_endsFirst 40 = .ok (.iaload, 1) := by decide +kernel
theorem dX2_endsFirst_41 : decode cX2_endsFirst 41 = .ok (.if_icmp .ge 7, 3) := by decide +kernel
theorem dX2_endsFirst_44 : decode cX2_endsFirst 44 = .ok (.iload_n 2, 1) := by decide +kernel
theorem dX2_endsFirst_45 : decode cX2_endsFirst 45 = .ok (.goto 4, 3) := by decide +kernel
theorem dX2_endsFirst_48 : decode cX2_endsFirst 48 = .ok (.iload_n 1, 1) := by decide +kernel
theorem dX2_endsFirst_49 : decode cX2_endsFirst 49 = .ok (.istore_n 1, 1) := by decide +kernel
theorem dX2_endsFirst_50 : decode cX2_endsFirst 50 = .ok (.iinc 2 1, 3) := by decide +kernel
theorem dX2_endsFirst_53 : decode cX2_endsFirst 53 = .ok (.goto (-44), 3) := by decide +kernel
theorem dX2_endsFirst_56 : decode cX2_endsFirst 56 = .ok (.iload_n 1, 1) := by decide +kernel
theorem dX2_endsFirst_57 : decode cX2_endsFirst 57 = .ok (.ireturn, 1) := by decide +kernel
set_option maxRecDepth 20000 in
theorem ggX2_wouldLeave_X2_in : GoodIn wsX2_wouldLeave wsX2_in := goodIn_r _ [7] (by decide +kernel) (by decide +kernel)
set_option maxRecDepth 20000 in
theorem gX2_wouldLeave_X2_in : GoodIn wsX2_wouldLeave (va_wsS RX2 49 yX2_in wsX2_in) := goodIn_app (goodIn_of _ (by decide +kernel)) ggX2_wouldLeave_X2_in
set_option maxRecDepth 20000 in
theorem ggX2_wouldLeave_X2_usedBytes : GoodIn wsX2_wouldLeave wsX2_usedBytes := goodIn_r _ [11, 12, 3, 38, 39, 40, 41, 42, 43, 44, 45, 46, 47, 48, 49, 50, 51, 52, 53, 54, 55, 56, 57, 58, 59] (by decide +kernel) (by decide +kernel)
set_option maxRecDepth 20000 in
theorem gX2_wouldLeave_X2_usedBytes : GoodIn wsX2_wouldLeave (wsV RX2 86 RX2 yX2_usedBytes wsX2_usedBytes) := goodIn_app (goodIn_of _ (by decide +kernel)) ggX2_wouldLeave_X2_usedBytes
set_option maxRecDepth 20000 in
theorem ggX2_wouldLeave_X2_pinnedBytes : GoodIn wsX2_wouldLeave wsX2_pinnedBytes := goodIn_r _ [16, 12, 17, 3, 18, 19, 20, 6, 21, 22, 23, 38, 39, 40, 41, 42, 43, 44, 45, 46, 47, 48, 49, 50, 51, 52, 53, 54, 55, 56, 57, 58, 59] (by decide +kernel) (by decide +kernel)
set_option maxRecDepth 20000 in
theorem gX2_wouldLeave_X2_pinnedBytes : GoodIn wsX2_wouldLeave (wsV RX2 93 RX2 yX2_pinnedBytes wsX2_pinnedBytes) := goodIn_app (goodIn_of _ (by decide +kernel)) ggX2_wouldLeave_X2_pinnedBytes
set_option maxRecDepth 20000 in
theorem ggX2_wouldLeave_X2_over : GoodIn wsX2_wouldLeave wsX2_over := goodIn_r _ [21, 12, 22, 23, 38, 39, 40, 41, 42, 43, 44, 45, 46, 47, 48, 49, 50, 51, 52, 53, 54, 55, 56, 57, 58, 59] (by decide +kernel) (by decide +kernel)
set_option maxRecDepth 20000 in
theorem gX2_wouldLeave_X2_over : GoodIn wsX2_wouldLeave (wsV RX2 74 RX2 yX2_over wsX2_over) := goodIn_app (goodIn_of _ (by decide +kernel)) ggX2_wouldLeave_X2_over
set_option maxRecDepth 20000 in
theorem ggX2_wouldLeave_X2_at : GoodIn wsX2_wouldLeave wsX2_at := goodIn_r _ [27, 28, 29, 30, 6, 31, 12, 17, 32, 33, 34, 35, 36, 37, 38, 39, 40, 41, 42, 43, 44, 45, 46, 47, 48, 49, 50, 51, 52, 53, 54, 55, 56, 57, 58, 59] (by decide +kernel) (by decide +kernel)
set_option maxRecDepth 20000 in
theorem gX2_wouldLeave_X2_at : GoodIn wsX2_wouldLeave (wsV RX2 64 RX2 yX2_at wsX2_at) := goodIn_app (goodIn_of _ (by decide +kernel)) ggX2_wouldLeave_X2_at
theorem dX2_wouldLeave_0 : decode cX2_wouldLeave 0 = .ok (.aload_n 0, 1) := by decide +kernel
theorem dX2_wouldLeave_1 : decode cX2_wouldLeave 1 = .ok (.iload_n 1, 1) := by decide +kernel
theorem dX2_wouldLeave_2 : decode cX2_wouldLeave 2 = .ok (.iconst 1, 1) := by decide +kernel
theorem dX2_wouldLeave_3 : decode cX2_wouldLeave 3 = .ok (.sipush 1000, 3) := by decide +kernel
theorem dX2_wouldLeave_6 : decode cX2_wouldLeave 6 = .ok (.invokestatic 49, 3) := by decide +kernel
theorem dX2_wouldLeave_9 : decode cX2_wouldLeave 9 = .ok (.ifCond .eq 7, 3) := by decide +kernel
theorem dX2_wouldLeave_12 : decode cX2_wouldLeave 12 = .ok (.iconst 0, 1) := by decide +kernel
theorem dX2_wouldLeave_13 : decode cX2_wouldLeave 13 = .ok (.goto 4, 3) := by decide +kernel
theorem dX2_wouldLeave_16 : decode cX2_wouldLeave 16 = .ok (.iconst 1, 1) := by decide +kernel
theorem dX2_wouldLeave_17 : decode cX2_wouldLeave 17 = .ok (.putfield 46, 3) := by decide +kernel
theorem dX2_wouldLeave_20 : decode cX2_wouldLeave 20 = .ok (.aload_n 0, 1) := by decide +kernel
theorem dX2_wouldLeave_21 : decode cX2_wouldLeave 21 = .ok (.getfield 46, 3) := by decide +kernel
theorem dX2_wouldLeave_24 : decode cX2_wouldLeave 24 = .ok (.ifCond .le 5, 3) := by decide +kernel
theorem dX2_wouldLeave_27 : decode cX2_wouldLeave 27 = .ok (.iconst 0, 1) := by decide +kernel
theorem dX2_wouldLeave_28 : decode cX2_wouldLeave 28 = .ok (.ireturn, 1) := by decide +kernel
theorem dX2_wouldLeave_29 : decode cX2_wouldLeave 29 = .ok (.aload_n 0, 1) := by decide +kernel
theorem dX2_wouldLeave_30 : decode cX2_wouldLeave 30 = .ok (.invokevirtual 86, 3) := by decide +kernel
theorem dX2_wouldLeave_33 : decode cX2_wouldLeave 33 = .ok (.istore_n 2, 1) := by decide +kernel
theorem dX2_wouldLeave_34 : decode cX2_wouldLeave 34 = .ok (.iload_n 2, 1) := by decide +kernel
theorem dX2_wouldLeave_35 : decode cX2_wouldLeave 35 = .ok (.iload_n 1, 1) := by decide +kernel
theorem dX2_wouldLeave_36 : decode cX2_wouldLeave 36 = .ok (.iadd, 1) := by decide +kernel
theorem dX2_wouldLeave_37 : decode cX2_wouldLeave 37 = .ok (.aload_n 0, 1) := by decide +kernel
theorem dX2_wouldLeave_38 : decode cX2_wouldLeave 38 = .ok (.getfield 39, 3) := by decide +kernel
theorem dX2_wouldLeave_41 : decode cX2_wouldLeave 41 = .ok (.if_icmp .gt 5, 3) := by decide +kernel
theorem dX2_wouldLeave_44 : decode cX2_wouldLeave 44 = .ok (.iconst 0, 1) := by decide +kernel
theorem dX2_wouldLeave_45 : decode cX2_wouldLeave 45 = .ok (.ireturn, 1) := by decide +kernel
theorem dX2_wouldLeave_46 : decode cX2_wouldLeave 46 = .ok (.aload_n 0, 1) := by decide +kernel
theorem dX2_wouldLeave_47 : decode cX2_wouldLeave 47 = .ok (.iconst 0, 1) := by decide +kernel
theorem dX2_wouldLeave_48 : decode cX2_wouldLeave 48 = .ok (.invokevirtual 93, 3) := by decide +kernel
theorem dX2_wouldLeave_51 : decode cX2_wouldLeave 51 = .ok (.iload_n 1, 1) := by decide +kernel
theorem dX2_wouldLeave_52 : decode cX2_wouldLeave 52 = .ok (.iadd, 1) := by decide +kernel
theorem dX2_wouldLeave_53 : decode cX2_wouldLeave 53 = .ok (.aload_n 0, 1) := by decide +kernel
theorem dX2_wouldLeave_54 : decode cX2_wouldLeave 54 = .ok (.getfield 39, 3) := by decide +kernel
theorem dX2_wouldLeave_57 : decode cX2_wouldLeave 57 = .ok (.if_icmp .le 5, 3) := by decide +kernel
theorem dX2_wouldLeave_60 : decode cX2_wouldLeave 60 = .ok (.iconst (-1), 1) := by decide +kernel
theorem dX2_wouldLeave_61 : decode cX2_wouldLeave 61 = .ok (.ireturn, 1) := by decide +kernel
theorem dX2_wouldLeave_62 : decode cX2_wouldLeave 62 = .ok (.iconst 0, 1) := by decide +kernel
theorem dX2_wouldLeave_63 : decode cX2_wouldLeave 63 = .ok (.istore_n 3, 1) := by decide +kernel
theorem dX2_wouldLeave_64 : decode cX2_wouldLeave 64 = .ok (.iload_n 3, 1) := by decide +kernel
theorem dX2_wouldLeave_65 : decode cX2_wouldLeave 65 = .ok (.bipush 32, 2) := by decide +kernel
theorem dX2_wouldLeave_67 : decode cX2_wouldLeave 67 = .ok (.if_icmp .ge 30, 3) := by decide +kernel
theorem dX2_wouldLeave_70 : decode cX2_wouldLeave 70 = .ok (.iload_n 2, 1) := by decide +kernel
theorem dX2_wouldLeave_71 : decode cX2_wouldLeave 71 = .ok (.aload_n 0, 1) := by decide +kernel
theorem dX2_wouldLeave_72 : decode cX2_wouldLeave 72 = .ok (.iload_n 3, 1) := by decide +kernel
theorem dX2_wouldLeave_73 : decode cX2_wouldLeave 73 = .ok (.invokevirtual 74, 3) := by decide +kernel
theorem dX2_wouldLeave_76 : decode cX2_wouldLeave 76 = .ok (.ifCond .eq 12, 3) := by decide +kernel
theorem dX2_wouldLeave_79 : decode cX2_wouldLeave 79 = .ok (.aload_n 0, 1) := by decide +kernel
theorem dX2_wouldLeave_80 : decode cX2_wouldLeave 80 = .ok (.getfield 16, 3) := by decide +kernel
theorem dX2_wouldLeave_83 : decode cX2_wouldLeave 83 = .ok (.iload_n 3, 1) := by decide +kernel
theorem dX2_wouldLeave_84 : decode cX2_wouldLeave 84 = .ok (.iaload, 1) := by decide +kernel
theorem dX2_wouldLeave_85 : decode cX2_wouldLeave 85 = .ok (.goto 4, 3) := by decide +kernel
theorem dX2_wouldLeave_88 : decode cX2_wouldLeave 88 = .ok (.iconst 0, 1) := by decide +kernel
theorem dX2_wouldLeave_89 : decode cX2_wouldLeave 89 = .ok (.isub, 1) := by decide +kernel
theorem dX2_wouldLeave_90 : decode cX2_wouldLeave 90 = .ok (.istore_n 2, 1) := by decide +kernel
theorem dX2_wouldLeave_91 : decode cX2_wouldLeave 91 = .ok (.iinc 3 1, 3) := by decide +kernel
theorem dX2_wouldLeave_94 : decode cX2_wouldLeave 94 = .ok (.goto (-30), 3) := by decide +kernel
theorem dX2_wouldLeave_97 : decode cX2_wouldLeave 97 = .ok (.iconst 0, 1) := by decide +kernel
theorem dX2_wouldLeave_98 : decode cX2_wouldLeave 98 = .ok (.istore_n 3, 1) := by decide +kernel
theorem dX2_wouldLeave_99 : decode cX2_wouldLeave 99 = .ok (.iconst 0, 1) := by decide +kernel
theorem dX2_wouldLeave_100 : decode cX2_wouldLeave 100 = .ok (.istore 4, 2) := by decide +kernel
theorem dX2_wouldLeave_102 : decode cX2_wouldLeave 102 = .ok (.iload_n 2, 1) := by decide +kernel
theorem dX2_wouldLeave_103 : decode cX2_wouldLeave 103 = .ok (.iload_n 1, 1) := by decide +kernel
theorem dX2_wouldLeave_104 : decode cX2_wouldLeave 104 = .ok (.iadd, 1) := by decide +kernel
theorem dX2_wouldLeave_105 : decode cX2_wouldLeave 105 = .ok (.aload_n 0, 1) := by decide +kernel
theorem dX2_wouldLeave_106 : decode cX2_wouldLeave 106 = .ok (.getfield 39, 3) := by decide +kernel
theorem dX2_wouldLeave_109 : decode cX2_wouldLeave 109 = .ok (.if_icmp .le 57, 3) := by decide +kernel
theorem dX2_wouldLeave_112 : decode cX2_wouldLeave 112 = .ok (.aload_n 0, 1) := by decide +kernel
theorem dX2_wouldLeave_113 : decode cX2_wouldLeave 113 = .ok (.iload 4, 2) := by decide +kernel
theorem dX2_wouldLeave_115 : decode cX2_wouldLeave 115 = .ok (.invokevirtual 64, 3) := by decide +kernel
theorem dX2_wouldLeave_118 : decode cX2_wouldLeave 118 = .ok (.istore 5, 2) := by decide +kernel
theorem dX2_wouldLeave_120 : decode cX2_wouldLeave 120 = .ok (.iload_n 3, 1) := by decide +kernel
theorem dX2_wouldLeave_121 : decode cX2_wouldLeave 121 = .ok (.aload_n 0, 1) := by decide +kernel
theorem dX2_wouldLeave_122 : decode cX2_wouldLeave 122 = .ok (.iload 5, 2) := by decide +kernel
theorem dX2_wouldLeave_124 : decode cX2_wouldLeave 124 = .ok (.invokevirtual 74, 3) := by decide +kernel
theorem dX2_wouldLeave_127 : decode cX2_wouldLeave 127 = .ok (.ifCond .eq 7, 3) := by decide +kernel
theorem dX2_wouldLeave_130 : decode cX2_wouldLeave 130 = .ok (.iconst 0, 1) := by decide +kernel
theorem dX2_wouldLeave_131 : decode cX2_wouldLeave 131 = .ok (.goto 4, 3) := by decide +kernel
theorem dX2_wouldLeave_134 : decode cX2_wouldLeave 134 = .ok (.iconst 1, 1) := by decide +kernel
theorem dX2_wouldLeave_135 : decode cX2_wouldLeave 135 = .ok (.iadd, 1) := by decide +kernel
theorem dX2_wouldLeave_136 : decode cX2_wouldLeave 136 = .ok (.istore_n 3, 1) := by decide +kernel
theorem dX2_wouldLeave_137 : decode cX2_wouldLeave 137 = .ok (.iload_n 2, 1) := by decide +kernel
theorem dX2_wouldLeave_138 : decode cX2_wouldLeave 138 = .ok (.aload_n 0, 1) := by decide +kernel
theorem dX2_wouldLeave_139 : decode cX2_wouldLeave 139 = .ok (.iload 5, 2) := by decide +kernel
theorem dX2_wouldLeave_141 : decode cX2_wouldLeave 141 = .ok (.invokevirtual 74, 3) := by decide +kernel
theorem dX2_wouldLeave_144 : decode cX2_wouldLeave 144 = .ok (.ifCond .eq 7, 3) := by decide +kernel
theorem dX2_wouldLeave_147 : decode cX2_wouldLeave 147 = .ok (.iconst 0, 1) := by decide +kernel
theorem dX2_wouldLeave_148 : decode cX2_wouldLeave 148 = .ok (.goto 10, 3) := by decide +kernel
theorem dX2_wouldLeave_151 : decode cX2_wouldLeave 151 = .ok (.aload_n 0, 1) := by decide +kernel
theorem dX2_wouldLeave_152 : decode cX2_wouldLeave 152 = .ok (.getfield 16, 3) := by decide +kernel
theorem dX2_wouldLeave_155 : decode cX2_wouldLeave 155 = .ok (.iload 5, 2) := by decide +kernel
theorem dX2_wouldLeave_157 : decode cX2_wouldLeave 157 = .ok (.iaload, 1) := by decide +kernel
theorem dX2_wouldLeave_158 : decode cX2_wouldLeave 158 = .ok (.isub, 1) := by decide +kernel
theorem dX2_wouldLeave_159 : decode cX2_wouldLeave 159 = .ok (.istore_n 2, 1) := by decide +kernel
theorem dX2_wouldLeave_160 : decode cX2_wouldLeave 160 = .ok (.iinc 4 1, 3) := by decide +kernel
theorem dX2_wouldLeave_163 : decode cX2_wouldLeave 163 = .ok (.goto (-61), 3) := by decide +kernel
theorem dX2_wouldLeave_166 : decode cX2_wouldLeave 166 = .ok (.iload_n 3, 1) := by decide +kernel
theorem dX2_wouldLeave_167 : decode cX2_wouldLeave 167 = .ok (.ireturn, 1) := by decide +kernel
theorem dX2_time_0 : decode cX2_time 0 = .ok (.aload_n 0, 1) := by decide +kernel
theorem dX2_time_1 : decode cX2_time 1 = .ok (.iconst 0, 1) := by decide +kernel
theorem dX2_time_2 : decode cX2_time 2 = .ok (.putfield 46, 3) := by decide +kernel
theorem dX2_time_5 : decode cX2_time 5 = .ok (.aload_n 0, 1) := by decide +kernel
theorem dX2_time_6 : decode cX2_time 6 = .ok (.getfield 53, 3) := by decide +kernel
theorem dX2_time_9 : decode cX2_time 9 = .ok (.ireturn, 1) := by decide +kernel
theorem dX2_clock_0 : decode cX2_clock 0 = .ok (.aload_n 0, 1) := by decide +kernel
theorem dX2_clock_1 : decode cX2_clock 1 = .ok (.iconst 0, 1) := by decide +kernel
theorem dX2_clock_2 : decode cX2_clock 2 = .ok (.putfield 46, 3) := by decide +kernel
theorem dX2_clock_5 : decode cX2_clock 5 = .ok (.aload_n 0, 1) := by decide +kernel
theorem dX2_clock_6 : decode cX2_clock 6 = .ok (.getfield 67, 3) := by decide +kernel
theorem dX2_clock_9 : decode cX2_clock 9 = .ok (.lreturn, 1) := by decide +kernel
theorem dX2_capacity_0 : decode cX2_capacity 0 = .ok (.aload_n 0, 1) := by decide +kernel
theorem dX2_capacity_1 : decode cX2_capacity 1 = .ok (.iconst 0, 1) := by decide +kernel
theorem dX2_capacity_2 : decode cX2_capacity 2 = .ok (.putfield 46, 3) := by decide +kernel
theorem dX2_capacity_5 : decode cX2_capacity 5 = .ok (.aload_n 0, 1) := by decide +kernel
theorem dX2_capacity_6 : decode cX2_capacity 6 = .ok (.getfield 39, 3) := by decide +kernel
theorem dX2_capacity_9 : decode cX2_capacity 9 = .ok (.ireturn, 1) := by decide +kernel
theorem dX2_entries_0 : decode cX2_entries 0 = .ok (.aload_n 0, 1) := by decide +kernel
theorem dX2_entries_1 : decode cX2_entries 1 = .ok (.iconst 0, 1) := by decide +kernel
theorem dX2_entries_2 : decode cX2_entries 2 = .ok (.putfield 46, 3) := by decide +kernel
theorem dX2_entries_5 : decode cX2_entries 5 = .ok (.iconst 0, 1) := by decide +kernel
theorem dX2_entries_6 : decode cX2_entries 6 = .ok (.istore_n 1, 1) := by decide +kernel
theorem dX2_entries_7 : decode cX2_entries 7 = .ok (.iconst 0, 1) := by decide +kernel
theorem dX2_entries_8 : decode cX2_entries 8 = .ok (.istore_n 2, 1) := by decide +kernel
theorem dX2_entries_9 : decode cX2_entries 9 = .ok (.iload_n 2, 1) := by decide +kernel
theorem dX2_entries_10 : decode cX2_entries 10 = .ok (.bipush 32, 2) := by decide +kernel
theorem dX2_entries_12 : decode cX2_entries 12 = .ok (.if_icmp .ge 26, 3) := by decide +kernel
theorem dX2_entries_15 : decode cX2_entries 15 = .ok (.iload_n 1, 1) := by decide +kernel
theorem dX2_entries_16 : decode cX2_entries 16 = .ok (.aload_n 0, 1) := by decide +kernel
theorem dX2_entries_17 : decode cX2_entries 17 = .ok (.getfield 7, 3) := by decide +kernel
theorem dX2_entries_20 : decode cX2_entries 20 = .ok (.iload_n 2, 1) := by decide +kernel
theorem dX2_entries_21 : decode cX2_entries 21 = .ok (.baload, 1) := by decide +kernel
theorem dX2_entries_22 : decode cX2_entries 22 = .ok (.ifCond .eq 7, 3) := by decide +kernel
theorem dX2_entries_25 : decode cX2_entries 25 = .ok (.iconst 1, 1) := by decide +kernel
theorem dX2_entries_26 : decode cX2_entries 26 = .ok (.goto 4, 3) := by decide +kernel
theorem dX2_entries_29 : decode cX2_entries 29 = .ok (.iconst 0, 1) := by decide +kernel
theorem dX2_entries_30 : decode cX2_entries 30 = .ok (.iadd, 1) := by decide +kernel
theorem dX2_entries_31 : decode cX2_entries 31 = .ok (.istore_n 1, 1) := by decide +kernel
theorem dX2_entries_32 : decode cX2_entries 32 = .ok (.iinc 2 1, 3) := by decide +kernel
theorem dX2_entries_35 : decode cX2_entries 35 = .ok (.goto (-26), 3) := by decide +kernel
theorem dX2_entries_38 : decode cX2_entries 38 = .ok (.iload_n 1, 1) := by decide +kernel
theorem dX2_entries_39 : decode cX2_entries 39 = .ok (.ireturn, 1) := by decide +kernel
set_option maxRecDepth 20000 in
theorem ggX2_used_X2_usedBytes : GoodIn wsX2_used wsX2_usedBytes := goodIn_r _ [6, 7, 8, 9, 10, 11, 12, 13, 14, 15, 16, 17, 18, 19, 20, 21, 22, 23, 24, 25, 26, 27, 28, 29, 30] (by decide +kernel) (by decide +kernel)
set_option maxRecDepth 20000 in
theorem gX2_used_X2_usedBytes : GoodIn wsX2_used (wsV RX2 86 RX2 yX2_usedBytes wsX2_usedBytes) := goodIn_app (goodIn_of _ (by decide +kernel)) ggX2_used_X2_usedBytes
theorem dX2_used_0 : decode cX2_used 0 = .ok (.aload_n 0, 1) := by decide +kernel
theorem dX2_used_1 : decode cX2_used 1 = .ok (.iconst 0, 1) := by decide +kernel
theorem dX2_used_2 : decode cX2_used 2 = .ok (.putfield 46, 3) := by decide +kernel
theorem dX2_used_5 : decode cX2_used 5 = .ok (.aload_n 0, 1) := by decide +kernel
theorem dX2_used_6 : decode cX2_used 6 = .ok (.invokevirtual 86, 3) := by decide +kernel
theorem dX2_used_9 : decode cX2_used 9 = .ok (.ireturn, 1) := by decide +kernel
theorem dX2_hits_0 : decode cX2_hits 0 = .ok (.aload_n 0, 1) := by decide +kernel
theorem dX2_hits_1 : decode cX2_hits 1 = .ok (.iconst 0, 1) := by decide +kernel
theorem dX2_hits_2 : decode cX2_hits 2 = .ok (.putfield 46, 3) := by decide +kernel
theorem dX2_hits_5 : decode cX2_hits 5 = .ok (.aload_n 0, 1) := by decide +kernel
theorem dX2_hits_6 : decode cX2_hits 6 = .ok (.getfield 107, 3) := by decide +kernel
theorem dX2_hits_9 : decode cX2_hits 9 = .ok (.ireturn, 1) := by decide +kernel
theorem dX2_misses_0 : decode cX2_misses 0 = .ok (.aload_n 0, 1) := by decide +kernel
theorem dX2_misses_1 : decode cX2_misses 1 = .ok (.iconst 0, 1) := by decide +kernel
theorem dX2_misses_2 : decode cX2_misses 2 = .ok (.putfield 46, 3) := by decide +kernel
theorem dX2_misses_5 : decode cX2_misses 5 = .ok (.aload_n 0, 1) := by decide +kernel
theorem dX2_misses_6 : decode cX2_misses 6 = .ok (.getfield 116, 3) := by decide +kernel
theorem dX2_misses_9 : decode cX2_misses 9 = .ok (.ireturn, 1) := by decide +kernel
theorem dX2_bytesHit_0 : decode cX2_bytesHit 0 = .ok (.aload_n 0, 1) := by decide +kernel
theorem dX2_bytesHit_1 : decode cX2_bytesHit 1 = .ok (.iconst 0, 1) := by decide +kernel
theorem dX2_bytesHit_2 : decode cX2_bytesHit 2 = .ok (.putfield 46, 3) := by decide +kernel
theorem dX2_bytesHit_5 : decode cX2_bytesHit 5 = .ok (.aload_n 0, 1) := by decide +kernel
theorem dX2_bytesHit_6 : decode cX2_bytesHit 6 = .ok (.getfield 110, 3) := by decide +kernel
theorem dX2_bytesHit_9 : decode cX2_bytesHit 9 = .ok (.lreturn, 1) := by decide +kernel
theorem dX2_saved_0 : decode cX2_saved 0 = .ok (.aload_n 0, 1) := by decide +kernel
theorem dX2_saved_1 : decode cX2_saved 1 = .ok (.iconst 0, 1) := by decide +kernel
theorem dX2_saved_2 : decode cX2_saved 2 = .ok (.putfield 46, 3) := by decide +kernel
theorem dX2_saved_5 : decode cX2_saved 5 = .ok (.aload_n 0, 1) := by decide +kernel
theorem dX2_saved_6 : decode cX2_saved 6 = .ok (.getfield 113, 3) := by decide +kernel
theorem dX2_saved_9 : decode cX2_saved 9 = .ok (.lreturn, 1) := by decide +kernel
theorem dX2_paid_0 : decode cX2_paid 0 = .ok (.aload_n 0, 1) := by decide +kernel
theorem dX2_paid_1 : decode cX2_paid 1 = .ok (.iconst 0, 1) := by decide +kernel
theorem dX2_paid_2 : decode cX2_paid 2 = .ok (.putfield 46, 3) := by decide +kernel
theorem dX2_paid_5 : decode cX2_paid 5 = .ok (.aload_n 0, 1) := by decide +kernel
theorem dX2_paid_6 : decode cX2_paid 6 = .ok (.getfield 119, 3) := by decide +kernel
theorem dX2_paid_9 : decode cX2_paid 9 = .ok (.lreturn, 1) := by decide +kernel
theorem dX2_left_0 : decode cX2_left 0 = .ok (.aload_n 0, 1) := by decide +kernel
theorem dX2_left_1 : decode cX2_left 1 = .ok (.iconst 0, 1) := by decide +kernel
theorem dX2_left_2 : decode cX2_left 2 = .ok (.putfield 46, 3) := by decide +kernel
theorem dX2_left_5 : decode cX2_left 5 = .ok (.aload_n 0, 1) := by decide +kernel
theorem dX2_left_6 : decode cX2_left 6 = .ok (.getfield 71, 3) := by decide +kernel
theorem dX2_left_9 : decode cX2_left 9 = .ok (.ireturn, 1) := by decide +kernel
theorem dX2_removedOver_0 : decode cX2_removedOver 0 = .ok (.aload_n 0, 1) := by decide +kernel
theorem dX2_removedOver_1 : decode cX2_removedOver 1 = .ok (.iconst 0, 1) := by decide +kernel
theorem dX2_removedOver_2 : decode cX2_removedOver 2 = .ok (.putfield 46, 3) := by decide +kernel
theorem dX2_removedOver_5 : decode cX2_removedOver 5 = .ok (.aload_n 0, 1) := by decide +kernel
theorem dX2_removedOver_6 : decode cX2_removedOver 6 = .ok (.getfield 78, 3) := by decide +kernel
theorem dX2_removedOver_9 : decode cX2_removedOver 9 = .ok (.ireturn, 1) := by decide +kernel
theorem dJ9_max_f86c9_0 : decode cJ9_max_f86c9 0 = .ok (.lload_n 0, 1) := by decide +kernel
theorem dJ9_max_f86c9_1 : decode cJ9_max_f86c9 1 = .ok (.lload_n 2, 1) := by decide +kernel
theorem dJ9_max_f86c9_2 : decode cJ9_max_f86c9 2 = .ok (.lcmp, 1) := by decide +kernel
theorem dJ9_max_f86c9_3 : decode cJ9_max_f86c9 3 = .ok (.ifCond .lt 7, 3) := by decide +kernel
theorem dJ9_max_f86c9_6 : decode cJ9_max_f86c9 6 = .ok (.lload_n 0, 1) := by decide +kernel
theorem dJ9_max_f86c9_7 : decode cJ9_max_f86c9 7 = .ok (.goto 4, 3) := by decide +kernel
theorem dJ9_max_f86c9_10 : decode cJ9_max_f86c9 10 = .ok (.lload_n 2, 1) := by decide +kernel
theorem dJ9_max_f86c9_11 : decode cJ9_max_f86c9 11 = .ok (.lreturn, 1) := by decide +kernel
set_option maxRecDepth 20000 in
theorem ggL_fetch_X1_fetch : GoodIn wsL_fetch wsX1_fetch := goodIn_ca (goodIn_ca (goodIn_r _ [7, 8, 9, 10, 6, 11, 12, 13, 14, 15, 16, 17, 18, 19, 20, 21, 22, 23, 24, 25, 26, 27, 28, 29, 30, 31, 32, 33, 34, 35, 36, 37, 38, 39, 40, 41, 42, 43, 44, 45, 46, 47, 48, 49, 50, 51, 52, 53, 54, 55, 56, 57, 58, 59, 60, 61, 62, 63, 64, 65, 66, 67, 68, 69, 70, 71, 72, 73, 74, 75, 76, 77, 78, 79, 80, 81, 82, 83, 84, 85, 86, 87, 88, 89, 90, 91, 92, 93, 94, 95, 96, 97, 98, 99, 100, 101, 102, 103, 104, 105, 106, 107, 108, 109, 110, 111, 112, 113, 114, 115, 116, 117, 118, 119, 120, 121, 122, 123, 124, 125, 126, 127, 128] (by decide +kernel) (by decide +kernel)) (goodIn_sub (fun _ h => List.mem_cons_of_mem _ (List.mem_append_left _ (List.mem_append_right _ h))) (by decide +kernel))) (goodIn_sub (fun _ h => List.mem_cons_of_mem _ (List.mem_append_right _ h)) (by decide +kernel))
set_option maxRecDepth 20000 in
theorem gL_fetch_X1_fetch : GoodIn wsL_fetch (wsV RL 7 RX1 yX1_fetch wsX1_fetch) := goodIn_app (goodIn_of _ (by decide +kernel)) ggL_fetch_X1_fetch
