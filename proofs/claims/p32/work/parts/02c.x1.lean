theorem dX0_init_0 : decode cX0_init 0 = .ok (.aload_n 0, 1) := by decide +kernel
theorem dX0_init_1 : decode cX0_init 1 = .ok (.invokespecial 3, 3) := by decide +kernel
theorem dX0_init_4 : decode cX0_init 4 = .ok (.aload_n 0, 1) := by decide +kernel
theorem dX0_init_5 : decode cX0_init 5 = .ok (.iconst (-1), 1) := by decide +kernel
theorem dX0_init_6 : decode cX0_init 6 = .ok (.putfield 9, 3) := by decide +kernel
theorem dX0_init_9 : decode cX0_init 9 = .ok (.aload_n 0, 1) := by decide +kernel
theorem dX0_init_10 : decode cX0_init 10 = .ok (.iload_n 1, 1) := by decide +kernel
theorem dX0_init_11 : decode cX0_init 11 = .ok (.putfield 15, 3) := by decide +kernel
theorem dX0_init_14 : decode cX0_init 14 = .ok (.return_, 1) := by decide +kernel
set_option maxRecDepth 20000 in
theorem ggX1_init_X0_init : GoodIn wsX1_init wsX0_init := goodIn_r _ [11, 12, 2, 3, 13, 14, 28, 29, 30, 31, 32, 33, 34, 35, 36] (by decide +kernel) (by decide +kernel)
set_option maxRecDepth 20000 in
theorem gX1_init_X0_init_n22 : GoodIn wsX1_init (wsX0_init) := ggX1_init_X0_init
theorem dX1_init_0 : decode cX1_init 0 = .ok (.aload_n 0, 1) := by decide +kernel
theorem dX1_init_1 : decode cX1_init 1 = .ok (.invokespecial 1, 3) := by decide +kernel
theorem dX1_init_4 : decode cX1_init 4 = .ok (.aload_n 0, 1) := by decide +kernel
theorem dX1_init_5 : decode cX1_init 5 = .ok (.bipush 32, 2) := by decide +kernel
theorem dX1_init_7 : decode cX1_init 7 = .ok (.anewarray 9, 3) := by decide +kernel
theorem dX1_init_10 : decode cX1_init 10 = .ok (.putfield 11, 3) := by decide +kernel
theorem dX1_init_13 : decode cX1_init 13 = .ok (.aload_n 0, 1) := by decide +kernel
theorem dX1_init_14 : decode cX1_init 14 = .ok (.bipush 100, 2) := by decide +kernel
theorem dX1_init_16 : decode cX1_init 16 = .ok (.putfield 15, 3) := by decide +kernel
theorem dX1_init_19 : decode cX1_init 19 = .ok (.aload_n 0, 1) := by decide +kernel
theorem dX1_init_20 : decode cX1_init 20 = .ok (.sipush 1000, 3) := by decide +kernel
theorem dX1_init_23 : decode cX1_init 23 = .ok (.putfield 19, 3) := by decide +kernel
theorem dX1_init_26 : decode cX1_init 26 = .ok (.iconst 0, 1) := by decide +kernel
theorem dX1_init_27 : decode cX1_init 27 = .ok (.istore_n 1, 1) := by decide +kernel
theorem dX1_init_28 : decode cX1_init 28 = .ok (.iload_n 1, 1) := by decide +kernel
theorem dX1_init_29 : decode cX1_init 29 = .ok (.aload_n 0, 1) := by decide +kernel
theorem dX1_init_30 : decode cX1_init 30 = .ok (.getfield 11, 3) := by decide +kernel
theorem dX1_init_33 : decode cX1_init 33 = .ok (.arraylength, 1) := by decide +kernel
theorem dX1_init_34 : decode cX1_init 34 = .ok (.if_icmp .ge 23, 3) := by decide +kernel
theorem dX1_init_37 : decode cX1_init 37 = .ok (.aload_n 0, 1) := by decide +kernel
theorem dX1_init_38 : decode cX1_init 38 = .ok (.getfield 11, 3) := by decide +kernel
theorem dX1_init_41 : decode cX1_init 41 = .ok (.iload_n 1, 1) := by decide +kernel
theorem dX1_init_42 : decode cX1_init 42 = .ok (.new 9, 3) := by decide +kernel
theorem dX1_init_45 : decode cX1_init 45 = .ok (.dup, 1) := by decide +kernel
theorem dX1_init_46 : decode cX1_init 46 = .ok (.iload_n 1, 1) := by decide +kernel
theorem dX1_init_47 : decode cX1_init 47 = .ok (.invokespecial 22, 3) := by decide +kernel
theorem dX1_init_50 : decode cX1_init 50 = .ok (.aastore, 1) := by decide +kernel
theorem dX1_init_51 : decode cX1_init 51 = .ok (.iinc 1 1, 3) := by decide +kernel
theorem dX1_init_54 : decode cX1_init 54 = .ok (.goto (-26), 3) := by decide +kernel
theorem dX1_init_57 : decode cX1_init 57 = .ok (.return_, 1) := by decide +kernel
set_option maxRecDepth 20000 in
theorem ggX1_fetch_X1_slotOf : GoodIn wsX1_fetch wsX1_slotOf := goodIn_ca (goodIn_r _ [5, 6, 7, 8, 110, 111, 112, 113, 114, 115, 116, 117, 118, 119, 120, 121, 122] (by decide +kernel) (by decide +kernel)) (goodIn_sub (fun _ h => List.mem_cons_of_mem _ (List.mem_append_left _ (List.mem_append_right _ h))) (by decide +kernel))
set_option maxRecDepth 20000 in
theorem gX1_fetch_X1_slotOf : GoodIn wsX1_fetch (wsV RX1 25 RX1 yX1_slotOf wsX1_slotOf) := goodIn_app (goodIn_of _ (by decide +kernel)) ggX1_fetch_X1_slotOf
set_option maxRecDepth 20000 in
theorem ggX1_fetch_X1_requireWithin : GoodIn wsX1_fetch wsX1_requireWithin := goodIn_ca (goodIn_r _ [11, 12, 13] (by decide +kernel) (by decide +kernel)) (goodIn_sub (fun _ h => List.mem_cons_of_mem _ (List.mem_append_right _ h)) (by decide +kernel))
set_option maxRecDepth 20000 in
theorem gX1_fetch_X1_requireWithin : GoodIn wsX1_fetch (va_wsS RX1 29 yX1_requireWithin wsX1_requireWithin) := goodIn_app (goodIn_of _ (by decide +kernel)) ggX1_fetch_X1_requireWithin
set_option maxRecDepth 20000 in
theorem ggX1_fetch_X1_hasEnded : GoodIn wsX1_fetch wsX1_hasEnded := goodIn_r _ [17, 18, 110, 111, 112, 113, 114, 115, 116, 117, 118, 119, 120, 121, 122, 101, 102, 103, 104, 105, 106, 107, 108, 109] (by decide +kernel) (by decide +kernel)
set_option maxRecDepth 20000 in
theorem gX1_fetch_X1_hasEnded : GoodIn wsX1_fetch (wsV RX1 37 RX1 yX1_hasEnded wsX1_hasEnded) := goodIn_app (goodIn_of _ (by decide +kernel)) ggX1_fetch_X1_hasEnded
set_option maxRecDepth 20000 in
theorem ggX1_fetch_X1_hit : GoodIn wsX1_fetch wsX1_hit := goodIn_r _ [22, 23, 24, 25, 26, 27, 28, 4, 29, 30, 31, 32, 101, 102, 103, 104, 105, 106, 107, 108, 109, 110, 111, 112, 113, 114, 115, 116, 117, 118, 119, 120, 121, 122] (by decide +kernel) (by decide +kernel)
set_option maxRecDepth 20000 in
theorem gX1_fetch_X1_hit : GoodIn wsX1_fetch (wsV RX1 44 RX1 yX1_hit wsX1_hit) := goodIn_app (goodIn_of _ (by decide +kernel)) ggX1_fetch_X1_hit
set_option maxRecDepth 20000 in
theorem ggX1_fetch_X1_countMiss : GoodIn wsX1_fetch wsX1_countMiss := goodIn_r _ [36, 37, 38, 110, 111, 112, 113, 114, 115, 116, 117, 118, 119, 120, 121, 122] (by decide +kernel) (by decide +kernel)
set_option maxRecDepth 20000 in
theorem gX1_fetch_X1_countMiss : GoodIn wsX1_fetch (wsV RX1 48 RX1 yX1_countMiss wsX1_countMiss) := goodIn_app (goodIn_of _ (by decide +kernel)) ggX1_fetch_X1_countMiss
set_option maxRecDepth 20000 in
theorem ggX1_fetch_X1_letInIfPossible : GoodIn wsX1_fetch wsX1_letInIfPossible := goodIn_r _ [42, 18, 43, 44, 45, 46, 47, 4, 48, 49, 50, 51, 52, 53, 14, 15, 16, 17, 54, 55, 56, 57, 58, 59, 60, 61, 62, 63, 64, 65, 8, 66, 67, 68, 69, 70, 71, 72, 73, 74, 75, 76, 77, 31, 78, 79, 80, 81, 82, 83, 84, 85, 86, 87, 88, 89, 90, 91, 92, 93, 94, 95, 96, 97, 98, 99, 100, 26, 27, 28, 29, 30, 32, 110, 111, 112, 113, 114, 115, 116, 117, 118, 119, 120, 121, 122, 101, 102, 103, 104, 105, 106, 107, 108, 109] (by decide +kernel) (by decide +kernel)
set_option maxRecDepth 20000 in
theorem gX1_fetch_X1_letInIfPossible : GoodIn wsX1_fetch (wsV RX1 51 RX1 yX1_letInIfPossible wsX1_letInIfPossible) := goodIn_app (goodIn_of _ (by decide +kernel)) ggX1_fetch_X1_letInIfPossible
theorem dX1_fetch_0 : decode cX1_fetch 0 = .ok (.aload_n 0, 1) := by decide +kernel
theorem dX1_fetch_1 : decode cX1_fetch 1 = .ok (.iload_n 1, 1) := by decide +kernel
theorem dX1_fetch_2 : decode cX1_fetch 2 = .ok (.invokevirtual 25, 3) := by decide +kernel
theorem dX1_fetch_5 : decode cX1_fetch 5 = .ok (.astore 5, 2) := by decide +kernel
theorem dX1_fetch_7 : decode cX1_fetch 7 = .ok (.iload_n 2, 1) := by decide +kernel
theorem dX1_fetch_8 : decode cX1_fetch 8 = .ok (.iconst 1, 1) := by decide +kernel
theorem dX1_fetch_9 : decode cX1_fetch 9 = .ok (.sipush 1000, 3) := by decide +kernel
theorem dX1_fetch_12 : decode cX1_fetch 12 = .ok (.invokestatic 29, 3) := by decide +kernel
theorem dX1_fetch_15 : decode cX1_fetch 15 = .ok (.iload_n 3, 1) := by decide +kernel
theorem dX1_fetch_16 : decode cX1_fetch 16 = .ok (.iconst 0, 1) := by decide +kernel
theorem dX1_fetch_17 : decode cX1_fetch 17 = .ok (.sipush 1000, 3) := by decide +kernel
theorem dX1_fetch_20 : decode cX1_fetch 20 = .ok (.invokestatic 29, 3) := by decide +kernel
theorem dX1_fetch_23 : decode cX1_fetch 23 = .ok (.iload 4, 2) := by decide +kernel
theorem dX1_fetch_25 : decode cX1_fetch 25 = .ok (.iconst 1, 1) := by decide +kernel
theorem dX1_fetch_26 : decode cX1_fetch 26 = .ok (.sipush 10000, 3) := by decide +kernel
theorem dX1_fetch_29 : decode cX1_fetch 29 = .ok (.invokestatic 29, 3) := by decide +kernel
theorem dX1_fetch_32 : decode cX1_fetch 32 = .ok (.aload 5, 2) := by decide +kernel
theorem dX1_fetch_34 : decode cX1_fetch 34 = .ok (.getfield 33, 3) := by decide +kernel
theorem dX1_fetch_37 : decode cX1_fetch 37 = .ok (.ifCond .eq 30, 3) := by decide +kernel
theorem dX1_fetch_40 : decode cX1_fetch 40 = .ok (.aload_n 0, 1) := by decide +kernel
theorem dX1_fetch_41 : decode cX1_fetch 41 = .ok (.aload 5, 2) := by decide +kernel
theorem dX1_fetch_43 : decode cX1_fetch 43 = .ok (.invokevirtual 37, 3) := by decide +kernel
theorem dX1_fetch_46 : decode cX1_fetch 46 = .ok (.ifCond .ne 21, 3) := by decide +kernel
theorem dX1_fetch_49 : decode cX1_fetch 49 = .ok (.aload 5, 2) := by decide +kernel
theorem dX1_fetch_51 : decode cX1_fetch 51 = .ok (.getfield 41, 3) := by decide +kernel
theorem dX1_fetch_54 : decode cX1_fetch 54 = .ok (.iload_n 2, 1) := by decide +kernel
theorem dX1_fetch_55 : decode cX1_fetch 55 = .ok (.if_icmp .ne 12, 3) := by decide +kernel
theorem dX1_fetch_58 : decode cX1_fetch 58 = .ok (.aload_n 0, 1) := by decide +kernel
theorem dX1_fetch_59 : decode cX1_fetch 59 = .ok (.aload 5, 2) := by decide +kernel
theorem dX1_fetch_61 : decode cX1_fetch 61 = .ok (.iload_n 3, 1) := by decide +kernel
theorem dX1_fetch_62 : decode cX1_fetch 62 = .ok (.invokevirtual 44, 3) := by decide +kernel
theorem dX1_fetch_65 : decode cX1_fetch 65 = .ok (.iconst 0, 1) := by decide +kernel
theorem dX1_fetch_66 : decode cX1_fetch 66 = .ok (.ireturn, 1) := by decide +kernel
theorem dX1_fetch_67 : decode cX1_fetch 67 = .ok (.aload_n 0, 1) := by decide +kernel
theorem dX1_fetch_68 : decode cX1_fetch 68 = .ok (.iload_n 3, 1) := by decide +kernel
theorem dX1_fetch_69 : decode cX1_fetch 69 = .ok (.invokevirtual 48, 3) := by decide +kernel
theorem dX1_fetch_72 : decode cX1_fetch 72 = .ok (.aload_n 0, 1) := by decide +kernel
theorem dX1_fetch_73 : decode cX1_fetch 73 = .ok (.aload 5, 2) := by decide +kernel
theorem dX1_fetch_75 : decode cX1_fetch 75 = .ok (.iload_n 2, 1) := by decide +kernel
theorem dX1_fetch_76 : decode cX1_fetch 76 = .ok (.iload_n 3, 1) := by decide +kernel
theorem dX1_fetch_77 : decode cX1_fetch 77 = .ok (.iload 4, 2) := by decide +kernel
theorem dX1_fetch_79 : decode cX1_fetch 79 = .ok (.invokevirtual 51, 3) := by decide +kernel
theorem dX1_fetch_82 : decode cX1_fetch 82 = .ok (.ifCond .eq 7, 3) := by decide +kernel
theorem dX1_fetch_85 : decode cX1_fetch 85 = .ok (.iconst 1, 1) := by decide +kernel
theorem dX1_fetch_86 : decode cX1_fetch 86 = .ok (.goto 4, 3) := by decide +kernel
theorem dX1_fetch_89 : decode cX1_fetch 89 = .ok (.iconst 2, 1) := by decide +kernel
theorem dX1_fetch_90 : decode cX1_fetch 90 = .ok (.ireturn, 1) := by decide +kernel
set_option maxRecDepth 20000 in
theorem ggX1_pass_X1_requireWithin : GoodIn wsX1_pass wsX1_requireWithin := goodIn_ca (goodIn_r _ [5, 6, 7] (by decide +kernel) (by decide +kernel)) (goodIn_sub (fun _ h => List.mem_cons_of_mem _ (List.mem_append_right _ h)) (by decide +kernel))
set_option maxRecDepth 20000 in
theorem gX1_pass_X1_requireWithin : GoodIn wsX1_pass (va_wsS RX1 29 yX1_requireWithin wsX1_requireWithin) := goodIn_app (goodIn_of _ (by decide +kernel)) ggX1_pass_X1_requireWithin
theorem dX1_pass_0 : decode cX1_pass 0 = .ok (.iload_n 1, 1) := by decide +kernel
theorem dX1_pass_1 : decode cX1_pass 1 = .ok (.iconst 1, 1) := by decide +kernel
theorem dX1_pass_2 : decode cX1_pass 2 = .ok (.sipush 10000, 3) := by decide +kernel
theorem dX1_pass_5 : decode cX1_pass 5 = .ok (.invokestatic 29, 3) := by decide +kernel
theorem dX1_pass_8 : decode cX1_pass 8 = .ok (.aload_n 0, 1) := by decide +kernel
theorem dX1_pass_9 : decode cX1_pass 9 = .ok (.dup, 1) := by decide +kernel
theorem dX1_pass_10 : decode cX1_pass 10 = .ok (.getfield 55, 3) := by decide +kernel
theorem dX1_pass_13 : decode cX1_pass 13 = .ok (.iload_n 1, 1) := by decide +kernel
theorem dX1_pass_14 : decode cX1_pass 14 = .ok (.iadd, 1) := by decide +kernel
theorem dX1_pass_15 : decode cX1_pass 15 = .ok (.putfield 55, 3) := by decide +kernel
theorem dX1_pass_18 : decode cX1_pass 18 = .ok (.aload_n 0, 1) := by decide +kernel
theorem dX1_pass_19 : decode cX1_pass 19 = .ok (.getfield 55, 3) := by decide +kernel
theorem dX1_pass_22 : decode cX1_pass 22 = .ok (.ireturn, 1) := by decide +kernel
set_option maxRecDepth 20000 in
theorem ggX1_pin_X1_filledSlotOf : GoodIn wsX1_pin wsX1_filledSlotOf := goodIn_ca (goodIn_ca (goodIn_r _ [5, 6, 7, 8, 9, 10, 4, 11, 12, 13, 14, 15, 16, 17, 18, 19, 20, 21, 22, 23, 24, 25, 26, 27, 28, 29, 30, 31, 32, 33, 34, 35, 36] (by decide +kernel) (by decide +kernel)) (goodIn_sub (fun _ h => List.mem_cons_of_mem _ (List.mem_append_left _ (List.mem_append_right _ h))) (by decide +kernel))) (goodIn_sub (fun _ h => List.mem_cons_of_mem _ (List.mem_append_right _ h)) (by decide +kernel))
set_option maxRecDepth 20000 in
theorem gX1_pin_X1_filledSlotOf : GoodIn wsX1_pin (wsV RX1 58 RX1 yX1_filledSlotOf wsX1_filledSlotOf) := goodIn_app (goodIn_of _ (by decide +kernel)) ggX1_pin_X1_filledSlotOf
theorem dX1_pin_0 : decode cX1_pin 0 = .ok (.aload_n 0, 1) := by decide +kernel
theorem dX1_pin_1 : decode cX1_pin 1 = .ok (.iload_n 1, 1) := by decide +kernel
theorem dX1_pin_2 : decode cX1_pin 2 = .ok (.invokevirtual 58, 3) := by decide +kernel
theorem dX1_pin_5 : decode cX1_pin 5 = .ok (.astore_n 3, 1) := by decide +kernel
theorem dX1_pin_6 : decode cX1_pin 6 = .ok (.aload_n 3, 1) := by decide +kernel
theorem dX1_pin_7 : decode cX1_pin 7 = .ok (.getfield 61, 3) := by decide +kernel
theorem dX1_pin_10 : decode cX1_pin 10 = .ok (.istore 4, 2) := by decide +kernel
theorem dX1_pin_12 : decode cX1_pin 12 = .ok (.aload_n 3, 1) := by decide +kernel
theorem dX1_pin_13 : decode cX1_pin 13 = .ok (.iload_n 2, 1) := by decide +kernel
theorem dX1_pin_14 : decode cX1_pin 14 = .ok (.putfield 61, 3) := by decide +kernel
theorem dX1_pin_17 : decode cX1_pin 17 = .ok (.iload 4, 2) := by decide +kernel
theorem dX1_pin_19 : decode cX1_pin 19 = .ok (.ireturn, 1) := by decide +kernel
set_option maxRecDepth 20000 in
theorem ggX1_drop_X1_filledSlotOf : GoodIn wsX1_drop wsX1_filledSlotOf := goodIn_ca (goodIn_ca (goodIn_r _ [5, 6, 7, 8, 9, 10, 4, 11, 12, 13, 14, 15, 16, 17, 18, 19, 20, 21, 22, 23, 24, 25, 26, 27, 28, 29, 30, 31, 32, 33, 34, 35, 36] (by decide +kernel) (by decide +kernel)) (goodIn_sub (fun _ h => List.mem_cons_of_mem _ (List.mem_append_left _ (List.mem_append_right _ h))) (by decide +kernel))) (goodIn_sub (fun _ h => List.mem_cons_of_mem _ (List.mem_append_right _ h)) (by decide +kernel))
set_option maxRecDepth 20000 in
theorem gX1_drop_X1_filledSlotOf : GoodIn wsX1_drop (wsV RX1 58 RX1 yX1_filledSlotOf wsX1_filledSlotOf) := goodIn_app (goodIn_of _ (by decide +kernel)) ggX1_drop_X1_filledSlotOf
theorem dX1_drop_0 : decode cX1_drop 0 = .ok (.aload_n 0, 1) := by decide +kernel
theorem dX1_drop_1 : decode cX1_drop 1 = .ok (.iload_n 1, 1) := by decide +kernel
theorem dX1_drop_2 : decode cX1_drop 2 = .ok (.invokevirtual 58, 3) := by decide +kernel
theorem dX1_drop_5 : decode cX1_drop 5 = .ok (.astore_n 2, 1) := by decide +kernel
theorem dX1_drop_6 : decode cX1_drop 6 = .ok (.aload_n 2, 1) := by decide +kernel
theorem dX1_drop_7 : decode cX1_drop 7 = .ok (.iconst 0, 1) := by decide +kernel
theorem dX1_drop_8 : decode cX1_drop 8 = .ok (.putfield 33, 3) := by decide +kernel
theorem dX1_drop_11 : decode cX1_drop 11 = .ok (.aload_n 2, 1) := by decide +kernel
theorem dX1_drop_12 : decode cX1_drop 12 = .ok (.getfield 41, 3) := by decide +kernel
theorem dX1_drop_15 : decode cX1_drop 15 = .ok (.ireturn, 1) := by decide +kernel
set_option maxRecDepth 20000 in
theorem ggX1_purge_X1_removeAllOver : GoodIn wsX1_purge wsX1_removeAllOver := goodIn_r _ [5, 6, 7, 8, 9, 10, 4, 11, 12, 13, 14, 15, 16, 17, 18, 19, 20, 21, 22, 23, 24, 25, 26, 27, 28, 29, 30, 31, 32, 33, 34] (by decide +kernel) (by decide +kernel)
set_option maxRecDepth 20000 in
theorem gX1_purge_X1_removeAllOver : GoodIn wsX1_purge (wsV RX1 64 RX1 yX1_removeAllOver wsX1_removeAllOver) := goodIn_app (goodIn_of _ (by decide +kernel)) ggX1_purge_X1_removeAllOver
theorem dX1_purge_0 : decode cX1_purge 0 = .ok (.aload_n 0, 1) := by decide +kernel
theorem dX1_purge_1 : decode cX1_purge 1 = .ok (.invokevirtual 64, 3) := by decide +kernel
theorem dX1_purge_4 : decode cX1_purge 4 = .ok (.ireturn, 1) := by decide +kernel
set_option maxRecDepth 20000 in
theorem ggX1_setCapacity_X1_requireWithin : GoodIn wsX1_setCapacity wsX1_requireWithin := goodIn_ca (goodIn_r _ [7, 8, 9] (by decide +kernel) (by decide +kernel)) (goodIn_sub (fun _ h => List.mem_cons_of_mem _ (List.mem_append_right _ h)) (by decide +kernel))
set_option maxRecDepth 20000 in
theorem gX1_setCapacity_X1_requireWithin : GoodIn wsX1_setCapacity (va_wsS RX1 29 yX1_requireWithin wsX1_requireWithin) := goodIn_app (goodIn_of _ (by decide +kernel)) ggX1_setCapacity_X1_requireWithin
set_option maxRecDepth 20000 in
theorem ggX1_setCapacity_X1_bytesThatCannotLeave : GoodIn wsX1_setCapacity wsX1_bytesThatCannotLeave := goodIn_r _ [13, 14, 15, 16, 17, 6, 18, 19, 53, 54, 55, 56, 57, 58, 59, 60, 61, 62, 63, 64, 65, 66, 67, 68, 69, 70, 71, 72, 73, 74] (by decide +kernel) (by decide +kernel)
set_option maxRecDepth 20000 in
theorem gX1_setCapacity_X1_bytesThatCannotLeave : GoodIn wsX1_setCapacity (wsV RX1 68 RX1 yX1_bytesThatCannotLeave wsX1_bytesThatCannotLeave) := goodIn_app (goodIn_of _ (by decide +kernel)) ggX1_setCapacity_X1_bytesThatCannotLeave
set_option maxRecDepth 20000 in
theorem ggX1_setCapacity_X1_used : GoodIn wsX1_setCapacity wsX1_used := goodIn_r _ [23, 14, 53, 54, 55, 56, 57, 58, 59, 60, 61, 62, 63, 64, 65, 66, 67, 68, 69, 70, 71, 72, 73, 74] (by decide +kernel) (by decide +kernel)
set_option maxRecDepth 20000 in
theorem gX1_setCapacity_X1_used : GoodIn wsX1_setCapacity (wsV RX1 78 RX1 yX1_used wsX1_used) := goodIn_app (goodIn_of _ (by decide +kernel)) ggX1_setCapacity_X1_used
set_option maxRecDepth 20000 in
theorem ggX1_setCapacity_X1_removeAllOver : GoodIn wsX1_setCapacity wsX1_removeAllOver := goodIn_r _ [27, 14, 28, 15, 16, 17, 6, 18, 19, 53, 54, 55, 56, 57, 58, 59, 60, 61, 62, 63, 64, 65, 66, 67, 68, 69, 70, 71, 72, 73, 74] (by decide +kernel) (by decide +kernel)
set_option maxRecDepth 20000 in
theorem gX1_setCapacity_X1_removeAllOver : GoodIn wsX1_setCapacity (wsV RX1 64 RX1 yX1_removeAllOver wsX1_removeAllOver) := goodIn_app (goodIn_of _ (by decide +kernel)) ggX1_setCapacity_X1_removeAllOver
set_option maxRecDepth 20000 in
theorem ggX1_setCapacity_X1_leaveDownTo : GoodIn wsX1_setCapacity wsX1_leaveDownTo := goodIn_r _ [32, 33, 34, 35, 36, 37, 38, 39, 40, 41, 6, 42, 43, 44, 45, 46, 14, 47, 48, 49, 50, 51, 52, 20, 21, 22, 23, 66, 67, 68, 69, 70, 71, 72, 73, 74, 53, 54, 55, 56, 57, 58, 59, 60, 61, 62, 63, 64, 65] (by decide +kernel) (by decide +kernel)
set_option maxRecDepth 20000 in
theorem gX1_setCapacity_X1_leaveDownTo : GoodIn wsX1_setCapacity (wsV RX1 81 RX1 yX1_leaveDownTo wsX1_leaveDownTo) := goodIn_app (goodIn_of _ (by decide +kernel)) ggX1_setCapacity_X1_leaveDownTo
theorem dX1_setCapacity_0 : decode cX1_setCapacity 0 = .ok (.iload_n 1, 1) := by decide +kernel
theorem dX1_setCapacity_1 : decode cX1_setCapacity 1 = .ok (.iconst 1, 1) := by decide +kernel
theorem dX1_setCapacity_2 : decode cX1_setCapacity 2 = .ok (.sipush 10000, 3) := by decide +kernel
theorem dX1_setCapacity_5 : decode cX1_setCapacity 5 = .ok (.invokestatic 29, 3) := by decide +kernel
theorem dX1_setCapacity_8 : decode cX1_setCapacity 8 = .ok (.aload_n 0, 1) := by decide +kernel
theorem dX1_setCapacity_9 : decode cX1_setCapacity 9 = .ok (.invokevirtual 68, 3) := by decide +kernel
theorem dX1_setCapacity_12 : decode cX1_setCapacity 12 = .ok (.iload_n 1, 1) := by decide +kernel
theorem dX1_setCapacity_13 : decode cX1_setCapacity 13 = .ok (.if_icmp .le 13, 3) := by decide +kernel
theorem dX1_setCapacity_16 : decode cX1_setCapacity 16 = .ok (.new 71, 3) := by decide +kernel
theorem dX1_setCapacity_19 : decode cX1_setCapacity 19 = .ok (.dup, 1) := by decide +kernel
theorem dX1_setCapacity_20 : decode cX1_setCapacity 20 = .ok (.ldc 73, 2) := by decide +kernel
theorem dX1_setCapacity_22 : decode cX1_setCapacity 22 = .ok (.invokespecial 75, 3) := by decide +kernel
theorem dX1_setCapacity_25 : decode cX1_setCapacity 25 = .ok (.athrow, 1) := by decide +kernel
theorem dX1_setCapacity_26 : decode cX1_setCapacity 26 = .ok (.aload_n 0, 1) := by decide +kernel
theorem dX1_setCapacity_27 : decode cX1_setCapacity 27 = .ok (.iload_n 1, 1) := by decide +kernel
theorem dX1_setCapacity_28 : decode cX1_setCapacity 28 = .ok (.putfield 15, 3) := by decide +kernel
theorem dX1_setCapacity_31 : decode cX1_setCapacity 31 = .ok (.aload_n 0, 1) := by decide +kernel
theorem dX1_setCapacity_32 : decode cX1_setCapacity 32 = .ok (.invokevirtual 78, 3) := by decide +kernel
theorem dX1_setCapacity_35 : decode cX1_setCapacity 35 = .ok (.iload_n 1, 1) := by decide +kernel
theorem dX1_setCapacity_36 : decode cX1_setCapacity 36 = .ok (.if_icmp .gt 5, 3) := by decide +kernel
theorem dX1_setCapacity_39 : decode cX1_setCapacity 39 = .ok (.iconst 0, 1) := by decide +kernel
theorem dX1_setCapacity_40 : decode cX1_setCapacity 40 = .ok (.ireturn, 1) := by decide +kernel
theorem dX1_setCapacity_41 : decode cX1_setCapacity 41 = .ok (.aload_n 0, 1) := by decide +kernel
theorem dX1_setCapacity_42 : decode cX1_setCapacity 42 = .ok (.invokevirtual 64, 3) := by decide +kernel
theorem dX1_setCapacity_45 : decode cX1_setCapacity 45 = .ok (.pop, 1) := by decide +kernel
theorem dX1_setCapacity_46 : decode cX1_setCapacity 46 = .ok (.aload_n 0, 1) := by decide +kernel
theorem dX1_setCapacity_47 : decode cX1_setCapacity 47 = .ok (.iload_n 1, 1) := by decide +kernel
theorem dX1_setCapacity_48 : decode cX1_setCapacity 48 = .ok (.invokevirtual 81, 3) := by decide +kernel
theorem dX1_setCapacity_51 : decode cX1_setCapacity 51 = .ok (.ireturn, 1) := by decide +kernel
set_option maxRecDepth 20000 in
theorem ggX1_setThreshold_X1_requireWithin : GoodIn wsX1_setThreshold wsX1_requireWithin := goodIn_ca (goodIn_r _ [5, 6, 7] (by decide +kernel) (by decide +kernel)) (goodIn_sub (fun _ h => List.mem_cons_of_mem _ (List.mem_append_right _ h)) (by decide +kernel))
set_option maxRecDepth 20000 in
theorem gX1_setThreshold_X1_requireWithin : GoodIn wsX1_setThreshold (va_wsS RX1 29 yX1_requireWithin wsX1_requireWithin) := goodIn_app (goodIn_of _ (by decide +kernel)) ggX1_setThreshold_X1_requireWithin
theorem dX1_setThreshold_0 : decode cX1_setThreshold 0 = .ok (.iload_n 1, 1) := by decide +kernel
theorem dX1_setThreshold_1 : decode cX1_setThreshold 1 = .ok (.iconst 1, 1) := by decide +kernel
theorem dX1_setThreshold_2 : decode cX1_setThreshold 2 = .ok (.sipush 1000, 3) := by decide +kernel
theorem dX1_setThreshold_5 : decode cX1_setThreshold 5 = .ok (.invokestatic 29, 3) := by decide +kernel
theorem dX1_setThreshold_8 : decode cX1_setThreshold 8 = .ok (.aload_n 0, 1) := by decide +kernel
theorem dX1_setThreshold_9 : decode cX1_setThreshold 9 = .ok (.getfield 19, 3) := by decide +kernel
theorem dX1_setThreshold_12 : decode cX1_setThreshold 12 = .ok (.istore_n 2, 1) := by decide +kernel
theorem dX1_setThreshold_13 : decode cX1_setThreshold 13 = .ok (.aload_n 0, 1) := by decide +kernel
theorem dX1_setThreshold_14 : decode cX1_setThreshold 14 = .ok (.iload_n 1, 1) := by decide +kernel
theorem dX1_setThreshold_15 : decode cX1_setThreshold 15 = .ok (.putfield 19, 3) := by decide +kernel
theorem dX1_setThreshold_18 : decode cX1_setThreshold 18 = .ok (.iload_n 2, 1) := by decide +kernel
theorem dX1_setThreshold_19 : decode cX1_setThreshold 19 = .ok (.ireturn, 1) := by decide +kernel
set_option maxRecDepth 20000 in
theorem ggX1_has_X1_slotOf : GoodIn wsX1_has wsX1_slotOf := goodIn_ca (goodIn_r _ [5, 6, 7, 8, 18, 19, 20, 21, 22, 23, 24, 25, 26, 27, 28, 29, 30] (by decide +kernel) (by decide +kernel)) (goodIn_sub (fun _ h => List.mem_cons_of_mem _ (List.mem_append_right _ h)) (by decide +kernel))
set_option maxRecDepth 20000 in
theorem gX1_has_X1_slotOf : GoodIn wsX1_has (wsV RX1 25 RX1 yX1_slotOf wsX1_slotOf) := goodIn_app (goodIn_of _ (by decide +kernel)) ggX1_has_X1_slotOf
theorem dX1_has_0 : decode cX1_has 0 = .ok (.aload_n 0, 1) := by decide +kernel
theorem dX1_has_1 : decode cX1_has 1 = .ok (.iload_n 1, 1) := by decide +kernel
theorem dX1_has_2 : decode cX1_has 2 = .ok (.invokevirtual 25, 3) := by decide +kernel
theorem dX1_has_5 : decode cX1_has 5 = .ok (.getfield 33, 3) := by decide +kernel
theorem dX1_has_8 : decode cX1_has 8 = .ok (.ireturn, 1) := by decide +kernel
set_option maxRecDepth 20000 in
theorem ggX1_isOver_X1_slotOf : GoodIn wsX1_isOver wsX1_slotOf := goodIn_ca (goodIn_r _ [5, 6, 7, 8, 23, 24, 25, 26, 27, 28, 29, 30, 31, 32, 33, 34, 35] (by decide +kernel) (by decide +kernel)) (goodIn_sub (fun _ h => List.mem_cons_of_mem _ (List.mem_append_right _ h)) (by decide +kernel))
set_option maxRecDepth 20000 in
theorem gX1_isOver_X1_slotOf : GoodIn wsX1_isOver (wsV RX1 25 RX1 yX1_slotOf wsX1_slotOf) := goodIn_app (goodIn_of _ (by decide +kernel)) ggX1_isOver_X1_slotOf
set_option maxRecDepth 20000 in
theorem ggX1_isOver_X1_hasEnded : GoodIn wsX1_isOver wsX1_hasEnded := goodIn_r _ [12, 13, 23, 24, 25, 26, 27, 28, 29, 30, 31, 32, 33, 34, 35, 14, 15, 16, 17, 18, 19, 20, 21, 22] (by decide +kernel) (by decide +kernel)
set_option maxRecDepth 20000 in
theorem gX1_isOver_X1_hasEnded : GoodIn wsX1_isOver (wsV RX1 37 RX1 yX1_hasEnded wsX1_hasEnded) := goodIn_app (goodIn_of _ (by decide +kernel)) ggX1_isOver_X1_hasEnded
theorem dX1_isOver_0 : decode cX1_isOver 0 = .ok (.aload_n 0, 1) := by decide +kernel
theorem dX1_isOver_1 : decode cX1_isOver 1 = .ok (.iload_n 1, 1) := by decide +kernel
theorem dX1_isOver_2 : decode cX1_isOver 2 = .ok (.invokevirtual 25, 3) := by decide +kernel
theorem dX1_isOver_5 : decode cX1_isOver 5 = .ok (.astore_n 2, 1) := by decide +kernel
theorem dX1_isOver_6 : decode cX1_isOver 6 = .ok (.aload_n 2, 1) := by decide +kernel
theorem dX1_isOver_7 : decode cX1_isOver 7 = .ok (.getfield 33, 3) := by decide +kernel
theorem dX1_isOver_10 : decode cX1_isOver 10 = .ok (.ifCond .eq 15, 3) := by decide +kernel
theorem dX1_isOver_13 : decode cX1_isOver 13 = .ok (.aload_n 0, 1) := by decide +kernel
theorem dX1_isOver_14 : decode cX1_isOver 14 = .ok (.aload_n 2, 1) := by decide +kernel
theorem dX1_isOver_15 : decode cX1_isOver 15 = .ok (.invokevirtual 37, 3) := by decide +kernel
theorem dX1_isOver_18 : decode cX1_isOver 18 = .ok (.ifCond .eq 7, 3) := by decide +kernel
theorem dX1_isOver_21 : decode cX1_isOver 21 = .ok (.iconst 1, 1) := by decide +kernel
theorem dX1_isOver_22 : decode cX1_isOver 22 = .ok (.goto 4, 3) := by decide +kernel
theorem dX1_isOver_25 : decode cX1_isOver 25 = .ok (.iconst 0, 1) := by decide +kernel
theorem dX1_isOver_26 : decode cX1_isOver 26 = .ok (.ireturn, 1) := by decide +kernel
set_option maxRecDepth 20000 in
theorem ggX1_sizeOf_X1_slotOf : GoodIn wsX1_sizeOf wsX1_slotOf := goodIn_ca (goodIn_r _ [5, 6, 7, 8, 18, 19, 20, 21, 22, 23, 24, 25, 26, 27, 28, 29, 30] (by decide +kernel) (by decide +kernel)) (goodIn_sub (fun _ h => List.mem_cons_of_mem _ (List.mem_append_right _ h)) (by decide +kernel))
set_option maxRecDepth 20000 in
theorem gX1_sizeOf_X1_slotOf : GoodIn wsX1_sizeOf (wsV RX1 25 RX1 yX1_slotOf wsX1_slotOf) := goodIn_app (goodIn_of _ (by decide +kernel)) ggX1_sizeOf_X1_slotOf
theorem dX1_sizeOf_0 : decode cX1_sizeOf 0 = .ok (.aload_n 0, 1) := by decide +kernel
theorem dX1_sizeOf_1 : decode cX1_sizeOf 1 = .ok (.iload_n 1, 1) := by decide +kernel
theorem dX1_sizeOf_2 : decode cX1_sizeOf 2 = .ok (.invokevirtual 25, 3) := by decide +kernel
theorem dX1_sizeOf_5 : decode cX1_sizeOf 5 = .ok (.astore_n 2, 1) := by decide +kernel
theorem dX1_sizeOf_6 : decode cX1_sizeOf 6 = .ok (.aload_n 2, 1) := by decide +kernel
theorem dX1_sizeOf_7 : decode cX1_sizeOf 7 = .ok (.getfield 33, 3) := by decide +kernel
theorem dX1_sizeOf_10 : decode cX1_sizeOf 10 = .ok (.ifCond .eq 10, 3) := by decide +kernel
theorem dX1_sizeOf_13 : decode cX1_sizeOf 13 = .ok (.aload_n 2, 1) := by decide +kernel
theorem dX1_sizeOf_14 : decode cX1_sizeOf 14 = .ok (.getfield 41, 3) := by decide +kernel
theorem dX1_sizeOf_17 : decode cX1_sizeOf 17 = .ok (.goto 4, 3) := by decide +kernel
theorem dX1_sizeOf_20 : decode cX1_sizeOf 20 = .ok (.iconst 0, 1) := by decide +kernel
theorem dX1_sizeOf_21 : decode cX1_sizeOf 21 = .ok (.ireturn, 1) := by decide +kernel
set_option maxRecDepth 20000 in
theorem ggX1_frequencyOf_X1_slotOf : GoodIn wsX1_frequencyOf wsX1_slotOf := goodIn_ca (goodIn_r _ [5, 6, 7, 8, 18, 19, 20, 21, 22, 23, 24, 25, 26, 27, 28, 29, 30] (by decide +kernel) (by decide +kernel)) (goodIn_sub (fun _ h => List.mem_cons_of_mem _ (List.mem_append_right _ h)) (by decide +kernel))
set_option maxRecDepth 20000 in
theorem gX1_frequencyOf_X1_slotOf : GoodIn wsX1_frequencyOf (wsV RX1 25 RX1 yX1_slotOf wsX1_slotOf) := goodIn_app (goodIn_of _ (by decide +kernel)) ggX1_frequencyOf_X1_slotOf
theorem dX1_frequencyOf_0 : decode cX1_frequencyOf 0 = .ok (.aload_n 0, 1) := by decide +kernel
theorem dX1_frequencyOf_1 : decode cX1_frequencyOf 1 = .ok (.iload_n 1, 1) := by decide +kernel
theorem dX1_frequencyOf_2 : decode cX1_frequencyOf 2 = .ok (.invokevirtual 25, 3) := by decide +kernel
theorem dX1_frequencyOf_5 : decode cX1_frequencyOf 5 = .ok (.astore_n 2, 1) := by decide +kernel
theorem dX1_frequencyOf_6 : decode cX1_frequencyOf 6 = .ok (.aload_n 2, 1) := by decide +kernel
theorem dX1_frequencyOf_7 : decode cX1_frequencyOf 7 = .ok (.getfield 33, 3) := by decide +kernel
theorem dX1_frequencyOf_10 : decode cX1_frequencyOf 10 = .ok (.ifCond .eq 10, 3) := by decide +kernel
theorem dX1_frequencyOf_13 : decode cX1_frequencyOf 13 = .ok (.aload_n 2, 1) := by decide +kernel
theorem dX1_frequencyOf_14 : decode cX1_frequencyOf 14 = .ok (.getfield 85, 3) := by decide +kernel
theorem dX1_frequencyOf_17 : decode cX1_frequencyOf 17 = .ok (.goto 4, 3) := by decide +kernel
theorem dX1_frequencyOf_20 : decode cX1_frequencyOf 20 = .ok (.iconst 0, 1) := by decide +kernel
theorem dX1_frequencyOf_21 : decode cX1_frequencyOf 21 = .ok (.ireturn, 1) := by decide +kernel
set_option maxRecDepth 20000 in
theorem ggX1_worthOf_X1_slotOf : GoodIn wsX1_worthOf wsX1_slotOf := goodIn_ca (goodIn_r _ [6, 7, 8, 9, 19, 20, 21, 22, 23, 24, 25, 26, 27, 28, 29, 30, 31] (by decide +kernel) (by decide +kernel)) (goodIn_sub (fun _ h => List.mem_cons_of_mem _ (List.mem_append_right _ h)) (by decide +kernel))
set_option maxRecDepth 20000 in
theorem gX1_worthOf_X1_slotOf : GoodIn wsX1_worthOf (wsV RX1 25 RX1 yX1_slotOf wsX1_slotOf) := goodIn_app (goodIn_of _ (by decide +kernel)) ggX1_worthOf_X1_slotOf
theorem dX1_worthOf_0 : decode cX1_worthOf 0 = .ok (.aload_n 0, 1) := by decide +kernel
theorem dX1_worthOf_1 : decode cX1_worthOf 1 = .ok (.iload_n 1, 1) := by decide +kernel
theorem dX1_worthOf_2 : decode cX1_worthOf 2 = .ok (.invokevirtual 25, 3) := by decide +kernel
theorem dX1_worthOf_5 : decode cX1_worthOf 5 = .ok (.astore_n 2, 1) := by decide +kernel
theorem dX1_worthOf_6 : decode cX1_worthOf 6 = .ok (.aload_n 2, 1) := by decide +kernel
theorem dX1_worthOf_7 : decode cX1_worthOf 7 = .ok (.getfield 33, 3) := by decide +kernel
theorem dX1_worthOf_10 : decode cX1_worthOf 10 = .ok (.ifCond .eq 10, 3) := by decide +kernel
theorem dX1_worthOf_13 : decode cX1_worthOf 13 = .ok (.aload_n 2, 1) := by decide +kernel
theorem dX1_worthOf_14 : decode cX1_worthOf 14 = .ok (.getfield 88, 3) := by decide +kernel
theorem dX1_worthOf_17 : decode cX1_worthOf 17 = .ok (.goto 6, 3) := by decide +kernel
theorem dX1_worthOf_20 : decode cX1_worthOf 20 = .ok (.ldc2_w 92, 3) := by decide +kernel
theorem dX1_worthOf_23 : decode cX1_worthOf 23 = .ok (.lreturn, 1) := by decide +kernel
set_option maxRecDepth 20000 in
theorem ggX1_endOf_X1_slotOf : GoodIn wsX1_endOf wsX1_slotOf := goodIn_ca (goodIn_r _ [5, 6, 7, 8, 18, 19, 20, 21, 22, 23, 24, 25, 26, 27, 28, 29, 30] (by decide +kernel) (by decide +kernel)) (goodIn_sub (fun _ h => List.mem_cons_of_mem _ (List.mem_append_right _ h)) (by decide +kernel))
set_option maxRecDepth 20000 in
theorem gX1_endOf_X1_slotOf : GoodIn wsX1_endOf (wsV RX1 25 RX1 yX1_slotOf wsX1_slotOf) := goodIn_app (goodIn_of _ (by decide +kernel)) ggX1_endOf_X1_slotOf
theorem dX1_endOf_0 : decode cX1_endOf 0 = .ok (.aload_n 0, 1) := by decide +kernel
theorem dX1_endOf_1 : decode cX1_endOf 1 = .ok (.iload_n 1, 1) := by decide +kernel
theorem dX1_endOf_2 : decode cX1_endOf 2 = .ok (.invokevirtual 25, 3) := by decide +kernel
theorem dX1_endOf_5 : decode cX1_endOf 5 = .ok (.astore_n 2, 1) := by decide +kernel
theorem dX1_endOf_6 : decode cX1_endOf 6 = .ok (.aload_n 2, 1) := by decide +kernel
theorem dX1_endOf_7 : decode cX1_endOf 7 = .ok (.getfield 33, 3) := by decide +kernel
theorem dX1_endOf_10 : decode cX1_endOf 10 = .ok (.ifCond .eq 10, 3) := by decide +kernel
theorem dX1_endOf_13 : decode cX1_endOf 13 = .ok (.aload_n 2, 1) := by decide +kernel
theorem dX1_endOf_14 : decode cX1_endOf 14 = .ok (.getfield 94, 3) := by decide +kernel
theorem dX1_endOf_17 : decode cX1_endOf 17 = .ok (.goto 4, 3) := by decide +kernel
theorem dX1_endOf_20 : decode cX1_endOf 20 = .ok (.iconst (-1), 1) := by decide +kernel
theorem dX1_endOf_21 : decode cX1_endOf 21 = .ok (.ireturn, 1) := by decide +kernel
set_option maxRecDepth 20000 in
theorem ggX1_leaving_X1_firstInOrder : GoodIn wsX1_leaving wsX1_firstInOrder := goodIn_r _ [7, 8, 9, 10, 6, 11, 12, 13, 14, 15, 16, 17, 18, 28, 29, 30, 31, 32, 33, 34, 35, 36, 37, 38, 39, 40, 19, 20, 21, 22, 23, 24, 25, 26, 27] (by decide +kernel) (by decide +kernel)
set_option maxRecDepth 20000 in
theorem gX1_leaving_X1_firstInOrder : GoodIn wsX1_leaving (wsV RX1 97 RX1 yX1_firstInOrder wsX1_firstInOrder) := goodIn_app (goodIn_of _ (by decide +kernel)) ggX1_leaving_X1_firstInOrder
set_option maxRecDepth 20000 in
theorem ggX1_leaving_X1_nextInOrder : GoodIn wsX1_leaving wsX1_nextInOrder := goodIn_r _ [11, 12, 13, 14, 6, 15, 16, 17, 18, 28, 29, 30, 31, 32, 33, 34, 35, 36, 37, 38, 39, 40, 19, 20, 21, 22, 23, 24, 25, 26, 27] (by decide +kernel) (by decide +kernel)
set_option maxRecDepth 20000 in
theorem gX1_leaving_X1_nextInOrder : GoodIn wsX1_leaving (wsV RX1 101 RX1 yX1_nextInOrder wsX1_nextInOrder) := goodIn_app (goodIn_of _ (by decide +kernel)) ggX1_leaving_X1_nextInOrder
theorem dX1_leaving_0 : decode cX1_leaving 0 = .ok (.iload_n 1, 1) := by decide +kernel
theorem dX1_leaving_1 : decode cX1_leaving 1 = .ok (.ifCond .lt 9, 3) := by decide +kernel
theorem dX1_leaving_4 : decode cX1_leaving 4 = .ok (.iload_n 1, 1) := by decide +kernel
theorem dX1_leaving_5 : decode cX1_leaving 5 = .ok (.bipush 32, 2) := by decide +kernel
theorem dX1_leaving_7 : decode cX1_leaving 7 = .ok (.if_icmp .lt 7, 3) := by decide +kernel
theorem dX1_leaving_10 : decode cX1_leaving 10 = .ok (.aconst_null, 1) := by decide +kernel
theorem dX1_leaving_11 : decode cX1_leaving 11 = .ok (.goto 7, 3) := by decide +kernel
theorem dX1_leaving_14 : decode cX1_leaving 14 = .ok (.aload_n 0, 1) := by decide +kernel
theorem dX1_leaving_15 : decode cX1_leaving 15 = .ok (.invokevirtual 97, 3) := by decide +kernel
theorem dX1_leaving_18 : decode cX1_leaving 18 = .ok (.astore_n 2, 1) := by decide +kernel
theorem dX1_leaving_19 : decode cX1_leaving 19 = .ok (.iconst 0, 1) := by decide +kernel
theorem dX1_leaving_20 : decode cX1_leaving 20 = .ok (.istore_n 3, 1) := by decide +kernel
theorem dX1_leaving_21 : decode cX1_leaving 21 = .ok (.iload_n 3, 1) := by decide +kernel
theorem dX1_leaving_22 : decode cX1_leaving 22 = .ok (.iload_n 1, 1) := by decide +kernel
theorem dX1_leaving_23 : decode cX1_leaving 23 = .ok (.if_icmp .ge 19, 3) := by decide +kernel
theorem dX1_leaving_26 : decode cX1_leaving 26 = .ok (.aload_n 2, 1) := by decide +kernel
theorem dX1_leaving_27 : decode cX1_leaving 27 = .ok (.ifnull 15, 3) := by decide +kernel
theorem dX1_leaving_30 : decode cX1_leaving 30 = .ok (.aload_n 0, 1) := by decide +kernel
theorem dX1_leaving_31 : decode cX1_leaving 31 = .ok (.aload_n 2, 1) := by decide +kernel
theorem dX1_leaving_32 : decode cX1_leaving 32 = .ok (.invokevirtual 101, 3) := by decide +kernel
theorem dX1_leaving_35 : decode cX1_leaving 35 = .ok (.astore_n 2, 1) := by decide +kernel
theorem dX1_leaving_36 : decode cX1_leaving 36 = .ok (.iinc 3 1, 3) := by decide +kernel
theorem dX1_leaving_39 : decode cX1_leaving 39 = .ok (.goto (-18), 3) := by decide +kernel
theorem dX1_leaving_42 : decode cX1_leaving 42 = .ok (.aload_n 2, 1) := by decide +kernel
theorem dX1_leaving_43 : decode cX1_leaving 43 = .ok (.ifnonnull 13, 3) := by decide +kernel
theorem dX1_leaving_46 : decode cX1_leaving 46 = .ok (.new 105, 3) := by decide +kernel
theorem dX1_leaving_49 : decode cX1_leaving 49 = .ok (.dup, 1) := by decide +kernel
theorem dX1_leaving_50 : decode cX1_leaving 50 = .ok (.ldc 107, 2) := by decide +kernel
theorem dX1_leaving_52 : decode cX1_leaving 52 = .ok (.invokespecial 109, 3) := by decide +kernel
theorem dX1_leaving_55 : decode cX1_leaving 55 = .ok (.athrow, 1) := by decide +kernel
theorem dX1_leaving_56 : decode cX1_leaving 56 = .ok (.aload_n 2, 1) := by decide +kernel
theorem dX1_leaving_57 : decode cX1_leaving 57 = .ok (.getfield 110, 3) := by decide +kernel
theorem dX1_leaving_60 : decode cX1_leaving 60 = .ok (.ireturn, 1) := by decide +kernel
set_option maxRecDepth 20000 in
theorem ggX1_placeOf_X1_slotOf : GoodIn wsX1_placeOf wsX1_slotOf := goodIn_ca (goodIn_r _ [6, 7, 8, 1, 15, 16, 17, 18, 19, 20, 21, 22, 23, 24, 25, 26, 27] (by decide +kernel) (by decide +kernel)) (goodIn_sub (fun _ h => List.mem_cons_of_mem _ (List.mem_append_right _ h)) (by decide +kernel))
set_option maxRecDepth 20000 in
theorem gX1_placeOf_X1_slotOf : GoodIn wsX1_placeOf (wsV RX1 25 RX1 yX1_slotOf wsX1_slotOf) := goodIn_app (goodIn_of _ (by decide +kernel)) ggX1_placeOf_X1_slotOf
set_option maxRecDepth 20000 in
theorem ggX1_placeOf_X1_isInOrder : GoodIn wsX1_placeOf wsX1_isInOrder := goodIn_r _ [11, 28, 29, 30, 31, 32, 33, 34, 35, 36] (by decide +kernel) (by decide +kernel)
set_option maxRecDepth 20000 in
theorem gX1_placeOf_X1_isInOrder : GoodIn wsX1_placeOf (va_wsS RX1 113 yX1_isInOrder wsX1_isInOrder) := goodIn_app (goodIn_of _ (by decide +kernel)) ggX1_placeOf_X1_isInOrder
set_option maxRecDepth 20000 in
theorem ggX1_placeOf_X1_leavesBefore : GoodIn wsX1_placeOf wsX1_leavesBefore := goodIn_r _ [14, 28, 29, 30, 31, 32, 33, 34, 35, 36] (by decide +kernel) (by decide +kernel)
set_option maxRecDepth 20000 in
theorem gX1_placeOf_X1_leavesBefore : GoodIn wsX1_placeOf (va_wsS RX1 116 yX1_leavesBefore wsX1_leavesBefore) := goodIn_app (goodIn_of _ (by decide +kernel)) ggX1_placeOf_X1_leavesBefore
theorem dX1_placeOf_0 : decode cX1_placeOf 0 = .ok (.aload_n 0, 1) := by decide +kernel
theorem dX1_placeOf_1 : decode cX1_placeOf 1 = .ok (.iload_n 1, 1) := by decide +kernel
theorem dX1_placeOf_2 : decode cX1_placeOf 2 = .ok (.invokevirtual 25, 3) := by decide +kernel
theorem dX1_placeOf_5 : decode cX1_placeOf 5 = .ok (.astore_n 2, 1) := by decide +kernel
theorem dX1_placeOf_6 : decode cX1_placeOf 6 = .ok (.aload_n 2, 1) := by decide +kernel
theorem dX1_placeOf_7 : decode cX1_placeOf 7 = .ok (.invokestatic 113, 3) := by decide +kernel
theorem dX1_placeOf_10 : decode cX1_placeOf 10 = .ok (.ifCond .ne 5, 3) := by decide +kernel
theorem dX1_placeOf_13 : decode cX1_placeOf 13 = .ok (.iconst (-1), 1) := by decide +kernel
theorem dX1_placeOf_14 : decode cX1_placeOf 14 = .ok (.ireturn, 1) := by decide +kernel
theorem dX1_placeOf_15 : decode cX1_placeOf 15 = .ok (.iconst 0, 1) := by decide +kernel
theorem dX1_placeOf_16 : decode cX1_placeOf 16 = .ok (.istore_n 3, 1) := by decide +kernel
theorem dX1_placeOf_17 : decode cX1_placeOf 17 = .ok (.aload_n 0, 1) := by decide +kernel
theorem dX1_placeOf_18 : decode cX1_placeOf 18 = .ok (.getfield 11, 3) := by decide +kernel
theorem dX1_placeOf_21 : decode cX1_placeOf 21 = .ok (.astore 4, 2) := by decide +kernel
theorem dX1_placeOf_23 : decode cX1_placeOf 23 = .ok (.aload 4, 2) := by decide +kernel
theorem dX1_placeOf_25 : decode cX1_placeOf 25 = .ok (.arraylength, 1) := by decide +kernel
theorem dX1_placeOf_26 : decode cX1_placeOf 26 = .ok (.istore 5, 2) := by decide +kernel
theorem dX1_placeOf_28 : decode cX1_placeOf 28 = .ok (.iconst 0, 1) := by decide +kernel
theorem dX1_placeOf_29 : decode cX1_placeOf 29 = .ok (.istore 6, 2) := by decide +kernel
theorem dX1_placeOf_31 : decode cX1_placeOf 31 = .ok (.iload 6, 2) := by decide +kernel
theorem dX1_placeOf_33 : decode cX1_placeOf 33 = .ok (.iload 5, 2) := by decide +kernel
theorem dX1_placeOf_35 : decode cX1_placeOf 35 = .ok (.if_icmp .ge 36, 3) := by decide +kernel
theorem dX1_placeOf_38 : decode cX1_placeOf 38 = .ok (.aload 4, 2) := by decide +kernel
theorem dX1_placeOf_40 : decode cX1_placeOf 40 = .ok (.iload 6, 2) := by decide +kernel
theorem dX1_placeOf_42 : decode cX1_placeOf 42 = .ok (.aaload, 1) := by decide +kernel
theorem dX1_placeOf_43 : decode cX1_placeOf 43 = .ok (.astore 7, 2) := by decide +kernel
theorem dX1_placeOf_45 : decode cX1_placeOf 45 = .ok (.aload 7, 2) := by decide +kernel
theorem dX1_placeOf_47 : decode cX1_placeOf 47 = .ok (.invokestatic 113, 3) := by decide +kernel
theorem dX1_placeOf_50 : decode cX1_placeOf 50 = .ok (.ifCond .eq 15, 3) := by decide +kernel
theorem dX1_placeOf_53 : decode cX1_placeOf 53 = .ok (.aload 7, 2) := by decide +kernel
theorem dX1_placeOf_55 : decode cX1_placeOf 55 = .ok (.aload_n 2, 1) := by decide +kernel
theorem dX1_placeOf_56 : decode cX1_placeOf 56 = .ok (.invokestatic 116, 3) := by decide +kernel
theorem dX1_placeOf_59 : decode cX1_placeOf 59 = .ok (.ifCond .eq 6, 3) := by decide +kernel
theorem dX1_placeOf_62 : decode cX1_placeOf 62 = .ok (.iinc 3 1, 3) := by decide +kernel
theorem dX1_placeOf_65 : decode cX1_placeOf 65 = .ok (.iinc 6 1, 3) := by decide +kernel
theorem dX1_placeOf_68 : decode cX1_placeOf 68 = .ok (.goto (-37), 3) := by decide +kernel
theorem dX1_placeOf_71 : decode cX1_placeOf 71 = .ok (.iload_n 3, 1) := by decide +kernel
theorem dX1_placeOf_72 : decode cX1_placeOf 72 = .ok (.ireturn, 1) := by decide +kernel
theorem dX1_endsFirst_0 : decode cX1_endsFirst 0 = .ok (.aconst_null, 1) := by decide +kernel
theorem dX1_endsFirst_1 : decode cX1_endsFirst 1 = .ok (.astore_n 1, 1) := by decide +kernel
theorem dX1_endsFirst_2 : decode cX1_endsFirst 2 = .ok (.aload_n 0, 1) := by decide +kernel
theorem dX1_endsFirst_3 : decode cX1_endsFirst 3 = .ok (.getfield 11, 3) := by decide +kernel
theorem dX1_endsFirst_6 : decode cX1_endsFirst 6 = .ok (.astore_n 2, 1) := by decide +kernel
theorem dX1_endsFirst_7 : decode cX1_endsFirst 7 = .ok (.aload_n 2, 1) := by decide +kernel
theorem dX1_endsFirst_8 : decode cX1_endsFirst 8 = .ok (.arraylength, 1) := by decide +kernel
theorem dX1_endsFirst_9 : decode cX1_endsFirst 9 = .ok (.istore_n 3, 1) := by decide +kernel
theorem dX1_endsFirst_10 : decode cX1_endsFirst 10 = .ok (.iconst 0, 1) := by decide +kernel
theorem dX1_endsFirst_11 : decode cX1_endsFirst 11 = .ok (.istore 4, 2) := by decide +kernel
theorem dX1_endsFirst_13 : decode cX1_endsFirst 13 = .ok (.iload 4, 2) := by decide +kernel
theorem dX1_endsFirst_15 : decode cX1_endsFirst 15 = .ok (.iload_n 3, 1) := by decide +kernel
theorem dX1_endsFirst_16 : decode cX1_endsFirst 16 = .ok (.if_icmp .ge 42, 3) := by decide +kernel
theorem dX1_endsFirst_19 : decode cX1_endsFirst 19 = .ok (.aload_n 2, 1) := by decide +kernel
theorem dX1_endsFirst_20 : decode cX1_endsFirst 20 = .ok (.iload 4, 2) := by decide +kernel
theorem dX1_endsFirst_22 : decode cX1_endsFirst 22 = .ok (.aaload, 1) := by decide +kernel
theorem dX1_endsFirst_23 : decode cX1_endsFirst 23 = .ok (.astore 5, 2) := by decide +kernel
theorem dX1_endsFirst_25 : decode cX1_endsFirst 25 = .ok (.aload 5, 2) := by decide +kernel
theorem dX1_endsFirst_27 : decode cX1_endsFirst 27 = .ok (.getfield 33, 3) := by decide +kernel
theorem dX1_endsFirst_30 : decode cX1_endsFirst 30 = .ok (.ifCond .eq 22, 3) := by decide +kernel
theorem dX1_endsFirst_33 : decode cX1_endsFirst 33 = .ok (.aload_n 1, 1) := by decide +kernel
theorem dX1_endsFirst_34 : decode cX1_endsFirst 34 = .ok (.ifnull 15, 3) := by decide +kernel
theorem dX1_endsFirst_37 : decode cX1_endsFirst 37 = .ok (.aload 5, 2) := by decide +kernel
theorem dX1_endsFirst_39 : decode cX1_endsFirst 39 = .ok (.getfield 94, 3) := by decide +kernel
theorem dX1_endsFirst_42 : decode cX1_endsFirst 42 = .ok (.aload_n 1, 1) := by decide +kernel
theorem dX1_endsFirst_43 : decode cX1_endsFirst 43 = .ok (.getfield 94, 3) := by decide +kernel
theorem dX1_endsFirst_46 : decode cX1_endsFirst 46 = .ok (.if_icmp .ge 6, 3) := by decide +kernel
theorem dX1_endsFirst_49 : decode cX1_endsFirst 49 = .ok (.aload 5, 2) := by decide +kernel
theorem dX1_endsFirst_51 : decode cX1_endsFirst 51 = .ok (.astore_n 1, 1) := by decide +kernel
theorem dX1_endsFirst_52 : decode cX1_endsFirst 52 = .ok (.iinc 4 1, 3) := by decide +kernel
theorem dX1_endsFirst_55 : decode cX1_endsFirst 55 = .ok (.goto (-42), 3) := by decide +kernel
theorem dX1_endsFirst_58 : decode cX1_endsFirst 58 = .ok (.aload_n 1, 1) := by decide +kernel
theorem dX1_endsFirst_59 : decode cX1_endsFirst 59 = .ok (.ifnonnull 7, 3) := by decide +kernel
theorem dX1_endsFirst_62 : decode cX1_endsFirst 62 = .ok (.iconst (-1), 1) := by decide +kernel
theorem dX1_endsFirst_63 : decode cX1_endsFirst 63 = .ok (.goto 7, 3) := by decide +kernel
theorem dX1_endsFirst_66 : decode cX1_endsFirst 66 = .ok (.aload_n 1, 1) := by decide +kernel
theorem dX1_endsFirst_67 : decode cX1_endsFirst 67 = .ok (.getfield 110, 3) := by decide +kernel
theorem dX1_endsFirst_70 : decode cX1_endsFirst 70 = .ok (.ireturn, 1) := by decide +kernel
set_option maxRecDepth 20000 in
theorem ggX1_wouldLeave_X1_requireWithin : GoodIn wsX1_wouldLeave wsX1_requireWithin := goodIn_ca (goodIn_r _ [5, 6, 7] (by decide +kernel) (by decide +kernel)) (goodIn_sub (fun _ h => List.mem_cons_of_mem _ (List.mem_append_right _ h)) (by decide +kernel))
set_option maxRecDepth 20000 in
theorem gX1_wouldLeave_X1_requireWithin : GoodIn wsX1_wouldLeave (va_wsS RX1 29 yX1_requireWithin wsX1_requireWithin) := goodIn_app (goodIn_of _ (by decide +kernel)) ggX1_wouldLeave_X1_requireWithin
set_option maxRecDepth 20000 in
theorem ggX1_wouldLeave_X1_bytesThatCannotLeave : GoodIn wsX1_wouldLeave wsX1_bytesThatCannotLeave := goodIn_r _ [11, 12, 13, 14, 15, 4, 16, 17, 40, 41, 42, 43, 44, 45, 46, 47, 48, 49, 50, 51, 52, 53, 54, 55, 56, 57, 58, 59, 60, 61] (by decide +kernel) (by decide +kernel)
set_option maxRecDepth 20000 in
theorem gX1_wouldLeave_X1_bytesThatCannotLeave : GoodIn wsX1_wouldLeave (wsV RX1 68 RX1 yX1_bytesThatCannotLeave wsX1_bytesThatCannotLeave) := goodIn_app (goodIn_of _ (by decide +kernel)) ggX1_wouldLeave_X1_bytesThatCannotLeave
set_option maxRecDepth 20000 in
theorem ggX1_wouldLeave_X1_countThatWouldLeave : GoodIn wsX1_wouldLeave wsX1_countThatWouldLeave := goodIn_r _ [21, 1, 22, 23, 24, 4, 25, 12, 13, 14, 15, 16, 17, 26, 27, 28, 29, 30, 31, 32, 33, 34, 35, 36, 37, 38, 39, 40, 41, 42, 43, 44, 45, 46, 47, 48, 49, 50, 51, 52, 53, 54, 55, 56, 57, 58, 59, 60, 61] (by decide +kernel) (by decide +kernel)
set_option maxRecDepth 20000 in
theorem gX1_wouldLeave_X1_countThatWouldLeave : GoodIn wsX1_wouldLeave (wsV RX1 120 RX1 yX1_countThatWouldLeave wsX1_countThatWouldLeave) := goodIn_app (goodIn_of _ (by decide +kernel)) ggX1_wouldLeave_X1_countThatWouldLeave
theorem dX1_wouldLeave_0 : decode cX1_wouldLeave 0 = .ok (.iload_n 1, 1) := by decide +kernel
theorem dX1_wouldLeave_1 : decode cX1_wouldLeave 1 = .ok (.iconst 1, 1) := by decide +kernel
theorem dX1_wouldLeave_2 : decode cX1_wouldLeave 2 = .ok (.sipush 1000, 3) := by decide +kernel
theorem dX1_wouldLeave_5 : decode cX1_wouldLeave 5 = .ok (.invokestatic 29, 3) := by decide +kernel
theorem dX1_wouldLeave_8 : decode cX1_wouldLeave 8 = .ok (.iload_n 1, 1) := by decide +kernel
theorem dX1_wouldLeave_9 : decode cX1_wouldLeave 9 = .ok (.aload_n 0, 1) := by decide +kernel
theorem dX1_wouldLeave_10 : decode cX1_wouldLeave 10 = .ok (.getfield 15, 3) := by decide +kernel
theorem dX1_wouldLeave_13 : decode cX1_wouldLeave 13 = .ok (.aload_n 0, 1) := by decide +kernel
theorem dX1_wouldLeave_14 : decode cX1_wouldLeave 14 = .ok (.invokevirtual 68, 3) := by decide +kernel
theorem dX1_wouldLeave_17 : decode cX1_wouldLeave 17 = .ok (.isub, 1) := by decide +kernel
theorem dX1_wouldLeave_18 : decode cX1_wouldLeave 18 = .ok (.if_icmp .le 7, 3) := by decide +kernel
theorem dX1_wouldLeave_21 : decode cX1_wouldLeave 21 = .ok (.iconst (-1), 1) := by decide +kernel
theorem dX1_wouldLeave_22 : decode cX1_wouldLeave 22 = .ok (.goto 8, 3) := by decide +kernel
theorem dX1_wouldLeave_25 : decode cX1_wouldLeave 25 = .ok (.aload_n 0, 1) := by decide +kernel
theorem dX1_wouldLeave_26 : decode cX1_wouldLeave 26 = .ok (.iload_n 1, 1) := by decide +kernel
theorem dX1_wouldLeave_27 : decode cX1_wouldLeave 27 = .ok (.invokevirtual 120, 3) := by decide +kernel
theorem dX1_wouldLeave_30 : decode cX1_wouldLeave 30 = .ok (.ireturn, 1) := by decide +kernel
theorem dX1_time_0 : decode cX1_time 0 = .ok (.aload_n 0, 1) := by decide +kernel
theorem dX1_time_1 : decode cX1_time 1 = .ok (.getfield 55, 3) := by decide +kernel
theorem dX1_time_4 : decode cX1_time 4 = .ok (.ireturn, 1) := by decide +kernel
theorem dX1_clock_0 : decode cX1_clock 0 = .ok (.aload_n 0, 1) := by decide +kernel
theorem dX1_clock_1 : decode cX1_clock 1 = .ok (.getfield 123, 3) := by decide +kernel
theorem dX1_clock_4 : decode cX1_clock 4 = .ok (.lreturn, 1) := by decide +kernel
theorem dX1_capacity_0 : decode cX1_capacity 0 = .ok (.aload_n 0, 1) := by decide +kernel
theorem dX1_capacity_1 : decode cX1_capacity 1 = .ok (.getfield 15, 3) := by decide +kernel
theorem dX1_capacity_4 : decode cX1_capacity 4 = .ok (.ireturn, 1) := by decide +kernel
theorem dX1_entries_0 : decode cX1_entries 0 = .ok (.iconst 0, 1) := by decide +kernel
theorem dX1_entries_1 : decode cX1_entries 1 = .ok (.istore_n 1, 1) := by decide +kernel
theorem dX1_entries_2 : decode cX1_entries 2 = .ok (.aload_n 0, 1) := by decide +kernel
theorem dX1_entries_3 : decode cX1_entries 3 = .ok (.getfield 11, 3) := by decide +kernel
theorem dX1_entries_6 : decode cX1_entries 6 = .ok (.astore_n 2, 1) := by decide +kernel
theorem dX1_entries_7 : decode cX1_entries 7 = .ok (.aload_n 2, 1) := by decide +kernel
theorem dX1_entries_8 : decode cX1_entries 8 = .ok (.arraylength, 1) := by decide +kernel
theorem dX1_entries_9 : decode cX1_entries 9 = .ok (.istore_n 3, 1) := by decide +kernel
theorem dX1_entries_10 : decode cX1_entries 10 = .ok (.iconst 0, 1) := by decide +kernel
theorem dX1_entries_11 : decode cX1_entries 11 = .ok (.istore 4, 2) := by decide +kernel
theorem dX1_entries_13 : decode cX1_entries 13 = .ok (.iload 4, 2) := by decide +kernel
theorem dX1_entries_15 : decode cX1_entries 15 = .ok (.iload_n 3, 1) := by decide +kernel
theorem dX1_entries_16 : decode cX1_entries 16 = .ok (.if_icmp .ge 26, 3) := by decide +kernel
theorem dX1_entries_19 : decode cX1_entries 19 = .ok (.aload_n 2, 1) := by decide +kernel
theorem dX1_entries_20 : decode cX1_entries 20 = .ok (.iload 4, 2) := by decide +kernel
theorem dX1_entries_22 : decode cX1_entries 22 = .ok (.aaload, 1) := by decide +kernel
theorem dX1_entries_23 : decode cX1_entries 23 = .ok (.astore 5, 2) := by decide +kernel
theorem dX1_entries_25 : decode cX1_entries 25 = .ok (.aload 5, 2) := by decide +kernel
theorem dX1_entries_27 : decode cX1_entries 27 = .ok (.getfield 33, 3) := by decide +kernel
theorem dX1_entries_30 : decode cX1_entries 30 = .ok (.ifCond .eq 6, 3) := by decide +kernel
theorem dX1_entries_33 : decode cX1_entries 33 = .ok (.iinc 1 1, 3) := by decide +kernel
theorem dX1_entries_36 : decode cX1_entries 36 = .ok (.iinc 4 1, 3) := by decide +kernel
theorem dX1_entries_39 : decode cX1_entries 39 = .ok (.goto (-26), 3) := by decide +kernel
theorem dX1_entries_42 : decode cX1_entries 42 = .ok (.iload_n 1, 1) := by decide +kernel
theorem dX1_entries_43 : decode cX1_entries 43 = .ok (.ireturn, 1) := by decide +kernel
theorem dX1_used_0 : decode cX1_used 0 = .ok (.iconst 0, 1) := by decide +kernel
theorem dX1_used_1 : decode cX1_used 1 = .ok (.istore_n 1, 1) := by decide +kernel
theorem dX1_used_2 : decode cX1_used 2 = .ok (.aload_n 0, 1) := by decide +kernel
theorem dX1_used_3 : decode cX1_used 3 = .ok (.getfield 11, 3) := by decide +kernel
theorem dX1_used_6 : decode cX1_used 6 = .ok (.astore_n 2, 1) := by decide +kernel
theorem dX1_used_7 : decode cX1_used 7 = .ok (.aload_n 2, 1) := by decide +kernel
theorem dX1_used_8 : decode cX1_used 8 = .ok (.arraylength, 1) := by decide +kernel
theorem dX1_used_9 : decode cX1_used 9 = .ok (.istore_n 3, 1) := by decide +kernel
theorem dX1_used_10 : decode cX1_used 10 = .ok (.iconst 0, 1) := by decide +kernel
theorem dX1_used_11 : decode cX1_used 11 = .ok (.istore 4, 2) := by decide +kernel
theorem dX1_used_13 : decode cX1_used 13 = .ok (.iload 4, 2) := by decide +kernel
theorem dX1_used_15 : decode cX1_used 15 = .ok (.iload_n 3, 1) := by decide +kernel
theorem dX1_used_16 : decode cX1_used 16 = .ok (.if_icmp .ge 31, 3) := by decide +kernel
theorem dX1_used_19 : decode cX1_used 19 = .ok (.aload_n 2, 1) := by decide +kernel
theorem dX1_used_20 : decode cX1_used 20 = .ok (.iload 4, 2) := by decide +kernel
theorem dX1_used_22 : decode cX1_used 22 = .ok (.aaload, 1) := by decide +kernel
theorem dX1_used_23 : decode cX1_used 23 = .ok (.astore 5, 2) := by decide +kernel
theorem dX1_used_25 : decode cX1_used 25 = .ok (.aload 5, 2) := by decide +kernel
theorem dX1_used_27 : decode cX1_used 27 = .ok (.getfield 33, 3) := by decide +kernel
theorem dX1_used_30 : decode cX1_used 30 = .ok (.ifCond .eq 11, 3) := by decide +kernel
theorem dX1_used_33 : decode cX1_used 33 = .ok (.iload_n 1, 1) := by decide +kernel
theorem dX1_used_34 : decode cX1_used 34 = .ok (.aload 5, 2) := by decide +kernel
theorem dX1_used_36 : decode cX1_used 36 = .ok (.getfield 41, 3) := by decide +kernel
theorem dX1_used_39 : decode cX1_used 39 = .ok (.iadd, 1) := by decide +kernel
theorem dX1_used_40 : decode cX1_used 40 = .ok (.istore_n 1, 1) := by decide +kernel
theorem dX1_used_41 : decode cX1_used 41 = .ok (.iinc 4 1, 3) := by decide +kernel
theorem dX1_used_44 : decode cX1_used 44 = .ok (.goto (-31), 3) := by decide +kernel
theorem dX1_used_47 : decode cX1_used 47 = .ok (.iload_n 1, 1) := by decide +kernel
theorem dX1_used_48 : decode cX1_used 48 = .ok (.ireturn, 1) := by decide +kernel
theorem dX1_hits_0 : decode cX1_hits 0 = .ok (.aload_n 0, 1) := by decide +kernel
theorem dX1_hits_1 : decode cX1_hits 1 = .ok (.getfield 126, 3) := by decide +kernel
theorem dX1_hits_4 : decode cX1_hits 4 = .ok (.ireturn, 1) := by decide +kernel
theorem dX1_misses_0 : decode cX1_misses 0 = .ok (.aload_n 0, 1) := by decide +kernel
theorem dX1_misses_1 : decode cX1_misses 1 = .ok (.getfield 129, 3) := by decide +kernel
theorem dX1_misses_4 : decode cX1_misses 4 = .ok (.ireturn, 1) := by decide +kernel
theorem dX1_bytesHit_0 : decode cX1_bytesHit 0 = .ok (.aload_n 0, 1) := by decide +kernel
theorem dX1_bytesHit_1 : decode cX1_bytesHit 1 = .ok (.getfield 132, 3) := by decide +kernel
theorem dX1_bytesHit_4 : decode cX1_bytesHit 4 = .ok (.lreturn, 1) := by decide +kernel
theorem dX1_saved_0 : decode cX1_saved 0 = .ok (.aload_n 0, 1) := by decide +kernel
theorem dX1_saved_1 : decode cX1_saved 1 = .ok (.getfield 135, 3) := by decide +kernel
theorem dX1_saved_4 : decode cX1_saved 4 = .ok (.lreturn, 1) := by decide +kernel
theorem dX1_paid_0 : decode cX1_paid 0 = .ok (.aload_n 0, 1) := by decide +kernel
theorem dX1_paid_1 : decode cX1_paid 1 = .ok (.getfield 138, 3) := by decide +kernel
theorem dX1_paid_4 : decode cX1_paid 4 = .ok (.lreturn, 1) := by decide +kernel
theorem dX1_left_0 : decode cX1_left 0 = .ok (.aload_n 0, 1) := by decide +kernel
theorem dX1_left_1 : decode cX1_left 1 = .ok (.getfield 141, 3) := by decide +kernel
theorem dX1_left_4 : decode cX1_left 4 = .ok (.ireturn, 1) := by decide +kernel
theorem dX1_removedOver_0 : decode cX1_removedOver 0 = .ok (.aload_n 0, 1) := by decide +kernel
theorem dX1_removedOver_1 : decode cX1_removedOver 1 = .ok (.getfield 144, 3) := by decide +kernel
theorem dX1_removedOver_4 : decode cX1_removedOver 4 = .ok (.ireturn, 1) := by decide +kernel
theorem dX1_slotOf_0 : decode cX1_slotOf 0 = .ok (.iload_n 1, 1) := by decide +kernel
theorem dX1_slotOf_1 : decode cX1_slotOf 1 = .ok (.ifCond .lt 12, 3) := by decide +kernel
theorem dX1_slotOf_4 : decode cX1_slotOf 4 = .ok (.iload_n 1, 1) := by decide +kernel
theorem dX1_slotOf_5 : decode cX1_slotOf 5 = .ok (.aload_n 0, 1) := by decide +kernel
theorem dX1_slotOf_6 : decode cX1_slotOf 6 = .ok (.getfield 11, 3) := by decide +kernel
theorem dX1_slotOf_9 : decode cX1_slotOf 9 = .ok (.arraylength, 1) := by decide +kernel
theorem dX1_slotOf_10 : decode cX1_slotOf 10 = .ok (.if_icmp .lt 13, 3) := by decide +kernel
theorem dX1_slotOf_13 : decode cX1_slotOf 13 = .ok (.new 105, 3) := by decide +kernel
theorem dX1_slotOf_16 : decode cX1_slotOf 16 = .ok (.dup, 1) := by decide +kernel
theorem dX1_slotOf_17 : decode cX1_slotOf 17 = .ok (.ldc 147, 2) := by decide +kernel
theorem dX1_slotOf_19 : decode cX1_slotOf 19 = .ok (.invokespecial 109, 3) := by decide +kernel
theorem dX1_slotOf_22 : decode cX1_slotOf 22 = .ok (.athrow, 1) := by decide +kernel
theorem dX1_slotOf_23 : decode cX1_slotOf 23 = .ok (.aload_n 0, 1) := by decide +kernel
theorem dX1_slotOf_24 : decode cX1_slotOf 24 = .ok (.getfield 11, 3) := by decide +kernel
theorem dX1_slotOf_27 : decode cX1_slotOf 27 = .ok (.iload_n 1, 1) := by decide +kernel
theorem dX1_slotOf_28 : decode cX1_slotOf 28 = .ok (.aaload, 1) := by decide +kernel
theorem dX1_slotOf_29 : decode cX1_slotOf 29 = .ok (.areturn, 1) := by decide +kernel
set_option maxRecDepth 20000 in
theorem ggX1_filledSlotOf_X1_slotOf : GoodIn wsX1_filledSlotOf wsX1_slotOf := goodIn_ca (goodIn_r _ [7, 8, 9, 10, 20, 21, 22, 23, 24, 25, 26, 27, 28, 29, 30, 31, 32] (by decide +kernel) (by decide +kernel)) (goodIn_sub (fun _ h => List.mem_cons_of_mem _ (List.mem_append_right _ h)) (by decide +kernel))
set_option maxRecDepth 20000 in
theorem gX1_filledSlotOf_X1_slotOf : GoodIn wsX1_filledSlotOf (wsV RX1 25 RX1 yX1_slotOf wsX1_slotOf) := goodIn_app (goodIn_of _ (by decide +kernel)) ggX1_filledSlotOf_X1_slotOf
theorem dX1_filledSlotOf_0 : decode cX1_filledSlotOf 0 = .ok (.aload_n 0, 1) := by decide +kernel
theorem dX1_filledSlotOf_1 : decode cX1_filledSlotOf 1 = .ok (.iload_n 1, 1) := by decide +kernel
theorem dX1_filledSlotOf_2 : decode cX1_filledSlotOf 2 = .ok (.invokevirtual 25, 3) := by decide +kernel
theorem dX1_filledSlotOf_5 : decode cX1_filledSlotOf 5 = .ok (.astore_n 2, 1) := by decide +kernel
theorem dX1_filledSlotOf_6 : decode cX1_filledSlotOf 6 = .ok (.aload_n 2, 1) := by decide +kernel
theorem dX1_filledSlotOf_7 : decode cX1_filledSlotOf 7 = .ok (.getfield 33, 3) := by decide +kernel
theorem dX1_filledSlotOf_10 : decode cX1_filledSlotOf 10 = .ok (.ifCond .ne 13, 3) := by decide +kernel
theorem dX1_filledSlotOf_13 : decode cX1_filledSlotOf 13 = .ok (.new 71, 3) := by decide +kernel
theorem dX1_filledSlotOf_16 : decode cX1_filledSlotOf 16 = .ok (.dup, 1) := by decide +kernel
theorem dX1_filledSlotOf_17 : decode cX1_filledSlotOf 17 = .ok (.ldc 149, 2) := by decide +kernel
theorem dX1_filledSlotOf_19 : decode cX1_filledSlotOf 19 = .ok (.invokespecial 75, 3) := by decide +kernel
theorem dX1_filledSlotOf_22 : decode cX1_filledSlotOf 22 = .ok (.athrow, 1) := by decide +kernel
theorem dX1_filledSlotOf_23 : decode cX1_filledSlotOf 23 = .ok (.aload_n 2, 1) := by decide +kernel
theorem dX1_filledSlotOf_24 : decode cX1_filledSlotOf 24 = .ok (.areturn, 1) := by decide +kernel
theorem dX1_requireWithin_0 : decode cX1_requireWithin 0 = .ok (.iload_n 0, 1) := by decide +kernel
theorem dX1_requireWithin_1 : decode cX1_requireWithin 1 = .ok (.iload_n 1, 1) := by decide +kernel
theorem dX1_requireWithin_2 : decode cX1_requireWithin 2 = .ok (.if_icmp .lt 8, 3) := by decide +kernel
theorem dX1_requireWithin_5 : decode cX1_requireWithin 5 = .ok (.iload_n 0, 1) := by decide +kernel
theorem dX1_requireWithin_6 : decode cX1_requireWithin 6 = .ok (.iload_n 2, 1) := by decide +kernel
theorem dX1_requireWithin_7 : decode cX1_requireWithin 7 = .ok (.if_icmp .le 13, 3) := by decide +kernel
theorem dX1_requireWithin_10 : decode cX1_requireWithin 10 = .ok (.new 151, 3) := by decide +kernel
theorem dX1_requireWithin_13 : decode cX1_requireWithin 13 = .ok (.dup, 1) := by decide +kernel
theorem dX1_requireWithin_14 : decode cX1_requireWithin 14 = .ok (.ldc 153, 2) := by decide +kernel
theorem dX1_requireWithin_16 : decode cX1_requireWithin 16 = .ok (.invokespecial 155, 3) := by decide +kernel
theorem dX1_requireWithin_19 : decode cX1_requireWithin 19 = .ok (.athrow, 1) := by decide +kernel
theorem dX1_requireWithin_20 : decode cX1_requireWithin 20 = .ok (.return_, 1) := by decide +kernel
set_option maxRecDepth 20000 in
theorem ggX1_hit_X1_setWorth : GoodIn wsX1_hit wsX1_setWorth := goodIn_r _ [8, 9, 10, 11, 21, 22, 23, 24, 25, 26, 27, 28, 29, 30, 31, 32, 33, 12, 13, 14, 15, 16, 17, 18, 19, 20] (by decide +kernel) (by decide +kernel)
set_option maxRecDepth 20000 in
theorem gX1_hit_X1_setWorth : GoodIn wsX1_hit (wsV RX1 156 RX1 yX1_setWorth wsX1_setWorth) := goodIn_app (goodIn_of _ (by decide +kernel)) ggX1_hit_X1_setWorth
theorem dX1_hit_0 : decode cX1_hit 0 = .ok (.aload_n 1, 1) := by decide +kernel
theorem dX1_hit_1 : decode cX1_hit 1 = .ok (.dup, 1) := by decide +kernel
theorem dX1_hit_2 : decode cX1_hit 2 = .ok (.getfield 85, 3) := by decide +kernel
theorem dX1_hit_5 : decode cX1_hit 5 = .ok (.iconst 1, 1) := by decide +kernel
theorem dX1_hit_6 : decode cX1_hit 6 = .ok (.iadd, 1) := by decide +kernel
theorem dX1_hit_7 : decode cX1_hit 7 = .ok (.putfield 85, 3) := by decide +kernel
theorem dX1_hit_10 : decode cX1_hit 10 = .ok (.aload_n 0, 1) := by decide +kernel
theorem dX1_hit_11 : decode cX1_hit 11 = .ok (.aload_n 1, 1) := by decide +kernel
theorem dX1_hit_12 : decode cX1_hit 12 = .ok (.iload_n 2, 1) := by decide +kernel
theorem dX1_hit_13 : decode cX1_hit 13 = .ok (.invokevirtual 156, 3) := by decide +kernel
theorem dX1_hit_16 : decode cX1_hit 16 = .ok (.aload_n 0, 1) := by decide +kernel
theorem dX1_hit_17 : decode cX1_hit 17 = .ok (.dup, 1) := by decide +kernel
theorem dX1_hit_18 : decode cX1_hit 18 = .ok (.getfield 126, 3) := by decide +kernel
theorem dX1_hit_21 : decode cX1_hit 21 = .ok (.iconst 1, 1) := by decide +kernel
theorem dX1_hit_22 : decode cX1_hit 22 = .ok (.iadd, 1) := by decide +kernel
theorem dX1_hit_23 : decode cX1_hit 23 = .ok (.putfield 126, 3) := by decide +kernel
theorem dX1_hit_26 : decode cX1_hit 26 = .ok (.aload_n 0, 1) := by decide +kernel
theorem dX1_hit_27 : decode cX1_hit 27 = .ok (.dup, 1) := by decide +kernel
theorem dX1_hit_28 : decode cX1_hit 28 = .ok (.getfield 132, 3) := by decide +kernel
theorem dX1_hit_31 : decode cX1_hit 31 = .ok (.aload_n 1, 1) := by decide +kernel
theorem dX1_hit_32 : decode cX1_hit 32 = .ok (.getfield 41, 3) := by decide +kernel
theorem dX1_hit_35 : decode cX1_hit 35 = .ok (.i2l, 1) := by decide +kernel
theorem dX1_hit_36 : decode cX1_hit 36 = .ok (.ladd, 1) := by decide +kernel
theorem dX1_hit_37 : decode cX1_hit 37 = .ok (.putfield 132, 3) := by decide +kernel
theorem dX1_hit_40 : decode cX1_hit 40 = .ok (.aload_n 0, 1) := by decide +kernel
theorem dX1_hit_41 : decode cX1_hit 41 = .ok (.dup, 1) := by decide +kernel
theorem dX1_hit_42 : decode cX1_hit 42 = .ok (.getfield 135, 3) := by decide +kernel
theorem dX1_hit_45 : decode cX1_hit 45 = .ok (.iload_n 2, 1) := by decide +kernel
theorem dX1_hit_46 : decode cX1_hit 46 = .ok (.i2l, 1) := by decide +kernel
theorem dX1_hit_47 : decode cX1_hit 47 = .ok (.ladd, 1) := by decide +kernel
theorem dX1_hit_48 : decode cX1_hit 48 = .ok (.putfield 135, 3) := by decide +kernel
theorem dX1_hit_51 : decode cX1_hit 51 = .ok (.return_, 1) := by decide +kernel
theorem dX1_countMiss_0 : decode cX1_countMiss 0 = .ok (.aload_n 0, 1) := by decide +kernel
theorem dX1_countMiss_1 : decode cX1_countMiss 1 = .ok (.dup, 1) := by decide +kernel
theorem dX1_countMiss_2 : decode cX1_countMiss 2 = .ok (.getfield 129, 3) := by decide +kernel
theorem dX1_countMiss_5 : decode cX1_countMiss 5 = .ok (.iconst 1, 1) := by decide +kernel
theorem dX1_countMiss_6 : decode cX1_countMiss 6 = .ok (.iadd, 1) := by decide +kernel
theorem dX1_countMiss_7 : decode cX1_countMiss 7 = .ok (.putfield 129, 3) := by decide +kernel
theorem dX1_countMiss_10 : decode cX1_countMiss 10 = .ok (.aload_n 0, 1) := by decide +kernel
theorem dX1_countMiss_11 : decode cX1_countMiss 11 = .ok (.dup, 1) := by decide +kernel
theorem dX1_countMiss_12 : decode cX1_countMiss 12 = .ok (.getfield 138, 3) := by decide +kernel
theorem dX1_countMiss_15 : decode cX1_countMiss 15 = .ok (.iload_n 1, 1) := by decide +kernel
theorem dX1_countMiss_16 : decode cX1_countMiss 16 = .ok (.i2l, 1) := by decide +kernel
theorem dX1_countMiss_17 : decode cX1_countMiss 17 = .ok (.ladd, 1) := by decide +kernel
theorem dX1_countMiss_18 : decode cX1_countMiss 18 = .ok (.putfield 138, 3) := by decide +kernel
theorem dX1_countMiss_21 : decode cX1_countMiss 21 = .ok (.return_, 1) := by decide +kernel
set_option maxRecDepth 20000 in
theorem ggX1_letInIfPossible_X1_wasMissedLately : GoodIn wsX1_letInIfPossible wsX1_wasMissedLately := goodIn_r _ [8, 1, 86, 87, 88, 89, 90, 91, 92, 93, 94, 73, 74, 75, 76, 77, 78, 79, 80, 81, 82, 83, 84, 85] (by decide +kernel) (by decide +kernel)
set_option maxRecDepth 20000 in
theorem gX1_letInIfPossible_X1_wasMissedLately : GoodIn wsX1_letInIfPossible (wsV RX1 159 RX1 yX1_wasMissedLately wsX1_wasMissedLately) := goodIn_app (goodIn_of _ (by decide +kernel)) ggX1_letInIfPossible_X1_wasMissedLately
set_option maxRecDepth 20000 in
theorem ggX1_letInIfPossible_X1_removeOwn : GoodIn wsX1_letInIfPossible wsX1_removeOwn := goodIn_r _ [12, 13, 14, 15, 16, 7, 17, 1, 86, 87, 88, 89, 90, 91, 92, 93, 94, 73, 74, 75, 76, 77, 78, 79, 80, 81, 82, 83, 84, 85] (by decide +kernel) (by decide +kernel)
set_option maxRecDepth 20000 in
theorem gX1_letInIfPossible_X1_removeOwn : GoodIn wsX1_letInIfPossible (wsV RX1 165 RX1 yX1_removeOwn wsX1_removeOwn) := goodIn_app (goodIn_of _ (by decide +kernel)) ggX1_letInIfPossible_X1_removeOwn
set_option maxRecDepth 20000 in
theorem ggX1_letInIfPossible_X1_makeRoom : GoodIn wsX1_letInIfPossible wsX1_makeRoom := goodIn_r _ [21, 2, 22, 23, 24, 7, 25, 26, 27, 28, 29, 30, 31, 32, 33, 34, 13, 14, 15, 16, 17, 1, 35, 36, 37, 38, 39, 40, 41, 42, 43, 44, 45, 46, 47, 48, 49, 50, 51, 52, 53, 54, 55, 56, 57, 58, 59, 60, 61, 62, 73, 74, 75, 76, 77, 78, 79, 80, 81, 82, 83, 84, 85, 86, 87, 88, 89, 90, 91, 92, 93, 94] (by decide +kernel) (by decide +kernel)
set_option maxRecDepth 20000 in
theorem gX1_letInIfPossible_X1_makeRoom : GoodIn wsX1_letInIfPossible (wsV RX1 169 RX1 yX1_makeRoom wsX1_makeRoom) := goodIn_app (goodIn_of _ (by decide +kernel)) ggX1_letInIfPossible_X1_makeRoom
set_option maxRecDepth 20000 in
theorem ggX1_letInIfPossible_X1_fill : GoodIn wsX1_letInIfPossible wsX1_fill := goodIn_r _ [66, 1, 67, 68, 69, 7, 70, 71, 43, 72, 86, 87, 88, 89, 90, 91, 92, 93, 94, 73, 74, 75, 76, 77, 78, 79, 80, 81, 82, 83, 84, 85] (by decide +kernel) (by decide +kernel)
set_option maxRecDepth 20000 in
theorem gX1_letInIfPossible_X1_fill : GoodIn wsX1_letInIfPossible (wsV RX1 173 RX1 yX1_fill wsX1_fill) := goodIn_app (goodIn_of _ (by decide +kernel)) ggX1_letInIfPossible_X1_fill
theorem dX1_letInIfPossible_0 : decode cX1_letInIfPossible 0 = .ok (.aload_n 0, 1) := by decide +kernel
theorem dX1_letInIfPossible_1 : decode cX1_letInIfPossible 1 = .ok (.aload_n 1, 1) := by decide +kernel
theorem dX1_letInIfPossible_2 : decode cX1_letInIfPossible 2 = .ok (.invokevirtual 159, 3) := by decide +kernel
theorem dX1_letInIfPossible_5 : decode cX1_letInIfPossible 5 = .ok (.istore 5, 2) := by decide +kernel
theorem dX1_letInIfPossible_7 : decode cX1_letInIfPossible 7 = .ok (.aload_n 1, 1) := by decide +kernel
theorem dX1_letInIfPossible_8 : decode cX1_letInIfPossible 8 = .ok (.aload_n 0, 1) := by decide +kernel
theorem dX1_letInIfPossible_9 : decode cX1_letInIfPossible 9 = .ok (.getfield 55, 3) := by decide +kernel
theorem dX1_letInIfPossible_12 : decode cX1_letInIfPossible 12 = .ok (.putfield 162, 3) := by decide +kernel
theorem dX1_letInIfPossible_15 : decode cX1_letInIfPossible 15 = .ok (.aload_n 0, 1) := by decide +kernel
theorem dX1_letInIfPossible_16 : decode cX1_letInIfPossible 16 = .ok (.aload_n 1, 1) := by decide +kernel
theorem dX1_letInIfPossible_17 : decode cX1_letInIfPossible 17 = .ok (.invokevirtual 165, 3) := by decide +kernel
theorem dX1_letInIfPossible_20 : decode cX1_letInIfPossible 20 = .ok (.iload_n 2, 1) := by decide +kernel
theorem dX1_letInIfPossible_21 : decode cX1_letInIfPossible 21 = .ok (.aload_n 0, 1) := by decide +kernel
theorem dX1_letInIfPossible_22 : decode cX1_letInIfPossible 22 = .ok (.getfield 15, 3) := by decide +kernel
theorem dX1_letInIfPossible_25 : decode cX1_letInIfPossible 25 = .ok (.if_icmp .gt 24, 3) := by decide +kernel
theorem dX1_letInIfPossible_28 : decode cX1_letInIfPossible 28 = .ok (.iload_n 2, 1) := by decide +kernel
theorem dX1_letInIfPossible_29 : decode cX1_letInIfPossible 29 = .ok (.aload_n 0, 1) := by decide +kernel
theorem dX1_letInIfPossible_30 : decode cX1_letInIfPossible 30 = .ok (.getfield 19, 3) := by decide +kernel
theorem dX1_letInIfPossible_33 : decode cX1_letInIfPossible 33 = .ok (.if_icmp .le 8, 3) := by decide +kernel
theorem dX1_letInIfPossible_36 : decode cX1_letInIfPossible 36 = .ok (.iload 5, 2) := by decide +kernel
theorem dX1_letInIfPossible_38 : decode cX1_letInIfPossible 38 = .ok (.ifCond .eq 11, 3) := by decide +kernel
theorem dX1_letInIfPossible_41 : decode cX1_letInIfPossible 41 = .ok (.aload_n 0, 1) := by decide +kernel
theorem dX1_letInIfPossible_42 : decode cX1_letInIfPossible 42 = .ok (.iload_n 2, 1) := by decide +kernel
theorem dX1_letInIfPossible_43 : decode cX1_letInIfPossible 43 = .ok (.invokevirtual 169, 3) := by decide +kernel
theorem dX1_letInIfPossible_46 : decode cX1_letInIfPossible 46 = .ok (.ifCond .ne 5, 3) := by decide +kernel
theorem dX1_letInIfPossible_49 : decode cX1_letInIfPossible 49 = .ok (.iconst 0, 1) := by decide +kernel
theorem dX1_letInIfPossible_50 : decode cX1_letInIfPossible 50 = .ok (.ireturn, 1) := by decide +kernel
theorem dX1_letInIfPossible_51 : decode cX1_letInIfPossible 51 = .ok (.aload_n 0, 1) := by decide +kernel
theorem dX1_letInIfPossible_52 : decode cX1_letInIfPossible 52 = .ok (.aload_n 1, 1) := by decide +kernel
theorem dX1_letInIfPossible_53 : decode cX1_letInIfPossible 53 = .ok (.iload_n 2, 1) := by decide +kernel
theorem dX1_letInIfPossible_54 : decode cX1_letInIfPossible 54 = .ok (.iload_n 3, 1) := by decide +kernel
theorem dX1_letInIfPossible_55 : decode cX1_letInIfPossible 55 = .ok (.iload 4, 2) := by decide +kernel
theorem dX1_letInIfPossible_57 : decode cX1_letInIfPossible 57 = .ok (.invokevirtual 173, 3) := by decide +kernel
theorem dX1_letInIfPossible_60 : decode cX1_letInIfPossible 60 = .ok (.iconst 1, 1) := by decide +kernel
theorem dX1_letInIfPossible_61 : decode cX1_letInIfPossible 61 = .ok (.ireturn, 1) := by decide +kernel
theorem dX1_wasMissedLately_0 : decode cX1_wasMissedLately 0 = .ok (.aload_n 1, 1) := by decide +kernel
theorem dX1_wasMissedLately_1 : decode cX1_wasMissedLately 1 = .ok (.getfield 162, 3) := by decide +kernel
theorem dX1_wasMissedLately_4 : decode cX1_wasMissedLately 4 = .ok (.iconst (-1), 1) := by decide +kernel
theorem dX1_wasMissedLately_5 : decode cX1_wasMissedLately 5 = .ok (.if_icmp .eq 21, 3) := by decide +kernel
theorem dX1_wasMissedLately_8 : decode cX1_wasMissedLately 8 = .ok (.aload_n 0, 1) := by decide +kernel
theorem dX1_wasMissedLately_9 : decode cX1_wasMissedLately 9 = .ok (.getfield 55, 3) := by decide +kernel
theorem dX1_wasMissedLately_12 : decode cX1_wasMissedLately 12 = .ok (.aload_n 1, 1) := by decide +kernel
theorem dX1_wasMissedLately_13 : decode cX1_wasMissedLately 13 = .ok (.getfield 162, 3) := by decide +kernel
theorem dX1_wasMissedLately_16 : decode cX1_wasMissedLately 16 = .ok (.isub, 1) := by decide +kernel
theorem dX1_wasMissedLately_17 : decode cX1_wasMissedLately 17 = .ok (.bipush 50, 2) := by decide +kernel
theorem dX1_wasMissedLately_19 : decode cX1_wasMissedLately 19 = .ok (.if_icmp .gt 7, 3) := by decide +kernel
theorem dX1_wasMissedLately_22 : decode cX1_wasMissedLately 22 = .ok (.iconst 1, 1) := by decide +kernel
theorem dX1_wasMissedLately_23 : decode cX1_wasMissedLately 23 = .ok (.goto 4, 3) := by decide +kernel
theorem dX1_wasMissedLately_26 : decode cX1_wasMissedLately 26 = .ok (.iconst 0, 1) := by decide +kernel
theorem dX1_wasMissedLately_27 : decode cX1_wasMissedLately 27 = .ok (.ireturn, 1) := by decide +kernel
set_option maxRecDepth 20000 in
theorem ggX1_removeOwn_X1_hasEnded : GoodIn wsX1_removeOwn wsX1_hasEnded := goodIn_r _ [6, 7, 17, 18, 19, 20, 21, 22, 23, 24, 25, 26, 27, 28, 29, 8, 9, 10, 11, 12, 13, 14, 15, 16] (by decide +kernel) (by decide +kernel)
set_option maxRecDepth 20000 in
theorem gX1_removeOwn_X1_hasEnded : GoodIn wsX1_removeOwn (wsV RX1 37 RX1 yX1_hasEnded wsX1_hasEnded) := goodIn_app (goodIn_of _ (by decide +kernel)) ggX1_removeOwn_X1_hasEnded
theorem dX1_removeOwn_0 : decode cX1_removeOwn 0 = .ok (.aload_n 1, 1) := by decide +kernel
theorem dX1_removeOwn_1 : decode cX1_removeOwn 1 = .ok (.getfield 33, 3) := by decide +kernel
theorem dX1_removeOwn_4 : decode cX1_removeOwn 4 = .ok (.ifCond .eq 21, 3) := by decide +kernel
theorem dX1_removeOwn_7 : decode cX1_removeOwn 7 = .ok (.aload_n 0, 1) := by decide +kernel
theorem dX1_removeOwn_8 : decode cX1_removeOwn 8 = .ok (.aload_n 1, 1) := by decide +kernel
theorem dX1_removeOwn_9 : decode cX1_removeOwn 9 = .ok (.invokevirtual 37, 3) := by decide +kernel
theorem dX1_removeOwn_12 : decode cX1_removeOwn 12 = .ok (.ifCond .eq 13, 3) := by decide +kernel
theorem dX1_removeOwn_15 : decode cX1_removeOwn 15 = .ok (.aload_n 0, 1) := by decide +kernel
theorem dX1_removeOwn_16 : decode cX1_removeOwn 16 = .ok (.dup, 1) := by decide +kernel
theorem dX1_removeOwn_17 : decode cX1_removeOwn 17 = .ok (.getfield 144, 3) := by decide +kernel
theorem dX1_removeOwn_20 : decode cX1_removeOwn 20 = .ok (.iconst 1, 1) := by decide +kernel
theorem dX1_removeOwn_21 : decode cX1_removeOwn 21 = .ok (.iadd, 1) := by decide +kernel
theorem dX1_removeOwn_22 : decode cX1_removeOwn 22 = .ok (.putfield 144, 3) := by decide +kernel
theorem dX1_removeOwn_25 : decode cX1_removeOwn 25 = .ok (.aload_n 1, 1) := by decide +kernel
theorem dX1_removeOwn_26 : decode cX1_removeOwn 26 = .ok (.iconst 0, 1) := by decide +kernel
theorem dX1_removeOwn_27 : decode cX1_removeOwn 27 = .ok (.putfield 33, 3) := by decide +kernel
theorem dX1_removeOwn_30 : decode cX1_removeOwn 30 = .ok (.return_, 1) := by decide +kernel
set_option maxRecDepth 20000 in
theorem ggX1_makeRoom_X1_hasRoom : GoodIn wsX1_makeRoom wsX1_hasRoom := goodIn_r _ [6, 1, 7, 8, 9, 5, 10, 11, 50, 51, 52, 53, 54, 55, 56, 57, 58, 59, 60, 61, 62, 63, 64, 65, 66, 67, 68, 69, 70, 71] (by decide +kernel) (by decide +kernel)
set_option maxRecDepth 20000 in
theorem gX1_makeRoom_X1_hasRoom : GoodIn wsX1_makeRoom (wsV RX1 177 RX1 yX1_hasRoom wsX1_hasRoom) := goodIn_app (goodIn_of _ (by decide +kernel)) ggX1_makeRoom_X1_hasRoom
set_option maxRecDepth 20000 in
theorem ggX1_makeRoom_X1_removeAllOver : GoodIn wsX1_makeRoom wsX1_removeAllOver := goodIn_r _ [15, 11, 16, 17, 18, 19, 5, 20, 21, 50, 51, 52, 53, 54, 55, 56, 57, 58, 59, 60, 61, 62, 63, 64, 65, 66, 67, 68, 69, 70, 71] (by decide +kernel) (by decide +kernel)
set_option maxRecDepth 20000 in
theorem gX1_makeRoom_X1_removeAllOver : GoodIn wsX1_makeRoom (wsV RX1 64 RX1 yX1_removeAllOver wsX1_removeAllOver) := goodIn_app (goodIn_of _ (by decide +kernel)) ggX1_makeRoom_X1_removeAllOver
set_option maxRecDepth 20000 in
theorem ggX1_makeRoom_X1_bytesThatCannotLeave : GoodIn wsX1_makeRoom wsX1_bytesThatCannotLeave := goodIn_r _ [25, 11, 17, 18, 19, 5, 20, 21, 50, 51, 52, 53, 54, 55, 56, 57, 58, 59, 60, 61, 62, 63, 64, 65, 66, 67, 68, 69, 70, 71] (by decide +kernel) (by decide +kernel)
set_option maxRecDepth 20000 in
theorem gX1_makeRoom_X1_bytesThatCannotLeave : GoodIn wsX1_makeRoom (wsV RX1 68 RX1 yX1_bytesThatCannotLeave wsX1_bytesThatCannotLeave) := goodIn_app (goodIn_of _ (by decide +kernel)) ggX1_makeRoom_X1_bytesThatCannotLeave
set_option maxRecDepth 20000 in
theorem ggX1_makeRoom_X1_leaveDownTo : GoodIn wsX1_makeRoom wsX1_leaveDownTo := goodIn_r _ [29, 30, 31, 32, 33, 34, 35, 36, 37, 38, 5, 39, 40, 41, 42, 43, 11, 44, 45, 46, 47, 48, 49, 7, 8, 9, 10, 63, 64, 65, 66, 67, 68, 69, 70, 71, 50, 51, 52, 53, 54, 55, 56, 57, 58, 59, 60, 61, 62] (by decide +kernel) (by decide +kernel)
set_option maxRecDepth 20000 in
theorem gX1_makeRoom_X1_leaveDownTo : GoodIn wsX1_makeRoom (wsV RX1 81 RX1 yX1_leaveDownTo wsX1_leaveDownTo) := goodIn_app (goodIn_of _ (by decide +kernel)) ggX1_makeRoom_X1_leaveDownTo
theorem dX1_makeRoom_0 : decode cX1_makeRoom 0 = .ok (.aload_n 0, 1) := by decide +kernel
theorem dX1_makeRoom_1 : decode cX1_makeRoom 1 = .ok (.iload_n 1, 1) := by decide +kernel
theorem dX1_makeRoom_2 : decode cX1_makeRoom 2 = .ok (.invokevirtual 177, 3) := by decide +kernel
theorem dX1_makeRoom_5 : decode cX1_makeRoom 5 = .ok (.ifCond .eq 5, 3) := by decide +kernel
theorem dX1_makeRoom_8 : decode cX1_makeRoom 8 = .ok (.iconst 1, 1) := by decide +kernel
theorem dX1_makeRoom_9 : decode cX1_makeRoom 9 = .ok (.ireturn, 1) := by decide +kernel
theorem dX1_makeRoom_10 : decode cX1_makeRoom 10 = .ok (.aload_n 0, 1) := by decide +kernel
theorem dX1_makeRoom_11 : decode cX1_makeRoom 11 = .ok (.invokevirtual 64, 3) := by decide +kernel
theorem dX1_makeRoom_14 : decode cX1_makeRoom 14 = .ok (.pop, 1) := by decide +kernel
theorem dX1_makeRoom_15 : decode cX1_makeRoom 15 = .ok (.iload_n 1, 1) := by decide +kernel
theorem dX1_makeRoom_16 : decode cX1_makeRoom 16 = .ok (.aload_n 0, 1) := by decide +kernel
theorem dX1_makeRoom_17 : decode cX1_makeRoom 17 = .ok (.getfield 15, 3) := by decide +kernel
theorem dX1_makeRoom_20 : decode cX1_makeRoom 20 = .ok (.aload_n 0, 1) := by decide +kernel
theorem dX1_makeRoom_21 : decode cX1_makeRoom 21 = .ok (.invokevirtual 68, 3) := by decide +kernel
theorem dX1_makeRoom_24 : decode cX1_makeRoom 24 = .ok (.isub, 1) := by decide +kernel
theorem dX1_makeRoom_25 : decode cX1_makeRoom 25 = .ok (.if_icmp .le 5, 3) := by decide +kernel
theorem dX1_makeRoom_28 : decode cX1_makeRoom 28 = .ok (.iconst 0, 1) := by decide +kernel
theorem dX1_makeRoom_29 : decode cX1_makeRoom 29 = .ok (.ireturn, 1) := by decide +kernel
theorem dX1_makeRoom_30 : decode cX1_makeRoom 30 = .ok (.aload_n 0, 1) := by decide +kernel
theorem dX1_makeRoom_31 : decode cX1_makeRoom 31 = .ok (.aload_n 0, 1) := by decide +kernel
theorem dX1_makeRoom_32 : decode cX1_makeRoom 32 = .ok (.getfield 15, 3) := by decide +kernel
theorem dX1_makeRoom_35 : decode cX1_makeRoom 35 = .ok (.iload_n 1, 1) := by decide +kernel
theorem dX1_makeRoom_36 : decode cX1_makeRoom 36 = .ok (.isub, 1) := by decide +kernel
theorem dX1_makeRoom_37 : decode cX1_makeRoom 37 = .ok (.invokevirtual 81, 3) := by decide +kernel
theorem dX1_makeRoom_40 : decode cX1_makeRoom 40 = .ok (.pop, 1) := by decide +kernel
theorem dX1_makeRoom_41 : decode cX1_makeRoom 41 = .ok (.iconst 1, 1) := by decide +kernel
theorem dX1_makeRoom_42 : decode cX1_makeRoom 42 = .ok (.ireturn, 1) := by decide +kernel
set_option maxRecDepth 20000 in
theorem ggX1_fill_X1_setWorth : GoodIn wsX1_fill wsX1_setWorth := goodIn_r _ [6, 7, 8, 9, 19, 20, 21, 22, 23, 24, 25, 26, 27, 28, 29, 30, 31, 10, 11, 12, 13, 14, 15, 16, 17, 18] (by decide +kernel) (by decide +kernel)
set_option maxRecDepth 20000 in
theorem gX1_fill_X1_setWorth : GoodIn wsX1_fill (wsV RX1 156 RX1 yX1_setWorth wsX1_setWorth) := goodIn_app (goodIn_of _ (by decide +kernel)) ggX1_fill_X1_setWorth
theorem dX1_fill_0 : decode cX1_fill 0 = .ok (.aload_n 1, 1) := by decide +kernel
theorem dX1_fill_1 : decode cX1_fill 1 = .ok (.iconst 1, 1) := by decide +kernel
theorem dX1_fill_2 : decode cX1_fill 2 = .ok (.putfield 33, 3) := by decide +kernel
theorem dX1_fill_5 : decode cX1_fill 5 = .ok (.aload_n 1, 1) := by decide +kernel
theorem dX1_fill_6 : decode cX1_fill 6 = .ok (.iconst 0, 1) := by decide +kernel
theorem dX1_fill_7 : decode cX1_fill 7 = .ok (.putfield 61, 3) := by decide +kernel
theorem dX1_fill_10 : decode cX1_fill 10 = .ok (.aload_n 1, 1) := by decide +kernel
theorem dX1_fill_11 : decode cX1_fill 11 = .ok (.iload_n 2, 1) := by decide +kernel
theorem dX1_fill_12 : decode cX1_fill 12 = .ok (.putfield 41, 3) := by decide +kernel
theorem dX1_fill_15 : decode cX1_fill 15 = .ok (.aload_n 1, 1) := by decide +kernel
theorem dX1_fill_16 : decode cX1_fill 16 = .ok (.iconst 1, 1) := by decide +kernel
theorem dX1_fill_17 : decode cX1_fill 17 = .ok (.putfield 85, 3) := by decide +kernel
theorem dX1_fill_20 : decode cX1_fill 20 = .ok (.aload_n 1, 1) := by decide +kernel
theorem dX1_fill_21 : decode cX1_fill 21 = .ok (.aload_n 0, 1) := by decide +kernel
theorem dX1_fill_22 : decode cX1_fill 22 = .ok (.getfield 55, 3) := by decide +kernel
theorem dX1_fill_25 : decode cX1_fill 25 = .ok (.iload 4, 2) := by decide +kernel
theorem dX1_fill_27 : decode cX1_fill 27 = .ok (.iadd, 1) := by decide +kernel
theorem dX1_fill_28 : decode cX1_fill 28 = .ok (.putfield 94, 3) := by decide +kernel
theorem dX1_fill_31 : decode cX1_fill 31 = .ok (.aload_n 0, 1) := by decide +kernel
theorem dX1_fill_32 : decode cX1_fill 32 = .ok (.aload_n 1, 1) := by decide +kernel
theorem dX1_fill_33 : decode cX1_fill 33 = .ok (.iload_n 3, 1) := by decide +kernel
theorem dX1_fill_34 : decode cX1_fill 34 = .ok (.invokevirtual 156, 3) := by decide +kernel
theorem dX1_fill_37 : decode cX1_fill 37 = .ok (.return_, 1) := by decide +kernel
theorem dX1_setWorth_0 : decode cX1_setWorth 0 = .ok (.aload_n 0, 1) := by decide +kernel
theorem dX1_setWorth_1 : decode cX1_setWorth 1 = .ok (.dup, 1) := by decide +kernel
theorem dX1_setWorth_2 : decode cX1_setWorth 2 = .ok (.getfield 180, 3) := by decide +kernel
theorem dX1_setWorth_5 : decode cX1_setWorth 5 = .ok (.lconst 1, 1) := by decide +kernel
theorem dX1_setWorth_6 : decode cX1_setWorth 6 = .ok (.ladd, 1) := by decide +kernel
theorem dX1_setWorth_7 : decode cX1_setWorth 7 = .ok (.putfield 180, 3) := by decide +kernel
theorem dX1_setWorth_10 : decode cX1_setWorth 10 = .ok (.aload_n 1, 1) := by decide +kernel
theorem dX1_setWorth_11 : decode cX1_setWorth 11 = .ok (.aload_n 0, 1) := by decide +kernel
theorem dX1_setWorth_12 : decode cX1_setWorth 12 = .ok (.getfield 180, 3) := by decide +kernel
theorem dX1_setWorth_15 : decode cX1_setWorth 15 = .ok (.putfield 183, 3) := by decide +kernel
theorem dX1_setWorth_18 : decode cX1_setWorth 18 = .ok (.aload_n 1, 1) := by decide +kernel
theorem dX1_setWorth_19 : decode cX1_setWorth 19 = .ok (.aload_n 1, 1) := by decide +kernel
theorem dX1_setWorth_20 : decode cX1_setWorth 20 = .ok (.getfield 41, 3) := by decide +kernel
theorem dX1_setWorth_23 : decode cX1_setWorth 23 = .ok (.iconst 1, 1) := by decide +kernel
theorem dX1_setWorth_24 : decode cX1_setWorth 24 = .ok (.if_icmp .ge 10, 3) := by decide +kernel
theorem dX1_setWorth_27 : decode cX1_setWorth 27 = .ok (.aload_n 0, 1) := by decide +kernel
theorem dX1_setWorth_28 : decode cX1_setWorth 28 = .ok (.getfield 123, 3) := by decide +kernel
theorem dX1_setWorth_31 : decode cX1_setWorth 31 = .ok (.goto 26, 3) := by decide +kernel
theorem dX1_setWorth_34 : decode cX1_setWorth 34 = .ok (.aload_n 0, 1) := by decide +kernel
theorem dX1_setWorth_35 : decode cX1_setWorth 35 = .ok (.getfield 123, 3) := by decide +kernel
theorem dX1_setWorth_38 : decode cX1_setWorth 38 = .ok (.ldc2_w 186, 3) := by decide +kernel
theorem dX1_setWorth_41 : decode cX1_setWorth 41 = .ok (.aload_n 1, 1) := by decide +kernel
theorem dX1_setWorth_42 : decode cX1_setWorth 42 = .ok (.getfield 85, 3) := by decide +kernel
theorem dX1_setWorth_45 : decode cX1_setWorth 45 = .ok (.i2l, 1) := by decide +kernel
theorem dX1_setWorth_46 : decode cX1_setWorth 46 = .ok (.lmul, 1) := by decide +kernel
theorem dX1_setWorth_47 : decode cX1_setWorth 47 = .ok (.iload_n 2, 1) := by decide +kernel
theorem dX1_setWorth_48 : decode cX1_setWorth 48 = .ok (.i2l, 1) := by decide +kernel
theorem dX1_setWorth_49 : decode cX1_setWorth 49 = .ok (.lmul, 1) := by decide +kernel
theorem dX1_setWorth_50 : decode cX1_setWorth 50 = .ok (.aload_n 1, 1) := by decide +kernel
theorem dX1_setWorth_51 : decode cX1_setWorth 51 = .ok (.getfield 41, 3) := by decide +kernel
theorem dX1_setWorth_54 : decode cX1_setWorth 54 = .ok (.i2l, 1) := by decide +kernel
theorem dX1_setWorth_55 : decode cX1_setWorth 55 = .ok (.ldiv, 1) := by decide +kernel
theorem dX1_setWorth_56 : decode cX1_setWorth 56 = .ok (.ladd, 1) := by decide +kernel
theorem dX1_setWorth_57 : decode cX1_setWorth 57 = .ok (.putfield 88, 3) := by decide +kernel
theorem dX1_setWorth_60 : decode cX1_setWorth 60 = .ok (.return_, 1) := by decide +kernel
set_option maxRecDepth 20000 in
theorem ggX1_hasRoom_X1_used : GoodIn wsX1_hasRoom wsX1_used := goodIn_r _ [6, 7, 8, 9, 10, 11, 12, 13, 14, 15, 16, 17, 18, 19, 20, 21, 22, 23, 24, 25, 26, 27, 28, 29] (by decide +kernel) (by decide +kernel)
set_option maxRecDepth 20000 in
theorem gX1_hasRoom_X1_used : GoodIn wsX1_hasRoom (wsV RX1 78 RX1 yX1_used wsX1_used) := goodIn_app (goodIn_of _ (by decide +kernel)) ggX1_hasRoom_X1_used
theorem dX1_hasRoom_0 : decode cX1_hasRoom 0 = .ok (.aload_n 0, 1) := by decide +kernel
theorem dX1_hasRoom_1 : decode cX1_hasRoom 1 = .ok (.invokevirtual 78, 3) := by decide +kernel
theorem dX1_hasRoom_4 : decode cX1_hasRoom 4 = .ok (.aload_n 0, 1) := by decide +kernel
theorem dX1_hasRoom_5 : decode cX1_hasRoom 5 = .ok (.getfield 15, 3) := by decide +kernel
theorem dX1_hasRoom_8 : decode cX1_hasRoom 8 = .ok (.iload_n 1, 1) := by decide +kernel
theorem dX1_hasRoom_9 : decode cX1_hasRoom 9 = .ok (.isub, 1) := by decide +kernel
theorem dX1_hasRoom_10 : decode cX1_hasRoom 10 = .ok (.if_icmp .gt 7, 3) := by decide +kernel
theorem dX1_hasRoom_13 : decode cX1_hasRoom 13 = .ok (.iconst 1, 1) := by decide +kernel
theorem dX1_hasRoom_14 : decode cX1_hasRoom 14 = .ok (.goto 4, 3) := by decide +kernel
theorem dX1_hasRoom_17 : decode cX1_hasRoom 17 = .ok (.iconst 0, 1) := by decide +kernel
theorem dX1_hasRoom_18 : decode cX1_hasRoom 18 = .ok (.ireturn, 1) := by decide +kernel
theorem dX1_hasEnded_0 : decode cX1_hasEnded 0 = .ok (.aload_n 0, 1) := by decide +kernel
theorem dX1_hasEnded_1 : decode cX1_hasEnded 1 = .ok (.getfield 55, 3) := by decide +kernel
theorem dX1_hasEnded_4 : decode cX1_hasEnded 4 = .ok (.aload_n 1, 1) := by decide +kernel
theorem dX1_hasEnded_5 : decode cX1_hasEnded 5 = .ok (.getfield 94, 3) := by decide +kernel
theorem dX1_hasEnded_8 : decode cX1_hasEnded 8 = .ok (.if_icmp .lt 7, 3) := by decide +kernel
theorem dX1_hasEnded_11 : decode cX1_hasEnded 11 = .ok (.iconst 1, 1) := by decide +kernel
theorem dX1_hasEnded_12 : decode cX1_hasEnded 12 = .ok (.goto 4, 3) := by decide +kernel
theorem dX1_hasEnded_15 : decode cX1_hasEnded 15 = .ok (.iconst 0, 1) := by decide +kernel
theorem dX1_hasEnded_16 : decode cX1_hasEnded 16 = .ok (.ireturn, 1) := by decide +kernel
set_option maxRecDepth 20000 in
theorem ggX1_removeAllOver_X1_hasEnded : GoodIn wsX1_removeAllOver wsX1_hasEnded := goodIn_r _ [7, 8, 9, 10, 11, 12, 13, 14, 15, 16, 17, 18, 19, 20, 21, 22, 23, 24, 25, 26, 27, 28, 29, 30] (by decide +kernel) (by decide +kernel)
set_option maxRecDepth 20000 in
theorem gX1_removeAllOver_X1_hasEnded : GoodIn wsX1_removeAllOver (wsV RX1 37 RX1 yX1_hasEnded wsX1_hasEnded) := goodIn_app (goodIn_of _ (by decide +kernel)) ggX1_removeAllOver_X1_hasEnded
theorem dX1_removeAllOver_0 : decode cX1_removeAllOver 0 = .ok (.iconst 0, 1) := by decide +kernel
theorem dX1_removeAllOver_1 : decode cX1_removeAllOver 1 = .ok (.istore_n 1, 1) := by decide +kernel
theorem dX1_removeAllOver_2 : decode cX1_removeAllOver 2 = .ok (.aload_n 0, 1) := by decide +kernel
theorem dX1_removeAllOver_3 : decode cX1_removeAllOver 3 = .ok (.getfield 11, 3) := by decide +kernel
theorem dX1_removeAllOver_6 : decode cX1_removeAllOver 6 = .ok (.astore_n 2, 1) := by decide +kernel
theorem dX1_removeAllOver_7 : decode cX1_removeAllOver 7 = .ok (.aload_n 2, 1) := by decide +kernel
theorem dX1_removeAllOver_8 : decode cX1_removeAllOver 8 = .ok (.arraylength, 1) := by decide +kernel
theorem dX1_removeAllOver_9 : decode cX1_removeAllOver 9 = .ok (.istore_n 3, 1) := by decide +kernel
theorem dX1_removeAllOver_10 : decode cX1_removeAllOver 10 = .ok (.iconst 0, 1) := by decide +kernel
theorem dX1_removeAllOver_11 : decode cX1_removeAllOver 11 = .ok (.istore 4, 2) := by decide +kernel
theorem dX1_removeAllOver_13 : decode cX1_removeAllOver 13 = .ok (.iload 4, 2) := by decide +kernel
theorem dX1_removeAllOver_15 : decode cX1_removeAllOver 15 = .ok (.iload_n 3, 1) := by decide +kernel
theorem dX1_removeAllOver_16 : decode cX1_removeAllOver 16 = .ok (.if_icmp .ge 41, 3) := by decide +kernel
theorem dX1_removeAllOver_19 : decode cX1_removeAllOver 19 = .ok (.aload_n 2, 1) := by decide +kernel
theorem dX1_removeAllOver_20 : decode cX1_removeAllOver 20 = .ok (.iload 4, 2) := by decide +kernel
theorem dX1_removeAllOver_22 : decode cX1_removeAllOver 22 = .ok (.aaload, 1) := by decide +kernel
theorem dX1_removeAllOver_23 : decode cX1_removeAllOver 23 = .ok (.astore 5, 2) := by decide +kernel
theorem dX1_removeAllOver_25 : decode cX1_removeAllOver 25 = .ok (.aload 5, 2) := by decide +kernel
theorem dX1_removeAllOver_27 : decode cX1_removeAllOver 27 = .ok (.getfield 33, 3) := by decide +kernel
theorem dX1_removeAllOver_30 : decode cX1_removeAllOver 30 = .ok (.ifCond .eq 21, 3) := by decide +kernel
theorem dX1_removeAllOver_33 : decode cX1_removeAllOver 33 = .ok (.aload_n 0, 1) := by decide +kernel
theorem dX1_removeAllOver_34 : decode cX1_removeAllOver 34 = .ok (.aload 5, 2) := by decide +kernel
theorem dX1_removeAllOver_36 : decode cX1_removeAllOver 36 = .ok (.invokevirtual 37, 3) := by decide +kernel
theorem dX1_removeAllOver_39 : decode cX1_removeAllOver 39 = .ok (.ifCond .eq 12, 3) := by decide +kernel
theorem dX1_removeAllOver_42 : decode cX1_removeAllOver 42 = .ok (.aload 5, 2) := by decide +kernel
theorem dX1_removeAllOver_44 : decode cX1_removeAllOver 44 = .ok (.iconst 0, 1) := by decide +kernel
theorem dX1_removeAllOver_45 : decode cX1_removeAllOver 45 = .ok (.putfield 33, 3) := by decide +kernel
theorem dX1_removeAllOver_48 : decode cX1_removeAllOver 48 = .ok (.iinc 1 1, 3) := by decide +kernel
theorem dX1_removeAllOver_51 : decode cX1_removeAllOver 51 = .ok (.iinc 4 1, 3) := by decide +kernel
theorem dX1_removeAllOver_54 : decode cX1_removeAllOver 54 = .ok (.goto (-41), 3) := by decide +kernel
theorem dX1_removeAllOver_57 : decode cX1_removeAllOver 57 = .ok (.aload_n 0, 1) := by decide +kernel
theorem dX1_removeAllOver_58 : decode cX1_removeAllOver 58 = .ok (.dup, 1) := by decide +kernel
theorem dX1_removeAllOver_59 : decode cX1_removeAllOver 59 = .ok (.getfield 144, 3) := by decide +kernel
theorem dX1_removeAllOver_62 : decode cX1_removeAllOver 62 = .ok (.iload_n 1, 1) := by decide +kernel
theorem dX1_removeAllOver_63 : decode cX1_removeAllOver 63 = .ok (.iadd, 1) := by decide +kernel
theorem dX1_removeAllOver_64 : decode cX1_removeAllOver 64 = .ok (.putfield 144, 3) := by decide +kernel
theorem dX1_removeAllOver_67 : decode cX1_removeAllOver 67 = .ok (.iload_n 1, 1) := by decide +kernel
theorem dX1_removeAllOver_68 : decode cX1_removeAllOver 68 = .ok (.ireturn, 1) := by decide +kernel
set_option maxRecDepth 20000 in
theorem ggX1_bytesThatCannotLeave_X1_hasEnded : GoodIn wsX1_bytesThatCannotLeave wsX1_hasEnded := goodIn_r _ [6, 7, 8, 9, 10, 11, 12, 13, 14, 15, 16, 17, 18, 19, 20, 21, 22, 23, 24, 25, 26, 27, 28, 29] (by decide +kernel) (by decide +kernel)
set_option maxRecDepth 20000 in
theorem gX1_bytesThatCannotLeave_X1_hasEnded : GoodIn wsX1_bytesThatCannotLeave (wsV RX1 37 RX1 yX1_hasEnded wsX1_hasEnded) := goodIn_app (goodIn_of _ (by decide +kernel)) ggX1_bytesThatCannotLeave_X1_hasEnded
theorem dX1_bytesThatCannotLeave_0 : decode cX1_bytesThatCannotLeave 0 = .ok (.iconst 0, 1) := by decide +kernel
theorem dX1_bytesThatCannotLeave_1 : decode cX1_bytesThatCannotLeave 1 = .ok (.istore_n 1, 1) := by decide +kernel
theorem dX1_bytesThatCannotLeave_2 : decode cX1_bytesThatCannotLeave 2 = .ok (.aload_n 0, 1) := by decide +kernel
theorem dX1_bytesThatCannotLeave_3 : decode cX1_bytesThatCannotLeave 3 = .ok (.getfield 11, 3) := by decide +kernel
theorem dX1_bytesThatCannotLeave_6 : decode cX1_bytesThatCannotLeave 6 = .ok (.astore_n 2, 1) := by decide +kernel
theorem dX1_bytesThatCannotLeave_7 : decode cX1_bytesThatCannotLeave 7 = .ok (.aload_n 2, 1) := by decide +kernel
theorem dX1_bytesThatCannotLeave_8 : decode cX1_bytesThatCannotLeave 8 = .ok (.arraylength, 1) := by decide +kernel
theorem dX1_bytesThatCannotLeave_9 : decode cX1_bytesThatCannotLeave 9 = .ok (.istore_n 3, 1) := by decide +kernel
theorem dX1_bytesThatCannotLeave_10 : decode cX1_bytesThatCannotLeave 10 = .ok (.iconst 0, 1) := by decide +kernel
theorem dX1_bytesThatCannotLeave_11 : decode cX1_bytesThatCannotLeave 11 = .ok (.istore 4, 2) := by decide +kernel
theorem dX1_bytesThatCannotLeave_13 : decode cX1_bytesThatCannotLeave 13 = .ok (.iload 4, 2) := by decide +kernel
theorem dX1_bytesThatCannotLeave_15 : decode cX1_bytesThatCannotLeave 15 = .ok (.iload_n 3, 1) := by decide +kernel
theorem dX1_bytesThatCannotLeave_16 : decode cX1_bytesThatCannotLeave 16 = .ok (.if_icmp .ge 48, 3) := by decide +kernel
theorem dX1_bytesThatCannotLeave_19 : decode cX1_bytesThatCannotLeave 19 = .ok (.aload_n 2, 1) := by decide +kernel
theorem dX1_bytesThatCannotLeave_20 : decode cX1_bytesThatCannotLeave 20 = .ok (.iload 4, 2) := by decide +kernel
theorem dX1_bytesThatCannotLeave_22 : decode cX1_bytesThatCannotLeave 22 = .ok (.aaload, 1) := by decide +kernel
theorem dX1_bytesThatCannotLeave_23 : decode cX1_bytesThatCannotLeave 23 = .ok (.astore 5, 2) := by decide +kernel
theorem dX1_bytesThatCannotLeave_25 : decode cX1_bytesThatCannotLeave 25 = .ok (.aload 5, 2) := by decide +kernel
theorem dX1_bytesThatCannotLeave_27 : decode cX1_bytesThatCannotLeave 27 = .ok (.getfield 33, 3) := by decide +kernel
theorem dX1_bytesThatCannotLeave_30 : decode cX1_bytesThatCannotLeave 30 = .ok (.ifCond .eq 28, 3) := by decide +kernel
theorem dX1_bytesThatCannotLeave_33 : decode cX1_bytesThatCannotLeave 33 = .ok (.aload 5, 2) := by decide +kernel
theorem dX1_bytesThatCannotLeave_35 : decode cX1_bytesThatCannotLeave 35 = .ok (.getfield 61, 3) := by decide +kernel
theorem dX1_bytesThatCannotLeave_38 : decode cX1_bytesThatCannotLeave 38 = .ok (.ifCond .eq 20, 3) := by decide +kernel
theorem dX1_bytesThatCannotLeave_41 : decode cX1_bytesThatCannotLeave 41 = .ok (.aload_n 0, 1) := by decide +kernel
theorem dX1_bytesThatCannotLeave_42 : decode cX1_bytesThatCannotLeave 42 = .ok (.aload 5, 2) := by decide +kernel
theorem dX1_bytesThatCannotLeave_44 : decode cX1_bytesThatCannotLeave 44 = .ok (.invokevirtual 37, 3) := by decide +kernel
theorem dX1_bytesThatCannotLeave_47 : decode cX1_bytesThatCannotLeave 47 = .ok (.ifCond .ne 11, 3) := by decide +kernel
theorem dX1_bytesThatCannotLeave_50 : decode cX1_bytesThatCannotLeave 50 = .ok (.iload_n 1, 1) := by decide +kernel
theorem dX1_bytesThatCannotLeave_51 : decode cX1_bytesThatCannotLeave 51 = .ok (.aload 5, 2) := by decide +kernel
theorem dX1_bytesThatCannotLeave_53 : decode cX1_bytesThatCannotLeave 53 = .ok (.getfield 41, 3) := by decide +kernel
theorem dX1_bytesThatCannotLeave_56 : decode cX1_bytesThatCannotLeave 56 = .ok (.iadd, 1) := by decide +kernel
theorem dX1_bytesThatCannotLeave_57 : decode cX1_bytesThatCannotLeave 57 = .ok (.istore_n 1, 1) := by decide +kernel
theorem dX1_bytesThatCannotLeave_58 : decode cX1_bytesThatCannotLeave 58 = .ok (.iinc 4 1, 3) := by decide +kernel
theorem dX1_bytesThatCannotLeave_61 : decode cX1_bytesThatCannotLeave 61 = .ok (.goto (-48), 3) := by decide +kernel
theorem dX1_bytesThatCannotLeave_64 : decode cX1_bytesThatCannotLeave 64 = .ok (.iload_n 1, 1) := by decide +kernel
theorem dX1_bytesThatCannotLeave_65 : decode cX1_bytesThatCannotLeave 65 = .ok (.ireturn, 1) := by decide +kernel
set_option maxRecDepth 20000 in
theorem ggX1_leaveDownTo_X1_firstInOrder : GoodIn wsX1_leaveDownTo wsX1_firstInOrder := goodIn_r _ [11, 12, 13, 14, 10, 15, 16, 17, 18, 19, 20, 21, 22, 36, 37, 38, 39, 40, 41, 42, 43, 44, 45, 46, 47, 48, 27, 28, 29, 30, 31, 32, 33, 34, 35] (by decide +kernel) (by decide +kernel)
set_option maxRecDepth 20000 in
theorem gX1_leaveDownTo_X1_firstInOrder : GoodIn wsX1_leaveDownTo (wsV RX1 97 RX1 yX1_firstInOrder wsX1_firstInOrder) := goodIn_app (goodIn_of _ (by decide +kernel)) ggX1_leaveDownTo_X1_firstInOrder
set_option maxRecDepth 20000 in
theorem ggX1_leaveDownTo_X1_used : GoodIn wsX1_leaveDownTo wsX1_used := goodIn_r _ [26, 16, 36, 37, 38, 39, 40, 41, 42, 43, 44, 45, 46, 47, 48, 27, 28, 29, 30, 31, 32, 33, 34, 35] (by decide +kernel) (by decide +kernel)
set_option maxRecDepth 20000 in
theorem gX1_leaveDownTo_X1_used : GoodIn wsX1_leaveDownTo (wsV RX1 78 RX1 yX1_used wsX1_used) := goodIn_app (goodIn_of _ (by decide +kernel)) ggX1_leaveDownTo_X1_used
theorem dX1_leaveDownTo_0 : decode cX1_leaveDownTo 0 = .ok (.iconst 0, 1) := by decide +kernel
theorem dX1_leaveDownTo_1 : decode cX1_leaveDownTo 1 = .ok (.istore_n 2, 1) := by decide +kernel
theorem dX1_leaveDownTo_2 : decode cX1_leaveDownTo 2 = .ok (.aload_n 0, 1) := by decide +kernel
theorem dX1_leaveDownTo_3 : decode cX1_leaveDownTo 3 = .ok (.invokevirtual 97, 3) := by decide +kernel
theorem dX1_leaveDownTo_6 : decode cX1_leaveDownTo 6 = .ok (.astore_n 3, 1) := by decide +kernel
theorem dX1_leaveDownTo_7 : decode cX1_leaveDownTo 7 = .ok (.iload_n 2, 1) := by decide +kernel
theorem dX1_leaveDownTo_8 : decode cX1_leaveDownTo 8 = .ok (.bipush 32, 2) := by decide +kernel
theorem dX1_leaveDownTo_10 : decode cX1_leaveDownTo 10 = .ok (.if_icmp .ge 46, 3) := by decide +kernel
theorem dX1_leaveDownTo_13 : decode cX1_leaveDownTo 13 = .ok (.aload_n 3, 1) := by decide +kernel
theorem dX1_leaveDownTo_14 : decode cX1_leaveDownTo 14 = .ok (.ifnull 42, 3) := by decide +kernel
theorem dX1_leaveDownTo_17 : decode cX1_leaveDownTo 17 = .ok (.aload_n 0, 1) := by decide +kernel
theorem dX1_leaveDownTo_18 : decode cX1_leaveDownTo 18 = .ok (.invokevirtual 78, 3) := by decide +kernel
theorem dX1_leaveDownTo_21 : decode cX1_leaveDownTo 21 = .ok (.iload_n 1, 1) := by decide +kernel
theorem dX1_leaveDownTo_22 : decode cX1_leaveDownTo 22 = .ok (.if_icmp .le 34, 3) := by decide +kernel
theorem dX1_leaveDownTo_25 : decode cX1_leaveDownTo 25 = .ok (.aload_n 3, 1) := by decide +kernel
theorem dX1_leaveDownTo_26 : decode cX1_leaveDownTo 26 = .ok (.iconst 0, 1) := by decide +kernel
theorem dX1_leaveDownTo_27 : decode cX1_leaveDownTo 27 = .ok (.putfield 33, 3) := by decide +kernel
theorem dX1_leaveDownTo_30 : decode cX1_leaveDownTo 30 = .ok (.aload_n 0, 1) := by decide +kernel
theorem dX1_leaveDownTo_31 : decode cX1_leaveDownTo 31 = .ok (.aload_n 0, 1) := by decide +kernel
theorem dX1_leaveDownTo_32 : decode cX1_leaveDownTo 32 = .ok (.getfield 123, 3) := by decide +kernel
theorem dX1_leaveDownTo_35 : decode cX1_leaveDownTo 35 = .ok (.aload_n 3, 1) := by decide +kernel
theorem dX1_leaveDownTo_36 : decode cX1_leaveDownTo 36 = .ok (.getfield 88, 3) := by decide +kernel
theorem dX1_leaveDownTo_39 : decode cX1_leaveDownTo 39 = .ok (.invokestatic 188, 3) := by decide +kernel
theorem dX1_leaveDownTo_42 : decode cX1_leaveDownTo 42 = .ok (.putfield 123, 3) := by decide +kernel
theorem dX1_leaveDownTo_45 : decode cX1_leaveDownTo 45 = .ok (.iinc 2 1, 3) := by decide +kernel
theorem dX1_leaveDownTo_48 : decode cX1_leaveDownTo 48 = .ok (.aload_n 0, 1) := by decide +kernel
theorem dX1_leaveDownTo_49 : decode cX1_leaveDownTo 49 = .ok (.invokevirtual 97, 3) := by decide +kernel
theorem dX1_leaveDownTo_52 : decode cX1_leaveDownTo 52 = .ok (.astore_n 3, 1) := by decide +kernel
theorem dX1_leaveDownTo_53 : decode cX1_leaveDownTo 53 = .ok (.goto (-46), 3) := by decide +kernel
theorem dX1_leaveDownTo_56 : decode cX1_leaveDownTo 56 = .ok (.aload_n 0, 1) := by decide +kernel
theorem dX1_leaveDownTo_57 : decode cX1_leaveDownTo 57 = .ok (.dup, 1) := by decide +kernel
theorem dX1_leaveDownTo_58 : decode cX1_leaveDownTo 58 = .ok (.getfield 141, 3) := by decide +kernel
theorem dX1_leaveDownTo_61 : decode cX1_leaveDownTo 61 = .ok (.iload_n 2, 1) := by decide +kernel
theorem dX1_leaveDownTo_62 : decode cX1_leaveDownTo 62 = .ok (.iadd, 1) := by decide +kernel
theorem dX1_leaveDownTo_63 : decode cX1_leaveDownTo 63 = .ok (.putfield 141, 3) := by decide +kernel
theorem dX1_leaveDownTo_66 : decode cX1_leaveDownTo 66 = .ok (.iload_n 2, 1) := by decide +kernel
theorem dX1_leaveDownTo_67 : decode cX1_leaveDownTo 67 = .ok (.ireturn, 1) := by decide +kernel
set_option maxRecDepth 20000 in
theorem ggX1_countThatWouldLeave_X1_bytesNotOver : GoodIn wsX1_countThatWouldLeave wsX1_bytesNotOver := goodIn_r _ [6, 7, 8, 9, 10, 5, 11, 12, 27, 28, 29, 30, 31, 32, 33, 34, 35, 36, 37, 38, 39, 40, 41, 42, 43, 44, 45, 46, 47, 48] (by decide +kernel) (by decide +kernel)
set_option maxRecDepth 20000 in
theorem gX1_countThatWouldLeave_X1_bytesNotOver : GoodIn wsX1_countThatWouldLeave (wsV RX1 194 RX1 yX1_bytesNotOver wsX1_bytesNotOver) := goodIn_app (goodIn_of _ (by decide +kernel)) ggX1_countThatWouldLeave_X1_bytesNotOver
set_option maxRecDepth 20000 in
theorem ggX1_countThatWouldLeave_X1_firstInOrder : GoodIn wsX1_countThatWouldLeave wsX1_firstInOrder := goodIn_r _ [16, 17, 18, 19, 5, 20, 7, 21, 22, 23, 24, 25, 26, 27, 28, 29, 30, 31, 32, 33, 34, 35, 36, 37, 38, 39, 40, 41, 42, 43, 44, 45, 46, 47, 48] (by decide +kernel) (by decide +kernel)
set_option maxRecDepth 20000 in
theorem gX1_countThatWouldLeave_X1_firstInOrder : GoodIn wsX1_countThatWouldLeave (wsV RX1 97 RX1 yX1_firstInOrder wsX1_firstInOrder) := goodIn_app (goodIn_of _ (by decide +kernel)) ggX1_countThatWouldLeave_X1_firstInOrder
set_option maxRecDepth 20000 in
theorem ggX1_countThatWouldLeave_X1_hasEnded : GoodIn wsX1_countThatWouldLeave wsX1_hasEnded := goodIn_r _ [11, 12, 27, 28, 29, 30, 31, 32, 33, 34, 35, 36, 37, 38, 39, 40, 41, 42, 43, 44, 45, 46, 47, 48] (by decide +kernel) (by decide +kernel)
set_option maxRecDepth 20000 in
theorem gX1_countThatWouldLeave_X1_hasEnded : GoodIn wsX1_countThatWouldLeave (wsV RX1 37 RX1 yX1_hasEnded wsX1_hasEnded) := goodIn_app (goodIn_of _ (by decide +kernel)) ggX1_countThatWouldLeave_X1_hasEnded
set_option maxRecDepth 20000 in
theorem ggX1_countThatWouldLeave_X1_nextInOrder : GoodIn wsX1_countThatWouldLeave wsX1_nextInOrder := goodIn_r _ [20, 7, 21, 22, 5, 23, 24, 25, 26, 27, 28, 29, 30, 31, 32, 33, 34, 35, 36, 37, 38, 39, 40, 41, 42, 43, 44, 45, 46, 47, 48] (by decide +kernel) (by decide +kernel)
set_option maxRecDepth 20000 in
theorem gX1_countThatWouldLeave_X1_nextInOrder : GoodIn wsX1_countThatWouldLeave (wsV RX1 101 RX1 yX1_nextInOrder wsX1_nextInOrder) := goodIn_app (goodIn_of _ (by decide +kernel)) ggX1_countThatWouldLeave_X1_nextInOrder
theorem dX1_countThatWouldLeave_0 : decode cX1_countThatWouldLeave 0 = .ok (.aload_n 0, 1) := by decide +kernel
theorem dX1_countThatWouldLeave_1 : decode cX1_countThatWouldLeave 1 = .ok (.invokevirtual 194, 3) := by decide +kernel
theorem dX1_countThatWouldLeave_4 : decode cX1_countThatWouldLeave 4 = .ok (.istore_n 2, 1) := by decide +kernel
theorem dX1_countThatWouldLeave_5 : decode cX1_countThatWouldLeave 5 = .ok (.iconst 0, 1) := by decide +kernel
theorem dX1_countThatWouldLeave_6 : decode cX1_countThatWouldLeave 6 = .ok (.istore_n 3, 1) := by decide +kernel
theorem dX1_countThatWouldLeave_7 : decode cX1_countThatWouldLeave 7 = .ok (.aload_n 0, 1) := by decide +kernel
theorem dX1_countThatWouldLeave_8 : decode cX1_countThatWouldLeave 8 = .ok (.invokevirtual 97, 3) := by decide +kernel
theorem dX1_countThatWouldLeave_11 : decode cX1_countThatWouldLeave 11 = .ok (.astore 4, 2) := by decide +kernel
theorem dX1_countThatWouldLeave_13 : decode cX1_countThatWouldLeave 13 = .ok (.iconst 0, 1) := by decide +kernel
theorem dX1_countThatWouldLeave_14 : decode cX1_countThatWouldLeave 14 = .ok (.istore 5, 2) := by decide +kernel
theorem dX1_countThatWouldLeave_16 : decode cX1_countThatWouldLeave 16 = .ok (.iload 5, 2) := by decide +kernel
theorem dX1_countThatWouldLeave_18 : decode cX1_countThatWouldLeave 18 = .ok (.bipush 32, 2) := by decide +kernel
theorem dX1_countThatWouldLeave_20 : decode cX1_countThatWouldLeave 20 = .ok (.if_icmp .ge 52, 3) := by decide +kernel
theorem dX1_countThatWouldLeave_23 : decode cX1_countThatWouldLeave 23 = .ok (.aload 4, 2) := by decide +kernel
theorem dX1_countThatWouldLeave_25 : decode cX1_countThatWouldLeave 25 = .ok (.ifnull 47, 3) := by decide +kernel
theorem dX1_countThatWouldLeave_28 : decode cX1_countThatWouldLeave 28 = .ok (.iload_n 2, 1) := by decide +kernel
theorem dX1_countThatWouldLeave_29 : decode cX1_countThatWouldLeave 29 = .ok (.aload_n 0, 1) := by decide +kernel
theorem dX1_countThatWouldLeave_30 : decode cX1_countThatWouldLeave 30 = .ok (.getfield 15, 3) := by decide +kernel
theorem dX1_countThatWouldLeave_33 : decode cX1_countThatWouldLeave 33 = .ok (.iload_n 1, 1) := by decide +kernel
theorem dX1_countThatWouldLeave_34 : decode cX1_countThatWouldLeave 34 = .ok (.isub, 1) := by decide +kernel
theorem dX1_countThatWouldLeave_35 : decode cX1_countThatWouldLeave 35 = .ok (.if_icmp .le 37, 3) := by decide +kernel
theorem dX1_countThatWouldLeave_38 : decode cX1_countThatWouldLeave 38 = .ok (.aload_n 0, 1) := by decide +kernel
theorem dX1_countThatWouldLeave_39 : decode cX1_countThatWouldLeave 39 = .ok (.aload 4, 2) := by decide +kernel
theorem dX1_countThatWouldLeave_41 : decode cX1_countThatWouldLeave 41 = .ok (.invokevirtual 37, 3) := by decide +kernel
theorem dX1_countThatWouldLeave_44 : decode cX1_countThatWouldLeave 44 = .ok (.ifCond .ne 14, 3) := by decide +kernel
theorem dX1_countThatWouldLeave_47 : decode cX1_countThatWouldLeave 47 = .ok (.iload_n 2, 1) := by decide +kernel
theorem dX1_countThatWouldLeave_48 : decode cX1_countThatWouldLeave 48 = .ok (.aload 4, 2) := by decide +kernel
theorem dX1_countThatWouldLeave_50 : decode cX1_countThatWouldLeave 50 = .ok (.getfield 41, 3) := by decide +kernel
theorem dX1_countThatWouldLeave_53 : decode cX1_countThatWouldLeave 53 = .ok (.isub, 1) := by decide +kernel
theorem dX1_countThatWouldLeave_54 : decode cX1_countThatWouldLeave 54 = .ok (.istore_n 2, 1) := by decide +kernel
theorem dX1_countThatWouldLeave_55 : decode cX1_countThatWouldLeave 55 = .ok (.iinc 3 1, 3) := by decide +kernel
theorem dX1_countThatWouldLeave_58 : decode cX1_countThatWouldLeave 58 = .ok (.aload_n 0, 1) := by decide +kernel
theorem dX1_countThatWouldLeave_59 : decode cX1_countThatWouldLeave 59 = .ok (.aload 4, 2) := by decide +kernel
theorem dX1_countThatWouldLeave_61 : decode cX1_countThatWouldLeave 61 = .ok (.invokevirtual 101, 3) := by decide +kernel
theorem dX1_countThatWouldLeave_64 : decode cX1_countThatWouldLeave 64 = .ok (.astore 4, 2) := by decide +kernel
theorem dX1_countThatWouldLeave_66 : decode cX1_countThatWouldLeave 66 = .ok (.iinc 5 1, 3) := by decide +kernel
theorem dX1_countThatWouldLeave_69 : decode cX1_countThatWouldLeave 69 = .ok (.goto (-53), 3) := by decide +kernel
theorem dX1_countThatWouldLeave_72 : decode cX1_countThatWouldLeave 72 = .ok (.iload_n 3, 1) := by decide +kernel
theorem dX1_countThatWouldLeave_73 : decode cX1_countThatWouldLeave 73 = .ok (.ireturn, 1) := by decide +kernel
set_option maxRecDepth 20000 in
theorem ggX1_bytesNotOver_X1_hasEnded : GoodIn wsX1_bytesNotOver wsX1_hasEnded := goodIn_r _ [6, 7, 8, 9, 10, 11, 12, 13, 14, 15, 16, 17, 18, 19, 20, 21, 22, 23, 24, 25, 26, 27, 28, 29] (by decide +kernel) (by decide +kernel)
set_option maxRecDepth 20000 in
theorem gX1_bytesNotOver_X1_hasEnded : GoodIn wsX1_bytesNotOver (wsV RX1 37 RX1 yX1_hasEnded wsX1_hasEnded) := goodIn_app (goodIn_of _ (by decide +kernel)) ggX1_bytesNotOver_X1_hasEnded
theorem dX1_bytesNotOver_0 : decode cX1_bytesNotOver 0 = .ok (.iconst 0, 1) := by decide +kernel
theorem dX1_bytesNotOver_1 : decode cX1_bytesNotOver 1 = .ok (.istore_n 1, 1) := by decide +kernel
theorem dX1_bytesNotOver_2 : decode cX1_bytesNotOver 2 = .ok (.aload_n 0, 1) := by decide +kernel
theorem dX1_bytesNotOver_3 : decode cX1_bytesNotOver 3 = .ok (.getfield 11, 3) := by decide +kernel
theorem dX1_bytesNotOver_6 : decode cX1_bytesNotOver 6 = .ok (.astore_n 2, 1) := by decide +kernel
theorem dX1_bytesNotOver_7 : decode cX1_bytesNotOver 7 = .ok (.aload_n 2, 1) := by decide +kernel
theorem dX1_bytesNotOver_8 : decode cX1_bytesNotOver 8 = .ok (.arraylength, 1) := by decide +kernel
theorem dX1_bytesNotOver_9 : decode cX1_bytesNotOver 9 = .ok (.istore_n 3, 1) := by decide +kernel
theorem dX1_bytesNotOver_10 : decode cX1_bytesNotOver 10 = .ok (.iconst 0, 1) := by decide +kernel
theorem dX1_bytesNotOver_11 : decode cX1_bytesNotOver 11 = .ok (.istore 4, 2) := by decide +kernel
theorem dX1_bytesNotOver_13 : decode cX1_bytesNotOver 13 = .ok (.iload 4, 2) := by decide +kernel
theorem dX1_bytesNotOver_15 : decode cX1_bytesNotOver 15 = .ok (.iload_n 3, 1) := by decide +kernel
theorem dX1_bytesNotOver_16 : decode cX1_bytesNotOver 16 = .ok (.if_icmp .ge 40, 3) := by decide +kernel
theorem dX1_bytesNotOver_19 : decode cX1_bytesNotOver 19 = .ok (.aload_n 2, 1) := by decide +kernel
theorem dX1_bytesNotOver_20 : decode cX1_bytesNotOver 20 = .ok (.iload 4, 2) := by decide +kernel
theorem dX1_bytesNotOver_22 : decode cX1_bytesNotOver 22 = .ok (.aaload, 1) := by decide +kernel
theorem dX1_bytesNotOver_23 : decode cX1_bytesNotOver 23 = .ok (.astore 5, 2) := by decide +kernel
theorem dX1_bytesNotOver_25 : decode cX1_bytesNotOver 25 = .ok (.aload 5, 2) := by decide +kernel
theorem dX1_bytesNotOver_27 : decode cX1_bytesNotOver 27 = .ok (.getfield 33, 3) := by decide +kernel
theorem dX1_bytesNotOver_30 : decode cX1_bytesNotOver 30 = .ok (.ifCond .eq 20, 3) := by decide +kernel
theorem dX1_bytesNotOver_33 : decode cX1_bytesNotOver 33 = .ok (.aload_n 0, 1) := by decide +kernel
theorem dX1_bytesNotOver_34 : decode cX1_bytesNotOver 34 = .ok (.aload 5, 2) := by decide +kernel
theorem dX1_bytesNotOver_36 : decode cX1_bytesNotOver 36 = .ok (.invokevirtual 37, 3) := by decide +kernel
theorem dX1_bytesNotOver_39 : decode cX1_bytesNotOver 39 = .ok (.ifCond .ne 11, 3) := by decide +kernel
theorem dX1_bytesNotOver_42 : decode cX1_bytesNotOver 42 = .ok (.iload_n 1, 1) := by decide +kernel
theorem dX1_bytesNotOver_43 : decode cX1_bytesNotOver 43 = .ok (.aload 5, 2) := by decide +kernel
theorem dX1_bytesNotOver_45 : decode cX1_bytesNotOver 45 = .ok (.getfield 41, 3) := by decide +kernel
theorem dX1_bytesNotOver_48 : decode cX1_bytesNotOver 48 = .ok (.iadd, 1) := by decide +kernel
theorem dX1_bytesNotOver_49 : decode cX1_bytesNotOver 49 = .ok (.istore_n 1, 1) := by decide +kernel
theorem dX1_bytesNotOver_50 : decode cX1_bytesNotOver 50 = .ok (.iinc 4 1, 3) := by decide +kernel
theorem dX1_bytesNotOver_53 : decode cX1_bytesNotOver 53 = .ok (.goto (-40), 3) := by decide +kernel
theorem dX1_bytesNotOver_56 : decode cX1_bytesNotOver 56 = .ok (.iload_n 1, 1) := by decide +kernel
theorem dX1_bytesNotOver_57 : decode cX1_bytesNotOver 57 = .ok (.ireturn, 1) := by decide +kernel
theorem dX1_isInOrder_0 : decode cX1_isInOrder 0 = .ok (.aload_n 0, 1) := by decide +kernel
theorem dX1_isInOrder_1 : decode cX1_isInOrder 1 = .ok (.getfield 33, 3) := by decide +kernel
theorem dX1_isInOrder_4 : decode cX1_isInOrder 4 = .ok (.ifCond .eq 14, 3) := by decide +kernel
theorem dX1_isInOrder_7 : decode cX1_isInOrder 7 = .ok (.aload_n 0, 1) := by decide +kernel
theorem dX1_isInOrder_8 : decode cX1_isInOrder 8 = .ok (.getfield 61, 3) := by decide +kernel
theorem dX1_isInOrder_11 : decode cX1_isInOrder 11 = .ok (.ifCond .ne 7, 3) := by decide +kernel
theorem dX1_isInOrder_14 : decode cX1_isInOrder 14 = .ok (.iconst 1, 1) := by decide +kernel
theorem dX1_isInOrder_15 : decode cX1_isInOrder 15 = .ok (.goto 4, 3) := by decide +kernel
theorem dX1_isInOrder_18 : decode cX1_isInOrder 18 = .ok (.iconst 0, 1) := by decide +kernel
theorem dX1_isInOrder_19 : decode cX1_isInOrder 19 = .ok (.ireturn, 1) := by decide +kernel
theorem dX1_leavesBefore_0 : decode cX1_leavesBefore 0 = .ok (.aload_n 0, 1) := by decide +kernel
theorem dX1_leavesBefore_1 : decode cX1_leavesBefore 1 = .ok (.getfield 88, 3) := by decide +kernel
theorem dX1_leavesBefore_4 : decode cX1_leavesBefore 4 = .ok (.aload_n 1, 1) := by decide +kernel
theorem dX1_leavesBefore_5 : decode cX1_leavesBefore 5 = .ok (.getfield 88, 3) := by decide +kernel
theorem dX1_leavesBefore_8 : decode cX1_leavesBefore 8 = .ok (.lcmp, 1) := by decide +kernel
theorem dX1_leavesBefore_9 : decode cX1_leavesBefore 9 = .ok (.ifCond .lt 27, 3) := by decide +kernel
theorem dX1_leavesBefore_12 : decode cX1_leavesBefore 12 = .ok (.aload_n 0, 1) := by decide +kernel
theorem dX1_leavesBefore_13 : decode cX1_leavesBefore 13 = .ok (.getfield 88, 3) := by decide +kernel
theorem dX1_leavesBefore_16 : decode cX1_leavesBefore 16 = .ok (.aload_n 1, 1) := by decide +kernel
theorem dX1_leavesBefore_17 : decode cX1_leavesBefore 17 = .ok (.getfield 88, 3) := by decide +kernel
theorem dX1_leavesBefore_20 : decode cX1_leavesBefore 20 = .ok (.lcmp, 1) := by decide +kernel
theorem dX1_leavesBefore_21 : decode cX1_leavesBefore 21 = .ok (.ifCond .ne 19, 3) := by decide +kernel
theorem dX1_leavesBefore_24 : decode cX1_leavesBefore 24 = .ok (.aload_n 0, 1) := by decide +kernel
theorem dX1_leavesBefore_25 : decode cX1_leavesBefore 25 = .ok (.getfield 183, 3) := by decide +kernel
theorem dX1_leavesBefore_28 : decode cX1_leavesBefore 28 = .ok (.aload_n 1, 1) := by decide +kernel
theorem dX1_leavesBefore_29 : decode cX1_leavesBefore 29 = .ok (.getfield 183, 3) := by decide +kernel
theorem dX1_leavesBefore_32 : decode cX1_leavesBefore 32 = .ok (.lcmp, 1) := by decide +kernel
theorem dX1_leavesBefore_33 : decode cX1_leavesBefore 33 = .ok (.ifCond .ge 7, 3) := by decide +kernel
theorem dX1_leavesBefore_36 : decode cX1_leavesBefore 36 = .ok (.iconst 1, 1) := by decide +kernel
theorem dX1_leavesBefore_37 : decode cX1_leavesBefore 37 = .ok (.goto 4, 3) := by decide +kernel
theorem dX1_leavesBefore_40 : decode cX1_leavesBefore 40 = .ok (.iconst 0, 1) := by decide +kernel
theorem dX1_leavesBefore_41 : decode cX1_leavesBefore 41 = .ok (.ireturn, 1) := by decide +kernel
set_option maxRecDepth 20000 in
theorem ggX1_firstInOrder_X1_nextInOrder : GoodIn wsX1_firstInOrder wsX1_nextInOrder := goodIn_r _ [5, 6, 7, 8, 4, 9, 10, 11, 12, 13, 14, 15, 16, 17, 18, 19, 20, 21, 22, 23, 24, 25, 26, 27, 28, 29, 30, 31, 32, 33, 34] (by decide +kernel) (by decide +kernel)
set_option maxRecDepth 20000 in
theorem gX1_firstInOrder_X1_nextInOrder : GoodIn wsX1_firstInOrder (wsV RX1 101 RX1 yX1_nextInOrder wsX1_nextInOrder) := goodIn_app (goodIn_of _ (by decide +kernel)) ggX1_firstInOrder_X1_nextInOrder
theorem dX1_firstInOrder_0 : decode cX1_firstInOrder 0 = .ok (.aload_n 0, 1) := by decide +kernel
theorem dX1_firstInOrder_1 : decode cX1_firstInOrder 1 = .ok (.aconst_null, 1) := by decide +kernel
theorem dX1_firstInOrder_2 : decode cX1_firstInOrder 2 = .ok (.invokevirtual 101, 3) := by decide +kernel
theorem dX1_firstInOrder_5 : decode cX1_firstInOrder 5 = .ok (.areturn, 1) := by decide +kernel
set_option maxRecDepth 20000 in
theorem ggX1_nextInOrder_X1_leavesBefore : GoodIn wsX1_nextInOrder wsX1_leavesBefore := goodIn_r _ [5, 22, 23, 24, 25, 26, 27, 28, 29, 30] (by decide +kernel) (by decide +kernel)
set_option maxRecDepth 20000 in
theorem gX1_nextInOrder_X1_leavesBefore : GoodIn wsX1_nextInOrder (va_wsS RX1 116 yX1_leavesBefore wsX1_leavesBefore) := goodIn_app (goodIn_of _ (by decide +kernel)) ggX1_nextInOrder_X1_leavesBefore
set_option maxRecDepth 20000 in
theorem ggX1_nextInOrder_X1_isInOrder : GoodIn wsX1_nextInOrder wsX1_isInOrder := goodIn_r _ [8, 22, 23, 24, 25, 26, 27, 28, 29, 30] (by decide +kernel) (by decide +kernel)
set_option maxRecDepth 20000 in
theorem gX1_nextInOrder_X1_isInOrder : GoodIn wsX1_nextInOrder (va_wsS RX1 113 yX1_isInOrder wsX1_isInOrder) := goodIn_app (goodIn_of _ (by decide +kernel)) ggX1_nextInOrder_X1_isInOrder
theorem dX1_nextInOrder_0 : decode cX1_nextInOrder 0 = .ok (.aconst_null, 1) := by decide +kernel
theorem dX1_nextInOrder_1 : decode cX1_nextInOrder 1 = .ok (.astore_n 2, 1) := by decide +kernel
theorem dX1_nextInOrder_2 : decode cX1_nextInOrder 2 = .ok (.aload_n 0, 1) := by decide +kernel
theorem dX1_nextInOrder_3 : decode cX1_nextInOrder 3 = .ok (.getfield 11, 3) := by decide +kernel
theorem dX1_nextInOrder_6 : decode cX1_nextInOrder 6 = .ok (.astore_n 3, 1) := by decide +kernel
theorem dX1_nextInOrder_7 : decode cX1_nextInOrder 7 = .ok (.aload_n 3, 1) := by decide +kernel
theorem dX1_nextInOrder_8 : decode cX1_nextInOrder 8 = .ok (.arraylength, 1) := by decide +kernel
theorem dX1_nextInOrder_9 : decode cX1_nextInOrder 9 = .ok (.istore 4, 2) := by decide +kernel
theorem dX1_nextInOrder_11 : decode cX1_nextInOrder 11 = .ok (.iconst 0, 1) := by decide +kernel
theorem dX1_nextInOrder_12 : decode cX1_nextInOrder 12 = .ok (.istore 5, 2) := by decide +kernel
theorem dX1_nextInOrder_14 : decode cX1_nextInOrder 14 = .ok (.iload 5, 2) := by decide +kernel
theorem dX1_nextInOrder_16 : decode cX1_nextInOrder 16 = .ok (.iload 4, 2) := by decide +kernel
theorem dX1_nextInOrder_18 : decode cX1_nextInOrder 18 = .ok (.if_icmp .ge 64, 3) := by decide +kernel
theorem dX1_nextInOrder_21 : decode cX1_nextInOrder 21 = .ok (.aload_n 3, 1) := by decide +kernel
theorem dX1_nextInOrder_22 : decode cX1_nextInOrder 22 = .ok (.iload 5, 2) := by decide +kernel
theorem dX1_nextInOrder_24 : decode cX1_nextInOrder 24 = .ok (.aaload, 1) := by decide +kernel
theorem dX1_nextInOrder_25 : decode cX1_nextInOrder 25 = .ok (.astore 6, 2) := by decide +kernel
theorem dX1_nextInOrder_27 : decode cX1_nextInOrder 27 = .ok (.aload_n 1, 1) := by decide +kernel
theorem dX1_nextInOrder_28 : decode cX1_nextInOrder 28 = .ok (.ifnull 12, 3) := by decide +kernel
theorem dX1_nextInOrder_31 : decode cX1_nextInOrder 31 = .ok (.aload_n 1, 1) := by decide +kernel
theorem dX1_nextInOrder_32 : decode cX1_nextInOrder 32 = .ok (.aload 6, 2) := by decide +kernel
theorem dX1_nextInOrder_34 : decode cX1_nextInOrder 34 = .ok (.invokestatic 116, 3) := by decide +kernel
theorem dX1_nextInOrder_37 : decode cX1_nextInOrder 37 = .ok (.ifCond .eq 7, 3) := by decide +kernel
theorem dX1_nextInOrder_40 : decode cX1_nextInOrder 40 = .ok (.iconst 1, 1) := by decide +kernel
theorem dX1_nextInOrder_41 : decode cX1_nextInOrder 41 = .ok (.goto 4, 3) := by decide +kernel
theorem dX1_nextInOrder_44 : decode cX1_nextInOrder 44 = .ok (.iconst 0, 1) := by decide +kernel
theorem dX1_nextInOrder_45 : decode cX1_nextInOrder 45 = .ok (.istore 7, 2) := by decide +kernel
theorem dX1_nextInOrder_47 : decode cX1_nextInOrder 47 = .ok (.aload 6, 2) := by decide +kernel
theorem dX1_nextInOrder_49 : decode cX1_nextInOrder 49 = .ok (.invokestatic 113, 3) := by decide +kernel
theorem dX1_nextInOrder_52 : decode cX1_nextInOrder 52 = .ok (.ifCond .eq 24, 3) := by decide +kernel
theorem dX1_nextInOrder_55 : decode cX1_nextInOrder 55 = .ok (.iload 7, 2) := by decide +kernel
theorem dX1_nextInOrder_57 : decode cX1_nextInOrder 57 = .ok (.ifCond .eq 19, 3) := by decide +kernel
theorem dX1_nextInOrder_60 : decode cX1_nextInOrder 60 = .ok (.aload_n 2, 1) := by decide +kernel
theorem dX1_nextInOrder_61 : decode cX1_nextInOrder 61 = .ok (.ifnull 12, 3) := by decide +kernel
theorem dX1_nextInOrder_64 : decode cX1_nextInOrder 64 = .ok (.aload 6, 2) := by decide +kernel
theorem dX1_nextInOrder_66 : decode cX1_nextInOrder 66 = .ok (.aload_n 2, 1) := by decide +kernel
theorem dX1_nextInOrder_67 : decode cX1_nextInOrder 67 = .ok (.invokestatic 116, 3) := by decide +kernel
theorem dX1_nextInOrder_70 : decode cX1_nextInOrder 70 = .ok (.ifCond .eq 6, 3) := by decide +kernel
theorem dX1_nextInOrder_73 : decode cX1_nextInOrder 73 = .ok (.aload 6, 2) := by decide +kernel
theorem dX1_nextInOrder_75 : decode cX1_nextInOrder 75 = .ok (.astore_n 2, 1) := by decide +kernel
theorem dX1_nextInOrder_76 : decode cX1_nextInOrder 76 = .ok (.iinc 5 1, 3) := by decide +kernel
theorem dX1_nextInOrder_79 : decode cX1_nextInOrder 79 = .ok (.goto (-65), 3) := by decide +kernel
theorem dX1_nextInOrder_82 : decode cX1_nextInOrder 82 = .ok (.aload_n 2, 1) := by decide +kernel
theorem dX1_nextInOrder_83 : decode cX1_nextInOrder 83 = .ok (.areturn, 1) := by decide +kernel
theorem dJ9_max_f86c9_0 : decode cJ9_max_f86c9 0 = .ok (.lload_n 0, 1) := by decide +kernel
theorem dJ9_max_f86c9_1 : decode cJ9_max_f86c9 1 = .ok (.lload_n 2, 1) := by decide +kernel
theorem dJ9_max_f86c9_2 : decode cJ9_max_f86c9 2 = .ok (.lcmp, 1) := by decide +kernel
theorem dJ9_max_f86c9_3 : decode cJ9_max_f86c9 3 = .ok (.ifCond .lt 7, 3) := by decide +kernel
theorem dJ9_max_f86c9_6 : decode cJ9_max_f86c9 6 = .ok (.lload_n 0, 1) := by decide +kernel
theorem dJ9_max_f86c9_7 : decode cJ9_max_f86c9 7 = .ok (.goto 4, 3) := by decide +kernel
theorem dJ9_max_f86c9_10 : decode cJ9_max_f86c9 10 = .ok (.lload_n 2, 1) := by decide +kernel
theorem dJ9_max_f86c9_11 : decode cJ9_max_f86c9 11 = .ok (.lreturn, 1) := by decide +kernel
