theorem dL_fetch_0 : decode cL_fetch 0 = .ok (.aload 5, 2) := by decide +kernel
theorem dL_fetch_2 : decode cL_fetch 2 = .ok (.iconst 0, 1) := by decide +kernel
theorem dL_fetch_3 : decode cL_fetch 3 = .ok (.aload_n 0, 1) := by decide +kernel
theorem dL_fetch_4 : decode cL_fetch 4 = .ok (.iload_n 1, 1) := by decide +kernel
theorem dL_fetch_5 : decode cL_fetch 5 = .ok (.iload_n 2, 1) := by decide +kernel
theorem dL_fetch_6 : decode cL_fetch 6 = .ok (.iload_n 3, 1) := by decide +kernel
theorem dL_fetch_7 : decode cL_fetch 7 = .ok (.iload 4, 2) := by decide +kernel
theorem dL_fetch_9 : decode cL_fetch 9 = .ok (.invokevirtual 7, 3) := by decide +kernel
theorem dL_fetch_12 : decode cL_fetch 12 = .ok (.i2l, 1) := by decide +kernel
theorem dL_fetch_13 : decode cL_fetch 13 = .ok (.lastore, 1) := by decide +kernel
theorem dL_fetch_14 : decode cL_fetch 14 = .ok (.goto 11, 3) := by decide +kernel
theorem dL_fetch_17 : decode cL_fetch 17 = .ok (.astore 6, 2) := by decide +kernel
theorem dL_fetch_19 : decode cL_fetch 19 = .ok (.iconst 1, 1) := by decide +kernel
theorem dL_fetch_20 : decode cL_fetch 20 = .ok (.ireturn, 1) := by decide +kernel
theorem dL_fetch_21 : decode cL_fetch 21 = .ok (.astore 6, 2) := by decide +kernel
theorem dL_fetch_23 : decode cL_fetch 23 = .ok (.iconst 2, 1) := by decide +kernel
theorem dL_fetch_24 : decode cL_fetch 24 = .ok (.ireturn, 1) := by decide +kernel
theorem dL_fetch_25 : decode cL_fetch 25 = .ok (.iconst 0, 1) := by decide +kernel
theorem dL_fetch_26 : decode cL_fetch 26 = .ok (.ireturn, 1) := by decide +kernel
set_option maxRecDepth 20000 in
theorem ggL_pass_X1_pass : GoodIn wsL_pass wsX1_pass := goodIn_ca (goodIn_r _ [6, 7, 8, 9, 5, 10, 11, 12, 13, 14, 15, 16, 17, 18, 19, 20, 21, 22, 23, 24, 25] (by decide +kernel) (by decide +kernel)) (goodIn_sub (fun _ h => List.mem_cons_of_mem _ (List.mem_append_right _ h)) (by decide +kernel))
set_option maxRecDepth 20000 in
theorem gL_pass_X1_pass : GoodIn wsL_pass (wsV RL 17 RX1 yX1_pass wsX1_pass) := goodIn_app (goodIn_of _ (by decide +kernel)) ggL_pass_X1_pass
theorem dL_pass_0 : decode cL_pass 0 = .ok (.aload_n 2, 1) := by decide +kernel
theorem dL_pass_1 : decode cL_pass 1 = .ok (.iconst 0, 1) := by decide +kernel
theorem dL_pass_2 : decode cL_pass 2 = .ok (.aload_n 0, 1) := by decide +kernel
theorem dL_pass_3 : decode cL_pass 3 = .ok (.iload_n 1, 1) := by decide +kernel
theorem dL_pass_4 : decode cL_pass 4 = .ok (.invokevirtual 17, 3) := by decide +kernel
theorem dL_pass_7 : decode cL_pass 7 = .ok (.i2l, 1) := by decide +kernel
theorem dL_pass_8 : decode cL_pass 8 = .ok (.lastore, 1) := by decide +kernel
theorem dL_pass_9 : decode cL_pass 9 = .ok (.goto 6, 3) := by decide +kernel
theorem dL_pass_12 : decode cL_pass 12 = .ok (.astore_n 3, 1) := by decide +kernel
theorem dL_pass_13 : decode cL_pass 13 = .ok (.iconst 1, 1) := by decide +kernel
theorem dL_pass_14 : decode cL_pass 14 = .ok (.ireturn, 1) := by decide +kernel
theorem dL_pass_15 : decode cL_pass 15 = .ok (.iconst 0, 1) := by decide +kernel
theorem dL_pass_16 : decode cL_pass 16 = .ok (.ireturn, 1) := by decide +kernel
set_option maxRecDepth 20000 in
theorem ggL_pin_X1_pin : GoodIn wsL_pin wsX1_pin := goodIn_ca (goodIn_ca (goodIn_r _ [7, 8, 9, 10, 6, 11, 12, 13, 14, 15, 16, 17, 18, 19, 20, 21, 22, 23, 24, 25, 26, 27, 28, 29, 30, 31, 32, 33, 34, 35, 36, 37, 38, 39, 40, 41, 42] (by decide +kernel) (by decide +kernel)) (goodIn_sub (fun _ h => List.mem_cons_of_mem _ (List.mem_append_left _ (List.mem_append_right _ h))) (by decide +kernel))) (goodIn_sub (fun _ h => List.mem_cons_of_mem _ (List.mem_append_right _ h)) (by decide +kernel))
set_option maxRecDepth 20000 in
theorem gL_pin_X1_pin : GoodIn wsL_pin (wsV RL 21 RX1 yX1_pin wsX1_pin) := goodIn_app (goodIn_of _ (by decide +kernel)) ggL_pin_X1_pin
theorem dL_pin_0 : decode cL_pin 0 = .ok (.aload_n 3, 1) := by decide +kernel
theorem dL_pin_1 : decode cL_pin 1 = .ok (.iconst 0, 1) := by decide +kernel
theorem dL_pin_2 : decode cL_pin 2 = .ok (.aload_n 0, 1) := by decide +kernel
theorem dL_pin_3 : decode cL_pin 3 = .ok (.iload_n 1, 1) := by decide +kernel
theorem dL_pin_4 : decode cL_pin 4 = .ok (.iload_n 2, 1) := by decide +kernel
theorem dL_pin_5 : decode cL_pin 5 = .ok (.invokevirtual 21, 3) := by decide +kernel
theorem dL_pin_8 : decode cL_pin 8 = .ok (.ifCond .eq 7, 3) := by decide +kernel
theorem dL_pin_11 : decode cL_pin 11 = .ok (.lconst 1, 1) := by decide +kernel
theorem dL_pin_12 : decode cL_pin 12 = .ok (.goto 4, 3) := by decide +kernel
theorem dL_pin_15 : decode cL_pin 15 = .ok (.lconst 0, 1) := by decide +kernel
theorem dL_pin_16 : decode cL_pin 16 = .ok (.lastore, 1) := by decide +kernel
theorem dL_pin_17 : decode cL_pin 17 = .ok (.goto 11, 3) := by decide +kernel
theorem dL_pin_20 : decode cL_pin 20 = .ok (.astore 4, 2) := by decide +kernel
theorem dL_pin_22 : decode cL_pin 22 = .ok (.iconst 1, 1) := by decide +kernel
theorem dL_pin_23 : decode cL_pin 23 = .ok (.ireturn, 1) := by decide +kernel
theorem dL_pin_24 : decode cL_pin 24 = .ok (.astore 4, 2) := by decide +kernel
theorem dL_pin_26 : decode cL_pin 26 = .ok (.iconst 2, 1) := by decide +kernel
theorem dL_pin_27 : decode cL_pin 27 = .ok (.ireturn, 1) := by decide +kernel
theorem dL_pin_28 : decode cL_pin 28 = .ok (.iconst 0, 1) := by decide +kernel
theorem dL_pin_29 : decode cL_pin 29 = .ok (.ireturn, 1) := by decide +kernel
set_option maxRecDepth 20000 in
theorem ggL_drop_X1_drop : GoodIn wsL_drop wsX1_drop := goodIn_ca (goodIn_ca (goodIn_r _ [7, 8, 9, 10, 6, 11, 12, 13, 14, 15, 16, 17, 18, 19, 20, 21, 22, 23, 24, 25, 26, 27, 28, 29, 30, 31, 32, 33, 34, 35, 36, 37, 38, 39, 40, 41, 42] (by decide +kernel) (by decide +kernel)) (goodIn_sub (fun _ h => List.mem_cons_of_mem _ (List.mem_append_left _ (List.mem_append_right _ h))) (by decide +kernel))) (goodIn_sub (fun _ h => List.mem_cons_of_mem _ (List.mem_append_right _ h)) (by decide +kernel))
set_option maxRecDepth 20000 in
theorem gL_drop_X1_drop : GoodIn wsL_drop (wsV RL 27 RX1 yX1_drop wsX1_drop) := goodIn_app (goodIn_of _ (by decide +kernel)) ggL_drop_X1_drop
theorem dL_drop_0 : decode cL_drop 0 = .ok (.aload_n 2, 1) := by decide +kernel
theorem dL_drop_1 : decode cL_drop 1 = .ok (.iconst 0, 1) := by decide +kernel
theorem dL_drop_2 : decode cL_drop 2 = .ok (.aload_n 0, 1) := by decide +kernel
theorem dL_drop_3 : decode cL_drop 3 = .ok (.iload_n 1, 1) := by decide +kernel
theorem dL_drop_4 : decode cL_drop 4 = .ok (.invokevirtual 27, 3) := by decide +kernel
theorem dL_drop_7 : decode cL_drop 7 = .ok (.i2l, 1) := by decide +kernel
theorem dL_drop_8 : decode cL_drop 8 = .ok (.lastore, 1) := by decide +kernel
theorem dL_drop_9 : decode cL_drop 9 = .ok (.goto 9, 3) := by decide +kernel
theorem dL_drop_12 : decode cL_drop 12 = .ok (.astore_n 3, 1) := by decide +kernel
theorem dL_drop_13 : decode cL_drop 13 = .ok (.iconst 1, 1) := by decide +kernel
theorem dL_drop_14 : decode cL_drop 14 = .ok (.ireturn, 1) := by decide +kernel
theorem dL_drop_15 : decode cL_drop 15 = .ok (.astore_n 3, 1) := by decide +kernel
theorem dL_drop_16 : decode cL_drop 16 = .ok (.iconst 2, 1) := by decide +kernel
theorem dL_drop_17 : decode cL_drop 17 = .ok (.ireturn, 1) := by decide +kernel
theorem dL_drop_18 : decode cL_drop 18 = .ok (.iconst 0, 1) := by decide +kernel
theorem dL_drop_19 : decode cL_drop 19 = .ok (.ireturn, 1) := by decide +kernel
set_option maxRecDepth 20000 in
theorem ggL_setCapacity_X1_setCapacity : GoodIn wsL_setCapacity wsX1_setCapacity := goodIn_ca (goodIn_ca (goodIn_r _ [7, 8, 9, 10, 11, 12, 6, 13, 14, 15, 16, 17, 18, 19, 20, 21, 22, 23, 24, 25, 26, 27, 28, 29, 30, 31, 32, 33, 34, 35, 36, 37, 38, 39, 40, 41, 42, 43, 44, 45, 46, 47, 48, 49, 50, 51, 52, 53, 54, 55, 56, 57, 58, 59, 60, 61, 62, 63, 64, 65, 66, 67, 68, 69, 70, 71, 72, 73, 74, 75, 76, 77, 78, 79, 80] (by decide +kernel) (by decide +kernel)) (goodIn_sub (fun _ h => List.mem_cons_of_mem _ (List.mem_append_left _ (List.mem_append_right _ h))) (by decide +kernel))) (goodIn_sub (fun _ h => List.mem_cons_of_mem _ (List.mem_append_right _ h)) (by decide +kernel))
set_option maxRecDepth 20000 in
theorem gL_setCapacity_X1_setCapacity : GoodIn wsL_setCapacity (wsV RL 30 RX1 yX1_setCapacity wsX1_setCapacity) := goodIn_app (goodIn_of _ (by decide +kernel)) ggL_setCapacity_X1_setCapacity
theorem dL_setCapacity_0 : decode cL_setCapacity 0 = .ok (.aload_n 2, 1) := by decide +kernel
theorem dL_setCapacity_1 : decode cL_setCapacity 1 = .ok (.iconst 0, 1) := by decide +kernel
theorem dL_setCapacity_2 : decode cL_setCapacity 2 = .ok (.aload_n 0, 1) := by decide +kernel
theorem dL_setCapacity_3 : decode cL_setCapacity 3 = .ok (.iload_n 1, 1) := by decide +kernel
theorem dL_setCapacity_4 : decode cL_setCapacity 4 = .ok (.invokevirtual 30, 3) := by decide +kernel
theorem dL_setCapacity_7 : decode cL_setCapacity 7 = .ok (.i2l, 1) := by decide +kernel
theorem dL_setCapacity_8 : decode cL_setCapacity 8 = .ok (.lastore, 1) := by decide +kernel
theorem dL_setCapacity_9 : decode cL_setCapacity 9 = .ok (.goto 9, 3) := by decide +kernel
theorem dL_setCapacity_12 : decode cL_setCapacity 12 = .ok (.astore_n 3, 1) := by decide +kernel
theorem dL_setCapacity_13 : decode cL_setCapacity 13 = .ok (.iconst 1, 1) := by decide +kernel
theorem dL_setCapacity_14 : decode cL_setCapacity 14 = .ok (.ireturn, 1) := by decide +kernel
theorem dL_setCapacity_15 : decode cL_setCapacity 15 = .ok (.astore_n 3, 1) := by decide +kernel
theorem dL_setCapacity_16 : decode cL_setCapacity 16 = .ok (.iconst 2, 1) := by decide +kernel
theorem dL_setCapacity_17 : decode cL_setCapacity 17 = .ok (.ireturn, 1) := by decide +kernel
theorem dL_setCapacity_18 : decode cL_setCapacity 18 = .ok (.iconst 0, 1) := by decide +kernel
theorem dL_setCapacity_19 : decode cL_setCapacity 19 = .ok (.ireturn, 1) := by decide +kernel
set_option maxRecDepth 20000 in
theorem ggL_setThreshold_X1_setThreshold : GoodIn wsL_setThreshold wsX1_setThreshold := goodIn_ca (goodIn_r _ [6, 7, 8, 9, 5, 10, 11, 12, 13, 14, 15, 16, 17, 18, 19, 20, 21, 22, 23, 24, 25] (by decide +kernel) (by decide +kernel)) (goodIn_sub (fun _ h => List.mem_cons_of_mem _ (List.mem_append_right _ h)) (by decide +kernel))
set_option maxRecDepth 20000 in
theorem gL_setThreshold_X1_setThreshold : GoodIn wsL_setThreshold (wsV RL 33 RX1 yX1_setThreshold wsX1_setThreshold) := goodIn_app (goodIn_of _ (by decide +kernel)) ggL_setThreshold_X1_setThreshold
theorem dL_setThreshold_0 : decode cL_setThreshold 0 = .ok (.aload_n 2, 1) := by decide +kernel
theorem dL_setThreshold_1 : decode cL_setThreshold 1 = .ok (.iconst 0, 1) := by decide +kernel
theorem dL_setThreshold_2 : decode cL_setThreshold 2 = .ok (.aload_n 0, 1) := by decide +kernel
theorem dL_setThreshold_3 : decode cL_setThreshold 3 = .ok (.iload_n 1, 1) := by decide +kernel
theorem dL_setThreshold_4 : decode cL_setThreshold 4 = .ok (.invokevirtual 33, 3) := by decide +kernel
theorem dL_setThreshold_7 : decode cL_setThreshold 7 = .ok (.i2l, 1) := by decide +kernel
theorem dL_setThreshold_8 : decode cL_setThreshold 8 = .ok (.lastore, 1) := by decide +kernel
theorem dL_setThreshold_9 : decode cL_setThreshold 9 = .ok (.goto 6, 3) := by decide +kernel
theorem dL_setThreshold_12 : decode cL_setThreshold 12 = .ok (.astore_n 3, 1) := by decide +kernel
theorem dL_setThreshold_13 : decode cL_setThreshold 13 = .ok (.iconst 1, 1) := by decide +kernel
theorem dL_setThreshold_14 : decode cL_setThreshold 14 = .ok (.ireturn, 1) := by decide +kernel
theorem dL_setThreshold_15 : decode cL_setThreshold 15 = .ok (.iconst 0, 1) := by decide +kernel
theorem dL_setThreshold_16 : decode cL_setThreshold 16 = .ok (.ireturn, 1) := by decide +kernel
set_option maxRecDepth 20000 in
theorem ggL_has_X1_has : GoodIn wsL_has wsX1_has := goodIn_ca (goodIn_r _ [6, 7, 8, 9, 5, 10, 11, 12, 13, 14, 15, 16, 17, 18, 19, 20, 21, 22, 23, 24, 25, 26, 27, 28, 29, 30, 31, 32, 33, 34, 35] (by decide +kernel) (by decide +kernel)) (goodIn_sub (fun _ h => List.mem_cons_of_mem _ (List.mem_append_right _ h)) (by decide +kernel))
set_option maxRecDepth 20000 in
theorem gL_has_X1_has : GoodIn wsL_has (wsV RL 36 RX1 yX1_has wsX1_has) := goodIn_app (goodIn_of _ (by decide +kernel)) ggL_has_X1_has
theorem dL_has_0 : decode cL_has 0 = .ok (.aload_n 2, 1) := by decide +kernel
theorem dL_has_1 : decode cL_has 1 = .ok (.iconst 0, 1) := by decide +kernel
theorem dL_has_2 : decode cL_has 2 = .ok (.aload_n 0, 1) := by decide +kernel
theorem dL_has_3 : decode cL_has 3 = .ok (.iload_n 1, 1) := by decide +kernel
theorem dL_has_4 : decode cL_has 4 = .ok (.invokevirtual 36, 3) := by decide +kernel
theorem dL_has_7 : decode cL_has 7 = .ok (.ifCond .eq 7, 3) := by decide +kernel
theorem dL_has_10 : decode cL_has 10 = .ok (.lconst 1, 1) := by decide +kernel
theorem dL_has_11 : decode cL_has 11 = .ok (.goto 4, 3) := by decide +kernel
theorem dL_has_14 : decode cL_has 14 = .ok (.lconst 0, 1) := by decide +kernel
theorem dL_has_15 : decode cL_has 15 = .ok (.lastore, 1) := by decide +kernel
theorem dL_has_16 : decode cL_has 16 = .ok (.goto 6, 3) := by decide +kernel
theorem dL_has_19 : decode cL_has 19 = .ok (.astore_n 3, 1) := by decide +kernel
theorem dL_has_20 : decode cL_has 20 = .ok (.iconst 1, 1) := by decide +kernel
theorem dL_has_21 : decode cL_has 21 = .ok (.ireturn, 1) := by decide +kernel
theorem dL_has_22 : decode cL_has 22 = .ok (.iconst 0, 1) := by decide +kernel
theorem dL_has_23 : decode cL_has 23 = .ok (.ireturn, 1) := by decide +kernel
set_option maxRecDepth 20000 in
theorem ggL_isOver_X1_isOver : GoodIn wsL_isOver wsX1_isOver := goodIn_ca (goodIn_r _ [6, 7, 8, 9, 5, 10, 11, 12, 13, 14, 15, 16, 17, 18, 19, 20, 21, 22, 23, 24, 25, 26, 27, 28, 29, 30, 31, 32, 33, 34, 35, 36, 37, 38, 39, 40] (by decide +kernel) (by decide +kernel)) (goodIn_sub (fun _ h => List.mem_cons_of_mem _ (List.mem_append_right _ h)) (by decide +kernel))
set_option maxRecDepth 20000 in
theorem gL_isOver_X1_isOver : GoodIn wsL_isOver (wsV RL 40 RX1 yX1_isOver wsX1_isOver) := goodIn_app (goodIn_of _ (by decide +kernel)) ggL_isOver_X1_isOver
theorem dL_isOver_0 : decode cL_isOver 0 = .ok (.aload_n 2, 1) := by decide +kernel
theorem dL_isOver_1 : decode cL_isOver 1 = .ok (.iconst 0, 1) := by decide +kernel
theorem dL_isOver_2 : decode cL_isOver 2 = .ok (.aload_n 0, 1) := by decide +kernel
theorem dL_isOver_3 : decode cL_isOver 3 = .ok (.iload_n 1, 1) := by decide +kernel
theorem dL_isOver_4 : decode cL_isOver 4 = .ok (.invokevirtual 40, 3) := by decide +kernel
theorem dL_isOver_7 : decode cL_isOver 7 = .ok (.ifCond .eq 7, 3) := by decide +kernel
theorem dL_isOver_10 : decode cL_isOver 10 = .ok (.lconst 1, 1) := by decide +kernel
theorem dL_isOver_11 : decode cL_isOver 11 = .ok (.goto 4, 3) := by decide +kernel
theorem dL_isOver_14 : decode cL_isOver 14 = .ok (.lconst 0, 1) := by decide +kernel
theorem dL_isOver_15 : decode cL_isOver 15 = .ok (.lastore, 1) := by decide +kernel
theorem dL_isOver_16 : decode cL_isOver 16 = .ok (.goto 6, 3) := by decide +kernel
theorem dL_isOver_19 : decode cL_isOver 19 = .ok (.astore_n 3, 1) := by decide +kernel
theorem dL_isOver_20 : decode cL_isOver 20 = .ok (.iconst 1, 1) := by decide +kernel
theorem dL_isOver_21 : decode cL_isOver 21 = .ok (.ireturn, 1) := by decide +kernel
theorem dL_isOver_22 : decode cL_isOver 22 = .ok (.iconst 0, 1) := by decide +kernel
theorem dL_isOver_23 : decode cL_isOver 23 = .ok (.ireturn, 1) := by decide +kernel
set_option maxRecDepth 20000 in
theorem ggL_sizeOf_X1_sizeOf : GoodIn wsL_sizeOf wsX1_sizeOf := goodIn_ca (goodIn_r _ [6, 7, 8, 9, 5, 10, 11, 12, 13, 14, 15, 16, 17, 18, 19, 20, 21, 22, 23, 24, 25, 26, 27, 28, 29, 30, 31, 32, 33, 34, 35] (by decide +kernel) (by decide +kernel)) (goodIn_sub (fun _ h => List.mem_cons_of_mem _ (List.mem_append_right _ h)) (by decide +kernel))
set_option maxRecDepth 20000 in
theorem gL_sizeOf_X1_sizeOf : GoodIn wsL_sizeOf (wsV RL 43 RX1 yX1_sizeOf wsX1_sizeOf) := goodIn_app (goodIn_of _ (by decide +kernel)) ggL_sizeOf_X1_sizeOf
theorem dL_sizeOf_0 : decode cL_sizeOf 0 = .ok (.aload_n 2, 1) := by decide +kernel
theorem dL_sizeOf_1 : decode cL_sizeOf 1 = .ok (.iconst 0, 1) := by decide +kernel
theorem dL_sizeOf_2 : decode cL_sizeOf 2 = .ok (.aload_n 0, 1) := by decide +kernel
theorem dL_sizeOf_3 : decode cL_sizeOf 3 = .ok (.iload_n 1, 1) := by decide +kernel
theorem dL_sizeOf_4 : decode cL_sizeOf 4 = .ok (.invokevirtual 43, 3) := by decide +kernel
theorem dL_sizeOf_7 : decode cL_sizeOf 7 = .ok (.i2l, 1) := by decide +kernel
theorem dL_sizeOf_8 : decode cL_sizeOf 8 = .ok (.lastore, 1) := by decide +kernel
theorem dL_sizeOf_9 : decode cL_sizeOf 9 = .ok (.goto 6, 3) := by decide +kernel
theorem dL_sizeOf_12 : decode cL_sizeOf 12 = .ok (.astore_n 3, 1) := by decide +kernel
theorem dL_sizeOf_13 : decode cL_sizeOf 13 = .ok (.iconst 1, 1) := by decide +kernel
theorem dL_sizeOf_14 : decode cL_sizeOf 14 = .ok (.ireturn, 1) := by decide +kernel
theorem dL_sizeOf_15 : decode cL_sizeOf 15 = .ok (.iconst 0, 1) := by decide +kernel
theorem dL_sizeOf_16 : decode cL_sizeOf 16 = .ok (.ireturn, 1) := by decide +kernel
set_option maxRecDepth 20000 in
theorem ggL_frequencyOf_X1_frequencyOf : GoodIn wsL_frequencyOf wsX1_frequencyOf := goodIn_ca (goodIn_r _ [6, 7, 8, 9, 5, 10, 11, 12, 13, 14, 15, 16, 17, 18, 19, 20, 21, 22, 23, 24, 25, 26, 27, 28, 29, 30, 31, 32, 33, 34, 35] (by decide +kernel) (by decide +kernel)) (goodIn_sub (fun _ h => List.mem_cons_of_mem _ (List.mem_append_right _ h)) (by decide +kernel))
set_option maxRecDepth 20000 in
theorem gL_frequencyOf_X1_frequencyOf : GoodIn wsL_frequencyOf (wsV RL 46 RX1 yX1_frequencyOf wsX1_frequencyOf) := goodIn_app (goodIn_of _ (by decide +kernel)) ggL_frequencyOf_X1_frequencyOf
theorem dL_frequencyOf_0 : decode cL_frequencyOf 0 = .ok (.aload_n 2, 1) := by decide +kernel
theorem dL_frequencyOf_1 : decode cL_frequencyOf 1 = .ok (.iconst 0, 1) := by decide +kernel
theorem dL_frequencyOf_2 : decode cL_frequencyOf 2 = .ok (.aload_n 0, 1) := by decide +kernel
theorem dL_frequencyOf_3 : decode cL_frequencyOf 3 = .ok (.iload_n 1, 1) := by decide +kernel
theorem dL_frequencyOf_4 : decode cL_frequencyOf 4 = .ok (.invokevirtual 46, 3) := by decide +kernel
theorem dL_frequencyOf_7 : decode cL_frequencyOf 7 = .ok (.i2l, 1) := by decide +kernel
theorem dL_frequencyOf_8 : decode cL_frequencyOf 8 = .ok (.lastore, 1) := by decide +kernel
theorem dL_frequencyOf_9 : decode cL_frequencyOf 9 = .ok (.goto 6, 3) := by decide +kernel
theorem dL_frequencyOf_12 : decode cL_frequencyOf 12 = .ok (.astore_n 3, 1) := by decide +kernel
theorem dL_frequencyOf_13 : decode cL_frequencyOf 13 = .ok (.iconst 1, 1) := by decide +kernel
theorem dL_frequencyOf_14 : decode cL_frequencyOf 14 = .ok (.ireturn, 1) := by decide +kernel
theorem dL_frequencyOf_15 : decode cL_frequencyOf 15 = .ok (.iconst 0, 1) := by decide +kernel
theorem dL_frequencyOf_16 : decode cL_frequencyOf 16 = .ok (.ireturn, 1) := by decide +kernel
set_option maxRecDepth 20000 in
theorem ggL_worthOf_X1_worthOf : GoodIn wsL_worthOf wsX1_worthOf := goodIn_ca (goodIn_r _ [6, 7, 8, 9, 10, 5, 11, 12, 13, 14, 15, 16, 17, 18, 19, 20, 21, 22, 23, 24, 25, 26, 27, 28, 29, 30, 31, 32, 33, 34, 35, 36] (by decide +kernel) (by decide +kernel)) (goodIn_sub (fun _ h => List.mem_cons_of_mem _ (List.mem_append_right _ h)) (by decide +kernel))
set_option maxRecDepth 20000 in
theorem gL_worthOf_X1_worthOf : GoodIn wsL_worthOf (wsV RL 49 RX1 yX1_worthOf wsX1_worthOf) := goodIn_app (goodIn_of _ (by decide +kernel)) ggL_worthOf_X1_worthOf
theorem dL_worthOf_0 : decode cL_worthOf 0 = .ok (.aload_n 2, 1) := by decide +kernel
theorem dL_worthOf_1 : decode cL_worthOf 1 = .ok (.iconst 0, 1) := by decide +kernel
theorem dL_worthOf_2 : decode cL_worthOf 2 = .ok (.aload_n 0, 1) := by decide +kernel
theorem dL_worthOf_3 : decode cL_worthOf 3 = .ok (.iload_n 1, 1) := by decide +kernel
theorem dL_worthOf_4 : decode cL_worthOf 4 = .ok (.invokevirtual 49, 3) := by decide +kernel
theorem dL_worthOf_7 : decode cL_worthOf 7 = .ok (.lastore, 1) := by decide +kernel
theorem dL_worthOf_8 : decode cL_worthOf 8 = .ok (.goto 6, 3) := by decide +kernel
theorem dL_worthOf_11 : decode cL_worthOf 11 = .ok (.astore_n 3, 1) := by decide +kernel
theorem dL_worthOf_12 : decode cL_worthOf 12 = .ok (.iconst 1, 1) := by decide +kernel
theorem dL_worthOf_13 : decode cL_worthOf 13 = .ok (.ireturn, 1) := by decide +kernel
theorem dL_worthOf_14 : decode cL_worthOf 14 = .ok (.iconst 0, 1) := by decide +kernel
theorem dL_worthOf_15 : decode cL_worthOf 15 = .ok (.ireturn, 1) := by decide +kernel
set_option maxRecDepth 20000 in
theorem ggL_endOf_X1_endOf : GoodIn wsL_endOf wsX1_endOf := goodIn_ca (goodIn_r _ [6, 7, 8, 9, 5, 10, 11, 12, 13, 14, 15, 16, 17, 18, 19, 20, 21, 22, 23, 24, 25, 26, 27, 28, 29, 30, 31, 32, 33, 34, 35] (by decide +kernel) (by decide +kernel)) (goodIn_sub (fun _ h => List.mem_cons_of_mem _ (List.mem_append_right _ h)) (by decide +kernel))
set_option maxRecDepth 20000 in
theorem gL_endOf_X1_endOf : GoodIn wsL_endOf (wsV RL 53 RX1 yX1_endOf wsX1_endOf) := goodIn_app (goodIn_of _ (by decide +kernel)) ggL_endOf_X1_endOf
theorem dL_endOf_0 : decode cL_endOf 0 = .ok (.aload_n 2, 1) := by decide +kernel
theorem dL_endOf_1 : decode cL_endOf 1 = .ok (.iconst 0, 1) := by decide +kernel
theorem dL_endOf_2 : decode cL_endOf 2 = .ok (.aload_n 0, 1) := by decide +kernel
theorem dL_endOf_3 : decode cL_endOf 3 = .ok (.iload_n 1, 1) := by decide +kernel
theorem dL_endOf_4 : decode cL_endOf 4 = .ok (.invokevirtual 53, 3) := by decide +kernel
theorem dL_endOf_7 : decode cL_endOf 7 = .ok (.i2l, 1) := by decide +kernel
theorem dL_endOf_8 : decode cL_endOf 8 = .ok (.lastore, 1) := by decide +kernel
theorem dL_endOf_9 : decode cL_endOf 9 = .ok (.goto 6, 3) := by decide +kernel
theorem dL_endOf_12 : decode cL_endOf 12 = .ok (.astore_n 3, 1) := by decide +kernel
theorem dL_endOf_13 : decode cL_endOf 13 = .ok (.iconst 1, 1) := by decide +kernel
theorem dL_endOf_14 : decode cL_endOf 14 = .ok (.ireturn, 1) := by decide +kernel
theorem dL_endOf_15 : decode cL_endOf 15 = .ok (.iconst 0, 1) := by decide +kernel
theorem dL_endOf_16 : decode cL_endOf 16 = .ok (.ireturn, 1) := by decide +kernel
set_option maxRecDepth 20000 in
theorem ggL_leaving_X1_leaving : GoodIn wsL_leaving wsX1_leaving := goodIn_ca (goodIn_r _ [6, 7, 8, 9, 10, 11, 5, 12, 13, 14, 15, 16, 17, 18, 19, 20, 21, 22, 23, 24, 25, 26, 27, 28, 29, 30, 31, 32, 33, 34, 35, 36, 37, 38, 39, 40, 41, 42, 43, 44, 45] (by decide +kernel) (by decide +kernel)) (goodIn_sub (fun _ h => List.mem_cons_of_mem _ (List.mem_append_right _ h)) (by decide +kernel))
set_option maxRecDepth 20000 in
theorem gL_leaving_X1_leaving : GoodIn wsL_leaving (wsV RL 56 RX1 yX1_leaving wsX1_leaving) := goodIn_app (goodIn_of _ (by decide +kernel)) ggL_leaving_X1_leaving
theorem dL_leaving_0 : decode cL_leaving 0 = .ok (.aload_n 2, 1) := by decide +kernel
theorem dL_leaving_1 : decode cL_leaving 1 = .ok (.iconst 0, 1) := by decide +kernel
theorem dL_leaving_2 : decode cL_leaving 2 = .ok (.aload_n 0, 1) := by decide +kernel
theorem dL_leaving_3 : decode cL_leaving 3 = .ok (.iload_n 1, 1) := by decide +kernel
theorem dL_leaving_4 : decode cL_leaving 4 = .ok (.invokevirtual 56, 3) := by decide +kernel
theorem dL_leaving_7 : decode cL_leaving 7 = .ok (.i2l, 1) := by decide +kernel
theorem dL_leaving_8 : decode cL_leaving 8 = .ok (.lastore, 1) := by decide +kernel
theorem dL_leaving_9 : decode cL_leaving 9 = .ok (.goto 6, 3) := by decide +kernel
theorem dL_leaving_12 : decode cL_leaving 12 = .ok (.astore_n 3, 1) := by decide +kernel
theorem dL_leaving_13 : decode cL_leaving 13 = .ok (.iconst 1, 1) := by decide +kernel
theorem dL_leaving_14 : decode cL_leaving 14 = .ok (.ireturn, 1) := by decide +kernel
theorem dL_leaving_15 : decode cL_leaving 15 = .ok (.iconst 0, 1) := by decide +kernel
theorem dL_leaving_16 : decode cL_leaving 16 = .ok (.ireturn, 1) := by decide +kernel
set_option maxRecDepth 20000 in
theorem ggL_placeOf_X1_placeOf : GoodIn wsL_placeOf wsX1_placeOf := goodIn_ca (goodIn_r _ [6, 7, 8, 9, 10, 5, 11, 12, 13, 14, 15, 16, 17, 18, 19, 20, 21, 22, 23, 24, 25, 26, 27, 28, 29, 30, 31, 32, 33, 34, 35, 36, 37, 38, 39, 40, 41] (by decide +kernel) (by decide +kernel)) (goodIn_sub (fun _ h => List.mem_cons_of_mem _ (List.mem_append_right _ h)) (by decide +kernel))
set_option maxRecDepth 20000 in
theorem gL_placeOf_X1_placeOf : GoodIn wsL_placeOf (wsV RL 59 RX1 yX1_placeOf wsX1_placeOf) := goodIn_app (goodIn_of _ (by decide +kernel)) ggL_placeOf_X1_placeOf
theorem dL_placeOf_0 : decode cL_placeOf 0 = .ok (.aload_n 2, 1) := by decide +kernel
theorem dL_placeOf_1 : decode cL_placeOf 1 = .ok (.iconst 0, 1) := by decide +kernel
theorem dL_placeOf_2 : decode cL_placeOf 2 = .ok (.aload_n 0, 1) := by decide +kernel
theorem dL_placeOf_3 : decode cL_placeOf 3 = .ok (.iload_n 1, 1) := by decide +kernel
theorem dL_placeOf_4 : decode cL_placeOf 4 = .ok (.invokevirtual 59, 3) := by decide +kernel
theorem dL_placeOf_7 : decode cL_placeOf 7 = .ok (.i2l, 1) := by decide +kernel
theorem dL_placeOf_8 : decode cL_placeOf 8 = .ok (.lastore, 1) := by decide +kernel
theorem dL_placeOf_9 : decode cL_placeOf 9 = .ok (.goto 6, 3) := by decide +kernel
theorem dL_placeOf_12 : decode cL_placeOf 12 = .ok (.astore_n 3, 1) := by decide +kernel
theorem dL_placeOf_13 : decode cL_placeOf 13 = .ok (.iconst 1, 1) := by decide +kernel
theorem dL_placeOf_14 : decode cL_placeOf 14 = .ok (.ireturn, 1) := by decide +kernel
theorem dL_placeOf_15 : decode cL_placeOf 15 = .ok (.iconst 0, 1) := by decide +kernel
theorem dL_placeOf_16 : decode cL_placeOf 16 = .ok (.ireturn, 1) := by decide +kernel
set_option maxRecDepth 20000 in
theorem ggL_wouldLeave_X1_wouldLeave : GoodIn wsL_wouldLeave wsX1_wouldLeave := goodIn_ca (goodIn_r _ [6, 7, 8, 9, 5, 10, 11, 12, 13, 14, 15, 16, 17, 18, 19, 20, 21, 22, 23, 24, 25, 26, 27, 28, 29, 30, 31, 32, 33, 34, 35, 36, 37, 38, 39, 40, 41, 42, 43, 44, 45, 46, 47, 48, 49, 50, 51, 52, 53, 54, 55, 56, 57, 58, 59, 60, 61, 62, 63, 64, 65, 66] (by decide +kernel) (by decide +kernel)) (goodIn_sub (fun _ h => List.mem_cons_of_mem _ (List.mem_append_right _ h)) (by decide +kernel))
set_option maxRecDepth 20000 in
theorem gL_wouldLeave_X1_wouldLeave : GoodIn wsL_wouldLeave (wsV RL 62 RX1 yX1_wouldLeave wsX1_wouldLeave) := goodIn_app (goodIn_of _ (by decide +kernel)) ggL_wouldLeave_X1_wouldLeave
theorem dL_wouldLeave_0 : decode cL_wouldLeave 0 = .ok (.aload_n 2, 1) := by decide +kernel
theorem dL_wouldLeave_1 : decode cL_wouldLeave 1 = .ok (.iconst 0, 1) := by decide +kernel
theorem dL_wouldLeave_2 : decode cL_wouldLeave 2 = .ok (.aload_n 0, 1) := by decide +kernel
theorem dL_wouldLeave_3 : decode cL_wouldLeave 3 = .ok (.iload_n 1, 1) := by decide +kernel
theorem dL_wouldLeave_4 : decode cL_wouldLeave 4 = .ok (.invokevirtual 62, 3) := by decide +kernel
theorem dL_wouldLeave_7 : decode cL_wouldLeave 7 = .ok (.i2l, 1) := by decide +kernel
theorem dL_wouldLeave_8 : decode cL_wouldLeave 8 = .ok (.lastore, 1) := by decide +kernel
theorem dL_wouldLeave_9 : decode cL_wouldLeave 9 = .ok (.goto 6, 3) := by decide +kernel
theorem dL_wouldLeave_12 : decode cL_wouldLeave 12 = .ok (.astore_n 3, 1) := by decide +kernel
theorem dL_wouldLeave_13 : decode cL_wouldLeave 13 = .ok (.iconst 1, 1) := by decide +kernel
theorem dL_wouldLeave_14 : decode cL_wouldLeave 14 = .ok (.ireturn, 1) := by decide +kernel
theorem dL_wouldLeave_15 : decode cL_wouldLeave 15 = .ok (.iconst 0, 1) := by decide +kernel
theorem dL_wouldLeave_16 : decode cL_wouldLeave 16 = .ok (.ireturn, 1) := by decide +kernel
set_option maxRecDepth 20000 in
theorem ggL_law_X1_init : GoodIn wsL_law wsX1_init := goodIn_r _ [9, 10, 11, 12, 13, 14, 15, 16, 17, 18, 19, 20, 21, 22, 23, 498, 499, 500, 501, 502, 503, 504, 505, 506, 507, 508, 509, 510, 533, 534, 535, 536, 537, 538, 539, 540, 541] (by decide +kernel) (by decide +kernel)
set_option maxRecDepth 20000 in
theorem gL_law_X1_init : GoodIn wsL_law (wsX1_init) := ggL_law_X1_init
set_option maxRecDepth 20000 in
theorem ggL_law_X2_init : GoodIn wsL_law wsX2_init := goodIn_r _ [26, 27, 11, 12, 28, 29, 30, 31, 32, 33, 34, 6, 35, 36, 37, 38, 39, 40, 511, 512, 513, 514, 515, 516, 517, 518, 519, 520, 521, 522, 523, 524, 525, 526, 527, 528, 529, 530, 531, 532] (by decide +kernel) (by decide +kernel)
set_option maxRecDepth 20000 in
theorem gL_law_X2_init : GoodIn wsL_law (wsX2_init) := ggL_law_X2_init
set_option maxRecDepth 20000 in
theorem ggL_law_L_fetch : GoodIn wsL_law wsL_fetch := goodIn_ca (goodIn_ca (goodIn_r _ [44, 45, 46, 47, 48, 49, 2, 50, 51, 52, 53, 54, 55, 56, 14, 57, 58, 59, 60, 61, 62, 63, 64, 65, 66, 67, 68, 69, 70, 71, 72, 73, 74, 75, 76, 77, 78, 79, 80, 81, 82, 83, 84, 85, 86, 87, 88, 89, 90, 15, 16, 91, 92, 93, 94, 95, 96, 97, 98, 99, 100, 101, 102, 103, 104, 105, 106, 107, 108, 109, 110, 111, 112, 113, 114, 115, 116, 117, 118, 119, 120, 121, 122, 123, 124, 125, 126, 127, 128, 129, 130, 131, 132, 133, 134, 135, 136, 137, 138, 139, 140, 141, 142, 143, 144, 145, 146, 533, 534, 535, 536, 537, 538, 539, 540, 541, 498, 499, 500, 501, 502, 503, 504, 505, 506, 507, 508, 509, 510] (by decide +kernel) (by decide +kernel)) (goodIn_sub (fun _ h => List.mem_append_left _ (List.mem_append_left _ (List.mem_append_right _ h))) (by decide +kernel))) (goodIn_sub (fun _ h => List.mem_append_left _ (List.mem_append_right _ h)) (by decide +kernel))
set_option maxRecDepth 20000 in
theorem gL_law_L_fetch : GoodIn wsL_law (va_wsS RL 69 yL_fetch wsL_fetch) := goodIn_app (goodIn_of _ (by decide +kernel)) ggL_law_L_fetch
set_option maxRecDepth 20000 in
theorem ggL_law_X2_fetch : GoodIn wsL_law wsX2_fetch := goodIn_r _ [150, 151, 29, 32, 34, 33, 152, 153, 154, 38, 155, 156, 157, 158, 39, 40, 30, 36, 159, 160, 161, 5, 162, 163, 164, 165, 166, 167, 168, 169, 170, 171, 172, 173, 35, 174, 175, 176, 37, 177, 178, 179, 180, 181, 182, 183, 184, 185, 186, 187, 188, 189, 190, 191, 192, 193, 194, 195, 196, 197, 198, 199, 200, 201, 202, 203, 204, 205, 206, 207, 208, 209, 511, 512, 513, 514, 515, 516, 517, 518, 519, 520, 521, 522, 523, 524, 525, 526, 527, 528, 529, 530, 531, 532] (by decide +kernel) (by decide +kernel)
set_option maxRecDepth 20000 in
theorem gL_law_X2_fetch : GoodIn wsL_law (wsV RL 74 RX2 yX2_fetch wsX2_fetch) := goodIn_app (goodIn_of _ (by decide +kernel)) ggL_law_X2_fetch
set_option maxRecDepth 20000 in
theorem ggL_law_X2_thrown : GoodIn wsL_law wsX2_thrown := goodIn_r _ [213, 151, 511, 512, 513, 514, 515, 516, 517, 518, 519, 520, 521, 522, 523, 524, 525, 526, 527, 528, 529, 530, 531, 532] (by decide +kernel) (by decide +kernel)
set_option maxRecDepth 20000 in
theorem gL_law_X2_thrown : GoodIn wsL_law (wsV RL 75 RX2 yX2_thrown wsX2_thrown) := goodIn_app (goodIn_of _ (by decide +kernel)) ggL_law_X2_thrown
set_option maxRecDepth 20000 in
theorem ggL_law_L_pass : GoodIn wsL_law wsL_pass := goodIn_ca (goodIn_r _ [216, 46, 217, 218, 219, 2, 220, 66, 57, 58, 59, 60, 61, 498, 499, 500, 501, 502, 503, 504, 505, 506, 507, 508, 509, 510] (by decide +kernel) (by decide +kernel)) (goodIn_sub (fun _ h => List.mem_append_left _ (List.mem_append_right _ h)) (by decide +kernel))
set_option maxRecDepth 20000 in
theorem gL_law_L_pass : GoodIn wsL_law (va_wsS RL 79 yL_pass wsL_pass) := goodIn_app (goodIn_of _ (by decide +kernel)) ggL_law_L_pass
set_option maxRecDepth 20000 in
theorem ggL_law_X2_pass : GoodIn wsL_law wsX2_pass := goodIn_r _ [224, 151, 155, 163, 164, 5, 165, 511, 512, 513, 514, 515, 516, 517, 518, 519, 520, 521, 522, 523, 524, 525, 526, 527, 528, 529, 530, 531, 532] (by decide +kernel) (by decide +kernel)
set_option maxRecDepth 20000 in
theorem gL_law_X2_pass : GoodIn wsL_law (wsV RL 82 RX2 yX2_pass wsX2_pass) := goodIn_app (goodIn_of _ (by decide +kernel)) ggL_law_X2_pass
set_option maxRecDepth 20000 in
theorem ggL_law_L_pin : GoodIn wsL_law wsL_pin := goodIn_ca (goodIn_ca (goodIn_r _ [227, 45, 228, 229, 230, 231, 2, 232, 233, 234, 235, 236, 237, 238, 51, 52, 53, 54, 55, 56, 14, 533, 534, 535, 536, 537, 538, 539, 540, 541, 498, 499, 500, 501, 502, 503, 504, 505, 506, 507, 508, 509, 510] (by decide +kernel) (by decide +kernel)) (goodIn_sub (fun _ h => List.mem_append_right _ h) (by decide +kernel))) (goodIn_sub (fun _ h => List.mem_append_left _ (List.mem_append_left _ (List.mem_append_right _ h))) (by decide +kernel))
set_option maxRecDepth 20000 in
theorem gL_law_L_pin : GoodIn wsL_law (va_wsS RL 83 yL_pin wsL_pin) := goodIn_app (goodIn_of _ (by decide +kernel)) ggL_law_L_pin
set_option maxRecDepth 20000 in
theorem ggL_law_X2_pin : GoodIn wsL_law wsX2_pin := goodIn_r _ [242, 30, 243, 244, 245, 5, 246, 29, 151, 159, 160, 161, 162, 163, 164, 165, 511, 512, 513, 514, 515, 516, 517, 518, 519, 520, 521, 522, 523, 524, 525, 526, 527, 528, 529, 530, 531, 532] (by decide +kernel) (by decide +kernel)
set_option maxRecDepth 20000 in
theorem gL_law_X2_pin : GoodIn wsL_law (wsV RL 86 RX2 yX2_pin wsX2_pin) := goodIn_app (goodIn_of _ (by decide +kernel)) ggL_law_X2_pin
set_option maxRecDepth 20000 in
theorem ggL_law_L_drop : GoodIn wsL_law wsL_drop := goodIn_ca (goodIn_ca (goodIn_r _ [249, 45, 228, 250, 251, 252, 2, 253, 233, 234, 235, 236, 237, 238, 51, 52, 53, 54, 55, 56, 14, 533, 534, 535, 536, 537, 538, 539, 540, 541, 498, 499, 500, 501, 502, 503, 504, 505, 506, 507, 508, 509, 510] (by decide +kernel) (by decide +kernel)) (goodIn_sub (fun _ h => List.mem_append_right _ h) (by decide +kernel))) (goodIn_sub (fun _ h => List.mem_append_left _ (List.mem_append_left _ (List.mem_append_right _ h))) (by decide +kernel))
set_option maxRecDepth 20000 in
theorem gL_law_L_drop : GoodIn wsL_law (va_wsS RL 87 yL_drop wsL_drop) := goodIn_app (goodIn_of _ (by decide +kernel)) ggL_law_L_drop
set_option maxRecDepth 20000 in
theorem ggL_law_X2_drop : GoodIn wsL_law wsX2_drop := goodIn_r _ [257, 29, 32, 243, 244, 245, 5, 246, 151, 159, 160, 161, 162, 163, 164, 165, 511, 512, 513, 514, 515, 516, 517, 518, 519, 520, 521, 522, 523, 524, 525, 526, 527, 528, 529, 530, 531, 532] (by decide +kernel) (by decide +kernel)
set_option maxRecDepth 20000 in
theorem gL_law_X2_drop : GoodIn wsL_law (wsV RL 89 RX2 yX2_drop wsX2_drop) := goodIn_app (goodIn_of _ (by decide +kernel)) ggL_law_X2_drop
set_option maxRecDepth 20000 in
theorem ggL_law_X1_purge : GoodIn wsL_law wsX1_purge := goodIn_r _ [261, 112, 113, 114, 2, 115, 14, 99, 62, 63, 64, 65, 66, 498, 499, 500, 501, 502, 503, 504, 505, 506, 507, 508, 509, 510, 533, 534, 535, 536, 537, 538, 539, 540, 541] (by decide +kernel) (by decide +kernel)
set_option maxRecDepth 20000 in
theorem gL_law_X1_purge : GoodIn wsL_law (wsV RL 90 RX1 yX1_purge wsX1_purge) := goodIn_app (goodIn_of _ (by decide +kernel)) ggL_law_X1_purge
set_option maxRecDepth 20000 in
theorem ggL_law_X2_purge : GoodIn wsL_law wsX2_purge := goodIn_r _ [265, 151, 185, 186, 187, 5, 188, 29, 158, 166, 167, 168, 169, 155, 36, 511, 512, 513, 514, 515, 516, 517, 518, 519, 520, 521, 522, 523, 524, 525, 526, 527, 528, 529, 530, 531, 532] (by decide +kernel) (by decide +kernel)
set_option maxRecDepth 20000 in
theorem gL_law_X2_purge : GoodIn wsL_law (wsV RL 93 RX2 yX2_purge wsX2_purge) := goodIn_app (goodIn_of _ (by decide +kernel)) ggL_law_X2_purge
set_option maxRecDepth 20000 in
theorem ggL_law_L_setCapacity : GoodIn wsL_law wsL_setCapacity := goodIn_ca (goodIn_ca (goodIn_r _ [268, 46, 228, 269, 270, 271, 2, 272, 237, 238, 15, 57, 58, 59, 60, 61, 116, 117, 118, 119, 14, 62, 63, 64, 65, 66, 108, 109, 110, 111, 112, 113, 114, 115, 99, 120, 121, 122, 123, 79, 124, 125, 126, 127, 128, 129, 130, 131, 132, 133, 134, 135, 136, 137, 138, 139, 140, 141, 142, 498, 499, 500, 501, 502, 503, 504, 505, 506, 507, 508, 509, 510, 533, 534, 535, 536, 537, 538, 539, 540, 541] (by decide +kernel) (by decide +kernel)) (goodIn_sub (fun _ h => List.mem_append_right _ h) (by decide +kernel))) (goodIn_sub (fun _ h => List.mem_append_left _ (List.mem_append_right _ h)) (by decide +kernel))
set_option maxRecDepth 20000 in
theorem gL_law_L_setCapacity : GoodIn wsL_law (va_wsS RL 94 yL_setCapacity wsL_setCapacity) := goodIn_app (goodIn_of _ (by decide +kernel)) ggL_law_L_setCapacity
set_option maxRecDepth 20000 in
theorem ggL_law_X2_setCapacity : GoodIn wsL_law wsX2_setCapacity := goodIn_r _ [276, 151, 39, 163, 164, 5, 165, 189, 190, 191, 192, 29, 30, 32, 166, 167, 168, 169, 155, 36, 181, 182, 183, 184, 185, 186, 187, 188, 158, 193, 194, 195, 196, 35, 174, 197, 198, 199, 200, 201, 202, 203, 204, 205, 206, 207, 208, 209, 37, 511, 512, 513, 514, 515, 516, 517, 518, 519, 520, 521, 522, 523, 524, 525, 526, 527, 528, 529, 530, 531, 532] (by decide +kernel) (by decide +kernel)
set_option maxRecDepth 20000 in
theorem gL_law_X2_setCapacity : GoodIn wsL_law (wsV RL 96 RX2 yX2_setCapacity wsX2_setCapacity) := goodIn_app (goodIn_of _ (by decide +kernel)) ggL_law_X2_setCapacity
set_option maxRecDepth 20000 in
theorem ggL_law_L_setThreshold : GoodIn wsL_law wsL_setThreshold := goodIn_ca (goodIn_r _ [279, 46, 280, 281, 282, 2, 283, 16, 57, 58, 59, 60, 61, 498, 499, 500, 501, 502, 503, 504, 505, 506, 507, 508, 509, 510] (by decide +kernel) (by decide +kernel)) (goodIn_sub (fun _ h => List.mem_append_left _ (List.mem_append_right _ h)) (by decide +kernel))
set_option maxRecDepth 20000 in
theorem gL_law_L_setThreshold : GoodIn wsL_law (va_wsS RL 97 yL_setThreshold wsL_setThreshold) := goodIn_app (goodIn_of _ (by decide +kernel)) ggL_law_L_setThreshold
set_option maxRecDepth 20000 in
theorem ggL_law_X2_setThreshold : GoodIn wsL_law wsX2_setThreshold := goodIn_r _ [287, 151, 40, 163, 164, 5, 165, 511, 512, 513, 514, 515, 516, 517, 518, 519, 520, 521, 522, 523, 524, 525, 526, 527, 528, 529, 530, 531, 532] (by decide +kernel) (by decide +kernel)
set_option maxRecDepth 20000 in
theorem gL_law_X2_setThreshold : GoodIn wsL_law (wsV RL 99 RX2 yX2_setThreshold wsX2_setThreshold) := goodIn_app (goodIn_of _ (by decide +kernel)) ggL_law_X2_setThreshold
set_option maxRecDepth 20000 in
theorem ggL_law_L_has : GoodIn wsL_law wsL_has := goodIn_ca (goodIn_r _ [290, 45, 291, 292, 293, 2, 294, 51, 52, 53, 54, 55, 56, 14, 533, 534, 535, 536, 537, 538, 539, 540, 541, 498, 499, 500, 501, 502, 503, 504, 505, 506, 507, 508, 509, 510] (by decide +kernel) (by decide +kernel)) (goodIn_sub (fun _ h => List.mem_append_left _ (List.mem_append_left _ (List.mem_append_right _ h))) (by decide +kernel))
set_option maxRecDepth 20000 in
theorem gL_law_L_has : GoodIn wsL_law (va_wsS RL 100 yL_has wsL_has) := goodIn_app (goodIn_of _ (by decide +kernel)) ggL_law_L_has
set_option maxRecDepth 20000 in
theorem ggL_law_X2_has : GoodIn wsL_law wsX2_has := goodIn_r _ [298, 29, 159, 160, 161, 5, 162, 151, 163, 164, 165, 511, 512, 513, 514, 515, 516, 517, 518, 519, 520, 521, 522, 523, 524, 525, 526, 527, 528, 529, 530, 531, 532] (by decide +kernel) (by decide +kernel)
set_option maxRecDepth 20000 in
theorem gL_law_X2_has : GoodIn wsL_law (wsV RL 102 RX2 yX2_has wsX2_has) := goodIn_app (goodIn_of _ (by decide +kernel)) ggL_law_X2_has
set_option maxRecDepth 20000 in
theorem ggL_law_L_isOver : GoodIn wsL_law wsL_isOver := goodIn_ca (goodIn_r _ [301, 45, 302, 303, 304, 2, 305, 51, 52, 53, 54, 55, 56, 14, 62, 63, 64, 65, 66, 533, 534, 535, 536, 537, 538, 539, 540, 541, 498, 499, 500, 501, 502, 503, 504, 505, 506, 507, 508, 509, 510] (by decide +kernel) (by decide +kernel)) (goodIn_sub (fun _ h => List.mem_append_left _ (List.mem_append_left _ (List.mem_append_right _ h))) (by decide +kernel))
set_option maxRecDepth 20000 in
theorem gL_law_L_isOver : GoodIn wsL_law (va_wsS RL 103 yL_isOver wsL_isOver) := goodIn_app (goodIn_of _ (by decide +kernel)) ggL_law_L_isOver
set_option maxRecDepth 20000 in
theorem ggL_law_X2_isOver : GoodIn wsL_law wsX2_isOver := goodIn_r _ [309, 159, 160, 161, 5, 162, 151, 163, 164, 165, 166, 167, 168, 169, 29, 155, 36, 511, 512, 513, 514, 515, 516, 517, 518, 519, 520, 521, 522, 523, 524, 525, 526, 527, 528, 529, 530, 531, 532] (by decide +kernel) (by decide +kernel)
set_option maxRecDepth 20000 in
theorem gL_law_X2_isOver : GoodIn wsL_law (wsV RL 105 RX2 yX2_isOver wsX2_isOver) := goodIn_app (goodIn_of _ (by decide +kernel)) ggL_law_X2_isOver
set_option maxRecDepth 20000 in
theorem ggL_law_L_sizeOf : GoodIn wsL_law wsL_sizeOf := goodIn_ca (goodIn_r _ [312, 45, 313, 314, 315, 2, 316, 51, 52, 53, 54, 55, 56, 14, 533, 534, 535, 536, 537, 538, 539, 540, 541, 498, 499, 500, 501, 502, 503, 504, 505, 506, 507, 508, 509, 510] (by decide +kernel) (by decide +kernel)) (goodIn_sub (fun _ h => List.mem_append_left _ (List.mem_append_left _ (List.mem_append_right _ h))) (by decide +kernel))
set_option maxRecDepth 20000 in
theorem gL_law_L_sizeOf : GoodIn wsL_law (va_wsS RL 106 yL_sizeOf wsL_sizeOf) := goodIn_app (goodIn_of _ (by decide +kernel)) ggL_law_L_sizeOf
set_option maxRecDepth 20000 in
theorem ggL_law_X2_sizeOf : GoodIn wsL_law wsX2_sizeOf := goodIn_r _ [320, 29, 32, 159, 160, 161, 5, 162, 151, 163, 164, 165, 511, 512, 513, 514, 515, 516, 517, 518, 519, 520, 521, 522, 523, 524, 525, 526, 527, 528, 529, 530, 531, 532] (by decide +kernel) (by decide +kernel)
set_option maxRecDepth 20000 in
theorem gL_law_X2_sizeOf : GoodIn wsL_law (wsV RL 108 RX2 yX2_sizeOf wsX2_sizeOf) := goodIn_app (goodIn_of _ (by decide +kernel)) ggL_law_X2_sizeOf
set_option maxRecDepth 20000 in
theorem ggL_law_L_frequencyOf : GoodIn wsL_law wsL_frequencyOf := goodIn_ca (goodIn_r _ [323, 45, 324, 325, 326, 2, 327, 51, 52, 53, 54, 55, 56, 14, 533, 534, 535, 536, 537, 538, 539, 540, 541, 498, 499, 500, 501, 502, 503, 504, 505, 506, 507, 508, 509, 510] (by decide +kernel) (by decide +kernel)) (goodIn_sub (fun _ h => List.mem_append_left _ (List.mem_append_left _ (List.mem_append_right _ h))) (by decide +kernel))
set_option maxRecDepth 20000 in
theorem gL_law_L_frequencyOf : GoodIn wsL_law (va_wsS RL 109 yL_frequencyOf wsL_frequencyOf) := goodIn_app (goodIn_of _ (by decide +kernel)) ggL_law_L_frequencyOf
set_option maxRecDepth 20000 in
theorem ggL_law_X2_frequencyOf : GoodIn wsL_law wsX2_frequencyOf := goodIn_r _ [331, 29, 34, 159, 160, 161, 5, 162, 151, 163, 164, 165, 511, 512, 513, 514, 515, 516, 517, 518, 519, 520, 521, 522, 523, 524, 525, 526, 527, 528, 529, 530, 531, 532] (by decide +kernel) (by decide +kernel)
set_option maxRecDepth 20000 in
theorem gL_law_X2_frequencyOf : GoodIn wsL_law (wsV RL 111 RX2 yX2_frequencyOf wsX2_frequencyOf) := goodIn_app (goodIn_of _ (by decide +kernel)) ggL_law_X2_frequencyOf
set_option maxRecDepth 20000 in
theorem ggL_law_L_worthOf : GoodIn wsL_law wsL_worthOf := goodIn_ca (goodIn_r _ [334, 45, 335, 336, 337, 2, 338, 339, 51, 52, 53, 54, 55, 56, 14, 533, 534, 535, 536, 537, 538, 539, 540, 541, 498, 499, 500, 501, 502, 503, 504, 505, 506, 507, 508, 509, 510] (by decide +kernel) (by decide +kernel)) (goodIn_sub (fun _ h => List.mem_append_left _ (List.mem_append_left _ (List.mem_append_right _ h))) (by decide +kernel))
set_option maxRecDepth 20000 in
theorem gL_law_L_worthOf : GoodIn wsL_law (va_wsS RL 112 yL_worthOf wsL_worthOf) := goodIn_app (goodIn_of _ (by decide +kernel)) ggL_law_L_worthOf
set_option maxRecDepth 20000 in
theorem ggL_law_X2_worthOf : GoodIn wsL_law wsX2_worthOf := goodIn_r _ [343, 29, 35, 344, 159, 160, 161, 5, 162, 151, 163, 164, 165, 511, 512, 513, 514, 515, 516, 517, 518, 519, 520, 521, 522, 523, 524, 525, 526, 527, 528, 529, 530, 531, 532] (by decide +kernel) (by decide +kernel)
set_option maxRecDepth 20000 in
theorem gL_law_X2_worthOf : GoodIn wsL_law (wsV RL 114 RX2 yX2_worthOf wsX2_worthOf) := goodIn_app (goodIn_of _ (by decide +kernel)) ggL_law_X2_worthOf
set_option maxRecDepth 20000 in
theorem ggL_law_L_endOf : GoodIn wsL_law wsL_endOf := goodIn_ca (goodIn_r _ [347, 45, 348, 349, 350, 2, 351, 51, 52, 53, 54, 55, 56, 14, 533, 534, 535, 536, 537, 538, 539, 540, 541, 498, 499, 500, 501, 502, 503, 504, 505, 506, 507, 508, 509, 510] (by decide +kernel) (by decide +kernel)) (goodIn_sub (fun _ h => List.mem_append_left _ (List.mem_append_left _ (List.mem_append_right _ h))) (by decide +kernel))
set_option maxRecDepth 20000 in
theorem gL_law_L_endOf : GoodIn wsL_law (va_wsS RL 115 yL_endOf wsL_endOf) := goodIn_app (goodIn_of _ (by decide +kernel)) ggL_law_L_endOf
set_option maxRecDepth 20000 in
theorem ggL_law_X2_endOf : GoodIn wsL_law wsX2_endOf := goodIn_r _ [355, 29, 36, 159, 160, 161, 5, 162, 151, 163, 164, 165, 511, 512, 513, 514, 515, 516, 517, 518, 519, 520, 521, 522, 523, 524, 525, 526, 527, 528, 529, 530, 531, 532] (by decide +kernel) (by decide +kernel)
set_option maxRecDepth 20000 in
theorem gL_law_X2_endOf : GoodIn wsL_law (wsV RL 117 RX2 yX2_endOf wsX2_endOf) := goodIn_app (goodIn_of _ (by decide +kernel)) ggL_law_X2_endOf
set_option maxRecDepth 20000 in
theorem ggL_law_L_leaving : GoodIn wsL_law wsL_leaving := goodIn_ca (goodIn_r _ [358, 45, 359, 360, 361, 2, 362, 55, 56, 129, 130, 131, 132, 133, 134, 135, 136, 14, 137, 138, 139, 140, 141, 142, 533, 534, 535, 536, 537, 538, 539, 540, 541, 498, 499, 500, 501, 502, 503, 504, 505, 506, 507, 508, 509, 510] (by decide +kernel) (by decide +kernel)) (goodIn_sub (fun _ h => List.mem_append_left _ (List.mem_append_left _ (List.mem_append_right _ h))) (by decide +kernel))
set_option maxRecDepth 20000 in
theorem gL_law_L_leaving : GoodIn wsL_law (va_wsS RL 118 yL_leaving wsL_leaving) := goodIn_app (goodIn_of _ (by decide +kernel)) ggL_law_L_leaving
set_option maxRecDepth 20000 in
theorem ggL_law_X2_leaving : GoodIn wsL_law wsX2_leaving := goodIn_r _ [366, 151, 198, 199, 200, 5, 201, 202, 203, 204, 205, 29, 30, 206, 207, 208, 209, 35, 37, 511, 512, 513, 514, 515, 516, 517, 518, 519, 520, 521, 522, 523, 524, 525, 526, 527, 528, 529, 530, 531, 532] (by decide +kernel) (by decide +kernel)
set_option maxRecDepth 20000 in
theorem gL_law_X2_leaving : GoodIn wsL_law (wsV RL 120 RX2 yX2_leaving wsX2_leaving) := goodIn_app (goodIn_of _ (by decide +kernel)) ggL_law_X2_leaving
set_option maxRecDepth 20000 in
theorem ggL_law_L_placeOf : GoodIn wsL_law wsL_placeOf := goodIn_ca (goodIn_r _ [369, 45, 370, 371, 372, 2, 373, 14, 51, 52, 53, 54, 55, 56, 140, 141, 142, 137, 138, 139, 498, 499, 500, 501, 502, 503, 504, 505, 506, 507, 508, 509, 510, 533, 534, 535, 536, 537, 538, 539, 540, 541] (by decide +kernel) (by decide +kernel)) (goodIn_sub (fun _ h => List.mem_append_left _ (List.mem_append_left _ (List.mem_append_right _ h))) (by decide +kernel))
set_option maxRecDepth 20000 in
theorem gL_law_L_placeOf : GoodIn wsL_law (va_wsS RL 121 yL_placeOf wsL_placeOf) := goodIn_app (goodIn_of _ (by decide +kernel)) ggL_law_L_placeOf
set_option maxRecDepth 20000 in
theorem ggL_law_X2_placeOf : GoodIn wsL_law wsX2_placeOf := goodIn_r _ [377, 159, 160, 161, 5, 162, 151, 163, 164, 165, 202, 203, 204, 205, 29, 30, 206, 207, 208, 209, 35, 37, 511, 512, 513, 514, 515, 516, 517, 518, 519, 520, 521, 522, 523, 524, 525, 526, 527, 528, 529, 530, 531, 532] (by decide +kernel) (by decide +kernel)
set_option maxRecDepth 20000 in
theorem gL_law_X2_placeOf : GoodIn wsL_law (wsV RL 123 RX2 yX2_placeOf wsX2_placeOf) := goodIn_app (goodIn_of _ (by decide +kernel)) ggL_law_X2_placeOf
set_option maxRecDepth 20000 in
theorem ggL_law_X1_endsFirst : GoodIn wsL_law wsX1_endsFirst := goodIn_r _ [381, 14, 498, 499, 500, 501, 502, 503, 504, 505, 506, 507, 508, 509, 510, 533, 534, 535, 536, 537, 538, 539, 540, 541] (by decide +kernel) (by decide +kernel)
set_option maxRecDepth 20000 in
theorem gL_law_X1_endsFirst : GoodIn wsL_law (wsV RL 124 RX1 yX1_endsFirst wsX1_endsFirst) := goodIn_app (goodIn_of _ (by decide +kernel)) ggL_law_X1_endsFirst
set_option maxRecDepth 20000 in
theorem ggL_law_X2_endsFirst : GoodIn wsL_law wsX2_endsFirst := goodIn_r _ [385, 151, 29, 36, 511, 512, 513, 514, 515, 516, 517, 518, 519, 520, 521, 522, 523, 524, 525, 526, 527, 528, 529, 530, 531, 532] (by decide +kernel) (by decide +kernel)
set_option maxRecDepth 20000 in
theorem gL_law_X2_endsFirst : GoodIn wsL_law (wsV RL 127 RX2 yX2_endsFirst wsX2_endsFirst) := goodIn_app (goodIn_of _ (by decide +kernel)) ggL_law_X2_endsFirst
set_option maxRecDepth 20000 in
theorem ggL_law_L_wouldLeave : GoodIn wsL_law wsL_wouldLeave := goodIn_ca (goodIn_r _ [388, 46, 389, 390, 391, 2, 392, 15, 57, 58, 59, 60, 61, 116, 117, 118, 119, 14, 62, 63, 64, 65, 66, 393, 394, 395, 396, 397, 398, 399, 400, 129, 130, 131, 132, 133, 134, 135, 136, 137, 138, 139, 140, 141, 142, 498, 499, 500, 501, 502, 503, 504, 505, 506, 507, 508, 509, 510, 533, 534, 535, 536, 537, 538, 539, 540, 541] (by decide +kernel) (by decide +kernel)) (goodIn_sub (fun _ h => List.mem_append_left _ (List.mem_append_right _ h)) (by decide +kernel))
set_option maxRecDepth 20000 in
theorem gL_law_L_wouldLeave : GoodIn wsL_law (va_wsS RL 128 yL_wouldLeave wsL_wouldLeave) := goodIn_app (goodIn_of _ (by decide +kernel)) ggL_law_L_wouldLeave
set_option maxRecDepth 20000 in
theorem ggL_law_X2_wouldLeave : GoodIn wsL_law wsX2_wouldLeave := goodIn_r _ [404, 151, 39, 32, 163, 164, 5, 165, 181, 182, 183, 184, 29, 189, 190, 191, 192, 30, 166, 167, 168, 169, 155, 36, 198, 199, 200, 201, 202, 203, 204, 205, 206, 207, 208, 209, 35, 37, 511, 512, 513, 514, 515, 516, 517, 518, 519, 520, 521, 522, 523, 524, 525, 526, 527, 528, 529, 530, 531, 532] (by decide +kernel) (by decide +kernel)
set_option maxRecDepth 20000 in
theorem gL_law_X2_wouldLeave : GoodIn wsL_law (wsV RL 130 RX2 yX2_wouldLeave wsX2_wouldLeave) := goodIn_app (goodIn_of _ (by decide +kernel)) ggL_law_X2_wouldLeave
set_option maxRecDepth 20000 in
theorem ggL_law_X1_time : GoodIn wsL_law wsX1_time := goodIn_r _ [408, 66, 498, 499, 500, 501, 502, 503, 504, 505, 506, 507, 508, 509, 510] (by decide +kernel) (by decide +kernel)
set_option maxRecDepth 20000 in
theorem gL_law_X1_time : GoodIn wsL_law (wsV RL 131 RX1 yX1_time wsX1_time) := goodIn_app (goodIn_of _ (by decide +kernel)) ggL_law_X1_time
set_option maxRecDepth 20000 in
theorem ggL_law_X2_time : GoodIn wsL_law wsX2_time := goodIn_r _ [412, 151, 155, 511, 512, 513, 514, 515, 516, 517, 518, 519, 520, 521, 522, 523, 524, 525, 526, 527, 528, 529, 530, 531, 532] (by decide +kernel) (by decide +kernel)
set_option maxRecDepth 20000 in
theorem gL_law_X2_time : GoodIn wsL_law (wsV RL 134 RX2 yX2_time wsX2_time) := goodIn_app (goodIn_of _ (by decide +kernel)) ggL_law_X2_time
set_option maxRecDepth 20000 in
theorem ggL_law_X1_clock : GoodIn wsL_law wsX1_clock := goodIn_r _ [416, 79, 498, 499, 500, 501, 502, 503, 504, 505, 506, 507, 508, 509, 510] (by decide +kernel) (by decide +kernel)
set_option maxRecDepth 20000 in
theorem gL_law_X1_clock : GoodIn wsL_law (wsV RL 135 RX1 yX1_clock wsX1_clock) := goodIn_app (goodIn_of _ (by decide +kernel)) ggL_law_X1_clock
set_option maxRecDepth 20000 in
theorem ggL_law_X2_clock : GoodIn wsL_law wsX2_clock := goodIn_r _ [420, 151, 174, 511, 512, 513, 514, 515, 516, 517, 518, 519, 520, 521, 522, 523, 524, 525, 526, 527, 528, 529, 530, 531, 532] (by decide +kernel) (by decide +kernel)
set_option maxRecDepth 20000 in
theorem gL_law_X2_clock : GoodIn wsL_law (wsV RL 139 RX2 yX2_clock wsX2_clock) := goodIn_app (goodIn_of _ (by decide +kernel)) ggL_law_X2_clock
set_option maxRecDepth 20000 in
theorem ggL_law_X1_capacity : GoodIn wsL_law wsX1_capacity := goodIn_r _ [424, 15, 498, 499, 500, 501, 502, 503, 504, 505, 506, 507, 508, 509, 510] (by decide +kernel) (by decide +kernel)
set_option maxRecDepth 20000 in
theorem gL_law_X1_capacity : GoodIn wsL_law (wsV RL 140 RX1 yX1_capacity wsX1_capacity) := goodIn_app (goodIn_of _ (by decide +kernel)) ggL_law_X1_capacity
set_option maxRecDepth 20000 in
theorem ggL_law_X2_capacity : GoodIn wsL_law wsX2_capacity := goodIn_r _ [428, 151, 39, 511, 512, 513, 514, 515, 516, 517, 518, 519, 520, 521, 522, 523, 524, 525, 526, 527, 528, 529, 530, 531, 532] (by decide +kernel) (by decide +kernel)
set_option maxRecDepth 20000 in
theorem gL_law_X2_capacity : GoodIn wsL_law (wsV RL 143 RX2 yX2_capacity wsX2_capacity) := goodIn_app (goodIn_of _ (by decide +kernel)) ggL_law_X2_capacity
set_option maxRecDepth 20000 in
theorem ggL_law_X1_entries : GoodIn wsL_law wsX1_entries := goodIn_r _ [432, 14, 498, 499, 500, 501, 502, 503, 504, 505, 506, 507, 508, 509, 510, 533, 534, 535, 536, 537, 538, 539, 540, 541] (by decide +kernel) (by decide +kernel)
set_option maxRecDepth 20000 in
theorem gL_law_X1_entries : GoodIn wsL_law (wsV RL 144 RX1 yX1_entries wsX1_entries) := goodIn_app (goodIn_of _ (by decide +kernel)) ggL_law_X1_entries
set_option maxRecDepth 20000 in
theorem ggL_law_X2_entries : GoodIn wsL_law wsX2_entries := goodIn_r _ [436, 151, 29, 511, 512, 513, 514, 515, 516, 517, 518, 519, 520, 521, 522, 523, 524, 525, 526, 527, 528, 529, 530, 531, 532] (by decide +kernel) (by decide +kernel)
set_option maxRecDepth 20000 in
theorem gL_law_X2_entries : GoodIn wsL_law (wsV RL 147 RX2 yX2_entries wsX2_entries) := goodIn_app (goodIn_of _ (by decide +kernel)) ggL_law_X2_entries
set_option maxRecDepth 20000 in
theorem ggL_law_X1_used : GoodIn wsL_law wsX1_used := goodIn_r _ [111, 14, 498, 499, 500, 501, 502, 503, 504, 505, 506, 507, 508, 509, 510, 533, 534, 535, 536, 537, 538, 539, 540, 541] (by decide +kernel) (by decide +kernel)
set_option maxRecDepth 20000 in
theorem gL_law_X1_used : GoodIn wsL_law (wsV RL 148 RX1 yX1_used wsX1_used) := goodIn_app (goodIn_of _ (by decide +kernel)) ggL_law_X1_used
set_option maxRecDepth 20000 in
theorem ggL_law_X2_used : GoodIn wsL_law wsX2_used := goodIn_r _ [441, 151, 181, 182, 183, 5, 184, 29, 32, 511, 512, 513, 514, 515, 516, 517, 518, 519, 520, 521, 522, 523, 524, 525, 526, 527, 528, 529, 530, 531, 532] (by decide +kernel) (by decide +kernel)
set_option maxRecDepth 20000 in
theorem gL_law_X2_used : GoodIn wsL_law (wsV RL 151 RX2 yX2_used wsX2_used) := goodIn_app (goodIn_of _ (by decide +kernel)) ggL_law_X2_used
set_option maxRecDepth 20000 in
theorem ggL_law_X1_hits : GoodIn wsL_law wsX1_hits := goodIn_r _ [445, 71, 498, 499, 500, 501, 502, 503, 504, 505, 506, 507, 508, 509, 510] (by decide +kernel) (by decide +kernel)
set_option maxRecDepth 20000 in
theorem gL_law_X1_hits : GoodIn wsL_law (wsV RL 152 RX1 yX1_hits wsX1_hits) := goodIn_app (goodIn_of _ (by decide +kernel)) ggL_law_X1_hits
set_option maxRecDepth 20000 in
theorem ggL_law_X2_hits : GoodIn wsL_law wsX2_hits := goodIn_r _ [449, 151, 152, 511, 512, 513, 514, 515, 516, 517, 518, 519, 520, 521, 522, 523, 524, 525, 526, 527, 528, 529, 530, 531, 532] (by decide +kernel) (by decide +kernel)
set_option maxRecDepth 20000 in
theorem gL_law_X2_hits : GoodIn wsL_law (wsV RL 155 RX2 yX2_hits wsX2_hits) := goodIn_app (goodIn_of _ (by decide +kernel)) ggL_law_X2_hits
set_option maxRecDepth 20000 in
theorem ggL_law_X1_misses : GoodIn wsL_law wsX1_misses := goodIn_r _ [453, 85, 498, 499, 500, 501, 502, 503, 504, 505, 506, 507, 508, 509, 510] (by decide +kernel) (by decide +kernel)
set_option maxRecDepth 20000 in
theorem gL_law_X1_misses : GoodIn wsL_law (wsV RL 156 RX1 yX1_misses wsX1_misses) := goodIn_app (goodIn_of _ (by decide +kernel)) ggL_law_X1_misses
set_option maxRecDepth 20000 in
theorem ggL_law_X2_misses : GoodIn wsL_law wsX2_misses := goodIn_r _ [457, 151, 156, 511, 512, 513, 514, 515, 516, 517, 518, 519, 520, 521, 522, 523, 524, 525, 526, 527, 528, 529, 530, 531, 532] (by decide +kernel) (by decide +kernel)
set_option maxRecDepth 20000 in
theorem gL_law_X2_misses : GoodIn wsL_law (wsV RL 159 RX2 yX2_misses wsX2_misses) := goodIn_app (goodIn_of _ (by decide +kernel)) ggL_law_X2_misses
set_option maxRecDepth 20000 in
theorem ggL_law_X1_bytesHit : GoodIn wsL_law wsX1_bytesHit := goodIn_r _ [461, 72, 498, 499, 500, 501, 502, 503, 504, 505, 506, 507, 508, 509, 510] (by decide +kernel) (by decide +kernel)
set_option maxRecDepth 20000 in
theorem gL_law_X1_bytesHit : GoodIn wsL_law (wsV RL 160 RX1 yX1_bytesHit wsX1_bytesHit) := goodIn_app (goodIn_of _ (by decide +kernel)) ggL_law_X1_bytesHit
set_option maxRecDepth 20000 in
theorem ggL_law_X2_bytesHit : GoodIn wsL_law wsX2_bytesHit := goodIn_r _ [465, 151, 153, 511, 512, 513, 514, 515, 516, 517, 518, 519, 520, 521, 522, 523, 524, 525, 526, 527, 528, 529, 530, 531, 532] (by decide +kernel) (by decide +kernel)
set_option maxRecDepth 20000 in
theorem gL_law_X2_bytesHit : GoodIn wsL_law (wsV RL 163 RX2 yX2_bytesHit wsX2_bytesHit) := goodIn_app (goodIn_of _ (by decide +kernel)) ggL_law_X2_bytesHit
set_option maxRecDepth 20000 in
theorem ggL_law_X1_saved : GoodIn wsL_law wsX1_saved := goodIn_r _ [469, 73, 498, 499, 500, 501, 502, 503, 504, 505, 506, 507, 508, 509, 510] (by decide +kernel) (by decide +kernel)
set_option maxRecDepth 20000 in
theorem gL_law_X1_saved : GoodIn wsL_law (wsV RL 164 RX1 yX1_saved wsX1_saved) := goodIn_app (goodIn_of _ (by decide +kernel)) ggL_law_X1_saved
set_option maxRecDepth 20000 in
theorem ggL_law_X2_saved : GoodIn wsL_law wsX2_saved := goodIn_r _ [473, 151, 154, 511, 512, 513, 514, 515, 516, 517, 518, 519, 520, 521, 522, 523, 524, 525, 526, 527, 528, 529, 530, 531, 532] (by decide +kernel) (by decide +kernel)
set_option maxRecDepth 20000 in
theorem gL_law_X2_saved : GoodIn wsL_law (wsV RL 167 RX2 yX2_saved wsX2_saved) := goodIn_app (goodIn_of _ (by decide +kernel)) ggL_law_X2_saved
set_option maxRecDepth 20000 in
theorem ggL_law_X1_paid : GoodIn wsL_law wsX1_paid := goodIn_r _ [477, 86, 498, 499, 500, 501, 502, 503, 504, 505, 506, 507, 508, 509, 510] (by decide +kernel) (by decide +kernel)
set_option maxRecDepth 20000 in
theorem gL_law_X1_paid : GoodIn wsL_law (wsV RL 168 RX1 yX1_paid wsX1_paid) := goodIn_app (goodIn_of _ (by decide +kernel)) ggL_law_X1_paid
set_option maxRecDepth 20000 in
theorem ggL_law_X2_paid : GoodIn wsL_law wsX2_paid := goodIn_r _ [481, 151, 157, 511, 512, 513, 514, 515, 516, 517, 518, 519, 520, 521, 522, 523, 524, 525, 526, 527, 528, 529, 530, 531, 532] (by decide +kernel) (by decide +kernel)
set_option maxRecDepth 20000 in
theorem gL_law_X2_paid : GoodIn wsL_law (wsV RL 171 RX2 yX2_paid wsX2_paid) := goodIn_app (goodIn_of _ (by decide +kernel)) ggL_law_X2_paid
set_option maxRecDepth 20000 in
theorem ggL_law_X1_left : GoodIn wsL_law wsX1_left := goodIn_r _ [485, 128, 498, 499, 500, 501, 502, 503, 504, 505, 506, 507, 508, 509, 510] (by decide +kernel) (by decide +kernel)
set_option maxRecDepth 20000 in
theorem gL_law_X1_left : GoodIn wsL_law (wsV RL 172 RX1 yX1_left wsX1_left) := goodIn_app (goodIn_of _ (by decide +kernel)) ggL_law_X1_left
set_option maxRecDepth 20000 in
theorem ggL_law_X2_left : GoodIn wsL_law wsX2_left := goodIn_r _ [489, 151, 197, 511, 512, 513, 514, 515, 516, 517, 518, 519, 520, 521, 522, 523, 524, 525, 526, 527, 528, 529, 530, 531, 532] (by decide +kernel) (by decide +kernel)
set_option maxRecDepth 20000 in
theorem gL_law_X2_left : GoodIn wsL_law (wsV RL 175 RX2 yX2_left wsX2_left) := goodIn_app (goodIn_of _ (by decide +kernel)) ggL_law_X2_left
set_option maxRecDepth 20000 in
theorem ggL_law_X1_removedOver : GoodIn wsL_law wsX1_removedOver := goodIn_r _ [493, 99, 498, 499, 500, 501, 502, 503, 504, 505, 506, 507, 508, 509, 510] (by decide +kernel) (by decide +kernel)
set_option maxRecDepth 20000 in
theorem gL_law_X1_removedOver : GoodIn wsL_law (wsV RL 176 RX1 yX1_removedOver wsX1_removedOver) := goodIn_app (goodIn_of _ (by decide +kernel)) ggL_law_X1_removedOver
set_option maxRecDepth 20000 in
theorem ggL_law_X2_removedOver : GoodIn wsL_law wsX2_removedOver := goodIn_r _ [497, 151, 158, 511, 512, 513, 514, 515, 516, 517, 518, 519, 520, 521, 522, 523, 524, 525, 526, 527, 528, 529, 530, 531, 532] (by decide +kernel) (by decide +kernel)
set_option maxRecDepth 20000 in
theorem gL_law_X2_removedOver : GoodIn wsL_law (wsV RL 179 RX2 yX2_removedOver wsX2_removedOver) := goodIn_app (goodIn_of _ (by decide +kernel)) ggL_law_X2_removedOver
