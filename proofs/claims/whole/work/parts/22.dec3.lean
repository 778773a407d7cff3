/-! decode rows of the law's own methods (by the kit's NAMES) -/
theorem dL_room_0 : decode cL_room 0 = .ok (.aload_n 2, 1) := by decide +kernel
theorem dL_room_1 : decode cL_room 1 = .ok (.iconst 0, 1) := by decide +kernel
theorem dL_room_2 : decode cL_room 2 = .ok (.aload_n 0, 1) := by decide +kernel
theorem dL_room_3 : decode cL_room 3 = .ok (.iload_n 1, 1) := by decide +kernel
theorem dL_room_4 : decode cL_room 4 = .ok (.invokevirtual 7, 3) := by decide +kernel
theorem dL_room_7 : decode cL_room 7 = .ok (.i2l, 1) := by decide +kernel
theorem dL_room_8 : decode cL_room 8 = .ok (.lastore, 1) := by decide +kernel
theorem dL_room_9 : decode cL_room 9 = .ok (.goto 9, 3) := by decide +kernel
theorem dL_room_12 : decode cL_room 12 = .ok (.astore_n 3, 1) := by decide +kernel
theorem dL_room_13 : decode cL_room 13 = .ok (.iconst 1, 1) := by decide +kernel
theorem dL_room_14 : decode cL_room 14 = .ok (.ireturn, 1) := by decide +kernel
theorem dL_room_15 : decode cL_room 15 = .ok (.astore_n 3, 1) := by decide +kernel
theorem dL_room_16 : decode cL_room 16 = .ok (.iconst 2, 1) := by decide +kernel
theorem dL_room_17 : decode cL_room 17 = .ok (.ireturn, 1) := by decide +kernel
theorem dL_room_18 : decode cL_room 18 = .ok (.iconst 0, 1) := by decide +kernel
theorem dL_room_19 : decode cL_room 19 = .ok (.ireturn, 1) := by decide +kernel
set_option maxRecDepth 20000 in
theorem ggL_puzzle_X4_puzzle : GoodIn wsL_puzzle wsX4_puzzle := goodIn_ca (goodIn_ca (goodIn_ca (goodIn_r _ [8, 9, 10, 11, 12, 13, 14, 15, 16, 17, 18, 19, 7, 20, 21, 22, 23, 24, 25, 26, 27, 28, 29, 30, 31, 32, 33, 34, 35, 36, 37, 38, 39, 40, 41, 42, 43, 44, 45, 46, 47, 48, 49, 50, 51, 52, 53, 54, 55, 56, 57, 58, 59, 60, 61, 62] (by decide +kernel) (by decide +kernel)) (goodIn_sub (fun _ h => List.mem_cons_of_mem _ (List.mem_append_left _ (List.mem_append_left _ (List.mem_append_right _ h)))) (by decide +kernel))) (goodIn_sub (fun _ h => List.mem_cons_of_mem _ (List.mem_append_left _ (List.mem_append_right _ h))) (by decide +kernel))) (goodIn_sub (fun _ h => List.mem_cons_of_mem _ (List.mem_append_right _ h)) (by decide +kernel))
set_option maxRecDepth 20000 in
theorem gL_puzzle_X4_puzzle : GoodIn wsL_puzzle (wsV RL 17 RX4 yX4_puzzle wsX4_puzzle) := goodIn_app (goodIn_of _ (by decide +kernel)) ggL_puzzle_X4_puzzle
theorem dL_puzzle_0 : decode cL_puzzle 0 = .ok (.aload 6, 2) := by decide +kernel
theorem dL_puzzle_2 : decode cL_puzzle 2 = .ok (.iconst 0, 1) := by decide +kernel
theorem dL_puzzle_3 : decode cL_puzzle 3 = .ok (.aload_n 0, 1) := by decide +kernel
theorem dL_puzzle_4 : decode cL_puzzle 4 = .ok (.iload_n 1, 1) := by decide +kernel
theorem dL_puzzle_5 : decode cL_puzzle 5 = .ok (.iload_n 2, 1) := by decide +kernel
theorem dL_puzzle_6 : decode cL_puzzle 6 = .ok (.iload_n 3, 1) := by decide +kernel
theorem dL_puzzle_7 : decode cL_puzzle 7 = .ok (.iload 4, 2) := by decide +kernel
theorem dL_puzzle_9 : decode cL_puzzle 9 = .ok (.iload 5, 2) := by decide +kernel
theorem dL_puzzle_11 : decode cL_puzzle 11 = .ok (.invokevirtual 17, 3) := by decide +kernel
theorem dL_puzzle_14 : decode cL_puzzle 14 = .ok (.i2l, 1) := by decide +kernel
theorem dL_puzzle_15 : decode cL_puzzle 15 = .ok (.lastore, 1) := by decide +kernel
theorem dL_puzzle_16 : decode cL_puzzle 16 = .ok (.goto 15, 3) := by decide +kernel
theorem dL_puzzle_19 : decode cL_puzzle 19 = .ok (.astore 7, 2) := by decide +kernel
theorem dL_puzzle_21 : decode cL_puzzle 21 = .ok (.iconst 1, 1) := by decide +kernel
theorem dL_puzzle_22 : decode cL_puzzle 22 = .ok (.ireturn, 1) := by decide +kernel
theorem dL_puzzle_23 : decode cL_puzzle 23 = .ok (.astore 7, 2) := by decide +kernel
theorem dL_puzzle_25 : decode cL_puzzle 25 = .ok (.iconst 2, 1) := by decide +kernel
theorem dL_puzzle_26 : decode cL_puzzle 26 = .ok (.ireturn, 1) := by decide +kernel
theorem dL_puzzle_27 : decode cL_puzzle 27 = .ok (.astore 7, 2) := by decide +kernel
theorem dL_puzzle_29 : decode cL_puzzle 29 = .ok (.iconst 3, 1) := by decide +kernel
theorem dL_puzzle_30 : decode cL_puzzle 30 = .ok (.ireturn, 1) := by decide +kernel
theorem dL_puzzle_31 : decode cL_puzzle 31 = .ok (.iconst 0, 1) := by decide +kernel
theorem dL_puzzle_32 : decode cL_puzzle 32 = .ok (.ireturn, 1) := by decide +kernel
set_option maxRecDepth 20000 in
theorem ggL_prop_X4_prop : GoodIn wsL_prop wsX4_prop := goodIn_ca (goodIn_r _ [6, 7, 8, 9, 10, 11, 5, 12, 13, 14, 15, 16, 17, 18, 19, 20, 21, 22, 23, 24, 25, 26, 27, 28, 29, 30, 31, 32, 33, 34, 35, 36, 37, 38, 39, 40, 41, 42, 43, 44, 45, 46, 47, 48, 49, 50, 51, 52, 53, 54, 55, 56, 57, 58, 59, 60, 61, 62, 63, 64, 65, 66, 67, 68, 69, 70, 71, 72, 73, 74, 75, 76, 77, 78, 79, 80, 81, 82, 83, 84, 85, 86, 87, 88] (by decide +kernel) (by decide +kernel)) (goodIn_sub (fun _ h => List.mem_cons_of_mem _ (List.mem_append_right _ h)) (by decide +kernel))
set_option maxRecDepth 20000 in
theorem gL_prop_X4_prop : GoodIn wsL_prop (wsV RL 23 RX4 yX4_prop wsX4_prop) := goodIn_app (goodIn_of _ (by decide +kernel)) ggL_prop_X4_prop
theorem dL_prop_0 : decode cL_prop 0 = .ok (.aload_n 3, 1) := by decide +kernel
theorem dL_prop_1 : decode cL_prop 1 = .ok (.iconst 0, 1) := by decide +kernel
theorem dL_prop_2 : decode cL_prop 2 = .ok (.aload_n 0, 1) := by decide +kernel
theorem dL_prop_3 : decode cL_prop 3 = .ok (.iload_n 1, 1) := by decide +kernel
theorem dL_prop_4 : decode cL_prop 4 = .ok (.iload_n 2, 1) := by decide +kernel
theorem dL_prop_5 : decode cL_prop 5 = .ok (.invokevirtual 23, 3) := by decide +kernel
theorem dL_prop_8 : decode cL_prop 8 = .ok (.i2l, 1) := by decide +kernel
theorem dL_prop_9 : decode cL_prop 9 = .ok (.lastore, 1) := by decide +kernel
theorem dL_prop_10 : decode cL_prop 10 = .ok (.goto 7, 3) := by decide +kernel
theorem dL_prop_13 : decode cL_prop 13 = .ok (.astore 4, 2) := by decide +kernel
theorem dL_prop_15 : decode cL_prop 15 = .ok (.iconst 1, 1) := by decide +kernel
theorem dL_prop_16 : decode cL_prop 16 = .ok (.ireturn, 1) := by decide +kernel
theorem dL_prop_17 : decode cL_prop 17 = .ok (.iconst 0, 1) := by decide +kernel
theorem dL_prop_18 : decode cL_prop 18 = .ok (.ireturn, 1) := by decide +kernel
set_option maxRecDepth 20000 in
theorem ggL_had_X4_had : GoodIn wsL_had wsX4_had := goodIn_ca (goodIn_ca (goodIn_r _ [7, 8, 9, 10, 11, 12, 13, 6, 14, 15, 16, 17, 18, 19, 20, 21, 22, 23, 24, 25, 26, 27, 28, 29, 30, 31, 32, 33, 34, 35, 36, 37, 38, 39, 40, 41, 42, 43, 44, 45, 46, 47, 48, 49, 50, 51, 52, 53, 54, 55, 56, 57, 58, 59, 60, 61, 62, 63, 64, 65, 66, 67] (by decide +kernel) (by decide +kernel)) (goodIn_sub (fun _ h => List.mem_cons_of_mem _ (List.mem_append_left _ (List.mem_append_right _ h))) (by decide +kernel))) (goodIn_sub (fun _ h => List.mem_cons_of_mem _ (List.mem_append_right _ h)) (by decide +kernel))
set_option maxRecDepth 20000 in
theorem gL_had_X4_had : GoodIn wsL_had (wsV RL 27 RX4 yX4_had wsX4_had) := goodIn_app (goodIn_of _ (by decide +kernel)) ggL_had_X4_had
theorem dL_had_0 : decode cL_had 0 = .ok (.aload_n 3, 1) := by decide +kernel
theorem dL_had_1 : decode cL_had 1 = .ok (.iconst 0, 1) := by decide +kernel
theorem dL_had_2 : decode cL_had 2 = .ok (.aload_n 0, 1) := by decide +kernel
theorem dL_had_3 : decode cL_had 3 = .ok (.iload_n 1, 1) := by decide +kernel
theorem dL_had_4 : decode cL_had 4 = .ok (.iload_n 2, 1) := by decide +kernel
theorem dL_had_5 : decode cL_had 5 = .ok (.invokevirtual 27, 3) := by decide +kernel
theorem dL_had_8 : decode cL_had 8 = .ok (.i2l, 1) := by decide +kernel
theorem dL_had_9 : decode cL_had 9 = .ok (.lastore, 1) := by decide +kernel
theorem dL_had_10 : decode cL_had 10 = .ok (.goto 11, 3) := by decide +kernel
theorem dL_had_13 : decode cL_had 13 = .ok (.astore 4, 2) := by decide +kernel
theorem dL_had_15 : decode cL_had 15 = .ok (.iconst 1, 1) := by decide +kernel
theorem dL_had_16 : decode cL_had 16 = .ok (.ireturn, 1) := by decide +kernel
theorem dL_had_17 : decode cL_had 17 = .ok (.astore 4, 2) := by decide +kernel
theorem dL_had_19 : decode cL_had 19 = .ok (.iconst 2, 1) := by decide +kernel
theorem dL_had_20 : decode cL_had 20 = .ok (.ireturn, 1) := by decide +kernel
theorem dL_had_21 : decode cL_had 21 = .ok (.iconst 0, 1) := by decide +kernel
theorem dL_had_22 : decode cL_had 22 = .ok (.ireturn, 1) := by decide +kernel
set_option maxRecDepth 20000 in
theorem ggL_canBeLeft_X4_canBeLeft : GoodIn wsL_canBeLeft wsX4_canBeLeft := goodIn_ca (goodIn_r _ [6, 7, 8, 9, 5, 10, 11, 12, 13, 14, 15, 16, 17, 18, 19, 20, 21, 22, 23, 24, 25, 26, 27, 28, 29, 30, 31, 32, 33, 34, 35, 36, 37, 38, 39, 40, 41, 42, 43, 44, 45, 46, 47, 48, 49, 50, 51, 52, 53, 54, 55, 56, 57, 58, 59, 60, 61, 62, 63, 64, 65, 66, 67, 68] (by decide +kernel) (by decide +kernel)) (goodIn_sub (fun _ h => List.mem_cons_of_mem _ (List.mem_append_right _ h)) (by decide +kernel))
set_option maxRecDepth 20000 in
theorem gL_canBeLeft_X4_canBeLeft : GoodIn wsL_canBeLeft (wsV RL 31 RX4 yX4_canBeLeft wsX4_canBeLeft) := goodIn_app (goodIn_of _ (by decide +kernel)) ggL_canBeLeft_X4_canBeLeft
theorem dL_canBeLeft_0 : decode cL_canBeLeft 0 = .ok (.aload_n 2, 1) := by decide +kernel
theorem dL_canBeLeft_1 : decode cL_canBeLeft 1 = .ok (.iconst 0, 1) := by decide +kernel
theorem dL_canBeLeft_2 : decode cL_canBeLeft 2 = .ok (.aload_n 0, 1) := by decide +kernel
theorem dL_canBeLeft_3 : decode cL_canBeLeft 3 = .ok (.iload_n 1, 1) := by decide +kernel
theorem dL_canBeLeft_4 : decode cL_canBeLeft 4 = .ok (.invokevirtual 31, 3) := by decide +kernel
theorem dL_canBeLeft_7 : decode cL_canBeLeft 7 = .ok (.ifCond .eq 7, 3) := by decide +kernel
theorem dL_canBeLeft_10 : decode cL_canBeLeft 10 = .ok (.lconst 1, 1) := by decide +kernel
theorem dL_canBeLeft_11 : decode cL_canBeLeft 11 = .ok (.goto 4, 3) := by decide +kernel
theorem dL_canBeLeft_14 : decode cL_canBeLeft 14 = .ok (.lconst 0, 1) := by decide +kernel
theorem dL_canBeLeft_15 : decode cL_canBeLeft 15 = .ok (.lastore, 1) := by decide +kernel
theorem dL_canBeLeft_16 : decode cL_canBeLeft 16 = .ok (.goto 6, 3) := by decide +kernel
theorem dL_canBeLeft_19 : decode cL_canBeLeft 19 = .ok (.astore_n 3, 1) := by decide +kernel
theorem dL_canBeLeft_20 : decode cL_canBeLeft 20 = .ok (.iconst 1, 1) := by decide +kernel
theorem dL_canBeLeft_21 : decode cL_canBeLeft 21 = .ok (.ireturn, 1) := by decide +kernel
theorem dL_canBeLeft_22 : decode cL_canBeLeft 22 = .ok (.iconst 0, 1) := by decide +kernel
theorem dL_canBeLeft_23 : decode cL_canBeLeft 23 = .ok (.ireturn, 1) := by decide +kernel
set_option maxRecDepth 20000 in
theorem ggL_orders_X4_orders : GoodIn wsL_orders wsX4_orders := goodIn_ca (goodIn_r _ [6, 7, 8, 9, 5, 10, 11, 12, 13, 14, 15, 16, 17, 18, 19, 20, 21, 22, 23, 24, 25, 26, 27, 28, 29, 30, 31, 32, 33, 34, 35, 36, 37, 38, 39, 40, 41, 42, 43, 44, 45, 46, 47, 48, 49, 50, 51, 52, 53, 54, 55, 56, 57, 58, 59, 60, 61, 62, 63, 64, 65, 66, 67, 68, 69, 70, 71, 72, 73, 74] (by decide +kernel) (by decide +kernel)) (goodIn_sub (fun _ h => List.mem_cons_of_mem _ (List.mem_append_right _ h)) (by decide +kernel))
set_option maxRecDepth 20000 in
theorem gL_orders_X4_orders : GoodIn wsL_orders (wsV RL 35 RX4 yX4_orders wsX4_orders) := goodIn_app (goodIn_of _ (by decide +kernel)) ggL_orders_X4_orders
theorem dL_orders_0 : decode cL_orders 0 = .ok (.aload_n 2, 1) := by decide +kernel
theorem dL_orders_1 : decode cL_orders 1 = .ok (.iconst 0, 1) := by decide +kernel
theorem dL_orders_2 : decode cL_orders 2 = .ok (.aload_n 0, 1) := by decide +kernel
theorem dL_orders_3 : decode cL_orders 3 = .ok (.iload_n 1, 1) := by decide +kernel
theorem dL_orders_4 : decode cL_orders 4 = .ok (.invokevirtual 35, 3) := by decide +kernel
theorem dL_orders_7 : decode cL_orders 7 = .ok (.i2l, 1) := by decide +kernel
theorem dL_orders_8 : decode cL_orders 8 = .ok (.lastore, 1) := by decide +kernel
theorem dL_orders_9 : decode cL_orders 9 = .ok (.goto 6, 3) := by decide +kernel
theorem dL_orders_12 : decode cL_orders 12 = .ok (.astore_n 3, 1) := by decide +kernel
theorem dL_orders_13 : decode cL_orders 13 = .ok (.iconst 1, 1) := by decide +kernel
theorem dL_orders_14 : decode cL_orders 14 = .ok (.ireturn, 1) := by decide +kernel
theorem dL_orders_15 : decode cL_orders 15 = .ok (.iconst 0, 1) := by decide +kernel
theorem dL_orders_16 : decode cL_orders 16 = .ok (.ireturn, 1) := by decide +kernel
set_option maxRecDepth 20000 in
theorem ggL_ordersAnew_X4_ordersAnew : GoodIn wsL_ordersAnew wsX4_ordersAnew := goodIn_ca (goodIn_r _ [6, 7, 8, 9, 10, 11, 5, 12, 13, 14, 15, 16, 17, 18, 19, 20, 21, 22, 23, 24, 25, 26, 27, 28, 29, 30, 31, 32, 33, 34, 35, 36, 37, 38, 39, 40, 41, 42, 43, 44, 45, 46, 47, 48, 49, 50, 51, 52, 53, 54, 55, 56, 57, 58, 59, 60, 61, 62, 63, 64, 65, 66, 67, 68, 69, 70, 71, 72] (by decide +kernel) (by decide +kernel)) (goodIn_sub (fun _ h => List.mem_cons_of_mem _ (List.mem_append_right _ h)) (by decide +kernel))
set_option maxRecDepth 20000 in
theorem gL_ordersAnew_X4_ordersAnew : GoodIn wsL_ordersAnew (wsV RL 38 RX4 yX4_ordersAnew wsX4_ordersAnew) := goodIn_app (goodIn_of _ (by decide +kernel)) ggL_ordersAnew_X4_ordersAnew
theorem dL_ordersAnew_0 : decode cL_ordersAnew 0 = .ok (.aload_n 2, 1) := by decide +kernel
theorem dL_ordersAnew_1 : decode cL_ordersAnew 1 = .ok (.iconst 0, 1) := by decide +kernel
theorem dL_ordersAnew_2 : decode cL_ordersAnew 2 = .ok (.aload_n 0, 1) := by decide +kernel
theorem dL_ordersAnew_3 : decode cL_ordersAnew 3 = .ok (.iload_n 1, 1) := by decide +kernel
theorem dL_ordersAnew_4 : decode cL_ordersAnew 4 = .ok (.invokevirtual 38, 3) := by decide +kernel
theorem dL_ordersAnew_7 : decode cL_ordersAnew 7 = .ok (.i2l, 1) := by decide +kernel
theorem dL_ordersAnew_8 : decode cL_ordersAnew 8 = .ok (.lastore, 1) := by decide +kernel
theorem dL_ordersAnew_9 : decode cL_ordersAnew 9 = .ok (.goto 6, 3) := by decide +kernel
theorem dL_ordersAnew_12 : decode cL_ordersAnew 12 = .ok (.astore_n 3, 1) := by decide +kernel
theorem dL_ordersAnew_13 : decode cL_ordersAnew 13 = .ok (.iconst 1, 1) := by decide +kernel
theorem dL_ordersAnew_14 : decode cL_ordersAnew 14 = .ok (.ireturn, 1) := by decide +kernel
theorem dL_ordersAnew_15 : decode cL_ordersAnew 15 = .ok (.iconst 0, 1) := by decide +kernel
theorem dL_ordersAnew_16 : decode cL_ordersAnew 16 = .ok (.ireturn, 1) := by decide +kernel
set_option maxRecDepth 20000 in
theorem ggL_come_X4_come : GoodIn wsL_come wsX4_come := goodIn_ca (goodIn_ca (goodIn_r _ [7, 8, 9, 10, 11, 12, 13, 14, 6, 15, 16, 17, 18, 19, 20, 21, 22, 23, 24, 25, 26, 27, 28, 29, 30, 31, 32, 33, 34, 35, 36, 37, 38, 39, 40, 41, 42, 43, 44, 45, 46, 47, 48, 49, 50, 51, 52, 53, 54, 55, 56, 57, 58, 59, 60, 61, 62, 63, 64, 65, 66, 67, 68, 69, 70, 71, 72, 73, 74, 75, 76, 77, 78, 79, 80, 81, 82, 83, 84, 85, 86, 87, 88, 89, 90, 91, 92, 93, 94, 95, 96, 97, 98, 99, 100, 101, 102, 103, 104, 105, 106, 107, 108, 109, 110, 111, 112, 113, 114, 115, 116, 117, 118, 119, 120, 121, 122, 123, 124, 125, 126, 127, 128, 129, 130, 131, 132, 133, 134, 135, 136, 137, 138, 139, 140, 141, 142, 143, 144] (by decide +kernel) (by decide +kernel)) (goodIn_sub (fun _ h => List.mem_cons_of_mem _ (List.mem_append_left _ (List.mem_append_right _ h))) (by decide +kernel))) (goodIn_sub (fun _ h => List.mem_cons_of_mem _ (List.mem_append_right _ h)) (by decide +kernel))
set_option maxRecDepth 20000 in
theorem gL_come_X4_come : GoodIn wsL_come (wsV RL 41 RX4 yX4_come wsX4_come) := goodIn_app (goodIn_of _ (by decide +kernel)) ggL_come_X4_come
theorem dL_come_0 : decode cL_come 0 = .ok (.aload_n 2, 1) := by decide +kernel
theorem dL_come_1 : decode cL_come 1 = .ok (.iconst 0, 1) := by decide +kernel
theorem dL_come_2 : decode cL_come 2 = .ok (.aload_n 0, 1) := by decide +kernel
theorem dL_come_3 : decode cL_come 3 = .ok (.iload_n 1, 1) := by decide +kernel
theorem dL_come_4 : decode cL_come 4 = .ok (.invokevirtual 41, 3) := by decide +kernel
theorem dL_come_7 : decode cL_come 7 = .ok (.i2l, 1) := by decide +kernel
theorem dL_come_8 : decode cL_come 8 = .ok (.lastore, 1) := by decide +kernel
theorem dL_come_9 : decode cL_come 9 = .ok (.goto 9, 3) := by decide +kernel
theorem dL_come_12 : decode cL_come 12 = .ok (.astore_n 3, 1) := by decide +kernel
theorem dL_come_13 : decode cL_come 13 = .ok (.iconst 1, 1) := by decide +kernel
theorem dL_come_14 : decode cL_come 14 = .ok (.ireturn, 1) := by decide +kernel
theorem dL_come_15 : decode cL_come 15 = .ok (.astore_n 3, 1) := by decide +kernel
theorem dL_come_16 : decode cL_come 16 = .ok (.iconst 2, 1) := by decide +kernel
theorem dL_come_17 : decode cL_come 17 = .ok (.ireturn, 1) := by decide +kernel
theorem dL_come_18 : decode cL_come 18 = .ok (.iconst 0, 1) := by decide +kernel
theorem dL_come_19 : decode cL_come 19 = .ok (.ireturn, 1) := by decide +kernel
set_option maxRecDepth 20000 in
theorem ggL_solve_X4_solve : GoodIn wsL_solve wsX4_solve := goodIn_ca (goodIn_ca (goodIn_r _ [7, 8, 9, 10, 11, 12, 13, 14, 15, 16, 17, 18, 19, 20, 6, 21, 22, 23, 24, 25, 26, 27, 28, 29, 30, 31, 32, 33, 34, 35, 36, 37, 38, 39, 40, 41, 42, 43, 44, 45, 46, 47, 48, 49, 50, 51, 52, 53, 54, 55, 56, 57, 58, 59, 60, 61, 62, 63, 64, 65, 66, 67, 68, 69, 70, 71, 72, 73, 74, 75, 76, 77, 78, 79, 80, 81, 82, 83, 84, 85, 86, 87, 88, 89] (by decide +kernel) (by decide +kernel)) (goodIn_sub (fun _ h => List.mem_cons_of_mem _ (List.mem_append_left _ (List.mem_append_right _ h))) (by decide +kernel))) (goodIn_sub (fun _ h => List.mem_cons_of_mem _ (List.mem_append_right _ h)) (by decide +kernel))
set_option maxRecDepth 20000 in
theorem gL_solve_X4_solve : GoodIn wsL_solve (wsV RL 44 RX4 yX4_solve wsX4_solve) := goodIn_app (goodIn_of _ (by decide +kernel)) ggL_solve_X4_solve
theorem dL_solve_0 : decode cL_solve 0 = .ok (.aload_n 3, 1) := by decide +kernel
theorem dL_solve_1 : decode cL_solve 1 = .ok (.iconst 0, 1) := by decide +kernel
theorem dL_solve_2 : decode cL_solve 2 = .ok (.aload_n 0, 1) := by decide +kernel
theorem dL_solve_3 : decode cL_solve 3 = .ok (.iload_n 1, 1) := by decide +kernel
theorem dL_solve_4 : decode cL_solve 4 = .ok (.iload_n 2, 1) := by decide +kernel
theorem dL_solve_5 : decode cL_solve 5 = .ok (.invokevirtual 44, 3) := by decide +kernel
theorem dL_solve_8 : decode cL_solve 8 = .ok (.i2l, 1) := by decide +kernel
theorem dL_solve_9 : decode cL_solve 9 = .ok (.lastore, 1) := by decide +kernel
theorem dL_solve_10 : decode cL_solve 10 = .ok (.goto 11, 3) := by decide +kernel
theorem dL_solve_13 : decode cL_solve 13 = .ok (.astore 4, 2) := by decide +kernel
theorem dL_solve_15 : decode cL_solve 15 = .ok (.iconst 1, 1) := by decide +kernel
theorem dL_solve_16 : decode cL_solve 16 = .ok (.ireturn, 1) := by decide +kernel
theorem dL_solve_17 : decode cL_solve 17 = .ok (.astore 4, 2) := by decide +kernel
theorem dL_solve_19 : decode cL_solve 19 = .ok (.iconst 2, 1) := by decide +kernel
theorem dL_solve_20 : decode cL_solve 20 = .ok (.ireturn, 1) := by decide +kernel
theorem dL_solve_21 : decode cL_solve 21 = .ok (.iconst 0, 1) := by decide +kernel
theorem dL_solve_22 : decode cL_solve 22 = .ok (.ireturn, 1) := by decide +kernel
set_option maxRecDepth 20000 in
theorem ggL_hint_X4_hint : GoodIn wsL_hint wsX4_hint := goodIn_ca (goodIn_ca (goodIn_r _ [7, 8, 9, 10, 11, 12, 13, 14, 15, 6, 16, 17, 18, 19, 20, 21, 22, 23, 24, 25, 26, 27, 28, 29, 30, 31, 32, 33, 34, 35, 36, 37, 38, 39, 40, 41, 42, 43, 44, 45, 46, 47, 48, 49, 50, 51, 52, 53, 54, 55, 56, 57, 58, 59, 60, 61, 62, 63, 64, 65, 66, 67, 68, 69, 70, 71, 72, 73, 74, 75, 76, 77, 78, 79, 80, 81, 82, 83, 84, 85, 86, 87, 88, 89, 90, 91, 92, 93, 94, 95, 96, 97, 98, 99, 100, 101, 102, 103, 104, 105, 106, 107, 108, 109, 110, 111, 112, 113, 114, 115, 116, 117, 118, 119, 120, 121, 122] (by decide +kernel) (by decide +kernel)) (goodIn_sub (fun _ h => List.mem_cons_of_mem _ (List.mem_append_left _ (List.mem_append_right _ h))) (by decide +kernel))) (goodIn_sub (fun _ h => List.mem_cons_of_mem _ (List.mem_append_right _ h)) (by decide +kernel))
set_option maxRecDepth 20000 in
theorem gL_hint_X4_hint : GoodIn wsL_hint (wsV RL 47 RX4 yX4_hint wsX4_hint) := goodIn_app (goodIn_of _ (by decide +kernel)) ggL_hint_X4_hint
theorem dL_hint_0 : decode cL_hint 0 = .ok (.aload_n 2, 1) := by decide +kernel
theorem dL_hint_1 : decode cL_hint 1 = .ok (.iconst 0, 1) := by decide +kernel
theorem dL_hint_2 : decode cL_hint 2 = .ok (.aload_n 0, 1) := by decide +kernel
theorem dL_hint_3 : decode cL_hint 3 = .ok (.iload_n 1, 1) := by decide +kernel
theorem dL_hint_4 : decode cL_hint 4 = .ok (.invokevirtual 47, 3) := by decide +kernel
theorem dL_hint_7 : decode cL_hint 7 = .ok (.i2l, 1) := by decide +kernel
theorem dL_hint_8 : decode cL_hint 8 = .ok (.lastore, 1) := by decide +kernel
theorem dL_hint_9 : decode cL_hint 9 = .ok (.goto 9, 3) := by decide +kernel
theorem dL_hint_12 : decode cL_hint 12 = .ok (.astore_n 3, 1) := by decide +kernel
theorem dL_hint_13 : decode cL_hint 13 = .ok (.iconst 1, 1) := by decide +kernel
theorem dL_hint_14 : decode cL_hint 14 = .ok (.ireturn, 1) := by decide +kernel
theorem dL_hint_15 : decode cL_hint 15 = .ok (.astore_n 3, 1) := by decide +kernel
theorem dL_hint_16 : decode cL_hint 16 = .ok (.iconst 2, 1) := by decide +kernel
theorem dL_hint_17 : decode cL_hint 17 = .ok (.ireturn, 1) := by decide +kernel
theorem dL_hint_18 : decode cL_hint 18 = .ok (.iconst 0, 1) := by decide +kernel
theorem dL_hint_19 : decode cL_hint 19 = .ok (.ireturn, 1) := by decide +kernel
set_option maxRecDepth 20000 in
theorem ggL_giveUp_X4_giveUp : GoodIn wsL_giveUp wsX4_giveUp := goodIn_ca (goodIn_ca (goodIn_r _ [7, 8, 9, 10, 11, 12, 13, 6, 14, 15, 16, 17, 18, 19, 20, 21, 22, 23, 24, 25, 26, 27, 28, 29, 30, 31, 32, 33, 34, 35, 36, 37, 38, 39, 40, 41, 42, 43, 44, 45, 46, 47, 48, 49, 50, 51, 52, 53, 54, 55, 56, 57, 58] (by decide +kernel) (by decide +kernel)) (goodIn_sub (fun _ h => List.mem_cons_of_mem _ (List.mem_append_left _ (List.mem_append_right _ h))) (by decide +kernel))) (goodIn_sub (fun _ h => List.mem_cons_of_mem _ (List.mem_append_right _ h)) (by decide +kernel))
set_option maxRecDepth 20000 in
theorem gL_giveUp_X4_giveUp : GoodIn wsL_giveUp (wsV RL 50 RX4 yX4_giveUp wsX4_giveUp) := goodIn_app (goodIn_of _ (by decide +kernel)) ggL_giveUp_X4_giveUp
theorem dL_giveUp_0 : decode cL_giveUp 0 = .ok (.aload_n 0, 1) := by decide +kernel
theorem dL_giveUp_1 : decode cL_giveUp 1 = .ok (.iload_n 1, 1) := by decide +kernel
theorem dL_giveUp_2 : decode cL_giveUp 2 = .ok (.invokevirtual 50, 3) := by decide +kernel
theorem dL_giveUp_5 : decode cL_giveUp 5 = .ok (.goto 9, 3) := by decide +kernel
theorem dL_giveUp_8 : decode cL_giveUp 8 = .ok (.astore_n 2, 1) := by decide +kernel
theorem dL_giveUp_9 : decode cL_giveUp 9 = .ok (.iconst 1, 1) := by decide +kernel
theorem dL_giveUp_10 : decode cL_giveUp 10 = .ok (.ireturn, 1) := by decide +kernel
theorem dL_giveUp_11 : decode cL_giveUp 11 = .ok (.astore_n 2, 1) := by decide +kernel
theorem dL_giveUp_12 : decode cL_giveUp 12 = .ok (.iconst 2, 1) := by decide +kernel
theorem dL_giveUp_13 : decode cL_giveUp 13 = .ok (.ireturn, 1) := by decide +kernel
theorem dL_giveUp_14 : decode cL_giveUp 14 = .ok (.iconst 0, 1) := by decide +kernel
theorem dL_giveUp_15 : decode cL_giveUp 15 = .ok (.ireturn, 1) := by decide +kernel
set_option maxRecDepth 20000 in
theorem ggL_reset_X4_reset : GoodIn wsL_reset wsX4_reset := goodIn_ca (goodIn_ca (goodIn_r _ [7, 8, 9, 10, 11, 12, 13, 14, 15, 16, 6, 17, 18, 19, 20, 21, 22, 23, 24, 25, 26, 27, 28, 29, 30, 31, 32, 33, 34, 35, 36, 37, 38, 39, 40, 41, 42, 43, 44, 45, 46, 47, 48, 49, 50, 51, 52, 53, 54, 55, 56, 57, 58, 59, 60, 61, 62, 63, 64, 65, 66, 67, 68, 69, 70, 71, 72, 73, 74, 75, 76, 77, 78, 79, 80, 81, 82, 83, 84, 85, 86, 87, 88] (by decide +kernel) (by decide +kernel)) (goodIn_sub (fun _ h => List.mem_cons_of_mem _ (List.mem_append_left _ (List.mem_append_right _ h))) (by decide +kernel))) (goodIn_sub (fun _ h => List.mem_cons_of_mem _ (List.mem_append_right _ h)) (by decide +kernel))
set_option maxRecDepth 20000 in
theorem gL_reset_X4_reset : GoodIn wsL_reset (wsV RL 54 RX4 yX4_reset wsX4_reset) := goodIn_app (goodIn_of _ (by decide +kernel)) ggL_reset_X4_reset
theorem dL_reset_0 : decode cL_reset 0 = .ok (.aload_n 0, 1) := by decide +kernel
theorem dL_reset_1 : decode cL_reset 1 = .ok (.iload_n 1, 1) := by decide +kernel
theorem dL_reset_2 : decode cL_reset 2 = .ok (.iload_n 2, 1) := by decide +kernel
theorem dL_reset_3 : decode cL_reset 3 = .ok (.iload_n 3, 1) := by decide +kernel
theorem dL_reset_4 : decode cL_reset 4 = .ok (.invokevirtual 54, 3) := by decide +kernel
theorem dL_reset_7 : decode cL_reset 7 = .ok (.goto 11, 3) := by decide +kernel
theorem dL_reset_10 : decode cL_reset 10 = .ok (.astore 4, 2) := by decide +kernel
theorem dL_reset_12 : decode cL_reset 12 = .ok (.iconst 1, 1) := by decide +kernel
theorem dL_reset_13 : decode cL_reset 13 = .ok (.ireturn, 1) := by decide +kernel
theorem dL_reset_14 : decode cL_reset 14 = .ok (.astore 4, 2) := by decide +kernel
theorem dL_reset_16 : decode cL_reset 16 = .ok (.iconst 2, 1) := by decide +kernel
theorem dL_reset_17 : decode cL_reset 17 = .ok (.ireturn, 1) := by decide +kernel
theorem dL_reset_18 : decode cL_reset 18 = .ok (.iconst 0, 1) := by decide +kernel
theorem dL_reset_19 : decode cL_reset 19 = .ok (.ireturn, 1) := by decide +kernel
set_option maxRecDepth 20000 in
theorem ggL_forget_X4_forget : GoodIn wsL_forget wsX4_forget := goodIn_ca (goodIn_ca (goodIn_r _ [7, 8, 9, 10, 11, 12, 13, 14, 15, 16, 6, 17, 18, 19, 20, 21, 22, 23, 24, 25, 26, 27, 28, 29, 30, 31, 32, 33, 34, 35, 36, 37, 38, 39, 40, 41, 42, 43, 44, 45, 46, 47, 48, 49, 50, 51, 52, 53, 54, 55, 56, 57, 58, 59, 60, 61, 62, 63, 64, 65, 66, 67, 68, 69, 70, 71, 72, 73, 74, 75, 76, 77, 78, 79, 80, 81, 82, 83, 84, 85, 86, 87, 88, 89] (by decide +kernel) (by decide +kernel)) (goodIn_sub (fun _ h => List.mem_cons_of_mem _ (List.mem_append_left _ (List.mem_append_right _ h))) (by decide +kernel))) (goodIn_sub (fun _ h => List.mem_cons_of_mem _ (List.mem_append_right _ h)) (by decide +kernel))
set_option maxRecDepth 20000 in
theorem gL_forget_X4_forget : GoodIn wsL_forget (wsV RL 58 RX4 yX4_forget wsX4_forget) := goodIn_app (goodIn_of _ (by decide +kernel)) ggL_forget_X4_forget
theorem dL_forget_0 : decode cL_forget 0 = .ok (.aload_n 2, 1) := by decide +kernel
theorem dL_forget_1 : decode cL_forget 1 = .ok (.iconst 0, 1) := by decide +kernel
theorem dL_forget_2 : decode cL_forget 2 = .ok (.aload_n 0, 1) := by decide +kernel
theorem dL_forget_3 : decode cL_forget 3 = .ok (.iload_n 1, 1) := by decide +kernel
theorem dL_forget_4 : decode cL_forget 4 = .ok (.invokevirtual 58, 3) := by decide +kernel
theorem dL_forget_7 : decode cL_forget 7 = .ok (.i2l, 1) := by decide +kernel
theorem dL_forget_8 : decode cL_forget 8 = .ok (.lastore, 1) := by decide +kernel
theorem dL_forget_9 : decode cL_forget 9 = .ok (.goto 9, 3) := by decide +kernel
theorem dL_forget_12 : decode cL_forget 12 = .ok (.astore_n 3, 1) := by decide +kernel
theorem dL_forget_13 : decode cL_forget 13 = .ok (.iconst 1, 1) := by decide +kernel
theorem dL_forget_14 : decode cL_forget 14 = .ok (.ireturn, 1) := by decide +kernel
theorem dL_forget_15 : decode cL_forget 15 = .ok (.astore_n 3, 1) := by decide +kernel
theorem dL_forget_16 : decode cL_forget 16 = .ok (.iconst 2, 1) := by decide +kernel
theorem dL_forget_17 : decode cL_forget 17 = .ok (.ireturn, 1) := by decide +kernel
theorem dL_forget_18 : decode cL_forget 18 = .ok (.iconst 0, 1) := by decide +kernel
theorem dL_forget_19 : decode cL_forget 19 = .ok (.ireturn, 1) := by decide +kernel
set_option maxRecDepth 20000 in
theorem ggL_book_X4_book : GoodIn wsL_book wsX4_book := goodIn_ca (goodIn_ca (goodIn_ca (goodIn_r _ [8, 9, 10, 11, 12, 13, 14, 15, 16, 17, 18, 19, 20, 21, 7, 22, 23, 24, 25, 26, 27, 28, 29, 30, 31, 32, 33, 34, 35, 36, 37, 38, 39, 40, 41, 42, 43, 44, 45, 46, 47, 48, 49, 50, 51, 52, 53, 54, 55, 56, 57, 58, 59, 60, 61, 62, 63, 64, 65, 66, 67, 68, 69, 70, 71, 72, 73, 74, 75, 76, 77, 78] (by decide +kernel) (by decide +kernel)) (goodIn_sub (fun _ h => List.mem_cons_of_mem _ (List.mem_append_left _ (List.mem_append_left _ (List.mem_append_right _ h)))) (by decide +kernel))) (goodIn_sub (fun _ h => List.mem_cons_of_mem _ (List.mem_append_left _ (List.mem_append_right _ h))) (by decide +kernel))) (goodIn_sub (fun _ h => List.mem_cons_of_mem _ (List.mem_append_right _ h)) (by decide +kernel))
set_option maxRecDepth 20000 in
theorem gL_book_X4_book : GoodIn wsL_book (wsV RL 61 RX4 yX4_book wsX4_book) := goodIn_app (goodIn_of _ (by decide +kernel)) ggL_book_X4_book
theorem dL_book_0 : decode cL_book 0 = .ok (.aload_n 3, 1) := by decide +kernel
theorem dL_book_1 : decode cL_book 1 = .ok (.iconst 0, 1) := by decide +kernel
theorem dL_book_2 : decode cL_book 2 = .ok (.aload_n 0, 1) := by decide +kernel
theorem dL_book_3 : decode cL_book 3 = .ok (.iload_n 1, 1) := by decide +kernel
theorem dL_book_4 : decode cL_book 4 = .ok (.iload_n 2, 1) := by decide +kernel
theorem dL_book_5 : decode cL_book 5 = .ok (.invokevirtual 61, 3) := by decide +kernel
theorem dL_book_8 : decode cL_book 8 = .ok (.i2l, 1) := by decide +kernel
theorem dL_book_9 : decode cL_book 9 = .ok (.lastore, 1) := by decide +kernel
theorem dL_book_10 : decode cL_book 10 = .ok (.goto 15, 3) := by decide +kernel
theorem dL_book_13 : decode cL_book 13 = .ok (.astore 4, 2) := by decide +kernel
theorem dL_book_15 : decode cL_book 15 = .ok (.iconst 1, 1) := by decide +kernel
theorem dL_book_16 : decode cL_book 16 = .ok (.ireturn, 1) := by decide +kernel
theorem dL_book_17 : decode cL_book 17 = .ok (.astore 4, 2) := by decide +kernel
theorem dL_book_19 : decode cL_book 19 = .ok (.iconst 2, 1) := by decide +kernel
theorem dL_book_20 : decode cL_book 20 = .ok (.ireturn, 1) := by decide +kernel
theorem dL_book_21 : decode cL_book 21 = .ok (.astore 4, 2) := by decide +kernel
theorem dL_book_23 : decode cL_book 23 = .ok (.iconst 3, 1) := by decide +kernel
theorem dL_book_24 : decode cL_book 24 = .ok (.ireturn, 1) := by decide +kernel
theorem dL_book_25 : decode cL_book 25 = .ok (.iconst 0, 1) := by decide +kernel
theorem dL_book_26 : decode cL_book 26 = .ok (.ireturn, 1) := by decide +kernel
set_option maxRecDepth 20000 in
theorem ggL_cancel_X4_cancel : GoodIn wsL_cancel wsX4_cancel := goodIn_ca (goodIn_ca (goodIn_r _ [7, 8, 9, 10, 11, 12, 13, 6, 14, 15, 16, 17, 18, 19, 20, 21, 22, 23, 24, 25, 26, 27, 28, 29, 30, 31, 32] (by decide +kernel) (by decide +kernel)) (goodIn_sub (fun _ h => List.mem_cons_of_mem _ (List.mem_append_left _ (List.mem_append_right _ h))) (by decide +kernel))) (goodIn_sub (fun _ h => List.mem_cons_of_mem _ (List.mem_append_right _ h)) (by decide +kernel))
set_option maxRecDepth 20000 in
theorem gL_cancel_X4_cancel : GoodIn wsL_cancel (wsV RL 64 RX4 yX4_cancel wsX4_cancel) := goodIn_app (goodIn_of _ (by decide +kernel)) ggL_cancel_X4_cancel
theorem dL_cancel_0 : decode cL_cancel 0 = .ok (.aload_n 0, 1) := by decide +kernel
theorem dL_cancel_1 : decode cL_cancel 1 = .ok (.iload_n 1, 1) := by decide +kernel
theorem dL_cancel_2 : decode cL_cancel 2 = .ok (.invokevirtual 64, 3) := by decide +kernel
theorem dL_cancel_5 : decode cL_cancel 5 = .ok (.goto 9, 3) := by decide +kernel
theorem dL_cancel_8 : decode cL_cancel 8 = .ok (.astore_n 2, 1) := by decide +kernel
theorem dL_cancel_9 : decode cL_cancel 9 = .ok (.iconst 1, 1) := by decide +kernel
theorem dL_cancel_10 : decode cL_cancel 10 = .ok (.ireturn, 1) := by decide +kernel
theorem dL_cancel_11 : decode cL_cancel 11 = .ok (.astore_n 2, 1) := by decide +kernel
theorem dL_cancel_12 : decode cL_cancel 12 = .ok (.iconst 2, 1) := by decide +kernel
theorem dL_cancel_13 : decode cL_cancel 13 = .ok (.ireturn, 1) := by decide +kernel
theorem dL_cancel_14 : decode cL_cancel 14 = .ok (.iconst 0, 1) := by decide +kernel
theorem dL_cancel_15 : decode cL_cancel 15 = .ok (.ireturn, 1) := by decide +kernel
set_option maxRecDepth 20000 in
theorem ggL_offer_X4_offer : GoodIn wsL_offer wsX4_offer := goodIn_ca (goodIn_ca (goodIn_r _ [7, 8, 9, 10, 11, 12, 13, 14, 15, 16, 17, 6, 18, 19, 20, 21, 22, 23, 24, 25, 26, 27, 28, 29, 30, 31, 32, 33, 34, 35, 36, 37, 38, 39, 40, 41, 42, 43, 44, 45, 46, 47, 48, 49, 50, 51, 52, 53, 54, 55, 56, 57, 58, 59, 60, 61, 62, 63, 64, 65, 66, 67, 68, 69] (by decide +kernel) (by decide +kernel)) (goodIn_sub (fun _ h => List.mem_cons_of_mem _ (List.mem_append_left _ (List.mem_append_right _ h))) (by decide +kernel))) (goodIn_sub (fun _ h => List.mem_cons_of_mem _ (List.mem_append_right _ h)) (by decide +kernel))
set_option maxRecDepth 20000 in
theorem gL_offer_X4_offer : GoodIn wsL_offer (wsV RL 67 RX4 yX4_offer wsX4_offer) := goodIn_app (goodIn_of _ (by decide +kernel)) ggL_offer_X4_offer
theorem dL_offer_0 : decode cL_offer 0 = .ok (.aload_n 3, 1) := by decide +kernel
theorem dL_offer_1 : decode cL_offer 1 = .ok (.iconst 0, 1) := by decide +kernel
theorem dL_offer_2 : decode cL_offer 2 = .ok (.aload_n 0, 1) := by decide +kernel
theorem dL_offer_3 : decode cL_offer 3 = .ok (.iload_n 1, 1) := by decide +kernel
theorem dL_offer_4 : decode cL_offer 4 = .ok (.iload_n 2, 1) := by decide +kernel
theorem dL_offer_5 : decode cL_offer 5 = .ok (.invokevirtual 67, 3) := by decide +kernel
theorem dL_offer_8 : decode cL_offer 8 = .ok (.i2l, 1) := by decide +kernel
theorem dL_offer_9 : decode cL_offer 9 = .ok (.lastore, 1) := by decide +kernel
theorem dL_offer_10 : decode cL_offer 10 = .ok (.goto 11, 3) := by decide +kernel
theorem dL_offer_13 : decode cL_offer 13 = .ok (.astore 4, 2) := by decide +kernel
theorem dL_offer_15 : decode cL_offer 15 = .ok (.iconst 1, 1) := by decide +kernel
theorem dL_offer_16 : decode cL_offer 16 = .ok (.ireturn, 1) := by decide +kernel
theorem dL_offer_17 : decode cL_offer 17 = .ok (.astore 4, 2) := by decide +kernel
theorem dL_offer_19 : decode cL_offer 19 = .ok (.iconst 2, 1) := by decide +kernel
theorem dL_offer_20 : decode cL_offer 20 = .ok (.ireturn, 1) := by decide +kernel
theorem dL_offer_21 : decode cL_offer 21 = .ok (.iconst 0, 1) := by decide +kernel
theorem dL_offer_22 : decode cL_offer 22 = .ok (.ireturn, 1) := by decide +kernel
set_option maxRecDepth 20000 in
theorem ggL_pass_X4_pass : GoodIn wsL_pass wsX4_pass := goodIn_ca (goodIn_ca (goodIn_r _ [7, 8, 9, 10, 11, 12, 13, 14, 15, 6, 16, 17, 18, 19, 20, 21, 22, 23, 24, 25, 26, 27, 28, 29, 30, 31, 32, 33, 34, 35, 36, 37, 38, 39, 40, 41, 42, 43, 44, 45, 46, 47, 48, 49, 50, 51, 52, 53, 54, 55, 56, 57, 58, 59, 60, 61, 62, 63, 64, 65, 66, 67, 68, 69, 70, 71, 72, 73, 74, 75, 76, 77, 78, 79, 80, 81, 82, 83, 84, 85, 86, 87, 88, 89, 90, 91, 92, 93, 94, 95, 96, 97, 98, 99, 100, 101, 102, 103, 104, 105, 106, 107, 108, 109, 110, 111, 112, 113, 114, 115, 116, 117, 118, 119, 120, 121, 122, 123, 124, 125, 126, 127, 128, 129, 130, 131, 132] (by decide +kernel) (by decide +kernel)) (goodIn_sub (fun _ h => List.mem_cons_of_mem _ (List.mem_append_left _ (List.mem_append_right _ h))) (by decide +kernel))) (goodIn_sub (fun _ h => List.mem_cons_of_mem _ (List.mem_append_right _ h)) (by decide +kernel))
set_option maxRecDepth 20000 in
theorem gL_pass_X4_pass : GoodIn wsL_pass (wsV RL 70 RX4 yX4_pass wsX4_pass) := goodIn_app (goodIn_of _ (by decide +kernel)) ggL_pass_X4_pass
theorem dL_pass_0 : decode cL_pass 0 = .ok (.aload_n 2, 1) := by decide +kernel
theorem dL_pass_1 : decode cL_pass 1 = .ok (.iconst 0, 1) := by decide +kernel
theorem dL_pass_2 : decode cL_pass 2 = .ok (.aload_n 0, 1) := by decide +kernel
theorem dL_pass_3 : decode cL_pass 3 = .ok (.iload_n 1, 1) := by decide +kernel
theorem dL_pass_4 : decode cL_pass 4 = .ok (.invokevirtual 70, 3) := by decide +kernel
theorem dL_pass_7 : decode cL_pass 7 = .ok (.i2l, 1) := by decide +kernel
theorem dL_pass_8 : decode cL_pass 8 = .ok (.lastore, 1) := by decide +kernel
theorem dL_pass_9 : decode cL_pass 9 = .ok (.goto 9, 3) := by decide +kernel
theorem dL_pass_12 : decode cL_pass 12 = .ok (.astore_n 3, 1) := by decide +kernel
theorem dL_pass_13 : decode cL_pass 13 = .ok (.iconst 1, 1) := by decide +kernel
theorem dL_pass_14 : decode cL_pass 14 = .ok (.ireturn, 1) := by decide +kernel
theorem dL_pass_15 : decode cL_pass 15 = .ok (.astore_n 3, 1) := by decide +kernel
theorem dL_pass_16 : decode cL_pass 16 = .ok (.iconst 2, 1) := by decide +kernel
theorem dL_pass_17 : decode cL_pass 17 = .ok (.ireturn, 1) := by decide +kernel
theorem dL_pass_18 : decode cL_pass 18 = .ok (.iconst 0, 1) := by decide +kernel
theorem dL_pass_19 : decode cL_pass 19 = .ok (.ireturn, 1) := by decide +kernel
set_option maxRecDepth 20000 in
theorem ggL_state_X4_state : GoodIn wsL_state wsX4_state := goodIn_ca (goodIn_ca (goodIn_r _ [7, 8, 9, 10, 11, 12, 13, 14, 15, 16, 17, 18, 6, 19, 20, 21, 22, 23, 24, 25, 26, 27, 28, 29, 30, 31, 32, 33, 34, 35, 36, 37, 38, 39, 40, 41, 42, 43, 44, 45, 46, 47, 48, 49, 50, 51, 52, 53, 54, 55] (by decide +kernel) (by decide +kernel)) (goodIn_sub (fun _ h => List.mem_cons_of_mem _ (List.mem_append_left _ (List.mem_append_right _ h))) (by decide +kernel))) (goodIn_sub (fun _ h => List.mem_cons_of_mem _ (List.mem_append_right _ h)) (by decide +kernel))
set_option maxRecDepth 20000 in
theorem gL_state_X4_state : GoodIn wsL_state (wsV RL 73 RX4 yX4_state wsX4_state) := goodIn_app (goodIn_of _ (by decide +kernel)) ggL_state_X4_state
theorem dL_state_0 : decode cL_state 0 = .ok (.aload_n 3, 1) := by decide +kernel
theorem dL_state_1 : decode cL_state 1 = .ok (.iconst 0, 1) := by decide +kernel
theorem dL_state_2 : decode cL_state 2 = .ok (.aload_n 0, 1) := by decide +kernel
theorem dL_state_3 : decode cL_state 3 = .ok (.iload_n 1, 1) := by decide +kernel
theorem dL_state_4 : decode cL_state 4 = .ok (.iload_n 2, 1) := by decide +kernel
theorem dL_state_5 : decode cL_state 5 = .ok (.invokevirtual 73, 3) := by decide +kernel
theorem dL_state_8 : decode cL_state 8 = .ok (.i2l, 1) := by decide +kernel
theorem dL_state_9 : decode cL_state 9 = .ok (.lastore, 1) := by decide +kernel
theorem dL_state_10 : decode cL_state 10 = .ok (.goto 11, 3) := by decide +kernel
theorem dL_state_13 : decode cL_state 13 = .ok (.astore 4, 2) := by decide +kernel
theorem dL_state_15 : decode cL_state 15 = .ok (.iconst 1, 1) := by decide +kernel
theorem dL_state_16 : decode cL_state 16 = .ok (.ireturn, 1) := by decide +kernel
theorem dL_state_17 : decode cL_state 17 = .ok (.astore 4, 2) := by decide +kernel
theorem dL_state_19 : decode cL_state 19 = .ok (.iconst 2, 1) := by decide +kernel
theorem dL_state_20 : decode cL_state 20 = .ok (.ireturn, 1) := by decide +kernel
theorem dL_state_21 : decode cL_state 21 = .ok (.iconst 0, 1) := by decide +kernel
theorem dL_state_22 : decode cL_state 22 = .ok (.ireturn, 1) := by decide +kernel
set_option maxRecDepth 20000 in
theorem ggL_group_X4_group : GoodIn wsL_group wsX4_group := goodIn_ca (goodIn_ca (goodIn_r _ [7, 8, 9, 10, 11, 12, 13, 14, 15, 16, 17, 18, 19, 6, 20, 21, 22, 23, 24, 25, 26, 27, 28, 29, 30, 31, 32, 33, 34, 35, 36, 37, 38, 39, 40, 41, 42, 43, 44, 45, 46, 47, 48, 49, 50, 51, 52, 53, 54, 55, 56, 57, 58, 59, 60, 61, 62, 63] (by decide +kernel) (by decide +kernel)) (goodIn_sub (fun _ h => List.mem_cons_of_mem _ (List.mem_append_left _ (List.mem_append_right _ h))) (by decide +kernel))) (goodIn_sub (fun _ h => List.mem_cons_of_mem _ (List.mem_append_right _ h)) (by decide +kernel))
set_option maxRecDepth 20000 in
theorem gL_group_X4_group : GoodIn wsL_group (wsV RL 76 RX4 yX4_group wsX4_group) := goodIn_app (goodIn_of _ (by decide +kernel)) ggL_group_X4_group
theorem dL_group_0 : decode cL_group 0 = .ok (.aload_n 3, 1) := by decide +kernel
theorem dL_group_1 : decode cL_group 1 = .ok (.iconst 0, 1) := by decide +kernel
theorem dL_group_2 : decode cL_group 2 = .ok (.aload_n 0, 1) := by decide +kernel
theorem dL_group_3 : decode cL_group 3 = .ok (.iload_n 1, 1) := by decide +kernel
theorem dL_group_4 : decode cL_group 4 = .ok (.iload_n 2, 1) := by decide +kernel
theorem dL_group_5 : decode cL_group 5 = .ok (.invokevirtual 76, 3) := by decide +kernel
theorem dL_group_8 : decode cL_group 8 = .ok (.i2l, 1) := by decide +kernel
theorem dL_group_9 : decode cL_group 9 = .ok (.lastore, 1) := by decide +kernel
theorem dL_group_10 : decode cL_group 10 = .ok (.goto 11, 3) := by decide +kernel
theorem dL_group_13 : decode cL_group 13 = .ok (.astore 4, 2) := by decide +kernel
theorem dL_group_15 : decode cL_group 15 = .ok (.iconst 1, 1) := by decide +kernel
theorem dL_group_16 : decode cL_group 16 = .ok (.ireturn, 1) := by decide +kernel
theorem dL_group_17 : decode cL_group 17 = .ok (.astore 4, 2) := by decide +kernel
theorem dL_group_19 : decode cL_group 19 = .ok (.iconst 2, 1) := by decide +kernel
theorem dL_group_20 : decode cL_group 20 = .ok (.ireturn, 1) := by decide +kernel
theorem dL_group_21 : decode cL_group 21 = .ok (.iconst 0, 1) := by decide +kernel
theorem dL_group_22 : decode cL_group 22 = .ok (.ireturn, 1) := by decide +kernel
set_option maxRecDepth 20000 in
theorem ggL_crew_X4_crew : GoodIn wsL_crew wsX4_crew := goodIn_ca (goodIn_ca (goodIn_r _ [7, 8, 9, 10, 11, 12, 13, 14, 15, 16, 6, 17, 18, 19, 20, 21, 22, 23, 24, 25, 26, 27, 28, 29, 30, 31, 32, 33, 34, 35, 36, 37, 38, 39, 40, 41, 42, 43, 44, 45, 46] (by decide +kernel) (by decide +kernel)) (goodIn_sub (fun _ h => List.mem_cons_of_mem _ (List.mem_append_left _ (List.mem_append_right _ h))) (by decide +kernel))) (goodIn_sub (fun _ h => List.mem_cons_of_mem _ (List.mem_append_right _ h)) (by decide +kernel))
set_option maxRecDepth 20000 in
theorem gL_crew_X4_crew : GoodIn wsL_crew (wsV RL 79 RX4 yX4_crew wsX4_crew) := goodIn_app (goodIn_of _ (by decide +kernel)) ggL_crew_X4_crew
theorem dL_crew_0 : decode cL_crew 0 = .ok (.aload_n 3, 1) := by decide +kernel
theorem dL_crew_1 : decode cL_crew 1 = .ok (.iconst 0, 1) := by decide +kernel
theorem dL_crew_2 : decode cL_crew 2 = .ok (.aload_n 0, 1) := by decide +kernel
theorem dL_crew_3 : decode cL_crew 3 = .ok (.iload_n 1, 1) := by decide +kernel
theorem dL_crew_4 : decode cL_crew 4 = .ok (.iload_n 2, 1) := by decide +kernel
theorem dL_crew_5 : decode cL_crew 5 = .ok (.invokevirtual 79, 3) := by decide +kernel
theorem dL_crew_8 : decode cL_crew 8 = .ok (.i2l, 1) := by decide +kernel
theorem dL_crew_9 : decode cL_crew 9 = .ok (.lastore, 1) := by decide +kernel
theorem dL_crew_10 : decode cL_crew 10 = .ok (.goto 11, 3) := by decide +kernel
theorem dL_crew_13 : decode cL_crew 13 = .ok (.astore 4, 2) := by decide +kernel
theorem dL_crew_15 : decode cL_crew 15 = .ok (.iconst 1, 1) := by decide +kernel
theorem dL_crew_16 : decode cL_crew 16 = .ok (.ireturn, 1) := by decide +kernel
theorem dL_crew_17 : decode cL_crew 17 = .ok (.astore 4, 2) := by decide +kernel
theorem dL_crew_19 : decode cL_crew 19 = .ok (.iconst 2, 1) := by decide +kernel
theorem dL_crew_20 : decode cL_crew 20 = .ok (.ireturn, 1) := by decide +kernel
theorem dL_crew_21 : decode cL_crew 21 = .ok (.iconst 0, 1) := by decide +kernel
theorem dL_crew_22 : decode cL_crew 22 = .ok (.ireturn, 1) := by decide +kernel
set_option maxRecDepth 20000 in
theorem ggL_booking_X4_booking : GoodIn wsL_booking wsX4_booking := goodIn_ca (goodIn_ca (goodIn_r _ [7, 8, 9, 10, 11, 12, 13, 14, 15, 16, 17, 6, 18, 19, 20, 21, 22, 23, 24, 25, 26, 27, 28, 29, 30, 31, 32, 33, 34, 35, 36, 37, 38, 39, 40, 41, 42, 43, 44, 45, 46, 47, 48, 49] (by decide +kernel) (by decide +kernel)) (goodIn_sub (fun _ h => List.mem_cons_of_mem _ (List.mem_append_left _ (List.mem_append_right _ h))) (by decide +kernel))) (goodIn_sub (fun _ h => List.mem_cons_of_mem _ (List.mem_append_right _ h)) (by decide +kernel))
set_option maxRecDepth 20000 in
theorem gL_booking_X4_booking : GoodIn wsL_booking (wsV RL 82 RX4 yX4_booking wsX4_booking) := goodIn_app (goodIn_of _ (by decide +kernel)) ggL_booking_X4_booking
theorem dL_booking_0 : decode cL_booking 0 = .ok (.aload_n 3, 1) := by decide +kernel
theorem dL_booking_1 : decode cL_booking 1 = .ok (.iconst 0, 1) := by decide +kernel
theorem dL_booking_2 : decode cL_booking 2 = .ok (.aload_n 0, 1) := by decide +kernel
theorem dL_booking_3 : decode cL_booking 3 = .ok (.iload_n 1, 1) := by decide +kernel
theorem dL_booking_4 : decode cL_booking 4 = .ok (.iload_n 2, 1) := by decide +kernel
theorem dL_booking_5 : decode cL_booking 5 = .ok (.invokevirtual 82, 3) := by decide +kernel
theorem dL_booking_8 : decode cL_booking 8 = .ok (.i2l, 1) := by decide +kernel
theorem dL_booking_9 : decode cL_booking 9 = .ok (.lastore, 1) := by decide +kernel
theorem dL_booking_10 : decode cL_booking 10 = .ok (.goto 11, 3) := by decide +kernel
theorem dL_booking_13 : decode cL_booking 13 = .ok (.astore 4, 2) := by decide +kernel
theorem dL_booking_15 : decode cL_booking 15 = .ok (.iconst 1, 1) := by decide +kernel
theorem dL_booking_16 : decode cL_booking 16 = .ok (.ireturn, 1) := by decide +kernel
theorem dL_booking_17 : decode cL_booking 17 = .ok (.astore 4, 2) := by decide +kernel
theorem dL_booking_19 : decode cL_booking 19 = .ok (.iconst 2, 1) := by decide +kernel
theorem dL_booking_20 : decode cL_booking 20 = .ok (.ireturn, 1) := by decide +kernel
theorem dL_booking_21 : decode cL_booking 21 = .ok (.iconst 0, 1) := by decide +kernel
theorem dL_booking_22 : decode cL_booking 22 = .ok (.ireturn, 1) := by decide +kernel
