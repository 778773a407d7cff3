theorem dX0_init_0 : decode cX0_init 0 = .ok (.aload_n 0, 1) := by decide +kernel
theorem dX0_init_1 : decode cX0_init 1 = .ok (.invokespecial 3, 3) := by decide +kernel
theorem dX0_init_4 : decode cX0_init 4 = .ok (.aload_n 0, 1) := by decide +kernel
theorem dX0_init_5 : decode cX0_init 5 = .ok (.iconst 0, 1) := by decide +kernel
theorem dX0_init_6 : decode cX0_init 6 = .ok (.putfield 9, 3) := by decide +kernel
theorem dX0_init_9 : decode cX0_init 9 = .ok (.aload_n 0, 1) := by decide +kernel
theorem dX0_init_10 : decode cX0_init 10 = .ok (.iconst (-1), 1) := by decide +kernel
theorem dX0_init_11 : decode cX0_init 11 = .ok (.putfield 15, 3) := by decide +kernel
theorem dX0_init_14 : decode cX0_init 14 = .ok (.aload_n 0, 1) := by decide +kernel
theorem dX0_init_15 : decode cX0_init 15 = .ok (.aload_n 1, 1) := by decide +kernel
theorem dX0_init_16 : decode cX0_init 16 = .ok (.putfield 18, 3) := by decide +kernel
theorem dX0_init_19 : decode cX0_init 19 = .ok (.aload_n 0, 1) := by decide +kernel
theorem dX0_init_20 : decode cX0_init 20 = .ok (.iload_n 2, 1) := by decide +kernel
theorem dX0_init_21 : decode cX0_init 21 = .ok (.putfield 22, 3) := by decide +kernel
theorem dX0_init_24 : decode cX0_init 24 = .ok (.return_, 1) := by decide +kernel
theorem dX1_init_0 : decode cX1_init 0 = .ok (.aload_n 0, 1) := by decide +kernel
theorem dX1_init_1 : decode cX1_init 1 = .ok (.invokespecial 3, 3) := by decide +kernel
theorem dX1_init_4 : decode cX1_init 4 = .ok (.aload_n 0, 1) := by decide +kernel
theorem dX1_init_5 : decode cX1_init 5 = .ok (.bipush 8, 2) := by decide +kernel
theorem dX1_init_7 : decode cX1_init 7 = .ok (.newarray .int, 2) := by decide +kernel
theorem dX1_init_9 : decode cX1_init 9 = .ok (.putfield 9, 3) := by decide +kernel
theorem dX1_init_12 : decode cX1_init 12 = .ok (.aload_n 0, 1) := by decide +kernel
theorem dX1_init_13 : decode cX1_init 13 = .ok (.iconst 0, 1) := by decide +kernel
theorem dX1_init_14 : decode cX1_init 14 = .ok (.putfield 15, 3) := by decide +kernel
theorem dX1_init_17 : decode cX1_init 17 = .ok (.aload_n 0, 1) := by decide +kernel
theorem dX1_init_18 : decode cX1_init 18 = .ok (.iload_n 1, 1) := by decide +kernel
theorem dX1_init_19 : decode cX1_init 19 = .ok (.putfield 19, 3) := by decide +kernel
theorem dX1_init_22 : decode cX1_init 22 = .ok (.aload_n 0, 1) := by decide +kernel
theorem dX1_init_23 : decode cX1_init 23 = .ok (.aload_n 2, 1) := by decide +kernel
theorem dX1_init_24 : decode cX1_init 24 = .ok (.putfield 22, 3) := by decide +kernel
theorem dX1_init_27 : decode cX1_init 27 = .ok (.aload_n 0, 1) := by decide +kernel
theorem dX1_init_28 : decode cX1_init 28 = .ok (.iload_n 3, 1) := by decide +kernel
theorem dX1_init_29 : decode cX1_init 29 = .ok (.putfield 26, 3) := by decide +kernel
theorem dX1_init_32 : decode cX1_init 32 = .ok (.aload_n 0, 1) := by decide +kernel
theorem dX1_init_33 : decode cX1_init 33 = .ok (.iload 4, 2) := by decide +kernel
theorem dX1_init_35 : decode cX1_init 35 = .ok (.putfield 29, 3) := by decide +kernel
theorem dX1_init_38 : decode cX1_init 38 = .ok (.aload_n 0, 1) := by decide +kernel
theorem dX1_init_39 : decode cX1_init 39 = .ok (.iload 5, 2) := by decide +kernel
theorem dX1_init_41 : decode cX1_init 41 = .ok (.putfield 32, 3) := by decide +kernel
theorem dX1_init_44 : decode cX1_init 44 = .ok (.return_, 1) := by decide +kernel
theorem dX1_minutesLeft_0 : decode cX1_minutesLeft 0 = .ok (.bipush 60, 2) := by decide +kernel
theorem dX1_minutesLeft_2 : decode cX1_minutesLeft 2 = .ok (.aload_n 0, 1) := by decide +kernel
theorem dX1_minutesLeft_3 : decode cX1_minutesLeft 3 = .ok (.getfield 35, 3) := by decide +kernel
theorem dX1_minutesLeft_6 : decode cX1_minutesLeft 6 = .ok (.isub, 1) := by decide +kernel
theorem dX1_minutesLeft_7 : decode cX1_minutesLeft 7 = .ok (.iload_n 1, 1) := by decide +kernel
theorem dX1_minutesLeft_8 : decode cX1_minutesLeft 8 = .ok (.aload_n 0, 1) := by decide +kernel
theorem dX1_minutesLeft_9 : decode cX1_minutesLeft 9 = .ok (.getfield 26, 3) := by decide +kernel
theorem dX1_minutesLeft_12 : decode cX1_minutesLeft 12 = .ok (.isub, 1) := by decide +kernel
theorem dX1_minutesLeft_13 : decode cX1_minutesLeft 13 = .ok (.isub, 1) := by decide +kernel
theorem dX1_minutesLeft_14 : decode cX1_minutesLeft 14 = .ok (.ireturn, 1) := by decide +kernel
theorem dX1_takeHint_0 : decode cX1_takeHint 0 = .ok (.aload_n 0, 1) := by decide +kernel
theorem dX1_takeHint_1 : decode cX1_takeHint 1 = .ok (.dup, 1) := by decide +kernel
theorem dX1_takeHint_2 : decode cX1_takeHint 2 = .ok (.getfield 35, 3) := by decide +kernel
theorem dX1_takeHint_5 : decode cX1_takeHint 5 = .ok (.iconst 2, 1) := by decide +kernel
theorem dX1_takeHint_6 : decode cX1_takeHint 6 = .ok (.iconst 3, 1) := by decide +kernel
theorem dX1_takeHint_7 : decode cX1_takeHint 7 = .ok (.aload_n 0, 1) := by decide +kernel
theorem dX1_takeHint_8 : decode cX1_takeHint 8 = .ok (.getfield 9, 3) := by decide +kernel
theorem dX1_takeHint_11 : decode cX1_takeHint 11 = .ok (.iload_n 1, 1) := by decide +kernel
theorem dX1_takeHint_12 : decode cX1_takeHint 12 = .ok (.iaload, 1) := by decide +kernel
theorem dX1_takeHint_13 : decode cX1_takeHint 13 = .ok (.imul, 1) := by decide +kernel
theorem dX1_takeHint_14 : decode cX1_takeHint 14 = .ok (.iadd, 1) := by decide +kernel
theorem dX1_takeHint_15 : decode cX1_takeHint 15 = .ok (.iadd, 1) := by decide +kernel
theorem dX1_takeHint_16 : decode cX1_takeHint 16 = .ok (.putfield 35, 3) := by decide +kernel
theorem dX1_takeHint_19 : decode cX1_takeHint 19 = .ok (.aload_n 0, 1) := by decide +kernel
theorem dX1_takeHint_20 : decode cX1_takeHint 20 = .ok (.getfield 9, 3) := by decide +kernel
theorem dX1_takeHint_23 : decode cX1_takeHint 23 = .ok (.iload_n 1, 1) := by decide +kernel
theorem dX1_takeHint_24 : decode cX1_takeHint 24 = .ok (.dup2, 1) := by decide +kernel
theorem dX1_takeHint_25 : decode cX1_takeHint 25 = .ok (.iaload, 1) := by decide +kernel
theorem dX1_takeHint_26 : decode cX1_takeHint 26 = .ok (.iconst 1, 1) := by decide +kernel
theorem dX1_takeHint_27 : decode cX1_takeHint 27 = .ok (.iadd, 1) := by decide +kernel
theorem dX1_takeHint_28 : decode cX1_takeHint 28 = .ok (.iastore, 1) := by decide +kernel
theorem dX1_takeHint_29 : decode cX1_takeHint 29 = .ok (.aload_n 0, 1) := by decide +kernel
theorem dX1_takeHint_30 : decode cX1_takeHint 30 = .ok (.dup, 1) := by decide +kernel
theorem dX1_takeHint_31 : decode cX1_takeHint 31 = .ok (.getfield 38, 3) := by decide +kernel
theorem dX1_takeHint_34 : decode cX1_takeHint 34 = .ok (.iconst 1, 1) := by decide +kernel
theorem dX1_takeHint_35 : decode cX1_takeHint 35 = .ok (.iadd, 1) := by decide +kernel
theorem dX1_takeHint_36 : decode cX1_takeHint 36 = .ok (.putfield 38, 3) := by decide +kernel
theorem dX1_takeHint_39 : decode cX1_takeHint 39 = .ok (.return_, 1) := by decide +kernel
theorem dX2_init_0 : decode cX2_init 0 = .ok (.aload_n 0, 1) := by decide +kernel
theorem dX2_init_1 : decode cX2_init 1 = .ok (.invokespecial 3, 3) := by decide +kernel
theorem dX2_init_4 : decode cX2_init 4 = .ok (.aload_n 0, 1) := by decide +kernel
theorem dX2_init_5 : decode cX2_init 5 = .ok (.bipush 8, 2) := by decide +kernel
theorem dX2_init_7 : decode cX2_init 7 = .ok (.newarray .int, 2) := by decide +kernel
theorem dX2_init_9 : decode cX2_init 9 = .ok (.putfield 9, 3) := by decide +kernel
theorem dX2_init_12 : decode cX2_init 12 = .ok (.aload_n 0, 1) := by decide +kernel
theorem dX2_init_13 : decode cX2_init 13 = .ok (.bipush 8, 2) := by decide +kernel
theorem dX2_init_15 : decode cX2_init 15 = .ok (.newarray .int, 2) := by decide +kernel
theorem dX2_init_17 : decode cX2_init 17 = .ok (.putfield 15, 3) := by decide +kernel
theorem dX2_init_20 : decode cX2_init 20 = .ok (.aload_n 0, 1) := by decide +kernel
theorem dX2_init_21 : decode cX2_init 21 = .ok (.bipush 8, 2) := by decide +kernel
theorem dX2_init_23 : decode cX2_init 23 = .ok (.newarray .int, 2) := by decide +kernel
theorem dX2_init_25 : decode cX2_init 25 = .ok (.putfield 18, 3) := by decide +kernel
theorem dX2_init_28 : decode cX2_init 28 = .ok (.aload_n 0, 1) := by decide +kernel
theorem dX2_init_29 : decode cX2_init 29 = .ok (.bipush 8, 2) := by decide +kernel
theorem dX2_init_31 : decode cX2_init 31 = .ok (.newarray .int, 2) := by decide +kernel
theorem dX2_init_33 : decode cX2_init 33 = .ok (.putfield 21, 3) := by decide +kernel
theorem dX2_init_36 : decode cX2_init 36 = .ok (.aload_n 0, 1) := by decide +kernel
theorem dX2_init_37 : decode cX2_init 37 = .ok (.iconst 5, 1) := by decide +kernel
theorem dX2_init_38 : decode cX2_init 38 = .ok (.putfield 24, 3) := by decide +kernel
theorem dX2_init_41 : decode cX2_init 41 = .ok (.aload_n 0, 1) := by decide +kernel
theorem dX2_init_42 : decode cX2_init 42 = .ok (.iconst 0, 1) := by decide +kernel
theorem dX2_init_43 : decode cX2_init 43 = .ok (.putfield 28, 3) := by decide +kernel
theorem dX2_init_46 : decode cX2_init 46 = .ok (.aload_n 0, 1) := by decide +kernel
theorem dX2_init_47 : decode cX2_init 47 = .ok (.iload_n 1, 1) := by decide +kernel
theorem dX2_init_48 : decode cX2_init 48 = .ok (.putfield 31, 3) := by decide +kernel
theorem dX2_init_51 : decode cX2_init 51 = .ok (.aload_n 0, 1) := by decide +kernel
theorem dX2_init_52 : decode cX2_init 52 = .ok (.iload_n 2, 1) := by decide +kernel
theorem dX2_init_53 : decode cX2_init 53 = .ok (.putfield 34, 3) := by decide +kernel
theorem dX2_init_56 : decode cX2_init 56 = .ok (.return_, 1) := by decide +kernel
theorem dX2_addPuzzle_0 : decode cX2_addPuzzle 0 = .ok (.aload_n 0, 1) := by decide +kernel
theorem dX2_addPuzzle_1 : decode cX2_addPuzzle 1 = .ok (.getfield 37, 3) := by decide +kernel
theorem dX2_addPuzzle_4 : decode cX2_addPuzzle 4 = .ok (.istore 5, 2) := by decide +kernel
theorem dX2_addPuzzle_6 : decode cX2_addPuzzle 6 = .ok (.aload_n 0, 1) := by decide +kernel
theorem dX2_addPuzzle_7 : decode cX2_addPuzzle 7 = .ok (.getfield 9, 3) := by decide +kernel
theorem dX2_addPuzzle_10 : decode cX2_addPuzzle 10 = .ok (.iload 5, 2) := by decide +kernel
theorem dX2_addPuzzle_12 : decode cX2_addPuzzle 12 = .ok (.iload_n 1, 1) := by decide +kernel
theorem dX2_addPuzzle_13 : decode cX2_addPuzzle 13 = .ok (.iastore, 1) := by decide +kernel
theorem dX2_addPuzzle_14 : decode cX2_addPuzzle 14 = .ok (.aload_n 0, 1) := by decide +kernel
theorem dX2_addPuzzle_15 : decode cX2_addPuzzle 15 = .ok (.getfield 15, 3) := by decide +kernel
theorem dX2_addPuzzle_18 : decode cX2_addPuzzle 18 = .ok (.iload 5, 2) := by decide +kernel
theorem dX2_addPuzzle_20 : decode cX2_addPuzzle 20 = .ok (.iload_n 2, 1) := by decide +kernel
theorem dX2_addPuzzle_21 : decode cX2_addPuzzle 21 = .ok (.iastore, 1) := by decide +kernel
theorem dX2_addPuzzle_22 : decode cX2_addPuzzle 22 = .ok (.aload_n 0, 1) := by decide +kernel
theorem dX2_addPuzzle_23 : decode cX2_addPuzzle 23 = .ok (.getfield 18, 3) := by decide +kernel
theorem dX2_addPuzzle_26 : decode cX2_addPuzzle 26 = .ok (.iload 5, 2) := by decide +kernel
theorem dX2_addPuzzle_28 : decode cX2_addPuzzle 28 = .ok (.iload_n 3, 1) := by decide +kernel
theorem dX2_addPuzzle_29 : decode cX2_addPuzzle 29 = .ok (.iastore, 1) := by decide +kernel
theorem dX2_addPuzzle_30 : decode cX2_addPuzzle 30 = .ok (.aload_n 0, 1) := by decide +kernel
theorem dX2_addPuzzle_31 : decode cX2_addPuzzle 31 = .ok (.getfield 21, 3) := by decide +kernel
theorem dX2_addPuzzle_34 : decode cX2_addPuzzle 34 = .ok (.iload 5, 2) := by decide +kernel
theorem dX2_addPuzzle_36 : decode cX2_addPuzzle 36 = .ok (.iload 4, 2) := by decide +kernel
theorem dX2_addPuzzle_38 : decode cX2_addPuzzle 38 = .ok (.iastore, 1) := by decide +kernel
theorem dX2_addPuzzle_39 : decode cX2_addPuzzle 39 = .ok (.aload_n 0, 1) := by decide +kernel
theorem dX2_addPuzzle_40 : decode cX2_addPuzzle 40 = .ok (.dup, 1) := by decide +kernel
theorem dX2_addPuzzle_41 : decode cX2_addPuzzle 41 = .ok (.getfield 24, 3) := by decide +kernel
theorem dX2_addPuzzle_44 : decode cX2_addPuzzle 44 = .ok (.iload 4, 2) := by decide +kernel
theorem dX2_addPuzzle_46 : decode cX2_addPuzzle 46 = .ok (.iadd, 1) := by decide +kernel
theorem dX2_addPuzzle_47 : decode cX2_addPuzzle 47 = .ok (.putfield 24, 3) := by decide +kernel
theorem dX2_addPuzzle_50 : decode cX2_addPuzzle 50 = .ok (.aload_n 0, 1) := by decide +kernel
theorem dX2_addPuzzle_51 : decode cX2_addPuzzle 51 = .ok (.dup, 1) := by decide +kernel
theorem dX2_addPuzzle_52 : decode cX2_addPuzzle 52 = .ok (.getfield 37, 3) := by decide +kernel
theorem dX2_addPuzzle_55 : decode cX2_addPuzzle 55 = .ok (.iconst 1, 1) := by decide +kernel
theorem dX2_addPuzzle_56 : decode cX2_addPuzzle 56 = .ok (.iadd, 1) := by decide +kernel
theorem dX2_addPuzzle_57 : decode cX2_addPuzzle 57 = .ok (.putfield 37, 3) := by decide +kernel
theorem dX2_addPuzzle_60 : decode cX2_addPuzzle 60 = .ok (.iload 5, 2) := by decide +kernel
theorem dX2_addPuzzle_62 : decode cX2_addPuzzle 62 = .ok (.ireturn, 1) := by decide +kernel
set_option maxRecDepth 20000 in
theorem ggX2_working_X4_has : GoodIn wsX2_working wsX4_has := goodIn_r _ [5] (by decide +kernel) (by decide +kernel)
set_option maxRecDepth 20000 in
theorem gX2_working_X4_has_n40 : GoodIn wsX2_working (wsX4_has) := ggX2_working_X4_has
set_option maxRecDepth 20000 in
theorem ggX2_working_X4_with : GoodIn wsX2_working wsX4_with := goodIn_r _ [7] (by decide +kernel) (by decide +kernel)
set_option maxRecDepth 20000 in
theorem gX2_working_X4_with_n44 : GoodIn wsX2_working (wsX4_with) := ggX2_working_X4_with
theorem dX2_working_0 : decode cX2_working 0 = .ok (.iconst 0, 1) := by decide +kernel
theorem dX2_working_1 : decode cX2_working 1 = .ok (.istore_n 2, 1) := by decide +kernel
theorem dX2_working_2 : decode cX2_working 2 = .ok (.iconst 0, 1) := by decide +kernel
theorem dX2_working_3 : decode cX2_working 3 = .ok (.istore_n 3, 1) := by decide +kernel
theorem dX2_working_4 : decode cX2_working 4 = .ok (.iload_n 3, 1) := by decide +kernel
theorem dX2_working_5 : decode cX2_working 5 = .ok (.aload_n 0, 1) := by decide +kernel
theorem dX2_working_6 : decode cX2_working 6 = .ok (.getfield 37, 3) := by decide +kernel
theorem dX2_working_9 : decode cX2_working 9 = .ok (.if_icmp .ge 38, 3) := by decide +kernel
theorem dX2_working_12 : decode cX2_working 12 = .ok (.aload_n 0, 1) := by decide +kernel
theorem dX2_working_13 : decode cX2_working 13 = .ok (.getfield 18, 3) := by decide +kernel
theorem dX2_working_16 : decode cX2_working 16 = .ok (.iload_n 3, 1) := by decide +kernel
theorem dX2_working_17 : decode cX2_working 17 = .ok (.iaload, 1) := by decide +kernel
theorem dX2_working_18 : decode cX2_working 18 = .ok (.iconst (-1), 1) := by decide +kernel
theorem dX2_working_19 : decode cX2_working 19 = .ok (.if_icmp .eq 16, 3) := by decide +kernel
theorem dX2_working_22 : decode cX2_working 22 = .ok (.iload_n 1, 1) := by decide +kernel
theorem dX2_working_23 : decode cX2_working 23 = .ok (.aload_n 0, 1) := by decide +kernel
theorem dX2_working_24 : decode cX2_working 24 = .ok (.getfield 18, 3) := by decide +kernel
theorem dX2_working_27 : decode cX2_working 27 = .ok (.iload_n 3, 1) := by decide +kernel
theorem dX2_working_28 : decode cX2_working 28 = .ok (.iaload, 1) := by decide +kernel
theorem dX2_working_29 : decode cX2_working 29 = .ok (.invokestatic 40, 3) := by decide +kernel
theorem dX2_working_32 : decode cX2_working 32 = .ok (.ifCond .ne 9, 3) := by decide +kernel
theorem dX2_working_35 : decode cX2_working 35 = .ok (.iload_n 2, 1) := by decide +kernel
theorem dX2_working_36 : decode cX2_working 36 = .ok (.iload_n 3, 1) := by decide +kernel
theorem dX2_working_37 : decode cX2_working 37 = .ok (.invokestatic 44, 3) := by decide +kernel
theorem dX2_working_40 : decode cX2_working 40 = .ok (.istore_n 2, 1) := by decide +kernel
theorem dX2_working_41 : decode cX2_working 41 = .ok (.iinc 3 1, 3) := by decide +kernel
theorem dX2_working_44 : decode cX2_working 44 = .ok (.goto (-40), 3) := by decide +kernel
theorem dX2_working_47 : decode cX2_working 47 = .ok (.iload_n 2, 1) := by decide +kernel
theorem dX2_working_48 : decode cX2_working 48 = .ok (.ireturn, 1) := by decide +kernel
set_option maxRecDepth 20000 in
theorem ggX2_isSolvable_X4_isWithin : GoodIn wsX2_isSolvable wsX4_isWithin := goodIn_r _ [4] (by decide +kernel) (by decide +kernel)
set_option maxRecDepth 20000 in
theorem gX2_isSolvable_X4_isWithin_n48 : GoodIn wsX2_isSolvable (wsX4_isWithin) := ggX2_isSolvable_X4_isWithin
theorem dX2_isSolvable_0 : decode cX2_isSolvable 0 = .ok (.aload_n 0, 1) := by decide +kernel
theorem dX2_isSolvable_1 : decode cX2_isSolvable 1 = .ok (.getfield 9, 3) := by decide +kernel
theorem dX2_isSolvable_4 : decode cX2_isSolvable 4 = .ok (.iload_n 1, 1) := by decide +kernel
theorem dX2_isSolvable_5 : decode cX2_isSolvable 5 = .ok (.iaload, 1) := by decide +kernel
theorem dX2_isSolvable_6 : decode cX2_isSolvable 6 = .ok (.iload_n 2, 1) := by decide +kernel
theorem dX2_isSolvable_7 : decode cX2_isSolvable 7 = .ok (.invokestatic 48, 3) := by decide +kernel
theorem dX2_isSolvable_10 : decode cX2_isSolvable 10 = .ok (.ireturn, 1) := by decide +kernel
set_option maxRecDepth 20000 in
theorem ggX2_givenBy_X4_has : GoodIn wsX2_givenBy wsX4_has := goodIn_r _ [5] (by decide +kernel) (by decide +kernel)
set_option maxRecDepth 20000 in
theorem gX2_givenBy_X4_has_n40 : GoodIn wsX2_givenBy (wsX4_has) := ggX2_givenBy_X4_has
theorem dX2_givenBy_0 : decode cX2_givenBy 0 = .ok (.iconst 0, 1) := by decide +kernel
theorem dX2_givenBy_1 : decode cX2_givenBy 1 = .ok (.istore_n 2, 1) := by decide +kernel
theorem dX2_givenBy_2 : decode cX2_givenBy 2 = .ok (.iconst 0, 1) := by decide +kernel
theorem dX2_givenBy_3 : decode cX2_givenBy 3 = .ok (.istore_n 3, 1) := by decide +kernel
theorem dX2_givenBy_4 : decode cX2_givenBy 4 = .ok (.iload_n 3, 1) := by decide +kernel
theorem dX2_givenBy_5 : decode cX2_givenBy 5 = .ok (.aload_n 0, 1) := by decide +kernel
theorem dX2_givenBy_6 : decode cX2_givenBy 6 = .ok (.getfield 37, 3) := by decide +kernel
theorem dX2_givenBy_9 : decode cX2_givenBy 9 = .ok (.if_icmp .ge 26, 3) := by decide +kernel
theorem dX2_givenBy_12 : decode cX2_givenBy 12 = .ok (.iload_n 1, 1) := by decide +kernel
theorem dX2_givenBy_13 : decode cX2_givenBy 13 = .ok (.iload_n 3, 1) := by decide +kernel
theorem dX2_givenBy_14 : decode cX2_givenBy 14 = .ok (.invokestatic 40, 3) := by decide +kernel
theorem dX2_givenBy_17 : decode cX2_givenBy 17 = .ok (.ifCond .eq 12, 3) := by decide +kernel
theorem dX2_givenBy_20 : decode cX2_givenBy 20 = .ok (.iload_n 2, 1) := by decide +kernel
theorem dX2_givenBy_21 : decode cX2_givenBy 21 = .ok (.aload_n 0, 1) := by decide +kernel
theorem dX2_givenBy_22 : decode cX2_givenBy 22 = .ok (.getfield 15, 3) := by decide +kernel
theorem dX2_givenBy_25 : decode cX2_givenBy 25 = .ok (.iload_n 3, 1) := by decide +kernel
theorem dX2_givenBy_26 : decode cX2_givenBy 26 = .ok (.iaload, 1) := by decide +kernel
theorem dX2_givenBy_27 : decode cX2_givenBy 27 = .ok (.ior, 1) := by decide +kernel
theorem dX2_givenBy_28 : decode cX2_givenBy 28 = .ok (.istore_n 2, 1) := by decide +kernel
theorem dX2_givenBy_29 : decode cX2_givenBy 29 = .ok (.iinc 3 1, 3) := by decide +kernel
theorem dX2_givenBy_32 : decode cX2_givenBy 32 = .ok (.goto (-28), 3) := by decide +kernel
theorem dX2_givenBy_35 : decode cX2_givenBy 35 = .ok (.iload_n 2, 1) := by decide +kernel
theorem dX2_givenBy_36 : decode cX2_givenBy 36 = .ok (.ireturn, 1) := by decide +kernel
set_option maxRecDepth 20000 in
theorem ggX2_reach_X4_has : GoodIn wsX2_reach wsX4_has := goodIn_r _ [5] (by decide +kernel) (by decide +kernel)
set_option maxRecDepth 20000 in
theorem gX2_reach_X4_has_n40 : GoodIn wsX2_reach (wsX4_has) := ggX2_reach_X4_has
set_option maxRecDepth 20000 in
theorem ggX2_reach_X2_isSolvable : GoodIn wsX2_reach wsX2_isSolvable := goodIn_r _ [10, 11, 12, 4, 13, 14, 15, 16, 17, 18, 19, 20, 21, 22, 23, 24, 25, 26] (by decide +kernel) (by decide +kernel)
set_option maxRecDepth 20000 in
theorem gX2_reach_X2_isSolvable : GoodIn wsX2_reach (wsV RX2 51 RX2 yX2_isSolvable wsX2_isSolvable) := goodIn_app (goodIn_of _ (by decide +kernel)) ggX2_reach_X2_isSolvable
theorem dX2_reach_0 : decode cX2_reach 0 = .ok (.iload_n 1, 1) := by decide +kernel
theorem dX2_reach_1 : decode cX2_reach 1 = .ok (.istore_n 3, 1) := by decide +kernel
theorem dX2_reach_2 : decode cX2_reach 2 = .ok (.iconst 0, 1) := by decide +kernel
theorem dX2_reach_3 : decode cX2_reach 3 = .ok (.istore 4, 2) := by decide +kernel
theorem dX2_reach_5 : decode cX2_reach 5 = .ok (.iload 4, 2) := by decide +kernel
theorem dX2_reach_7 : decode cX2_reach 7 = .ok (.aload_n 0, 1) := by decide +kernel
theorem dX2_reach_8 : decode cX2_reach 8 = .ok (.getfield 37, 3) := by decide +kernel
theorem dX2_reach_11 : decode cX2_reach 11 = .ok (.if_icmp .ge 56, 3) := by decide +kernel
theorem dX2_reach_14 : decode cX2_reach 14 = .ok (.iconst 0, 1) := by decide +kernel
theorem dX2_reach_15 : decode cX2_reach 15 = .ok (.istore 5, 2) := by decide +kernel
theorem dX2_reach_17 : decode cX2_reach 17 = .ok (.iload 5, 2) := by decide +kernel
theorem dX2_reach_19 : decode cX2_reach 19 = .ok (.aload_n 0, 1) := by decide +kernel
theorem dX2_reach_20 : decode cX2_reach 20 = .ok (.getfield 37, 3) := by decide +kernel
theorem dX2_reach_23 : decode cX2_reach 23 = .ok (.if_icmp .ge 38, 3) := by decide +kernel
theorem dX2_reach_26 : decode cX2_reach 26 = .ok (.iload_n 2, 1) := by decide +kernel
theorem dX2_reach_27 : decode cX2_reach 27 = .ok (.iload 5, 2) := by decide +kernel
theorem dX2_reach_29 : decode cX2_reach 29 = .ok (.invokestatic 40, 3) := by decide +kernel
theorem dX2_reach_32 : decode cX2_reach 32 = .ok (.ifCond .eq 23, 3) := by decide +kernel
theorem dX2_reach_35 : decode cX2_reach 35 = .ok (.aload_n 0, 1) := by decide +kernel
theorem dX2_reach_36 : decode cX2_reach 36 = .ok (.iload 5, 2) := by decide +kernel
theorem dX2_reach_38 : decode cX2_reach 38 = .ok (.iload_n 3, 1) := by decide +kernel
theorem dX2_reach_39 : decode cX2_reach 39 = .ok (.invokevirtual 51, 3) := by decide +kernel
theorem dX2_reach_42 : decode cX2_reach 42 = .ok (.ifCond .eq 13, 3) := by decide +kernel
theorem dX2_reach_45 : decode cX2_reach 45 = .ok (.iload_n 3, 1) := by decide +kernel
theorem dX2_reach_46 : decode cX2_reach 46 = .ok (.aload_n 0, 1) := by decide +kernel
theorem dX2_reach_47 : decode cX2_reach 47 = .ok (.getfield 15, 3) := by decide +kernel
theorem dX2_reach_50 : decode cX2_reach 50 = .ok (.iload 5, 2) := by decide +kernel
theorem dX2_reach_52 : decode cX2_reach 52 = .ok (.iaload, 1) := by decide +kernel
theorem dX2_reach_53 : decode cX2_reach 53 = .ok (.ior, 1) := by decide +kernel
theorem dX2_reach_54 : decode cX2_reach 54 = .ok (.istore_n 3, 1) := by decide +kernel
theorem dX2_reach_55 : decode cX2_reach 55 = .ok (.iinc 5 1, 3) := by decide +kernel
theorem dX2_reach_58 : decode cX2_reach 58 = .ok (.goto (-41), 3) := by decide +kernel
theorem dX2_reach_61 : decode cX2_reach 61 = .ok (.iinc 4 1, 3) := by decide +kernel
theorem dX2_reach_64 : decode cX2_reach 64 = .ok (.goto (-59), 3) := by decide +kernel
theorem dX2_reach_67 : decode cX2_reach 67 = .ok (.iload_n 3, 1) := by decide +kernel
theorem dX2_reach_68 : decode cX2_reach 68 = .ok (.ireturn, 1) := by decide +kernel
set_option maxRecDepth 20000 in
theorem ggX2_lowestSolvable_X4_has : GoodIn wsX2_lowestSolvable wsX4_has := goodIn_r _ [4] (by decide +kernel) (by decide +kernel)
set_option maxRecDepth 20000 in
theorem gX2_lowestSolvable_X4_has_n40 : GoodIn wsX2_lowestSolvable (wsX4_has) := ggX2_lowestSolvable_X4_has
set_option maxRecDepth 20000 in
theorem ggX2_lowestSolvable_X2_isSolvable : GoodIn wsX2_lowestSolvable wsX2_isSolvable := goodIn_r _ [9, 10, 11, 3, 12, 13, 14, 15, 16, 17, 18, 19, 20, 21, 22, 23, 24, 25] (by decide +kernel) (by decide +kernel)
set_option maxRecDepth 20000 in
theorem gX2_lowestSolvable_X2_isSolvable : GoodIn wsX2_lowestSolvable (wsV RX2 51 RX2 yX2_isSolvable wsX2_isSolvable) := goodIn_app (goodIn_of _ (by decide +kernel)) ggX2_lowestSolvable_X2_isSolvable
theorem dX2_lowestSolvable_0 : decode cX2_lowestSolvable 0 = .ok (.iconst 0, 1) := by decide +kernel
theorem dX2_lowestSolvable_1 : decode cX2_lowestSolvable 1 = .ok (.istore_n 3, 1) := by decide +kernel
theorem dX2_lowestSolvable_2 : decode cX2_lowestSolvable 2 = .ok (.iload_n 3, 1) := by decide +kernel
theorem dX2_lowestSolvable_3 : decode cX2_lowestSolvable 3 = .ok (.aload_n 0, 1) := by decide +kernel
theorem dX2_lowestSolvable_4 : decode cX2_lowestSolvable 4 = .ok (.getfield 37, 3) := by decide +kernel
theorem dX2_lowestSolvable_7 : decode cX2_lowestSolvable 7 = .ok (.if_icmp .ge 28, 3) := by decide +kernel
theorem dX2_lowestSolvable_10 : decode cX2_lowestSolvable 10 = .ok (.iload_n 1, 1) := by decide +kernel
theorem dX2_lowestSolvable_11 : decode cX2_lowestSolvable 11 = .ok (.iload_n 3, 1) := by decide +kernel
theorem dX2_lowestSolvable_12 : decode cX2_lowestSolvable 12 = .ok (.invokestatic 40, 3) := by decide +kernel
theorem dX2_lowestSolvable_15 : decode cX2_lowestSolvable 15 = .ok (.ifCond .eq 14, 3) := by decide +kernel
theorem dX2_lowestSolvable_18 : decode cX2_lowestSolvable 18 = .ok (.aload_n 0, 1) := by decide +kernel
theorem dX2_lowestSolvable_19 : decode cX2_lowestSolvable 19 = .ok (.iload_n 3, 1) := by decide +kernel
theorem dX2_lowestSolvable_20 : decode cX2_lowestSolvable 20 = .ok (.iload_n 2, 1) := by decide +kernel
theorem dX2_lowestSolvable_21 : decode cX2_lowestSolvable 21 = .ok (.invokevirtual 51, 3) := by decide +kernel
theorem dX2_lowestSolvable_24 : decode cX2_lowestSolvable 24 = .ok (.ifCond .eq 5, 3) := by decide +kernel
theorem dX2_lowestSolvable_27 : decode cX2_lowestSolvable 27 = .ok (.iload_n 3, 1) := by decide +kernel
theorem dX2_lowestSolvable_28 : decode cX2_lowestSolvable 28 = .ok (.ireturn, 1) := by decide +kernel
theorem dX2_lowestSolvable_29 : decode cX2_lowestSolvable 29 = .ok (.iinc 3 1, 3) := by decide +kernel
theorem dX2_lowestSolvable_32 : decode cX2_lowestSolvable 32 = .ok (.goto (-30), 3) := by decide +kernel
theorem dX2_lowestSolvable_35 : decode cX2_lowestSolvable 35 = .ok (.iconst (-1), 1) := by decide +kernel
theorem dX2_lowestSolvable_36 : decode cX2_lowestSolvable 36 = .ok (.ireturn, 1) := by decide +kernel
set_option maxRecDepth 20000 in
theorem ggX2_nextToReset_X4_has : GoodIn wsX2_nextToReset wsX4_has := goodIn_r _ [5] (by decide +kernel) (by decide +kernel)
set_option maxRecDepth 20000 in
theorem gX2_nextToReset_X4_has_n40 : GoodIn wsX2_nextToReset (wsX4_has) := ggX2_nextToReset_X4_has
set_option maxRecDepth 20000 in
theorem ggX2_nextToReset_X2_isNeededByOther : GoodIn wsX2_nextToReset wsX2_isNeededByOther := goodIn_r _ [10, 11, 12, 1, 2, 13, 3, 4, 5, 14, 15, 16, 17, 18, 19, 20, 21, 22, 23, 24, 25, 26] (by decide +kernel) (by decide +kernel)
set_option maxRecDepth 20000 in
theorem gX2_nextToReset_X2_isNeededByOther : GoodIn wsX2_nextToReset (wsV RX2 57 RX2 yX2_isNeededByOther wsX2_isNeededByOther) := goodIn_app (goodIn_of _ (by decide +kernel)) ggX2_nextToReset_X2_isNeededByOther
theorem dX2_nextToReset_0 : decode cX2_nextToReset 0 = .ok (.iconst 0, 1) := by decide +kernel
theorem dX2_nextToReset_1 : decode cX2_nextToReset 1 = .ok (.istore_n 1, 1) := by decide +kernel
theorem dX2_nextToReset_2 : decode cX2_nextToReset 2 = .ok (.iconst (-1), 1) := by decide +kernel
theorem dX2_nextToReset_3 : decode cX2_nextToReset 3 = .ok (.istore_n 2, 1) := by decide +kernel
theorem dX2_nextToReset_4 : decode cX2_nextToReset 4 = .ok (.iconst 0, 1) := by decide +kernel
theorem dX2_nextToReset_5 : decode cX2_nextToReset 5 = .ok (.istore_n 3, 1) := by decide +kernel
theorem dX2_nextToReset_6 : decode cX2_nextToReset 6 = .ok (.iload_n 3, 1) := by decide +kernel
theorem dX2_nextToReset_7 : decode cX2_nextToReset 7 = .ok (.aload_n 0, 1) := by decide +kernel
theorem dX2_nextToReset_8 : decode cX2_nextToReset 8 = .ok (.getfield 37, 3) := by decide +kernel
theorem dX2_nextToReset_11 : decode cX2_nextToReset 11 = .ok (.if_icmp .ge 32, 3) := by decide +kernel
theorem dX2_nextToReset_14 : decode cX2_nextToReset 14 = .ok (.aload_n 0, 1) := by decide +kernel
theorem dX2_nextToReset_15 : decode cX2_nextToReset 15 = .ok (.getfield 54, 3) := by decide +kernel
theorem dX2_nextToReset_18 : decode cX2_nextToReset 18 = .ok (.iload_n 3, 1) := by decide +kernel
theorem dX2_nextToReset_19 : decode cX2_nextToReset 19 = .ok (.invokestatic 40, 3) := by decide +kernel
theorem dX2_nextToReset_22 : decode cX2_nextToReset 22 = .ok (.ifCond .eq 15, 3) := by decide +kernel
theorem dX2_nextToReset_25 : decode cX2_nextToReset 25 = .ok (.iload_n 3, 1) := by decide +kernel
theorem dX2_nextToReset_26 : decode cX2_nextToReset 26 = .ok (.istore_n 1, 1) := by decide +kernel
theorem dX2_nextToReset_27 : decode cX2_nextToReset 27 = .ok (.aload_n 0, 1) := by decide +kernel
theorem dX2_nextToReset_28 : decode cX2_nextToReset 28 = .ok (.iload_n 3, 1) := by decide +kernel
theorem dX2_nextToReset_29 : decode cX2_nextToReset 29 = .ok (.invokevirtual 57, 3) := by decide +kernel
theorem dX2_nextToReset_32 : decode cX2_nextToReset 32 = .ok (.ifCond .ne 5, 3) := by decide +kernel
theorem dX2_nextToReset_35 : decode cX2_nextToReset 35 = .ok (.iload_n 3, 1) := by decide +kernel
theorem dX2_nextToReset_36 : decode cX2_nextToReset 36 = .ok (.istore_n 2, 1) := by decide +kernel
theorem dX2_nextToReset_37 : decode cX2_nextToReset 37 = .ok (.iinc 3 1, 3) := by decide +kernel
theorem dX2_nextToReset_40 : decode cX2_nextToReset 40 = .ok (.goto (-34), 3) := by decide +kernel
theorem dX2_nextToReset_43 : decode cX2_nextToReset 43 = .ok (.iload_n 2, 1) := by decide +kernel
theorem dX2_nextToReset_44 : decode cX2_nextToReset 44 = .ok (.iconst (-1), 1) := by decide +kernel
theorem dX2_nextToReset_45 : decode cX2_nextToReset 45 = .ok (.if_icmp .ne 7, 3) := by decide +kernel
theorem dX2_nextToReset_48 : decode cX2_nextToReset 48 = .ok (.iload_n 1, 1) := by decide +kernel
theorem dX2_nextToReset_49 : decode cX2_nextToReset 49 = .ok (.goto 4, 3) := by decide +kernel
theorem dX2_nextToReset_52 : decode cX2_nextToReset 52 = .ok (.iload_n 2, 1) := by decide +kernel
theorem dX2_nextToReset_53 : decode cX2_nextToReset 53 = .ok (.ireturn, 1) := by decide +kernel
set_option maxRecDepth 20000 in
theorem ggX2_isNeededByOther_X4_has : GoodIn wsX2_isNeededByOther wsX4_has := goodIn_r _ [8] (by decide +kernel) (by decide +kernel)
set_option maxRecDepth 20000 in
theorem gX2_isNeededByOther_X4_has_n40 : GoodIn wsX2_isNeededByOther (wsX4_has) := ggX2_isNeededByOther_X4_has
theorem dX2_isNeededByOther_0 : decode cX2_isNeededByOther 0 = .ok (.aload_n 0, 1) := by decide +kernel
theorem dX2_isNeededByOther_1 : decode cX2_isNeededByOther 1 = .ok (.getfield 15, 3) := by decide +kernel
theorem dX2_isNeededByOther_4 : decode cX2_isNeededByOther 4 = .ok (.iload_n 1, 1) := by decide +kernel
theorem dX2_isNeededByOther_5 : decode cX2_isNeededByOther 5 = .ok (.iaload, 1) := by decide +kernel
theorem dX2_isNeededByOther_6 : decode cX2_isNeededByOther 6 = .ok (.aload_n 0, 1) := by decide +kernel
theorem dX2_isNeededByOther_7 : decode cX2_isNeededByOther 7 = .ok (.getfield 34, 3) := by decide +kernel
theorem dX2_isNeededByOther_10 : decode cX2_isNeededByOther 10 = .ok (.iconst (-1), 1) := by decide +kernel
theorem dX2_isNeededByOther_11 : decode cX2_isNeededByOther 11 = .ok (.ixor, 1) := by decide +kernel
theorem dX2_isNeededByOther_12 : decode cX2_isNeededByOther 12 = .ok (.iand, 1) := by decide +kernel
theorem dX2_isNeededByOther_13 : decode cX2_isNeededByOther 13 = .ok (.istore_n 2, 1) := by decide +kernel
theorem dX2_isNeededByOther_14 : decode cX2_isNeededByOther 14 = .ok (.iconst 0, 1) := by decide +kernel
theorem dX2_isNeededByOther_15 : decode cX2_isNeededByOther 15 = .ok (.istore_n 3, 1) := by decide +kernel
theorem dX2_isNeededByOther_16 : decode cX2_isNeededByOther 16 = .ok (.iload_n 3, 1) := by decide +kernel
theorem dX2_isNeededByOther_17 : decode cX2_isNeededByOther 17 = .ok (.aload_n 0, 1) := by decide +kernel
theorem dX2_isNeededByOther_18 : decode cX2_isNeededByOther 18 = .ok (.getfield 37, 3) := by decide +kernel
theorem dX2_isNeededByOther_21 : decode cX2_isNeededByOther 21 = .ok (.if_icmp .ge 38, 3) := by decide +kernel
theorem dX2_isNeededByOther_24 : decode cX2_isNeededByOther 24 = .ok (.iload_n 3, 1) := by decide +kernel
theorem dX2_isNeededByOther_25 : decode cX2_isNeededByOther 25 = .ok (.iload_n 1, 1) := by decide +kernel
theorem dX2_isNeededByOther_26 : decode cX2_isNeededByOther 26 = .ok (.if_icmp .eq 27, 3) := by decide +kernel
theorem dX2_isNeededByOther_29 : decode cX2_isNeededByOther 29 = .ok (.aload_n 0, 1) := by decide +kernel
theorem dX2_isNeededByOther_30 : decode cX2_isNeededByOther 30 = .ok (.getfield 54, 3) := by decide +kernel
theorem dX2_isNeededByOther_33 : decode cX2_isNeededByOther 33 = .ok (.iload_n 3, 1) := by decide +kernel
theorem dX2_isNeededByOther_34 : decode cX2_isNeededByOther 34 = .ok (.invokestatic 40, 3) := by decide +kernel
theorem dX2_isNeededByOther_37 : decode cX2_isNeededByOther 37 = .ok (.ifCond .eq 16, 3) := by decide +kernel
theorem dX2_isNeededByOther_40 : decode cX2_isNeededByOther 40 = .ok (.aload_n 0, 1) := by decide +kernel
theorem dX2_isNeededByOther_41 : decode cX2_isNeededByOther 41 = .ok (.getfield 9, 3) := by decide +kernel
theorem dX2_isNeededByOther_44 : decode cX2_isNeededByOther 44 = .ok (.iload_n 3, 1) := by decide +kernel
theorem dX2_isNeededByOther_45 : decode cX2_isNeededByOther 45 = .ok (.iaload, 1) := by decide +kernel
theorem dX2_isNeededByOther_46 : decode cX2_isNeededByOther 46 = .ok (.iload_n 2, 1) := by decide +kernel
theorem dX2_isNeededByOther_47 : decode cX2_isNeededByOther 47 = .ok (.iand, 1) := by decide +kernel
theorem dX2_isNeededByOther_48 : decode cX2_isNeededByOther 48 = .ok (.ifCond .eq 5, 3) := by decide +kernel
theorem dX2_isNeededByOther_51 : decode cX2_isNeededByOther 51 = .ok (.iconst 1, 1) := by decide +kernel
theorem dX2_isNeededByOther_52 : decode cX2_isNeededByOther 52 = .ok (.ireturn, 1) := by decide +kernel
theorem dX2_isNeededByOther_53 : decode cX2_isNeededByOther 53 = .ok (.iinc 3 1, 3) := by decide +kernel
theorem dX2_isNeededByOther_56 : decode cX2_isNeededByOther 56 = .ok (.goto (-40), 3) := by decide +kernel
theorem dX2_isNeededByOther_59 : decode cX2_isNeededByOther 59 = .ok (.iconst 0, 1) := by decide +kernel
theorem dX2_isNeededByOther_60 : decode cX2_isNeededByOther 60 = .ok (.ireturn, 1) := by decide +kernel
theorem dX3_init_0 : decode cX3_init 0 = .ok (.aload_n 0, 1) := by decide +kernel
theorem dX3_init_1 : decode cX3_init 1 = .ok (.invokespecial 3, 3) := by decide +kernel
theorem dX3_init_4 : decode cX3_init 4 = .ok (.aload_n 0, 1) := by decide +kernel
theorem dX3_init_5 : decode cX3_init 5 = .ok (.iconst (-1), 1) := by decide +kernel
theorem dX3_init_6 : decode cX3_init 6 = .ok (.putfield 9, 3) := by decide +kernel
theorem dX3_init_9 : decode cX3_init 9 = .ok (.aload_n 0, 1) := by decide +kernel
theorem dX3_init_10 : decode cX3_init 10 = .ok (.iconst (-1), 1) := by decide +kernel
theorem dX3_init_11 : decode cX3_init 11 = .ok (.putfield 15, 3) := by decide +kernel
theorem dX3_init_14 : decode cX3_init 14 = .ok (.return_, 1) := by decide +kernel
theorem dX3_begin_0 : decode cX3_begin 0 = .ok (.aload_n 0, 1) := by decide +kernel
theorem dX3_begin_1 : decode cX3_begin 1 = .ok (.aload_n 1, 1) := by decide +kernel
theorem dX3_begin_2 : decode cX3_begin 2 = .ok (.putfield 18, 3) := by decide +kernel
theorem dX3_begin_5 : decode cX3_begin 5 = .ok (.aload_n 0, 1) := by decide +kernel
theorem dX3_begin_6 : decode cX3_begin 6 = .ok (.iload_n 2, 1) := by decide +kernel
theorem dX3_begin_7 : decode cX3_begin 7 = .ok (.putfield 9, 3) := by decide +kernel
theorem dX3_begin_10 : decode cX3_begin 10 = .ok (.aload_n 0, 1) := by decide +kernel
theorem dX3_begin_11 : decode cX3_begin 11 = .ok (.iload_n 3, 1) := by decide +kernel
theorem dX3_begin_12 : decode cX3_begin 12 = .ok (.putfield 15, 3) := by decide +kernel
theorem dX3_begin_15 : decode cX3_begin 15 = .ok (.return_, 1) := by decide +kernel
theorem dX3_stop_0 : decode cX3_stop 0 = .ok (.aload_n 0, 1) := by decide +kernel
theorem dX3_stop_1 : decode cX3_stop 1 = .ok (.aconst_null, 1) := by decide +kernel
theorem dX3_stop_2 : decode cX3_stop 2 = .ok (.putfield 18, 3) := by decide +kernel
theorem dX3_stop_5 : decode cX3_stop 5 = .ok (.aload_n 0, 1) := by decide +kernel
theorem dX3_stop_6 : decode cX3_stop 6 = .ok (.iconst (-1), 1) := by decide +kernel
theorem dX3_stop_7 : decode cX3_stop 7 = .ok (.putfield 9, 3) := by decide +kernel
theorem dX3_stop_10 : decode cX3_stop 10 = .ok (.aload_n 0, 1) := by decide +kernel
theorem dX3_stop_11 : decode cX3_stop 11 = .ok (.iconst (-1), 1) := by decide +kernel
theorem dX3_stop_12 : decode cX3_stop 12 = .ok (.putfield 15, 3) := by decide +kernel
theorem dX3_stop_15 : decode cX3_stop 15 = .ok (.return_, 1) := by decide +kernel
set_option maxRecDepth 20000 in
theorem ggX4_init_X3_init : GoodIn wsX4_init wsX3_init := goodIn_r _ [17, 18, 2, 3, 19, 20, 31, 32, 33] (by decide +kernel) (by decide +kernel)
set_option maxRecDepth 20000 in
theorem gX4_init_X3_init_n37 : GoodIn wsX4_init (wsX3_init) := ggX4_init_X3_init
theorem dX4_init_0 : decode cX4_init 0 = .ok (.aload_n 0, 1) := by decide +kernel
theorem dX4_init_1 : decode cX4_init 1 = .ok (.invokespecial 3, 3) := by decide +kernel
theorem dX4_init_4 : decode cX4_init 4 = .ok (.aload_n 0, 1) := by decide +kernel
theorem dX4_init_5 : decode cX4_init 5 = .ok (.iconst 4, 1) := by decide +kernel
theorem dX4_init_6 : decode cX4_init 6 = .ok (.anewarray 9, 3) := by decide +kernel
theorem dX4_init_9 : decode cX4_init 9 = .ok (.putfield 11, 3) := by decide +kernel
theorem dX4_init_12 : decode cX4_init 12 = .ok (.aload_n 0, 1) := by decide +kernel
theorem dX4_init_13 : decode cX4_init 13 = .ok (.bipush 30, 2) := by decide +kernel
theorem dX4_init_15 : decode cX4_init 15 = .ok (.anewarray 15, 3) := by decide +kernel
theorem dX4_init_18 : decode cX4_init 18 = .ok (.putfield 17, 3) := by decide +kernel
theorem dX4_init_21 : decode cX4_init 21 = .ok (.aload_n 0, 1) := by decide +kernel
theorem dX4_init_22 : decode cX4_init 22 = .ok (.bipush 30, 2) := by decide +kernel
theorem dX4_init_24 : decode cX4_init 24 = .ok (.anewarray 21, 3) := by decide +kernel
theorem dX4_init_27 : decode cX4_init 27 = .ok (.putfield 23, 3) := by decide +kernel
theorem dX4_init_30 : decode cX4_init 30 = .ok (.aload_n 0, 1) := by decide +kernel
theorem dX4_init_31 : decode cX4_init 31 = .ok (.iconst 3, 1) := by decide +kernel
theorem dX4_init_32 : decode cX4_init 32 = .ok (.anewarray 27, 3) := by decide +kernel
theorem dX4_init_35 : decode cX4_init 35 = .ok (.putfield 29, 3) := by decide +kernel
theorem dX4_init_38 : decode cX4_init 38 = .ok (.aload_n 0, 1) := by decide +kernel
theorem dX4_init_39 : decode cX4_init 39 = .ok (.sipush 256, 3) := by decide +kernel
theorem dX4_init_42 : decode cX4_init 42 = .ok (.newarray .int, 2) := by decide +kernel
theorem dX4_init_44 : decode cX4_init 44 = .ok (.putfield 33, 3) := by decide +kernel
theorem dX4_init_47 : decode cX4_init 47 = .ok (.iconst 0, 1) := by decide +kernel
theorem dX4_init_48 : decode cX4_init 48 = .ok (.istore_n 1, 1) := by decide +kernel
theorem dX4_init_49 : decode cX4_init 49 = .ok (.iload_n 1, 1) := by decide +kernel
theorem dX4_init_50 : decode cX4_init 50 = .ok (.iconst 3, 1) := by decide +kernel
theorem dX4_init_51 : decode cX4_init 51 = .ok (.if_icmp .ge 22, 3) := by decide +kernel
theorem dX4_init_54 : decode cX4_init 54 = .ok (.aload_n 0, 1) := by decide +kernel
theorem dX4_init_55 : decode cX4_init 55 = .ok (.getfield 29, 3) := by decide +kernel
theorem dX4_init_58 : decode cX4_init 58 = .ok (.iload_n 1, 1) := by decide +kernel
theorem dX4_init_59 : decode cX4_init 59 = .ok (.new 27, 3) := by decide +kernel
theorem dX4_init_62 : decode cX4_init 62 = .ok (.dup, 1) := by decide +kernel
theorem dX4_init_63 : decode cX4_init 63 = .ok (.invokespecial 37, 3) := by decide +kernel
theorem dX4_init_66 : decode cX4_init 66 = .ok (.aastore, 1) := by decide +kernel
theorem dX4_init_67 : decode cX4_init 67 = .ok (.iinc 1 1, 3) := by decide +kernel
theorem dX4_init_70 : decode cX4_init 70 = .ok (.goto (-21), 3) := by decide +kernel
theorem dX4_init_73 : decode cX4_init 73 = .ok (.return_, 1) := by decide +kernel
set_option maxRecDepth 20000 in
theorem ggX4_room_X4_areThings : GoodIn wsX4_room wsX4_areThings := goodIn_r _ [13] (by decide +kernel) (by decide +kernel)
set_option maxRecDepth 20000 in
theorem gX4_room_X4_areThings : GoodIn wsX4_room (va_wsS RX4 38 yX4_areThings wsX4_areThings) := goodIn_app (goodIn_of _ (by decide +kernel)) ggX4_room_X4_areThings
set_option maxRecDepth 20000 in
theorem ggX4_room_X2_init : GoodIn wsX4_room wsX2_init := goodIn_r _ [16, 17, 18, 19, 20, 21, 22, 23, 24, 25, 26, 27, 28, 39, 40, 41, 42, 43, 44, 45, 46, 47, 48, 49, 50, 51] (by decide +kernel) (by decide +kernel)
set_option maxRecDepth 20000 in
theorem gX4_room_X2_init : GoodIn wsX4_room (wsX2_init) := ggX4_room_X2_init
theorem dX4_room_0 : decode cX4_room 0 = .ok (.iload_n 1, 1) := by decide +kernel
theorem dX4_room_1 : decode cX4_room 1 = .ok (.invokestatic 38, 3) := by decide +kernel
theorem dX4_room_4 : decode cX4_room 4 = .ok (.ifCond .ne 13, 3) := by decide +kernel
theorem dX4_room_7 : decode cX4_room 7 = .ok (.new 42, 3) := by decide +kernel
theorem dX4_room_10 : decode cX4_room 10 = .ok (.dup, 1) := by decide +kernel
theorem dX4_room_11 : decode cX4_room 11 = .ok (.ldc 44, 2) := by decide +kernel
theorem dX4_room_13 : decode cX4_room 13 = .ok (.invokespecial 46, 3) := by decide +kernel
theorem dX4_room_16 : decode cX4_room 16 = .ok (.athrow, 1) := by decide +kernel
theorem dX4_room_17 : decode cX4_room 17 = .ok (.aload_n 0, 1) := by decide +kernel
theorem dX4_room_18 : decode cX4_room 18 = .ok (.getfield 49, 3) := by decide +kernel
theorem dX4_room_21 : decode cX4_room 21 = .ok (.iconst 4, 1) := by decide +kernel
theorem dX4_room_22 : decode cX4_room 22 = .ok (.if_icmp .lt 13, 3) := by decide +kernel
theorem dX4_room_25 : decode cX4_room 25 = .ok (.new 53, 3) := by decide +kernel
theorem dX4_room_28 : decode cX4_room 28 = .ok (.dup, 1) := by decide +kernel
theorem dX4_room_29 : decode cX4_room 29 = .ok (.ldc 55, 2) := by decide +kernel
theorem dX4_room_31 : decode cX4_room 31 = .ok (.invokespecial 57, 3) := by decide +kernel
theorem dX4_room_34 : decode cX4_room 34 = .ok (.athrow, 1) := by decide +kernel
theorem dX4_room_35 : decode cX4_room 35 = .ok (.aload_n 0, 1) := by decide +kernel
theorem dX4_room_36 : decode cX4_room 36 = .ok (.getfield 49, 3) := by decide +kernel
theorem dX4_room_39 : decode cX4_room 39 = .ok (.istore_n 2, 1) := by decide +kernel
theorem dX4_room_40 : decode cX4_room 40 = .ok (.aload_n 0, 1) := by decide +kernel
theorem dX4_room_41 : decode cX4_room 41 = .ok (.getfield 11, 3) := by decide +kernel
theorem dX4_room_44 : decode cX4_room 44 = .ok (.iload_n 2, 1) := by decide +kernel
theorem dX4_room_45 : decode cX4_room 45 = .ok (.new 9, 3) := by decide +kernel
theorem dX4_room_48 : decode cX4_room 48 = .ok (.dup, 1) := by decide +kernel
theorem dX4_room_49 : decode cX4_room 49 = .ok (.iload_n 2, 1) := by decide +kernel
theorem dX4_room_50 : decode cX4_room 50 = .ok (.iload_n 1, 1) := by decide +kernel
theorem dX4_room_51 : decode cX4_room 51 = .ok (.invokespecial 58, 3) := by decide +kernel
theorem dX4_room_54 : decode cX4_room 54 = .ok (.aastore, 1) := by decide +kernel
theorem dX4_room_55 : decode cX4_room 55 = .ok (.aload_n 0, 1) := by decide +kernel
theorem dX4_room_56 : decode cX4_room 56 = .ok (.dup, 1) := by decide +kernel
theorem dX4_room_57 : decode cX4_room 57 = .ok (.getfield 49, 3) := by decide +kernel
theorem dX4_room_60 : decode cX4_room 60 = .ok (.iconst 1, 1) := by decide +kernel
theorem dX4_room_61 : decode cX4_room 61 = .ok (.iadd, 1) := by decide +kernel
theorem dX4_room_62 : decode cX4_room 62 = .ok (.putfield 49, 3) := by decide +kernel
theorem dX4_room_65 : decode cX4_room 65 = .ok (.iload_n 2, 1) := by decide +kernel
theorem dX4_room_66 : decode cX4_room 66 = .ok (.ireturn, 1) := by decide +kernel
set_option maxRecDepth 20000 in
theorem ggX4_puzzle_X4_roomNumbered : GoodIn wsX4_puzzle wsX4_roomNumbered := goodIn_ca (goodIn_r _ [13, 1, 2, 14, 15, 46, 47, 48, 49, 50, 51, 52, 53, 54, 55] (by decide +kernel) (by decide +kernel)) (goodIn_sub (fun _ h => List.mem_cons_of_mem _ (List.mem_append_left _ (List.mem_append_left _ (List.mem_append_right _ h)))) (by decide +kernel))
set_option maxRecDepth 20000 in
theorem gX4_puzzle_X4_roomNumbered : GoodIn wsX4_puzzle (wsV RX4 61 RX4 yX4_roomNumbered wsX4_roomNumbered) := goodIn_app (goodIn_of _ (by decide +kernel)) ggX4_puzzle_X4_roomNumbered
set_option maxRecDepth 20000 in
theorem ggX4_puzzle_X4_isProp : GoodIn wsX4_puzzle wsX4_isProp := goodIn_r _ [18] (by decide +kernel) (by decide +kernel)
set_option maxRecDepth 20000 in
theorem gX4_puzzle_X4_isProp : GoodIn wsX4_puzzle (va_wsS RX4 65 yX4_isProp wsX4_isProp) := goodIn_app (goodIn_of _ (by decide +kernel)) ggX4_puzzle_X4_isProp
set_option maxRecDepth 20000 in
theorem ggX4_puzzle_X4_areThings : GoodIn wsX4_puzzle wsX4_areThings := goodIn_r _ [21] (by decide +kernel) (by decide +kernel)
set_option maxRecDepth 20000 in
theorem gX4_puzzle_X4_areThings : GoodIn wsX4_puzzle (va_wsS RX4 38 yX4_areThings wsX4_areThings) := goodIn_app (goodIn_of _ (by decide +kernel)) ggX4_puzzle_X4_areThings
set_option maxRecDepth 20000 in
theorem ggX4_puzzle_X2_addPuzzle : GoodIn wsX4_puzzle wsX2_addPuzzle := goodIn_r _ [26, 27, 28, 29, 30, 31, 32, 33, 34, 35, 36, 37, 38, 39, 40, 41, 42, 43, 44, 45] (by decide +kernel) (by decide +kernel)
set_option maxRecDepth 20000 in
theorem gX4_puzzle_X2_addPuzzle : GoodIn wsX4_puzzle (wsV RX4 85 RX2 yX2_addPuzzle wsX2_addPuzzle) := goodIn_app (goodIn_of _ (by decide +kernel)) ggX4_puzzle_X2_addPuzzle
theorem dX4_puzzle_0 : decode cX4_puzzle 0 = .ok (.aload_n 0, 1) := by decide +kernel
theorem dX4_puzzle_1 : decode cX4_puzzle 1 = .ok (.iload_n 1, 1) := by decide +kernel
theorem dX4_puzzle_2 : decode cX4_puzzle 2 = .ok (.invokevirtual 61, 3) := by decide +kernel
theorem dX4_puzzle_5 : decode cX4_puzzle 5 = .ok (.astore 6, 2) := by decide +kernel
theorem dX4_puzzle_7 : decode cX4_puzzle 7 = .ok (.iload 4, 2) := by decide +kernel
theorem dX4_puzzle_9 : decode cX4_puzzle 9 = .ok (.iconst (-1), 1) := by decide +kernel
theorem dX4_puzzle_10 : decode cX4_puzzle 10 = .ok (.if_icmp .eq 21, 3) := by decide +kernel
theorem dX4_puzzle_13 : decode cX4_puzzle 13 = .ok (.iload 4, 2) := by decide +kernel
theorem dX4_puzzle_15 : decode cX4_puzzle 15 = .ok (.invokestatic 65, 3) := by decide +kernel
theorem dX4_puzzle_18 : decode cX4_puzzle 18 = .ok (.ifCond .ne 13, 3) := by decide +kernel
theorem dX4_puzzle_21 : decode cX4_puzzle 21 = .ok (.new 68, 3) := by decide +kernel
theorem dX4_puzzle_24 : decode cX4_puzzle 24 = .ok (.dup, 1) := by decide +kernel
theorem dX4_puzzle_25 : decode cX4_puzzle 25 = .ok (.ldc 70, 2) := by decide +kernel
theorem dX4_puzzle_27 : decode cX4_puzzle 27 = .ok (.invokespecial 72, 3) := by decide +kernel
theorem dX4_puzzle_30 : decode cX4_puzzle 30 = .ok (.athrow, 1) := by decide +kernel
theorem dX4_puzzle_31 : decode cX4_puzzle 31 = .ok (.iload_n 2, 1) := by decide +kernel
theorem dX4_puzzle_32 : decode cX4_puzzle 32 = .ok (.invokestatic 38, 3) := by decide +kernel
theorem dX4_puzzle_35 : decode cX4_puzzle 35 = .ok (.ifCond .eq 10, 3) := by decide +kernel
theorem dX4_puzzle_38 : decode cX4_puzzle 38 = .ok (.iload_n 3, 1) := by decide +kernel
theorem dX4_puzzle_39 : decode cX4_puzzle 39 = .ok (.invokestatic 38, 3) := by decide +kernel
theorem dX4_puzzle_42 : decode cX4_puzzle 42 = .ok (.ifCond .ne 13, 3) := by decide +kernel
theorem dX4_puzzle_45 : decode cX4_puzzle 45 = .ok (.new 42, 3) := by decide +kernel
theorem dX4_puzzle_48 : decode cX4_puzzle 48 = .ok (.dup, 1) := by decide +kernel
theorem dX4_puzzle_49 : decode cX4_puzzle 49 = .ok (.ldc 44, 2) := by decide +kernel
theorem dX4_puzzle_51 : decode cX4_puzzle 51 = .ok (.invokespecial 46, 3) := by decide +kernel
theorem dX4_puzzle_54 : decode cX4_puzzle 54 = .ok (.athrow, 1) := by decide +kernel
theorem dX4_puzzle_55 : decode cX4_puzzle 55 = .ok (.iload_n 3, 1) := by decide +kernel
theorem dX4_puzzle_56 : decode cX4_puzzle 56 = .ok (.ifCond .eq 9, 3) := by decide +kernel
theorem dX4_puzzle_59 : decode cX4_puzzle 59 = .ok (.iload_n 3, 1) := by decide +kernel
theorem dX4_puzzle_60 : decode cX4_puzzle 60 = .ok (.iload_n 2, 1) := by decide +kernel
theorem dX4_puzzle_61 : decode cX4_puzzle 61 = .ok (.iand, 1) := by decide +kernel
theorem dX4_puzzle_62 : decode cX4_puzzle 62 = .ok (.ifCond .eq 13, 3) := by decide +kernel
theorem dX4_puzzle_65 : decode cX4_puzzle 65 = .ok (.new 42, 3) := by decide +kernel
theorem dX4_puzzle_68 : decode cX4_puzzle 68 = .ok (.dup, 1) := by decide +kernel
theorem dX4_puzzle_69 : decode cX4_puzzle 69 = .ok (.ldc 73, 2) := by decide +kernel
theorem dX4_puzzle_71 : decode cX4_puzzle 71 = .ok (.invokespecial 46, 3) := by decide +kernel
theorem dX4_puzzle_74 : decode cX4_puzzle 74 = .ok (.athrow, 1) := by decide +kernel
theorem dX4_puzzle_75 : decode cX4_puzzle 75 = .ok (.iload 5, 2) := by decide +kernel
theorem dX4_puzzle_77 : decode cX4_puzzle 77 = .ok (.iconst 1, 1) := by decide +kernel
theorem dX4_puzzle_78 : decode cX4_puzzle 78 = .ok (.if_icmp .lt 10, 3) := by decide +kernel
theorem dX4_puzzle_81 : decode cX4_puzzle 81 = .ok (.iload 5, 2) := by decide +kernel
theorem dX4_puzzle_83 : decode cX4_puzzle 83 = .ok (.bipush 10, 2) := by decide +kernel
theorem dX4_puzzle_85 : decode cX4_puzzle 85 = .ok (.if_icmp .le 13, 3) := by decide +kernel
theorem dX4_puzzle_88 : decode cX4_puzzle 88 = .ok (.new 42, 3) := by decide +kernel
theorem dX4_puzzle_91 : decode cX4_puzzle 91 = .ok (.dup, 1) := by decide +kernel
theorem dX4_puzzle_92 : decode cX4_puzzle 92 = .ok (.ldc 75, 2) := by decide +kernel
theorem dX4_puzzle_94 : decode cX4_puzzle 94 = .ok (.invokespecial 46, 3) := by decide +kernel
theorem dX4_puzzle_97 : decode cX4_puzzle 97 = .ok (.athrow, 1) := by decide +kernel
theorem dX4_puzzle_98 : decode cX4_puzzle 98 = .ok (.aload 6, 2) := by decide +kernel
theorem dX4_puzzle_100 : decode cX4_puzzle 100 = .ok (.getfield 77, 3) := by decide +kernel
theorem dX4_puzzle_103 : decode cX4_puzzle 103 = .ok (.ifCond .ne 13, 3) := by decide +kernel
theorem dX4_puzzle_106 : decode cX4_puzzle 106 = .ok (.aload 6, 2) := by decide +kernel
theorem dX4_puzzle_108 : decode cX4_puzzle 108 = .ok (.getfield 80, 3) := by decide +kernel
theorem dX4_puzzle_111 : decode cX4_puzzle 111 = .ok (.bipush 8, 2) := by decide +kernel
theorem dX4_puzzle_113 : decode cX4_puzzle 113 = .ok (.if_icmp .lt 13, 3) := by decide +kernel
theorem dX4_puzzle_116 : decode cX4_puzzle 116 = .ok (.new 53, 3) := by decide +kernel
theorem dX4_puzzle_119 : decode cX4_puzzle 119 = .ok (.dup, 1) := by decide +kernel
theorem dX4_puzzle_120 : decode cX4_puzzle 120 = .ok (.ldc 83, 2) := by decide +kernel
theorem dX4_puzzle_122 : decode cX4_puzzle 122 = .ok (.invokespecial 57, 3) := by decide +kernel
theorem dX4_puzzle_125 : decode cX4_puzzle 125 = .ok (.athrow, 1) := by decide +kernel
theorem dX4_puzzle_126 : decode cX4_puzzle 126 = .ok (.aload 6, 2) := by decide +kernel
theorem dX4_puzzle_128 : decode cX4_puzzle 128 = .ok (.iload_n 2, 1) := by decide +kernel
theorem dX4_puzzle_129 : decode cX4_puzzle 129 = .ok (.iload_n 3, 1) := by decide +kernel
theorem dX4_puzzle_130 : decode cX4_puzzle 130 = .ok (.iload 4, 2) := by decide +kernel
theorem dX4_puzzle_132 : decode cX4_puzzle 132 = .ok (.iload 5, 2) := by decide +kernel
theorem dX4_puzzle_134 : decode cX4_puzzle 134 = .ok (.invokevirtual 85, 3) := by decide +kernel
theorem dX4_puzzle_137 : decode cX4_puzzle 137 = .ok (.ireturn, 1) := by decide +kernel
set_option maxRecDepth 20000 in
theorem ggX4_prop_X4_isProp : GoodIn wsX4_prop wsX4_isProp := goodIn_r _ [7] (by decide +kernel) (by decide +kernel)
set_option maxRecDepth 20000 in
theorem gX4_prop_X4_isProp : GoodIn wsX4_prop (va_wsS RX4 65 yX4_isProp wsX4_isProp) := goodIn_app (goodIn_of _ (by decide +kernel)) ggX4_prop_X4_isProp
set_option maxRecDepth 20000 in
theorem ggX4_prop_X4_with : GoodIn wsX4_prop wsX4_with := goodIn_r _ [10] (by decide +kernel) (by decide +kernel)
set_option maxRecDepth 20000 in
theorem gX4_prop_X4_with : GoodIn wsX4_prop (va_wsS RX4 94 yX4_with wsX4_with) := goodIn_app (goodIn_of _ (by decide +kernel)) ggX4_prop_X4_with
set_option maxRecDepth 20000 in
theorem ggX4_prop_X4_freeLockedIn : GoodIn wsX4_prop wsX4_freeLockedIn := goodIn_r _ [14, 15, 16, 17, 18, 3, 19, 20, 21, 22, 23, 24, 25, 26, 6, 27, 9, 10, 28, 29, 30, 31, 32, 33, 34, 35, 36, 37, 38, 39, 40, 41, 42, 43, 44, 45, 46, 47, 48, 52, 53, 54, 55, 56, 57, 58, 59, 60, 61, 62, 63, 64, 65, 66, 67, 68, 69, 70, 71, 72, 73, 74, 75, 76, 77, 78, 79, 80, 81, 82, 83] (by decide +kernel) (by decide +kernel)
set_option maxRecDepth 20000 in
theorem gX4_prop_X4_freeLockedIn : GoodIn wsX4_prop (wsV RX4 98 RX4 yX4_freeLockedIn wsX4_freeLockedIn) := goodIn_app (goodIn_of _ (by decide +kernel)) ggX4_prop_X4_freeLockedIn
set_option maxRecDepth 20000 in
theorem ggX4_prop_X4_without : GoodIn wsX4_prop wsX4_without := goodIn_r _ [51] (by decide +kernel) (by decide +kernel)
set_option maxRecDepth 20000 in
theorem gX4_prop_X4_without : GoodIn wsX4_prop (va_wsS RX4 102 yX4_without wsX4_without) := goodIn_app (goodIn_of _ (by decide +kernel)) ggX4_prop_X4_without
theorem dX4_prop_0 : decode cX4_prop 0 = .ok (.iload_n 1, 1) := by decide +kernel
theorem dX4_prop_1 : decode cX4_prop 1 = .ok (.invokestatic 65, 3) := by decide +kernel
theorem dX4_prop_4 : decode cX4_prop 4 = .ok (.ifCond .ne 13, 3) := by decide +kernel
theorem dX4_prop_7 : decode cX4_prop 7 = .ok (.new 68, 3) := by decide +kernel
theorem dX4_prop_10 : decode cX4_prop 10 = .ok (.dup, 1) := by decide +kernel
theorem dX4_prop_11 : decode cX4_prop 11 = .ok (.ldc 89, 2) := by decide +kernel
theorem dX4_prop_13 : decode cX4_prop 13 = .ok (.invokespecial 72, 3) := by decide +kernel
theorem dX4_prop_16 : decode cX4_prop 16 = .ok (.athrow, 1) := by decide +kernel
theorem dX4_prop_17 : decode cX4_prop 17 = .ok (.iload_n 2, 1) := by decide +kernel
theorem dX4_prop_18 : decode cX4_prop 18 = .ok (.ifCond .eq 20, 3) := by decide +kernel
theorem dX4_prop_21 : decode cX4_prop 21 = .ok (.aload_n 0, 1) := by decide +kernel
theorem dX4_prop_22 : decode cX4_prop 22 = .ok (.aload_n 0, 1) := by decide +kernel
theorem dX4_prop_23 : decode cX4_prop 23 = .ok (.getfield 91, 3) := by decide +kernel
theorem dX4_prop_26 : decode cX4_prop 26 = .ok (.iload_n 1, 1) := by decide +kernel
theorem dX4_prop_27 : decode cX4_prop 27 = .ok (.invokestatic 94, 3) := by decide +kernel
theorem dX4_prop_30 : decode cX4_prop 30 = .ok (.putfield 91, 3) := by decide +kernel
theorem dX4_prop_33 : decode cX4_prop 33 = .ok (.aload_n 0, 1) := by decide +kernel
theorem dX4_prop_34 : decode cX4_prop 34 = .ok (.invokevirtual 98, 3) := by decide +kernel
theorem dX4_prop_37 : decode cX4_prop 37 = .ok (.ireturn, 1) := by decide +kernel
theorem dX4_prop_38 : decode cX4_prop 38 = .ok (.aload_n 0, 1) := by decide +kernel
theorem dX4_prop_39 : decode cX4_prop 39 = .ok (.aload_n 0, 1) := by decide +kernel
theorem dX4_prop_40 : decode cX4_prop 40 = .ok (.getfield 91, 3) := by decide +kernel
theorem dX4_prop_43 : decode cX4_prop 43 = .ok (.iload_n 1, 1) := by decide +kernel
theorem dX4_prop_44 : decode cX4_prop 44 = .ok (.invokestatic 102, 3) := by decide +kernel
theorem dX4_prop_47 : decode cX4_prop 47 = .ok (.putfield 91, 3) := by decide +kernel
theorem dX4_prop_50 : decode cX4_prop 50 = .ok (.iconst 0, 1) := by decide +kernel
theorem dX4_prop_51 : decode cX4_prop 51 = .ok (.ireturn, 1) := by decide +kernel
set_option maxRecDepth 20000 in
theorem ggX4_had_X4_roomNumbered : GoodIn wsX4_had wsX4_roomNumbered := goodIn_ca (goodIn_r _ [8, 9, 10, 11, 12, 39, 40, 41, 42, 43, 44, 45, 46, 47, 48] (by decide +kernel) (by decide +kernel)) (goodIn_sub (fun _ h => List.mem_cons_of_mem _ (List.mem_append_right _ h)) (by decide +kernel))
set_option maxRecDepth 20000 in
theorem gX4_had_X4_roomNumbered : GoodIn wsX4_had (wsV RX4 61 RX4 yX4_roomNumbered wsX4_roomNumbered) := goodIn_app (goodIn_of _ (by decide +kernel)) ggX4_had_X4_roomNumbered
set_option maxRecDepth 20000 in
theorem ggX4_had_X4_areThings : GoodIn wsX4_had wsX4_areThings := goodIn_r _ [15] (by decide +kernel) (by decide +kernel)
set_option maxRecDepth 20000 in
theorem gX4_had_X4_areThings : GoodIn wsX4_had (va_wsS RX4 38 yX4_areThings wsX4_areThings) := goodIn_app (goodIn_of _ (by decide +kernel)) ggX4_had_X4_areThings
set_option maxRecDepth 20000 in
theorem ggX4_had_X2_working : GoodIn wsX4_had wsX2_working := goodIn_r _ [20, 21, 22, 23, 7, 24, 25, 26, 49, 50, 51, 52, 53, 54, 55, 56, 57, 58, 59, 60, 61] (by decide +kernel) (by decide +kernel)
set_option maxRecDepth 20000 in
theorem gX4_had_X2_working : GoodIn wsX4_had (wsV RX4 105 RX2 yX2_working wsX2_working) := goodIn_app (goodIn_of _ (by decide +kernel)) ggX4_had_X2_working
set_option maxRecDepth 20000 in
theorem ggX4_had_X2_reach : GoodIn wsX4_had wsX2_reach := goodIn_r _ [30, 21, 31, 23, 7, 24, 32, 33, 34, 19, 35, 36, 37, 38, 49, 50, 51, 52, 53, 54, 55, 56, 57, 58, 59, 60, 61] (by decide +kernel) (by decide +kernel)
set_option maxRecDepth 20000 in
theorem gX4_had_X2_reach : GoodIn wsX4_had (wsV RX4 109 RX2 yX2_reach wsX2_reach) := goodIn_app (goodIn_of _ (by decide +kernel)) ggX4_had_X2_reach
theorem dX4_had_0 : decode cX4_had 0 = .ok (.aload_n 0, 1) := by decide +kernel
theorem dX4_had_1 : decode cX4_had 1 = .ok (.iload_n 1, 1) := by decide +kernel
theorem dX4_had_2 : decode cX4_had 2 = .ok (.invokevirtual 61, 3) := by decide +kernel
theorem dX4_had_5 : decode cX4_had 5 = .ok (.astore_n 3, 1) := by decide +kernel
theorem dX4_had_6 : decode cX4_had 6 = .ok (.iload_n 2, 1) := by decide +kernel
theorem dX4_had_7 : decode cX4_had 7 = .ok (.invokestatic 38, 3) := by decide +kernel
theorem dX4_had_10 : decode cX4_had 10 = .ok (.ifCond .ne 13, 3) := by decide +kernel
theorem dX4_had_13 : decode cX4_had 13 = .ok (.new 42, 3) := by decide +kernel
theorem dX4_had_16 : decode cX4_had 16 = .ok (.dup, 1) := by decide +kernel
theorem dX4_had_17 : decode cX4_had 17 = .ok (.ldc 44, 2) := by decide +kernel
theorem dX4_had_19 : decode cX4_had 19 = .ok (.invokespecial 46, 3) := by decide +kernel
theorem dX4_had_22 : decode cX4_had 22 = .ok (.athrow, 1) := by decide +kernel
theorem dX4_had_23 : decode cX4_had 23 = .ok (.aload_n 3, 1) := by decide +kernel
theorem dX4_had_24 : decode cX4_had 24 = .ok (.iload_n 2, 1) := by decide +kernel
theorem dX4_had_25 : decode cX4_had 25 = .ok (.aload_n 3, 1) := by decide +kernel
theorem dX4_had_26 : decode cX4_had 26 = .ok (.aload_n 0, 1) := by decide +kernel
theorem dX4_had_27 : decode cX4_had 27 = .ok (.getfield 91, 3) := by decide +kernel
theorem dX4_had_30 : decode cX4_had 30 = .ok (.invokevirtual 105, 3) := by decide +kernel
theorem dX4_had_33 : decode cX4_had 33 = .ok (.invokevirtual 109, 3) := by decide +kernel
theorem dX4_had_36 : decode cX4_had 36 = .ok (.ireturn, 1) := by decide +kernel
set_option maxRecDepth 20000 in
theorem ggX4_canBeLeft_X4_roomNumbered : GoodIn wsX4_canBeLeft wsX4_roomNumbered := goodIn_ca (goodIn_r _ [5, 6, 7, 8, 9, 41, 42, 43, 44, 45, 46, 47, 48, 49, 50] (by decide +kernel) (by decide +kernel)) (goodIn_sub (fun _ h => List.mem_cons_of_mem _ (List.mem_append_right _ h)) (by decide +kernel))
set_option maxRecDepth 20000 in
theorem gX4_canBeLeft_X4_roomNumbered : GoodIn wsX4_canBeLeft (wsV RX4 61 RX4 yX4_roomNumbered wsX4_roomNumbered) := goodIn_app (goodIn_of _ (by decide +kernel)) ggX4_canBeLeft_X4_roomNumbered
set_option maxRecDepth 20000 in
theorem ggX4_canBeLeft_X4_hasExit : GoodIn wsX4_canBeLeft wsX4_hasExit := goodIn_r _ [13, 14, 15, 16, 17, 18, 19, 20, 21, 22, 23, 24, 4, 25, 26, 27, 28, 29, 30, 31, 32, 33, 34, 35, 36, 37, 38, 39, 40, 51, 52, 53, 54, 55, 56, 57, 58, 59, 60, 61, 62, 63, 41, 42, 43, 44, 45, 46, 47, 48, 49, 50] (by decide +kernel) (by decide +kernel)
set_option maxRecDepth 20000 in
theorem gX4_canBeLeft_X4_hasExit : GoodIn wsX4_canBeLeft (wsV RX4 112 RX4 yX4_hasExit wsX4_hasExit) := goodIn_app (goodIn_of _ (by decide +kernel)) ggX4_canBeLeft_X4_hasExit
theorem dX4_canBeLeft_0 : decode cX4_canBeLeft 0 = .ok (.aload_n 0, 1) := by decide +kernel
theorem dX4_canBeLeft_1 : decode cX4_canBeLeft 1 = .ok (.aload_n 0, 1) := by decide +kernel
theorem dX4_canBeLeft_2 : decode cX4_canBeLeft 2 = .ok (.iload_n 1, 1) := by decide +kernel
theorem dX4_canBeLeft_3 : decode cX4_canBeLeft 3 = .ok (.invokevirtual 61, 3) := by decide +kernel
theorem dX4_canBeLeft_6 : decode cX4_canBeLeft 6 = .ok (.invokevirtual 112, 3) := by decide +kernel
theorem dX4_canBeLeft_9 : decode cX4_canBeLeft 9 = .ok (.ireturn, 1) := by decide +kernel
set_option maxRecDepth 20000 in
theorem ggX4_orders_X4_roomNumbered : GoodIn wsX4_orders wsX4_roomNumbered := goodIn_ca (goodIn_r _ [5, 6, 7, 8, 9, 47, 48, 49, 50, 51, 52, 53, 54, 55, 56] (by decide +kernel) (by decide +kernel)) (goodIn_sub (fun _ h => List.mem_cons_of_mem _ (List.mem_append_right _ h)) (by decide +kernel))
set_option maxRecDepth 20000 in
theorem gX4_orders_X4_roomNumbered : GoodIn wsX4_orders (wsV RX4 61 RX4 yX4_roomNumbered wsX4_roomNumbered) := goodIn_app (goodIn_of _ (by decide +kernel)) ggX4_orders_X4_roomNumbered
set_option maxRecDepth 20000 in
theorem ggX4_orders_X4_countOrdersBySets : GoodIn wsX4_orders wsX4_countOrdersBySets := goodIn_r _ [13, 14, 15, 16, 17, 18, 19, 20, 21, 22, 23, 24, 25, 4, 26, 27, 28, 29, 30, 31, 32, 33, 34, 35, 36, 37, 38, 39, 40, 41, 42, 43, 44, 45, 46, 47, 48, 49, 50, 51, 52, 53, 54, 55, 56, 57, 58, 59, 60, 61, 62, 63, 64, 65, 66, 67, 68, 69] (by decide +kernel) (by decide +kernel)
set_option maxRecDepth 20000 in
theorem gX4_orders_X4_countOrdersBySets : GoodIn wsX4_orders (wsV RX4 116 RX4 yX4_countOrdersBySets wsX4_countOrdersBySets) := goodIn_app (goodIn_of _ (by decide +kernel)) ggX4_orders_X4_countOrdersBySets
theorem dX4_orders_0 : decode cX4_orders 0 = .ok (.aload_n 0, 1) := by decide +kernel
theorem dX4_orders_1 : decode cX4_orders 1 = .ok (.aload_n 0, 1) := by decide +kernel
theorem dX4_orders_2 : decode cX4_orders 2 = .ok (.iload_n 1, 1) := by decide +kernel
theorem dX4_orders_3 : decode cX4_orders 3 = .ok (.invokevirtual 61, 3) := by decide +kernel
theorem dX4_orders_6 : decode cX4_orders 6 = .ok (.invokevirtual 116, 3) := by decide +kernel
theorem dX4_orders_9 : decode cX4_orders 9 = .ok (.ireturn, 1) := by decide +kernel
set_option maxRecDepth 20000 in
theorem ggX4_ordersAnew_X4_roomNumbered : GoodIn wsX4_ordersAnew wsX4_roomNumbered := goodIn_ca (goodIn_r _ [7, 8, 9, 10, 11, 45, 46, 47, 48, 49, 50, 51, 52, 53, 54] (by decide +kernel) (by decide +kernel)) (goodIn_sub (fun _ h => List.mem_cons_of_mem _ (List.mem_append_right _ h)) (by decide +kernel))
set_option maxRecDepth 20000 in
theorem gX4_ordersAnew_X4_roomNumbered : GoodIn wsX4_ordersAnew (wsV RX4 61 RX4 yX4_roomNumbered wsX4_roomNumbered) := goodIn_app (goodIn_of _ (by decide +kernel)) ggX4_ordersAnew_X4_roomNumbered
set_option maxRecDepth 20000 in
theorem ggX4_ordersAnew_X2_working : GoodIn wsX4_ordersAnew wsX2_working := goodIn_r _ [16, 17, 18, 19, 6, 20, 21, 22, 55, 56, 57, 58, 59, 60, 61, 62, 63, 64, 65, 66, 67] (by decide +kernel) (by decide +kernel)
set_option maxRecDepth 20000 in
theorem gX4_ordersAnew_X2_working : GoodIn wsX4_ordersAnew (wsV RX4 105 RX2 yX2_working wsX2_working) := goodIn_app (goodIn_of _ (by decide +kernel)) ggX4_ordersAnew_X2_working
set_option maxRecDepth 20000 in
theorem ggX4_ordersAnew_X2_reach : GoodIn wsX4_ordersAnew wsX2_reach := goodIn_r _ [26, 17, 27, 19, 6, 20, 28, 29, 30, 15, 31, 32, 33, 34, 55, 56, 57, 58, 59, 60, 61, 62, 63, 64, 65, 66, 67] (by decide +kernel) (by decide +kernel)
set_option maxRecDepth 20000 in
theorem gX4_ordersAnew_X2_reach : GoodIn wsX4_ordersAnew (wsV RX4 109 RX2 yX2_reach wsX2_reach) := goodIn_app (goodIn_of _ (by decide +kernel)) ggX4_ordersAnew_X2_reach
set_option maxRecDepth 20000 in
theorem ggX4_ordersAnew_X4_has : GoodIn wsX4_ordersAnew wsX4_has := goodIn_r _ [20] (by decide +kernel) (by decide +kernel)
set_option maxRecDepth 20000 in
theorem gX4_ordersAnew_X4_has : GoodIn wsX4_ordersAnew (va_wsS RX4 123 yX4_has wsX4_has) := goodIn_app (goodIn_of _ (by decide +kernel)) ggX4_ordersAnew_X4_has
set_option maxRecDepth 20000 in
theorem ggX4_ordersAnew_X4_countOrdersOneByOne : GoodIn wsX4_ordersAnew wsX4_countOrdersOneByOne := goodIn_r _ [38, 39, 40, 35, 19, 6, 20, 41, 29, 30, 15, 31, 32, 33, 34, 42, 43, 44, 36, 37, 55, 56, 57, 58, 59, 60, 61, 62, 63, 64, 65, 66, 67] (by decide +kernel) (by decide +kernel)
set_option maxRecDepth 20000 in
theorem gX4_ordersAnew_X4_countOrdersOneByOne : GoodIn wsX4_ordersAnew (va_wsS RX4 127 yX4_countOrdersOneByOne wsX4_countOrdersOneByOne) := goodIn_app (goodIn_of _ (by decide +kernel)) ggX4_ordersAnew_X4_countOrdersOneByOne
theorem dX4_ordersAnew_0 : decode cX4_ordersAnew 0 = .ok (.aload_n 0, 1) := by decide +kernel
theorem dX4_ordersAnew_1 : decode cX4_ordersAnew 1 = .ok (.iload_n 1, 1) := by decide +kernel
theorem dX4_ordersAnew_2 : decode cX4_ordersAnew 2 = .ok (.invokevirtual 61, 3) := by decide +kernel
theorem dX4_ordersAnew_5 : decode cX4_ordersAnew 5 = .ok (.astore_n 2, 1) := by decide +kernel
theorem dX4_ordersAnew_6 : decode cX4_ordersAnew 6 = .ok (.aload_n 2, 1) := by decide +kernel
theorem dX4_ordersAnew_7 : decode cX4_ordersAnew 7 = .ok (.aload_n 0, 1) := by decide +kernel
theorem dX4_ordersAnew_8 : decode cX4_ordersAnew 8 = .ok (.getfield 91, 3) := by decide +kernel
theorem dX4_ordersAnew_11 : decode cX4_ordersAnew 11 = .ok (.invokevirtual 105, 3) := by decide +kernel
theorem dX4_ordersAnew_14 : decode cX4_ordersAnew 14 = .ok (.istore_n 3, 1) := by decide +kernel
theorem dX4_ordersAnew_15 : decode cX4_ordersAnew 15 = .ok (.aload_n 2, 1) := by decide +kernel
theorem dX4_ordersAnew_16 : decode cX4_ordersAnew 16 = .ok (.aload_n 2, 1) := by decide +kernel
theorem dX4_ordersAnew_17 : decode cX4_ordersAnew 17 = .ok (.getfield 120, 3) := by decide +kernel
theorem dX4_ordersAnew_20 : decode cX4_ordersAnew 20 = .ok (.iload_n 3, 1) := by decide +kernel
theorem dX4_ordersAnew_21 : decode cX4_ordersAnew 21 = .ok (.invokevirtual 109, 3) := by decide +kernel
theorem dX4_ordersAnew_24 : decode cX4_ordersAnew 24 = .ok (.iconst 0, 1) := by decide +kernel
theorem dX4_ordersAnew_25 : decode cX4_ordersAnew 25 = .ok (.invokestatic 123, 3) := by decide +kernel
theorem dX4_ordersAnew_28 : decode cX4_ordersAnew 28 = .ok (.ifCond .ne 5, 3) := by decide +kernel
theorem dX4_ordersAnew_31 : decode cX4_ordersAnew 31 = .ok (.iconst 0, 1) := by decide +kernel
theorem dX4_ordersAnew_32 : decode cX4_ordersAnew 32 = .ok (.ireturn, 1) := by decide +kernel
theorem dX4_ordersAnew_33 : decode cX4_ordersAnew 33 = .ok (.aload_n 2, 1) := by decide +kernel
theorem dX4_ordersAnew_34 : decode cX4_ordersAnew 34 = .ok (.aload_n 2, 1) := by decide +kernel
theorem dX4_ordersAnew_35 : decode cX4_ordersAnew 35 = .ok (.getfield 120, 3) := by decide +kernel
theorem dX4_ordersAnew_38 : decode cX4_ordersAnew 38 = .ok (.iload_n 3, 1) := by decide +kernel
theorem dX4_ordersAnew_39 : decode cX4_ordersAnew 39 = .ok (.iconst 0, 1) := by decide +kernel
theorem dX4_ordersAnew_40 : decode cX4_ordersAnew 40 = .ok (.invokestatic 127, 3) := by decide +kernel
theorem dX4_ordersAnew_43 : decode cX4_ordersAnew 43 = .ok (.ireturn, 1) := by decide +kernel
set_option maxRecDepth 20000 in
theorem ggX4_come_X4_roomNumbered : GoodIn wsX4_come wsX4_roomNumbered := goodIn_ca (goodIn_r _ [9, 10, 11, 12, 13, 116, 117, 118, 119, 120, 121, 122, 123, 124, 125] (by decide +kernel) (by decide +kernel)) (goodIn_sub (fun _ h => List.mem_cons_of_mem _ (List.mem_append_right _ h)) (by decide +kernel))
set_option maxRecDepth 20000 in
theorem gX4_come_X4_roomNumbered : GoodIn wsX4_come (wsV RX4 61 RX4 yX4_roomNumbered wsX4_roomNumbered) := goodIn_app (goodIn_of _ (by decide +kernel)) ggX4_come_X4_roomNumbered
set_option maxRecDepth 20000 in
theorem ggX4_come_X4_hasExit : GoodIn wsX4_come wsX4_hasExit := goodIn_r _ [17, 18, 19, 20, 21, 22, 23, 24, 25, 26, 27, 28, 8, 29, 30, 31, 32, 33, 34, 35, 36, 37, 38, 39, 40, 41, 42, 43, 44, 103, 104, 105, 106, 107, 108, 109, 110, 111, 112, 113, 114, 115, 116, 117, 118, 119, 120, 121, 122, 123, 124, 125] (by decide +kernel) (by decide +kernel)
set_option maxRecDepth 20000 in
theorem gX4_come_X4_hasExit : GoodIn wsX4_come (wsV RX4 112 RX4 yX4_hasExit wsX4_hasExit) := goodIn_app (goodIn_of _ (by decide +kernel)) ggX4_come_X4_hasExit
set_option maxRecDepth 20000 in
theorem ggX4_come_X4_bookingDue : GoodIn wsX4_come wsX4_bookingDue := goodIn_r _ [48, 49, 50, 51, 52, 53, 54, 116, 117, 118, 119, 120, 121, 122, 123, 124, 125, 126, 127, 128, 129] (by decide +kernel) (by decide +kernel)
set_option maxRecDepth 20000 in
theorem gX4_come_X4_bookingDue : GoodIn wsX4_come (wsV RX4 133 RX4 yX4_bookingDue wsX4_bookingDue) := goodIn_app (goodIn_of _ (by decide +kernel)) ggX4_come_X4_bookingDue
set_option maxRecDepth 20000 in
theorem ggX4_come_X4_isKeptForBooking : GoodIn wsX4_come wsX4_isKeptForBooking := goodIn_r _ [58, 49, 50, 51, 52, 53, 54, 59, 60, 8, 61, 62, 116, 117, 118, 119, 120, 121, 122, 123, 124, 125, 126, 127, 128, 129, 103, 104, 105, 106, 107, 108, 109, 110, 111, 112, 113, 114, 115] (by decide +kernel) (by decide +kernel)
set_option maxRecDepth 20000 in
theorem gX4_come_X4_isKeptForBooking : GoodIn wsX4_come (wsV RX4 137 RX4 yX4_isKeptForBooking wsX4_isKeptForBooking) := goodIn_app (goodIn_of _ (by decide +kernel)) ggX4_come_X4_isKeptForBooking
set_option maxRecDepth 20000 in
theorem ggX4_come_X4_letIn : GoodIn wsX4_come wsX4_letIn := goodIn_r _ [66, 4, 67, 68, 69, 70, 54, 19, 71, 3, 72, 52, 73, 74, 75, 76, 24, 77, 26, 36, 28, 8, 29, 78, 79, 80, 81, 82, 83, 84, 85, 86, 87, 88, 89, 90, 91, 92, 93, 94, 95, 44, 96, 97, 98, 99, 100, 101, 102, 116, 117, 118, 119, 120, 121, 122, 123, 124, 125, 103, 104, 105, 106, 107, 108, 109, 110, 111, 112, 113, 114, 115, 130, 131, 132, 133, 134, 135, 136, 137, 138, 126, 127, 128, 129] (by decide +kernel) (by decide +kernel)
set_option maxRecDepth 20000 in
theorem gX4_come_X4_letIn : GoodIn wsX4_come (wsV RX4 147 RX4 yX4_letIn wsX4_letIn) := goodIn_app (goodIn_of _ (by decide +kernel)) ggX4_come_X4_letIn
theorem dX4_come_0 : decode cX4_come 0 = .ok (.aload_n 0, 1) := by decide +kernel
theorem dX4_come_1 : decode cX4_come 1 = .ok (.iload_n 1, 1) := by decide +kernel
theorem dX4_come_2 : decode cX4_come 2 = .ok (.invokevirtual 61, 3) := by decide +kernel
theorem dX4_come_5 : decode cX4_come 5 = .ok (.astore_n 2, 1) := by decide +kernel
theorem dX4_come_6 : decode cX4_come 6 = .ok (.aload_n 2, 1) := by decide +kernel
theorem dX4_come_7 : decode cX4_come 7 = .ok (.getfield 77, 3) := by decide +kernel
theorem dX4_come_10 : decode cX4_come 10 = .ok (.ifCond .ne 11, 3) := by decide +kernel
theorem dX4_come_13 : decode cX4_come 13 = .ok (.aload_n 0, 1) := by decide +kernel
theorem dX4_come_14 : decode cX4_come 14 = .ok (.aload_n 2, 1) := by decide +kernel
theorem dX4_come_15 : decode cX4_come 15 = .ok (.invokevirtual 112, 3) := by decide +kernel
theorem dX4_come_18 : decode cX4_come 18 = .ok (.ifCond .ne 13, 3) := by decide +kernel
theorem dX4_come_21 : decode cX4_come 21 = .ok (.new 53, 3) := by decide +kernel
theorem dX4_come_24 : decode cX4_come 24 = .ok (.dup, 1) := by decide +kernel
theorem dX4_come_25 : decode cX4_come 25 = .ok (.ldc 131, 2) := by decide +kernel
theorem dX4_come_27 : decode cX4_come 27 = .ok (.invokespecial 57, 3) := by decide +kernel
theorem dX4_come_30 : decode cX4_come 30 = .ok (.athrow, 1) := by decide +kernel
theorem dX4_come_31 : decode cX4_come 31 = .ok (.aload_n 0, 1) := by decide +kernel
theorem dX4_come_32 : decode cX4_come 32 = .ok (.aload_n 2, 1) := by decide +kernel
theorem dX4_come_33 : decode cX4_come 33 = .ok (.invokevirtual 133, 3) := by decide +kernel
theorem dX4_come_36 : decode cX4_come 36 = .ok (.astore_n 3, 1) := by decide +kernel
theorem dX4_come_37 : decode cX4_come 37 = .ok (.aload_n 3, 1) := by decide +kernel
theorem dX4_come_38 : decode cX4_come 38 = .ok (.ifnonnull 21, 3) := by decide +kernel
theorem dX4_come_41 : decode cX4_come 41 = .ok (.aload_n 0, 1) := by decide +kernel
theorem dX4_come_42 : decode cX4_come 42 = .ok (.aload_n 2, 1) := by decide +kernel
theorem dX4_come_43 : decode cX4_come 43 = .ok (.invokevirtual 137, 3) := by decide +kernel
theorem dX4_come_46 : decode cX4_come 46 = .ok (.ifCond .eq 13, 3) := by decide +kernel
theorem dX4_come_49 : decode cX4_come 49 = .ok (.new 53, 3) := by decide +kernel
theorem dX4_come_52 : decode cX4_come 52 = .ok (.dup, 1) := by decide +kernel
theorem dX4_come_53 : decode cX4_come 53 = .ok (.ldc 140, 2) := by decide +kernel
theorem dX4_come_55 : decode cX4_come 55 = .ok (.invokespecial 57, 3) := by decide +kernel
theorem dX4_come_58 : decode cX4_come 58 = .ok (.athrow, 1) := by decide +kernel
theorem dX4_come_59 : decode cX4_come 59 = .ok (.aload_n 0, 1) := by decide +kernel
theorem dX4_come_60 : decode cX4_come 60 = .ok (.getfield 142, 3) := by decide +kernel
theorem dX4_come_63 : decode cX4_come 63 = .ok (.bipush 30, 2) := by decide +kernel
theorem dX4_come_65 : decode cX4_come 65 = .ok (.if_icmp .lt 13, 3) := by decide +kernel
theorem dX4_come_68 : decode cX4_come 68 = .ok (.new 53, 3) := by decide +kernel
theorem dX4_come_71 : decode cX4_come 71 = .ok (.dup, 1) := by decide +kernel
theorem dX4_come_72 : decode cX4_come 72 = .ok (.ldc 145, 2) := by decide +kernel
theorem dX4_come_74 : decode cX4_come 74 = .ok (.invokespecial 57, 3) := by decide +kernel
theorem dX4_come_77 : decode cX4_come 77 = .ok (.athrow, 1) := by decide +kernel
theorem dX4_come_78 : decode cX4_come 78 = .ok (.aload_n 0, 1) := by decide +kernel
theorem dX4_come_79 : decode cX4_come 79 = .ok (.aload_n 2, 1) := by decide +kernel
theorem dX4_come_80 : decode cX4_come 80 = .ok (.aload_n 3, 1) := by decide +kernel
theorem dX4_come_81 : decode cX4_come 81 = .ok (.invokevirtual 147, 3) := by decide +kernel
theorem dX4_come_84 : decode cX4_come 84 = .ok (.ireturn, 1) := by decide +kernel
set_option maxRecDepth 20000 in
theorem ggX4_solve_X4_groupNumbered : GoodIn wsX4_solve wsX4_groupNumbered := goodIn_ca (goodIn_r _ [15, 1, 2, 16, 17, 74, 75, 76, 77, 78, 79, 80, 81, 82, 83] (by decide +kernel) (by decide +kernel)) (goodIn_sub (fun _ h => List.mem_cons_of_mem _ (List.mem_append_left _ (List.mem_append_right _ h))) (by decide +kernel))
set_option maxRecDepth 20000 in
theorem gX4_solve_X4_groupNumbered : GoodIn wsX4_solve (wsV RX4 151 RX4 yX4_groupNumbered wsX4_groupNumbered) := goodIn_app (goodIn_of _ (by decide +kernel)) ggX4_solve_X4_groupNumbered
set_option maxRecDepth 20000 in
theorem ggX4_solve_X4_openTo : GoodIn wsX4_solve wsX4_openTo := goodIn_r _ [21, 5, 22, 9, 23, 24, 25, 26, 27, 28, 29, 30, 14, 31, 32, 33, 52, 53, 54, 55, 56, 57, 58, 59, 60, 74, 75, 76, 77, 78, 79, 80, 81, 82, 83, 61, 62, 63, 64, 65, 66, 67, 68, 69, 70, 71, 72, 73] (by decide +kernel) (by decide +kernel)
set_option maxRecDepth 20000 in
theorem gX4_solve_X4_openTo : GoodIn wsX4_solve (wsV RX4 162 RX4 yX4_openTo wsX4_openTo) := goodIn_app (goodIn_of _ (by decide +kernel)) ggX4_solve_X4_openTo
set_option maxRecDepth 20000 in
theorem ggX4_solve_X4_has : GoodIn wsX4_solve wsX4_has := goodIn_r _ [31] (by decide +kernel) (by decide +kernel)
set_option maxRecDepth 20000 in
theorem gX4_solve_X4_has : GoodIn wsX4_solve (va_wsS RX4 123 yX4_has wsX4_has) := goodIn_app (goodIn_of _ (by decide +kernel)) ggX4_solve_X4_has
set_option maxRecDepth 20000 in
theorem ggX4_solve_X2_isSolvable : GoodIn wsX4_solve wsX2_isSolvable := goodIn_r _ [38, 39, 40, 14, 41, 61, 62, 63, 64, 65, 66, 67, 68, 69, 70, 71, 72, 73] (by decide +kernel) (by decide +kernel)
set_option maxRecDepth 20000 in
theorem gX4_solve_X2_isSolvable : GoodIn wsX4_solve (wsV RX4 169 RX2 yX2_isSolvable wsX2_isSolvable) := goodIn_app (goodIn_of _ (by decide +kernel)) ggX4_solve_X2_isSolvable
set_option maxRecDepth 20000 in
theorem ggX4_solve_X4_with : GoodIn wsX4_solve wsX4_with := goodIn_r _ [33] (by decide +kernel) (by decide +kernel)
set_option maxRecDepth 20000 in
theorem gX4_solve_X4_with : GoodIn wsX4_solve (va_wsS RX4 94 yX4_with wsX4_with) := goodIn_app (goodIn_of _ (by decide +kernel)) ggX4_solve_X4_with
set_option maxRecDepth 20000 in
theorem ggX4_solve_X4_leaveIfOut : GoodIn wsX4_solve wsX4_leaveIfOut := goodIn_r _ [45, 8, 34, 30, 14, 31, 46, 47, 48, 5, 7, 49, 50, 9, 51, 52, 53, 54, 55, 56, 57, 58, 59, 60, 61, 62, 63, 64, 65, 66, 67, 68, 69, 70, 71, 72, 73] (by decide +kernel) (by decide +kernel)
set_option maxRecDepth 20000 in
theorem gX4_solve_X4_leaveIfOut : GoodIn wsX4_solve (va_wsS RX4 180 yX4_leaveIfOut wsX4_leaveIfOut) := goodIn_app (goodIn_of _ (by decide +kernel)) ggX4_solve_X4_leaveIfOut
theorem dX4_solve_0 : decode cX4_solve 0 = .ok (.aload_n 0, 1) := by decide +kernel
theorem dX4_solve_1 : decode cX4_solve 1 = .ok (.iload_n 1, 1) := by decide +kernel
theorem dX4_solve_2 : decode cX4_solve 2 = .ok (.invokevirtual 151, 3) := by decide +kernel
theorem dX4_solve_5 : decode cX4_solve 5 = .ok (.astore_n 3, 1) := by decide +kernel
theorem dX4_solve_6 : decode cX4_solve 6 = .ok (.aload_n 3, 1) := by decide +kernel
theorem dX4_solve_7 : decode cX4_solve 7 = .ok (.getfield 155, 3) := by decide +kernel
theorem dX4_solve_10 : decode cX4_solve 10 = .ok (.astore 4, 2) := by decide +kernel
theorem dX4_solve_12 : decode cX4_solve 12 = .ok (.iload_n 2, 1) := by decide +kernel
theorem dX4_solve_13 : decode cX4_solve 13 = .ok (.ifCond .lt 12, 3) := by decide +kernel
theorem dX4_solve_16 : decode cX4_solve 16 = .ok (.iload_n 2, 1) := by decide +kernel
theorem dX4_solve_17 : decode cX4_solve 17 = .ok (.aload 4, 2) := by decide +kernel
theorem dX4_solve_19 : decode cX4_solve 19 = .ok (.getfield 80, 3) := by decide +kernel
theorem dX4_solve_22 : decode cX4_solve 22 = .ok (.if_icmp .lt 13, 3) := by decide +kernel
theorem dX4_solve_25 : decode cX4_solve 25 = .ok (.new 68, 3) := by decide +kernel
theorem dX4_solve_28 : decode cX4_solve 28 = .ok (.dup, 1) := by decide +kernel
theorem dX4_solve_29 : decode cX4_solve 29 = .ok (.ldc 159, 2) := by decide +kernel
theorem dX4_solve_31 : decode cX4_solve 31 = .ok (.invokespecial 72, 3) := by decide +kernel
theorem dX4_solve_34 : decode cX4_solve 34 = .ok (.athrow, 1) := by decide +kernel
theorem dX4_solve_35 : decode cX4_solve 35 = .ok (.aload_n 3, 1) := by decide +kernel
theorem dX4_solve_36 : decode cX4_solve 36 = .ok (.getfield 161, 3) := by decide +kernel
theorem dX4_solve_39 : decode cX4_solve 39 = .ok (.ifCond .ne 28, 3) := by decide +kernel
theorem dX4_solve_42 : decode cX4_solve 42 = .ok (.aload_n 0, 1) := by decide +kernel
theorem dX4_solve_43 : decode cX4_solve 43 = .ok (.aload_n 3, 1) := by decide +kernel
theorem dX4_solve_44 : decode cX4_solve 44 = .ok (.invokevirtual 162, 3) := by decide +kernel
theorem dX4_solve_47 : decode cX4_solve 47 = .ok (.iload_n 2, 1) := by decide +kernel
theorem dX4_solve_48 : decode cX4_solve 48 = .ok (.invokestatic 123, 3) := by decide +kernel
theorem dX4_solve_51 : decode cX4_solve 51 = .ok (.ifCond .eq 16, 3) := by decide +kernel
theorem dX4_solve_54 : decode cX4_solve 54 = .ok (.aload 4, 2) := by decide +kernel
theorem dX4_solve_56 : decode cX4_solve 56 = .ok (.iload_n 2, 1) := by decide +kernel
theorem dX4_solve_57 : decode cX4_solve 57 = .ok (.aload_n 3, 1) := by decide +kernel
theorem dX4_solve_58 : decode cX4_solve 58 = .ok (.getfield 166, 3) := by decide +kernel
theorem dX4_solve_61 : decode cX4_solve 61 = .ok (.invokevirtual 169, 3) := by decide +kernel
theorem dX4_solve_64 : decode cX4_solve 64 = .ok (.ifCond .ne 13, 3) := by decide +kernel
theorem dX4_solve_67 : decode cX4_solve 67 = .ok (.new 53, 3) := by decide +kernel
theorem dX4_solve_70 : decode cX4_solve 70 = .ok (.dup, 1) := by decide +kernel
theorem dX4_solve_71 : decode cX4_solve 71 = .ok (.ldc 172, 2) := by decide +kernel
theorem dX4_solve_73 : decode cX4_solve 73 = .ok (.invokespecial 57, 3) := by decide +kernel
theorem dX4_solve_76 : decode cX4_solve 76 = .ok (.athrow, 1) := by decide +kernel
theorem dX4_solve_77 : decode cX4_solve 77 = .ok (.aload_n 3, 1) := by decide +kernel
theorem dX4_solve_78 : decode cX4_solve 78 = .ok (.aload_n 3, 1) := by decide +kernel
theorem dX4_solve_79 : decode cX4_solve 79 = .ok (.getfield 174, 3) := by decide +kernel
theorem dX4_solve_82 : decode cX4_solve 82 = .ok (.iload_n 2, 1) := by decide +kernel
theorem dX4_solve_83 : decode cX4_solve 83 = .ok (.invokestatic 94, 3) := by decide +kernel
theorem dX4_solve_86 : decode cX4_solve 86 = .ok (.putfield 174, 3) := by decide +kernel
theorem dX4_solve_89 : decode cX4_solve 89 = .ok (.aload_n 3, 1) := by decide +kernel
theorem dX4_solve_90 : decode cX4_solve 90 = .ok (.dup, 1) := by decide +kernel
theorem dX4_solve_91 : decode cX4_solve 91 = .ok (.getfield 166, 3) := by decide +kernel
theorem dX4_solve_94 : decode cX4_solve 94 = .ok (.aload 4, 2) := by decide +kernel
theorem dX4_solve_96 : decode cX4_solve 96 = .ok (.getfield 177, 3) := by decide +kernel
theorem dX4_solve_99 : decode cX4_solve 99 = .ok (.iload_n 2, 1) := by decide +kernel
theorem dX4_solve_100 : decode cX4_solve 100 = .ok (.iaload, 1) := by decide +kernel
theorem dX4_solve_101 : decode cX4_solve 101 = .ok (.ior, 1) := by decide +kernel
theorem dX4_solve_102 : decode cX4_solve 102 = .ok (.putfield 166, 3) := by decide +kernel
theorem dX4_solve_105 : decode cX4_solve 105 = .ok (.aload_n 3, 1) := by decide +kernel
theorem dX4_solve_106 : decode cX4_solve 106 = .ok (.invokestatic 180, 3) := by decide +kernel
theorem dX4_solve_109 : decode cX4_solve 109 = .ok (.aload_n 3, 1) := by decide +kernel
theorem dX4_solve_110 : decode cX4_solve 110 = .ok (.getfield 166, 3) := by decide +kernel
theorem dX4_solve_113 : decode cX4_solve 113 = .ok (.ireturn, 1) := by decide +kernel
set_option maxRecDepth 20000 in
theorem ggX4_hint_X4_groupNumbered : GoodIn wsX4_hint wsX4_groupNumbered := goodIn_ca (goodIn_r _ [10, 11, 12, 13, 14, 94, 95, 96, 97, 98, 99, 100, 101, 102, 103] (by decide +kernel) (by decide +kernel)) (goodIn_sub (fun _ h => List.mem_cons_of_mem _ (List.mem_append_right _ h)) (by decide +kernel))
set_option maxRecDepth 20000 in
theorem gX4_hint_X4_groupNumbered : GoodIn wsX4_hint (wsV RX4 151 RX4 yX4_groupNumbered wsX4_groupNumbered) := goodIn_app (goodIn_of _ (by decide +kernel)) ggX4_hint_X4_groupNumbered
set_option maxRecDepth 20000 in
theorem ggX4_hint_X4_wayOf : GoodIn wsX4_hint wsX4_wayOf := goodIn_r _ [18, 4, 5, 19, 20, 21, 9, 22, 23, 24, 25, 26, 27, 28, 29, 30, 31, 32, 33, 34, 35, 36, 37, 38, 39, 40, 41, 42, 43, 44, 45, 46, 47, 48, 49, 50, 51, 52, 53, 54, 55, 56, 85, 86, 87, 88, 89, 90, 91, 92, 93, 94, 95, 96, 97, 98, 99, 100, 101, 102, 103, 104, 105, 106, 107, 108, 109, 110, 111, 112, 113, 114, 115, 116] (by decide +kernel) (by decide +kernel)
set_option maxRecDepth 20000 in
theorem gX4_hint_X4_wayOf : GoodIn wsX4_hint (wsV RX4 186 RX4 yX4_wayOf wsX4_wayOf) := goodIn_app (goodIn_of _ (by decide +kernel)) ggX4_hint_X4_wayOf
set_option maxRecDepth 20000 in
theorem ggX4_hint_X2_lowestSolvable : GoodIn wsX4_hint wsX2_lowestSolvable := goodIn_r _ [60, 30, 32, 9, 33, 51, 52, 53, 28, 54, 55, 44, 45, 104, 105, 106, 107, 108, 109, 110, 111, 112, 113, 114, 115, 116] (by decide +kernel) (by decide +kernel)
set_option maxRecDepth 20000 in
theorem gX4_hint_X2_lowestSolvable : GoodIn wsX4_hint (wsV RX4 189 RX2 yX2_lowestSolvable wsX2_lowestSolvable) := goodIn_app (goodIn_of _ (by decide +kernel)) ggX4_hint_X2_lowestSolvable
set_option maxRecDepth 20000 in
theorem ggX4_hint_X1_takeHint : GoodIn wsX4_hint wsX1_takeHint := goodIn_r _ [65, 66, 67, 68, 85, 86, 87, 88, 89, 90, 91, 92, 93] (by decide +kernel) (by decide +kernel)
set_option maxRecDepth 20000 in
theorem gX4_hint_X1_takeHint : GoodIn wsX4_hint (wsV RX4 194 RX1 yX1_takeHint wsX1_takeHint) := goodIn_app (goodIn_of _ (by decide +kernel)) ggX4_hint_X1_takeHint
set_option maxRecDepth 20000 in
theorem ggX4_hint_X4_leaveIfLate : GoodIn wsX4_hint wsX4_leaveIfLate := goodIn_r _ [72, 73, 74, 75, 76, 64, 77, 66, 78, 79, 80, 9, 81, 4, 3, 82, 83, 24, 84, 94, 95, 96, 97, 98, 99, 100, 101, 102, 103, 85, 86, 87, 88, 89, 90, 91, 92, 93, 104, 105, 106, 107, 108, 109, 110, 111, 112, 113, 114, 115, 116] (by decide +kernel) (by decide +kernel)
set_option maxRecDepth 20000 in
theorem gX4_hint_X4_leaveIfLate : GoodIn wsX4_hint (wsV RX4 198 RX4 yX4_leaveIfLate wsX4_leaveIfLate) := goodIn_app (goodIn_of _ (by decide +kernel)) ggX4_hint_X4_leaveIfLate
theorem dX4_hint_0 : decode cX4_hint 0 = .ok (.aload_n 0, 1) := by decide +kernel
theorem dX4_hint_1 : decode cX4_hint 1 = .ok (.iload_n 1, 1) := by decide +kernel
theorem dX4_hint_2 : decode cX4_hint 2 = .ok (.invokevirtual 151, 3) := by decide +kernel
theorem dX4_hint_5 : decode cX4_hint 5 = .ok (.astore_n 2, 1) := by decide +kernel
theorem dX4_hint_6 : decode cX4_hint 6 = .ok (.aload_n 2, 1) := by decide +kernel
theorem dX4_hint_7 : decode cX4_hint 7 = .ok (.getfield 161, 3) := by decide +kernel
theorem dX4_hint_10 : decode cX4_hint 10 = .ok (.ifCond .eq 13, 3) := by decide +kernel
theorem dX4_hint_13 : decode cX4_hint 13 = .ok (.new 53, 3) := by decide +kernel
theorem dX4_hint_16 : decode cX4_hint 16 = .ok (.dup, 1) := by decide +kernel
theorem dX4_hint_17 : decode cX4_hint 17 = .ok (.ldc 184, 2) := by decide +kernel
theorem dX4_hint_19 : decode cX4_hint 19 = .ok (.invokespecial 57, 3) := by decide +kernel
theorem dX4_hint_22 : decode cX4_hint 22 = .ok (.athrow, 1) := by decide +kernel
theorem dX4_hint_23 : decode cX4_hint 23 = .ok (.aload_n 2, 1) := by decide +kernel
theorem dX4_hint_24 : decode cX4_hint 24 = .ok (.getfield 155, 3) := by decide +kernel
theorem dX4_hint_27 : decode cX4_hint 27 = .ok (.aload_n 0, 1) := by decide +kernel
theorem dX4_hint_28 : decode cX4_hint 28 = .ok (.aload_n 2, 1) := by decide +kernel
theorem dX4_hint_29 : decode cX4_hint 29 = .ok (.invokevirtual 186, 3) := by decide +kernel
theorem dX4_hint_32 : decode cX4_hint 32 = .ok (.aload_n 2, 1) := by decide +kernel
theorem dX4_hint_33 : decode cX4_hint 33 = .ok (.getfield 166, 3) := by decide +kernel
theorem dX4_hint_36 : decode cX4_hint 36 = .ok (.invokevirtual 189, 3) := by decide +kernel
theorem dX4_hint_39 : decode cX4_hint 39 = .ok (.istore_n 3, 1) := by decide +kernel
theorem dX4_hint_40 : decode cX4_hint 40 = .ok (.iload_n 3, 1) := by decide +kernel
theorem dX4_hint_41 : decode cX4_hint 41 = .ok (.iconst (-1), 1) := by decide +kernel
theorem dX4_hint_42 : decode cX4_hint 42 = .ok (.if_icmp .ne 13, 3) := by decide +kernel
theorem dX4_hint_45 : decode cX4_hint 45 = .ok (.new 53, 3) := by decide +kernel
theorem dX4_hint_48 : decode cX4_hint 48 = .ok (.dup, 1) := by decide +kernel
theorem dX4_hint_49 : decode cX4_hint 49 = .ok (.ldc 192, 2) := by decide +kernel
theorem dX4_hint_51 : decode cX4_hint 51 = .ok (.invokespecial 57, 3) := by decide +kernel
theorem dX4_hint_54 : decode cX4_hint 54 = .ok (.athrow, 1) := by decide +kernel
theorem dX4_hint_55 : decode cX4_hint 55 = .ok (.aload_n 2, 1) := by decide +kernel
theorem dX4_hint_56 : decode cX4_hint 56 = .ok (.iload_n 3, 1) := by decide +kernel
theorem dX4_hint_57 : decode cX4_hint 57 = .ok (.invokevirtual 194, 3) := by decide +kernel
theorem dX4_hint_60 : decode cX4_hint 60 = .ok (.aload_n 0, 1) := by decide +kernel
theorem dX4_hint_61 : decode cX4_hint 61 = .ok (.aload_n 2, 1) := by decide +kernel
theorem dX4_hint_62 : decode cX4_hint 62 = .ok (.invokevirtual 198, 3) := by decide +kernel
theorem dX4_hint_65 : decode cX4_hint 65 = .ok (.iload_n 3, 1) := by decide +kernel
theorem dX4_hint_66 : decode cX4_hint 66 = .ok (.ireturn, 1) := by decide +kernel
set_option maxRecDepth 20000 in
theorem ggX4_giveUp_X4_groupNumbered : GoodIn wsX4_giveUp wsX4_groupNumbered := goodIn_ca (goodIn_r _ [8, 9, 10, 11, 12, 30, 31, 32, 33, 34, 35, 36, 37, 38, 39] (by decide +kernel) (by decide +kernel)) (goodIn_sub (fun _ h => List.mem_cons_of_mem _ (List.mem_append_right _ h)) (by decide +kernel))
set_option maxRecDepth 20000 in
theorem gX4_giveUp_X4_groupNumbered : GoodIn wsX4_giveUp (wsV RX4 151 RX4 yX4_groupNumbered wsX4_groupNumbered) := goodIn_app (goodIn_of _ (by decide +kernel)) ggX4_giveUp_X4_groupNumbered
set_option maxRecDepth 20000 in
theorem ggX4_giveUp_X4_leave : GoodIn wsX4_giveUp wsX4_leave := goodIn_r _ [15, 16, 3, 17, 18, 19, 20, 21, 22, 23, 24, 25, 26, 27, 28, 29, 40, 41, 42, 43, 44, 45, 46, 47, 48, 49, 50, 51, 52] (by decide +kernel) (by decide +kernel)
set_option maxRecDepth 20000 in
theorem gX4_giveUp_X4_leave : GoodIn wsX4_giveUp (va_wsS RX4 201 yX4_leave wsX4_leave) := goodIn_app (goodIn_of _ (by decide +kernel)) ggX4_giveUp_X4_leave
theorem dX4_giveUp_0 : decode cX4_giveUp 0 = .ok (.aload_n 0, 1) := by decide +kernel
theorem dX4_giveUp_1 : decode cX4_giveUp 1 = .ok (.iload_n 1, 1) := by decide +kernel
theorem dX4_giveUp_2 : decode cX4_giveUp 2 = .ok (.invokevirtual 151, 3) := by decide +kernel
theorem dX4_giveUp_5 : decode cX4_giveUp 5 = .ok (.astore_n 2, 1) := by decide +kernel
theorem dX4_giveUp_6 : decode cX4_giveUp 6 = .ok (.aload_n 2, 1) := by decide +kernel
theorem dX4_giveUp_7 : decode cX4_giveUp 7 = .ok (.getfield 161, 3) := by decide +kernel
theorem dX4_giveUp_10 : decode cX4_giveUp 10 = .ok (.ifCond .eq 13, 3) := by decide +kernel
theorem dX4_giveUp_13 : decode cX4_giveUp 13 = .ok (.new 53, 3) := by decide +kernel
theorem dX4_giveUp_16 : decode cX4_giveUp 16 = .ok (.dup, 1) := by decide +kernel
theorem dX4_giveUp_17 : decode cX4_giveUp 17 = .ok (.ldc 184, 2) := by decide +kernel
theorem dX4_giveUp_19 : decode cX4_giveUp 19 = .ok (.invokespecial 57, 3) := by decide +kernel
theorem dX4_giveUp_22 : decode cX4_giveUp 22 = .ok (.athrow, 1) := by decide +kernel
theorem dX4_giveUp_23 : decode cX4_giveUp 23 = .ok (.aload_n 2, 1) := by decide +kernel
theorem dX4_giveUp_24 : decode cX4_giveUp 24 = .ok (.iconst 2, 1) := by decide +kernel
theorem dX4_giveUp_25 : decode cX4_giveUp 25 = .ok (.invokestatic 201, 3) := by decide +kernel
theorem dX4_giveUp_28 : decode cX4_giveUp 28 = .ok (.return_, 1) := by decide +kernel
set_option maxRecDepth 20000 in
theorem ggX4_reset_X4_roomNumbered : GoodIn wsX4_reset wsX4_roomNumbered := goodIn_ca (goodIn_r _ [11, 12, 13, 14, 15, 73, 74, 75, 76, 77, 78, 79, 80, 81, 82] (by decide +kernel) (by decide +kernel)) (goodIn_sub (fun _ h => List.mem_cons_of_mem _ (List.mem_append_right _ h)) (by decide +kernel))
set_option maxRecDepth 20000 in
theorem gX4_reset_X4_roomNumbered : GoodIn wsX4_reset (wsV RX4 61 RX4 yX4_roomNumbered wsX4_roomNumbered) := goodIn_app (goodIn_of _ (by decide +kernel)) ggX4_reset_X4_roomNumbered
set_option maxRecDepth 20000 in
theorem ggX4_reset_X4_workerNumbered : GoodIn wsX4_reset wsX4_workerNumbered := goodIn_ca (goodIn_r _ [19, 12, 13, 20, 73, 74, 75, 76, 77, 78, 79, 80, 81, 82] (by decide +kernel) (by decide +kernel)) (goodIn_sub (fun _ h => List.mem_cons_of_mem _ (List.mem_append_right _ h)) (by decide +kernel))
set_option maxRecDepth 20000 in
theorem gX4_reset_X4_workerNumbered : GoodIn wsX4_reset (wsV RX4 205 RX4 yX4_workerNumbered wsX4_workerNumbered) := goodIn_app (goodIn_of _ (by decide +kernel)) ggX4_reset_X4_workerNumbered
set_option maxRecDepth 20000 in
theorem ggX4_reset_X4_beginNext : GoodIn wsX4_reset wsX4_beginNext := goodIn_r _ [23, 24, 6, 5, 25, 26, 27, 28, 29, 30, 31, 32, 33, 10, 34, 35, 36, 37, 38, 39, 40, 41, 42, 43, 44, 45, 46, 47, 48, 49, 50, 51, 52, 3, 53, 54, 55, 56, 57, 58, 59, 60, 61, 62, 63, 64, 65, 66, 67, 68, 69, 70, 71, 72] (by decide +kernel) (by decide +kernel)
set_option maxRecDepth 20000 in
theorem gX4_reset_X4_beginNext : GoodIn wsX4_reset (va_wsS RX4 219 yX4_beginNext wsX4_beginNext) := goodIn_app (goodIn_of _ (by decide +kernel)) ggX4_reset_X4_beginNext
theorem dX4_reset_0 : decode cX4_reset 0 = .ok (.aload_n 0, 1) := by decide +kernel
theorem dX4_reset_1 : decode cX4_reset 1 = .ok (.iload_n 1, 1) := by decide +kernel
theorem dX4_reset_2 : decode cX4_reset 2 = .ok (.invokevirtual 61, 3) := by decide +kernel
theorem dX4_reset_5 : decode cX4_reset 5 = .ok (.astore 4, 2) := by decide +kernel
theorem dX4_reset_7 : decode cX4_reset 7 = .ok (.aload_n 0, 1) := by decide +kernel
theorem dX4_reset_8 : decode cX4_reset 8 = .ok (.iload_n 2, 1) := by decide +kernel
theorem dX4_reset_9 : decode cX4_reset 9 = .ok (.invokevirtual 205, 3) := by decide +kernel
theorem dX4_reset_12 : decode cX4_reset 12 = .ok (.astore 5, 2) := by decide +kernel
theorem dX4_reset_14 : decode cX4_reset 14 = .ok (.aload 4, 2) := by decide +kernel
theorem dX4_reset_16 : decode cX4_reset 16 = .ok (.getfield 77, 3) := by decide +kernel
theorem dX4_reset_19 : decode cX4_reset 19 = .ok (.iconst 2, 1) := by decide +kernel
theorem dX4_reset_20 : decode cX4_reset 20 = .ok (.if_icmp .ne 11, 3) := by decide +kernel
theorem dX4_reset_23 : decode cX4_reset 23 = .ok (.aload 5, 2) := by decide +kernel
theorem dX4_reset_25 : decode cX4_reset 25 = .ok (.getfield 209, 3) := by decide +kernel
theorem dX4_reset_28 : decode cX4_reset 28 = .ok (.ifnull 13, 3) := by decide +kernel
theorem dX4_reset_31 : decode cX4_reset 31 = .ok (.new 53, 3) := by decide +kernel
theorem dX4_reset_34 : decode cX4_reset 34 = .ok (.dup, 1) := by decide +kernel
theorem dX4_reset_35 : decode cX4_reset 35 = .ok (.ldc 210, 2) := by decide +kernel
theorem dX4_reset_37 : decode cX4_reset 37 = .ok (.invokespecial 57, 3) := by decide +kernel
theorem dX4_reset_40 : decode cX4_reset 40 = .ok (.athrow, 1) := by decide +kernel
theorem dX4_reset_41 : decode cX4_reset 41 = .ok (.aload 4, 2) := by decide +kernel
theorem dX4_reset_43 : decode cX4_reset 43 = .ok (.iconst 3, 1) := by decide +kernel
theorem dX4_reset_44 : decode cX4_reset 44 = .ok (.putfield 77, 3) := by decide +kernel
theorem dX4_reset_47 : decode cX4_reset 47 = .ok (.aload 4, 2) := by decide +kernel
theorem dX4_reset_49 : decode cX4_reset 49 = .ok (.iconst 0, 1) := by decide +kernel
theorem dX4_reset_50 : decode cX4_reset 50 = .ok (.putfield 212, 3) := by decide +kernel
theorem dX4_reset_53 : decode cX4_reset 53 = .ok (.aload 4, 2) := by decide +kernel
theorem dX4_reset_55 : decode cX4_reset 55 = .ok (.iload_n 3, 1) := by decide +kernel
theorem dX4_reset_56 : decode cX4_reset 56 = .ok (.putfield 215, 3) := by decide +kernel
theorem dX4_reset_59 : decode cX4_reset 59 = .ok (.aload 5, 2) := by decide +kernel
theorem dX4_reset_61 : decode cX4_reset 61 = .ok (.aload 4, 2) := by decide +kernel
theorem dX4_reset_63 : decode cX4_reset 63 = .ok (.invokestatic 219, 3) := by decide +kernel
theorem dX4_reset_66 : decode cX4_reset 66 = .ok (.return_, 1) := by decide +kernel
set_option maxRecDepth 20000 in
theorem ggX4_forget_X4_workerNumbered : GoodIn wsX4_forget wsX4_workerNumbered := goodIn_ca (goodIn_r _ [11, 12, 13, 14, 74, 75, 76, 77, 78, 79, 80, 81, 82, 83] (by decide +kernel) (by decide +kernel)) (goodIn_sub (fun _ h => List.mem_cons_of_mem _ (List.mem_append_right _ h)) (by decide +kernel))
set_option maxRecDepth 20000 in
theorem gX4_forget_X4_workerNumbered : GoodIn wsX4_forget (wsV RX4 205 RX4 yX4_workerNumbered wsX4_workerNumbered) := goodIn_app (goodIn_of _ (by decide +kernel)) ggX4_forget_X4_workerNumbered
set_option maxRecDepth 20000 in
theorem ggX4_forget_X4_with : GoodIn wsX4_forget wsX4_with := goodIn_r _ [17] (by decide +kernel) (by decide +kernel)
set_option maxRecDepth 20000 in
theorem gX4_forget_X4_with : GoodIn wsX4_forget (va_wsS RX4 94 yX4_with wsX4_with) := goodIn_app (goodIn_of _ (by decide +kernel)) ggX4_forget_X4_with
set_option maxRecDepth 20000 in
theorem ggX4_forget_X4_without : GoodIn wsX4_forget wsX4_without := goodIn_r _ [20] (by decide +kernel) (by decide +kernel)
set_option maxRecDepth 20000 in
theorem gX4_forget_X4_without : GoodIn wsX4_forget (va_wsS RX4 102 yX4_without wsX4_without) := goodIn_app (goodIn_of _ (by decide +kernel)) ggX4_forget_X4_without
set_option maxRecDepth 20000 in
theorem ggX4_forget_X4_beginNext : GoodIn wsX4_forget wsX4_beginNext := goodIn_r _ [23, 6, 24, 5, 25, 26, 27, 28, 29, 30, 31, 32, 33, 10, 34, 35, 36, 37, 38, 39, 40, 41, 42, 43, 44, 45, 46, 47, 48, 49, 50, 51, 52, 53, 54, 55, 56, 57, 61, 62, 63, 64, 65, 66, 67, 68, 69, 70, 71, 72, 73, 58, 59, 60] (by decide +kernel) (by decide +kernel)
set_option maxRecDepth 20000 in
theorem gX4_forget_X4_beginNext : GoodIn wsX4_forget (va_wsS RX4 219 yX4_beginNext wsX4_beginNext) := goodIn_app (goodIn_of _ (by decide +kernel)) ggX4_forget_X4_beginNext
theorem dX4_forget_0 : decode cX4_forget 0 = .ok (.aload_n 0, 1) := by decide +kernel
theorem dX4_forget_1 : decode cX4_forget 1 = .ok (.iload_n 1, 1) := by decide +kernel
theorem dX4_forget_2 : decode cX4_forget 2 = .ok (.invokevirtual 205, 3) := by decide +kernel
theorem dX4_forget_5 : decode cX4_forget 5 = .ok (.astore_n 2, 1) := by decide +kernel
theorem dX4_forget_6 : decode cX4_forget 6 = .ok (.aload_n 2, 1) := by decide +kernel
theorem dX4_forget_7 : decode cX4_forget 7 = .ok (.getfield 209, 3) := by decide +kernel
theorem dX4_forget_10 : decode cX4_forget 10 = .ok (.astore_n 3, 1) := by decide +kernel
theorem dX4_forget_11 : decode cX4_forget 11 = .ok (.aload_n 2, 1) := by decide +kernel
theorem dX4_forget_12 : decode cX4_forget 12 = .ok (.getfield 223, 3) := by decide +kernel
theorem dX4_forget_15 : decode cX4_forget 15 = .ok (.istore 4, 2) := by decide +kernel
theorem dX4_forget_17 : decode cX4_forget 17 = .ok (.aload_n 3, 1) := by decide +kernel
theorem dX4_forget_18 : decode cX4_forget 18 = .ok (.ifnull 9, 3) := by decide +kernel
theorem dX4_forget_21 : decode cX4_forget 21 = .ok (.iload 4, 2) := by decide +kernel
theorem dX4_forget_23 : decode cX4_forget 23 = .ok (.iconst (-1), 1) := by decide +kernel
theorem dX4_forget_24 : decode cX4_forget 24 = .ok (.if_icmp .ne 13, 3) := by decide +kernel
theorem dX4_forget_27 : decode cX4_forget 27 = .ok (.new 53, 3) := by decide +kernel
theorem dX4_forget_30 : decode cX4_forget 30 = .ok (.dup, 1) := by decide +kernel
theorem dX4_forget_31 : decode cX4_forget 31 = .ok (.ldc 226, 2) := by decide +kernel
theorem dX4_forget_33 : decode cX4_forget 33 = .ok (.invokespecial 57, 3) := by decide +kernel
theorem dX4_forget_36 : decode cX4_forget 36 = .ok (.athrow, 1) := by decide +kernel
theorem dX4_forget_37 : decode cX4_forget 37 = .ok (.aload_n 3, 1) := by decide +kernel
theorem dX4_forget_38 : decode cX4_forget 38 = .ok (.aload_n 3, 1) := by decide +kernel
theorem dX4_forget_39 : decode cX4_forget 39 = .ok (.getfield 212, 3) := by decide +kernel
theorem dX4_forget_42 : decode cX4_forget 42 = .ok (.iload 4, 2) := by decide +kernel
theorem dX4_forget_44 : decode cX4_forget 44 = .ok (.invokestatic 94, 3) := by decide +kernel
theorem dX4_forget_47 : decode cX4_forget 47 = .ok (.putfield 212, 3) := by decide +kernel
theorem dX4_forget_50 : decode cX4_forget 50 = .ok (.aload_n 3, 1) := by decide +kernel
theorem dX4_forget_51 : decode cX4_forget 51 = .ok (.aload_n 3, 1) := by decide +kernel
theorem dX4_forget_52 : decode cX4_forget 52 = .ok (.getfield 228, 3) := by decide +kernel
theorem dX4_forget_55 : decode cX4_forget 55 = .ok (.iload 4, 2) := by decide +kernel
theorem dX4_forget_57 : decode cX4_forget 57 = .ok (.invokestatic 102, 3) := by decide +kernel
theorem dX4_forget_60 : decode cX4_forget 60 = .ok (.putfield 228, 3) := by decide +kernel
theorem dX4_forget_63 : decode cX4_forget 63 = .ok (.aload_n 2, 1) := by decide +kernel
theorem dX4_forget_64 : decode cX4_forget 64 = .ok (.aload_n 3, 1) := by decide +kernel
theorem dX4_forget_65 : decode cX4_forget 65 = .ok (.invokestatic 219, 3) := by decide +kernel
theorem dX4_forget_68 : decode cX4_forget 68 = .ok (.iload 4, 2) := by decide +kernel
theorem dX4_forget_70 : decode cX4_forget 70 = .ok (.ireturn, 1) := by decide +kernel
set_option maxRecDepth 20000 in
theorem ggX4_book_X4_roomNumbered : GoodIn wsX4_book wsX4_roomNumbered := goodIn_ca (goodIn_r _ [15, 16, 17, 18, 19, 45, 46, 47, 48, 49, 50, 51, 52, 53, 54] (by decide +kernel) (by decide +kernel)) (goodIn_sub (fun _ h => List.mem_cons_of_mem _ (List.mem_append_right _ h)) (by decide +kernel))
set_option maxRecDepth 20000 in
theorem gX4_book_X4_roomNumbered : GoodIn wsX4_book (wsV RX4 61 RX4 yX4_roomNumbered wsX4_roomNumbered) := goodIn_app (goodIn_of _ (by decide +kernel)) ggX4_book_X4_roomNumbered
set_option maxRecDepth 20000 in
theorem ggX4_book_X4_bookingTooNear : GoodIn wsX4_book wsX4_bookingTooNear := goodIn_r _ [23, 6, 7, 24, 25, 26, 27, 28, 29, 30, 31, 32, 14, 33, 34, 45, 46, 47, 48, 49, 50, 51, 52, 53, 54, 55, 56, 57, 58, 59, 60, 61, 62, 63, 64, 65, 66, 67, 68, 69, 70, 71] (by decide +kernel) (by decide +kernel)
set_option maxRecDepth 20000 in
theorem gX4_book_X4_bookingTooNear : GoodIn wsX4_book (wsV RX4 236 RX4 yX4_bookingTooNear wsX4_bookingTooNear) := goodIn_app (goodIn_of _ (by decide +kernel)) ggX4_book_X4_bookingTooNear
set_option maxRecDepth 20000 in
theorem ggX4_book_X0_init : GoodIn wsX4_book wsX0_init := goodIn_r _ [37, 38, 39, 40, 41, 42, 43, 44, 55, 56, 57, 58] (by decide +kernel) (by decide +kernel)
set_option maxRecDepth 20000 in
theorem gX4_book_X0_init : GoodIn wsX4_book (wsX0_init) := ggX4_book_X0_init
theorem dX4_book_0 : decode cX4_book 0 = .ok (.aload_n 0, 1) := by decide +kernel
theorem dX4_book_1 : decode cX4_book 1 = .ok (.iload_n 1, 1) := by decide +kernel
theorem dX4_book_2 : decode cX4_book 2 = .ok (.invokevirtual 61, 3) := by decide +kernel
theorem dX4_book_5 : decode cX4_book 5 = .ok (.astore_n 3, 1) := by decide +kernel
theorem dX4_book_6 : decode cX4_book 6 = .ok (.iload_n 2, 1) := by decide +kernel
theorem dX4_book_7 : decode cX4_book 7 = .ok (.aload_n 0, 1) := by decide +kernel
theorem dX4_book_8 : decode cX4_book 8 = .ok (.getfield 231, 3) := by decide +kernel
theorem dX4_book_11 : decode cX4_book 11 = .ok (.if_icmp .lt 10, 3) := by decide +kernel
theorem dX4_book_14 : decode cX4_book 14 = .ok (.iload_n 2, 1) := by decide +kernel
theorem dX4_book_15 : decode cX4_book 15 = .ok (.sipush 4940, 3) := by decide +kernel
theorem dX4_book_18 : decode cX4_book 18 = .ok (.if_icmp .le 13, 3) := by decide +kernel
theorem dX4_book_21 : decode cX4_book 21 = .ok (.new 42, 3) := by decide +kernel
theorem dX4_book_24 : decode cX4_book 24 = .ok (.dup, 1) := by decide +kernel
theorem dX4_book_25 : decode cX4_book 25 = .ok (.ldc 234, 2) := by decide +kernel
theorem dX4_book_27 : decode cX4_book 27 = .ok (.invokespecial 46, 3) := by decide +kernel
theorem dX4_book_30 : decode cX4_book 30 = .ok (.athrow, 1) := by decide +kernel
theorem dX4_book_31 : decode cX4_book 31 = .ok (.aload_n 0, 1) := by decide +kernel
theorem dX4_book_32 : decode cX4_book 32 = .ok (.aload_n 3, 1) := by decide +kernel
theorem dX4_book_33 : decode cX4_book 33 = .ok (.iload_n 2, 1) := by decide +kernel
theorem dX4_book_34 : decode cX4_book 34 = .ok (.invokevirtual 236, 3) := by decide +kernel
theorem dX4_book_37 : decode cX4_book 37 = .ok (.ifnull 13, 3) := by decide +kernel
theorem dX4_book_40 : decode cX4_book 40 = .ok (.new 53, 3) := by decide +kernel
theorem dX4_book_43 : decode cX4_book 43 = .ok (.dup, 1) := by decide +kernel
theorem dX4_book_44 : decode cX4_book 44 = .ok (.ldc 140, 2) := by decide +kernel
theorem dX4_book_46 : decode cX4_book 46 = .ok (.invokespecial 57, 3) := by decide +kernel
theorem dX4_book_49 : decode cX4_book 49 = .ok (.athrow, 1) := by decide +kernel
theorem dX4_book_50 : decode cX4_book 50 = .ok (.aload_n 0, 1) := by decide +kernel
theorem dX4_book_51 : decode cX4_book 51 = .ok (.getfield 240, 3) := by decide +kernel
theorem dX4_book_54 : decode cX4_book 54 = .ok (.bipush 30, 2) := by decide +kernel
theorem dX4_book_56 : decode cX4_book 56 = .ok (.if_icmp .lt 13, 3) := by decide +kernel
theorem dX4_book_59 : decode cX4_book 59 = .ok (.new 53, 3) := by decide +kernel
theorem dX4_book_62 : decode cX4_book 62 = .ok (.dup, 1) := by decide +kernel
theorem dX4_book_63 : decode cX4_book 63 = .ok (.ldc 243, 2) := by decide +kernel
theorem dX4_book_65 : decode cX4_book 65 = .ok (.invokespecial 57, 3) := by decide +kernel
theorem dX4_book_68 : decode cX4_book 68 = .ok (.athrow, 1) := by decide +kernel
theorem dX4_book_69 : decode cX4_book 69 = .ok (.aload_n 0, 1) := by decide +kernel
theorem dX4_book_70 : decode cX4_book 70 = .ok (.getfield 240, 3) := by decide +kernel
theorem dX4_book_73 : decode cX4_book 73 = .ok (.istore 4, 2) := by decide +kernel
theorem dX4_book_75 : decode cX4_book 75 = .ok (.aload_n 0, 1) := by decide +kernel
theorem dX4_book_76 : decode cX4_book 76 = .ok (.getfield 23, 3) := by decide +kernel
theorem dX4_book_79 : decode cX4_book 79 = .ok (.iload 4, 2) := by decide +kernel
theorem dX4_book_81 : decode cX4_book 81 = .ok (.new 21, 3) := by decide +kernel
theorem dX4_book_84 : decode cX4_book 84 = .ok (.dup, 1) := by decide +kernel
theorem dX4_book_85 : decode cX4_book 85 = .ok (.aload_n 3, 1) := by decide +kernel
theorem dX4_book_86 : decode cX4_book 86 = .ok (.iload_n 2, 1) := by decide +kernel
theorem dX4_book_87 : decode cX4_book 87 = .ok (.invokespecial 245, 3) := by decide +kernel
theorem dX4_book_90 : decode cX4_book 90 = .ok (.aastore, 1) := by decide +kernel
theorem dX4_book_91 : decode cX4_book 91 = .ok (.aload_n 0, 1) := by decide +kernel
theorem dX4_book_92 : decode cX4_book 92 = .ok (.dup, 1) := by decide +kernel
theorem dX4_book_93 : decode cX4_book 93 = .ok (.getfield 240, 3) := by decide +kernel
theorem dX4_book_96 : decode cX4_book 96 = .ok (.iconst 1, 1) := by decide +kernel
theorem dX4_book_97 : decode cX4_book 97 = .ok (.iadd, 1) := by decide +kernel
theorem dX4_book_98 : decode cX4_book 98 = .ok (.putfield 240, 3) := by decide +kernel
theorem dX4_book_101 : decode cX4_book 101 = .ok (.iload 4, 2) := by decide +kernel
theorem dX4_book_103 : decode cX4_book 103 = .ok (.ireturn, 1) := by decide +kernel
set_option maxRecDepth 20000 in
theorem ggX4_cancel_X4_bookingNumbered : GoodIn wsX4_cancel wsX4_bookingNumbered := goodIn_ca (goodIn_r _ [8, 9, 10, 11, 12, 17, 18, 19, 20, 21, 22, 23, 24, 25, 26] (by decide +kernel) (by decide +kernel)) (goodIn_sub (fun _ h => List.mem_cons_of_mem _ (List.mem_append_right _ h)) (by decide +kernel))
set_option maxRecDepth 20000 in
theorem gX4_cancel_X4_bookingNumbered : GoodIn wsX4_cancel (wsV RX4 248 RX4 yX4_bookingNumbered wsX4_bookingNumbered) := goodIn_app (goodIn_of _ (by decide +kernel)) ggX4_cancel_X4_bookingNumbered
theorem dX4_cancel_0 : decode cX4_cancel 0 = .ok (.aload_n 0, 1) := by decide +kernel
theorem dX4_cancel_1 : decode cX4_cancel 1 = .ok (.iload_n 1, 1) := by decide +kernel
theorem dX4_cancel_2 : decode cX4_cancel 2 = .ok (.invokevirtual 248, 3) := by decide +kernel
theorem dX4_cancel_5 : decode cX4_cancel 5 = .ok (.astore_n 2, 1) := by decide +kernel
theorem dX4_cancel_6 : decode cX4_cancel 6 = .ok (.aload_n 2, 1) := by decide +kernel
theorem dX4_cancel_7 : decode cX4_cancel 7 = .ok (.getfield 252, 3) := by decide +kernel
theorem dX4_cancel_10 : decode cX4_cancel 10 = .ok (.ifCond .eq 13, 3) := by decide +kernel
theorem dX4_cancel_13 : decode cX4_cancel 13 = .ok (.new 53, 3) := by decide +kernel
theorem dX4_cancel_16 : decode cX4_cancel 16 = .ok (.dup, 1) := by decide +kernel
theorem dX4_cancel_17 : decode cX4_cancel 17 = .ok (.ldc 253, 2) := by decide +kernel
theorem dX4_cancel_19 : decode cX4_cancel 19 = .ok (.invokespecial 57, 3) := by decide +kernel
theorem dX4_cancel_22 : decode cX4_cancel 22 = .ok (.athrow, 1) := by decide +kernel
theorem dX4_cancel_23 : decode cX4_cancel 23 = .ok (.aload_n 2, 1) := by decide +kernel
theorem dX4_cancel_24 : decode cX4_cancel 24 = .ok (.iconst 2, 1) := by decide +kernel
theorem dX4_cancel_25 : decode cX4_cancel 25 = .ok (.putfield 252, 3) := by decide +kernel
theorem dX4_cancel_28 : decode cX4_cancel 28 = .ok (.return_, 1) := by decide +kernel
set_option maxRecDepth 20000 in
theorem ggX4_offer_X4_roomNumbered : GoodIn wsX4_offer wsX4_roomNumbered := goodIn_ca (goodIn_r _ [12, 13, 14, 15, 16, 37, 38, 39, 40, 41, 42, 43, 44, 45, 46] (by decide +kernel) (by decide +kernel)) (goodIn_sub (fun _ h => List.mem_cons_of_mem _ (List.mem_append_right _ h)) (by decide +kernel))
set_option maxRecDepth 20000 in
theorem gX4_offer_X4_roomNumbered : GoodIn wsX4_offer (wsV RX4 61 RX4 yX4_roomNumbered wsX4_roomNumbered) := goodIn_app (goodIn_of _ (by decide +kernel)) ggX4_offer_X4_roomNumbered
set_option maxRecDepth 20000 in
theorem ggX4_offer_X4_firstFree : GoodIn wsX4_offer wsX4_firstFree := goodIn_r _ [20, 21, 22, 23, 24, 25, 11, 26, 27, 28, 29, 30, 31, 6, 32, 33, 34, 35, 36, 37, 38, 39, 40, 41, 42, 43, 44, 45, 46, 47, 48, 49, 50, 51, 52, 53, 54, 55, 56, 57, 58, 59, 60, 61, 62, 63] (by decide +kernel) (by decide +kernel)
set_option maxRecDepth 20000 in
theorem gX4_offer_X4_firstFree : GoodIn wsX4_offer (wsV RX4 262 RX4 yX4_firstFree wsX4_firstFree) := goodIn_app (goodIn_of _ (by decide +kernel)) ggX4_offer_X4_firstFree
theorem dX4_offer_0 : decode cX4_offer 0 = .ok (.aload_n 0, 1) := by decide +kernel
theorem dX4_offer_1 : decode cX4_offer 1 = .ok (.iload_n 1, 1) := by decide +kernel
theorem dX4_offer_2 : decode cX4_offer 2 = .ok (.invokevirtual 61, 3) := by decide +kernel
theorem dX4_offer_5 : decode cX4_offer 5 = .ok (.astore_n 3, 1) := by decide +kernel
theorem dX4_offer_6 : decode cX4_offer 6 = .ok (.iload_n 2, 1) := by decide +kernel
theorem dX4_offer_7 : decode cX4_offer 7 = .ok (.ifCond .lt 10, 3) := by decide +kernel
theorem dX4_offer_10 : decode cX4_offer 10 = .ok (.iload_n 2, 1) := by decide +kernel
theorem dX4_offer_11 : decode cX4_offer 11 = .ok (.sipush 4940, 3) := by decide +kernel
theorem dX4_offer_14 : decode cX4_offer 14 = .ok (.if_icmp .le 13, 3) := by decide +kernel
theorem dX4_offer_17 : decode cX4_offer 17 = .ok (.new 42, 3) := by decide +kernel
theorem dX4_offer_20 : decode cX4_offer 20 = .ok (.dup, 1) := by decide +kernel
theorem dX4_offer_21 : decode cX4_offer 21 = .ok (.ldc 255, 2) := by decide +kernel
theorem dX4_offer_23 : decode cX4_offer 23 = .ok (.invokespecial 46, 3) := by decide +kernel
theorem dX4_offer_26 : decode cX4_offer 26 = .ok (.athrow, 1) := by decide +kernel
theorem dX4_offer_27 : decode cX4_offer 27 = .ok (.aload_n 0, 1) := by decide +kernel
theorem dX4_offer_28 : decode cX4_offer 28 = .ok (.aload_n 3, 1) := by decide +kernel
theorem dX4_offer_29 : decode cX4_offer 29 = .ok (.iload_n 2, 1) := by decide +kernel
theorem dX4_offer_30 : decode cX4_offer 30 = .ok (.aload_n 0, 1) := by decide +kernel
theorem dX4_offer_31 : decode cX4_offer 31 = .ok (.getfield 231, 3) := by decide +kernel
theorem dX4_offer_34 : decode cX4_offer 34 = .ok (.invokestatic 257, 3) := by decide +kernel
theorem dX4_offer_37 : decode cX4_offer 37 = .ok (.invokevirtual 262, 3) := by decide +kernel
theorem dX4_offer_40 : decode cX4_offer 40 = .ok (.istore 4, 2) := by decide +kernel
theorem dX4_offer_42 : decode cX4_offer 42 = .ok (.iload 4, 2) := by decide +kernel
theorem dX4_offer_44 : decode cX4_offer 44 = .ok (.sipush 4940, 3) := by decide +kernel
theorem dX4_offer_47 : decode cX4_offer 47 = .ok (.if_icmp .gt 8, 3) := by decide +kernel
theorem dX4_offer_50 : decode cX4_offer 50 = .ok (.iload 4, 2) := by decide +kernel
theorem dX4_offer_52 : decode cX4_offer 52 = .ok (.goto 4, 3) := by decide +kernel
theorem dX4_offer_55 : decode cX4_offer 55 = .ok (.iconst (-1), 1) := by decide +kernel
theorem dX4_offer_56 : decode cX4_offer 56 = .ok (.ireturn, 1) := by decide +kernel
set_option maxRecDepth 20000 in
theorem ggX4_pass_X4_passOne : GoodIn wsX4_pass wsX4_passOne := goodIn_r _ [10, 5, 11, 12, 13, 14, 15, 16, 17, 9, 18, 19, 20, 21, 22, 23, 24, 25, 26, 27, 28, 29, 30, 31, 32, 33, 34, 35, 36, 37, 38, 39, 40, 41, 42, 43, 44, 45, 46, 47, 48, 49, 50, 51, 52, 53, 54, 55, 56, 57, 58, 59, 60, 61, 62, 63, 64, 65, 66, 67, 68, 69, 70, 71, 72, 73, 74, 75, 76, 77, 78, 79, 80, 81, 82, 83, 84, 85, 86, 87, 88, 89, 90, 91, 92, 93, 94, 95, 96, 97, 98, 99, 100, 101, 102, 103, 104, 105, 106, 107, 108, 109, 110, 111, 112, 113, 114, 115, 116, 117, 118, 119, 120, 121, 122, 123, 124, 125, 126] (by decide +kernel) (by decide +kernel)
set_option maxRecDepth 20000 in
theorem gX4_pass_X4_passOne : GoodIn wsX4_pass (wsV RX4 270 RX4 yX4_passOne wsX4_passOne) := goodIn_app (goodIn_of _ (by decide +kernel)) ggX4_pass_X4_passOne
theorem dX4_pass_0 : decode cX4_pass 0 = .ok (.iload_n 1, 1) := by decide +kernel
theorem dX4_pass_1 : decode cX4_pass 1 = .ok (.iconst 1, 1) := by decide +kernel
theorem dX4_pass_2 : decode cX4_pass 2 = .ok (.if_icmp .lt 10, 3) := by decide +kernel
theorem dX4_pass_5 : decode cX4_pass 5 = .ok (.iload_n 1, 1) := by decide +kernel
theorem dX4_pass_6 : decode cX4_pass 6 = .ok (.sipush 600, 3) := by decide +kernel
theorem dX4_pass_9 : decode cX4_pass 9 = .ok (.if_icmp .le 14, 3) := by decide +kernel
theorem dX4_pass_12 : decode cX4_pass 12 = .ok (.new 42, 3) := by decide +kernel
theorem dX4_pass_15 : decode cX4_pass 15 = .ok (.dup, 1) := by decide +kernel
theorem dX4_pass_16 : decode cX4_pass 16 = .ok (.ldc_w 266, 3) := by decide +kernel
theorem dX4_pass_19 : decode cX4_pass 19 = .ok (.invokespecial 46, 3) := by decide +kernel
theorem dX4_pass_22 : decode cX4_pass 22 = .ok (.athrow, 1) := by decide +kernel
theorem dX4_pass_23 : decode cX4_pass 23 = .ok (.aload_n 0, 1) := by decide +kernel
theorem dX4_pass_24 : decode cX4_pass 24 = .ok (.getfield 231, 3) := by decide +kernel
theorem dX4_pass_27 : decode cX4_pass 27 = .ok (.iload_n 1, 1) := by decide +kernel
theorem dX4_pass_28 : decode cX4_pass 28 = .ok (.iadd, 1) := by decide +kernel
theorem dX4_pass_29 : decode cX4_pass 29 = .ok (.sipush 5000, 3) := by decide +kernel
theorem dX4_pass_32 : decode cX4_pass 32 = .ok (.if_icmp .le 14, 3) := by decide +kernel
theorem dX4_pass_35 : decode cX4_pass 35 = .ok (.new 53, 3) := by decide +kernel
theorem dX4_pass_38 : decode cX4_pass 38 = .ok (.dup, 1) := by decide +kernel
theorem dX4_pass_39 : decode cX4_pass 39 = .ok (.ldc_w 268, 3) := by decide +kernel
theorem dX4_pass_42 : decode cX4_pass 42 = .ok (.invokespecial 57, 3) := by decide +kernel
theorem dX4_pass_45 : decode cX4_pass 45 = .ok (.athrow, 1) := by decide +kernel
theorem dX4_pass_46 : decode cX4_pass 46 = .ok (.iconst 0, 1) := by decide +kernel
theorem dX4_pass_47 : decode cX4_pass 47 = .ok (.istore_n 2, 1) := by decide +kernel
theorem dX4_pass_48 : decode cX4_pass 48 = .ok (.iload_n 2, 1) := by decide +kernel
theorem dX4_pass_49 : decode cX4_pass 49 = .ok (.iload_n 1, 1) := by decide +kernel
theorem dX4_pass_50 : decode cX4_pass 50 = .ok (.if_icmp .ge 13, 3) := by decide +kernel
theorem dX4_pass_53 : decode cX4_pass 53 = .ok (.aload_n 0, 1) := by decide +kernel
theorem dX4_pass_54 : decode cX4_pass 54 = .ok (.invokevirtual 270, 3) := by decide +kernel
theorem dX4_pass_57 : decode cX4_pass 57 = .ok (.iinc 2 1, 3) := by decide +kernel
theorem dX4_pass_60 : decode cX4_pass 60 = .ok (.goto (-12), 3) := by decide +kernel
theorem dX4_pass_63 : decode cX4_pass 63 = .ok (.aload_n 0, 1) := by decide +kernel
theorem dX4_pass_64 : decode cX4_pass 64 = .ok (.getfield 231, 3) := by decide +kernel
theorem dX4_pass_67 : decode cX4_pass 67 = .ok (.ireturn, 1) := by decide +kernel
theorem dX4_minute_0 : decode cX4_minute 0 = .ok (.aload_n 0, 1) := by decide +kernel
theorem dX4_minute_1 : decode cX4_minute 1 = .ok (.getfield 231, 3) := by decide +kernel
theorem dX4_minute_4 : decode cX4_minute 4 = .ok (.ireturn, 1) := by decide +kernel
set_option maxRecDepth 20000 in
theorem ggX4_state_X4_roomNumbered : GoodIn wsX4_state wsX4_roomNumbered := goodIn_ca (goodIn_r _ [13, 14, 15, 16, 17, 40, 41, 42, 43, 44, 45, 46, 47, 48, 49] (by decide +kernel) (by decide +kernel)) (goodIn_sub (fun _ h => List.mem_cons_of_mem _ (List.mem_append_right _ h)) (by decide +kernel))
set_option maxRecDepth 20000 in
theorem gX4_state_X4_roomNumbered : GoodIn wsX4_state (wsV RX4 61 RX4 yX4_roomNumbered wsX4_roomNumbered) := goodIn_app (goodIn_of _ (by decide +kernel)) ggX4_state_X4_roomNumbered
theorem dX4_state_0 : decode cX4_state 0 = .ok (.aload_n 0, 1) := by decide +kernel
theorem dX4_state_1 : decode cX4_state 1 = .ok (.iload_n 1, 1) := by decide +kernel
theorem dX4_state_2 : decode cX4_state 2 = .ok (.invokevirtual 61, 3) := by decide +kernel
theorem dX4_state_5 : decode cX4_state 5 = .ok (.astore_n 3, 1) := by decide +kernel
theorem dX4_state_6 : decode cX4_state 6 = .ok (.iload_n 2, 1) := by decide +kernel
theorem dX4_state_7 : decode cX4_state 7 = .ok (.tableswitch 72 0 4 #[33, 38, 43, 48, 67], 33) := by decide +kernel
theorem dX4_state_40 : decode cX4_state 40 = .ok (.aload_n 3, 1) := by decide +kernel
theorem dX4_state_41 : decode cX4_state 41 = .ok (.getfield 77, 3) := by decide +kernel
theorem dX4_state_44 : decode cX4_state 44 = .ok (.ireturn, 1) := by decide +kernel
theorem dX4_state_45 : decode cX4_state 45 = .ok (.aload_n 3, 1) := by decide +kernel
theorem dX4_state_46 : decode cX4_state 46 = .ok (.getfield 228, 3) := by decide +kernel
theorem dX4_state_49 : decode cX4_state 49 = .ok (.ireturn, 1) := by decide +kernel
theorem dX4_state_50 : decode cX4_state 50 = .ok (.aload_n 3, 1) := by decide +kernel
theorem dX4_state_51 : decode cX4_state 51 = .ok (.getfield 212, 3) := by decide +kernel
theorem dX4_state_54 : decode cX4_state 54 = .ok (.ireturn, 1) := by decide +kernel
theorem dX4_state_55 : decode cX4_state 55 = .ok (.aload_n 3, 1) := by decide +kernel
theorem dX4_state_56 : decode cX4_state 56 = .ok (.getfield 273, 3) := by decide +kernel
theorem dX4_state_59 : decode cX4_state 59 = .ok (.ifnonnull 7, 3) := by decide +kernel
theorem dX4_state_62 : decode cX4_state 62 = .ok (.iconst (-1), 1) := by decide +kernel
theorem dX4_state_63 : decode cX4_state 63 = .ok (.goto 10, 3) := by decide +kernel
theorem dX4_state_66 : decode cX4_state 66 = .ok (.aload_n 3, 1) := by decide +kernel
theorem dX4_state_67 : decode cX4_state 67 = .ok (.getfield 273, 3) := by decide +kernel
theorem dX4_state_70 : decode cX4_state 70 = .ok (.getfield 277, 3) := by decide +kernel
theorem dX4_state_73 : decode cX4_state 73 = .ok (.ireturn, 1) := by decide +kernel
theorem dX4_state_74 : decode cX4_state 74 = .ok (.aload_n 3, 1) := by decide +kernel
theorem dX4_state_75 : decode cX4_state 75 = .ok (.getfield 280, 3) := by decide +kernel
theorem dX4_state_78 : decode cX4_state 78 = .ok (.ireturn, 1) := by decide +kernel
theorem dX4_state_79 : decode cX4_state 79 = .ok (.new 42, 3) := by decide +kernel
theorem dX4_state_82 : decode cX4_state 82 = .ok (.dup, 1) := by decide +kernel
theorem dX4_state_83 : decode cX4_state 83 = .ok (.ldc_w 283, 3) := by decide +kernel
theorem dX4_state_86 : decode cX4_state 86 = .ok (.invokespecial 46, 3) := by decide +kernel
theorem dX4_state_89 : decode cX4_state 89 = .ok (.athrow, 1) := by decide +kernel
set_option maxRecDepth 20000 in
theorem ggX4_group_X4_groupNumbered : GoodIn wsX4_group wsX4_groupNumbered := goodIn_ca (goodIn_r _ [14, 15, 16, 17, 18, 48, 49, 50, 51, 52, 53, 54, 55, 56, 57] (by decide +kernel) (by decide +kernel)) (goodIn_sub (fun _ h => List.mem_cons_of_mem _ (List.mem_append_right _ h)) (by decide +kernel))
set_option maxRecDepth 20000 in
theorem gX4_group_X4_groupNumbered : GoodIn wsX4_group (wsV RX4 151 RX4 yX4_groupNumbered wsX4_groupNumbered) := goodIn_app (goodIn_of _ (by decide +kernel)) ggX4_group_X4_groupNumbered
set_option maxRecDepth 20000 in
theorem ggX4_group_X1_minutesLeft : GoodIn wsX4_group wsX1_minutesLeft := goodIn_r _ [23, 24, 25, 26, 27, 28, 29, 30, 31, 32, 33, 34] (by decide +kernel) (by decide +kernel)
set_option maxRecDepth 20000 in
theorem gX4_group_X1_minutesLeft : GoodIn wsX4_group (wsV RX4 286 RX1 yX1_minutesLeft wsX1_minutesLeft) := goodIn_app (goodIn_of _ (by decide +kernel)) ggX4_group_X1_minutesLeft
theorem dX4_group_0 : decode cX4_group 0 = .ok (.aload_n 0, 1) := by decide +kernel
theorem dX4_group_1 : decode cX4_group 1 = .ok (.iload_n 1, 1) := by decide +kernel
theorem dX4_group_2 : decode cX4_group 2 = .ok (.invokevirtual 151, 3) := by decide +kernel
theorem dX4_group_5 : decode cX4_group 5 = .ok (.astore_n 3, 1) := by decide +kernel
theorem dX4_group_6 : decode cX4_group 6 = .ok (.iload_n 2, 1) := by decide +kernel
theorem dX4_group_7 : decode cX4_group 7 = .ok (.tableswitch 85 0 5 #[37, 42, 50, 55, 60, 80], 37) := by decide +kernel
theorem dX4_group_44 : decode cX4_group 44 = .ok (.aload_n 3, 1) := by decide +kernel
theorem dX4_group_45 : decode cX4_group 45 = .ok (.getfield 161, 3) := by decide +kernel
theorem dX4_group_48 : decode cX4_group 48 = .ok (.ireturn, 1) := by decide +kernel
theorem dX4_group_49 : decode cX4_group 49 = .ok (.aload_n 3, 1) := by decide +kernel
theorem dX4_group_50 : decode cX4_group 50 = .ok (.getfield 155, 3) := by decide +kernel
theorem dX4_group_53 : decode cX4_group 53 = .ok (.getfield 285, 3) := by decide +kernel
theorem dX4_group_56 : decode cX4_group 56 = .ok (.ireturn, 1) := by decide +kernel
theorem dX4_group_57 : decode cX4_group 57 = .ok (.aload_n 3, 1) := by decide +kernel
theorem dX4_group_58 : decode cX4_group 58 = .ok (.getfield 166, 3) := by decide +kernel
theorem dX4_group_61 : decode cX4_group 61 = .ok (.ireturn, 1) := by decide +kernel
theorem dX4_group_62 : decode cX4_group 62 = .ok (.aload_n 3, 1) := by decide +kernel
theorem dX4_group_63 : decode cX4_group 63 = .ok (.getfield 174, 3) := by decide +kernel
theorem dX4_group_66 : decode cX4_group 66 = .ok (.ireturn, 1) := by decide +kernel
theorem dX4_group_67 : decode cX4_group 67 = .ok (.aload_n 3, 1) := by decide +kernel
theorem dX4_group_68 : decode cX4_group 68 = .ok (.getfield 161, 3) := by decide +kernel
theorem dX4_group_71 : decode cX4_group 71 = .ok (.ifCond .ne 14, 3) := by decide +kernel
theorem dX4_group_74 : decode cX4_group 74 = .ok (.aload_n 3, 1) := by decide +kernel
theorem dX4_group_75 : decode cX4_group 75 = .ok (.aload_n 0, 1) := by decide +kernel
theorem dX4_group_76 : decode cX4_group 76 = .ok (.getfield 231, 3) := by decide +kernel
theorem dX4_group_79 : decode cX4_group 79 = .ok (.invokevirtual 286, 3) := by decide +kernel
theorem dX4_group_82 : decode cX4_group 82 = .ok (.goto 4, 3) := by decide +kernel
theorem dX4_group_85 : decode cX4_group 85 = .ok (.iconst 0, 1) := by decide +kernel
theorem dX4_group_86 : decode cX4_group 86 = .ok (.ireturn, 1) := by decide +kernel
theorem dX4_group_87 : decode cX4_group 87 = .ok (.aload_n 3, 1) := by decide +kernel
theorem dX4_group_88 : decode cX4_group 88 = .ok (.getfield 289, 3) := by decide +kernel
theorem dX4_group_91 : decode cX4_group 91 = .ok (.ireturn, 1) := by decide +kernel
theorem dX4_group_92 : decode cX4_group 92 = .ok (.new 42, 3) := by decide +kernel
theorem dX4_group_95 : decode cX4_group 95 = .ok (.dup, 1) := by decide +kernel
theorem dX4_group_96 : decode cX4_group 96 = .ok (.ldc_w 292, 3) := by decide +kernel
theorem dX4_group_99 : decode cX4_group 99 = .ok (.invokespecial 46, 3) := by decide +kernel
theorem dX4_group_102 : decode cX4_group 102 = .ok (.athrow, 1) := by decide +kernel
set_option maxRecDepth 20000 in
theorem ggX4_crew_X4_workerNumbered : GoodIn wsX4_crew wsX4_workerNumbered := goodIn_ca (goodIn_r _ [11, 12, 13, 14, 31, 32, 33, 34, 35, 36, 37, 38, 39, 40] (by decide +kernel) (by decide +kernel)) (goodIn_sub (fun _ h => List.mem_cons_of_mem _ (List.mem_append_right _ h)) (by decide +kernel))
set_option maxRecDepth 20000 in
theorem gX4_crew_X4_workerNumbered : GoodIn wsX4_crew (wsV RX4 205 RX4 yX4_workerNumbered wsX4_workerNumbered) := goodIn_app (goodIn_of _ (by decide +kernel)) ggX4_crew_X4_workerNumbered
theorem dX4_crew_0 : decode cX4_crew 0 = .ok (.aload_n 0, 1) := by decide +kernel
theorem dX4_crew_1 : decode cX4_crew 1 = .ok (.iload_n 1, 1) := by decide +kernel
theorem dX4_crew_2 : decode cX4_crew 2 = .ok (.invokevirtual 205, 3) := by decide +kernel
theorem dX4_crew_5 : decode cX4_crew 5 = .ok (.astore_n 3, 1) := by decide +kernel
theorem dX4_crew_6 : decode cX4_crew 6 = .ok (.iload_n 2, 1) := by decide +kernel
theorem dX4_crew_7 : decode cX4_crew 7 = .ok (.tableswitch 54 0 2 #[25, 44, 49], 25) := by decide +kernel
theorem dX4_crew_32 : decode cX4_crew 32 = .ok (.aload_n 3, 1) := by decide +kernel
theorem dX4_crew_33 : decode cX4_crew 33 = .ok (.getfield 209, 3) := by decide +kernel
theorem dX4_crew_36 : decode cX4_crew 36 = .ok (.ifnonnull 7, 3) := by decide +kernel
theorem dX4_crew_39 : decode cX4_crew 39 = .ok (.iconst (-1), 1) := by decide +kernel
theorem dX4_crew_40 : decode cX4_crew 40 = .ok (.goto 10, 3) := by decide +kernel
theorem dX4_crew_43 : decode cX4_crew 43 = .ok (.aload_n 3, 1) := by decide +kernel
theorem dX4_crew_44 : decode cX4_crew 44 = .ok (.getfield 209, 3) := by decide +kernel
theorem dX4_crew_47 : decode cX4_crew 47 = .ok (.getfield 285, 3) := by decide +kernel
theorem dX4_crew_50 : decode cX4_crew 50 = .ok (.ireturn, 1) := by decide +kernel
theorem dX4_crew_51 : decode cX4_crew 51 = .ok (.aload_n 3, 1) := by decide +kernel
theorem dX4_crew_52 : decode cX4_crew 52 = .ok (.getfield 223, 3) := by decide +kernel
theorem dX4_crew_55 : decode cX4_crew 55 = .ok (.ireturn, 1) := by decide +kernel
theorem dX4_crew_56 : decode cX4_crew 56 = .ok (.aload_n 3, 1) := by decide +kernel
theorem dX4_crew_57 : decode cX4_crew 57 = .ok (.getfield 294, 3) := by decide +kernel
theorem dX4_crew_60 : decode cX4_crew 60 = .ok (.ireturn, 1) := by decide +kernel
theorem dX4_crew_61 : decode cX4_crew 61 = .ok (.new 42, 3) := by decide +kernel
theorem dX4_crew_64 : decode cX4_crew 64 = .ok (.dup, 1) := by decide +kernel
theorem dX4_crew_65 : decode cX4_crew 65 = .ok (.ldc_w 296, 3) := by decide +kernel
theorem dX4_crew_68 : decode cX4_crew 68 = .ok (.invokespecial 46, 3) := by decide +kernel
theorem dX4_crew_71 : decode cX4_crew 71 = .ok (.athrow, 1) := by decide +kernel
set_option maxRecDepth 20000 in
theorem ggX4_booking_X4_bookingNumbered : GoodIn wsX4_booking wsX4_bookingNumbered := goodIn_ca (goodIn_r _ [12, 13, 14, 15, 16, 34, 35, 36, 37, 38, 39, 40, 41, 42, 43] (by decide +kernel) (by decide +kernel)) (goodIn_sub (fun _ h => List.mem_cons_of_mem _ (List.mem_append_right _ h)) (by decide +kernel))
set_option maxRecDepth 20000 in
theorem gX4_booking_X4_bookingNumbered : GoodIn wsX4_booking (wsV RX4 248 RX4 yX4_bookingNumbered wsX4_bookingNumbered) := goodIn_app (goodIn_of _ (by decide +kernel)) ggX4_booking_X4_bookingNumbered
theorem dX4_booking_0 : decode cX4_booking 0 = .ok (.aload_n 0, 1) := by decide +kernel
theorem dX4_booking_1 : decode cX4_booking 1 = .ok (.iload_n 1, 1) := by decide +kernel
theorem dX4_booking_2 : decode cX4_booking 2 = .ok (.invokevirtual 248, 3) := by decide +kernel
theorem dX4_booking_5 : decode cX4_booking 5 = .ok (.astore_n 3, 1) := by decide +kernel
theorem dX4_booking_6 : decode cX4_booking 6 = .ok (.iload_n 2, 1) := by decide +kernel
theorem dX4_booking_7 : decode cX4_booking 7 = .ok (.tableswitch 52 0 3 #[29, 37, 42, 47], 29) := by decide +kernel
theorem dX4_booking_36 : decode cX4_booking 36 = .ok (.aload_n 3, 1) := by decide +kernel
theorem dX4_booking_37 : decode cX4_booking 37 = .ok (.getfield 298, 3) := by decide +kernel
theorem dX4_booking_40 : decode cX4_booking 40 = .ok (.getfield 285, 3) := by decide +kernel
theorem dX4_booking_43 : decode cX4_booking 43 = .ok (.ireturn, 1) := by decide +kernel
theorem dX4_booking_44 : decode cX4_booking 44 = .ok (.aload_n 3, 1) := by decide +kernel
theorem dX4_booking_45 : decode cX4_booking 45 = .ok (.getfield 299, 3) := by decide +kernel
theorem dX4_booking_48 : decode cX4_booking 48 = .ok (.ireturn, 1) := by decide +kernel
theorem dX4_booking_49 : decode cX4_booking 49 = .ok (.aload_n 3, 1) := by decide +kernel
theorem dX4_booking_50 : decode cX4_booking 50 = .ok (.getfield 252, 3) := by decide +kernel
theorem dX4_booking_53 : decode cX4_booking 53 = .ok (.ireturn, 1) := by decide +kernel
theorem dX4_booking_54 : decode cX4_booking 54 = .ok (.aload_n 3, 1) := by decide +kernel
theorem dX4_booking_55 : decode cX4_booking 55 = .ok (.getfield 302, 3) := by decide +kernel
theorem dX4_booking_58 : decode cX4_booking 58 = .ok (.ireturn, 1) := by decide +kernel
theorem dX4_booking_59 : decode cX4_booking 59 = .ok (.new 42, 3) := by decide +kernel
theorem dX4_booking_62 : decode cX4_booking 62 = .ok (.dup, 1) := by decide +kernel
theorem dX4_booking_63 : decode cX4_booking 63 = .ok (.ldc_w 305, 3) := by decide +kernel
theorem dX4_booking_66 : decode cX4_booking 66 = .ok (.invokespecial 46, 3) := by decide +kernel
theorem dX4_booking_69 : decode cX4_booking 69 = .ok (.athrow, 1) := by decide +kernel
theorem dX4_roomNumbered_0 : decode cX4_roomNumbered 0 = .ok (.iload_n 1, 1) := by decide +kernel
theorem dX4_roomNumbered_1 : decode cX4_roomNumbered 1 = .ok (.ifCond .lt 11, 3) := by decide +kernel
theorem dX4_roomNumbered_4 : decode cX4_roomNumbered 4 = .ok (.iload_n 1, 1) := by decide +kernel
theorem dX4_roomNumbered_5 : decode cX4_roomNumbered 5 = .ok (.aload_n 0, 1) := by decide +kernel
theorem dX4_roomNumbered_6 : decode cX4_roomNumbered 6 = .ok (.getfield 49, 3) := by decide +kernel
theorem dX4_roomNumbered_9 : decode cX4_roomNumbered 9 = .ok (.if_icmp .lt 14, 3) := by decide +kernel
theorem dX4_roomNumbered_12 : decode cX4_roomNumbered 12 = .ok (.new 68, 3) := by decide +kernel
theorem dX4_roomNumbered_15 : decode cX4_roomNumbered 15 = .ok (.dup, 1) := by decide +kernel
theorem dX4_roomNumbered_16 : decode cX4_roomNumbered 16 = .ok (.ldc_w 307, 3) := by decide +kernel
theorem dX4_roomNumbered_19 : decode cX4_roomNumbered 19 = .ok (.invokespecial 72, 3) := by decide +kernel
theorem dX4_roomNumbered_22 : decode cX4_roomNumbered 22 = .ok (.athrow, 1) := by decide +kernel
theorem dX4_roomNumbered_23 : decode cX4_roomNumbered 23 = .ok (.aload_n 0, 1) := by decide +kernel
theorem dX4_roomNumbered_24 : decode cX4_roomNumbered 24 = .ok (.getfield 11, 3) := by decide +kernel
theorem dX4_roomNumbered_27 : decode cX4_roomNumbered 27 = .ok (.iload_n 1, 1) := by decide +kernel
theorem dX4_roomNumbered_28 : decode cX4_roomNumbered 28 = .ok (.aaload, 1) := by decide +kernel
theorem dX4_roomNumbered_29 : decode cX4_roomNumbered 29 = .ok (.areturn, 1) := by decide +kernel
theorem dX4_groupNumbered_0 : decode cX4_groupNumbered 0 = .ok (.iload_n 1, 1) := by decide +kernel
theorem dX4_groupNumbered_1 : decode cX4_groupNumbered 1 = .ok (.ifCond .lt 11, 3) := by decide +kernel
theorem dX4_groupNumbered_4 : decode cX4_groupNumbered 4 = .ok (.iload_n 1, 1) := by decide +kernel
theorem dX4_groupNumbered_5 : decode cX4_groupNumbered 5 = .ok (.aload_n 0, 1) := by decide +kernel
theorem dX4_groupNumbered_6 : decode cX4_groupNumbered 6 = .ok (.getfield 142, 3) := by decide +kernel
theorem dX4_groupNumbered_9 : decode cX4_groupNumbered 9 = .ok (.if_icmp .lt 14, 3) := by decide +kernel
theorem dX4_groupNumbered_12 : decode cX4_groupNumbered 12 = .ok (.new 68, 3) := by decide +kernel
theorem dX4_groupNumbered_15 : decode cX4_groupNumbered 15 = .ok (.dup, 1) := by decide +kernel
theorem dX4_groupNumbered_16 : decode cX4_groupNumbered 16 = .ok (.ldc_w 309, 3) := by decide +kernel
theorem dX4_groupNumbered_19 : decode cX4_groupNumbered 19 = .ok (.invokespecial 72, 3) := by decide +kernel
theorem dX4_groupNumbered_22 : decode cX4_groupNumbered 22 = .ok (.athrow, 1) := by decide +kernel
theorem dX4_groupNumbered_23 : decode cX4_groupNumbered 23 = .ok (.aload_n 0, 1) := by decide +kernel
theorem dX4_groupNumbered_24 : decode cX4_groupNumbered 24 = .ok (.getfield 17, 3) := by decide +kernel
theorem dX4_groupNumbered_27 : decode cX4_groupNumbered 27 = .ok (.iload_n 1, 1) := by decide +kernel
theorem dX4_groupNumbered_28 : decode cX4_groupNumbered 28 = .ok (.aaload, 1) := by decide +kernel
theorem dX4_groupNumbered_29 : decode cX4_groupNumbered 29 = .ok (.areturn, 1) := by decide +kernel
theorem dX4_workerNumbered_0 : decode cX4_workerNumbered 0 = .ok (.iload_n 1, 1) := by decide +kernel
theorem dX4_workerNumbered_1 : decode cX4_workerNumbered 1 = .ok (.ifCond .lt 8, 3) := by decide +kernel
theorem dX4_workerNumbered_4 : decode cX4_workerNumbered 4 = .ok (.iload_n 1, 1) := by decide +kernel
theorem dX4_workerNumbered_5 : decode cX4_workerNumbered 5 = .ok (.iconst 3, 1) := by decide +kernel
theorem dX4_workerNumbered_6 : decode cX4_workerNumbered 6 = .ok (.if_icmp .lt 14, 3) := by decide +kernel
theorem dX4_workerNumbered_9 : decode cX4_workerNumbered 9 = .ok (.new 68, 3) := by decide +kernel
theorem dX4_workerNumbered_12 : decode cX4_workerNumbered 12 = .ok (.dup, 1) := by decide +kernel
theorem dX4_workerNumbered_13 : decode cX4_workerNumbered 13 = .ok (.ldc_w 311, 3) := by decide +kernel
theorem dX4_workerNumbered_16 : decode cX4_workerNumbered 16 = .ok (.invokespecial 72, 3) := by decide +kernel
theorem dX4_workerNumbered_19 : decode cX4_workerNumbered 19 = .ok (.athrow, 1) := by decide +kernel
theorem dX4_workerNumbered_20 : decode cX4_workerNumbered 20 = .ok (.aload_n 0, 1) := by decide +kernel
theorem dX4_workerNumbered_21 : decode cX4_workerNumbered 21 = .ok (.getfield 29, 3) := by decide +kernel
theorem dX4_workerNumbered_24 : decode cX4_workerNumbered 24 = .ok (.iload_n 1, 1) := by decide +kernel
theorem dX4_workerNumbered_25 : decode cX4_workerNumbered 25 = .ok (.aaload, 1) := by decide +kernel
theorem dX4_workerNumbered_26 : decode cX4_workerNumbered 26 = .ok (.areturn, 1) := by decide +kernel
theorem dX4_bookingNumbered_0 : decode cX4_bookingNumbered 0 = .ok (.iload_n 1, 1) := by decide +kernel
theorem dX4_bookingNumbered_1 : decode cX4_bookingNumbered 1 = .ok (.ifCond .lt 11, 3) := by decide +kernel
theorem dX4_bookingNumbered_4 : decode cX4_bookingNumbered 4 = .ok (.iload_n 1, 1) := by decide +kernel
theorem dX4_bookingNumbered_5 : decode cX4_bookingNumbered 5 = .ok (.aload_n 0, 1) := by decide +kernel
theorem dX4_bookingNumbered_6 : decode cX4_bookingNumbered 6 = .ok (.getfield 240, 3) := by decide +kernel
theorem dX4_bookingNumbered_9 : decode cX4_bookingNumbered 9 = .ok (.if_icmp .lt 14, 3) := by decide +kernel
theorem dX4_bookingNumbered_12 : decode cX4_bookingNumbered 12 = .ok (.new 68, 3) := by decide +kernel
theorem dX4_bookingNumbered_15 : decode cX4_bookingNumbered 15 = .ok (.dup, 1) := by decide +kernel
theorem dX4_bookingNumbered_16 : decode cX4_bookingNumbered 16 = .ok (.ldc_w 313, 3) := by decide +kernel
theorem dX4_bookingNumbered_19 : decode cX4_bookingNumbered 19 = .ok (.invokespecial 72, 3) := by decide +kernel
theorem dX4_bookingNumbered_22 : decode cX4_bookingNumbered 22 = .ok (.athrow, 1) := by decide +kernel
theorem dX4_bookingNumbered_23 : decode cX4_bookingNumbered 23 = .ok (.aload_n 0, 1) := by decide +kernel
theorem dX4_bookingNumbered_24 : decode cX4_bookingNumbered 24 = .ok (.getfield 23, 3) := by decide +kernel
theorem dX4_bookingNumbered_27 : decode cX4_bookingNumbered 27 = .ok (.iload_n 1, 1) := by decide +kernel
theorem dX4_bookingNumbered_28 : decode cX4_bookingNumbered 28 = .ok (.aaload, 1) := by decide +kernel
theorem dX4_bookingNumbered_29 : decode cX4_bookingNumbered 29 = .ok (.areturn, 1) := by decide +kernel
theorem dX4_has_0 : decode cX4_has 0 = .ok (.iload_n 0, 1) := by decide +kernel
theorem dX4_has_1 : decode cX4_has 1 = .ok (.iconst 1, 1) := by decide +kernel
theorem dX4_has_2 : decode cX4_has 2 = .ok (.iload_n 1, 1) := by decide +kernel
theorem dX4_has_3 : decode cX4_has 3 = .ok (.ishl, 1) := by decide +kernel
theorem dX4_has_4 : decode cX4_has 4 = .ok (.iand, 1) := by decide +kernel
theorem dX4_has_5 : decode cX4_has 5 = .ok (.ifCond .eq 7, 3) := by decide +kernel
theorem dX4_has_8 : decode cX4_has 8 = .ok (.iconst 1, 1) := by decide +kernel
theorem dX4_has_9 : decode cX4_has 9 = .ok (.goto 4, 3) := by decide +kernel
theorem dX4_has_12 : decode cX4_has 12 = .ok (.iconst 0, 1) := by decide +kernel
theorem dX4_has_13 : decode cX4_has 13 = .ok (.ireturn, 1) := by decide +kernel
theorem dX4_with_0 : decode cX4_with 0 = .ok (.iload_n 0, 1) := by decide +kernel
theorem dX4_with_1 : decode cX4_with 1 = .ok (.iconst 1, 1) := by decide +kernel
theorem dX4_with_2 : decode cX4_with 2 = .ok (.iload_n 1, 1) := by decide +kernel
theorem dX4_with_3 : decode cX4_with 3 = .ok (.ishl, 1) := by decide +kernel
theorem dX4_with_4 : decode cX4_with 4 = .ok (.ior, 1) := by decide +kernel
theorem dX4_with_5 : decode cX4_with 5 = .ok (.ireturn, 1) := by decide +kernel
theorem dX4_without_0 : decode cX4_without 0 = .ok (.iload_n 0, 1) := by decide +kernel
theorem dX4_without_1 : decode cX4_without 1 = .ok (.iconst 1, 1) := by decide +kernel
theorem dX4_without_2 : decode cX4_without 2 = .ok (.iload_n 1, 1) := by decide +kernel
theorem dX4_without_3 : decode cX4_without 3 = .ok (.ishl, 1) := by decide +kernel
theorem dX4_without_4 : decode cX4_without 4 = .ok (.iconst (-1), 1) := by decide +kernel
theorem dX4_without_5 : decode cX4_without 5 = .ok (.ixor, 1) := by decide +kernel
theorem dX4_without_6 : decode cX4_without 6 = .ok (.iand, 1) := by decide +kernel
theorem dX4_without_7 : decode cX4_without 7 = .ok (.ireturn, 1) := by decide +kernel
theorem dX4_isWithin_0 : decode cX4_isWithin 0 = .ok (.iload_n 0, 1) := by decide +kernel
theorem dX4_isWithin_1 : decode cX4_isWithin 1 = .ok (.iload_n 1, 1) := by decide +kernel
theorem dX4_isWithin_2 : decode cX4_isWithin 2 = .ok (.iconst (-1), 1) := by decide +kernel
theorem dX4_isWithin_3 : decode cX4_isWithin 3 = .ok (.ixor, 1) := by decide +kernel
theorem dX4_isWithin_4 : decode cX4_isWithin 4 = .ok (.iand, 1) := by decide +kernel
theorem dX4_isWithin_5 : decode cX4_isWithin 5 = .ok (.ifCond .ne 7, 3) := by decide +kernel
theorem dX4_isWithin_8 : decode cX4_isWithin 8 = .ok (.iconst 1, 1) := by decide +kernel
theorem dX4_isWithin_9 : decode cX4_isWithin 9 = .ok (.goto 4, 3) := by decide +kernel
theorem dX4_isWithin_12 : decode cX4_isWithin 12 = .ok (.iconst 0, 1) := by decide +kernel
theorem dX4_isWithin_13 : decode cX4_isWithin 13 = .ok (.ireturn, 1) := by decide +kernel
theorem dX4_areThings_0 : decode cX4_areThings 0 = .ok (.iload_n 0, 1) := by decide +kernel
theorem dX4_areThings_1 : decode cX4_areThings 1 = .ok (.ifCond .lt 14, 3) := by decide +kernel
theorem dX4_areThings_4 : decode cX4_areThings 4 = .ok (.iload_n 0, 1) := by decide +kernel
theorem dX4_areThings_5 : decode cX4_areThings 5 = .ok (.sipush 4095, 3) := by decide +kernel
theorem dX4_areThings_8 : decode cX4_areThings 8 = .ok (.if_icmp .gt 7, 3) := by decide +kernel
theorem dX4_areThings_11 : decode cX4_areThings 11 = .ok (.iconst 1, 1) := by decide +kernel
theorem dX4_areThings_12 : decode cX4_areThings 12 = .ok (.goto 4, 3) := by decide +kernel
theorem dX4_areThings_15 : decode cX4_areThings 15 = .ok (.iconst 0, 1) := by decide +kernel
theorem dX4_areThings_16 : decode cX4_areThings 16 = .ok (.ireturn, 1) := by decide +kernel
theorem dX4_isProp_0 : decode cX4_isProp 0 = .ok (.iload_n 0, 1) := by decide +kernel
theorem dX4_isProp_1 : decode cX4_isProp 1 = .ok (.ifCond .lt 13, 3) := by decide +kernel
theorem dX4_isProp_4 : decode cX4_isProp 4 = .ok (.iload_n 0, 1) := by decide +kernel
theorem dX4_isProp_5 : decode cX4_isProp 5 = .ok (.bipush 8, 2) := by decide +kernel
theorem dX4_isProp_7 : decode cX4_isProp 7 = .ok (.if_icmp .ge 7, 3) := by decide +kernel
theorem dX4_isProp_10 : decode cX4_isProp 10 = .ok (.iconst 1, 1) := by decide +kernel
theorem dX4_isProp_11 : decode cX4_isProp 11 = .ok (.goto 4, 3) := by decide +kernel
theorem dX4_isProp_14 : decode cX4_isProp 14 = .ok (.iconst 0, 1) := by decide +kernel
theorem dX4_isProp_15 : decode cX4_isProp 15 = .ok (.ireturn, 1) := by decide +kernel
set_option maxRecDepth 20000 in
theorem ggX4_hasExit_X2_working : GoodIn wsX4_hasExit wsX2_working := goodIn_r _ [8, 9, 10, 11, 12, 13, 14, 15, 29, 30, 31, 32, 33, 34, 35, 36, 37, 38, 39, 40, 41] (by decide +kernel) (by decide +kernel)
set_option maxRecDepth 20000 in
theorem gX4_hasExit_X2_working : GoodIn wsX4_hasExit (wsV RX4 105 RX2 yX2_working wsX2_working) := goodIn_app (goodIn_of _ (by decide +kernel)) ggX4_hasExit_X2_working
set_option maxRecDepth 20000 in
theorem ggX4_hasExit_X2_reach : GoodIn wsX4_hasExit wsX2_reach := goodIn_r _ [19, 9, 20, 11, 12, 13, 21, 22, 23, 7, 24, 25, 26, 27, 29, 30, 31, 32, 33, 34, 35, 36, 37, 38, 39, 40, 41] (by decide +kernel) (by decide +kernel)
set_option maxRecDepth 20000 in
theorem gX4_hasExit_X2_reach : GoodIn wsX4_hasExit (wsV RX4 109 RX2 yX2_reach wsX2_reach) := goodIn_app (goodIn_of _ (by decide +kernel)) ggX4_hasExit_X2_reach
set_option maxRecDepth 20000 in
theorem ggX4_hasExit_X4_has : GoodIn wsX4_hasExit wsX4_has := goodIn_r _ [13] (by decide +kernel) (by decide +kernel)
set_option maxRecDepth 20000 in
theorem gX4_hasExit_X4_has : GoodIn wsX4_hasExit (va_wsS RX4 123 yX4_has wsX4_has) := goodIn_app (goodIn_of _ (by decide +kernel)) ggX4_hasExit_X4_has
theorem dX4_hasExit_0 : decode cX4_hasExit 0 = .ok (.aload_n 1, 1) := by decide +kernel
theorem dX4_hasExit_1 : decode cX4_hasExit 1 = .ok (.getfield 80, 3) := by decide +kernel
theorem dX4_hasExit_4 : decode cX4_hasExit 4 = .ok (.ifCond .le 30, 3) := by decide +kernel
theorem dX4_hasExit_7 : decode cX4_hasExit 7 = .ok (.aload_n 1, 1) := by decide +kernel
theorem dX4_hasExit_8 : decode cX4_hasExit 8 = .ok (.aload_n 1, 1) := by decide +kernel
theorem dX4_hasExit_9 : decode cX4_hasExit 9 = .ok (.getfield 120, 3) := by decide +kernel
theorem dX4_hasExit_12 : decode cX4_hasExit 12 = .ok (.aload_n 1, 1) := by decide +kernel
theorem dX4_hasExit_13 : decode cX4_hasExit 13 = .ok (.aload_n 0, 1) := by decide +kernel
theorem dX4_hasExit_14 : decode cX4_hasExit 14 = .ok (.getfield 91, 3) := by decide +kernel
theorem dX4_hasExit_17 : decode cX4_hasExit 17 = .ok (.invokevirtual 105, 3) := by decide +kernel
theorem dX4_hasExit_20 : decode cX4_hasExit 20 = .ok (.invokevirtual 109, 3) := by decide +kernel
theorem dX4_hasExit_23 : decode cX4_hasExit 23 = .ok (.iconst 0, 1) := by decide +kernel
theorem dX4_hasExit_24 : decode cX4_hasExit 24 = .ok (.invokestatic 123, 3) := by decide +kernel
theorem dX4_hasExit_27 : decode cX4_hasExit 27 = .ok (.ifCond .eq 7, 3) := by decide +kernel
theorem dX4_hasExit_30 : decode cX4_hasExit 30 = .ok (.iconst 1, 1) := by decide +kernel
theorem dX4_hasExit_31 : decode cX4_hasExit 31 = .ok (.goto 4, 3) := by decide +kernel
theorem dX4_hasExit_34 : decode cX4_hasExit 34 = .ok (.iconst 0, 1) := by decide +kernel
theorem dX4_hasExit_35 : decode cX4_hasExit 35 = .ok (.ireturn, 1) := by decide +kernel
set_option maxRecDepth 20000 in
theorem ggX4_countOrdersBySets_X2_working : GoodIn wsX4_countOrdersBySets wsX2_working := goodIn_r _ [9, 10, 11, 12, 13, 14, 15, 16, 45, 46, 47, 48, 49, 50, 51, 52, 53, 54, 55, 56, 57] (by decide +kernel) (by decide +kernel)
set_option maxRecDepth 20000 in
theorem gX4_countOrdersBySets_X2_working : GoodIn wsX4_countOrdersBySets (wsV RX4 105 RX2 yX2_working wsX2_working) := goodIn_app (goodIn_of _ (by decide +kernel)) ggX4_countOrdersBySets_X2_working
set_option maxRecDepth 20000 in
theorem ggX4_countOrdersBySets_X2_givenBy : GoodIn wsX4_countOrdersBySets wsX2_givenBy := goodIn_r _ [20, 10, 21, 12, 13, 14, 45, 46, 47, 48, 49, 50, 51, 52, 53, 54, 55, 56, 57] (by decide +kernel) (by decide +kernel)
set_option maxRecDepth 20000 in
theorem gX4_countOrdersBySets_X2_givenBy : GoodIn wsX4_countOrdersBySets (wsV RX4 315 RX2 yX2_givenBy wsX2_givenBy) := goodIn_app (goodIn_of _ (by decide +kernel)) ggX4_countOrdersBySets_X2_givenBy
set_option maxRecDepth 20000 in
theorem ggX4_countOrdersBySets_X4_has : GoodIn wsX4_countOrdersBySets wsX4_has := goodIn_r _ [14] (by decide +kernel) (by decide +kernel)
set_option maxRecDepth 20000 in
theorem gX4_countOrdersBySets_X4_has : GoodIn wsX4_countOrdersBySets (va_wsS RX4 123 yX4_has wsX4_has) := goodIn_app (goodIn_of _ (by decide +kernel)) ggX4_countOrdersBySets_X4_has
set_option maxRecDepth 20000 in
theorem ggX4_countOrdersBySets_X4_addWaysBehind : GoodIn wsX4_countOrdersBySets wsX4_addWaysBehind := goodIn_r _ [26, 2, 3, 22, 12, 13, 14, 27, 28, 29, 8, 30, 31, 32, 33, 34, 15, 16, 45, 46, 47, 48, 49, 50, 51, 52, 53, 54, 55, 56, 57, 35, 36, 37, 38, 39, 40, 41, 42, 43, 44] (by decide +kernel) (by decide +kernel)
set_option maxRecDepth 20000 in
theorem gX4_countOrdersBySets_X4_addWaysBehind : GoodIn wsX4_countOrdersBySets (wsV RX4 318 RX4 yX4_addWaysBehind wsX4_addWaysBehind) := goodIn_app (goodIn_of _ (by decide +kernel)) ggX4_countOrdersBySets_X4_addWaysBehind
theorem dX4_countOrdersBySets_0 : decode cX4_countOrdersBySets 0 = .ok (.aload_n 1, 1) := by decide +kernel
theorem dX4_countOrdersBySets_1 : decode cX4_countOrdersBySets 1 = .ok (.aload_n 0, 1) := by decide +kernel
theorem dX4_countOrdersBySets_2 : decode cX4_countOrdersBySets 2 = .ok (.getfield 91, 3) := by decide +kernel
theorem dX4_countOrdersBySets_5 : decode cX4_countOrdersBySets 5 = .ok (.invokevirtual 105, 3) := by decide +kernel
theorem dX4_countOrdersBySets_8 : decode cX4_countOrdersBySets 8 = .ok (.istore_n 2, 1) := by decide +kernel
theorem dX4_countOrdersBySets_9 : decode cX4_countOrdersBySets 9 = .ok (.iconst 1, 1) := by decide +kernel
theorem dX4_countOrdersBySets_10 : decode cX4_countOrdersBySets 10 = .ok (.aload_n 1, 1) := by decide +kernel
theorem dX4_countOrdersBySets_11 : decode cX4_countOrdersBySets 11 = .ok (.getfield 80, 3) := by decide +kernel
theorem dX4_countOrdersBySets_14 : decode cX4_countOrdersBySets 14 = .ok (.ishl, 1) := by decide +kernel
theorem dX4_countOrdersBySets_15 : decode cX4_countOrdersBySets 15 = .ok (.istore_n 3, 1) := by decide +kernel
theorem dX4_countOrdersBySets_16 : decode cX4_countOrdersBySets 16 = .ok (.iconst 0, 1) := by decide +kernel
theorem dX4_countOrdersBySets_17 : decode cX4_countOrdersBySets 17 = .ok (.istore 4, 2) := by decide +kernel
theorem dX4_countOrdersBySets_19 : decode cX4_countOrdersBySets 19 = .ok (.iload 4, 2) := by decide +kernel
theorem dX4_countOrdersBySets_21 : decode cX4_countOrdersBySets 21 = .ok (.iload_n 3, 1) := by decide +kernel
theorem dX4_countOrdersBySets_22 : decode cX4_countOrdersBySets 22 = .ok (.if_icmp .ge 17, 3) := by decide +kernel
theorem dX4_countOrdersBySets_25 : decode cX4_countOrdersBySets 25 = .ok (.aload_n 0, 1) := by decide +kernel
theorem dX4_countOrdersBySets_26 : decode cX4_countOrdersBySets 26 = .ok (.getfield 33, 3) := by decide +kernel
theorem dX4_countOrdersBySets_29 : decode cX4_countOrdersBySets 29 = .ok (.iload 4, 2) := by decide +kernel
theorem dX4_countOrdersBySets_31 : decode cX4_countOrdersBySets 31 = .ok (.iconst 0, 1) := by decide +kernel
theorem dX4_countOrdersBySets_32 : decode cX4_countOrdersBySets 32 = .ok (.iastore, 1) := by decide +kernel
theorem dX4_countOrdersBySets_33 : decode cX4_countOrdersBySets 33 = .ok (.iinc 4 1, 3) := by decide +kernel
theorem dX4_countOrdersBySets_36 : decode cX4_countOrdersBySets 36 = .ok (.goto (-17), 3) := by decide +kernel
theorem dX4_countOrdersBySets_39 : decode cX4_countOrdersBySets 39 = .ok (.aload_n 0, 1) := by decide +kernel
theorem dX4_countOrdersBySets_40 : decode cX4_countOrdersBySets 40 = .ok (.getfield 33, 3) := by decide +kernel
theorem dX4_countOrdersBySets_43 : decode cX4_countOrdersBySets 43 = .ok (.iconst 0, 1) := by decide +kernel
theorem dX4_countOrdersBySets_44 : decode cX4_countOrdersBySets 44 = .ok (.iconst 1, 1) := by decide +kernel
theorem dX4_countOrdersBySets_45 : decode cX4_countOrdersBySets 45 = .ok (.iastore, 1) := by decide +kernel
theorem dX4_countOrdersBySets_46 : decode cX4_countOrdersBySets 46 = .ok (.iconst 0, 1) := by decide +kernel
theorem dX4_countOrdersBySets_47 : decode cX4_countOrdersBySets 47 = .ok (.istore 4, 2) := by decide +kernel
theorem dX4_countOrdersBySets_49 : decode cX4_countOrdersBySets 49 = .ok (.iconst 0, 1) := by decide +kernel
theorem dX4_countOrdersBySets_50 : decode cX4_countOrdersBySets 50 = .ok (.istore 5, 2) := by decide +kernel
theorem dX4_countOrdersBySets_52 : decode cX4_countOrdersBySets 52 = .ok (.iload 5, 2) := by decide +kernel
theorem dX4_countOrdersBySets_54 : decode cX4_countOrdersBySets 54 = .ok (.iload_n 3, 1) := by decide +kernel
theorem dX4_countOrdersBySets_55 : decode cX4_countOrdersBySets 55 = .ok (.if_icmp .ge 61, 3) := by decide +kernel
theorem dX4_countOrdersBySets_58 : decode cX4_countOrdersBySets 58 = .ok (.aload_n 1, 1) := by decide +kernel
theorem dX4_countOrdersBySets_59 : decode cX4_countOrdersBySets 59 = .ok (.getfield 120, 3) := by decide +kernel
theorem dX4_countOrdersBySets_62 : decode cX4_countOrdersBySets 62 = .ok (.aload_n 1, 1) := by decide +kernel
theorem dX4_countOrdersBySets_63 : decode cX4_countOrdersBySets 63 = .ok (.iload 5, 2) := by decide +kernel
theorem dX4_countOrdersBySets_65 : decode cX4_countOrdersBySets 65 = .ok (.invokevirtual 315, 3) := by decide +kernel
theorem dX4_countOrdersBySets_68 : decode cX4_countOrdersBySets 68 = .ok (.ior, 1) := by decide +kernel
theorem dX4_countOrdersBySets_69 : decode cX4_countOrdersBySets 69 = .ok (.istore 6, 2) := by decide +kernel
theorem dX4_countOrdersBySets_71 : decode cX4_countOrdersBySets 71 = .ok (.iload 6, 2) := by decide +kernel
theorem dX4_countOrdersBySets_73 : decode cX4_countOrdersBySets 73 = .ok (.iconst 0, 1) := by decide +kernel
theorem dX4_countOrdersBySets_74 : decode cX4_countOrdersBySets 74 = .ok (.invokestatic 123, 3) := by decide +kernel
theorem dX4_countOrdersBySets_77 : decode cX4_countOrdersBySets 77 = .ok (.ifCond .eq 18, 3) := by decide +kernel
theorem dX4_countOrdersBySets_80 : decode cX4_countOrdersBySets 80 = .ok (.iload 4, 2) := by decide +kernel
theorem dX4_countOrdersBySets_82 : decode cX4_countOrdersBySets 82 = .ok (.aload_n 0, 1) := by decide +kernel
theorem dX4_countOrdersBySets_83 : decode cX4_countOrdersBySets 83 = .ok (.getfield 33, 3) := by decide +kernel
theorem dX4_countOrdersBySets_86 : decode cX4_countOrdersBySets 86 = .ok (.iload 5, 2) := by decide +kernel
theorem dX4_countOrdersBySets_88 : decode cX4_countOrdersBySets 88 = .ok (.iaload, 1) := by decide +kernel
theorem dX4_countOrdersBySets_89 : decode cX4_countOrdersBySets 89 = .ok (.iadd, 1) := by decide +kernel
theorem dX4_countOrdersBySets_90 : decode cX4_countOrdersBySets 90 = .ok (.istore 4, 2) := by decide +kernel
theorem dX4_countOrdersBySets_92 : decode cX4_countOrdersBySets 92 = .ok (.goto 18, 3) := by decide +kernel
theorem dX4_countOrdersBySets_95 : decode cX4_countOrdersBySets 95 = .ok (.aload_n 0, 1) := by decide +kernel
theorem dX4_countOrdersBySets_96 : decode cX4_countOrdersBySets 96 = .ok (.aload_n 1, 1) := by decide +kernel
theorem dX4_countOrdersBySets_97 : decode cX4_countOrdersBySets 97 = .ok (.iload 5, 2) := by decide +kernel
theorem dX4_countOrdersBySets_99 : decode cX4_countOrdersBySets 99 = .ok (.iload 6, 2) := by decide +kernel
theorem dX4_countOrdersBySets_101 : decode cX4_countOrdersBySets 101 = .ok (.iload_n 2, 1) := by decide +kernel
theorem dX4_countOrdersBySets_102 : decode cX4_countOrdersBySets 102 = .ok (.iload 5, 2) := by decide +kernel
theorem dX4_countOrdersBySets_104 : decode cX4_countOrdersBySets 104 = .ok (.iconst (-1), 1) := by decide +kernel
theorem dX4_countOrdersBySets_105 : decode cX4_countOrdersBySets 105 = .ok (.ixor, 1) := by decide +kernel
theorem dX4_countOrdersBySets_106 : decode cX4_countOrdersBySets 106 = .ok (.iand, 1) := by decide +kernel
theorem dX4_countOrdersBySets_107 : decode cX4_countOrdersBySets 107 = .ok (.invokevirtual 318, 3) := by decide +kernel
theorem dX4_countOrdersBySets_110 : decode cX4_countOrdersBySets 110 = .ok (.iinc 5 1, 3) := by decide +kernel
theorem dX4_countOrdersBySets_113 : decode cX4_countOrdersBySets 113 = .ok (.goto (-61), 3) := by decide +kernel
theorem dX4_countOrdersBySets_116 : decode cX4_countOrdersBySets 116 = .ok (.iload 4, 2) := by decide +kernel
theorem dX4_countOrdersBySets_118 : decode cX4_countOrdersBySets 118 = .ok (.ireturn, 1) := by decide +kernel
set_option maxRecDepth 20000 in
theorem ggX4_addWaysBehind_X4_has : GoodIn wsX4_addWaysBehind wsX4_has := goodIn_r _ [6] (by decide +kernel) (by decide +kernel)
set_option maxRecDepth 20000 in
theorem gX4_addWaysBehind_X4_has : GoodIn wsX4_addWaysBehind (va_wsS RX4 123 yX4_has wsX4_has) := goodIn_app (goodIn_of _ (by decide +kernel)) ggX4_addWaysBehind_X4_has
set_option maxRecDepth 20000 in
theorem ggX4_addWaysBehind_X2_isSolvable : GoodIn wsX4_addWaysBehind wsX2_isSolvable := goodIn_r _ [11, 12, 13, 5, 14, 18, 19, 20, 21, 22, 23, 24, 25, 26, 27, 28, 29, 30] (by decide +kernel) (by decide +kernel)
set_option maxRecDepth 20000 in
theorem gX4_addWaysBehind_X2_isSolvable : GoodIn wsX4_addWaysBehind (wsV RX4 169 RX2 yX2_isSolvable wsX2_isSolvable) := goodIn_app (goodIn_of _ (by decide +kernel)) ggX4_addWaysBehind_X2_isSolvable
set_option maxRecDepth 20000 in
theorem ggX4_addWaysBehind_X4_with : GoodIn wsX4_addWaysBehind wsX4_with := goodIn_r _ [17] (by decide +kernel) (by decide +kernel)
set_option maxRecDepth 20000 in
theorem gX4_addWaysBehind_X4_with : GoodIn wsX4_addWaysBehind (va_wsS RX4 94 yX4_with wsX4_with) := goodIn_app (goodIn_of _ (by decide +kernel)) ggX4_addWaysBehind_X4_with
theorem dX4_addWaysBehind_0 : decode cX4_addWaysBehind 0 = .ok (.iconst 0, 1) := by decide +kernel
theorem dX4_addWaysBehind_1 : decode cX4_addWaysBehind 1 = .ok (.istore 5, 2) := by decide +kernel
theorem dX4_addWaysBehind_3 : decode cX4_addWaysBehind 3 = .ok (.iload 5, 2) := by decide +kernel
theorem dX4_addWaysBehind_5 : decode cX4_addWaysBehind 5 = .ok (.aload_n 1, 1) := by decide +kernel
theorem dX4_addWaysBehind_6 : decode cX4_addWaysBehind 6 = .ok (.getfield 80, 3) := by decide +kernel
theorem dX4_addWaysBehind_9 : decode cX4_addWaysBehind 9 = .ok (.if_icmp .ge 49, 3) := by decide +kernel
theorem dX4_addWaysBehind_12 : decode cX4_addWaysBehind 12 = .ok (.iload 4, 2) := by decide +kernel
theorem dX4_addWaysBehind_14 : decode cX4_addWaysBehind 14 = .ok (.iload 5, 2) := by decide +kernel
theorem dX4_addWaysBehind_16 : decode cX4_addWaysBehind 16 = .ok (.invokestatic 123, 3) := by decide +kernel
theorem dX4_addWaysBehind_19 : decode cX4_addWaysBehind 19 = .ok (.ifCond .eq 33, 3) := by decide +kernel
theorem dX4_addWaysBehind_22 : decode cX4_addWaysBehind 22 = .ok (.aload_n 1, 1) := by decide +kernel
theorem dX4_addWaysBehind_23 : decode cX4_addWaysBehind 23 = .ok (.iload 5, 2) := by decide +kernel
theorem dX4_addWaysBehind_25 : decode cX4_addWaysBehind 25 = .ok (.iload_n 3, 1) := by decide +kernel
theorem dX4_addWaysBehind_26 : decode cX4_addWaysBehind 26 = .ok (.invokevirtual 169, 3) := by decide +kernel
theorem dX4_addWaysBehind_29 : decode cX4_addWaysBehind 29 = .ok (.ifCond .eq 23, 3) := by decide +kernel
theorem dX4_addWaysBehind_32 : decode cX4_addWaysBehind 32 = .ok (.aload_n 0, 1) := by decide +kernel
theorem dX4_addWaysBehind_33 : decode cX4_addWaysBehind 33 = .ok (.getfield 33, 3) := by decide +kernel
theorem dX4_addWaysBehind_36 : decode cX4_addWaysBehind 36 = .ok (.iload_n 2, 1) := by decide +kernel
theorem dX4_addWaysBehind_37 : decode cX4_addWaysBehind 37 = .ok (.iload 5, 2) := by decide +kernel
theorem dX4_addWaysBehind_39 : decode cX4_addWaysBehind 39 = .ok (.invokestatic 94, 3) := by decide +kernel
theorem dX4_addWaysBehind_42 : decode cX4_addWaysBehind 42 = .ok (.dup2, 1) := by decide +kernel
theorem dX4_addWaysBehind_43 : decode cX4_addWaysBehind 43 = .ok (.iaload, 1) := by decide +kernel
theorem dX4_addWaysBehind_44 : decode cX4_addWaysBehind 44 = .ok (.aload_n 0, 1) := by decide +kernel
theorem dX4_addWaysBehind_45 : decode cX4_addWaysBehind 45 = .ok (.getfield 33, 3) := by decide +kernel
theorem dX4_addWaysBehind_48 : decode cX4_addWaysBehind 48 = .ok (.iload_n 2, 1) := by decide +kernel
theorem dX4_addWaysBehind_49 : decode cX4_addWaysBehind 49 = .ok (.iaload, 1) := by decide +kernel
theorem dX4_addWaysBehind_50 : decode cX4_addWaysBehind 50 = .ok (.iadd, 1) := by decide +kernel
theorem dX4_addWaysBehind_51 : decode cX4_addWaysBehind 51 = .ok (.iastore, 1) := by decide +kernel
theorem dX4_addWaysBehind_52 : decode cX4_addWaysBehind 52 = .ok (.iinc 5 1, 3) := by decide +kernel
theorem dX4_addWaysBehind_55 : decode cX4_addWaysBehind 55 = .ok (.goto (-52), 3) := by decide +kernel
theorem dX4_addWaysBehind_58 : decode cX4_addWaysBehind 58 = .ok (.return_, 1) := by decide +kernel
set_option maxRecDepth 20000 in
theorem ggX4_countOrdersOneByOne_X4_has : GoodIn wsX4_countOrdersOneByOne wsX4_has := goodIn_r _ [6] (by decide +kernel) (by decide +kernel)
set_option maxRecDepth 20000 in
theorem gX4_countOrdersOneByOne_X4_has : GoodIn wsX4_countOrdersOneByOne (va_wsS RX4 123 yX4_has wsX4_has) := goodIn_app (goodIn_of _ (by decide +kernel)) ggX4_countOrdersOneByOne_X4_has
set_option maxRecDepth 20000 in
theorem ggX4_countOrdersOneByOne_X2_isSolvable : GoodIn wsX4_countOrdersOneByOne wsX2_isSolvable := goodIn_r _ [11, 12, 13, 5, 14, 20, 21, 22, 23, 24, 25, 26, 27, 28, 29, 30, 31, 32] (by decide +kernel) (by decide +kernel)
set_option maxRecDepth 20000 in
theorem gX4_countOrdersOneByOne_X2_isSolvable : GoodIn wsX4_countOrdersOneByOne (wsV RX4 169 RX2 yX2_isSolvable wsX2_isSolvable) := goodIn_app (goodIn_of _ (by decide +kernel)) ggX4_countOrdersOneByOne_X2_isSolvable
set_option maxRecDepth 20000 in
theorem ggX4_countOrdersOneByOne_X4_without : GoodIn wsX4_countOrdersOneByOne wsX4_without := goodIn_r _ [17] (by decide +kernel) (by decide +kernel)
set_option maxRecDepth 20000 in
theorem gX4_countOrdersOneByOne_X4_without : GoodIn wsX4_countOrdersOneByOne (va_wsS RX4 102 yX4_without wsX4_without) := goodIn_app (goodIn_of _ (by decide +kernel)) ggX4_countOrdersOneByOne_X4_without
set_option maxRecDepth 20000 in
theorem ggX4_countOrdersOneByOne_X4_countOrdersOneByOne : GoodIn wsX4_countOrdersOneByOne wsX4_countOrdersOneByOne := goodIn_r _ [0, 1, 2, 3, 4, 5, 6, 7, 8, 9, 10, 11, 12, 13, 14, 15, 16, 17, 18, 19, 20, 21, 22, 23, 24, 25, 26, 27, 28, 29, 30, 31, 32] (by decide +kernel) (by decide +kernel)
set_option maxRecDepth 20000 in
theorem gX4_countOrdersOneByOne_X4_countOrdersOneByOne : GoodIn wsX4_countOrdersOneByOne (va_wsS RX4 127 yX4_countOrdersOneByOne wsX4_countOrdersOneByOne) := goodIn_app (goodIn_of _ (by decide +kernel)) ggX4_countOrdersOneByOne_X4_countOrdersOneByOne
theorem dX4_countOrdersOneByOne_0 : decode cX4_countOrdersOneByOne 0 = .ok (.iload_n 1, 1) := by decide +kernel
theorem dX4_countOrdersOneByOne_1 : decode cX4_countOrdersOneByOne 1 = .ok (.iconst 0, 1) := by decide +kernel
theorem dX4_countOrdersOneByOne_2 : decode cX4_countOrdersOneByOne 2 = .ok (.invokestatic 123, 3) := by decide +kernel
theorem dX4_countOrdersOneByOne_5 : decode cX4_countOrdersOneByOne 5 = .ok (.ifCond .eq 5, 3) := by decide +kernel
theorem dX4_countOrdersOneByOne_8 : decode cX4_countOrdersOneByOne 8 = .ok (.iconst 1, 1) := by decide +kernel
theorem dX4_countOrdersOneByOne_9 : decode cX4_countOrdersOneByOne 9 = .ok (.ireturn, 1) := by decide +kernel
theorem dX4_countOrdersOneByOne_10 : decode cX4_countOrdersOneByOne 10 = .ok (.iload_n 3, 1) := by decide +kernel
theorem dX4_countOrdersOneByOne_11 : decode cX4_countOrdersOneByOne 11 = .ok (.bipush 8, 2) := by decide +kernel
theorem dX4_countOrdersOneByOne_13 : decode cX4_countOrdersOneByOne 13 = .ok (.if_icmp .lt 5, 3) := by decide +kernel
theorem dX4_countOrdersOneByOne_16 : decode cX4_countOrdersOneByOne 16 = .ok (.iconst 0, 1) := by decide +kernel
theorem dX4_countOrdersOneByOne_17 : decode cX4_countOrdersOneByOne 17 = .ok (.ireturn, 1) := by decide +kernel
theorem dX4_countOrdersOneByOne_18 : decode cX4_countOrdersOneByOne 18 = .ok (.iconst 0, 1) := by decide +kernel
theorem dX4_countOrdersOneByOne_19 : decode cX4_countOrdersOneByOne 19 = .ok (.istore 4, 2) := by decide +kernel
theorem dX4_countOrdersOneByOne_21 : decode cX4_countOrdersOneByOne 21 = .ok (.iconst 0, 1) := by decide +kernel
theorem dX4_countOrdersOneByOne_22 : decode cX4_countOrdersOneByOne 22 = .ok (.istore 5, 2) := by decide +kernel
theorem dX4_countOrdersOneByOne_24 : decode cX4_countOrdersOneByOne 24 = .ok (.iload 5, 2) := by decide +kernel
theorem dX4_countOrdersOneByOne_26 : decode cX4_countOrdersOneByOne 26 = .ok (.aload_n 0, 1) := by decide +kernel
theorem dX4_countOrdersOneByOne_27 : decode cX4_countOrdersOneByOne 27 = .ok (.getfield 80, 3) := by decide +kernel
theorem dX4_countOrdersOneByOne_30 : decode cX4_countOrdersOneByOne 30 = .ok (.if_icmp .ge 55, 3) := by decide +kernel
theorem dX4_countOrdersOneByOne_33 : decode cX4_countOrdersOneByOne 33 = .ok (.iload_n 2, 1) := by decide +kernel
theorem dX4_countOrdersOneByOne_34 : decode cX4_countOrdersOneByOne 34 = .ok (.iload 5, 2) := by decide +kernel
theorem dX4_countOrdersOneByOne_36 : decode cX4_countOrdersOneByOne 36 = .ok (.invokestatic 123, 3) := by decide +kernel
theorem dX4_countOrdersOneByOne_39 : decode cX4_countOrdersOneByOne 39 = .ok (.ifCond .eq 40, 3) := by decide +kernel
theorem dX4_countOrdersOneByOne_42 : decode cX4_countOrdersOneByOne 42 = .ok (.aload_n 0, 1) := by decide +kernel
theorem dX4_countOrdersOneByOne_43 : decode cX4_countOrdersOneByOne 43 = .ok (.iload 5, 2) := by decide +kernel
theorem dX4_countOrdersOneByOne_45 : decode cX4_countOrdersOneByOne 45 = .ok (.iload_n 1, 1) := by decide +kernel
theorem dX4_countOrdersOneByOne_46 : decode cX4_countOrdersOneByOne 46 = .ok (.invokevirtual 169, 3) := by decide +kernel
theorem dX4_countOrdersOneByOne_49 : decode cX4_countOrdersOneByOne 49 = .ok (.ifCond .eq 30, 3) := by decide +kernel
theorem dX4_countOrdersOneByOne_52 : decode cX4_countOrdersOneByOne 52 = .ok (.iload 4, 2) := by decide +kernel
theorem dX4_countOrdersOneByOne_54 : decode cX4_countOrdersOneByOne 54 = .ok (.aload_n 0, 1) := by decide +kernel
theorem dX4_countOrdersOneByOne_55 : decode cX4_countOrdersOneByOne 55 = .ok (.iload_n 1, 1) := by decide +kernel
theorem dX4_countOrdersOneByOne_56 : decode cX4_countOrdersOneByOne 56 = .ok (.aload_n 0, 1) := by decide +kernel
theorem dX4_countOrdersOneByOne_57 : decode cX4_countOrdersOneByOne 57 = .ok (.getfield 177, 3) := by decide +kernel
theorem dX4_countOrdersOneByOne_60 : decode cX4_countOrdersOneByOne 60 = .ok (.iload 5, 2) := by decide +kernel
theorem dX4_countOrdersOneByOne_62 : decode cX4_countOrdersOneByOne 62 = .ok (.iaload, 1) := by decide +kernel
theorem dX4_countOrdersOneByOne_63 : decode cX4_countOrdersOneByOne 63 = .ok (.ior, 1) := by decide +kernel
theorem dX4_countOrdersOneByOne_64 : decode cX4_countOrdersOneByOne 64 = .ok (.iload_n 2, 1) := by decide +kernel
theorem dX4_countOrdersOneByOne_65 : decode cX4_countOrdersOneByOne 65 = .ok (.iload 5, 2) := by decide +kernel
theorem dX4_countOrdersOneByOne_67 : decode cX4_countOrdersOneByOne 67 = .ok (.invokestatic 102, 3) := by decide +kernel
theorem dX4_countOrdersOneByOne_70 : decode cX4_countOrdersOneByOne 70 = .ok (.iload_n 3, 1) := by decide +kernel
theorem dX4_countOrdersOneByOne_71 : decode cX4_countOrdersOneByOne 71 = .ok (.iconst 1, 1) := by decide +kernel
theorem dX4_countOrdersOneByOne_72 : decode cX4_countOrdersOneByOne 72 = .ok (.iadd, 1) := by decide +kernel
theorem dX4_countOrdersOneByOne_73 : decode cX4_countOrdersOneByOne 73 = .ok (.invokestatic 127, 3) := by decide +kernel
theorem dX4_countOrdersOneByOne_76 : decode cX4_countOrdersOneByOne 76 = .ok (.iadd, 1) := by decide +kernel
theorem dX4_countOrdersOneByOne_77 : decode cX4_countOrdersOneByOne 77 = .ok (.istore 4, 2) := by decide +kernel
theorem dX4_countOrdersOneByOne_79 : decode cX4_countOrdersOneByOne 79 = .ok (.iinc 5 1, 3) := by decide +kernel
theorem dX4_countOrdersOneByOne_82 : decode cX4_countOrdersOneByOne 82 = .ok (.goto (-58), 3) := by decide +kernel
theorem dX4_countOrdersOneByOne_85 : decode cX4_countOrdersOneByOne 85 = .ok (.iload 4, 2) := by decide +kernel
theorem dX4_countOrdersOneByOne_87 : decode cX4_countOrdersOneByOne 87 = .ok (.ireturn, 1) := by decide +kernel
set_option maxRecDepth 20000 in
theorem ggX4_openTo_X2_working : GoodIn wsX4_openTo wsX2_working := goodIn_r _ [8, 9, 10, 11, 12, 13, 14, 15, 35, 36, 37, 38, 39, 40, 41, 42, 43, 44, 45, 46, 47] (by decide +kernel) (by decide +kernel)
set_option maxRecDepth 20000 in
theorem gX4_openTo_X2_working : GoodIn wsX4_openTo (wsV RX4 105 RX2 yX2_working wsX2_working) := goodIn_app (goodIn_of _ (by decide +kernel)) ggX4_openTo_X2_working
theorem dX4_openTo_0 : decode cX4_openTo 0 = .ok (.aload_n 1, 1) := by decide +kernel
theorem dX4_openTo_1 : decode cX4_openTo 1 = .ok (.getfield 155, 3) := by decide +kernel
theorem dX4_openTo_4 : decode cX4_openTo 4 = .ok (.aload_n 0, 1) := by decide +kernel
theorem dX4_openTo_5 : decode cX4_openTo 5 = .ok (.getfield 91, 3) := by decide +kernel
theorem dX4_openTo_8 : decode cX4_openTo 8 = .ok (.invokevirtual 105, 3) := by decide +kernel
theorem dX4_openTo_11 : decode cX4_openTo 11 = .ok (.aload_n 1, 1) := by decide +kernel
theorem dX4_openTo_12 : decode cX4_openTo 12 = .ok (.getfield 174, 3) := by decide +kernel
theorem dX4_openTo_15 : decode cX4_openTo 15 = .ok (.iconst (-1), 1) := by decide +kernel
theorem dX4_openTo_16 : decode cX4_openTo 16 = .ok (.ixor, 1) := by decide +kernel
theorem dX4_openTo_17 : decode cX4_openTo 17 = .ok (.iand, 1) := by decide +kernel
theorem dX4_openTo_18 : decode cX4_openTo 18 = .ok (.ireturn, 1) := by decide +kernel
set_option maxRecDepth 20000 in
theorem ggX4_wayOf_X4_openTo : GoodIn wsX4_wayOf wsX4_openTo := goodIn_r _ [7, 1, 8, 9, 10, 11, 12, 13, 14, 15, 16, 17, 6, 18, 19, 20, 42, 43, 44, 45, 46, 47, 48, 49, 50, 51, 52, 53, 54, 55, 56, 57, 58, 59, 60, 61, 62, 63, 64, 65, 66, 67, 68, 69, 70, 71, 72, 73] (by decide +kernel) (by decide +kernel)
set_option maxRecDepth 20000 in
theorem gX4_wayOf_X4_openTo : GoodIn wsX4_wayOf (wsV RX4 162 RX4 yX4_openTo wsX4_openTo) := goodIn_app (goodIn_of _ (by decide +kernel)) ggX4_wayOf_X4_openTo
set_option maxRecDepth 20000 in
theorem ggX4_wayOf_J6_bitCount_0f7a4 : GoodIn wsX4_wayOf wsJ6_bitCount_0f7a4 := goodIn_r _ [24, 25, 26, 27] (by decide +kernel) (by decide +kernel)
set_option maxRecDepth 20000 in
theorem gX4_wayOf_J6_bitCount_0f7a4 : GoodIn wsX4_wayOf (va_wsS RX4 322 yJ6_bitCount_0f7a4 wsJ6_bitCount_0f7a4) := goodIn_app (goodIn_of _ (by decide +kernel)) ggX4_wayOf_J6_bitCount_0f7a4
set_option maxRecDepth 20000 in
theorem ggX4_wayOf_X4_isWithin : GoodIn wsX4_wayOf wsX4_isWithin := goodIn_r _ [30] (by decide +kernel) (by decide +kernel)
set_option maxRecDepth 20000 in
theorem gX4_wayOf_X4_isWithin : GoodIn wsX4_wayOf (va_wsS RX4 327 yX4_isWithin wsX4_isWithin) := goodIn_app (goodIn_of _ (by decide +kernel)) ggX4_wayOf_X4_isWithin
set_option maxRecDepth 20000 in
theorem ggX4_wayOf_X2_reach : GoodIn wsX4_wayOf wsX2_reach := goodIn_r _ [34, 15, 35, 17, 6, 18, 36, 37, 38, 13, 39, 40, 29, 30, 61, 62, 63, 64, 65, 66, 67, 68, 69, 70, 71, 72, 73] (by decide +kernel) (by decide +kernel)
set_option maxRecDepth 20000 in
theorem gX4_wayOf_X2_reach : GoodIn wsX4_wayOf (wsV RX4 109 RX2 yX2_reach wsX2_reach) := goodIn_app (goodIn_of _ (by decide +kernel)) ggX4_wayOf_X2_reach
set_option maxRecDepth 20000 in
theorem ggX4_wayOf_X4_has : GoodIn wsX4_wayOf wsX4_has := goodIn_r _ [18] (by decide +kernel) (by decide +kernel)
set_option maxRecDepth 20000 in
theorem gX4_wayOf_X4_has : GoodIn wsX4_wayOf (va_wsS RX4 123 yX4_has wsX4_has) := goodIn_app (goodIn_of _ (by decide +kernel)) ggX4_wayOf_X4_has
theorem dX4_wayOf_0 : decode cX4_wayOf 0 = .ok (.aload_n 1, 1) := by decide +kernel
theorem dX4_wayOf_1 : decode cX4_wayOf 1 = .ok (.getfield 155, 3) := by decide +kernel
theorem dX4_wayOf_4 : decode cX4_wayOf 4 = .ok (.astore_n 2, 1) := by decide +kernel
theorem dX4_wayOf_5 : decode cX4_wayOf 5 = .ok (.aload_n 0, 1) := by decide +kernel
theorem dX4_wayOf_6 : decode cX4_wayOf 6 = .ok (.aload_n 1, 1) := by decide +kernel
theorem dX4_wayOf_7 : decode cX4_wayOf 7 = .ok (.invokevirtual 162, 3) := by decide +kernel
theorem dX4_wayOf_10 : decode cX4_wayOf 10 = .ok (.istore_n 3, 1) := by decide +kernel
theorem dX4_wayOf_11 : decode cX4_wayOf 11 = .ok (.iconst 0, 1) := by decide +kernel
theorem dX4_wayOf_12 : decode cX4_wayOf 12 = .ok (.istore 4, 2) := by decide +kernel
theorem dX4_wayOf_14 : decode cX4_wayOf 14 = .ok (.bipush 9, 2) := by decide +kernel
theorem dX4_wayOf_16 : decode cX4_wayOf 16 = .ok (.istore 5, 2) := by decide +kernel
theorem dX4_wayOf_18 : decode cX4_wayOf 18 = .ok (.iconst 1, 1) := by decide +kernel
theorem dX4_wayOf_19 : decode cX4_wayOf 19 = .ok (.istore 6, 2) := by decide +kernel
theorem dX4_wayOf_21 : decode cX4_wayOf 21 = .ok (.iload 6, 2) := by decide +kernel
theorem dX4_wayOf_23 : decode cX4_wayOf 23 = .ok (.sipush 256, 3) := by decide +kernel
theorem dX4_wayOf_26 : decode cX4_wayOf 26 = .ok (.if_icmp .ge 57, 3) := by decide +kernel
theorem dX4_wayOf_29 : decode cX4_wayOf 29 = .ok (.iload 6, 2) := by decide +kernel
theorem dX4_wayOf_31 : decode cX4_wayOf 31 = .ok (.invokestatic 322, 3) := by decide +kernel
theorem dX4_wayOf_34 : decode cX4_wayOf 34 = .ok (.istore 7, 2) := by decide +kernel
theorem dX4_wayOf_36 : decode cX4_wayOf 36 = .ok (.iload 7, 2) := by decide +kernel
theorem dX4_wayOf_38 : decode cX4_wayOf 38 = .ok (.iload 5, 2) := by decide +kernel
theorem dX4_wayOf_40 : decode cX4_wayOf 40 = .ok (.if_icmp .ge 37, 3) := by decide +kernel
theorem dX4_wayOf_43 : decode cX4_wayOf 43 = .ok (.iload 6, 2) := by decide +kernel
theorem dX4_wayOf_45 : decode cX4_wayOf 45 = .ok (.iload_n 3, 1) := by decide +kernel
theorem dX4_wayOf_46 : decode cX4_wayOf 46 = .ok (.invokestatic 327, 3) := by decide +kernel
theorem dX4_wayOf_49 : decode cX4_wayOf 49 = .ok (.ifCond .eq 28, 3) := by decide +kernel
theorem dX4_wayOf_52 : decode cX4_wayOf 52 = .ok (.aload_n 2, 1) := by decide +kernel
theorem dX4_wayOf_53 : decode cX4_wayOf 53 = .ok (.aload_n 1, 1) := by decide +kernel
theorem dX4_wayOf_54 : decode cX4_wayOf 54 = .ok (.getfield 166, 3) := by decide +kernel
theorem dX4_wayOf_57 : decode cX4_wayOf 57 = .ok (.iload 6, 2) := by decide +kernel
theorem dX4_wayOf_59 : decode cX4_wayOf 59 = .ok (.invokevirtual 109, 3) := by decide +kernel
theorem dX4_wayOf_62 : decode cX4_wayOf 62 = .ok (.iconst 0, 1) := by decide +kernel
theorem dX4_wayOf_63 : decode cX4_wayOf 63 = .ok (.invokestatic 123, 3) := by decide +kernel
theorem dX4_wayOf_66 : decode cX4_wayOf 66 = .ok (.ifCond .eq 11, 3) := by decide +kernel
theorem dX4_wayOf_69 : decode cX4_wayOf 69 = .ok (.iload 6, 2) := by decide +kernel
theorem dX4_wayOf_71 : decode cX4_wayOf 71 = .ok (.istore 4, 2) := by decide +kernel
theorem dX4_wayOf_73 : decode cX4_wayOf 73 = .ok (.iload 7, 2) := by decide +kernel
theorem dX4_wayOf_75 : decode cX4_wayOf 75 = .ok (.istore 5, 2) := by decide +kernel
theorem dX4_wayOf_77 : decode cX4_wayOf 77 = .ok (.iinc 6 1, 3) := by decide +kernel
theorem dX4_wayOf_80 : decode cX4_wayOf 80 = .ok (.goto (-59), 3) := by decide +kernel
theorem dX4_wayOf_83 : decode cX4_wayOf 83 = .ok (.iload 4, 2) := by decide +kernel
theorem dX4_wayOf_85 : decode cX4_wayOf 85 = .ok (.ireturn, 1) := by decide +kernel
set_option maxRecDepth 20000 in
theorem ggX4_letIn_X2_givenBy : GoodIn wsX4_letIn wsX2_givenBy := goodIn_r _ [17, 18, 19, 20, 21, 22, 59, 60, 61, 62, 63, 64, 65, 66, 67, 68, 69, 70, 71] (by decide +kernel) (by decide +kernel)
set_option maxRecDepth 20000 in
theorem gX4_letIn_X2_givenBy : GoodIn wsX4_letIn (wsV RX4 315 RX2 yX2_givenBy wsX2_givenBy) := goodIn_app (goodIn_of _ (by decide +kernel)) ggX4_letIn_X2_givenBy
set_option maxRecDepth 20000 in
theorem ggX4_letIn_X1_init : GoodIn wsX4_letIn wsX1_init := goodIn_r _ [25, 26, 27, 28, 29, 30, 31, 32, 33, 34, 35, 36, 72, 73, 74, 75, 76, 77, 78, 79, 80] (by decide +kernel) (by decide +kernel)
set_option maxRecDepth 20000 in
theorem gX4_letIn_X1_init : GoodIn wsX4_letIn (wsX1_init) := ggX4_letIn_X1_init
set_option maxRecDepth 20000 in
theorem ggX4_letIn_X4_leaveIfOut : GoodIn wsX4_letIn wsX4_leaveIfOut := goodIn_r _ [39, 40, 41, 20, 21, 22, 42, 43, 44, 45, 46, 9, 10, 47, 48, 72, 73, 74, 75, 76, 77, 78, 79, 80, 59, 60, 61, 62, 63, 64, 65, 66, 67, 68, 69, 70, 71] (by decide +kernel) (by decide +kernel)
set_option maxRecDepth 20000 in
theorem gX4_letIn_X4_leaveIfOut : GoodIn wsX4_letIn (va_wsS RX4 180 yX4_leaveIfOut wsX4_leaveIfOut) := goodIn_app (goodIn_of _ (by decide +kernel)) ggX4_letIn_X4_leaveIfOut
theorem dX4_letIn_0 : decode cX4_letIn 0 = .ok (.aload_n 0, 1) := by decide +kernel
theorem dX4_letIn_1 : decode cX4_letIn 1 = .ok (.getfield 142, 3) := by decide +kernel
theorem dX4_letIn_4 : decode cX4_letIn 4 = .ok (.istore_n 3, 1) := by decide +kernel
theorem dX4_letIn_5 : decode cX4_letIn 5 = .ok (.aload_n 1, 1) := by decide +kernel
theorem dX4_letIn_6 : decode cX4_letIn 6 = .ok (.getfield 212, 3) := by decide +kernel
theorem dX4_letIn_9 : decode cX4_letIn 9 = .ok (.istore 4, 2) := by decide +kernel
theorem dX4_letIn_11 : decode cX4_letIn 11 = .ok (.new 15, 3) := by decide +kernel
theorem dX4_letIn_14 : decode cX4_letIn 14 = .ok (.dup, 1) := by decide +kernel
theorem dX4_letIn_15 : decode cX4_letIn 15 = .ok (.iload_n 3, 1) := by decide +kernel
theorem dX4_letIn_16 : decode cX4_letIn 16 = .ok (.aload_n 1, 1) := by decide +kernel
theorem dX4_letIn_17 : decode cX4_letIn 17 = .ok (.aload_n 0, 1) := by decide +kernel
theorem dX4_letIn_18 : decode cX4_letIn 18 = .ok (.getfield 231, 3) := by decide +kernel
theorem dX4_letIn_21 : decode cX4_letIn 21 = .ok (.iload 4, 2) := by decide +kernel
theorem dX4_letIn_23 : decode cX4_letIn 23 = .ok (.aload_n 1, 1) := by decide +kernel
theorem dX4_letIn_24 : decode cX4_letIn 24 = .ok (.getfield 120, 3) := by decide +kernel
theorem dX4_letIn_27 : decode cX4_letIn 27 = .ok (.aload_n 1, 1) := by decide +kernel
theorem dX4_letIn_28 : decode cX4_letIn 28 = .ok (.iload 4, 2) := by decide +kernel
theorem dX4_letIn_30 : decode cX4_letIn 30 = .ok (.invokevirtual 315, 3) := by decide +kernel
theorem dX4_letIn_33 : decode cX4_letIn 33 = .ok (.ior, 1) := by decide +kernel
theorem dX4_letIn_34 : decode cX4_letIn 34 = .ok (.invokespecial 330, 3) := by decide +kernel
theorem dX4_letIn_37 : decode cX4_letIn 37 = .ok (.astore 5, 2) := by decide +kernel
theorem dX4_letIn_39 : decode cX4_letIn 39 = .ok (.aload_n 0, 1) := by decide +kernel
theorem dX4_letIn_40 : decode cX4_letIn 40 = .ok (.getfield 17, 3) := by decide +kernel
theorem dX4_letIn_43 : decode cX4_letIn 43 = .ok (.iload_n 3, 1) := by decide +kernel
theorem dX4_letIn_44 : decode cX4_letIn 44 = .ok (.aload 5, 2) := by decide +kernel
theorem dX4_letIn_46 : decode cX4_letIn 46 = .ok (.aastore, 1) := by decide +kernel
theorem dX4_letIn_47 : decode cX4_letIn 47 = .ok (.aload_n 0, 1) := by decide +kernel
theorem dX4_letIn_48 : decode cX4_letIn 48 = .ok (.dup, 1) := by decide +kernel
theorem dX4_letIn_49 : decode cX4_letIn 49 = .ok (.getfield 142, 3) := by decide +kernel
theorem dX4_letIn_52 : decode cX4_letIn 52 = .ok (.iconst 1, 1) := by decide +kernel
theorem dX4_letIn_53 : decode cX4_letIn 53 = .ok (.iadd, 1) := by decide +kernel
theorem dX4_letIn_54 : decode cX4_letIn 54 = .ok (.putfield 142, 3) := by decide +kernel
theorem dX4_letIn_57 : decode cX4_letIn 57 = .ok (.aload_n 1, 1) := by decide +kernel
theorem dX4_letIn_58 : decode cX4_letIn 58 = .ok (.iconst 1, 1) := by decide +kernel
theorem dX4_letIn_59 : decode cX4_letIn 59 = .ok (.putfield 77, 3) := by decide +kernel
theorem dX4_letIn_62 : decode cX4_letIn 62 = .ok (.aload_n 1, 1) := by decide +kernel
theorem dX4_letIn_63 : decode cX4_letIn 63 = .ok (.aload 5, 2) := by decide +kernel
theorem dX4_letIn_65 : decode cX4_letIn 65 = .ok (.putfield 273, 3) := by decide +kernel
theorem dX4_letIn_68 : decode cX4_letIn 68 = .ok (.aload_n 2, 1) := by decide +kernel
theorem dX4_letIn_69 : decode cX4_letIn 69 = .ok (.ifnull 13, 3) := by decide +kernel
theorem dX4_letIn_72 : decode cX4_letIn 72 = .ok (.aload_n 2, 1) := by decide +kernel
theorem dX4_letIn_73 : decode cX4_letIn 73 = .ok (.iconst 1, 1) := by decide +kernel
theorem dX4_letIn_74 : decode cX4_letIn 74 = .ok (.putfield 252, 3) := by decide +kernel
theorem dX4_letIn_77 : decode cX4_letIn 77 = .ok (.aload_n 2, 1) := by decide +kernel
theorem dX4_letIn_78 : decode cX4_letIn 78 = .ok (.iload_n 3, 1) := by decide +kernel
theorem dX4_letIn_79 : decode cX4_letIn 79 = .ok (.putfield 302, 3) := by decide +kernel
theorem dX4_letIn_82 : decode cX4_letIn 82 = .ok (.aload 5, 2) := by decide +kernel
theorem dX4_letIn_84 : decode cX4_letIn 84 = .ok (.invokestatic 180, 3) := by decide +kernel
theorem dX4_letIn_87 : decode cX4_letIn 87 = .ok (.iload_n 3, 1) := by decide +kernel
theorem dX4_letIn_88 : decode cX4_letIn 88 = .ok (.ireturn, 1) := by decide +kernel
theorem dX4_leave_0 : decode cX4_leave 0 = .ok (.aload_n 0, 1) := by decide +kernel
theorem dX4_leave_1 : decode cX4_leave 1 = .ok (.getfield 155, 3) := by decide +kernel
theorem dX4_leave_4 : decode cX4_leave 4 = .ok (.astore_n 2, 1) := by decide +kernel
theorem dX4_leave_5 : decode cX4_leave 5 = .ok (.aload_n 0, 1) := by decide +kernel
theorem dX4_leave_6 : decode cX4_leave 6 = .ok (.iload_n 1, 1) := by decide +kernel
theorem dX4_leave_7 : decode cX4_leave 7 = .ok (.putfield 161, 3) := by decide +kernel
theorem dX4_leave_10 : decode cX4_leave 10 = .ok (.aload_n 2, 1) := by decide +kernel
theorem dX4_leave_11 : decode cX4_leave 11 = .ok (.iconst 2, 1) := by decide +kernel
theorem dX4_leave_12 : decode cX4_leave 12 = .ok (.putfield 77, 3) := by decide +kernel
theorem dX4_leave_15 : decode cX4_leave 15 = .ok (.aload_n 2, 1) := by decide +kernel
theorem dX4_leave_16 : decode cX4_leave 16 = .ok (.aconst_null, 1) := by decide +kernel
theorem dX4_leave_17 : decode cX4_leave 17 = .ok (.putfield 273, 3) := by decide +kernel
theorem dX4_leave_20 : decode cX4_leave 20 = .ok (.aload_n 2, 1) := by decide +kernel
theorem dX4_leave_21 : decode cX4_leave 21 = .ok (.aload_n 0, 1) := by decide +kernel
theorem dX4_leave_22 : decode cX4_leave 22 = .ok (.getfield 174, 3) := by decide +kernel
theorem dX4_leave_25 : decode cX4_leave 25 = .ok (.putfield 228, 3) := by decide +kernel
theorem dX4_leave_28 : decode cX4_leave 28 = .ok (.return_, 1) := by decide +kernel
set_option maxRecDepth 20000 in
theorem ggX4_leaveIfOut_X4_has : GoodIn wsX4_leaveIfOut wsX4_has := goodIn_r _ [5] (by decide +kernel) (by decide +kernel)
set_option maxRecDepth 20000 in
theorem gX4_leaveIfOut_X4_has : GoodIn wsX4_leaveIfOut (va_wsS RX4 123 yX4_has wsX4_has) := goodIn_app (goodIn_of _ (by decide +kernel)) ggX4_leaveIfOut_X4_has
set_option maxRecDepth 20000 in
theorem ggX4_leaveIfOut_X4_leave : GoodIn wsX4_leaveIfOut wsX4_leave := goodIn_r _ [8, 9, 10, 11, 12, 13, 14, 15, 16, 17, 18, 19, 20, 21, 22, 23, 24, 25, 26, 27, 28, 29, 30, 31, 32, 33, 34, 35, 36] (by decide +kernel) (by decide +kernel)
set_option maxRecDepth 20000 in
theorem gX4_leaveIfOut_X4_leave : GoodIn wsX4_leaveIfOut (va_wsS RX4 201 yX4_leave wsX4_leave) := goodIn_app (goodIn_of _ (by decide +kernel)) ggX4_leaveIfOut_X4_leave
theorem dX4_leaveIfOut_0 : decode cX4_leaveIfOut 0 = .ok (.aload_n 0, 1) := by decide +kernel
theorem dX4_leaveIfOut_1 : decode cX4_leaveIfOut 1 = .ok (.getfield 166, 3) := by decide +kernel
theorem dX4_leaveIfOut_4 : decode cX4_leaveIfOut 4 = .ok (.iconst 0, 1) := by decide +kernel
theorem dX4_leaveIfOut_5 : decode cX4_leaveIfOut 5 = .ok (.invokestatic 123, 3) := by decide +kernel
theorem dX4_leaveIfOut_8 : decode cX4_leaveIfOut 8 = .ok (.ifCond .eq 8, 3) := by decide +kernel
theorem dX4_leaveIfOut_11 : decode cX4_leaveIfOut 11 = .ok (.aload_n 0, 1) := by decide +kernel
theorem dX4_leaveIfOut_12 : decode cX4_leaveIfOut 12 = .ok (.iconst 1, 1) := by decide +kernel
theorem dX4_leaveIfOut_13 : decode cX4_leaveIfOut 13 = .ok (.invokestatic 201, 3) := by decide +kernel
theorem dX4_leaveIfOut_16 : decode cX4_leaveIfOut 16 = .ok (.return_, 1) := by decide +kernel
set_option maxRecDepth 20000 in
theorem ggX4_leaveIfLate_X1_minutesLeft : GoodIn wsX4_leaveIfLate wsX1_minutesLeft := goodIn_r _ [6, 7, 8, 29, 30, 31, 32, 33, 34, 35, 36, 37] (by decide +kernel) (by decide +kernel)
set_option maxRecDepth 20000 in
theorem gX4_leaveIfLate_X1_minutesLeft : GoodIn wsX4_leaveIfLate (wsV RX4 286 RX1 yX1_minutesLeft wsX1_minutesLeft) := goodIn_app (goodIn_of _ (by decide +kernel)) ggX4_leaveIfLate_X1_minutesLeft
set_option maxRecDepth 20000 in
theorem ggX4_leaveIfLate_X4_leave : GoodIn wsX4_leaveIfLate wsX4_leave := goodIn_r _ [12, 13, 14, 15, 16, 17, 18, 29, 30, 31, 32, 33, 34, 35, 36, 37, 38, 39, 40, 41, 42, 43, 44, 45, 46, 47, 48, 49, 50] (by decide +kernel) (by decide +kernel)
set_option maxRecDepth 20000 in
theorem gX4_leaveIfLate_X4_leave : GoodIn wsX4_leaveIfLate (va_wsS RX4 201 yX4_leave wsX4_leave) := goodIn_app (goodIn_of _ (by decide +kernel)) ggX4_leaveIfLate_X4_leave
theorem dX4_leaveIfLate_0 : decode cX4_leaveIfLate 0 = .ok (.aload_n 1, 1) := by decide +kernel
theorem dX4_leaveIfLate_1 : decode cX4_leaveIfLate 1 = .ok (.aload_n 0, 1) := by decide +kernel
theorem dX4_leaveIfLate_2 : decode cX4_leaveIfLate 2 = .ok (.getfield 231, 3) := by decide +kernel
theorem dX4_leaveIfLate_5 : decode cX4_leaveIfLate 5 = .ok (.invokevirtual 286, 3) := by decide +kernel
theorem dX4_leaveIfLate_8 : decode cX4_leaveIfLate 8 = .ok (.ifCond .gt 8, 3) := by decide +kernel
theorem dX4_leaveIfLate_11 : decode cX4_leaveIfLate 11 = .ok (.aload_n 1, 1) := by decide +kernel
theorem dX4_leaveIfLate_12 : decode cX4_leaveIfLate 12 = .ok (.iconst 2, 1) := by decide +kernel
theorem dX4_leaveIfLate_13 : decode cX4_leaveIfLate 13 = .ok (.invokestatic 201, 3) := by decide +kernel
theorem dX4_leaveIfLate_16 : decode cX4_leaveIfLate 16 = .ok (.return_, 1) := by decide +kernel
set_option maxRecDepth 20000 in
theorem ggX4_freeLockedIn_X2_working : GoodIn wsX4_freeLockedIn wsX2_working := goodIn_r _ [10, 11, 12, 13, 14, 15, 16, 17, 49, 50, 51, 52, 53, 54, 55, 56, 57, 58, 59, 60, 61] (by decide +kernel) (by decide +kernel)
set_option maxRecDepth 20000 in
theorem gX4_freeLockedIn_X2_working : GoodIn wsX4_freeLockedIn (wsV RX4 105 RX2 yX2_working wsX2_working) := goodIn_app (goodIn_of _ (by decide +kernel)) ggX4_freeLockedIn_X2_working
set_option maxRecDepth 20000 in
theorem ggX4_freeLockedIn_X2_reach : GoodIn wsX4_freeLockedIn wsX2_reach := goodIn_r _ [21, 11, 22, 13, 14, 15, 23, 24, 25, 9, 26, 27, 28, 29, 49, 50, 51, 52, 53, 54, 55, 56, 57, 58, 59, 60, 61] (by decide +kernel) (by decide +kernel)
set_option maxRecDepth 20000 in
theorem gX4_freeLockedIn_X2_reach : GoodIn wsX4_freeLockedIn (wsV RX4 109 RX2 yX2_reach wsX2_reach) := goodIn_app (goodIn_of _ (by decide +kernel)) ggX4_freeLockedIn_X2_reach
set_option maxRecDepth 20000 in
theorem ggX4_freeLockedIn_X4_has : GoodIn wsX4_freeLockedIn wsX4_has := goodIn_r _ [15] (by decide +kernel) (by decide +kernel)
set_option maxRecDepth 20000 in
theorem gX4_freeLockedIn_X4_has : GoodIn wsX4_freeLockedIn (va_wsS RX4 123 yX4_has wsX4_has) := goodIn_app (goodIn_of _ (by decide +kernel)) ggX4_freeLockedIn_X4_has
set_option maxRecDepth 20000 in
theorem ggX4_freeLockedIn_X4_leave : GoodIn wsX4_freeLockedIn wsX4_leave := goodIn_r _ [33, 34, 35, 36, 3, 37, 38, 62, 63, 64, 65, 66, 67, 68, 69, 70, 49, 50, 51, 52, 53, 54, 55, 56, 57, 58, 59, 60, 61] (by decide +kernel) (by decide +kernel)
set_option maxRecDepth 20000 in
theorem gX4_freeLockedIn_X4_leave : GoodIn wsX4_freeLockedIn (va_wsS RX4 201 yX4_leave wsX4_leave) := goodIn_app (goodIn_of _ (by decide +kernel)) ggX4_freeLockedIn_X4_leave
theorem dX4_freeLockedIn_0 : decode cX4_freeLockedIn 0 = .ok (.iconst 0, 1) := by decide +kernel
theorem dX4_freeLockedIn_1 : decode cX4_freeLockedIn 1 = .ok (.istore_n 1, 1) := by decide +kernel
theorem dX4_freeLockedIn_2 : decode cX4_freeLockedIn 2 = .ok (.iconst 0, 1) := by decide +kernel
theorem dX4_freeLockedIn_3 : decode cX4_freeLockedIn 3 = .ok (.istore_n 2, 1) := by decide +kernel
theorem dX4_freeLockedIn_4 : decode cX4_freeLockedIn 4 = .ok (.iload_n 2, 1) := by decide +kernel
theorem dX4_freeLockedIn_5 : decode cX4_freeLockedIn 5 = .ok (.aload_n 0, 1) := by decide +kernel
theorem dX4_freeLockedIn_6 : decode cX4_freeLockedIn 6 = .ok (.getfield 49, 3) := by decide +kernel
theorem dX4_freeLockedIn_9 : decode cX4_freeLockedIn 9 = .ok (.if_icmp .ge 60, 3) := by decide +kernel
theorem dX4_freeLockedIn_12 : decode cX4_freeLockedIn 12 = .ok (.aload_n 0, 1) := by decide +kernel
theorem dX4_freeLockedIn_13 : decode cX4_freeLockedIn 13 = .ok (.getfield 11, 3) := by decide +kernel
theorem dX4_freeLockedIn_16 : decode cX4_freeLockedIn 16 = .ok (.iload_n 2, 1) := by decide +kernel
theorem dX4_freeLockedIn_17 : decode cX4_freeLockedIn 17 = .ok (.aaload, 1) := by decide +kernel
theorem dX4_freeLockedIn_18 : decode cX4_freeLockedIn 18 = .ok (.astore_n 3, 1) := by decide +kernel
theorem dX4_freeLockedIn_19 : decode cX4_freeLockedIn 19 = .ok (.aload_n 3, 1) := by decide +kernel
theorem dX4_freeLockedIn_20 : decode cX4_freeLockedIn 20 = .ok (.getfield 273, 3) := by decide +kernel
theorem dX4_freeLockedIn_23 : decode cX4_freeLockedIn 23 = .ok (.astore 4, 2) := by decide +kernel
theorem dX4_freeLockedIn_25 : decode cX4_freeLockedIn 25 = .ok (.aload 4, 2) := by decide +kernel
theorem dX4_freeLockedIn_27 : decode cX4_freeLockedIn 27 = .ok (.ifnull 36, 3) := by decide +kernel
theorem dX4_freeLockedIn_30 : decode cX4_freeLockedIn 30 = .ok (.aload_n 3, 1) := by decide +kernel
theorem dX4_freeLockedIn_31 : decode cX4_freeLockedIn 31 = .ok (.aload 4, 2) := by decide +kernel
theorem dX4_freeLockedIn_33 : decode cX4_freeLockedIn 33 = .ok (.getfield 166, 3) := by decide +kernel
theorem dX4_freeLockedIn_36 : decode cX4_freeLockedIn 36 = .ok (.aload_n 3, 1) := by decide +kernel
theorem dX4_freeLockedIn_37 : decode cX4_freeLockedIn 37 = .ok (.aload_n 0, 1) := by decide +kernel
theorem dX4_freeLockedIn_38 : decode cX4_freeLockedIn 38 = .ok (.getfield 91, 3) := by decide +kernel
theorem dX4_freeLockedIn_41 : decode cX4_freeLockedIn 41 = .ok (.invokevirtual 105, 3) := by decide +kernel
theorem dX4_freeLockedIn_44 : decode cX4_freeLockedIn 44 = .ok (.invokevirtual 109, 3) := by decide +kernel
theorem dX4_freeLockedIn_47 : decode cX4_freeLockedIn 47 = .ok (.iconst 0, 1) := by decide +kernel
theorem dX4_freeLockedIn_48 : decode cX4_freeLockedIn 48 = .ok (.invokestatic 123, 3) := by decide +kernel
theorem dX4_freeLockedIn_51 : decode cX4_freeLockedIn 51 = .ok (.ifCond .ne 12, 3) := by decide +kernel
theorem dX4_freeLockedIn_54 : decode cX4_freeLockedIn 54 = .ok (.aload 4, 2) := by decide +kernel
theorem dX4_freeLockedIn_56 : decode cX4_freeLockedIn 56 = .ok (.iconst 3, 1) := by decide +kernel
theorem dX4_freeLockedIn_57 : decode cX4_freeLockedIn 57 = .ok (.invokestatic 201, 3) := by decide +kernel
theorem dX4_freeLockedIn_60 : decode cX4_freeLockedIn 60 = .ok (.iinc 1 1, 3) := by decide +kernel
theorem dX4_freeLockedIn_63 : decode cX4_freeLockedIn 63 = .ok (.iinc 2 1, 3) := by decide +kernel
theorem dX4_freeLockedIn_66 : decode cX4_freeLockedIn 66 = .ok (.goto (-62), 3) := by decide +kernel
theorem dX4_freeLockedIn_69 : decode cX4_freeLockedIn 69 = .ok (.iload_n 1, 1) := by decide +kernel
theorem dX4_freeLockedIn_70 : decode cX4_freeLockedIn 70 = .ok (.ireturn, 1) := by decide +kernel
set_option maxRecDepth 20000 in
theorem ggX4_beginNext_X2_nextToReset : GoodIn wsX4_beginNext wsX2_nextToReset := goodIn_r _ [9, 10, 11, 12, 13, 14, 15, 16, 17, 8, 18, 19, 20, 21, 38, 39, 40, 41, 42, 43, 44, 45, 46, 47, 48, 49, 50] (by decide +kernel) (by decide +kernel)
set_option maxRecDepth 20000 in
theorem gX4_beginNext_X2_nextToReset : GoodIn wsX4_beginNext (wsV RX4 333 RX2 yX2_nextToReset wsX2_nextToReset) := goodIn_app (goodIn_of _ (by decide +kernel)) ggX4_beginNext_X2_nextToReset
set_option maxRecDepth 20000 in
theorem ggX4_beginNext_X3_begin : GoodIn wsX4_beginNext wsX3_begin := goodIn_r _ [26, 27, 28, 29, 51, 52, 53] (by decide +kernel) (by decide +kernel)
set_option maxRecDepth 20000 in
theorem gX4_beginNext_X3_begin : GoodIn wsX4_beginNext (wsV RX4 339 RX3 yX3_begin wsX3_begin) := goodIn_app (goodIn_of _ (by decide +kernel)) ggX4_beginNext_X3_begin
set_option maxRecDepth 20000 in
theorem ggX4_beginNext_X4_finishReset : GoodIn wsX4_beginNext wsX4_finishReset := goodIn_r _ [32, 33, 34, 35, 36, 25, 37, 27, 28, 29, 38, 39, 40, 41, 42, 43, 44, 45, 46, 47, 48, 49, 50, 51, 52, 53] (by decide +kernel) (by decide +kernel)
set_option maxRecDepth 20000 in
theorem gX4_beginNext_X4_finishReset : GoodIn wsX4_beginNext (va_wsS RX4 342 yX4_finishReset wsX4_finishReset) := goodIn_app (goodIn_of _ (by decide +kernel)) ggX4_beginNext_X4_finishReset
theorem dX4_beginNext_0 : decode cX4_beginNext 0 = .ok (.aload_n 1, 1) := by decide +kernel
theorem dX4_beginNext_1 : decode cX4_beginNext 1 = .ok (.getfield 228, 3) := by decide +kernel
theorem dX4_beginNext_4 : decode cX4_beginNext 4 = .ok (.ifCond .ne 23, 3) := by decide +kernel
theorem dX4_beginNext_7 : decode cX4_beginNext 7 = .ok (.aload_n 1, 1) := by decide +kernel
theorem dX4_beginNext_8 : decode cX4_beginNext 8 = .ok (.getfield 215, 3) := by decide +kernel
theorem dX4_beginNext_11 : decode cX4_beginNext 11 = .ok (.ifCond .eq 16, 3) := by decide +kernel
theorem dX4_beginNext_14 : decode cX4_beginNext 14 = .ok (.aload_n 1, 1) := by decide +kernel
theorem dX4_beginNext_15 : decode cX4_beginNext 15 = .ok (.aload_n 1, 1) := by decide +kernel
theorem dX4_beginNext_16 : decode cX4_beginNext 16 = .ok (.getfield 212, 3) := by decide +kernel
theorem dX4_beginNext_19 : decode cX4_beginNext 19 = .ok (.putfield 228, 3) := by decide +kernel
theorem dX4_beginNext_22 : decode cX4_beginNext 22 = .ok (.aload_n 1, 1) := by decide +kernel
theorem dX4_beginNext_23 : decode cX4_beginNext 23 = .ok (.iconst 0, 1) := by decide +kernel
theorem dX4_beginNext_24 : decode cX4_beginNext 24 = .ok (.putfield 212, 3) := by decide +kernel
theorem dX4_beginNext_27 : decode cX4_beginNext 27 = .ok (.aload_n 1, 1) := by decide +kernel
theorem dX4_beginNext_28 : decode cX4_beginNext 28 = .ok (.getfield 228, 3) := by decide +kernel
theorem dX4_beginNext_31 : decode cX4_beginNext 31 = .ok (.ifCond .eq 23, 3) := by decide +kernel
theorem dX4_beginNext_34 : decode cX4_beginNext 34 = .ok (.aload_n 1, 1) := by decide +kernel
theorem dX4_beginNext_35 : decode cX4_beginNext 35 = .ok (.invokevirtual 333, 3) := by decide +kernel
theorem dX4_beginNext_38 : decode cX4_beginNext 38 = .ok (.istore_n 2, 1) := by decide +kernel
theorem dX4_beginNext_39 : decode cX4_beginNext 39 = .ok (.aload_n 0, 1) := by decide +kernel
theorem dX4_beginNext_40 : decode cX4_beginNext 40 = .ok (.aload_n 1, 1) := by decide +kernel
theorem dX4_beginNext_41 : decode cX4_beginNext 41 = .ok (.iload_n 2, 1) := by decide +kernel
theorem dX4_beginNext_42 : decode cX4_beginNext 42 = .ok (.aload_n 1, 1) := by decide +kernel
theorem dX4_beginNext_43 : decode cX4_beginNext 43 = .ok (.getfield 336, 3) := by decide +kernel
theorem dX4_beginNext_46 : decode cX4_beginNext 46 = .ok (.iload_n 2, 1) := by decide +kernel
theorem dX4_beginNext_47 : decode cX4_beginNext 47 = .ok (.iaload, 1) := by decide +kernel
theorem dX4_beginNext_48 : decode cX4_beginNext 48 = .ok (.invokevirtual 339, 3) := by decide +kernel
theorem dX4_beginNext_51 : decode cX4_beginNext 51 = .ok (.goto 25, 3) := by decide +kernel
theorem dX4_beginNext_54 : decode cX4_beginNext 54 = .ok (.aload_n 1, 1) := by decide +kernel
theorem dX4_beginNext_55 : decode cX4_beginNext 55 = .ok (.getfield 215, 3) := by decide +kernel
theorem dX4_beginNext_58 : decode cX4_beginNext 58 = .ok (.ifCond .eq 13, 3) := by decide +kernel
theorem dX4_beginNext_61 : decode cX4_beginNext 61 = .ok (.aload_n 0, 1) := by decide +kernel
theorem dX4_beginNext_62 : decode cX4_beginNext 62 = .ok (.aload_n 1, 1) := by decide +kernel
theorem dX4_beginNext_63 : decode cX4_beginNext 63 = .ok (.iconst (-1), 1) := by decide +kernel
theorem dX4_beginNext_64 : decode cX4_beginNext 64 = .ok (.iconst 5, 1) := by decide +kernel
theorem dX4_beginNext_65 : decode cX4_beginNext 65 = .ok (.invokevirtual 339, 3) := by decide +kernel
theorem dX4_beginNext_68 : decode cX4_beginNext 68 = .ok (.goto 8, 3) := by decide +kernel
theorem dX4_beginNext_71 : decode cX4_beginNext 71 = .ok (.aload_n 0, 1) := by decide +kernel
theorem dX4_beginNext_72 : decode cX4_beginNext 72 = .ok (.aload_n 1, 1) := by decide +kernel
theorem dX4_beginNext_73 : decode cX4_beginNext 73 = .ok (.invokestatic 342, 3) := by decide +kernel
theorem dX4_beginNext_76 : decode cX4_beginNext 76 = .ok (.return_, 1) := by decide +kernel
set_option maxRecDepth 20000 in
theorem ggX4_finishReset_X3_stop : GoodIn wsX4_finishReset wsX3_stop := goodIn_r _ [6, 7, 8, 9, 23, 24, 25] (by decide +kernel) (by decide +kernel)
set_option maxRecDepth 20000 in
theorem gX4_finishReset_X3_stop : GoodIn wsX4_finishReset (wsV RX4 345 RX3 yX3_stop wsX3_stop) := goodIn_app (goodIn_of _ (by decide +kernel)) ggX4_finishReset_X3_stop
theorem dX4_finishReset_0 : decode cX4_finishReset 0 = .ok (.aload_n 1, 1) := by decide +kernel
theorem dX4_finishReset_1 : decode cX4_finishReset 1 = .ok (.iconst 0, 1) := by decide +kernel
theorem dX4_finishReset_2 : decode cX4_finishReset 2 = .ok (.putfield 77, 3) := by decide +kernel
theorem dX4_finishReset_5 : decode cX4_finishReset 5 = .ok (.aload_n 0, 1) := by decide +kernel
theorem dX4_finishReset_6 : decode cX4_finishReset 6 = .ok (.invokevirtual 345, 3) := by decide +kernel
theorem dX4_finishReset_9 : decode cX4_finishReset 9 = .ok (.return_, 1) := by decide +kernel
set_option maxRecDepth 20000 in
theorem ggX4_workOneMinute_X4_finishReset : GoodIn wsX4_workOneMinute wsX4_finishReset := goodIn_r _ [8, 9, 10, 11, 12, 13, 14, 15, 16, 17, 50, 51, 52, 53, 54, 55, 56, 57, 58, 59, 60, 61, 62, 47, 48, 49] (by decide +kernel) (by decide +kernel)
set_option maxRecDepth 20000 in
theorem gX4_workOneMinute_X4_finishReset : GoodIn wsX4_workOneMinute (va_wsS RX4 342 yX4_finishReset wsX4_finishReset) := goodIn_app (goodIn_of _ (by decide +kernel)) ggX4_workOneMinute_X4_finishReset
set_option maxRecDepth 20000 in
theorem ggX4_workOneMinute_X4_without : GoodIn wsX4_workOneMinute wsX4_without := goodIn_r _ [20] (by decide +kernel) (by decide +kernel)
set_option maxRecDepth 20000 in
theorem gX4_workOneMinute_X4_without : GoodIn wsX4_workOneMinute (va_wsS RX4 102 yX4_without wsX4_without) := goodIn_app (goodIn_of _ (by decide +kernel)) ggX4_workOneMinute_X4_without
set_option maxRecDepth 20000 in
theorem ggX4_workOneMinute_X4_beginNext : GoodIn wsX4_workOneMinute wsX4_beginNext := goodIn_r _ [23, 4, 24, 25, 26, 27, 28, 29, 30, 31, 32, 33, 34, 7, 35, 36, 37, 38, 39, 40, 41, 42, 43, 44, 45, 13, 46, 15, 16, 17, 5, 6, 8, 9, 10, 11, 12, 14, 50, 51, 52, 53, 54, 55, 56, 57, 58, 59, 60, 61, 62, 47, 48, 49] (by decide +kernel) (by decide +kernel)
set_option maxRecDepth 20000 in
theorem gX4_workOneMinute_X4_beginNext : GoodIn wsX4_workOneMinute (va_wsS RX4 219 yX4_beginNext wsX4_beginNext) := goodIn_app (goodIn_of _ (by decide +kernel)) ggX4_workOneMinute_X4_beginNext
theorem dX4_workOneMinute_0 : decode cX4_workOneMinute 0 = .ok (.aload_n 0, 1) := by decide +kernel
theorem dX4_workOneMinute_1 : decode cX4_workOneMinute 1 = .ok (.getfield 209, 3) := by decide +kernel
theorem dX4_workOneMinute_4 : decode cX4_workOneMinute 4 = .ok (.astore_n 1, 1) := by decide +kernel
theorem dX4_workOneMinute_5 : decode cX4_workOneMinute 5 = .ok (.aload_n 1, 1) := by decide +kernel
theorem dX4_workOneMinute_6 : decode cX4_workOneMinute 6 = .ok (.ifnonnull 4, 3) := by decide +kernel
theorem dX4_workOneMinute_9 : decode cX4_workOneMinute 9 = .ok (.return_, 1) := by decide +kernel
theorem dX4_workOneMinute_10 : decode cX4_workOneMinute 10 = .ok (.aload_n 0, 1) := by decide +kernel
theorem dX4_workOneMinute_11 : decode cX4_workOneMinute 11 = .ok (.dup, 1) := by decide +kernel
theorem dX4_workOneMinute_12 : decode cX4_workOneMinute 12 = .ok (.getfield 294, 3) := by decide +kernel
theorem dX4_workOneMinute_15 : decode cX4_workOneMinute 15 = .ok (.iconst 1, 1) := by decide +kernel
theorem dX4_workOneMinute_16 : decode cX4_workOneMinute 16 = .ok (.isub, 1) := by decide +kernel
theorem dX4_workOneMinute_17 : decode cX4_workOneMinute 17 = .ok (.putfield 294, 3) := by decide +kernel
theorem dX4_workOneMinute_20 : decode cX4_workOneMinute 20 = .ok (.aload_n 0, 1) := by decide +kernel
theorem dX4_workOneMinute_21 : decode cX4_workOneMinute 21 = .ok (.getfield 294, 3) := by decide +kernel
theorem dX4_workOneMinute_24 : decode cX4_workOneMinute 24 = .ok (.ifCond .le 4, 3) := by decide +kernel
theorem dX4_workOneMinute_27 : decode cX4_workOneMinute 27 = .ok (.return_, 1) := by decide +kernel
theorem dX4_workOneMinute_28 : decode cX4_workOneMinute 28 = .ok (.aload_n 0, 1) := by decide +kernel
theorem dX4_workOneMinute_29 : decode cX4_workOneMinute 29 = .ok (.getfield 223, 3) := by decide +kernel
theorem dX4_workOneMinute_32 : decode cX4_workOneMinute 32 = .ok (.iconst (-1), 1) := by decide +kernel
theorem dX4_workOneMinute_33 : decode cX4_workOneMinute 33 = .ok (.if_icmp .ne 11, 3) := by decide +kernel
theorem dX4_workOneMinute_36 : decode cX4_workOneMinute 36 = .ok (.aload_n 0, 1) := by decide +kernel
theorem dX4_workOneMinute_37 : decode cX4_workOneMinute 37 = .ok (.aload_n 1, 1) := by decide +kernel
theorem dX4_workOneMinute_38 : decode cX4_workOneMinute 38 = .ok (.invokestatic 342, 3) := by decide +kernel
theorem dX4_workOneMinute_41 : decode cX4_workOneMinute 41 = .ok (.goto 23, 3) := by decide +kernel
theorem dX4_workOneMinute_44 : decode cX4_workOneMinute 44 = .ok (.aload_n 1, 1) := by decide +kernel
theorem dX4_workOneMinute_45 : decode cX4_workOneMinute 45 = .ok (.aload_n 1, 1) := by decide +kernel
theorem dX4_workOneMinute_46 : decode cX4_workOneMinute 46 = .ok (.getfield 228, 3) := by decide +kernel
theorem dX4_workOneMinute_49 : decode cX4_workOneMinute 49 = .ok (.aload_n 0, 1) := by decide +kernel
theorem dX4_workOneMinute_50 : decode cX4_workOneMinute 50 = .ok (.getfield 223, 3) := by decide +kernel
theorem dX4_workOneMinute_53 : decode cX4_workOneMinute 53 = .ok (.invokestatic 102, 3) := by decide +kernel
theorem dX4_workOneMinute_56 : decode cX4_workOneMinute 56 = .ok (.putfield 228, 3) := by decide +kernel
theorem dX4_workOneMinute_59 : decode cX4_workOneMinute 59 = .ok (.aload_n 0, 1) := by decide +kernel
theorem dX4_workOneMinute_60 : decode cX4_workOneMinute 60 = .ok (.aload_n 1, 1) := by decide +kernel
theorem dX4_workOneMinute_61 : decode cX4_workOneMinute 61 = .ok (.invokestatic 219, 3) := by decide +kernel
theorem dX4_workOneMinute_64 : decode cX4_workOneMinute 64 = .ok (.return_, 1) := by decide +kernel
theorem dX4_bookingDistance_0 : decode cX4_bookingDistance 0 = .ok (.bipush 60, 2) := by decide +kernel
theorem dX4_bookingDistance_2 : decode cX4_bookingDistance 2 = .ok (.aload_n 0, 1) := by decide +kernel
theorem dX4_bookingDistance_3 : decode cX4_bookingDistance 3 = .ok (.getfield 280, 3) := by decide +kernel
theorem dX4_bookingDistance_6 : decode cX4_bookingDistance 6 = .ok (.iadd, 1) := by decide +kernel
theorem dX4_bookingDistance_7 : decode cX4_bookingDistance 7 = .ok (.ireturn, 1) := by decide +kernel
theorem dX4_bookingDue_0 : decode cX4_bookingDue 0 = .ok (.iconst 0, 1) := by decide +kernel
theorem dX4_bookingDue_1 : decode cX4_bookingDue 1 = .ok (.istore_n 2, 1) := by decide +kernel
theorem dX4_bookingDue_2 : decode cX4_bookingDue 2 = .ok (.iload_n 2, 1) := by decide +kernel
theorem dX4_bookingDue_3 : decode cX4_bookingDue 3 = .ok (.aload_n 0, 1) := by decide +kernel
theorem dX4_bookingDue_4 : decode cX4_bookingDue 4 = .ok (.getfield 240, 3) := by decide +kernel
theorem dX4_bookingDue_7 : decode cX4_bookingDue 7 = .ok (.if_icmp .ge 44, 3) := by decide +kernel
theorem dX4_bookingDue_10 : decode cX4_bookingDue 10 = .ok (.aload_n 0, 1) := by decide +kernel
theorem dX4_bookingDue_11 : decode cX4_bookingDue 11 = .ok (.getfield 23, 3) := by decide +kernel
theorem dX4_bookingDue_14 : decode cX4_bookingDue 14 = .ok (.iload_n 2, 1) := by decide +kernel
theorem dX4_bookingDue_15 : decode cX4_bookingDue 15 = .ok (.aaload, 1) := by decide +kernel
theorem dX4_bookingDue_16 : decode cX4_bookingDue 16 = .ok (.astore_n 3, 1) := by decide +kernel
theorem dX4_bookingDue_17 : decode cX4_bookingDue 17 = .ok (.aload_n 3, 1) := by decide +kernel
theorem dX4_bookingDue_18 : decode cX4_bookingDue 18 = .ok (.getfield 298, 3) := by decide +kernel
theorem dX4_bookingDue_21 : decode cX4_bookingDue 21 = .ok (.aload_n 1, 1) := by decide +kernel
theorem dX4_bookingDue_22 : decode cX4_bookingDue 22 = .ok (.if_acmp .ne 23, 3) := by decide +kernel
theorem dX4_bookingDue_25 : decode cX4_bookingDue 25 = .ok (.aload_n 3, 1) := by decide +kernel
theorem dX4_bookingDue_26 : decode cX4_bookingDue 26 = .ok (.getfield 252, 3) := by decide +kernel
theorem dX4_bookingDue_29 : decode cX4_bookingDue 29 = .ok (.ifCond .ne 16, 3) := by decide +kernel
theorem dX4_bookingDue_32 : decode cX4_bookingDue 32 = .ok (.aload_n 3, 1) := by decide +kernel
theorem dX4_bookingDue_33 : decode cX4_bookingDue 33 = .ok (.getfield 299, 3) := by decide +kernel
theorem dX4_bookingDue_36 : decode cX4_bookingDue 36 = .ok (.aload_n 0, 1) := by decide +kernel
theorem dX4_bookingDue_37 : decode cX4_bookingDue 37 = .ok (.getfield 231, 3) := by decide +kernel
theorem dX4_bookingDue_40 : decode cX4_bookingDue 40 = .ok (.if_icmp .gt 5, 3) := by decide +kernel
theorem dX4_bookingDue_43 : decode cX4_bookingDue 43 = .ok (.aload_n 3, 1) := by decide +kernel
theorem dX4_bookingDue_44 : decode cX4_bookingDue 44 = .ok (.areturn, 1) := by decide +kernel
theorem dX4_bookingDue_45 : decode cX4_bookingDue 45 = .ok (.iinc 2 1, 3) := by decide +kernel
theorem dX4_bookingDue_48 : decode cX4_bookingDue 48 = .ok (.goto (-46), 3) := by decide +kernel
theorem dX4_bookingDue_51 : decode cX4_bookingDue 51 = .ok (.aconst_null, 1) := by decide +kernel
theorem dX4_bookingDue_52 : decode cX4_bookingDue 52 = .ok (.areturn, 1) := by decide +kernel
set_option maxRecDepth 20000 in
theorem ggX4_isKeptForBooking_X4_bookingDistance : GoodIn wsX4_isKeptForBooking wsX4_bookingDistance := goodIn_r _ [10, 11, 26, 27, 28, 29, 30, 31, 32, 33, 34, 35, 36, 37, 38] (by decide +kernel) (by decide +kernel)
set_option maxRecDepth 20000 in
theorem gX4_isKeptForBooking_X4_bookingDistance : GoodIn wsX4_isKeptForBooking (va_wsS RX4 348 yX4_bookingDistance wsX4_bookingDistance) := goodIn_app (goodIn_of _ (by decide +kernel)) ggX4_isKeptForBooking_X4_bookingDistance
theorem dX4_isKeptForBooking_0 : decode cX4_isKeptForBooking 0 = .ok (.iconst 0, 1) := by decide +kernel
theorem dX4_isKeptForBooking_1 : decode cX4_isKeptForBooking 1 = .ok (.istore_n 2, 1) := by decide +kernel
theorem dX4_isKeptForBooking_2 : decode cX4_isKeptForBooking 2 = .ok (.iload_n 2, 1) := by decide +kernel
theorem dX4_isKeptForBooking_3 : decode cX4_isKeptForBooking 3 = .ok (.aload_n 0, 1) := by decide +kernel
theorem dX4_isKeptForBooking_4 : decode cX4_isKeptForBooking 4 = .ok (.getfield 240, 3) := by decide +kernel
theorem dX4_isKeptForBooking_7 : decode cX4_isKeptForBooking 7 = .ok (.if_icmp .ge 49, 3) := by decide +kernel
theorem dX4_isKeptForBooking_10 : decode cX4_isKeptForBooking 10 = .ok (.aload_n 0, 1) := by decide +kernel
theorem dX4_isKeptForBooking_11 : decode cX4_isKeptForBooking 11 = .ok (.getfield 23, 3) := by decide +kernel
theorem dX4_isKeptForBooking_14 : decode cX4_isKeptForBooking 14 = .ok (.iload_n 2, 1) := by decide +kernel
theorem dX4_isKeptForBooking_15 : decode cX4_isKeptForBooking 15 = .ok (.aaload, 1) := by decide +kernel
theorem dX4_isKeptForBooking_16 : decode cX4_isKeptForBooking 16 = .ok (.astore_n 3, 1) := by decide +kernel
theorem dX4_isKeptForBooking_17 : decode cX4_isKeptForBooking 17 = .ok (.aload_n 3, 1) := by decide +kernel
theorem dX4_isKeptForBooking_18 : decode cX4_isKeptForBooking 18 = .ok (.getfield 298, 3) := by decide +kernel
theorem dX4_isKeptForBooking_21 : decode cX4_isKeptForBooking 21 = .ok (.aload_n 1, 1) := by decide +kernel
theorem dX4_isKeptForBooking_22 : decode cX4_isKeptForBooking 22 = .ok (.if_acmp .ne 28, 3) := by decide +kernel
theorem dX4_isKeptForBooking_25 : decode cX4_isKeptForBooking 25 = .ok (.aload_n 3, 1) := by decide +kernel
theorem dX4_isKeptForBooking_26 : decode cX4_isKeptForBooking 26 = .ok (.getfield 252, 3) := by decide +kernel
theorem dX4_isKeptForBooking_29 : decode cX4_isKeptForBooking 29 = .ok (.ifCond .ne 21, 3) := by decide +kernel
theorem dX4_isKeptForBooking_32 : decode cX4_isKeptForBooking 32 = .ok (.aload_n 3, 1) := by decide +kernel
theorem dX4_isKeptForBooking_33 : decode cX4_isKeptForBooking 33 = .ok (.getfield 299, 3) := by decide +kernel
theorem dX4_isKeptForBooking_36 : decode cX4_isKeptForBooking 36 = .ok (.aload_n 0, 1) := by decide +kernel
theorem dX4_isKeptForBooking_37 : decode cX4_isKeptForBooking 37 = .ok (.getfield 231, 3) := by decide +kernel
theorem dX4_isKeptForBooking_40 : decode cX4_isKeptForBooking 40 = .ok (.isub, 1) := by decide +kernel
theorem dX4_isKeptForBooking_41 : decode cX4_isKeptForBooking 41 = .ok (.aload_n 1, 1) := by decide +kernel
theorem dX4_isKeptForBooking_42 : decode cX4_isKeptForBooking 42 = .ok (.invokestatic 348, 3) := by decide +kernel
theorem dX4_isKeptForBooking_45 : decode cX4_isKeptForBooking 45 = .ok (.if_icmp .ge 5, 3) := by decide +kernel
theorem dX4_isKeptForBooking_48 : decode cX4_isKeptForBooking 48 = .ok (.iconst 1, 1) := by decide +kernel
theorem dX4_isKeptForBooking_49 : decode cX4_isKeptForBooking 49 = .ok (.ireturn, 1) := by decide +kernel
theorem dX4_isKeptForBooking_50 : decode cX4_isKeptForBooking 50 = .ok (.iinc 2 1, 3) := by decide +kernel
theorem dX4_isKeptForBooking_53 : decode cX4_isKeptForBooking 53 = .ok (.goto (-51), 3) := by decide +kernel
theorem dX4_isKeptForBooking_56 : decode cX4_isKeptForBooking 56 = .ok (.iconst 0, 1) := by decide +kernel
theorem dX4_isKeptForBooking_57 : decode cX4_isKeptForBooking 57 = .ok (.ireturn, 1) := by decide +kernel
set_option maxRecDepth 20000 in
theorem ggX4_bookingTooNear_X4_bookingDistance : GoodIn wsX4_bookingTooNear wsX4_bookingDistance := goodIn_r _ [13, 14, 29, 30, 31, 32, 33, 34, 35, 36, 37, 38, 39, 40, 41] (by decide +kernel) (by decide +kernel)
set_option maxRecDepth 20000 in
theorem gX4_bookingTooNear_X4_bookingDistance : GoodIn wsX4_bookingTooNear (va_wsS RX4 348 yX4_bookingDistance wsX4_bookingDistance) := goodIn_app (goodIn_of _ (by decide +kernel)) ggX4_bookingTooNear_X4_bookingDistance
theorem dX4_bookingTooNear_0 : decode cX4_bookingTooNear 0 = .ok (.iconst 0, 1) := by decide +kernel
theorem dX4_bookingTooNear_1 : decode cX4_bookingTooNear 1 = .ok (.istore_n 3, 1) := by decide +kernel
theorem dX4_bookingTooNear_2 : decode cX4_bookingTooNear 2 = .ok (.iload_n 3, 1) := by decide +kernel
theorem dX4_bookingTooNear_3 : decode cX4_bookingTooNear 3 = .ok (.aload_n 0, 1) := by decide +kernel
theorem dX4_bookingTooNear_4 : decode cX4_bookingTooNear 4 = .ok (.getfield 240, 3) := by decide +kernel
theorem dX4_bookingTooNear_7 : decode cX4_bookingTooNear 7 = .ok (.if_icmp .ge 55, 3) := by decide +kernel
theorem dX4_bookingTooNear_10 : decode cX4_bookingTooNear 10 = .ok (.aload_n 0, 1) := by decide +kernel
theorem dX4_bookingTooNear_11 : decode cX4_bookingTooNear 11 = .ok (.getfield 23, 3) := by decide +kernel
theorem dX4_bookingTooNear_14 : decode cX4_bookingTooNear 14 = .ok (.iload_n 3, 1) := by decide +kernel
theorem dX4_bookingTooNear_15 : decode cX4_bookingTooNear 15 = .ok (.aaload, 1) := by decide +kernel
theorem dX4_bookingTooNear_16 : decode cX4_bookingTooNear 16 = .ok (.astore 4, 2) := by decide +kernel
theorem dX4_bookingTooNear_18 : decode cX4_bookingTooNear 18 = .ok (.aload 4, 2) := by decide +kernel
theorem dX4_bookingTooNear_20 : decode cX4_bookingTooNear 20 = .ok (.getfield 298, 3) := by decide +kernel
theorem dX4_bookingTooNear_23 : decode cX4_bookingTooNear 23 = .ok (.aload_n 1, 1) := by decide +kernel
theorem dX4_bookingTooNear_24 : decode cX4_bookingTooNear 24 = .ok (.if_acmp .ne 32, 3) := by decide +kernel
theorem dX4_bookingTooNear_27 : decode cX4_bookingTooNear 27 = .ok (.aload 4, 2) := by decide +kernel
theorem dX4_bookingTooNear_29 : decode cX4_bookingTooNear 29 = .ok (.getfield 252, 3) := by decide +kernel
theorem dX4_bookingTooNear_32 : decode cX4_bookingTooNear 32 = .ok (.iconst 2, 1) := by decide +kernel
theorem dX4_bookingTooNear_33 : decode cX4_bookingTooNear 33 = .ok (.if_icmp .eq 23, 3) := by decide +kernel
theorem dX4_bookingTooNear_36 : decode cX4_bookingTooNear 36 = .ok (.aload 4, 2) := by decide +kernel
theorem dX4_bookingTooNear_38 : decode cX4_bookingTooNear 38 = .ok (.getfield 299, 3) := by decide +kernel
theorem dX4_bookingTooNear_41 : decode cX4_bookingTooNear 41 = .ok (.iload_n 2, 1) := by decide +kernel
theorem dX4_bookingTooNear_42 : decode cX4_bookingTooNear 42 = .ok (.isub, 1) := by decide +kernel
theorem dX4_bookingTooNear_43 : decode cX4_bookingTooNear 43 = .ok (.invokestatic 351, 3) := by decide +kernel
theorem dX4_bookingTooNear_46 : decode cX4_bookingTooNear 46 = .ok (.aload_n 1, 1) := by decide +kernel
theorem dX4_bookingTooNear_47 : decode cX4_bookingTooNear 47 = .ok (.invokestatic 348, 3) := by decide +kernel
theorem dX4_bookingTooNear_50 : decode cX4_bookingTooNear 50 = .ok (.if_icmp .ge 6, 3) := by decide +kernel
theorem dX4_bookingTooNear_53 : decode cX4_bookingTooNear 53 = .ok (.aload 4, 2) := by decide +kernel
theorem dX4_bookingTooNear_55 : decode cX4_bookingTooNear 55 = .ok (.areturn, 1) := by decide +kernel
theorem dX4_bookingTooNear_56 : decode cX4_bookingTooNear 56 = .ok (.iinc 3 1, 3) := by decide +kernel
theorem dX4_bookingTooNear_59 : decode cX4_bookingTooNear 59 = .ok (.goto (-57), 3) := by decide +kernel
theorem dX4_bookingTooNear_62 : decode cX4_bookingTooNear 62 = .ok (.aconst_null, 1) := by decide +kernel
theorem dX4_bookingTooNear_63 : decode cX4_bookingTooNear 63 = .ok (.areturn, 1) := by decide +kernel
set_option maxRecDepth 20000 in
theorem ggX4_firstFree_X4_bookingTooNear : GoodIn wsX4_firstFree wsX4_bookingTooNear := goodIn_r _ [7, 1, 8, 9, 10, 2, 11, 12, 13, 14, 15, 16, 6, 17, 18, 19, 20, 21, 22, 23, 24, 25, 26, 27, 28, 29, 30, 31, 32, 33, 34, 35, 36, 37, 38, 39, 40, 41, 42, 43, 44, 45] (by decide +kernel) (by decide +kernel)
set_option maxRecDepth 20000 in
theorem gX4_firstFree_X4_bookingTooNear : GoodIn wsX4_firstFree (wsV RX4 236 RX4 yX4_bookingTooNear wsX4_bookingTooNear) := goodIn_app (goodIn_of _ (by decide +kernel)) ggX4_firstFree_X4_bookingTooNear
set_option maxRecDepth 20000 in
theorem ggX4_firstFree_X4_bookingDistance : GoodIn wsX4_firstFree wsX4_bookingDistance := goodIn_r _ [17, 18, 33, 34, 35, 36, 37, 38, 39, 40, 41, 42, 43, 44, 45] (by decide +kernel) (by decide +kernel)
set_option maxRecDepth 20000 in
theorem gX4_firstFree_X4_bookingDistance : GoodIn wsX4_firstFree (va_wsS RX4 348 yX4_bookingDistance wsX4_bookingDistance) := goodIn_app (goodIn_of _ (by decide +kernel)) ggX4_firstFree_X4_bookingDistance
theorem dX4_firstFree_0 : decode cX4_firstFree 0 = .ok (.iload_n 2, 1) := by decide +kernel
theorem dX4_firstFree_1 : decode cX4_firstFree 1 = .ok (.istore_n 3, 1) := by decide +kernel
theorem dX4_firstFree_2 : decode cX4_firstFree 2 = .ok (.iconst 0, 1) := by decide +kernel
theorem dX4_firstFree_3 : decode cX4_firstFree 3 = .ok (.istore 4, 2) := by decide +kernel
theorem dX4_firstFree_5 : decode cX4_firstFree 5 = .ok (.iload 4, 2) := by decide +kernel
theorem dX4_firstFree_7 : decode cX4_firstFree 7 = .ok (.aload_n 0, 1) := by decide +kernel
theorem dX4_firstFree_8 : decode cX4_firstFree 8 = .ok (.getfield 240, 3) := by decide +kernel
theorem dX4_firstFree_11 : decode cX4_firstFree 11 = .ok (.if_icmp .ge 35, 3) := by decide +kernel
theorem dX4_firstFree_14 : decode cX4_firstFree 14 = .ok (.aload_n 0, 1) := by decide +kernel
theorem dX4_firstFree_15 : decode cX4_firstFree 15 = .ok (.aload_n 1, 1) := by decide +kernel
theorem dX4_firstFree_16 : decode cX4_firstFree 16 = .ok (.iload_n 3, 1) := by decide +kernel
theorem dX4_firstFree_17 : decode cX4_firstFree 17 = .ok (.invokevirtual 236, 3) := by decide +kernel
theorem dX4_firstFree_20 : decode cX4_firstFree 20 = .ok (.astore 5, 2) := by decide +kernel
theorem dX4_firstFree_22 : decode cX4_firstFree 22 = .ok (.aload 5, 2) := by decide +kernel
theorem dX4_firstFree_24 : decode cX4_firstFree 24 = .ok (.ifnonnull 5, 3) := by decide +kernel
theorem dX4_firstFree_27 : decode cX4_firstFree 27 = .ok (.iload_n 3, 1) := by decide +kernel
theorem dX4_firstFree_28 : decode cX4_firstFree 28 = .ok (.ireturn, 1) := by decide +kernel
theorem dX4_firstFree_29 : decode cX4_firstFree 29 = .ok (.aload 5, 2) := by decide +kernel
theorem dX4_firstFree_31 : decode cX4_firstFree 31 = .ok (.getfield 299, 3) := by decide +kernel
theorem dX4_firstFree_34 : decode cX4_firstFree 34 = .ok (.aload_n 1, 1) := by decide +kernel
theorem dX4_firstFree_35 : decode cX4_firstFree 35 = .ok (.invokestatic 348, 3) := by decide +kernel
theorem dX4_firstFree_38 : decode cX4_firstFree 38 = .ok (.iadd, 1) := by decide +kernel
theorem dX4_firstFree_39 : decode cX4_firstFree 39 = .ok (.istore_n 3, 1) := by decide +kernel
theorem dX4_firstFree_40 : decode cX4_firstFree 40 = .ok (.iinc 4 1, 3) := by decide +kernel
theorem dX4_firstFree_43 : decode cX4_firstFree 43 = .ok (.goto (-38), 3) := by decide +kernel
theorem dX4_firstFree_46 : decode cX4_firstFree 46 = .ok (.iload_n 3, 1) := by decide +kernel
theorem dX4_firstFree_47 : decode cX4_firstFree 47 = .ok (.ireturn, 1) := by decide +kernel
set_option maxRecDepth 20000 in
theorem ggX4_passOne_X4_leaveIfLate : GoodIn wsX4_passOne wsX4_leaveIfLate := goodIn_r _ [10, 1, 11, 12, 13, 14, 15, 16, 17, 18, 19, 9, 20, 21, 22, 23, 4, 24, 25, 80, 81, 82, 83, 84, 85, 86, 87, 88, 89, 103, 104, 105, 106, 107, 108, 109, 110, 111, 90, 91, 92, 93, 94, 95, 96, 97, 98, 99, 100, 101, 102] (by decide +kernel) (by decide +kernel)
set_option maxRecDepth 20000 in
theorem gX4_passOne_X4_leaveIfLate : GoodIn wsX4_passOne (wsV RX4 198 RX4 yX4_leaveIfLate wsX4_leaveIfLate) := goodIn_app (goodIn_of _ (by decide +kernel)) ggX4_passOne_X4_leaveIfLate
set_option maxRecDepth 20000 in
theorem ggX4_passOne_X4_workOneMinute : GoodIn wsX4_passOne wsX4_workOneMinute := goodIn_r _ [28, 29, 30, 31, 25, 32, 33, 9, 34, 23, 35, 36, 37, 38, 39, 40, 41, 42, 43, 44, 45, 46, 47, 48, 49, 50, 51, 52, 53, 54, 55, 56, 57, 58, 59, 60, 61, 62, 63, 64, 65, 66, 67, 68, 69, 70, 71, 112, 113, 114, 90, 91, 92, 93, 94, 95, 96, 97, 98, 99, 100, 101, 102] (by decide +kernel) (by decide +kernel)
set_option maxRecDepth 20000 in
theorem gX4_passOne_X4_workOneMinute : GoodIn wsX4_passOne (va_wsS RX4 354 yX4_workOneMinute wsX4_workOneMinute) := goodIn_app (goodIn_of _ (by decide +kernel)) ggX4_passOne_X4_workOneMinute
set_option maxRecDepth 20000 in
theorem ggX4_passOne_X4_dropUnusedBookings : GoodIn wsX4_passOne wsX4_dropUnusedBookings := goodIn_r _ [75, 76, 77, 78, 79, 1, 80, 81, 82, 83, 84, 85, 86, 87, 88, 89, 115, 116, 117, 118] (by decide +kernel) (by decide +kernel)
set_option maxRecDepth 20000 in
theorem gX4_passOne_X4_dropUnusedBookings : GoodIn wsX4_passOne (wsV RX4 358 RX4 yX4_dropUnusedBookings wsX4_dropUnusedBookings) := goodIn_app (goodIn_of _ (by decide +kernel)) ggX4_passOne_X4_dropUnusedBookings
theorem dX4_passOne_0 : decode cX4_passOne 0 = .ok (.aload_n 0, 1) := by decide +kernel
theorem dX4_passOne_1 : decode cX4_passOne 1 = .ok (.dup, 1) := by decide +kernel
theorem dX4_passOne_2 : decode cX4_passOne 2 = .ok (.getfield 231, 3) := by decide +kernel
theorem dX4_passOne_5 : decode cX4_passOne 5 = .ok (.iconst 1, 1) := by decide +kernel
theorem dX4_passOne_6 : decode cX4_passOne 6 = .ok (.iadd, 1) := by decide +kernel
theorem dX4_passOne_7 : decode cX4_passOne 7 = .ok (.putfield 231, 3) := by decide +kernel
theorem dX4_passOne_10 : decode cX4_passOne 10 = .ok (.iconst 0, 1) := by decide +kernel
theorem dX4_passOne_11 : decode cX4_passOne 11 = .ok (.istore_n 1, 1) := by decide +kernel
theorem dX4_passOne_12 : decode cX4_passOne 12 = .ok (.iload_n 1, 1) := by decide +kernel
theorem dX4_passOne_13 : decode cX4_passOne 13 = .ok (.aload_n 0, 1) := by decide +kernel
theorem dX4_passOne_14 : decode cX4_passOne 14 = .ok (.getfield 49, 3) := by decide +kernel
theorem dX4_passOne_17 : decode cX4_passOne 17 = .ok (.if_icmp .ge 28, 3) := by decide +kernel
theorem dX4_passOne_20 : decode cX4_passOne 20 = .ok (.aload_n 0, 1) := by decide +kernel
theorem dX4_passOne_21 : decode cX4_passOne 21 = .ok (.getfield 11, 3) := by decide +kernel
theorem dX4_passOne_24 : decode cX4_passOne 24 = .ok (.iload_n 1, 1) := by decide +kernel
theorem dX4_passOne_25 : decode cX4_passOne 25 = .ok (.aaload, 1) := by decide +kernel
theorem dX4_passOne_26 : decode cX4_passOne 26 = .ok (.getfield 273, 3) := by decide +kernel
theorem dX4_passOne_29 : decode cX4_passOne 29 = .ok (.astore_n 2, 1) := by decide +kernel
theorem dX4_passOne_30 : decode cX4_passOne 30 = .ok (.aload_n 2, 1) := by decide +kernel
theorem dX4_passOne_31 : decode cX4_passOne 31 = .ok (.ifnull 8, 3) := by decide +kernel
theorem dX4_passOne_34 : decode cX4_passOne 34 = .ok (.aload_n 0, 1) := by decide +kernel
theorem dX4_passOne_35 : decode cX4_passOne 35 = .ok (.aload_n 2, 1) := by decide +kernel
theorem dX4_passOne_36 : decode cX4_passOne 36 = .ok (.invokevirtual 198, 3) := by decide +kernel
theorem dX4_passOne_39 : decode cX4_passOne 39 = .ok (.iinc 1 1, 3) := by decide +kernel
theorem dX4_passOne_42 : decode cX4_passOne 42 = .ok (.goto (-30), 3) := by decide +kernel
theorem dX4_passOne_45 : decode cX4_passOne 45 = .ok (.iconst 0, 1) := by decide +kernel
theorem dX4_passOne_46 : decode cX4_passOne 46 = .ok (.istore_n 1, 1) := by decide +kernel
theorem dX4_passOne_47 : decode cX4_passOne 47 = .ok (.iload_n 1, 1) := by decide +kernel
theorem dX4_passOne_48 : decode cX4_passOne 48 = .ok (.iconst 3, 1) := by decide +kernel
theorem dX4_passOne_49 : decode cX4_passOne 49 = .ok (.if_icmp .ge 18, 3) := by decide +kernel
theorem dX4_passOne_52 : decode cX4_passOne 52 = .ok (.aload_n 0, 1) := by decide +kernel
theorem dX4_passOne_53 : decode cX4_passOne 53 = .ok (.getfield 29, 3) := by decide +kernel
theorem dX4_passOne_56 : decode cX4_passOne 56 = .ok (.iload_n 1, 1) := by decide +kernel
theorem dX4_passOne_57 : decode cX4_passOne 57 = .ok (.aaload, 1) := by decide +kernel
theorem dX4_passOne_58 : decode cX4_passOne 58 = .ok (.invokestatic 354, 3) := by decide +kernel
theorem dX4_passOne_61 : decode cX4_passOne 61 = .ok (.iinc 1 1, 3) := by decide +kernel
theorem dX4_passOne_64 : decode cX4_passOne 64 = .ok (.goto (-17), 3) := by decide +kernel
theorem dX4_passOne_67 : decode cX4_passOne 67 = .ok (.aload_n 0, 1) := by decide +kernel
theorem dX4_passOne_68 : decode cX4_passOne 68 = .ok (.invokevirtual 358, 3) := by decide +kernel
theorem dX4_passOne_71 : decode cX4_passOne 71 = .ok (.return_, 1) := by decide +kernel
theorem dX4_dropUnusedBookings_0 : decode cX4_dropUnusedBookings 0 = .ok (.iconst 0, 1) := by decide +kernel
theorem dX4_dropUnusedBookings_1 : decode cX4_dropUnusedBookings 1 = .ok (.istore_n 1, 1) := by decide +kernel
theorem dX4_dropUnusedBookings_2 : decode cX4_dropUnusedBookings 2 = .ok (.iload_n 1, 1) := by decide +kernel
theorem dX4_dropUnusedBookings_3 : decode cX4_dropUnusedBookings 3 = .ok (.aload_n 0, 1) := by decide +kernel
theorem dX4_dropUnusedBookings_4 : decode cX4_dropUnusedBookings 4 = .ok (.getfield 240, 3) := by decide +kernel
theorem dX4_dropUnusedBookings_7 : decode cX4_dropUnusedBookings 7 = .ok (.if_icmp .ge 42, 3) := by decide +kernel
theorem dX4_dropUnusedBookings_10 : decode cX4_dropUnusedBookings 10 = .ok (.aload_n 0, 1) := by decide +kernel
theorem dX4_dropUnusedBookings_11 : decode cX4_dropUnusedBookings 11 = .ok (.getfield 23, 3) := by decide +kernel
theorem dX4_dropUnusedBookings_14 : decode cX4_dropUnusedBookings 14 = .ok (.iload_n 1, 1) := by decide +kernel
theorem dX4_dropUnusedBookings_15 : decode cX4_dropUnusedBookings 15 = .ok (.aaload, 1) := by decide +kernel
theorem dX4_dropUnusedBookings_16 : decode cX4_dropUnusedBookings 16 = .ok (.astore_n 2, 1) := by decide +kernel
theorem dX4_dropUnusedBookings_17 : decode cX4_dropUnusedBookings 17 = .ok (.aload_n 2, 1) := by decide +kernel
theorem dX4_dropUnusedBookings_18 : decode cX4_dropUnusedBookings 18 = .ok (.getfield 252, 3) := by decide +kernel
theorem dX4_dropUnusedBookings_21 : decode cX4_dropUnusedBookings 21 = .ok (.ifCond .ne 22, 3) := by decide +kernel
theorem dX4_dropUnusedBookings_24 : decode cX4_dropUnusedBookings 24 = .ok (.aload_n 2, 1) := by decide +kernel
theorem dX4_dropUnusedBookings_25 : decode cX4_dropUnusedBookings 25 = .ok (.getfield 299, 3) := by decide +kernel
theorem dX4_dropUnusedBookings_28 : decode cX4_dropUnusedBookings 28 = .ok (.bipush 15, 2) := by decide +kernel
theorem dX4_dropUnusedBookings_30 : decode cX4_dropUnusedBookings 30 = .ok (.iadd, 1) := by decide +kernel
theorem dX4_dropUnusedBookings_31 : decode cX4_dropUnusedBookings 31 = .ok (.aload_n 0, 1) := by decide +kernel
theorem dX4_dropUnusedBookings_32 : decode cX4_dropUnusedBookings 32 = .ok (.getfield 231, 3) := by decide +kernel
theorem dX4_dropUnusedBookings_35 : decode cX4_dropUnusedBookings 35 = .ok (.if_icmp .gt 8, 3) := by decide +kernel
theorem dX4_dropUnusedBookings_38 : decode cX4_dropUnusedBookings 38 = .ok (.aload_n 2, 1) := by decide +kernel
theorem dX4_dropUnusedBookings_39 : decode cX4_dropUnusedBookings 39 = .ok (.iconst 2, 1) := by decide +kernel
theorem dX4_dropUnusedBookings_40 : decode cX4_dropUnusedBookings 40 = .ok (.putfield 252, 3) := by decide +kernel
theorem dX4_dropUnusedBookings_43 : decode cX4_dropUnusedBookings 43 = .ok (.iinc 1 1, 3) := by decide +kernel
theorem dX4_dropUnusedBookings_46 : decode cX4_dropUnusedBookings 46 = .ok (.goto (-44), 3) := by decide +kernel
theorem dX4_dropUnusedBookings_49 : decode cX4_dropUnusedBookings 49 = .ok (.return_, 1) := by decide +kernel
