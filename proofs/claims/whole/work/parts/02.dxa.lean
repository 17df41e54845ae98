theorem dX0_init_0 : decode cX0_init 0 = .ok (.aload_n 0, 1) := by decide +kernel
theorem dX0_init_1 : decode cX0_init 1 = .ok (.invokespecial 3, 3) := by decide +kernel
theorem dX0_init_4 : decode cX0_init 4 = .ok (.aload_n 0, 1) := by decide +kernel
theorem dX0_init_5 : decode cX0_init 5 = .ok (.aload_n 1, 1) := by decide +kernel
theorem dX0_init_6 : decode cX0_init 6 = .ok (.putfield 9, 3) := by decide +kernel
theorem dX0_init_9 : decode cX0_init 9 = .ok (.return_, 1) := by decide +kernel
set_option maxRecDepth 20000 in
theorem ggX0_begin_X0_beginTable : GoodIn wsX0_begin wsX0_beginTable := goodIn_r _ [9, 10, 11, 2, 12, 13, 14, 15, 16, 17, 18, 19, 20, 21, 22, 23, 24, 25, 26, 27, 28, 29, 30, 31] (by decide +kernel) (by decide +kernel)
set_option maxRecDepth 20000 in
theorem gX0_begin_X0_beginTable : GoodIn wsX0_begin (wsV RX0 15 RX0 yX0_beginTable wsX0_beginTable) := goodIn_app (goodIn_of _ (by decide +kernel)) ggX0_begin_X0_beginTable
theorem dX0_begin_0 : decode cX0_begin 0 = .ok (.aload_n 0, 1) := by decide +kernel
theorem dX0_begin_1 : decode cX0_begin 1 = .ok (.invokevirtual 15, 3) := by decide +kernel
theorem dX0_begin_4 : decode cX0_begin 4 = .ok (.aload_n 0, 1) := by decide +kernel
theorem dX0_begin_5 : decode cX0_begin 5 = .ok (.iconst 0, 1) := by decide +kernel
theorem dX0_begin_6 : decode cX0_begin 6 = .ok (.putfield 18, 3) := by decide +kernel
theorem dX0_begin_9 : decode cX0_begin 9 = .ok (.aload_n 0, 1) := by decide +kernel
theorem dX0_begin_10 : decode cX0_begin 10 = .ok (.aload_n 0, 1) := by decide +kernel
theorem dX0_begin_11 : decode cX0_begin 11 = .ok (.getfield 22, 3) := by decide +kernel
theorem dX0_begin_14 : decode cX0_begin 14 = .ok (.putfield 25, 3) := by decide +kernel
theorem dX0_begin_17 : decode cX0_begin 17 = .ok (.aload_n 0, 1) := by decide +kernel
theorem dX0_begin_18 : decode cX0_begin 18 = .ok (.iconst 0, 1) := by decide +kernel
theorem dX0_begin_19 : decode cX0_begin 19 = .ok (.putfield 28, 3) := by decide +kernel
theorem dX0_begin_22 : decode cX0_begin 22 = .ok (.return_, 1) := by decide +kernel
set_option maxRecDepth 20000 in
theorem ggX0_bitsThatFill_X0_groupEnds : GoodIn wsX0_bitsThatFill wsX0_groupEnds := goodIn_r _ [8, 9, 3, 10, 11, 12, 13, 14, 15, 16, 17] (by decide +kernel) (by decide +kernel)
set_option maxRecDepth 20000 in
theorem gX0_bitsThatFill_X0_groupEnds : GoodIn wsX0_bitsThatFill (wsV RX0 37 RX0 yX0_groupEnds wsX0_groupEnds) := goodIn_app (goodIn_of _ (by decide +kernel)) ggX0_bitsThatFill_X0_groupEnds
theorem dX0_bitsThatFill_0 : decode cX0_bitsThatFill 0 = .ok (.aload_n 0, 1) := by decide +kernel
theorem dX0_bitsThatFill_1 : decode cX0_bitsThatFill 1 = .ok (.getfield 9, 3) := by decide +kernel
theorem dX0_bitsThatFill_4 : decode cX0_bitsThatFill 4 = .ok (.getfield 32, 3) := by decide +kernel
theorem dX0_bitsThatFill_7 : decode cX0_bitsThatFill 7 = .ok (.ifCond .eq 17, 3) := by decide +kernel
theorem dX0_bitsThatFill_10 : decode cX0_bitsThatFill 10 = .ok (.aload_n 0, 1) := by decide +kernel
theorem dX0_bitsThatFill_11 : decode cX0_bitsThatFill 11 = .ok (.getfield 18, 3) := by decide +kernel
theorem dX0_bitsThatFill_14 : decode cX0_bitsThatFill 14 = .ok (.ifCond .eq 10, 3) := by decide +kernel
theorem dX0_bitsThatFill_17 : decode cX0_bitsThatFill 17 = .ok (.aload_n 0, 1) := by decide +kernel
theorem dX0_bitsThatFill_18 : decode cX0_bitsThatFill 18 = .ok (.invokevirtual 37, 3) := by decide +kernel
theorem dX0_bitsThatFill_21 : decode cX0_bitsThatFill 21 = .ok (.ifCond .ne 5, 3) := by decide +kernel
theorem dX0_bitsThatFill_24 : decode cX0_bitsThatFill 24 = .ok (.iconst 0, 1) := by decide +kernel
theorem dX0_bitsThatFill_25 : decode cX0_bitsThatFill 25 = .ok (.ireturn, 1) := by decide +kernel
theorem dX0_bitsThatFill_26 : decode cX0_bitsThatFill 26 = .ok (.bipush 8, 2) := by decide +kernel
theorem dX0_bitsThatFill_28 : decode cX0_bitsThatFill 28 = .ok (.aload_n 0, 1) := by decide +kernel
theorem dX0_bitsThatFill_29 : decode cX0_bitsThatFill 29 = .ok (.getfield 18, 3) := by decide +kernel
theorem dX0_bitsThatFill_32 : decode cX0_bitsThatFill 32 = .ok (.isub, 1) := by decide +kernel
theorem dX0_bitsThatFill_33 : decode cX0_bitsThatFill 33 = .ok (.aload_n 0, 1) := by decide +kernel
theorem dX0_bitsThatFill_34 : decode cX0_bitsThatFill 34 = .ok (.getfield 25, 3) := by decide +kernel
theorem dX0_bitsThatFill_37 : decode cX0_bitsThatFill 37 = .ok (.imul, 1) := by decide +kernel
theorem dX0_bitsThatFill_38 : decode cX0_bitsThatFill 38 = .ok (.ireturn, 1) := by decide +kernel
set_option maxRecDepth 20000 in
theorem ggX0_pass_X0_groupEnds : GoodIn wsX0_pass wsX0_groupEnds := goodIn_r _ [10, 5, 3, 2, 31, 32, 33, 34, 35, 36, 37] (by decide +kernel) (by decide +kernel)
set_option maxRecDepth 20000 in
theorem gX0_pass_X0_groupEnds : GoodIn wsX0_pass (wsV RX0 37 RX0 yX0_groupEnds wsX0_groupEnds) := goodIn_app (goodIn_of _ (by decide +kernel)) ggX0_pass_X0_groupEnds
set_option maxRecDepth 20000 in
theorem ggX0_pass_X0_beginTable : GoodIn wsX0_pass wsX0_beginTable := goodIn_r _ [14, 4, 15, 2, 16, 31, 32, 33, 34, 35, 36, 37, 38, 39, 40, 41, 42, 43, 44, 45, 46, 47, 48, 49] (by decide +kernel) (by decide +kernel)
set_option maxRecDepth 20000 in
theorem gX0_pass_X0_beginTable : GoodIn wsX0_pass (wsV RX0 15 RX0 yX0_beginTable wsX0_beginTable) := goodIn_app (goodIn_of _ (by decide +kernel)) ggX0_pass_X0_beginTable
set_option maxRecDepth 20000 in
theorem ggX0_pass_X0_passString : GoodIn wsX0_pass wsX0_passString := goodIn_r _ [20, 16, 15, 4, 21, 22, 23, 24, 2, 25, 26, 27, 28, 29, 30, 31, 32, 33, 34, 35, 36, 37, 38, 39, 40, 41, 42, 43, 44, 45, 46, 47, 48, 49] (by decide +kernel) (by decide +kernel)
set_option maxRecDepth 20000 in
theorem gX0_pass_X0_passString : GoodIn wsX0_pass (wsV RX0 47 RX0 yX0_passString wsX0_passString) := goodIn_app (goodIn_of _ (by decide +kernel)) ggX0_pass_X0_passString
theorem dX0_pass_0 : decode cX0_pass 0 = .ok (.aload_n 0, 1) := by decide +kernel
theorem dX0_pass_1 : decode cX0_pass 1 = .ok (.invokevirtual 37, 3) := by decide +kernel
theorem dX0_pass_4 : decode cX0_pass 4 = .ok (.ifCond .eq 8, 3) := by decide +kernel
theorem dX0_pass_7 : decode cX0_pass 7 = .ok (.aload_n 0, 1) := by decide +kernel
theorem dX0_pass_8 : decode cX0_pass 8 = .ok (.iconst 0, 1) := by decide +kernel
theorem dX0_pass_9 : decode cX0_pass 9 = .ok (.putfield 18, 3) := by decide +kernel
theorem dX0_pass_12 : decode cX0_pass 12 = .ok (.aload_n 0, 1) := by decide +kernel
theorem dX0_pass_13 : decode cX0_pass 13 = .ok (.aload_n 0, 1) := by decide +kernel
theorem dX0_pass_14 : decode cX0_pass 14 = .ok (.getfield 18, 3) := by decide +kernel
theorem dX0_pass_17 : decode cX0_pass 17 = .ok (.iconst 1, 1) := by decide +kernel
theorem dX0_pass_18 : decode cX0_pass 18 = .ok (.iadd, 1) := by decide +kernel
theorem dX0_pass_19 : decode cX0_pass 19 = .ok (.bipush 8, 2) := by decide +kernel
theorem dX0_pass_21 : decode cX0_pass 21 = .ok (.irem, 1) := by decide +kernel
theorem dX0_pass_22 : decode cX0_pass 22 = .ok (.putfield 18, 3) := by decide +kernel
theorem dX0_pass_25 : decode cX0_pass 25 = .ok (.aload_n 0, 1) := by decide +kernel
theorem dX0_pass_26 : decode cX0_pass 26 = .ok (.aload_n 0, 1) := by decide +kernel
theorem dX0_pass_27 : decode cX0_pass 27 = .ok (.getfield 22, 3) := by decide +kernel
theorem dX0_pass_30 : decode cX0_pass 30 = .ok (.putfield 25, 3) := by decide +kernel
theorem dX0_pass_33 : decode cX0_pass 33 = .ok (.aload_n 0, 1) := by decide +kernel
theorem dX0_pass_34 : decode cX0_pass 34 = .ok (.iload_n 1, 1) := by decide +kernel
theorem dX0_pass_35 : decode cX0_pass 35 = .ok (.aload_n 0, 1) := by decide +kernel
theorem dX0_pass_36 : decode cX0_pass 36 = .ok (.getfield 9, 3) := by decide +kernel
theorem dX0_pass_39 : decode cX0_pass 39 = .ok (.getfield 41, 3) := by decide +kernel
theorem dX0_pass_42 : decode cX0_pass 42 = .ok (.if_icmp .ne 7, 3) := by decide +kernel
theorem dX0_pass_45 : decode cX0_pass 45 = .ok (.iconst 1, 1) := by decide +kernel
theorem dX0_pass_46 : decode cX0_pass 46 = .ok (.goto 4, 3) := by decide +kernel
theorem dX0_pass_49 : decode cX0_pass 49 = .ok (.iconst 0, 1) := by decide +kernel
theorem dX0_pass_50 : decode cX0_pass 50 = .ok (.putfield 28, 3) := by decide +kernel
theorem dX0_pass_53 : decode cX0_pass 53 = .ok (.aload_n 0, 1) := by decide +kernel
theorem dX0_pass_54 : decode cX0_pass 54 = .ok (.getfield 28, 3) := by decide +kernel
theorem dX0_pass_57 : decode cX0_pass 57 = .ok (.ifCond .eq 10, 3) := by decide +kernel
theorem dX0_pass_60 : decode cX0_pass 60 = .ok (.aload_n 0, 1) := by decide +kernel
theorem dX0_pass_61 : decode cX0_pass 61 = .ok (.invokevirtual 15, 3) := by decide +kernel
theorem dX0_pass_64 : decode cX0_pass 64 = .ok (.goto 18, 3) := by decide +kernel
theorem dX0_pass_67 : decode cX0_pass 67 = .ok (.iload_n 1, 1) := by decide +kernel
theorem dX0_pass_68 : decode cX0_pass 68 = .ok (.aload_n 0, 1) := by decide +kernel
theorem dX0_pass_69 : decode cX0_pass 69 = .ok (.getfield 9, 3) := by decide +kernel
theorem dX0_pass_72 : decode cX0_pass 72 = .ok (.getfield 44, 3) := by decide +kernel
theorem dX0_pass_75 : decode cX0_pass 75 = .ok (.if_icmp .eq 7, 3) := by decide +kernel
theorem dX0_pass_78 : decode cX0_pass 78 = .ok (.aload_n 0, 1) := by decide +kernel
theorem dX0_pass_79 : decode cX0_pass 79 = .ok (.invokevirtual 47, 3) := by decide +kernel
theorem dX0_pass_82 : decode cX0_pass 82 = .ok (.return_, 1) := by decide +kernel
theorem dX0_groupEnds_0 : decode cX0_groupEnds 0 = .ok (.aload_n 0, 1) := by decide +kernel
theorem dX0_groupEnds_1 : decode cX0_groupEnds 1 = .ok (.getfield 28, 3) := by decide +kernel
theorem dX0_groupEnds_4 : decode cX0_groupEnds 4 = .ok (.ifCond .ne 14, 3) := by decide +kernel
theorem dX0_groupEnds_7 : decode cX0_groupEnds 7 = .ok (.aload_n 0, 1) := by decide +kernel
theorem dX0_groupEnds_8 : decode cX0_groupEnds 8 = .ok (.getfield 25, 3) := by decide +kernel
theorem dX0_groupEnds_11 : decode cX0_groupEnds 11 = .ok (.aload_n 0, 1) := by decide +kernel
theorem dX0_groupEnds_12 : decode cX0_groupEnds 12 = .ok (.getfield 22, 3) := by decide +kernel
theorem dX0_groupEnds_15 : decode cX0_groupEnds 15 = .ok (.if_icmp .eq 7, 3) := by decide +kernel
theorem dX0_groupEnds_18 : decode cX0_groupEnds 18 = .ok (.iconst 1, 1) := by decide +kernel
theorem dX0_groupEnds_19 : decode cX0_groupEnds 19 = .ok (.goto 4, 3) := by decide +kernel
theorem dX0_groupEnds_22 : decode cX0_groupEnds 22 = .ok (.iconst 0, 1) := by decide +kernel
theorem dX0_groupEnds_23 : decode cX0_groupEnds 23 = .ok (.ireturn, 1) := by decide +kernel
theorem dX0_beginTable_0 : decode cX0_beginTable 0 = .ok (.aload_n 0, 1) := by decide +kernel
theorem dX0_beginTable_1 : decode cX0_beginTable 1 = .ok (.aload_n 0, 1) := by decide +kernel
theorem dX0_beginTable_2 : decode cX0_beginTable 2 = .ok (.getfield 9, 3) := by decide +kernel
theorem dX0_beginTable_5 : decode cX0_beginTable 5 = .ok (.getfield 50, 3) := by decide +kernel
theorem dX0_beginTable_8 : decode cX0_beginTable 8 = .ok (.putfield 53, 3) := by decide +kernel
theorem dX0_beginTable_11 : decode cX0_beginTable 11 = .ok (.aload_n 0, 1) := by decide +kernel
theorem dX0_beginTable_12 : decode cX0_beginTable 12 = .ok (.aload_n 0, 1) := by decide +kernel
theorem dX0_beginTable_13 : decode cX0_beginTable 13 = .ok (.getfield 9, 3) := by decide +kernel
theorem dX0_beginTable_16 : decode cX0_beginTable 16 = .ok (.getfield 56, 3) := by decide +kernel
theorem dX0_beginTable_19 : decode cX0_beginTable 19 = .ok (.iconst 1, 1) := by decide +kernel
theorem dX0_beginTable_20 : decode cX0_beginTable 20 = .ok (.iadd, 1) := by decide +kernel
theorem dX0_beginTable_21 : decode cX0_beginTable 21 = .ok (.putfield 22, 3) := by decide +kernel
theorem dX0_beginTable_24 : decode cX0_beginTable 24 = .ok (.aload_n 0, 1) := by decide +kernel
theorem dX0_beginTable_25 : decode cX0_beginTable 25 = .ok (.iconst 1, 1) := by decide +kernel
theorem dX0_beginTable_26 : decode cX0_beginTable 26 = .ok (.putfield 59, 3) := by decide +kernel
theorem dX0_beginTable_29 : decode cX0_beginTable 29 = .ok (.return_, 1) := by decide +kernel
set_option maxRecDepth 20000 in
theorem ggX0_passString_X3_countThatWidens : GoodIn wsX0_passString wsX3_countThatWidens := goodIn_r _ [13, 14, 22, 23, 24, 25, 26, 27, 28, 29, 30, 31, 32, 33] (by decide +kernel) (by decide +kernel)
set_option maxRecDepth 20000 in
theorem gX0_passString_X3_countThatWidens : GoodIn wsX0_passString (wsV RX0 71 RX3 yX3_countThatWidens wsX3_countThatWidens) := goodIn_app (goodIn_of _ (by decide +kernel)) ggX0_passString_X3_countThatWidens
theorem dX0_passString_0 : decode cX0_passString 0 = .ok (.aload_n 0, 1) := by decide +kernel
theorem dX0_passString_1 : decode cX0_passString 1 = .ok (.getfield 59, 3) := by decide +kernel
theorem dX0_passString_4 : decode cX0_passString 4 = .ok (.ifCond .eq 9, 3) := by decide +kernel
theorem dX0_passString_7 : decode cX0_passString 7 = .ok (.aload_n 0, 1) := by decide +kernel
theorem dX0_passString_8 : decode cX0_passString 8 = .ok (.iconst 0, 1) := by decide +kernel
theorem dX0_passString_9 : decode cX0_passString 9 = .ok (.putfield 59, 3) := by decide +kernel
theorem dX0_passString_12 : decode cX0_passString 12 = .ok (.return_, 1) := by decide +kernel
theorem dX0_passString_13 : decode cX0_passString 13 = .ok (.aload_n 0, 1) := by decide +kernel
theorem dX0_passString_14 : decode cX0_passString 14 = .ok (.aload_n 0, 1) := by decide +kernel
theorem dX0_passString_15 : decode cX0_passString 15 = .ok (.getfield 53, 3) := by decide +kernel
theorem dX0_passString_18 : decode cX0_passString 18 = .ok (.iconst 1, 1) := by decide +kernel
theorem dX0_passString_19 : decode cX0_passString 19 = .ok (.iadd, 1) := by decide +kernel
theorem dX0_passString_20 : decode cX0_passString 20 = .ok (.aload_n 0, 1) := by decide +kernel
theorem dX0_passString_21 : decode cX0_passString 21 = .ok (.getfield 9, 3) := by decide +kernel
theorem dX0_passString_24 : decode cX0_passString 24 = .ok (.getfield 62, 3) := by decide +kernel
theorem dX0_passString_27 : decode cX0_passString 27 = .ok (.invokestatic 65, 3) := by decide +kernel
theorem dX0_passString_30 : decode cX0_passString 30 = .ok (.putfield 53, 3) := by decide +kernel
theorem dX0_passString_33 : decode cX0_passString 33 = .ok (.aload_n 0, 1) := by decide +kernel
theorem dX0_passString_34 : decode cX0_passString 34 = .ok (.getfield 53, 3) := by decide +kernel
theorem dX0_passString_37 : decode cX0_passString 37 = .ok (.aload_n 0, 1) := by decide +kernel
theorem dX0_passString_38 : decode cX0_passString 38 = .ok (.getfield 9, 3) := by decide +kernel
theorem dX0_passString_41 : decode cX0_passString 41 = .ok (.aload_n 0, 1) := by decide +kernel
theorem dX0_passString_42 : decode cX0_passString 42 = .ok (.getfield 22, 3) := by decide +kernel
theorem dX0_passString_45 : decode cX0_passString 45 = .ok (.invokevirtual 71, 3) := by decide +kernel
theorem dX0_passString_48 : decode cX0_passString 48 = .ok (.if_icmp .lt 23, 3) := by decide +kernel
theorem dX0_passString_51 : decode cX0_passString 51 = .ok (.aload_n 0, 1) := by decide +kernel
theorem dX0_passString_52 : decode cX0_passString 52 = .ok (.aload_n 0, 1) := by decide +kernel
theorem dX0_passString_53 : decode cX0_passString 53 = .ok (.getfield 22, 3) := by decide +kernel
theorem dX0_passString_56 : decode cX0_passString 56 = .ok (.iconst 1, 1) := by decide +kernel
theorem dX0_passString_57 : decode cX0_passString 57 = .ok (.iadd, 1) := by decide +kernel
theorem dX0_passString_58 : decode cX0_passString 58 = .ok (.aload_n 0, 1) := by decide +kernel
theorem dX0_passString_59 : decode cX0_passString 59 = .ok (.getfield 9, 3) := by decide +kernel
theorem dX0_passString_62 : decode cX0_passString 62 = .ok (.getfield 75, 3) := by decide +kernel
theorem dX0_passString_65 : decode cX0_passString 65 = .ok (.invokestatic 65, 3) := by decide +kernel
theorem dX0_passString_68 : decode cX0_passString 68 = .ok (.putfield 22, 3) := by decide +kernel
theorem dX0_passString_71 : decode cX0_passString 71 = .ok (.return_, 1) := by decide +kernel
set_option maxRecDepth 20000 in
theorem ggX1_init_X0_init : GoodIn wsX1_init wsX0_init := goodIn_r _ [21, 22, 2, 3, 23, 51, 52, 53, 54, 55, 56, 57] (by decide +kernel) (by decide +kernel)
set_option maxRecDepth 20000 in
theorem gX1_init_X0_init : GoodIn wsX1_init (wsX0_init) := ggX1_init_X0_init
set_option maxRecDepth 20000 in
theorem ggX1_init_X4_init : GoodIn wsX1_init wsX4_init := goodIn_r _ [26, 27, 2, 3, 28, 29, 30, 31, 32, 33, 34, 35, 58, 59, 60, 61, 62, 63, 64] (by decide +kernel) (by decide +kernel)
set_option maxRecDepth 20000 in
theorem gX1_init_X4_init : GoodIn wsX1_init (wsX4_init) := ggX1_init_X4_init
set_option maxRecDepth 20000 in
theorem ggX1_init_X2_init : GoodIn wsX1_init wsX2_init := goodIn_r _ [38, 39, 2, 3, 29, 40, 41, 65, 66] (by decide +kernel) (by decide +kernel)
set_option maxRecDepth 20000 in
theorem gX1_init_X2_init : GoodIn wsX1_init (wsX2_init) := ggX1_init_X2_init
theorem dX1_init_0 : decode cX1_init 0 = .ok (.aload_n 0, 1) := by decide +kernel
theorem dX1_init_1 : decode cX1_init 1 = .ok (.invokespecial 3, 3) := by decide +kernel
theorem dX1_init_4 : decode cX1_init 4 = .ok (.aload_n 0, 1) := by decide +kernel
theorem dX1_init_5 : decode cX1_init 5 = .ok (.aload_n 1, 1) := by decide +kernel
theorem dX1_init_6 : decode cX1_init 6 = .ok (.putfield 9, 3) := by decide +kernel
theorem dX1_init_9 : decode cX1_init 9 = .ok (.aload_n 0, 1) := by decide +kernel
theorem dX1_init_10 : decode cX1_init 10 = .ok (.new 15, 3) := by decide +kernel
theorem dX1_init_13 : decode cX1_init 13 = .ok (.dup, 1) := by decide +kernel
theorem dX1_init_14 : decode cX1_init 14 = .ok (.aload_n 1, 1) := by decide +kernel
theorem dX1_init_15 : decode cX1_init 15 = .ok (.invokespecial 17, 3) := by decide +kernel
theorem dX1_init_18 : decode cX1_init 18 = .ok (.putfield 20, 3) := by decide +kernel
theorem dX1_init_21 : decode cX1_init 21 = .ok (.aload_n 0, 1) := by decide +kernel
theorem dX1_init_22 : decode cX1_init 22 = .ok (.new 24, 3) := by decide +kernel
theorem dX1_init_25 : decode cX1_init 25 = .ok (.dup, 1) := by decide +kernel
theorem dX1_init_26 : decode cX1_init 26 = .ok (.aload_n 1, 1) := by decide +kernel
theorem dX1_init_27 : decode cX1_init 27 = .ok (.invokespecial 26, 3) := by decide +kernel
theorem dX1_init_30 : decode cX1_init 30 = .ok (.putfield 27, 3) := by decide +kernel
theorem dX1_init_33 : decode cX1_init 33 = .ok (.aload_n 0, 1) := by decide +kernel
theorem dX1_init_34 : decode cX1_init 34 = .ok (.new 31, 3) := by decide +kernel
theorem dX1_init_37 : decode cX1_init 37 = .ok (.dup, 1) := by decide +kernel
theorem dX1_init_38 : decode cX1_init 38 = .ok (.sipush 452, 3) := by decide +kernel
theorem dX1_init_41 : decode cX1_init 41 = .ok (.invokespecial 33, 3) := by decide +kernel
theorem dX1_init_44 : decode cX1_init 44 = .ok (.putfield 36, 3) := by decide +kernel
theorem dX1_init_47 : decode cX1_init 47 = .ok (.aload_n 0, 1) := by decide +kernel
theorem dX1_init_48 : decode cX1_init 48 = .ok (.new 31, 3) := by decide +kernel
theorem dX1_init_51 : decode cX1_init 51 = .ok (.dup, 1) := by decide +kernel
theorem dX1_init_52 : decode cX1_init 52 = .ok (.sipush 452, 3) := by decide +kernel
theorem dX1_init_55 : decode cX1_init 55 = .ok (.invokespecial 33, 3) := by decide +kernel
theorem dX1_init_58 : decode cX1_init 58 = .ok (.putfield 40, 3) := by decide +kernel
theorem dX1_init_61 : decode cX1_init 61 = .ok (.aload_n 0, 1) := by decide +kernel
theorem dX1_init_62 : decode cX1_init 62 = .ok (.new 31, 3) := by decide +kernel
theorem dX1_init_65 : decode cX1_init 65 = .ok (.dup, 1) := by decide +kernel
theorem dX1_init_66 : decode cX1_init 66 = .ok (.sipush 452, 3) := by decide +kernel
theorem dX1_init_69 : decode cX1_init 69 = .ok (.invokespecial 33, 3) := by decide +kernel
theorem dX1_init_72 : decode cX1_init 72 = .ok (.putfield 43, 3) := by decide +kernel
theorem dX1_init_75 : decode cX1_init 75 = .ok (.return_, 1) := by decide +kernel
set_option maxRecDepth 20000 in
theorem ggX1_pack_X1_begin : GoodIn wsX1_pack wsX1_begin := goodIn_r _ [8, 9, 2, 10, 11, 12, 13, 14, 3, 15, 16, 17, 18, 19, 20, 21, 22, 23, 24, 25, 26, 27, 28, 29, 30, 31, 32, 33, 34, 35, 36, 37, 38, 39, 40, 41, 42, 43, 44, 131, 132, 133, 134, 135, 136, 137, 138, 139, 152, 153, 154, 155, 156, 157, 158, 140, 141, 142, 143, 144, 145, 146, 147, 148, 149, 150, 151, 159, 160, 161, 162, 163, 164, 165, 166, 167] (by decide +kernel) (by decide +kernel)
set_option maxRecDepth 20000 in
theorem gX1_pack_X1_begin : GoodIn wsX1_pack (wsV RX1 46 RX1 yX1_begin wsX1_begin) := goodIn_app (goodIn_of _ (by decide +kernel)) ggX1_pack_X1_begin
set_option maxRecDepth 20000 in
theorem ggX1_pack_X1_putClear : GoodIn wsX1_pack wsX1_putClear := goodIn_r _ [48, 1, 2, 14, 3, 49, 50, 51, 7, 52, 13, 9, 10, 11, 12, 53, 54, 55, 18, 56, 28, 20, 22, 57, 58, 59, 60, 23, 21, 61, 62, 63, 42, 64, 44, 65, 66, 67, 68, 69, 24, 25, 26, 27, 29, 30, 70, 71, 72, 73, 74, 75, 76, 77, 78, 79, 80, 81, 82, 83, 31, 32, 33, 34, 35, 36, 37, 38, 131, 132, 133, 134, 135, 136, 137, 138, 139, 140, 141, 142, 143, 144, 145, 146, 147, 148, 149, 150, 151, 152, 153, 154, 155, 156, 157, 158, 166, 167, 159, 160, 161, 162, 163, 164, 165] (by decide +kernel) (by decide +kernel)
set_option maxRecDepth 20000 in
theorem gX1_pack_X1_putClear : GoodIn wsX1_pack (wsV RX1 55 RX1 yX1_putClear wsX1_putClear) := goodIn_app (goodIn_of _ (by decide +kernel)) ggX1_pack_X1_putClear
set_option maxRecDepth 20000 in
theorem ggX1_pack_X2_size : GoodIn wsX1_pack wsX2_size := goodIn_r _ [87, 44, 166, 167] (by decide +kernel) (by decide +kernel)
set_option maxRecDepth 20000 in
theorem gX1_pack_X2_size : GoodIn wsX1_pack (wsV RX1 58 RX2 yX2_size wsX2_size) := goodIn_app (goodIn_of _ (by decide +kernel)) ggX1_pack_X2_size
set_option maxRecDepth 20000 in
theorem ggX1_pack_X1_longestFrom : GoodIn wsX1_pack wsX1_longestFrom := goodIn_r _ [91, 2, 92, 93, 94, 42, 95, 44, 65, 84, 85, 86, 87, 96, 97, 98, 34, 99, 38, 36, 100, 101, 102, 131, 132, 133, 134, 135, 136, 137, 138, 139, 166, 167, 159, 160, 161, 162, 163, 164, 165, 140, 141, 142, 143, 144, 145, 146, 147, 148, 149, 150, 151] (by decide +kernel) (by decide +kernel)
set_option maxRecDepth 20000 in
theorem gX1_pack_X1_longestFrom : GoodIn wsX1_pack (wsV RX1 62 RX1 yX1_longestFrom wsX1_longestFrom) := goodIn_app (goodIn_of _ (by decide +kernel)) ggX1_pack_X1_longestFrom
set_option maxRecDepth 20000 in
theorem ggX1_pack_X4_lengthOf : GoodIn wsX1_pack wsX4_lengthOf := goodIn_r _ [106, 101, 107, 108, 109, 110, 81, 111, 112, 113, 114, 115, 34, 116, 36, 159, 160, 161, 162, 163, 164, 165, 140, 141, 142, 143, 144, 145, 146, 147, 148, 149, 150, 151] (by decide +kernel) (by decide +kernel)
set_option maxRecDepth 20000 in
theorem gX1_pack_X4_lengthOf : GoodIn wsX1_pack (wsV RX1 66 RX4 yX4_lengthOf wsX4_lengthOf) := goodIn_app (goodIn_of _ (by decide +kernel)) ggX1_pack_X4_lengthOf
set_option maxRecDepth 20000 in
theorem ggX1_pack_X1_put : GoodIn wsX1_pack wsX1_put := goodIn_r _ [52, 13, 9, 10, 11, 12, 53, 54, 55, 18, 56, 28, 20, 22, 57, 58, 59, 60, 23, 21, 61, 62, 63, 42, 64, 44, 65, 66, 67, 68, 69, 24, 25, 26, 27, 29, 30, 70, 71, 72, 73, 74, 75, 76, 77, 78, 79, 80, 81, 82, 83, 131, 132, 133, 134, 135, 136, 137, 138, 139, 152, 153, 154, 155, 156, 157, 158, 140, 141, 142, 143, 144, 145, 146, 147, 148, 149, 150, 151, 166, 167] (by decide +kernel) (by decide +kernel)
set_option maxRecDepth 20000 in
theorem gX1_pack_X1_put : GoodIn wsX1_pack (wsV RX1 70 RX1 yX1_put wsX1_put) := goodIn_app (goodIn_of _ (by decide +kernel)) ggX1_pack_X1_put
set_option maxRecDepth 20000 in
theorem ggX1_pack_X2_get : GoodIn wsX1_pack wsX2_get := goodIn_r _ [95, 44, 65, 166, 167] (by decide +kernel) (by decide +kernel)
set_option maxRecDepth 20000 in
theorem gX1_pack_X2_get : GoodIn wsX1_pack (wsV RX1 77 RX2 yX2_get wsX2_get) := goodIn_app (goodIn_of _ (by decide +kernel)) ggX1_pack_X2_get
set_option maxRecDepth 20000 in
theorem ggX1_pack_X4_addLonger : GoodIn wsX1_pack wsX4_addLonger := goodIn_r _ [120, 36, 37, 38, 100, 107, 102, 121, 104, 105, 34, 106, 101, 108, 109, 110, 81, 111, 112, 113, 114, 115, 116, 122, 123, 124, 125, 159, 160, 161, 162, 163, 164, 165, 140, 141, 142, 143, 144, 145, 146, 147, 148, 149, 150, 151] (by decide +kernel) (by decide +kernel)
set_option maxRecDepth 20000 in
theorem gX1_pack_X4_addLonger : GoodIn wsX1_pack (wsV RX1 80 RX4 yX4_addLonger wsX4_addLonger) := goodIn_app (goodIn_of _ (by decide +kernel)) ggX1_pack_X4_addLonger
set_option maxRecDepth 20000 in
theorem ggX1_pack_X1_clearIsDue : GoodIn wsX1_pack wsX1_clearIsDue := goodIn_r _ [129, 1, 2, 3, 130, 123, 124, 34, 125, 101, 36, 131, 132, 133, 134, 135, 136, 137, 138, 139, 140, 141, 142, 143, 144, 145, 146, 147, 148, 149, 150, 151, 159, 160, 161, 162, 163, 164, 165] (by decide +kernel) (by decide +kernel)
set_option maxRecDepth 20000 in
theorem gX1_pack_X1_clearIsDue : GoodIn wsX1_pack (wsV RX1 84 RX1 yX1_clearIsDue wsX1_clearIsDue) := goodIn_app (goodIn_of _ (by decide +kernel)) ggX1_pack_X1_clearIsDue
theorem dX1_pack_0 : decode cX1_pack 0 = .ok (.aload_n 0, 1) := by decide +kernel
theorem dX1_pack_1 : decode cX1_pack 1 = .ok (.invokevirtual 46, 3) := by decide +kernel
theorem dX1_pack_4 : decode cX1_pack 4 = .ok (.aload_n 0, 1) := by decide +kernel
theorem dX1_pack_5 : decode cX1_pack 5 = .ok (.getfield 9, 3) := by decide +kernel
theorem dX1_pack_8 : decode cX1_pack 8 = .ok (.getfield 49, 3) := by decide +kernel
theorem dX1_pack_11 : decode cX1_pack 11 = .ok (.ifCond .eq 7, 3) := by decide +kernel
theorem dX1_pack_14 : decode cX1_pack 14 = .ok (.aload_n 0, 1) := by decide +kernel
theorem dX1_pack_15 : decode cX1_pack 15 = .ok (.invokevirtual 55, 3) := by decide +kernel
theorem dX1_pack_18 : decode cX1_pack 18 = .ok (.iconst 0, 1) := by decide +kernel
theorem dX1_pack_19 : decode cX1_pack 19 = .ok (.istore_n 2, 1) := by decide +kernel
theorem dX1_pack_20 : decode cX1_pack 20 = .ok (.iconst 0, 1) := by decide +kernel
theorem dX1_pack_21 : decode cX1_pack 21 = .ok (.istore_n 3, 1) := by decide +kernel
theorem dX1_pack_22 : decode cX1_pack 22 = .ok (.iload_n 3, 1) := by decide +kernel
theorem dX1_pack_23 : decode cX1_pack 23 = .ok (.aload_n 1, 1) := by decide +kernel
theorem dX1_pack_24 : decode cX1_pack 24 = .ok (.invokevirtual 58, 3) := by decide +kernel
theorem dX1_pack_27 : decode cX1_pack 27 = .ok (.if_icmp .ge 86, 3) := by decide +kernel
theorem dX1_pack_30 : decode cX1_pack 30 = .ok (.iload_n 2, 1) := by decide +kernel
theorem dX1_pack_31 : decode cX1_pack 31 = .ok (.aload_n 1, 1) := by decide +kernel
theorem dX1_pack_32 : decode cX1_pack 32 = .ok (.invokevirtual 58, 3) := by decide +kernel
theorem dX1_pack_35 : decode cX1_pack 35 = .ok (.if_icmp .ge 78, 3) := by decide +kernel
theorem dX1_pack_38 : decode cX1_pack 38 = .ok (.aload_n 0, 1) := by decide +kernel
theorem dX1_pack_39 : decode cX1_pack 39 = .ok (.aload_n 1, 1) := by decide +kernel
theorem dX1_pack_40 : decode cX1_pack 40 = .ok (.iload_n 2, 1) := by decide +kernel
theorem dX1_pack_41 : decode cX1_pack 41 = .ok (.invokevirtual 62, 3) := by decide +kernel
theorem dX1_pack_44 : decode cX1_pack 44 = .ok (.istore 4, 2) := by decide +kernel
theorem dX1_pack_46 : decode cX1_pack 46 = .ok (.iload_n 2, 1) := by decide +kernel
theorem dX1_pack_47 : decode cX1_pack 47 = .ok (.aload_n 0, 1) := by decide +kernel
theorem dX1_pack_48 : decode cX1_pack 48 = .ok (.getfield 27, 3) := by decide +kernel
theorem dX1_pack_51 : decode cX1_pack 51 = .ok (.iload 4, 2) := by decide +kernel
theorem dX1_pack_53 : decode cX1_pack 53 = .ok (.invokevirtual 66, 3) := by decide +kernel
theorem dX1_pack_56 : decode cX1_pack 56 = .ok (.iadd, 1) := by decide +kernel
theorem dX1_pack_57 : decode cX1_pack 57 = .ok (.istore_n 2, 1) := by decide +kernel
theorem dX1_pack_58 : decode cX1_pack 58 = .ok (.aload_n 0, 1) := by decide +kernel
theorem dX1_pack_59 : decode cX1_pack 59 = .ok (.iload 4, 2) := by decide +kernel
theorem dX1_pack_61 : decode cX1_pack 61 = .ok (.invokevirtual 70, 3) := by decide +kernel
theorem dX1_pack_64 : decode cX1_pack 64 = .ok (.aload_n 0, 1) := by decide +kernel
theorem dX1_pack_65 : decode cX1_pack 65 = .ok (.dup, 1) := by decide +kernel
theorem dX1_pack_66 : decode cX1_pack 66 = .ok (.getfield 73, 3) := by decide +kernel
theorem dX1_pack_69 : decode cX1_pack 69 = .ok (.iconst 1, 1) := by decide +kernel
theorem dX1_pack_70 : decode cX1_pack 70 = .ok (.iadd, 1) := by decide +kernel
theorem dX1_pack_71 : decode cX1_pack 71 = .ok (.putfield 73, 3) := by decide +kernel
theorem dX1_pack_74 : decode cX1_pack 74 = .ok (.iload_n 2, 1) := by decide +kernel
theorem dX1_pack_75 : decode cX1_pack 75 = .ok (.aload_n 1, 1) := by decide +kernel
theorem dX1_pack_76 : decode cX1_pack 76 = .ok (.invokevirtual 58, 3) := by decide +kernel
theorem dX1_pack_79 : decode cX1_pack 79 = .ok (.if_icmp .ge 28, 3) := by decide +kernel
theorem dX1_pack_82 : decode cX1_pack 82 = .ok (.aload_n 0, 1) := by decide +kernel
theorem dX1_pack_83 : decode cX1_pack 83 = .ok (.getfield 27, 3) := by decide +kernel
theorem dX1_pack_86 : decode cX1_pack 86 = .ok (.iload 4, 2) := by decide +kernel
theorem dX1_pack_88 : decode cX1_pack 88 = .ok (.aload_n 1, 1) := by decide +kernel
theorem dX1_pack_89 : decode cX1_pack 89 = .ok (.iload_n 2, 1) := by decide +kernel
theorem dX1_pack_90 : decode cX1_pack 90 = .ok (.invokevirtual 77, 3) := by decide +kernel
theorem dX1_pack_93 : decode cX1_pack 93 = .ok (.invokevirtual 80, 3) := by decide +kernel
theorem dX1_pack_96 : decode cX1_pack 96 = .ok (.aload_n 0, 1) := by decide +kernel
theorem dX1_pack_97 : decode cX1_pack 97 = .ok (.invokevirtual 84, 3) := by decide +kernel
theorem dX1_pack_100 : decode cX1_pack 100 = .ok (.ifCond .eq 7, 3) := by decide +kernel
theorem dX1_pack_103 : decode cX1_pack 103 = .ok (.aload_n 0, 1) := by decide +kernel
theorem dX1_pack_104 : decode cX1_pack 104 = .ok (.invokevirtual 55, 3) := by decide +kernel
theorem dX1_pack_107 : decode cX1_pack 107 = .ok (.iinc 3 1, 3) := by decide +kernel
theorem dX1_pack_110 : decode cX1_pack 110 = .ok (.goto (-88), 3) := by decide +kernel
theorem dX1_pack_113 : decode cX1_pack 113 = .ok (.aload_n 0, 1) := by decide +kernel
theorem dX1_pack_114 : decode cX1_pack 114 = .ok (.getfield 9, 3) := by decide +kernel
theorem dX1_pack_117 : decode cX1_pack 117 = .ok (.getfield 49, 3) := by decide +kernel
theorem dX1_pack_120 : decode cX1_pack 120 = .ok (.ifCond .eq 14, 3) := by decide +kernel
theorem dX1_pack_123 : decode cX1_pack 123 = .ok (.aload_n 0, 1) := by decide +kernel
theorem dX1_pack_124 : decode cX1_pack 124 = .ok (.aload_n 0, 1) := by decide +kernel
theorem dX1_pack_125 : decode cX1_pack 125 = .ok (.getfield 9, 3) := by decide +kernel
theorem dX1_pack_128 : decode cX1_pack 128 = .ok (.getfield 88, 3) := by decide +kernel
theorem dX1_pack_131 : decode cX1_pack 131 = .ok (.invokevirtual 70, 3) := by decide +kernel
theorem dX1_pack_134 : decode cX1_pack 134 = .ok (.return_, 1) := by decide +kernel
set_option maxRecDepth 20000 in
theorem ggX1_begin_X0_begin : GoodIn wsX1_begin wsX0_begin := goodIn_r _ [13, 14, 15, 16, 17, 18, 19, 20, 12, 21, 22, 23, 24, 48, 49, 50, 51, 52, 53, 54, 55, 56, 57, 58, 59, 60, 61, 62, 63, 64, 65, 66] (by decide +kernel) (by decide +kernel)
set_option maxRecDepth 20000 in
theorem gX1_begin_X0_begin : GoodIn wsX1_begin (wsV RX1 91 RX0 yX0_begin wsX0_begin) := goodIn_app (goodIn_of _ (by decide +kernel)) ggX1_begin_X0_begin
set_option maxRecDepth 20000 in
theorem ggX1_begin_X4_wipe : GoodIn wsX1_begin wsX4_wipe := goodIn_r _ [29, 30, 31, 32, 67, 68, 69, 70, 71, 72, 73] (by decide +kernel) (by decide +kernel)
set_option maxRecDepth 20000 in
theorem gX1_begin_X4_wipe : GoodIn wsX1_begin (wsV RX1 92 RX4 yX4_wipe wsX4_wipe) := goodIn_app (goodIn_of _ (by decide +kernel)) ggX1_begin_X4_wipe
set_option maxRecDepth 20000 in
theorem ggX1_begin_X2_shrinkTo : GoodIn wsX1_begin wsX2_shrinkTo := goodIn_r _ [37, 38, 74, 75] (by decide +kernel) (by decide +kernel)
set_option maxRecDepth 20000 in
theorem gX1_begin_X2_shrinkTo : GoodIn wsX1_begin (wsV RX1 95 RX2 yX2_shrinkTo wsX2_shrinkTo) := goodIn_app (goodIn_of _ (by decide +kernel)) ggX1_begin_X2_shrinkTo
theorem dX1_begin_0 : decode cX1_begin 0 = .ok (.aload_n 0, 1) := by decide +kernel
theorem dX1_begin_1 : decode cX1_begin 1 = .ok (.getfield 20, 3) := by decide +kernel
theorem dX1_begin_4 : decode cX1_begin 4 = .ok (.invokevirtual 91, 3) := by decide +kernel
theorem dX1_begin_7 : decode cX1_begin 7 = .ok (.aload_n 0, 1) := by decide +kernel
theorem dX1_begin_8 : decode cX1_begin 8 = .ok (.getfield 27, 3) := by decide +kernel
theorem dX1_begin_11 : decode cX1_begin 11 = .ok (.invokevirtual 92, 3) := by decide +kernel
theorem dX1_begin_14 : decode cX1_begin 14 = .ok (.aload_n 0, 1) := by decide +kernel
theorem dX1_begin_15 : decode cX1_begin 15 = .ok (.getfield 36, 3) := by decide +kernel
theorem dX1_begin_18 : decode cX1_begin 18 = .ok (.iconst 0, 1) := by decide +kernel
theorem dX1_begin_19 : decode cX1_begin 19 = .ok (.invokevirtual 95, 3) := by decide +kernel
theorem dX1_begin_22 : decode cX1_begin 22 = .ok (.aload_n 0, 1) := by decide +kernel
theorem dX1_begin_23 : decode cX1_begin 23 = .ok (.getfield 40, 3) := by decide +kernel
theorem dX1_begin_26 : decode cX1_begin 26 = .ok (.iconst 0, 1) := by decide +kernel
theorem dX1_begin_27 : decode cX1_begin 27 = .ok (.invokevirtual 95, 3) := by decide +kernel
theorem dX1_begin_30 : decode cX1_begin 30 = .ok (.aload_n 0, 1) := by decide +kernel
theorem dX1_begin_31 : decode cX1_begin 31 = .ok (.getfield 43, 3) := by decide +kernel
theorem dX1_begin_34 : decode cX1_begin 34 = .ok (.iconst 0, 1) := by decide +kernel
theorem dX1_begin_35 : decode cX1_begin 35 = .ok (.invokevirtual 95, 3) := by decide +kernel
theorem dX1_begin_38 : decode cX1_begin 38 = .ok (.aload_n 0, 1) := by decide +kernel
theorem dX1_begin_39 : decode cX1_begin 39 = .ok (.iconst 0, 1) := by decide +kernel
theorem dX1_begin_40 : decode cX1_begin 40 = .ok (.putfield 98, 3) := by decide +kernel
theorem dX1_begin_43 : decode cX1_begin 43 = .ok (.aload_n 0, 1) := by decide +kernel
theorem dX1_begin_44 : decode cX1_begin 44 = .ok (.iconst 0, 1) := by decide +kernel
theorem dX1_begin_45 : decode cX1_begin 45 = .ok (.putfield 101, 3) := by decide +kernel
theorem dX1_begin_48 : decode cX1_begin 48 = .ok (.aload_n 0, 1) := by decide +kernel
theorem dX1_begin_49 : decode cX1_begin 49 = .ok (.iconst 0, 1) := by decide +kernel
theorem dX1_begin_50 : decode cX1_begin 50 = .ok (.putfield 73, 3) := by decide +kernel
theorem dX1_begin_53 : decode cX1_begin 53 = .ok (.return_, 1) := by decide +kernel
set_option maxRecDepth 20000 in
theorem ggX1_longestFrom_X2_get : GoodIn wsX1_longestFrom wsX2_get := goodIn_r _ [6, 7, 8, 32, 33] (by decide +kernel) (by decide +kernel)
set_option maxRecDepth 20000 in
theorem gX1_longestFrom_X2_get : GoodIn wsX1_longestFrom (wsV RX1 77 RX2 yX2_get wsX2_get) := goodIn_app (goodIn_of _ (by decide +kernel)) ggX1_longestFrom_X2_get
set_option maxRecDepth 20000 in
theorem ggX1_longestFrom_X2_size : GoodIn wsX1_longestFrom wsX2_size := goodIn_r _ [12, 7, 32, 33] (by decide +kernel) (by decide +kernel)
set_option maxRecDepth 20000 in
theorem gX1_longestFrom_X2_size : GoodIn wsX1_longestFrom (wsV RX1 58 RX2 yX2_size wsX2_size) := goodIn_app (goodIn_of _ (by decide +kernel)) ggX1_longestFrom_X2_size
set_option maxRecDepth 20000 in
theorem ggX1_longestFrom_X4_longer : GoodIn wsX1_longestFrom wsX4_longer := goodIn_r _ [17, 18, 19, 20, 21, 22, 34, 35, 36, 37, 38, 39, 40, 41, 42, 43, 44, 45, 46, 47, 48, 49, 50, 51, 52] (by decide +kernel) (by decide +kernel)
set_option maxRecDepth 20000 in
theorem gX1_longestFrom_X4_longer : GoodIn wsX1_longestFrom (wsV RX1 104 RX4 yX4_longer wsX4_longer) := goodIn_app (goodIn_of _ (by decide +kernel)) ggX1_longestFrom_X4_longer
theorem dX1_longestFrom_0 : decode cX1_longestFrom 0 = .ok (.aload_n 1, 1) := by decide +kernel
theorem dX1_longestFrom_1 : decode cX1_longestFrom 1 = .ok (.iload_n 2, 1) := by decide +kernel
theorem dX1_longestFrom_2 : decode cX1_longestFrom 2 = .ok (.invokevirtual 77, 3) := by decide +kernel
theorem dX1_longestFrom_5 : decode cX1_longestFrom 5 = .ok (.istore_n 3, 1) := by decide +kernel
theorem dX1_longestFrom_6 : decode cX1_longestFrom 6 = .ok (.iload_n 2, 1) := by decide +kernel
theorem dX1_longestFrom_7 : decode cX1_longestFrom 7 = .ok (.iconst 1, 1) := by decide +kernel
theorem dX1_longestFrom_8 : decode cX1_longestFrom 8 = .ok (.iadd, 1) := by decide +kernel
theorem dX1_longestFrom_9 : decode cX1_longestFrom 9 = .ok (.istore 4, 2) := by decide +kernel
theorem dX1_longestFrom_11 : decode cX1_longestFrom 11 = .ok (.iload 4, 2) := by decide +kernel
theorem dX1_longestFrom_13 : decode cX1_longestFrom 13 = .ok (.aload_n 1, 1) := by decide +kernel
theorem dX1_longestFrom_14 : decode cX1_longestFrom 14 = .ok (.invokevirtual 58, 3) := by decide +kernel
theorem dX1_longestFrom_17 : decode cX1_longestFrom 17 = .ok (.if_icmp .ge 36, 3) := by decide +kernel
theorem dX1_longestFrom_20 : decode cX1_longestFrom 20 = .ok (.aload_n 0, 1) := by decide +kernel
theorem dX1_longestFrom_21 : decode cX1_longestFrom 21 = .ok (.getfield 27, 3) := by decide +kernel
theorem dX1_longestFrom_24 : decode cX1_longestFrom 24 = .ok (.iload_n 3, 1) := by decide +kernel
theorem dX1_longestFrom_25 : decode cX1_longestFrom 25 = .ok (.aload_n 1, 1) := by decide +kernel
theorem dX1_longestFrom_26 : decode cX1_longestFrom 26 = .ok (.iload 4, 2) := by decide +kernel
theorem dX1_longestFrom_28 : decode cX1_longestFrom 28 = .ok (.invokevirtual 77, 3) := by decide +kernel
theorem dX1_longestFrom_31 : decode cX1_longestFrom 31 = .ok (.invokevirtual 104, 3) := by decide +kernel
theorem dX1_longestFrom_34 : decode cX1_longestFrom 34 = .ok (.istore 5, 2) := by decide +kernel
theorem dX1_longestFrom_36 : decode cX1_longestFrom 36 = .ok (.iload 5, 2) := by decide +kernel
theorem dX1_longestFrom_38 : decode cX1_longestFrom 38 = .ok (.iconst (-1), 1) := by decide +kernel
theorem dX1_longestFrom_39 : decode cX1_longestFrom 39 = .ok (.if_icmp .ne 5, 3) := by decide +kernel
theorem dX1_longestFrom_42 : decode cX1_longestFrom 42 = .ok (.iload_n 3, 1) := by decide +kernel
theorem dX1_longestFrom_43 : decode cX1_longestFrom 43 = .ok (.ireturn, 1) := by decide +kernel
theorem dX1_longestFrom_44 : decode cX1_longestFrom 44 = .ok (.iload 5, 2) := by decide +kernel
theorem dX1_longestFrom_46 : decode cX1_longestFrom 46 = .ok (.istore_n 3, 1) := by decide +kernel
theorem dX1_longestFrom_47 : decode cX1_longestFrom 47 = .ok (.iinc 4 1, 3) := by decide +kernel
theorem dX1_longestFrom_50 : decode cX1_longestFrom 50 = .ok (.goto (-39), 3) := by decide +kernel
theorem dX1_longestFrom_53 : decode cX1_longestFrom 53 = .ok (.iload_n 3, 1) := by decide +kernel
theorem dX1_longestFrom_54 : decode cX1_longestFrom 54 = .ok (.ireturn, 1) := by decide +kernel
set_option maxRecDepth 20000 in
theorem ggX1_clearIsDue_X4_isFull : GoodIn wsX1_clearIsDue wsX4_isFull := goodIn_r _ [8, 9, 10, 32, 33, 34, 35, 36, 37, 38, 20, 21, 22, 23, 24, 25, 26, 27, 28, 29, 30, 31] (by decide +kernel) (by decide +kernel)
set_option maxRecDepth 20000 in
theorem gX1_clearIsDue_X4_isFull : GoodIn wsX1_clearIsDue (wsV RX1 111 RX4 yX4_isFull wsX4_isFull) := goodIn_app (goodIn_of _ (by decide +kernel)) ggX1_clearIsDue_X4_isFull
theorem dX1_clearIsDue_0 : decode cX1_clearIsDue 0 = .ok (.aload_n 0, 1) := by decide +kernel
theorem dX1_clearIsDue_1 : decode cX1_clearIsDue 1 = .ok (.getfield 9, 3) := by decide +kernel
theorem dX1_clearIsDue_4 : decode cX1_clearIsDue 4 = .ok (.getfield 108, 3) := by decide +kernel
theorem dX1_clearIsDue_7 : decode cX1_clearIsDue 7 = .ok (.iconst 1, 1) := by decide +kernel
theorem dX1_clearIsDue_8 : decode cX1_clearIsDue 8 = .ok (.if_icmp .ne 11, 3) := by decide +kernel
theorem dX1_clearIsDue_11 : decode cX1_clearIsDue 11 = .ok (.aload_n 0, 1) := by decide +kernel
theorem dX1_clearIsDue_12 : decode cX1_clearIsDue 12 = .ok (.getfield 27, 3) := by decide +kernel
theorem dX1_clearIsDue_15 : decode cX1_clearIsDue 15 = .ok (.invokevirtual 111, 3) := by decide +kernel
theorem dX1_clearIsDue_18 : decode cX1_clearIsDue 18 = .ok (.ireturn, 1) := by decide +kernel
theorem dX1_clearIsDue_19 : decode cX1_clearIsDue 19 = .ok (.aload_n 0, 1) := by decide +kernel
theorem dX1_clearIsDue_20 : decode cX1_clearIsDue 20 = .ok (.getfield 9, 3) := by decide +kernel
theorem dX1_clearIsDue_23 : decode cX1_clearIsDue 23 = .ok (.getfield 108, 3) := by decide +kernel
theorem dX1_clearIsDue_26 : decode cX1_clearIsDue 26 = .ok (.iconst 1, 1) := by decide +kernel
theorem dX1_clearIsDue_27 : decode cX1_clearIsDue 27 = .ok (.if_icmp .le 21, 3) := by decide +kernel
theorem dX1_clearIsDue_30 : decode cX1_clearIsDue 30 = .ok (.aload_n 0, 1) := by decide +kernel
theorem dX1_clearIsDue_31 : decode cX1_clearIsDue 31 = .ok (.getfield 73, 3) := by decide +kernel
theorem dX1_clearIsDue_34 : decode cX1_clearIsDue 34 = .ok (.aload_n 0, 1) := by decide +kernel
theorem dX1_clearIsDue_35 : decode cX1_clearIsDue 35 = .ok (.getfield 9, 3) := by decide +kernel
theorem dX1_clearIsDue_38 : decode cX1_clearIsDue 38 = .ok (.getfield 108, 3) := by decide +kernel
theorem dX1_clearIsDue_41 : decode cX1_clearIsDue 41 = .ok (.if_icmp .ne 7, 3) := by decide +kernel
theorem dX1_clearIsDue_44 : decode cX1_clearIsDue 44 = .ok (.iconst 1, 1) := by decide +kernel
theorem dX1_clearIsDue_45 : decode cX1_clearIsDue 45 = .ok (.goto 4, 3) := by decide +kernel
theorem dX1_clearIsDue_48 : decode cX1_clearIsDue 48 = .ok (.iconst 0, 1) := by decide +kernel
theorem dX1_clearIsDue_49 : decode cX1_clearIsDue 49 = .ok (.ireturn, 1) := by decide +kernel
set_option maxRecDepth 20000 in
theorem ggX1_putClear_X1_put : GoodIn wsX1_putClear wsX1_put := goodIn_r _ [9, 10, 11, 12, 13, 14, 15, 16, 17, 18, 19, 20, 21, 22, 23, 24, 25, 26, 27, 28, 29, 30, 31, 32, 33, 34, 35, 36, 37, 38, 39, 40, 41, 42, 43, 44, 45, 46, 47, 48, 49, 50, 51, 52, 53, 54, 55, 56, 57, 58, 59, 68, 69, 70, 71, 72, 73, 74, 75, 76, 89, 90, 91, 92, 93, 94, 95, 77, 78, 79, 80, 81, 82, 83, 84, 85, 86, 87, 88, 96, 97] (by decide +kernel) (by decide +kernel)
set_option maxRecDepth 20000 in
theorem gX1_putClear_X1_put : GoodIn wsX1_putClear (wsV RX1 70 RX1 yX1_put wsX1_put) := goodIn_app (goodIn_of _ (by decide +kernel)) ggX1_putClear_X1_put
set_option maxRecDepth 20000 in
theorem ggX1_putClear_X4_wipe : GoodIn wsX1_putClear wsX4_wipe := goodIn_r _ [64, 65, 66, 67, 98, 99, 100, 101, 102, 103, 104] (by decide +kernel) (by decide +kernel)
set_option maxRecDepth 20000 in
theorem gX1_putClear_X4_wipe : GoodIn wsX1_putClear (wsV RX1 92 RX4 yX4_wipe wsX4_wipe) := goodIn_app (goodIn_of _ (by decide +kernel)) ggX1_putClear_X4_wipe
theorem dX1_putClear_0 : decode cX1_putClear 0 = .ok (.aload_n 0, 1) := by decide +kernel
theorem dX1_putClear_1 : decode cX1_putClear 1 = .ok (.aload_n 0, 1) := by decide +kernel
theorem dX1_putClear_2 : decode cX1_putClear 2 = .ok (.getfield 9, 3) := by decide +kernel
theorem dX1_putClear_5 : decode cX1_putClear 5 = .ok (.getfield 114, 3) := by decide +kernel
theorem dX1_putClear_8 : decode cX1_putClear 8 = .ok (.invokevirtual 70, 3) := by decide +kernel
theorem dX1_putClear_11 : decode cX1_putClear 11 = .ok (.aload_n 0, 1) := by decide +kernel
theorem dX1_putClear_12 : decode cX1_putClear 12 = .ok (.getfield 27, 3) := by decide +kernel
theorem dX1_putClear_15 : decode cX1_putClear 15 = .ok (.invokevirtual 92, 3) := by decide +kernel
theorem dX1_putClear_18 : decode cX1_putClear 18 = .ok (.aload_n 0, 1) := by decide +kernel
theorem dX1_putClear_19 : decode cX1_putClear 19 = .ok (.dup, 1) := by decide +kernel
theorem dX1_putClear_20 : decode cX1_putClear 20 = .ok (.getfield 101, 3) := by decide +kernel
theorem dX1_putClear_23 : decode cX1_putClear 23 = .ok (.iconst 1, 1) := by decide +kernel
theorem dX1_putClear_24 : decode cX1_putClear 24 = .ok (.iadd, 1) := by decide +kernel
theorem dX1_putClear_25 : decode cX1_putClear 25 = .ok (.putfield 101, 3) := by decide +kernel
theorem dX1_putClear_28 : decode cX1_putClear 28 = .ok (.aload_n 0, 1) := by decide +kernel
theorem dX1_putClear_29 : decode cX1_putClear 29 = .ok (.iconst 0, 1) := by decide +kernel
theorem dX1_putClear_30 : decode cX1_putClear 30 = .ok (.putfield 73, 3) := by decide +kernel
theorem dX1_putClear_33 : decode cX1_putClear 33 = .ok (.return_, 1) := by decide +kernel
set_option maxRecDepth 20000 in
theorem ggX1_put_X0_bitsThatFill : GoodIn wsX1_put wsX0_bitsThatFill := goodIn_r _ [10, 11, 12, 13, 14, 15, 16, 9, 17, 18, 19, 60, 61, 62, 63, 64, 65, 66, 67, 68, 69, 70, 71, 72, 73, 74, 75, 76, 77, 78] (by decide +kernel) (by decide +kernel)
set_option maxRecDepth 20000 in
theorem gX1_put_X0_bitsThatFill : GoodIn wsX1_put (wsV RX1 117 RX0 yX0_bitsThatFill wsX0_bitsThatFill) := goodIn_app (goodIn_of _ (by decide +kernel)) ggX1_put_X0_bitsThatFill
set_option maxRecDepth 20000 in
theorem ggX1_put_X2_add : GoodIn wsX1_put wsX2_add := goodIn_r _ [24, 25, 26, 79, 80] (by decide +kernel) (by decide +kernel)
set_option maxRecDepth 20000 in
theorem gX1_put_X2_add : GoodIn wsX1_put (wsV RX1 120 RX2 yX2_add wsX2_add) := goodIn_app (goodIn_of _ (by decide +kernel)) ggX1_put_X2_add
set_option maxRecDepth 20000 in
theorem ggX1_put_X0_pass : GoodIn wsX1_put wsX0_pass := goodIn_r _ [30, 12, 19, 13, 11, 18, 14, 15, 16, 9, 17, 31, 32, 33, 34, 35, 36, 37, 38, 39, 40, 41, 42, 43, 44, 45, 46, 47, 48, 49, 50, 60, 61, 62, 63, 64, 65, 66, 67, 68, 69, 70, 71, 72, 73, 74, 75, 76, 77, 78] (by decide +kernel) (by decide +kernel)
set_option maxRecDepth 20000 in
theorem gX1_put_X0_pass : GoodIn wsX1_put (wsV RX1 127 RX0 yX0_pass wsX0_pass) := goodIn_app (goodIn_of _ (by decide +kernel)) ggX1_put_X0_pass
theorem dX1_put_0 : decode cX1_put 0 = .ok (.aload_n 0, 1) := by decide +kernel
theorem dX1_put_1 : decode cX1_put 1 = .ok (.dup, 1) := by decide +kernel
theorem dX1_put_2 : decode cX1_put 2 = .ok (.getfield 98, 3) := by decide +kernel
theorem dX1_put_5 : decode cX1_put 5 = .ok (.aload_n 0, 1) := by decide +kernel
theorem dX1_put_6 : decode cX1_put 6 = .ok (.getfield 20, 3) := by decide +kernel
theorem dX1_put_9 : decode cX1_put 9 = .ok (.invokevirtual 117, 3) := by decide +kernel
theorem dX1_put_12 : decode cX1_put 12 = .ok (.iadd, 1) := by decide +kernel
theorem dX1_put_13 : decode cX1_put 13 = .ok (.putfield 98, 3) := by decide +kernel
theorem dX1_put_16 : decode cX1_put 16 = .ok (.aload_n 0, 1) := by decide +kernel
theorem dX1_put_17 : decode cX1_put 17 = .ok (.getfield 36, 3) := by decide +kernel
theorem dX1_put_20 : decode cX1_put 20 = .ok (.iload_n 1, 1) := by decide +kernel
theorem dX1_put_21 : decode cX1_put 21 = .ok (.invokevirtual 120, 3) := by decide +kernel
theorem dX1_put_24 : decode cX1_put 24 = .ok (.pop, 1) := by decide +kernel
theorem dX1_put_25 : decode cX1_put 25 = .ok (.aload_n 0, 1) := by decide +kernel
theorem dX1_put_26 : decode cX1_put 26 = .ok (.getfield 40, 3) := by decide +kernel
theorem dX1_put_29 : decode cX1_put 29 = .ok (.aload_n 0, 1) := by decide +kernel
theorem dX1_put_30 : decode cX1_put 30 = .ok (.getfield 20, 3) := by decide +kernel
theorem dX1_put_33 : decode cX1_put 33 = .ok (.getfield 124, 3) := by decide +kernel
theorem dX1_put_36 : decode cX1_put 36 = .ok (.invokevirtual 120, 3) := by decide +kernel
theorem dX1_put_39 : decode cX1_put 39 = .ok (.pop, 1) := by decide +kernel
theorem dX1_put_40 : decode cX1_put 40 = .ok (.aload_n 0, 1) := by decide +kernel
theorem dX1_put_41 : decode cX1_put 41 = .ok (.getfield 43, 3) := by decide +kernel
theorem dX1_put_44 : decode cX1_put 44 = .ok (.aload_n 0, 1) := by decide +kernel
theorem dX1_put_45 : decode cX1_put 45 = .ok (.getfield 98, 3) := by decide +kernel
theorem dX1_put_48 : decode cX1_put 48 = .ok (.invokevirtual 120, 3) := by decide +kernel
theorem dX1_put_51 : decode cX1_put 51 = .ok (.pop, 1) := by decide +kernel
theorem dX1_put_52 : decode cX1_put 52 = .ok (.aload_n 0, 1) := by decide +kernel
theorem dX1_put_53 : decode cX1_put 53 = .ok (.dup, 1) := by decide +kernel
theorem dX1_put_54 : decode cX1_put 54 = .ok (.getfield 98, 3) := by decide +kernel
theorem dX1_put_57 : decode cX1_put 57 = .ok (.aload_n 0, 1) := by decide +kernel
theorem dX1_put_58 : decode cX1_put 58 = .ok (.getfield 20, 3) := by decide +kernel
theorem dX1_put_61 : decode cX1_put 61 = .ok (.getfield 124, 3) := by decide +kernel
theorem dX1_put_64 : decode cX1_put 64 = .ok (.iadd, 1) := by decide +kernel
theorem dX1_put_65 : decode cX1_put 65 = .ok (.putfield 98, 3) := by decide +kernel
theorem dX1_put_68 : decode cX1_put 68 = .ok (.aload_n 0, 1) := by decide +kernel
theorem dX1_put_69 : decode cX1_put 69 = .ok (.getfield 20, 3) := by decide +kernel
theorem dX1_put_72 : decode cX1_put 72 = .ok (.iload_n 1, 1) := by decide +kernel
theorem dX1_put_73 : decode cX1_put 73 = .ok (.invokevirtual 127, 3) := by decide +kernel
theorem dX1_put_76 : decode cX1_put 76 = .ok (.return_, 1) := by decide +kernel
theorem dX2_init_0 : decode cX2_init 0 = .ok (.aload_n 0, 1) := by decide +kernel
theorem dX2_init_1 : decode cX2_init 1 = .ok (.invokespecial 3, 3) := by decide +kernel
theorem dX2_init_4 : decode cX2_init 4 = .ok (.aload_n 0, 1) := by decide +kernel
theorem dX2_init_5 : decode cX2_init 5 = .ok (.iload_n 1, 1) := by decide +kernel
theorem dX2_init_6 : decode cX2_init 6 = .ok (.ifCond .ge 7, 3) := by decide +kernel
theorem dX2_init_9 : decode cX2_init 9 = .ok (.iconst 0, 1) := by decide +kernel
theorem dX2_init_10 : decode cX2_init 10 = .ok (.goto 4, 3) := by decide +kernel
theorem dX2_init_13 : decode cX2_init 13 = .ok (.iload_n 1, 1) := by decide +kernel
theorem dX2_init_14 : decode cX2_init 14 = .ok (.newarray .int, 2) := by decide +kernel
theorem dX2_init_16 : decode cX2_init 16 = .ok (.putfield 9, 3) := by decide +kernel
theorem dX2_init_19 : decode cX2_init 19 = .ok (.aload_n 0, 1) := by decide +kernel
theorem dX2_init_20 : decode cX2_init 20 = .ok (.iconst 0, 1) := by decide +kernel
theorem dX2_init_21 : decode cX2_init 21 = .ok (.putfield 15, 3) := by decide +kernel
theorem dX2_init_24 : decode cX2_init 24 = .ok (.return_, 1) := by decide +kernel
theorem dX2_size_0 : decode cX2_size 0 = .ok (.aload_n 0, 1) := by decide +kernel
theorem dX2_size_1 : decode cX2_size 1 = .ok (.getfield 15, 3) := by decide +kernel
theorem dX2_size_4 : decode cX2_size 4 = .ok (.ireturn, 1) := by decide +kernel
theorem dX2_add_0 : decode cX2_add 0 = .ok (.aload_n 0, 1) := by decide +kernel
theorem dX2_add_1 : decode cX2_add 1 = .ok (.getfield 15, 3) := by decide +kernel
theorem dX2_add_4 : decode cX2_add 4 = .ok (.aload_n 0, 1) := by decide +kernel
theorem dX2_add_5 : decode cX2_add 5 = .ok (.getfield 9, 3) := by decide +kernel
theorem dX2_add_8 : decode cX2_add 8 = .ok (.arraylength, 1) := by decide +kernel
theorem dX2_add_9 : decode cX2_add 9 = .ok (.if_icmp .lt 5, 3) := by decide +kernel
theorem dX2_add_12 : decode cX2_add 12 = .ok (.iconst 0, 1) := by decide +kernel
theorem dX2_add_13 : decode cX2_add 13 = .ok (.ireturn, 1) := by decide +kernel
theorem dX2_add_14 : decode cX2_add 14 = .ok (.aload_n 0, 1) := by decide +kernel
theorem dX2_add_15 : decode cX2_add 15 = .ok (.getfield 9, 3) := by decide +kernel
theorem dX2_add_18 : decode cX2_add 18 = .ok (.aload_n 0, 1) := by decide +kernel
theorem dX2_add_19 : decode cX2_add 19 = .ok (.getfield 15, 3) := by decide +kernel
theorem dX2_add_22 : decode cX2_add 22 = .ok (.iload_n 1, 1) := by decide +kernel
theorem dX2_add_23 : decode cX2_add 23 = .ok (.iastore, 1) := by decide +kernel
theorem dX2_add_24 : decode cX2_add 24 = .ok (.aload_n 0, 1) := by decide +kernel
theorem dX2_add_25 : decode cX2_add 25 = .ok (.dup, 1) := by decide +kernel
theorem dX2_add_26 : decode cX2_add 26 = .ok (.getfield 15, 3) := by decide +kernel
theorem dX2_add_29 : decode cX2_add 29 = .ok (.iconst 1, 1) := by decide +kernel
theorem dX2_add_30 : decode cX2_add 30 = .ok (.iadd, 1) := by decide +kernel
theorem dX2_add_31 : decode cX2_add 31 = .ok (.putfield 15, 3) := by decide +kernel
theorem dX2_add_34 : decode cX2_add 34 = .ok (.iconst 1, 1) := by decide +kernel
theorem dX2_add_35 : decode cX2_add 35 = .ok (.ireturn, 1) := by decide +kernel
theorem dX2_get_0 : decode cX2_get 0 = .ok (.iload_n 1, 1) := by decide +kernel
theorem dX2_get_1 : decode cX2_get 1 = .ok (.ifCond .lt 20, 3) := by decide +kernel
theorem dX2_get_4 : decode cX2_get 4 = .ok (.iload_n 1, 1) := by decide +kernel
theorem dX2_get_5 : decode cX2_get 5 = .ok (.aload_n 0, 1) := by decide +kernel
theorem dX2_get_6 : decode cX2_get 6 = .ok (.getfield 15, 3) := by decide +kernel
theorem dX2_get_9 : decode cX2_get 9 = .ok (.if_icmp .ge 12, 3) := by decide +kernel
theorem dX2_get_12 : decode cX2_get 12 = .ok (.aload_n 0, 1) := by decide +kernel
theorem dX2_get_13 : decode cX2_get 13 = .ok (.getfield 9, 3) := by decide +kernel
theorem dX2_get_16 : decode cX2_get 16 = .ok (.iload_n 1, 1) := by decide +kernel
theorem dX2_get_17 : decode cX2_get 17 = .ok (.iaload, 1) := by decide +kernel
theorem dX2_get_18 : decode cX2_get 18 = .ok (.goto 4, 3) := by decide +kernel
theorem dX2_get_21 : decode cX2_get 21 = .ok (.iconst (-1), 1) := by decide +kernel
theorem dX2_get_22 : decode cX2_get 22 = .ok (.ireturn, 1) := by decide +kernel
theorem dX2_set_0 : decode cX2_set 0 = .ok (.iload_n 1, 1) := by decide +kernel
theorem dX2_set_1 : decode cX2_set 1 = .ok (.ifCond .lt 18, 3) := by decide +kernel
theorem dX2_set_4 : decode cX2_set 4 = .ok (.iload_n 1, 1) := by decide +kernel
theorem dX2_set_5 : decode cX2_set 5 = .ok (.aload_n 0, 1) := by decide +kernel
theorem dX2_set_6 : decode cX2_set 6 = .ok (.getfield 15, 3) := by decide +kernel
theorem dX2_set_9 : decode cX2_set 9 = .ok (.if_icmp .ge 10, 3) := by decide +kernel
theorem dX2_set_12 : decode cX2_set 12 = .ok (.aload_n 0, 1) := by decide +kernel
theorem dX2_set_13 : decode cX2_set 13 = .ok (.getfield 9, 3) := by decide +kernel
theorem dX2_set_16 : decode cX2_set 16 = .ok (.iload_n 1, 1) := by decide +kernel
theorem dX2_set_17 : decode cX2_set 17 = .ok (.iload_n 2, 1) := by decide +kernel
theorem dX2_set_18 : decode cX2_set 18 = .ok (.iastore, 1) := by decide +kernel
theorem dX2_set_19 : decode cX2_set 19 = .ok (.return_, 1) := by decide +kernel
theorem dX2_shrinkTo_0 : decode cX2_shrinkTo 0 = .ok (.iload_n 1, 1) := by decide +kernel
theorem dX2_shrinkTo_1 : decode cX2_shrinkTo 1 = .ok (.ifCond .lt 16, 3) := by decide +kernel
theorem dX2_shrinkTo_4 : decode cX2_shrinkTo 4 = .ok (.iload_n 1, 1) := by decide +kernel
theorem dX2_shrinkTo_5 : decode cX2_shrinkTo 5 = .ok (.aload_n 0, 1) := by decide +kernel
theorem dX2_shrinkTo_6 : decode cX2_shrinkTo 6 = .ok (.getfield 15, 3) := by decide +kernel
theorem dX2_shrinkTo_9 : decode cX2_shrinkTo 9 = .ok (.if_icmp .ge 8, 3) := by decide +kernel
theorem dX2_shrinkTo_12 : decode cX2_shrinkTo 12 = .ok (.aload_n 0, 1) := by decide +kernel
theorem dX2_shrinkTo_13 : decode cX2_shrinkTo 13 = .ok (.iload_n 1, 1) := by decide +kernel
theorem dX2_shrinkTo_14 : decode cX2_shrinkTo 14 = .ok (.putfield 15, 3) := by decide +kernel
theorem dX2_shrinkTo_17 : decode cX2_shrinkTo 17 = .ok (.return_, 1) := by decide +kernel
set_option maxRecDepth 20000 in
theorem ggX2_becomeLike_X2_get : GoodIn wsX2_becomeLike wsX2_get := goodIn_r _ [6, 1, 7, 12, 13] (by decide +kernel) (by decide +kernel)
set_option maxRecDepth 20000 in
theorem gX2_becomeLike_X2_get : GoodIn wsX2_becomeLike (wsV RX2 19 RX2 yX2_get wsX2_get) := goodIn_app (goodIn_of _ (by decide +kernel)) ggX2_becomeLike_X2_get
set_option maxRecDepth 20000 in
theorem ggX2_becomeLike_X2_add : GoodIn wsX2_becomeLike wsX2_add := goodIn_r _ [11, 1, 7, 12, 13] (by decide +kernel) (by decide +kernel)
set_option maxRecDepth 20000 in
theorem gX2_becomeLike_X2_add : GoodIn wsX2_becomeLike (wsV RX2 23 RX2 yX2_add wsX2_add) := goodIn_app (goodIn_of _ (by decide +kernel)) ggX2_becomeLike_X2_add
theorem dX2_becomeLike_0 : decode cX2_becomeLike 0 = .ok (.aload_n 0, 1) := by decide +kernel
theorem dX2_becomeLike_1 : decode cX2_becomeLike 1 = .ok (.iconst 0, 1) := by decide +kernel
theorem dX2_becomeLike_2 : decode cX2_becomeLike 2 = .ok (.putfield 15, 3) := by decide +kernel
theorem dX2_becomeLike_5 : decode cX2_becomeLike 5 = .ok (.iconst 0, 1) := by decide +kernel
theorem dX2_becomeLike_6 : decode cX2_becomeLike 6 = .ok (.istore_n 2, 1) := by decide +kernel
theorem dX2_becomeLike_7 : decode cX2_becomeLike 7 = .ok (.iload_n 2, 1) := by decide +kernel
theorem dX2_becomeLike_8 : decode cX2_becomeLike 8 = .ok (.aload_n 1, 1) := by decide +kernel
theorem dX2_becomeLike_9 : decode cX2_becomeLike 9 = .ok (.getfield 15, 3) := by decide +kernel
theorem dX2_becomeLike_12 : decode cX2_becomeLike 12 = .ok (.if_icmp .ge 19, 3) := by decide +kernel
theorem dX2_becomeLike_15 : decode cX2_becomeLike 15 = .ok (.aload_n 0, 1) := by decide +kernel
theorem dX2_becomeLike_16 : decode cX2_becomeLike 16 = .ok (.aload_n 1, 1) := by decide +kernel
theorem dX2_becomeLike_17 : decode cX2_becomeLike 17 = .ok (.iload_n 2, 1) := by decide +kernel
theorem dX2_becomeLike_18 : decode cX2_becomeLike 18 = .ok (.invokevirtual 19, 3) := by decide +kernel
theorem dX2_becomeLike_21 : decode cX2_becomeLike 21 = .ok (.invokevirtual 23, 3) := by decide +kernel
theorem dX2_becomeLike_24 : decode cX2_becomeLike 24 = .ok (.pop, 1) := by decide +kernel
theorem dX2_becomeLike_25 : decode cX2_becomeLike 25 = .ok (.iinc 2 1, 3) := by decide +kernel
theorem dX2_becomeLike_28 : decode cX2_becomeLike 28 = .ok (.goto (-21), 3) := by decide +kernel
theorem dX2_becomeLike_31 : decode cX2_becomeLike 31 = .ok (.return_, 1) := by decide +kernel
set_option maxRecDepth 20000 in
theorem ggX3_init_X3_become : GoodIn wsX3_init wsX3_become := goodIn_r _ [8, 9, 10, 11, 12, 13, 14, 15, 16, 17, 18, 19, 20, 21, 22, 23, 24, 25, 26, 27, 28, 29, 30, 31, 32] (by decide +kernel) (by decide +kernel)
set_option maxRecDepth 20000 in
theorem gX3_init_X3_become : GoodIn wsX3_init (wsV RX3 9 RX3 yX3_become wsX3_become) := goodIn_app (goodIn_of _ (by decide +kernel)) ggX3_init_X3_become
theorem dX3_init_0 : decode cX3_init 0 = .ok (.aload_n 0, 1) := by decide +kernel
theorem dX3_init_1 : decode cX3_init 1 = .ok (.invokespecial 3, 3) := by decide +kernel
theorem dX3_init_4 : decode cX3_init 4 = .ok (.aload_n 0, 1) := by decide +kernel
theorem dX3_init_5 : decode cX3_init 5 = .ok (.iconst 0, 1) := by decide +kernel
theorem dX3_init_6 : decode cX3_init 6 = .ok (.bipush 8, 2) := by decide +kernel
theorem dX3_init_8 : decode cX3_init 8 = .ok (.bipush 12, 2) := by decide +kernel
theorem dX3_init_10 : decode cX3_init 10 = .ok (.iconst 1, 1) := by decide +kernel
theorem dX3_init_11 : decode cX3_init 11 = .ok (.invokevirtual 9, 3) := by decide +kernel
theorem dX3_init_14 : decode cX3_init 14 = .ok (.return_, 1) := by decide +kernel
theorem dX3_allow_0 : decode cX3_allow 0 = .ok (.iload_n 0, 1) := by decide +kernel
theorem dX3_allow_1 : decode cX3_allow 1 = .ok (.ifCond .lt 29, 3) := by decide +kernel
theorem dX3_allow_4 : decode cX3_allow 4 = .ok (.iload_n 0, 1) := by decide +kernel
theorem dX3_allow_5 : decode cX3_allow 5 = .ok (.iconst 2, 1) := by decide +kernel
theorem dX3_allow_6 : decode cX3_allow 6 = .ok (.if_icmp .gt 24, 3) := by decide +kernel
theorem dX3_allow_9 : decode cX3_allow 9 = .ok (.iload_n 1, 1) := by decide +kernel
theorem dX3_allow_10 : decode cX3_allow 10 = .ok (.iconst 2, 1) := by decide +kernel
theorem dX3_allow_11 : decode cX3_allow 11 = .ok (.if_icmp .lt 19, 3) := by decide +kernel
theorem dX3_allow_14 : decode cX3_allow 14 = .ok (.iload_n 1, 1) := by decide +kernel
theorem dX3_allow_15 : decode cX3_allow 15 = .ok (.bipush 8, 2) := by decide +kernel
theorem dX3_allow_17 : decode cX3_allow 17 = .ok (.if_icmp .gt 13, 3) := by decide +kernel
theorem dX3_allow_20 : decode cX3_allow 20 = .ok (.iload_n 0, 1) := by decide +kernel
theorem dX3_allow_21 : decode cX3_allow 21 = .ok (.ifCond .eq 11, 3) := by decide +kernel
theorem dX3_allow_24 : decode cX3_allow 24 = .ok (.iload_n 1, 1) := by decide +kernel
theorem dX3_allow_25 : decode cX3_allow 25 = .ok (.bipush 8, 2) := by decide +kernel
theorem dX3_allow_27 : decode cX3_allow 27 = .ok (.if_icmp .eq 5, 3) := by decide +kernel
theorem dX3_allow_30 : decode cX3_allow 30 = .ok (.iconst 0, 1) := by decide +kernel
theorem dX3_allow_31 : decode cX3_allow 31 = .ok (.ireturn, 1) := by decide +kernel
theorem dX3_allow_32 : decode cX3_allow 32 = .ok (.iload_n 2, 1) := by decide +kernel
theorem dX3_allow_33 : decode cX3_allow 33 = .ok (.iload_n 1, 1) := by decide +kernel
theorem dX3_allow_34 : decode cX3_allow 34 = .ok (.iconst 2, 1) := by decide +kernel
theorem dX3_allow_35 : decode cX3_allow 35 = .ok (.iadd, 1) := by decide +kernel
theorem dX3_allow_36 : decode cX3_allow 36 = .ok (.if_icmp .lt 23, 3) := by decide +kernel
theorem dX3_allow_39 : decode cX3_allow 39 = .ok (.iload_n 2, 1) := by decide +kernel
theorem dX3_allow_40 : decode cX3_allow 40 = .ok (.bipush 12, 2) := by decide +kernel
theorem dX3_allow_42 : decode cX3_allow 42 = .ok (.if_icmp .gt 17, 3) := by decide +kernel
theorem dX3_allow_45 : decode cX3_allow 45 = .ok (.iload_n 3, 1) := by decide +kernel
theorem dX3_allow_46 : decode cX3_allow 46 = .ok (.ifCond .lt 13, 3) := by decide +kernel
theorem dX3_allow_49 : decode cX3_allow 49 = .ok (.iload_n 3, 1) := by decide +kernel
theorem dX3_allow_50 : decode cX3_allow 50 = .ok (.bipush 100, 2) := by decide +kernel
theorem dX3_allow_52 : decode cX3_allow 52 = .ok (.if_icmp .gt 7, 3) := by decide +kernel
theorem dX3_allow_55 : decode cX3_allow 55 = .ok (.iconst 1, 1) := by decide +kernel
theorem dX3_allow_56 : decode cX3_allow 56 = .ok (.goto 4, 3) := by decide +kernel
theorem dX3_allow_59 : decode cX3_allow 59 = .ok (.iconst 0, 1) := by decide +kernel
theorem dX3_allow_60 : decode cX3_allow 60 = .ok (.ireturn, 1) := by decide +kernel
theorem dX3_become_0 : decode cX3_become 0 = .ok (.aload_n 0, 1) := by decide +kernel
theorem dX3_become_1 : decode cX3_become 1 = .ok (.iload_n 1, 1) := by decide +kernel
theorem dX3_become_2 : decode cX3_become 2 = .ok (.putfield 15, 3) := by decide +kernel
theorem dX3_become_5 : decode cX3_become 5 = .ok (.aload_n 0, 1) := by decide +kernel
theorem dX3_become_6 : decode cX3_become 6 = .ok (.iload_n 2, 1) := by decide +kernel
theorem dX3_become_7 : decode cX3_become 7 = .ok (.putfield 19, 3) := by decide +kernel
theorem dX3_become_10 : decode cX3_become 10 = .ok (.aload_n 0, 1) := by decide +kernel
theorem dX3_become_11 : decode cX3_become 11 = .ok (.iload_n 3, 1) := by decide +kernel
theorem dX3_become_12 : decode cX3_become 12 = .ok (.putfield 22, 3) := by decide +kernel
theorem dX3_become_15 : decode cX3_become 15 = .ok (.aload_n 0, 1) := by decide +kernel
theorem dX3_become_16 : decode cX3_become 16 = .ok (.iload 4, 2) := by decide +kernel
theorem dX3_become_18 : decode cX3_become 18 = .ok (.putfield 25, 3) := by decide +kernel
theorem dX3_become_21 : decode cX3_become 21 = .ok (.aload_n 0, 1) := by decide +kernel
theorem dX3_become_22 : decode cX3_become 22 = .ok (.aload_n 0, 1) := by decide +kernel
theorem dX3_become_23 : decode cX3_become 23 = .ok (.getfield 15, 3) := by decide +kernel
theorem dX3_become_26 : decode cX3_become 26 = .ok (.iconst 2, 1) := by decide +kernel
theorem dX3_become_27 : decode cX3_become 27 = .ok (.if_icmp .eq 7, 3) := by decide +kernel
theorem dX3_become_30 : decode cX3_become 30 = .ok (.iconst 1, 1) := by decide +kernel
theorem dX3_become_31 : decode cX3_become 31 = .ok (.goto 4, 3) := by decide +kernel
theorem dX3_become_34 : decode cX3_become 34 = .ok (.iconst 0, 1) := by decide +kernel
theorem dX3_become_35 : decode cX3_become 35 = .ok (.putfield 28, 3) := by decide +kernel
theorem dX3_become_38 : decode cX3_become 38 = .ok (.aload_n 0, 1) := by decide +kernel
theorem dX3_become_39 : decode cX3_become 39 = .ok (.aload_n 0, 1) := by decide +kernel
theorem dX3_become_40 : decode cX3_become 40 = .ok (.getfield 15, 3) := by decide +kernel
theorem dX3_become_43 : decode cX3_become 43 = .ok (.iconst 2, 1) := by decide +kernel
theorem dX3_become_44 : decode cX3_become 44 = .ok (.if_icmp .ne 7, 3) := by decide +kernel
theorem dX3_become_47 : decode cX3_become 47 = .ok (.iconst 1, 1) := by decide +kernel
theorem dX3_become_48 : decode cX3_become 48 = .ok (.goto 4, 3) := by decide +kernel
theorem dX3_become_51 : decode cX3_become 51 = .ok (.iconst 0, 1) := by decide +kernel
theorem dX3_become_52 : decode cX3_become 52 = .ok (.putfield 32, 3) := by decide +kernel
theorem dX3_become_55 : decode cX3_become 55 = .ok (.aload_n 0, 1) := by decide +kernel
theorem dX3_become_56 : decode cX3_become 56 = .ok (.aload_n 0, 1) := by decide +kernel
theorem dX3_become_57 : decode cX3_become 57 = .ok (.getfield 15, 3) := by decide +kernel
theorem dX3_become_60 : decode cX3_become 60 = .ok (.iconst 1, 1) := by decide +kernel
theorem dX3_become_61 : decode cX3_become 61 = .ok (.if_icmp .ne 7, 3) := by decide +kernel
theorem dX3_become_64 : decode cX3_become 64 = .ok (.iconst 1, 1) := by decide +kernel
theorem dX3_become_65 : decode cX3_become 65 = .ok (.goto 4, 3) := by decide +kernel
theorem dX3_become_68 : decode cX3_become 68 = .ok (.iconst 0, 1) := by decide +kernel
theorem dX3_become_69 : decode cX3_become 69 = .ok (.putfield 35, 3) := by decide +kernel
theorem dX3_become_72 : decode cX3_become 72 = .ok (.aload_n 0, 1) := by decide +kernel
theorem dX3_become_73 : decode cX3_become 73 = .ok (.iconst 1, 1) := by decide +kernel
theorem dX3_become_74 : decode cX3_become 74 = .ok (.aload_n 0, 1) := by decide +kernel
theorem dX3_become_75 : decode cX3_become 75 = .ok (.getfield 19, 3) := by decide +kernel
theorem dX3_become_78 : decode cX3_become 78 = .ok (.ishl, 1) := by decide +kernel
theorem dX3_become_79 : decode cX3_become 79 = .ok (.putfield 38, 3) := by decide +kernel
theorem dX3_become_82 : decode cX3_become 82 = .ok (.aload_n 0, 1) := by decide +kernel
theorem dX3_become_83 : decode cX3_become 83 = .ok (.aload_n 0, 1) := by decide +kernel
theorem dX3_become_84 : decode cX3_become 84 = .ok (.getfield 28, 3) := by decide +kernel
theorem dX3_become_87 : decode cX3_become 87 = .ok (.ifCond .eq 12, 3) := by decide +kernel
theorem dX3_become_90 : decode cX3_become 90 = .ok (.aload_n 0, 1) := by decide +kernel
theorem dX3_become_91 : decode cX3_become 91 = .ok (.getfield 38, 3) := by decide +kernel
theorem dX3_become_94 : decode cX3_become 94 = .ok (.iconst 1, 1) := by decide +kernel
theorem dX3_become_95 : decode cX3_become 95 = .ok (.iadd, 1) := by decide +kernel
theorem dX3_become_96 : decode cX3_become 96 = .ok (.goto 4, 3) := by decide +kernel
theorem dX3_become_99 : decode cX3_become 99 = .ok (.iconst (-1), 1) := by decide +kernel
theorem dX3_become_100 : decode cX3_become 100 = .ok (.putfield 41, 3) := by decide +kernel
theorem dX3_become_103 : decode cX3_become 103 = .ok (.aload_n 0, 1) := by decide +kernel
theorem dX3_become_104 : decode cX3_become 104 = .ok (.aload_n 0, 1) := by decide +kernel
theorem dX3_become_105 : decode cX3_become 105 = .ok (.getfield 28, 3) := by decide +kernel
theorem dX3_become_108 : decode cX3_become 108 = .ok (.ifCond .eq 12, 3) := by decide +kernel
theorem dX3_become_111 : decode cX3_become 111 = .ok (.aload_n 0, 1) := by decide +kernel
theorem dX3_become_112 : decode cX3_become 112 = .ok (.getfield 38, 3) := by decide +kernel
theorem dX3_become_115 : decode cX3_become 115 = .ok (.iconst 2, 1) := by decide +kernel
theorem dX3_become_116 : decode cX3_become 116 = .ok (.iadd, 1) := by decide +kernel
theorem dX3_become_117 : decode cX3_become 117 = .ok (.goto 9, 3) := by decide +kernel
theorem dX3_become_120 : decode cX3_become 120 = .ok (.aload_n 0, 1) := by decide +kernel
theorem dX3_become_121 : decode cX3_become 121 = .ok (.getfield 38, 3) := by decide +kernel
theorem dX3_become_124 : decode cX3_become 124 = .ok (.iconst 1, 1) := by decide +kernel
theorem dX3_become_125 : decode cX3_become 125 = .ok (.iadd, 1) := by decide +kernel
theorem dX3_become_126 : decode cX3_become 126 = .ok (.putfield 44, 3) := by decide +kernel
theorem dX3_become_129 : decode cX3_become 129 = .ok (.aload_n 0, 1) := by decide +kernel
theorem dX3_become_130 : decode cX3_become 130 = .ok (.aload_n 0, 1) := by decide +kernel
theorem dX3_become_131 : decode cX3_become 131 = .ok (.getfield 15, 3) := by decide +kernel
theorem dX3_become_134 : decode cX3_become 134 = .ok (.iconst 1, 1) := by decide +kernel
theorem dX3_become_135 : decode cX3_become 135 = .ok (.if_icmp .ne 7, 3) := by decide +kernel
theorem dX3_become_138 : decode cX3_become 138 = .ok (.iconst 1, 1) := by decide +kernel
theorem dX3_become_139 : decode cX3_become 139 = .ok (.goto 4, 3) := by decide +kernel
theorem dX3_become_142 : decode cX3_become 142 = .ok (.iconst 0, 1) := by decide +kernel
theorem dX3_become_143 : decode cX3_become 143 = .ok (.putfield 47, 3) := by decide +kernel
theorem dX3_become_146 : decode cX3_become 146 = .ok (.aload_n 0, 1) := by decide +kernel
theorem dX3_become_147 : decode cX3_become 147 = .ok (.iconst 1, 1) := by decide +kernel
theorem dX3_become_148 : decode cX3_become 148 = .ok (.aload_n 0, 1) := by decide +kernel
theorem dX3_become_149 : decode cX3_become 149 = .ok (.getfield 22, 3) := by decide +kernel
theorem dX3_become_152 : decode cX3_become 152 = .ok (.ishl, 1) := by decide +kernel
theorem dX3_become_153 : decode cX3_become 153 = .ok (.aload_n 0, 1) := by decide +kernel
theorem dX3_become_154 : decode cX3_become 154 = .ok (.getfield 47, 3) := by decide +kernel
theorem dX3_become_157 : decode cX3_become 157 = .ok (.isub, 1) := by decide +kernel
theorem dX3_become_158 : decode cX3_become 158 = .ok (.putfield 50, 3) := by decide +kernel
theorem dX3_become_161 : decode cX3_become 161 = .ok (.return_, 1) := by decide +kernel
theorem dX3_isSymbol_0 : decode cX3_isSymbol 0 = .ok (.iload_n 1, 1) := by decide +kernel
theorem dX3_isSymbol_1 : decode cX3_isSymbol 1 = .ok (.ifCond .lt 15, 3) := by decide +kernel
theorem dX3_isSymbol_4 : decode cX3_isSymbol 4 = .ok (.iload_n 1, 1) := by decide +kernel
theorem dX3_isSymbol_5 : decode cX3_isSymbol 5 = .ok (.aload_n 0, 1) := by decide +kernel
theorem dX3_isSymbol_6 : decode cX3_isSymbol 6 = .ok (.getfield 38, 3) := by decide +kernel
theorem dX3_isSymbol_9 : decode cX3_isSymbol 9 = .ok (.if_icmp .ge 7, 3) := by decide +kernel
theorem dX3_isSymbol_12 : decode cX3_isSymbol 12 = .ok (.iconst 1, 1) := by decide +kernel
theorem dX3_isSymbol_13 : decode cX3_isSymbol 13 = .ok (.goto 4, 3) := by decide +kernel
theorem dX3_isSymbol_16 : decode cX3_isSymbol 16 = .ok (.iconst 0, 1) := by decide +kernel
theorem dX3_isSymbol_17 : decode cX3_isSymbol 17 = .ok (.ireturn, 1) := by decide +kernel
theorem dX3_countThatWidens_0 : decode cX3_countThatWidens 0 = .ok (.iconst 1, 1) := by decide +kernel
theorem dX3_countThatWidens_1 : decode cX3_countThatWidens 1 = .ok (.iload_n 1, 1) := by decide +kernel
theorem dX3_countThatWidens_2 : decode cX3_countThatWidens 2 = .ok (.ishl, 1) := by decide +kernel
theorem dX3_countThatWidens_3 : decode cX3_countThatWidens 3 = .ok (.aload_n 0, 1) := by decide +kernel
theorem dX3_countThatWidens_4 : decode cX3_countThatWidens 4 = .ok (.getfield 47, 3) := by decide +kernel
theorem dX3_countThatWidens_7 : decode cX3_countThatWidens 7 = .ok (.isub, 1) := by decide +kernel
theorem dX3_countThatWidens_8 : decode cX3_countThatWidens 8 = .ok (.ireturn, 1) := by decide +kernel
theorem dX4_init_0 : decode cX4_init 0 = .ok (.aload_n 0, 1) := by decide +kernel
theorem dX4_init_1 : decode cX4_init 1 = .ok (.invokespecial 3, 3) := by decide +kernel
theorem dX4_init_4 : decode cX4_init 4 = .ok (.aload_n 0, 1) := by decide +kernel
theorem dX4_init_5 : decode cX4_init 5 = .ok (.aload_n 1, 1) := by decide +kernel
theorem dX4_init_6 : decode cX4_init 6 = .ok (.putfield 9, 3) := by decide +kernel
theorem dX4_init_9 : decode cX4_init 9 = .ok (.aload_n 0, 1) := by decide +kernel
theorem dX4_init_10 : decode cX4_init 10 = .ok (.sipush 300, 3) := by decide +kernel
theorem dX4_init_13 : decode cX4_init 13 = .ok (.newarray .int, 2) := by decide +kernel
theorem dX4_init_15 : decode cX4_init 15 = .ok (.putfield 15, 3) := by decide +kernel
theorem dX4_init_18 : decode cX4_init 18 = .ok (.aload_n 0, 1) := by decide +kernel
theorem dX4_init_19 : decode cX4_init 19 = .ok (.sipush 300, 3) := by decide +kernel
theorem dX4_init_22 : decode cX4_init 22 = .ok (.newarray .int, 2) := by decide +kernel
theorem dX4_init_24 : decode cX4_init 24 = .ok (.putfield 19, 3) := by decide +kernel
theorem dX4_init_27 : decode cX4_init 27 = .ok (.aload_n 0, 1) := by decide +kernel
theorem dX4_init_28 : decode cX4_init 28 = .ok (.sipush 300, 3) := by decide +kernel
theorem dX4_init_31 : decode cX4_init 31 = .ok (.newarray .int, 2) := by decide +kernel
theorem dX4_init_33 : decode cX4_init 33 = .ok (.putfield 22, 3) := by decide +kernel
theorem dX4_init_36 : decode cX4_init 36 = .ok (.aload_n 0, 1) := by decide +kernel
theorem dX4_init_37 : decode cX4_init 37 = .ok (.sipush 300, 3) := by decide +kernel
theorem dX4_init_40 : decode cX4_init 40 = .ok (.newarray .int, 2) := by decide +kernel
theorem dX4_init_42 : decode cX4_init 42 = .ok (.putfield 25, 3) := by decide +kernel
theorem dX4_init_45 : decode cX4_init 45 = .ok (.aload_n 0, 1) := by decide +kernel
theorem dX4_init_46 : decode cX4_init 46 = .ok (.sipush 558, 3) := by decide +kernel
theorem dX4_init_49 : decode cX4_init 49 = .ok (.newarray .int, 2) := by decide +kernel
theorem dX4_init_51 : decode cX4_init 51 = .ok (.putfield 28, 3) := by decide +kernel
theorem dX4_init_54 : decode cX4_init 54 = .ok (.iconst 0, 1) := by decide +kernel
theorem dX4_init_55 : decode cX4_init 55 = .ok (.istore_n 2, 1) := by decide +kernel
theorem dX4_init_56 : decode cX4_init 56 = .ok (.iload_n 2, 1) := by decide +kernel
theorem dX4_init_57 : decode cX4_init 57 = .ok (.aload_n 0, 1) := by decide +kernel
theorem dX4_init_58 : decode cX4_init 58 = .ok (.getfield 28, 3) := by decide +kernel
theorem dX4_init_61 : decode cX4_init 61 = .ok (.arraylength, 1) := by decide +kernel
theorem dX4_init_62 : decode cX4_init 62 = .ok (.if_icmp .ge 16, 3) := by decide +kernel
theorem dX4_init_65 : decode cX4_init 65 = .ok (.aload_n 0, 1) := by decide +kernel
theorem dX4_init_66 : decode cX4_init 66 = .ok (.getfield 28, 3) := by decide +kernel
theorem dX4_init_69 : decode cX4_init 69 = .ok (.iload_n 2, 1) := by decide +kernel
theorem dX4_init_70 : decode cX4_init 70 = .ok (.iconst (-1), 1) := by decide +kernel
theorem dX4_init_71 : decode cX4_init 71 = .ok (.iastore, 1) := by decide +kernel
theorem dX4_init_72 : decode cX4_init 72 = .ok (.iinc 2 1, 3) := by decide +kernel
theorem dX4_init_75 : decode cX4_init 75 = .ok (.goto (-19), 3) := by decide +kernel
theorem dX4_init_78 : decode cX4_init 78 = .ok (.aload_n 0, 1) := by decide +kernel
theorem dX4_init_79 : decode cX4_init 79 = .ok (.iconst 0, 1) := by decide +kernel
theorem dX4_init_80 : decode cX4_init 80 = .ok (.putfield 31, 3) := by decide +kernel
theorem dX4_init_83 : decode cX4_init 83 = .ok (.return_, 1) := by decide +kernel
theorem dX4_wipe_0 : decode cX4_wipe 0 = .ok (.iconst 0, 1) := by decide +kernel
theorem dX4_wipe_1 : decode cX4_wipe 1 = .ok (.istore_n 1, 1) := by decide +kernel
theorem dX4_wipe_2 : decode cX4_wipe 2 = .ok (.iload_n 1, 1) := by decide +kernel
theorem dX4_wipe_3 : decode cX4_wipe 3 = .ok (.aload_n 0, 1) := by decide +kernel
theorem dX4_wipe_4 : decode cX4_wipe 4 = .ok (.getfield 31, 3) := by decide +kernel
theorem dX4_wipe_7 : decode cX4_wipe 7 = .ok (.if_icmp .ge 45, 3) := by decide +kernel
theorem dX4_wipe_10 : decode cX4_wipe 10 = .ok (.iload_n 1, 1) := by decide +kernel
theorem dX4_wipe_11 : decode cX4_wipe 11 = .ok (.aload_n 0, 1) := by decide +kernel
theorem dX4_wipe_12 : decode cX4_wipe 12 = .ok (.getfield 15, 3) := by decide +kernel
theorem dX4_wipe_15 : decode cX4_wipe 15 = .ok (.arraylength, 1) := by decide +kernel
theorem dX4_wipe_16 : decode cX4_wipe 16 = .ok (.if_icmp .ge 36, 3) := by decide +kernel
theorem dX4_wipe_19 : decode cX4_wipe 19 = .ok (.aload_n 0, 1) := by decide +kernel
theorem dX4_wipe_20 : decode cX4_wipe 20 = .ok (.getfield 15, 3) := by decide +kernel
theorem dX4_wipe_23 : decode cX4_wipe 23 = .ok (.iload_n 1, 1) := by decide +kernel
theorem dX4_wipe_24 : decode cX4_wipe 24 = .ok (.iaload, 1) := by decide +kernel
theorem dX4_wipe_25 : decode cX4_wipe 25 = .ok (.istore_n 2, 1) := by decide +kernel
theorem dX4_wipe_26 : decode cX4_wipe 26 = .ok (.iload_n 2, 1) := by decide +kernel
theorem dX4_wipe_27 : decode cX4_wipe 27 = .ok (.ifCond .lt 19, 3) := by decide +kernel
theorem dX4_wipe_30 : decode cX4_wipe 30 = .ok (.iload_n 2, 1) := by decide +kernel
theorem dX4_wipe_31 : decode cX4_wipe 31 = .ok (.aload_n 0, 1) := by decide +kernel
theorem dX4_wipe_32 : decode cX4_wipe 32 = .ok (.getfield 28, 3) := by decide +kernel
theorem dX4_wipe_35 : decode cX4_wipe 35 = .ok (.arraylength, 1) := by decide +kernel
theorem dX4_wipe_36 : decode cX4_wipe 36 = .ok (.if_icmp .ge 10, 3) := by decide +kernel
theorem dX4_wipe_39 : decode cX4_wipe 39 = .ok (.aload_n 0, 1) := by decide +kernel
theorem dX4_wipe_40 : decode cX4_wipe 40 = .ok (.getfield 28, 3) := by decide +kernel
theorem dX4_wipe_43 : decode cX4_wipe 43 = .ok (.iload_n 2, 1) := by decide +kernel
theorem dX4_wipe_44 : decode cX4_wipe 44 = .ok (.iconst (-1), 1) := by decide +kernel
theorem dX4_wipe_45 : decode cX4_wipe 45 = .ok (.iastore, 1) := by decide +kernel
theorem dX4_wipe_46 : decode cX4_wipe 46 = .ok (.iinc 1 1, 3) := by decide +kernel
theorem dX4_wipe_49 : decode cX4_wipe 49 = .ok (.goto (-47), 3) := by decide +kernel
theorem dX4_wipe_52 : decode cX4_wipe 52 = .ok (.aload_n 0, 1) := by decide +kernel
theorem dX4_wipe_53 : decode cX4_wipe 53 = .ok (.iconst 0, 1) := by decide +kernel
theorem dX4_wipe_54 : decode cX4_wipe 54 = .ok (.putfield 31, 3) := by decide +kernel
theorem dX4_wipe_57 : decode cX4_wipe 57 = .ok (.return_, 1) := by decide +kernel
theorem dX4_isFull_0 : decode cX4_isFull 0 = .ok (.aload_n 0, 1) := by decide +kernel
theorem dX4_isFull_1 : decode cX4_isFull 1 = .ok (.getfield 9, 3) := by decide +kernel
theorem dX4_isFull_4 : decode cX4_isFull 4 = .ok (.getfield 35, 3) := by decide +kernel
theorem dX4_isFull_7 : decode cX4_isFull 7 = .ok (.aload_n 0, 1) := by decide +kernel
theorem dX4_isFull_8 : decode cX4_isFull 8 = .ok (.getfield 31, 3) := by decide +kernel
theorem dX4_isFull_11 : decode cX4_isFull 11 = .ok (.iadd, 1) := by decide +kernel
theorem dX4_isFull_12 : decode cX4_isFull 12 = .ok (.aload_n 0, 1) := by decide +kernel
theorem dX4_isFull_13 : decode cX4_isFull 13 = .ok (.getfield 9, 3) := by decide +kernel
theorem dX4_isFull_16 : decode cX4_isFull 16 = .ok (.getfield 40, 3) := by decide +kernel
theorem dX4_isFull_19 : decode cX4_isFull 19 = .ok (.if_icmp .lt 7, 3) := by decide +kernel
theorem dX4_isFull_22 : decode cX4_isFull 22 = .ok (.iconst 1, 1) := by decide +kernel
theorem dX4_isFull_23 : decode cX4_isFull 23 = .ok (.goto 4, 3) := by decide +kernel
theorem dX4_isFull_26 : decode cX4_isFull 26 = .ok (.iconst 0, 1) := by decide +kernel
theorem dX4_isFull_27 : decode cX4_isFull 27 = .ok (.ireturn, 1) := by decide +kernel
set_option maxRecDepth 20000 in
theorem ggX4_addLonger_X4_lengthOf : GoodIn wsX4_addLonger wsX4_lengthOf := goodIn_r _ [11, 12, 5, 13, 14, 15, 16, 17, 18, 19, 20, 21, 10, 22, 1, 27, 28, 29, 30, 31, 32, 33, 34, 35, 36, 37, 38, 39, 40, 41, 42, 43, 44, 45] (by decide +kernel) (by decide +kernel)
set_option maxRecDepth 20000 in
theorem gX4_addLonger_X4_lengthOf : GoodIn wsX4_addLonger (wsV RX4 43 RX4 yX4_lengthOf wsX4_lengthOf) := goodIn_app (goodIn_of _ (by decide +kernel)) ggX4_addLonger_X4_lengthOf
set_option maxRecDepth 20000 in
theorem ggX4_addLonger_X4_isFull : GoodIn wsX4_addLonger wsX4_isFull := goodIn_r _ [26, 12, 1, 27, 28, 29, 30, 31, 32, 33, 34, 35, 36, 37, 38, 39, 40, 41, 42, 43, 44, 45] (by decide +kernel) (by decide +kernel)
set_option maxRecDepth 20000 in
theorem gX4_addLonger_X4_isFull : GoodIn wsX4_addLonger (wsV RX4 47 RX4 yX4_isFull wsX4_isFull) := goodIn_app (goodIn_of _ (by decide +kernel)) ggX4_addLonger_X4_isFull
theorem dX4_addLonger_0 : decode cX4_addLonger 0 = .ok (.aload_n 0, 1) := by decide +kernel
theorem dX4_addLonger_1 : decode cX4_addLonger 1 = .ok (.iload_n 1, 1) := by decide +kernel
theorem dX4_addLonger_2 : decode cX4_addLonger 2 = .ok (.invokevirtual 43, 3) := by decide +kernel
theorem dX4_addLonger_5 : decode cX4_addLonger 5 = .ok (.istore_n 3, 1) := by decide +kernel
theorem dX4_addLonger_6 : decode cX4_addLonger 6 = .ok (.aload_n 0, 1) := by decide +kernel
theorem dX4_addLonger_7 : decode cX4_addLonger 7 = .ok (.invokevirtual 47, 3) := by decide +kernel
theorem dX4_addLonger_10 : decode cX4_addLonger 10 = .ok (.ifCond .ne 20, 3) := by decide +kernel
theorem dX4_addLonger_13 : decode cX4_addLonger 13 = .ok (.aload_n 0, 1) := by decide +kernel
theorem dX4_addLonger_14 : decode cX4_addLonger 14 = .ok (.getfield 31, 3) := by decide +kernel
theorem dX4_addLonger_17 : decode cX4_addLonger 17 = .ok (.aload_n 0, 1) := by decide +kernel
theorem dX4_addLonger_18 : decode cX4_addLonger 18 = .ok (.getfield 15, 3) := by decide +kernel
theorem dX4_addLonger_21 : decode cX4_addLonger 21 = .ok (.arraylength, 1) := by decide +kernel
theorem dX4_addLonger_22 : decode cX4_addLonger 22 = .ok (.if_icmp .ge 8, 3) := by decide +kernel
theorem dX4_addLonger_25 : decode cX4_addLonger 25 = .ok (.iload_n 3, 1) := by decide +kernel
theorem dX4_addLonger_26 : decode cX4_addLonger 26 = .ok (.iconst (-1), 1) := by decide +kernel
theorem dX4_addLonger_27 : decode cX4_addLonger 27 = .ok (.if_icmp .ne 4, 3) := by decide +kernel
theorem dX4_addLonger_30 : decode cX4_addLonger 30 = .ok (.return_, 1) := by decide +kernel
theorem dX4_addLonger_31 : decode cX4_addLonger 31 = .ok (.iload_n 1, 1) := by decide +kernel
theorem dX4_addLonger_32 : decode cX4_addLonger 32 = .ok (.ifCond .lt 12, 3) := by decide +kernel
theorem dX4_addLonger_35 : decode cX4_addLonger 35 = .ok (.iload_n 1, 1) := by decide +kernel
theorem dX4_addLonger_36 : decode cX4_addLonger 36 = .ok (.aload_n 0, 1) := by decide +kernel
theorem dX4_addLonger_37 : decode cX4_addLonger 37 = .ok (.getfield 28, 3) := by decide +kernel
theorem dX4_addLonger_40 : decode cX4_addLonger 40 = .ok (.arraylength, 1) := by decide +kernel
theorem dX4_addLonger_41 : decode cX4_addLonger 41 = .ok (.if_icmp .lt 4, 3) := by decide +kernel
theorem dX4_addLonger_44 : decode cX4_addLonger 44 = .ok (.return_, 1) := by decide +kernel
theorem dX4_addLonger_45 : decode cX4_addLonger 45 = .ok (.aload_n 0, 1) := by decide +kernel
theorem dX4_addLonger_46 : decode cX4_addLonger 46 = .ok (.getfield 15, 3) := by decide +kernel
theorem dX4_addLonger_49 : decode cX4_addLonger 49 = .ok (.aload_n 0, 1) := by decide +kernel
theorem dX4_addLonger_50 : decode cX4_addLonger 50 = .ok (.getfield 31, 3) := by decide +kernel
theorem dX4_addLonger_53 : decode cX4_addLonger 53 = .ok (.iload_n 1, 1) := by decide +kernel
theorem dX4_addLonger_54 : decode cX4_addLonger 54 = .ok (.iastore, 1) := by decide +kernel
theorem dX4_addLonger_55 : decode cX4_addLonger 55 = .ok (.aload_n 0, 1) := by decide +kernel
theorem dX4_addLonger_56 : decode cX4_addLonger 56 = .ok (.getfield 19, 3) := by decide +kernel
theorem dX4_addLonger_59 : decode cX4_addLonger 59 = .ok (.aload_n 0, 1) := by decide +kernel
theorem dX4_addLonger_60 : decode cX4_addLonger 60 = .ok (.getfield 31, 3) := by decide +kernel
theorem dX4_addLonger_63 : decode cX4_addLonger 63 = .ok (.iload_n 2, 1) := by decide +kernel
theorem dX4_addLonger_64 : decode cX4_addLonger 64 = .ok (.iastore, 1) := by decide +kernel
theorem dX4_addLonger_65 : decode cX4_addLonger 65 = .ok (.aload_n 0, 1) := by decide +kernel
theorem dX4_addLonger_66 : decode cX4_addLonger 66 = .ok (.getfield 22, 3) := by decide +kernel
theorem dX4_addLonger_69 : decode cX4_addLonger 69 = .ok (.aload_n 0, 1) := by decide +kernel
theorem dX4_addLonger_70 : decode cX4_addLonger 70 = .ok (.getfield 31, 3) := by decide +kernel
theorem dX4_addLonger_73 : decode cX4_addLonger 73 = .ok (.iload_n 3, 1) := by decide +kernel
theorem dX4_addLonger_74 : decode cX4_addLonger 74 = .ok (.iconst 1, 1) := by decide +kernel
theorem dX4_addLonger_75 : decode cX4_addLonger 75 = .ok (.iadd, 1) := by decide +kernel
theorem dX4_addLonger_76 : decode cX4_addLonger 76 = .ok (.iastore, 1) := by decide +kernel
theorem dX4_addLonger_77 : decode cX4_addLonger 77 = .ok (.aload_n 0, 1) := by decide +kernel
theorem dX4_addLonger_78 : decode cX4_addLonger 78 = .ok (.getfield 25, 3) := by decide +kernel
theorem dX4_addLonger_81 : decode cX4_addLonger 81 = .ok (.aload_n 0, 1) := by decide +kernel
theorem dX4_addLonger_82 : decode cX4_addLonger 82 = .ok (.getfield 31, 3) := by decide +kernel
theorem dX4_addLonger_85 : decode cX4_addLonger 85 = .ok (.aload_n 0, 1) := by decide +kernel
theorem dX4_addLonger_86 : decode cX4_addLonger 86 = .ok (.getfield 28, 3) := by decide +kernel
theorem dX4_addLonger_89 : decode cX4_addLonger 89 = .ok (.iload_n 1, 1) := by decide +kernel
theorem dX4_addLonger_90 : decode cX4_addLonger 90 = .ok (.iaload, 1) := by decide +kernel
theorem dX4_addLonger_91 : decode cX4_addLonger 91 = .ok (.iastore, 1) := by decide +kernel
theorem dX4_addLonger_92 : decode cX4_addLonger 92 = .ok (.aload_n 0, 1) := by decide +kernel
theorem dX4_addLonger_93 : decode cX4_addLonger 93 = .ok (.getfield 28, 3) := by decide +kernel
theorem dX4_addLonger_96 : decode cX4_addLonger 96 = .ok (.iload_n 1, 1) := by decide +kernel
theorem dX4_addLonger_97 : decode cX4_addLonger 97 = .ok (.aload_n 0, 1) := by decide +kernel
theorem dX4_addLonger_98 : decode cX4_addLonger 98 = .ok (.getfield 31, 3) := by decide +kernel
theorem dX4_addLonger_101 : decode cX4_addLonger 101 = .ok (.iastore, 1) := by decide +kernel
theorem dX4_addLonger_102 : decode cX4_addLonger 102 = .ok (.aload_n 0, 1) := by decide +kernel
theorem dX4_addLonger_103 : decode cX4_addLonger 103 = .ok (.dup, 1) := by decide +kernel
theorem dX4_addLonger_104 : decode cX4_addLonger 104 = .ok (.getfield 31, 3) := by decide +kernel
theorem dX4_addLonger_107 : decode cX4_addLonger 107 = .ok (.iconst 1, 1) := by decide +kernel
theorem dX4_addLonger_108 : decode cX4_addLonger 108 = .ok (.iadd, 1) := by decide +kernel
theorem dX4_addLonger_109 : decode cX4_addLonger 109 = .ok (.putfield 31, 3) := by decide +kernel
theorem dX4_addLonger_112 : decode cX4_addLonger 112 = .ok (.return_, 1) := by decide +kernel
theorem dX4_longer_0 : decode cX4_longer 0 = .ok (.iload_n 1, 1) := by decide +kernel
theorem dX4_longer_1 : decode cX4_longer 1 = .ok (.ifCond .lt 12, 3) := by decide +kernel
theorem dX4_longer_4 : decode cX4_longer 4 = .ok (.iload_n 1, 1) := by decide +kernel
theorem dX4_longer_5 : decode cX4_longer 5 = .ok (.aload_n 0, 1) := by decide +kernel
theorem dX4_longer_6 : decode cX4_longer 6 = .ok (.getfield 28, 3) := by decide +kernel
theorem dX4_longer_9 : decode cX4_longer 9 = .ok (.arraylength, 1) := by decide +kernel
theorem dX4_longer_10 : decode cX4_longer 10 = .ok (.if_icmp .lt 5, 3) := by decide +kernel
theorem dX4_longer_13 : decode cX4_longer 13 = .ok (.iconst (-1), 1) := by decide +kernel
theorem dX4_longer_14 : decode cX4_longer 14 = .ok (.ireturn, 1) := by decide +kernel
theorem dX4_longer_15 : decode cX4_longer 15 = .ok (.aload_n 0, 1) := by decide +kernel
theorem dX4_longer_16 : decode cX4_longer 16 = .ok (.getfield 28, 3) := by decide +kernel
theorem dX4_longer_19 : decode cX4_longer 19 = .ok (.iload_n 1, 1) := by decide +kernel
theorem dX4_longer_20 : decode cX4_longer 20 = .ok (.iaload, 1) := by decide +kernel
theorem dX4_longer_21 : decode cX4_longer 21 = .ok (.istore_n 3, 1) := by decide +kernel
theorem dX4_longer_22 : decode cX4_longer 22 = .ok (.iconst 0, 1) := by decide +kernel
theorem dX4_longer_23 : decode cX4_longer 23 = .ok (.istore 4, 2) := by decide +kernel
theorem dX4_longer_25 : decode cX4_longer 25 = .ok (.iload 4, 2) := by decide +kernel
theorem dX4_longer_27 : decode cX4_longer 27 = .ok (.aload_n 0, 1) := by decide +kernel
theorem dX4_longer_28 : decode cX4_longer 28 = .ok (.getfield 31, 3) := by decide +kernel
theorem dX4_longer_31 : decode cX4_longer 31 = .ok (.if_icmp .ge 49, 3) := by decide +kernel
theorem dX4_longer_34 : decode cX4_longer 34 = .ok (.iload_n 3, 1) := by decide +kernel
theorem dX4_longer_35 : decode cX4_longer 35 = .ok (.ifCond .lt 45, 3) := by decide +kernel
theorem dX4_longer_38 : decode cX4_longer 38 = .ok (.iload_n 3, 1) := by decide +kernel
theorem dX4_longer_39 : decode cX4_longer 39 = .ok (.aload_n 0, 1) := by decide +kernel
theorem dX4_longer_40 : decode cX4_longer 40 = .ok (.getfield 19, 3) := by decide +kernel
theorem dX4_longer_43 : decode cX4_longer 43 = .ok (.arraylength, 1) := by decide +kernel
theorem dX4_longer_44 : decode cX4_longer 44 = .ok (.if_icmp .ge 36, 3) := by decide +kernel
theorem dX4_longer_47 : decode cX4_longer 47 = .ok (.aload_n 0, 1) := by decide +kernel
theorem dX4_longer_48 : decode cX4_longer 48 = .ok (.getfield 19, 3) := by decide +kernel
theorem dX4_longer_51 : decode cX4_longer 51 = .ok (.iload_n 3, 1) := by decide +kernel
theorem dX4_longer_52 : decode cX4_longer 52 = .ok (.iaload, 1) := by decide +kernel
theorem dX4_longer_53 : decode cX4_longer 53 = .ok (.iload_n 2, 1) := by decide +kernel
theorem dX4_longer_54 : decode cX4_longer 54 = .ok (.if_icmp .ne 13, 3) := by decide +kernel
theorem dX4_longer_57 : decode cX4_longer 57 = .ok (.aload_n 0, 1) := by decide +kernel
theorem dX4_longer_58 : decode cX4_longer 58 = .ok (.getfield 9, 3) := by decide +kernel
theorem dX4_longer_61 : decode cX4_longer 61 = .ok (.getfield 35, 3) := by decide +kernel
theorem dX4_longer_64 : decode cX4_longer 64 = .ok (.iload_n 3, 1) := by decide +kernel
theorem dX4_longer_65 : decode cX4_longer 65 = .ok (.iadd, 1) := by decide +kernel
theorem dX4_longer_66 : decode cX4_longer 66 = .ok (.ireturn, 1) := by decide +kernel
theorem dX4_longer_67 : decode cX4_longer 67 = .ok (.aload_n 0, 1) := by decide +kernel
theorem dX4_longer_68 : decode cX4_longer 68 = .ok (.getfield 25, 3) := by decide +kernel
theorem dX4_longer_71 : decode cX4_longer 71 = .ok (.iload_n 3, 1) := by decide +kernel
theorem dX4_longer_72 : decode cX4_longer 72 = .ok (.iaload, 1) := by decide +kernel
theorem dX4_longer_73 : decode cX4_longer 73 = .ok (.istore_n 3, 1) := by decide +kernel
theorem dX4_longer_74 : decode cX4_longer 74 = .ok (.iinc 4 1, 3) := by decide +kernel
theorem dX4_longer_77 : decode cX4_longer 77 = .ok (.goto (-52), 3) := by decide +kernel
theorem dX4_longer_80 : decode cX4_longer 80 = .ok (.iconst (-1), 1) := by decide +kernel
theorem dX4_longer_81 : decode cX4_longer 81 = .ok (.ireturn, 1) := by decide +kernel
set_option maxRecDepth 20000 in
theorem ggX4_headOf_X4_slotOf : GoodIn wsX4_headOf wsX4_slotOf := goodIn_r _ [6, 7, 8, 9, 10, 11, 12, 13, 14, 15, 16, 17, 18, 19, 20, 21, 22, 23, 24, 25, 26, 27] (by decide +kernel) (by decide +kernel)
set_option maxRecDepth 20000 in
theorem gX4_headOf_X4_slotOf : GoodIn wsX4_headOf (wsV RX4 51 RX4 yX4_slotOf wsX4_slotOf) := goodIn_app (goodIn_of _ (by decide +kernel)) ggX4_headOf_X4_slotOf
theorem dX4_headOf_0 : decode cX4_headOf 0 = .ok (.aload_n 0, 1) := by decide +kernel
theorem dX4_headOf_1 : decode cX4_headOf 1 = .ok (.iload_n 1, 1) := by decide +kernel
theorem dX4_headOf_2 : decode cX4_headOf 2 = .ok (.invokevirtual 51, 3) := by decide +kernel
theorem dX4_headOf_5 : decode cX4_headOf 5 = .ok (.istore_n 2, 1) := by decide +kernel
theorem dX4_headOf_6 : decode cX4_headOf 6 = .ok (.iload_n 2, 1) := by decide +kernel
theorem dX4_headOf_7 : decode cX4_headOf 7 = .ok (.iconst (-1), 1) := by decide +kernel
theorem dX4_headOf_8 : decode cX4_headOf 8 = .ok (.if_icmp .ne 7, 3) := by decide +kernel
theorem dX4_headOf_11 : decode cX4_headOf 11 = .ok (.iconst (-1), 1) := by decide +kernel
theorem dX4_headOf_12 : decode cX4_headOf 12 = .ok (.goto 9, 3) := by decide +kernel
theorem dX4_headOf_15 : decode cX4_headOf 15 = .ok (.aload_n 0, 1) := by decide +kernel
theorem dX4_headOf_16 : decode cX4_headOf 16 = .ok (.getfield 15, 3) := by decide +kernel
theorem dX4_headOf_19 : decode cX4_headOf 19 = .ok (.iload_n 2, 1) := by decide +kernel
theorem dX4_headOf_20 : decode cX4_headOf 20 = .ok (.iaload, 1) := by decide +kernel
theorem dX4_headOf_21 : decode cX4_headOf 21 = .ok (.ireturn, 1) := by decide +kernel
set_option maxRecDepth 20000 in
theorem ggX4_tailOf_X3_isSymbol : GoodIn wsX4_tailOf wsX3_isSymbol := goodIn_r _ [7, 8, 22, 23, 24, 25, 26, 27, 28, 29, 30, 31, 32, 33] (by decide +kernel) (by decide +kernel)
set_option maxRecDepth 20000 in
theorem gX4_tailOf_X3_isSymbol : GoodIn wsX4_tailOf (wsV RX4 54 RX3 yX3_isSymbol wsX3_isSymbol) := goodIn_app (goodIn_of _ (by decide +kernel)) ggX4_tailOf_X3_isSymbol
set_option maxRecDepth 20000 in
theorem ggX4_tailOf_X4_slotOf : GoodIn wsX4_tailOf wsX4_slotOf := goodIn_r _ [13, 1, 14, 15, 16, 17, 18, 19, 20, 21, 22, 23, 24, 25, 26, 27, 28, 29, 30, 31, 32, 33] (by decide +kernel) (by decide +kernel)
set_option maxRecDepth 20000 in
theorem gX4_tailOf_X4_slotOf : GoodIn wsX4_tailOf (wsV RX4 51 RX4 yX4_slotOf wsX4_slotOf) := goodIn_app (goodIn_of _ (by decide +kernel)) ggX4_tailOf_X4_slotOf
theorem dX4_tailOf_0 : decode cX4_tailOf 0 = .ok (.aload_n 0, 1) := by decide +kernel
theorem dX4_tailOf_1 : decode cX4_tailOf 1 = .ok (.getfield 9, 3) := by decide +kernel
theorem dX4_tailOf_4 : decode cX4_tailOf 4 = .ok (.iload_n 1, 1) := by decide +kernel
theorem dX4_tailOf_5 : decode cX4_tailOf 5 = .ok (.invokevirtual 54, 3) := by decide +kernel
theorem dX4_tailOf_8 : decode cX4_tailOf 8 = .ok (.ifCond .eq 5, 3) := by decide +kernel
theorem dX4_tailOf_11 : decode cX4_tailOf 11 = .ok (.iload_n 1, 1) := by decide +kernel
theorem dX4_tailOf_12 : decode cX4_tailOf 12 = .ok (.ireturn, 1) := by decide +kernel
theorem dX4_tailOf_13 : decode cX4_tailOf 13 = .ok (.aload_n 0, 1) := by decide +kernel
theorem dX4_tailOf_14 : decode cX4_tailOf 14 = .ok (.iload_n 1, 1) := by decide +kernel
theorem dX4_tailOf_15 : decode cX4_tailOf 15 = .ok (.invokevirtual 51, 3) := by decide +kernel
theorem dX4_tailOf_18 : decode cX4_tailOf 18 = .ok (.istore_n 2, 1) := by decide +kernel
theorem dX4_tailOf_19 : decode cX4_tailOf 19 = .ok (.iload_n 2, 1) := by decide +kernel
theorem dX4_tailOf_20 : decode cX4_tailOf 20 = .ok (.iconst (-1), 1) := by decide +kernel
theorem dX4_tailOf_21 : decode cX4_tailOf 21 = .ok (.if_icmp .ne 7, 3) := by decide +kernel
theorem dX4_tailOf_24 : decode cX4_tailOf 24 = .ok (.iconst (-1), 1) := by decide +kernel
theorem dX4_tailOf_25 : decode cX4_tailOf 25 = .ok (.goto 9, 3) := by decide +kernel
theorem dX4_tailOf_28 : decode cX4_tailOf 28 = .ok (.aload_n 0, 1) := by decide +kernel
theorem dX4_tailOf_29 : decode cX4_tailOf 29 = .ok (.getfield 19, 3) := by decide +kernel
theorem dX4_tailOf_32 : decode cX4_tailOf 32 = .ok (.iload_n 2, 1) := by decide +kernel
theorem dX4_tailOf_33 : decode cX4_tailOf 33 = .ok (.iaload, 1) := by decide +kernel
theorem dX4_tailOf_34 : decode cX4_tailOf 34 = .ok (.ireturn, 1) := by decide +kernel
set_option maxRecDepth 20000 in
theorem ggX4_lengthOf_X3_isSymbol : GoodIn wsX4_lengthOf wsX3_isSymbol := goodIn_r _ [7, 8, 22, 23, 24, 25, 26, 27, 28, 29, 30, 31, 32, 33] (by decide +kernel) (by decide +kernel)
set_option maxRecDepth 20000 in
theorem gX4_lengthOf_X3_isSymbol : GoodIn wsX4_lengthOf (wsV RX4 54 RX3 yX3_isSymbol wsX3_isSymbol) := goodIn_app (goodIn_of _ (by decide +kernel)) ggX4_lengthOf_X3_isSymbol
set_option maxRecDepth 20000 in
theorem ggX4_lengthOf_X4_slotOf : GoodIn wsX4_lengthOf wsX4_slotOf := goodIn_r _ [13, 1, 14, 15, 16, 17, 18, 19, 20, 21, 22, 23, 24, 25, 26, 27, 28, 29, 30, 31, 32, 33] (by decide +kernel) (by decide +kernel)
set_option maxRecDepth 20000 in
theorem gX4_lengthOf_X4_slotOf : GoodIn wsX4_lengthOf (wsV RX4 51 RX4 yX4_slotOf wsX4_slotOf) := goodIn_app (goodIn_of _ (by decide +kernel)) ggX4_lengthOf_X4_slotOf
theorem dX4_lengthOf_0 : decode cX4_lengthOf 0 = .ok (.aload_n 0, 1) := by decide +kernel
theorem dX4_lengthOf_1 : decode cX4_lengthOf 1 = .ok (.getfield 9, 3) := by decide +kernel
theorem dX4_lengthOf_4 : decode cX4_lengthOf 4 = .ok (.iload_n 1, 1) := by decide +kernel
theorem dX4_lengthOf_5 : decode cX4_lengthOf 5 = .ok (.invokevirtual 54, 3) := by decide +kernel
theorem dX4_lengthOf_8 : decode cX4_lengthOf 8 = .ok (.ifCond .eq 5, 3) := by decide +kernel
theorem dX4_lengthOf_11 : decode cX4_lengthOf 11 = .ok (.iconst 1, 1) := by decide +kernel
theorem dX4_lengthOf_12 : decode cX4_lengthOf 12 = .ok (.ireturn, 1) := by decide +kernel
theorem dX4_lengthOf_13 : decode cX4_lengthOf 13 = .ok (.aload_n 0, 1) := by decide +kernel
theorem dX4_lengthOf_14 : decode cX4_lengthOf 14 = .ok (.iload_n 1, 1) := by decide +kernel
theorem dX4_lengthOf_15 : decode cX4_lengthOf 15 = .ok (.invokevirtual 51, 3) := by decide +kernel
theorem dX4_lengthOf_18 : decode cX4_lengthOf 18 = .ok (.istore_n 2, 1) := by decide +kernel
theorem dX4_lengthOf_19 : decode cX4_lengthOf 19 = .ok (.iload_n 2, 1) := by decide +kernel
theorem dX4_lengthOf_20 : decode cX4_lengthOf 20 = .ok (.iconst (-1), 1) := by decide +kernel
theorem dX4_lengthOf_21 : decode cX4_lengthOf 21 = .ok (.if_icmp .ne 7, 3) := by decide +kernel
theorem dX4_lengthOf_24 : decode cX4_lengthOf 24 = .ok (.iconst (-1), 1) := by decide +kernel
theorem dX4_lengthOf_25 : decode cX4_lengthOf 25 = .ok (.goto 9, 3) := by decide +kernel
theorem dX4_lengthOf_28 : decode cX4_lengthOf 28 = .ok (.aload_n 0, 1) := by decide +kernel
theorem dX4_lengthOf_29 : decode cX4_lengthOf 29 = .ok (.getfield 22, 3) := by decide +kernel
theorem dX4_lengthOf_32 : decode cX4_lengthOf 32 = .ok (.iload_n 2, 1) := by decide +kernel
theorem dX4_lengthOf_33 : decode cX4_lengthOf 33 = .ok (.iaload, 1) := by decide +kernel
theorem dX4_lengthOf_34 : decode cX4_lengthOf 34 = .ok (.ireturn, 1) := by decide +kernel
theorem dX4_slotOf_0 : decode cX4_slotOf 0 = .ok (.aload_n 0, 1) := by decide +kernel
theorem dX4_slotOf_1 : decode cX4_slotOf 1 = .ok (.getfield 9, 3) := by decide +kernel
theorem dX4_slotOf_4 : decode cX4_slotOf 4 = .ok (.getfield 35, 3) := by decide +kernel
theorem dX4_slotOf_7 : decode cX4_slotOf 7 = .ok (.istore_n 2, 1) := by decide +kernel
theorem dX4_slotOf_8 : decode cX4_slotOf 8 = .ok (.iload_n 1, 1) := by decide +kernel
theorem dX4_slotOf_9 : decode cX4_slotOf 9 = .ok (.iload_n 2, 1) := by decide +kernel
theorem dX4_slotOf_10 : decode cX4_slotOf 10 = .ok (.if_icmp .lt 19, 3) := by decide +kernel
theorem dX4_slotOf_13 : decode cX4_slotOf 13 = .ok (.iload_n 1, 1) := by decide +kernel
theorem dX4_slotOf_14 : decode cX4_slotOf 14 = .ok (.iload_n 2, 1) := by decide +kernel
theorem dX4_slotOf_15 : decode cX4_slotOf 15 = .ok (.aload_n 0, 1) := by decide +kernel
theorem dX4_slotOf_16 : decode cX4_slotOf 16 = .ok (.getfield 31, 3) := by decide +kernel
theorem dX4_slotOf_19 : decode cX4_slotOf 19 = .ok (.iadd, 1) := by decide +kernel
theorem dX4_slotOf_20 : decode cX4_slotOf 20 = .ok (.if_icmp .ge 9, 3) := by decide +kernel
theorem dX4_slotOf_23 : decode cX4_slotOf 23 = .ok (.iload_n 1, 1) := by decide +kernel
theorem dX4_slotOf_24 : decode cX4_slotOf 24 = .ok (.iload_n 2, 1) := by decide +kernel
theorem dX4_slotOf_25 : decode cX4_slotOf 25 = .ok (.isub, 1) := by decide +kernel
theorem dX4_slotOf_26 : decode cX4_slotOf 26 = .ok (.goto 4, 3) := by decide +kernel
theorem dX4_slotOf_29 : decode cX4_slotOf 29 = .ok (.iconst (-1), 1) := by decide +kernel
theorem dX4_slotOf_30 : decode cX4_slotOf 30 = .ok (.ireturn, 1) := by decide +kernel
set_option maxRecDepth 20000 in
theorem ggX5_init_X2_init : GoodIn wsX5_init wsX2_init := goodIn_r _ [11, 12, 2, 3, 13, 14, 15, 18, 19] (by decide +kernel) (by decide +kernel)
set_option maxRecDepth 20000 in
theorem gX5_init_X2_init : GoodIn wsX5_init (wsX2_init) := ggX5_init_X2_init
theorem dX5_init_0 : decode cX5_init 0 = .ok (.aload_n 0, 1) := by decide +kernel
theorem dX5_init_1 : decode cX5_init 1 = .ok (.invokespecial 3, 3) := by decide +kernel
theorem dX5_init_4 : decode cX5_init 4 = .ok (.aload_n 0, 1) := by decide +kernel
theorem dX5_init_5 : decode cX5_init 5 = .ok (.aload_n 1, 1) := by decide +kernel
theorem dX5_init_6 : decode cX5_init 6 = .ok (.putfield 9, 3) := by decide +kernel
theorem dX5_init_9 : decode cX5_init 9 = .ok (.aload_n 0, 1) := by decide +kernel
theorem dX5_init_10 : decode cX5_init 10 = .ok (.new 15, 3) := by decide +kernel
theorem dX5_init_13 : decode cX5_init 13 = .ok (.dup, 1) := by decide +kernel
theorem dX5_init_14 : decode cX5_init 14 = .ok (.sipush 400, 3) := by decide +kernel
theorem dX5_init_17 : decode cX5_init 17 = .ok (.invokespecial 17, 3) := by decide +kernel
theorem dX5_init_20 : decode cX5_init 20 = .ok (.putfield 20, 3) := by decide +kernel
theorem dX5_init_23 : decode cX5_init 23 = .ok (.return_, 1) := by decide +kernel
set_option maxRecDepth 20000 in
theorem ggX5_bits_X2_size : GoodIn wsX5_bits wsX2_size := goodIn_r _ [6, 7, 10, 11] (by decide +kernel) (by decide +kernel)
set_option maxRecDepth 20000 in
theorem gX5_bits_X2_size : GoodIn wsX5_bits (wsV RX5 24 RX2 yX2_size wsX2_size) := goodIn_app (goodIn_of _ (by decide +kernel)) ggX5_bits_X2_size
theorem dX5_bits_0 : decode cX5_bits 0 = .ok (.bipush 8, 2) := by decide +kernel
theorem dX5_bits_2 : decode cX5_bits 2 = .ok (.aload_n 0, 1) := by decide +kernel
theorem dX5_bits_3 : decode cX5_bits 3 = .ok (.getfield 20, 3) := by decide +kernel
theorem dX5_bits_6 : decode cX5_bits 6 = .ok (.invokevirtual 24, 3) := by decide +kernel
theorem dX5_bits_9 : decode cX5_bits 9 = .ok (.imul, 1) := by decide +kernel
theorem dX5_bits_10 : decode cX5_bits 10 = .ok (.ireturn, 1) := by decide +kernel
set_option maxRecDepth 20000 in
theorem ggX5_blank_X2_shrinkTo : GoodIn wsX5_blank wsX2_shrinkTo := goodIn_r _ [6, 7, 15, 16] (by decide +kernel) (by decide +kernel)
set_option maxRecDepth 20000 in
theorem gX5_blank_X2_shrinkTo : GoodIn wsX5_blank (wsV RX5 28 RX2 yX2_shrinkTo wsX2_shrinkTo) := goodIn_app (goodIn_of _ (by decide +kernel)) ggX5_blank_X2_shrinkTo
set_option maxRecDepth 20000 in
theorem ggX5_blank_X2_add : GoodIn wsX5_blank wsX2_add := goodIn_r _ [11, 7, 12, 15, 16] (by decide +kernel) (by decide +kernel)
set_option maxRecDepth 20000 in
theorem gX5_blank_X2_add : GoodIn wsX5_blank (wsV RX5 31 RX2 yX2_add wsX2_add) := goodIn_app (goodIn_of _ (by decide +kernel)) ggX5_blank_X2_add
theorem dX5_blank_0 : decode cX5_blank 0 = .ok (.aload_n 0, 1) := by decide +kernel
theorem dX5_blank_1 : decode cX5_blank 1 = .ok (.getfield 20, 3) := by decide +kernel
theorem dX5_blank_4 : decode cX5_blank 4 = .ok (.iconst 0, 1) := by decide +kernel
theorem dX5_blank_5 : decode cX5_blank 5 = .ok (.invokevirtual 28, 3) := by decide +kernel
theorem dX5_blank_8 : decode cX5_blank 8 = .ok (.iconst 0, 1) := by decide +kernel
theorem dX5_blank_9 : decode cX5_blank 9 = .ok (.istore_n 2, 1) := by decide +kernel
theorem dX5_blank_10 : decode cX5_blank 10 = .ok (.iload_n 2, 1) := by decide +kernel
theorem dX5_blank_11 : decode cX5_blank 11 = .ok (.iload_n 1, 1) := by decide +kernel
theorem dX5_blank_12 : decode cX5_blank 12 = .ok (.if_icmp .ge 18, 3) := by decide +kernel
theorem dX5_blank_15 : decode cX5_blank 15 = .ok (.aload_n 0, 1) := by decide +kernel
theorem dX5_blank_16 : decode cX5_blank 16 = .ok (.getfield 20, 3) := by decide +kernel
theorem dX5_blank_19 : decode cX5_blank 19 = .ok (.iconst 0, 1) := by decide +kernel
theorem dX5_blank_20 : decode cX5_blank 20 = .ok (.invokevirtual 31, 3) := by decide +kernel
theorem dX5_blank_23 : decode cX5_blank 23 = .ok (.pop, 1) := by decide +kernel
theorem dX5_blank_24 : decode cX5_blank 24 = .ok (.iinc 2 1, 3) := by decide +kernel
theorem dX5_blank_27 : decode cX5_blank 27 = .ok (.goto (-17), 3) := by decide +kernel
theorem dX5_blank_30 : decode cX5_blank 30 = .ok (.return_, 1) := by decide +kernel
set_option maxRecDepth 20000 in
theorem ggX5_bit_X2_get : GoodIn wsX5_bit wsX2_get := goodIn_r _ [6, 7, 8, 17, 18] (by decide +kernel) (by decide +kernel)
set_option maxRecDepth 20000 in
theorem gX5_bit_X2_get : GoodIn wsX5_bit (wsV RX5 35 RX2 yX2_get wsX2_get) := goodIn_app (goodIn_of _ (by decide +kernel)) ggX5_bit_X2_get
set_option maxRecDepth 20000 in
theorem ggX5_bit_X5_placeInByte : GoodIn wsX5_bit wsX5_placeInByte := goodIn_r _ [13, 14, 15, 16, 19, 20, 21, 22, 23, 24, 25, 26, 27, 28, 29, 30] (by decide +kernel) (by decide +kernel)
set_option maxRecDepth 20000 in
theorem gX5_bit_X5_placeInByte : GoodIn wsX5_bit (wsV RX5 39 RX5 yX5_placeInByte wsX5_placeInByte) := goodIn_app (goodIn_of _ (by decide +kernel)) ggX5_bit_X5_placeInByte
theorem dX5_bit_0 : decode cX5_bit 0 = .ok (.aload_n 0, 1) := by decide +kernel
theorem dX5_bit_1 : decode cX5_bit 1 = .ok (.getfield 20, 3) := by decide +kernel
theorem dX5_bit_4 : decode cX5_bit 4 = .ok (.iload_n 1, 1) := by decide +kernel
theorem dX5_bit_5 : decode cX5_bit 5 = .ok (.iconst 3, 1) := by decide +kernel
theorem dX5_bit_6 : decode cX5_bit 6 = .ok (.ishr, 1) := by decide +kernel
theorem dX5_bit_7 : decode cX5_bit 7 = .ok (.invokevirtual 35, 3) := by decide +kernel
theorem dX5_bit_10 : decode cX5_bit 10 = .ok (.aload_n 0, 1) := by decide +kernel
theorem dX5_bit_11 : decode cX5_bit 11 = .ok (.iload_n 1, 1) := by decide +kernel
theorem dX5_bit_12 : decode cX5_bit 12 = .ok (.invokevirtual 39, 3) := by decide +kernel
theorem dX5_bit_15 : decode cX5_bit 15 = .ok (.ishr, 1) := by decide +kernel
theorem dX5_bit_16 : decode cX5_bit 16 = .ok (.iconst 1, 1) := by decide +kernel
theorem dX5_bit_17 : decode cX5_bit 17 = .ok (.iand, 1) := by decide +kernel
theorem dX5_bit_18 : decode cX5_bit 18 = .ok (.ireturn, 1) := by decide +kernel
set_option maxRecDepth 20000 in
theorem ggX5_putCode_X5_placeInCode : GoodIn wsX5_putCode wsX5_placeInCode := goodIn_r _ [6, 7, 23, 24, 25, 26, 27, 28, 29, 30, 31, 32, 33, 34, 35, 36] (by decide +kernel) (by decide +kernel)
set_option maxRecDepth 20000 in
theorem gX5_putCode_X5_placeInCode : GoodIn wsX5_putCode (wsV RX5 42 RX5 yX5_placeInCode wsX5_placeInCode) := goodIn_app (goodIn_of _ (by decide +kernel)) ggX5_putCode_X5_placeInCode
set_option maxRecDepth 20000 in
theorem ggX5_putCode_X2_get : GoodIn wsX5_putCode wsX2_get := goodIn_r _ [12, 13, 14, 37, 38] (by decide +kernel) (by decide +kernel)
set_option maxRecDepth 20000 in
theorem gX5_putCode_X2_get : GoodIn wsX5_putCode (wsV RX5 35 RX2 yX2_get wsX2_get) := goodIn_app (goodIn_of _ (by decide +kernel)) ggX5_putCode_X2_get
set_option maxRecDepth 20000 in
theorem ggX5_putCode_X5_placeInByte : GoodIn wsX5_putCode wsX5_placeInByte := goodIn_r _ [18, 7, 23, 24, 25, 26, 27, 28, 29, 30, 31, 32, 33, 34, 35, 36] (by decide +kernel) (by decide +kernel)
set_option maxRecDepth 20000 in
theorem gX5_putCode_X5_placeInByte : GoodIn wsX5_putCode (wsV RX5 39 RX5 yX5_placeInByte wsX5_placeInByte) := goodIn_app (goodIn_of _ (by decide +kernel)) ggX5_putCode_X5_placeInByte
set_option maxRecDepth 20000 in
theorem ggX5_putCode_X2_set : GoodIn wsX5_putCode wsX2_set := goodIn_r _ [22, 13, 14, 37, 38] (by decide +kernel) (by decide +kernel)
set_option maxRecDepth 20000 in
theorem gX5_putCode_X2_set : GoodIn wsX5_putCode (wsV RX5 46 RX2 yX2_set wsX2_set) := goodIn_app (goodIn_of _ (by decide +kernel)) ggX5_putCode_X2_set
theorem dX5_putCode_0 : decode cX5_putCode 0 = .ok (.iconst 0, 1) := by decide +kernel
theorem dX5_putCode_1 : decode cX5_putCode 1 = .ok (.istore 4, 2) := by decide +kernel
theorem dX5_putCode_3 : decode cX5_putCode 3 = .ok (.iload 4, 2) := by decide +kernel
theorem dX5_putCode_5 : decode cX5_putCode 5 = .ok (.iload_n 2, 1) := by decide +kernel
theorem dX5_putCode_6 : decode cX5_putCode 6 = .ok (.if_icmp .ge 64, 3) := by decide +kernel
theorem dX5_putCode_9 : decode cX5_putCode 9 = .ok (.iload_n 3, 1) := by decide +kernel
theorem dX5_putCode_10 : decode cX5_putCode 10 = .ok (.iload 4, 2) := by decide +kernel
theorem dX5_putCode_12 : decode cX5_putCode 12 = .ok (.iadd, 1) := by decide +kernel
theorem dX5_putCode_13 : decode cX5_putCode 13 = .ok (.istore 5, 2) := by decide +kernel
theorem dX5_putCode_15 : decode cX5_putCode 15 = .ok (.iload_n 1, 1) := by decide +kernel
theorem dX5_putCode_16 : decode cX5_putCode 16 = .ok (.aload_n 0, 1) := by decide +kernel
theorem dX5_putCode_17 : decode cX5_putCode 17 = .ok (.iload 4, 2) := by decide +kernel
theorem dX5_putCode_19 : decode cX5_putCode 19 = .ok (.iload_n 2, 1) := by decide +kernel
theorem dX5_putCode_20 : decode cX5_putCode 20 = .ok (.invokevirtual 42, 3) := by decide +kernel
theorem dX5_putCode_23 : decode cX5_putCode 23 = .ok (.ishr, 1) := by decide +kernel
theorem dX5_putCode_24 : decode cX5_putCode 24 = .ok (.iconst 1, 1) := by decide +kernel
theorem dX5_putCode_25 : decode cX5_putCode 25 = .ok (.iand, 1) := by decide +kernel
theorem dX5_putCode_26 : decode cX5_putCode 26 = .ok (.istore 6, 2) := by decide +kernel
theorem dX5_putCode_28 : decode cX5_putCode 28 = .ok (.aload_n 0, 1) := by decide +kernel
theorem dX5_putCode_29 : decode cX5_putCode 29 = .ok (.getfield 20, 3) := by decide +kernel
theorem dX5_putCode_32 : decode cX5_putCode 32 = .ok (.iload 5, 2) := by decide +kernel
theorem dX5_putCode_34 : decode cX5_putCode 34 = .ok (.iconst 3, 1) := by decide +kernel
theorem dX5_putCode_35 : decode cX5_putCode 35 = .ok (.ishr, 1) := by decide +kernel
theorem dX5_putCode_36 : decode cX5_putCode 36 = .ok (.invokevirtual 35, 3) := by decide +kernel
theorem dX5_putCode_39 : decode cX5_putCode 39 = .ok (.istore 7, 2) := by decide +kernel
theorem dX5_putCode_41 : decode cX5_putCode 41 = .ok (.aload_n 0, 1) := by decide +kernel
theorem dX5_putCode_42 : decode cX5_putCode 42 = .ok (.getfield 20, 3) := by decide +kernel
theorem dX5_putCode_45 : decode cX5_putCode 45 = .ok (.iload 5, 2) := by decide +kernel
theorem dX5_putCode_47 : decode cX5_putCode 47 = .ok (.iconst 3, 1) := by decide +kernel
theorem dX5_putCode_48 : decode cX5_putCode 48 = .ok (.ishr, 1) := by decide +kernel
theorem dX5_putCode_49 : decode cX5_putCode 49 = .ok (.iload 7, 2) := by decide +kernel
theorem dX5_putCode_51 : decode cX5_putCode 51 = .ok (.iload 6, 2) := by decide +kernel
theorem dX5_putCode_53 : decode cX5_putCode 53 = .ok (.aload_n 0, 1) := by decide +kernel
theorem dX5_putCode_54 : decode cX5_putCode 54 = .ok (.iload 5, 2) := by decide +kernel
theorem dX5_putCode_56 : decode cX5_putCode 56 = .ok (.invokevirtual 39, 3) := by decide +kernel
theorem dX5_putCode_59 : decode cX5_putCode 59 = .ok (.ishl, 1) := by decide +kernel
theorem dX5_putCode_60 : decode cX5_putCode 60 = .ok (.ior, 1) := by decide +kernel
theorem dX5_putCode_61 : decode cX5_putCode 61 = .ok (.invokevirtual 46, 3) := by decide +kernel
theorem dX5_putCode_64 : decode cX5_putCode 64 = .ok (.iinc 4 1, 3) := by decide +kernel
theorem dX5_putCode_67 : decode cX5_putCode 67 = .ok (.goto (-64), 3) := by decide +kernel
theorem dX5_putCode_70 : decode cX5_putCode 70 = .ok (.return_, 1) := by decide +kernel
theorem dX5_placeInCode_0 : decode cX5_placeInCode 0 = .ok (.aload_n 0, 1) := by decide +kernel
theorem dX5_placeInCode_1 : decode cX5_placeInCode 1 = .ok (.getfield 9, 3) := by decide +kernel
theorem dX5_placeInCode_4 : decode cX5_placeInCode 4 = .ok (.getfield 50, 3) := by decide +kernel
theorem dX5_placeInCode_7 : decode cX5_placeInCode 7 = .ok (.ifCond .eq 11, 3) := by decide +kernel
theorem dX5_placeInCode_10 : decode cX5_placeInCode 10 = .ok (.iload_n 2, 1) := by decide +kernel
theorem dX5_placeInCode_11 : decode cX5_placeInCode 11 = .ok (.iconst 1, 1) := by decide +kernel
theorem dX5_placeInCode_12 : decode cX5_placeInCode 12 = .ok (.isub, 1) := by decide +kernel
theorem dX5_placeInCode_13 : decode cX5_placeInCode 13 = .ok (.iload_n 1, 1) := by decide +kernel
theorem dX5_placeInCode_14 : decode cX5_placeInCode 14 = .ok (.isub, 1) := by decide +kernel
theorem dX5_placeInCode_15 : decode cX5_placeInCode 15 = .ok (.goto 4, 3) := by decide +kernel
theorem dX5_placeInCode_18 : decode cX5_placeInCode 18 = .ok (.iload_n 1, 1) := by decide +kernel
theorem dX5_placeInCode_19 : decode cX5_placeInCode 19 = .ok (.ireturn, 1) := by decide +kernel
theorem dX5_placeInByte_0 : decode cX5_placeInByte 0 = .ok (.aload_n 0, 1) := by decide +kernel
theorem dX5_placeInByte_1 : decode cX5_placeInByte 1 = .ok (.getfield 9, 3) := by decide +kernel
theorem dX5_placeInByte_4 : decode cX5_placeInByte 4 = .ok (.getfield 50, 3) := by decide +kernel
theorem dX5_placeInByte_7 : decode cX5_placeInByte 7 = .ok (.ifCond .eq 13, 3) := by decide +kernel
theorem dX5_placeInByte_10 : decode cX5_placeInByte 10 = .ok (.bipush 7, 2) := by decide +kernel
theorem dX5_placeInByte_12 : decode cX5_placeInByte 12 = .ok (.iload_n 1, 1) := by decide +kernel
theorem dX5_placeInByte_13 : decode cX5_placeInByte 13 = .ok (.bipush 7, 2) := by decide +kernel
theorem dX5_placeInByte_15 : decode cX5_placeInByte 15 = .ok (.iand, 1) := by decide +kernel
theorem dX5_placeInByte_16 : decode cX5_placeInByte 16 = .ok (.isub, 1) := by decide +kernel
theorem dX5_placeInByte_17 : decode cX5_placeInByte 17 = .ok (.goto 7, 3) := by decide +kernel
theorem dX5_placeInByte_20 : decode cX5_placeInByte 20 = .ok (.iload_n 1, 1) := by decide +kernel
theorem dX5_placeInByte_21 : decode cX5_placeInByte 21 = .ok (.bipush 7, 2) := by decide +kernel
theorem dX5_placeInByte_23 : decode cX5_placeInByte 23 = .ok (.iand, 1) := by decide +kernel
theorem dX5_placeInByte_24 : decode cX5_placeInByte 24 = .ok (.ireturn, 1) := by decide +kernel
