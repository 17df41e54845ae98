set_option maxRecDepth 20000 in
theorem ggX6_init_X0_init : GoodIn wsX6_init wsX0_init := goodIn_r _ [19, 20, 2, 3, 21, 38, 39, 40, 41, 42, 43, 44] (by decide +kernel) (by decide +kernel)
set_option maxRecDepth 20000 in
theorem gX6_init_X0_init : GoodIn wsX6_init (wsX0_init) := ggX6_init_X0_init
set_option maxRecDepth 20000 in
theorem ggX6_init_X2_init : GoodIn wsX6_init wsX2_init := goodIn_r _ [24, 25, 2, 3, 14, 26, 27, 45, 46] (by decide +kernel) (by decide +kernel)
set_option maxRecDepth 20000 in
theorem gX6_init_X2_init : GoodIn wsX6_init (wsX2_init) := ggX6_init_X2_init
theorem dX6_init_0 : decode cX6_init 0 = .ok (.aload_n 0, 1) := by decide +kernel
theorem dX6_init_1 : decode cX6_init 1 = .ok (.invokespecial 3, 3) := by decide +kernel
theorem dX6_init_4 : decode cX6_init 4 = .ok (.aload_n 0, 1) := by decide +kernel
theorem dX6_init_5 : decode cX6_init 5 = .ok (.aload_n 1, 1) := by decide +kernel
theorem dX6_init_6 : decode cX6_init 6 = .ok (.putfield 9, 3) := by decide +kernel
theorem dX6_init_9 : decode cX6_init 9 = .ok (.aload_n 0, 1) := by decide +kernel
theorem dX6_init_10 : decode cX6_init 10 = .ok (.aload_n 2, 1) := by decide +kernel
theorem dX6_init_11 : decode cX6_init 11 = .ok (.putfield 15, 3) := by decide +kernel
theorem dX6_init_14 : decode cX6_init 14 = .ok (.aload_n 0, 1) := by decide +kernel
theorem dX6_init_15 : decode cX6_init 15 = .ok (.new 19, 3) := by decide +kernel
theorem dX6_init_18 : decode cX6_init 18 = .ok (.dup, 1) := by decide +kernel
theorem dX6_init_19 : decode cX6_init 19 = .ok (.aload_n 1, 1) := by decide +kernel
theorem dX6_init_20 : decode cX6_init 20 = .ok (.invokespecial 21, 3) := by decide +kernel
theorem dX6_init_23 : decode cX6_init 23 = .ok (.putfield 24, 3) := by decide +kernel
theorem dX6_init_26 : decode cX6_init 26 = .ok (.aload_n 0, 1) := by decide +kernel
theorem dX6_init_27 : decode cX6_init 27 = .ok (.new 28, 3) := by decide +kernel
theorem dX6_init_30 : decode cX6_init 30 = .ok (.dup, 1) := by decide +kernel
theorem dX6_init_31 : decode cX6_init 31 = .ok (.sipush 300, 3) := by decide +kernel
theorem dX6_init_34 : decode cX6_init 34 = .ok (.invokespecial 30, 3) := by decide +kernel
theorem dX6_init_37 : decode cX6_init 37 = .ok (.putfield 33, 3) := by decide +kernel
theorem dX6_init_40 : decode cX6_init 40 = .ok (.aload_n 0, 1) := by decide +kernel
theorem dX6_init_41 : decode cX6_init 41 = .ok (.sipush 300, 3) := by decide +kernel
theorem dX6_init_44 : decode cX6_init 44 = .ok (.newarray .int, 2) := by decide +kernel
theorem dX6_init_46 : decode cX6_init 46 = .ok (.putfield 37, 3) := by decide +kernel
theorem dX6_init_49 : decode cX6_init 49 = .ok (.aload_n 0, 1) := by decide +kernel
theorem dX6_init_50 : decode cX6_init 50 = .ok (.sipush 300, 3) := by decide +kernel
theorem dX6_init_53 : decode cX6_init 53 = .ok (.newarray .int, 2) := by decide +kernel
theorem dX6_init_55 : decode cX6_init 55 = .ok (.putfield 41, 3) := by decide +kernel
theorem dX6_init_58 : decode cX6_init 58 = .ok (.return_, 1) := by decide +kernel
set_option maxRecDepth 20000 in
theorem ggX6_unpack_X6_begin : GoodIn wsX6_unpack wsX6_begin := goodIn_r _ [9, 1, 10, 11, 12, 4, 13, 14, 15, 16, 17, 18, 19, 20, 21, 22, 23, 24, 25, 26, 27, 28, 29, 30, 31, 32, 33, 34, 35, 138, 139, 140, 141, 142, 143, 144, 145, 146, 147, 160, 161, 162, 163, 164, 165, 166, 148, 149, 150, 151, 152, 153, 154, 155, 156, 157, 158, 159, 167, 168] (by decide +kernel) (by decide +kernel)
set_option maxRecDepth 20000 in
theorem gX6_unpack_X6_begin : GoodIn wsX6_unpack (wsV RX6 44 RX6 yX6_begin wsX6_begin) := goodIn_app (goodIn_of _ (by decide +kernel)) ggX6_unpack_X6_begin
set_option maxRecDepth 20000 in
theorem ggX6_unpack_X0_bitsThatFill : GoodIn wsX6_unpack wsX0_bitsThatFill := goodIn_r _ [39, 27, 19, 21, 40, 41, 42, 17, 43, 22, 20, 160, 161, 162, 163, 164, 165, 166, 148, 149, 150, 151, 152, 153, 154, 155, 156, 157, 158, 159] (by decide +kernel) (by decide +kernel)
set_option maxRecDepth 20000 in
theorem gX6_unpack_X0_bitsThatFill : GoodIn wsX6_unpack (wsV RX6 47 RX0 yX0_bitsThatFill wsX0_bitsThatFill) := goodIn_app (goodIn_of _ (by decide +kernel)) ggX6_unpack_X0_bitsThatFill
set_option maxRecDepth 20000 in
theorem ggX6_unpack_X6_bitsLeft : GoodIn wsX6_unpack wsX6_bitsLeft := goodIn_r _ [47, 3, 4, 48, 49, 50, 51, 52, 53, 54, 55, 56, 33, 57, 35, 138, 139, 140, 141, 142, 143, 144, 145, 146, 147, 169, 170, 167, 168] (by decide +kernel) (by decide +kernel)
set_option maxRecDepth 20000 in
theorem gX6_unpack_X6_bitsLeft : GoodIn wsX6_unpack (wsV RX6 57 RX6 yX6_bitsLeft wsX6_bitsLeft) := goodIn_app (goodIn_of _ (by decide +kernel)) ggX6_unpack_X6_bitsLeft
set_option maxRecDepth 20000 in
theorem ggX6_unpack_X5_bits : GoodIn wsX6_unpack wsX5_bits := goodIn_r _ [52, 53, 54, 55, 56, 33, 57, 35, 169, 170, 167, 168] (by decide +kernel) (by decide +kernel)
set_option maxRecDepth 20000 in
theorem gX6_unpack_X5_bits : GoodIn wsX6_unpack (wsV RX6 64 RX5 yX5_bits wsX5_bits) := goodIn_app (goodIn_of _ (by decide +kernel)) ggX6_unpack_X5_bits
set_option maxRecDepth 20000 in
theorem ggX6_unpack_X6_zerosUpTo : GoodIn wsX6_unpack wsX6_zerosUpTo := goodIn_r _ [61, 4, 62, 63, 64, 8, 65, 3, 66, 67, 68, 51, 69, 53, 70, 71, 72, 33, 73, 35, 74, 75, 76, 77, 78, 79, 138, 139, 140, 141, 142, 143, 144, 145, 146, 147, 169, 170, 167, 168, 148, 149, 150, 151, 152, 153, 154, 155, 156, 157, 158, 159] (by decide +kernel) (by decide +kernel)
set_option maxRecDepth 20000 in
theorem gX6_unpack_X6_zerosUpTo : GoodIn wsX6_unpack (wsV RX6 69 RX6 yX6_zerosUpTo wsX6_zerosUpTo) := goodIn_app (goodIn_of _ (by decide +kernel)) ggX6_unpack_X6_zerosUpTo
set_option maxRecDepth 20000 in
theorem ggX6_unpack_X6_nextCode : GoodIn wsX6_unpack wsX6_nextCode := goodIn_r _ [83, 1, 3, 13, 44, 45, 46, 8, 47, 4, 48, 49, 50, 51, 52, 53, 54, 55, 56, 33, 57, 35, 62, 63, 64, 65, 66, 67, 68, 69, 70, 71, 72, 73, 74, 75, 76, 77, 78, 79, 84, 85, 86, 87, 138, 139, 140, 141, 142, 143, 144, 145, 146, 147, 160, 161, 162, 163, 164, 165, 166, 169, 170, 167, 168, 148, 149, 150, 151, 152, 153, 154, 155, 156, 157, 158, 159] (by decide +kernel) (by decide +kernel)
set_option maxRecDepth 20000 in
theorem gX6_unpack_X6_nextCode : GoodIn wsX6_unpack (wsV RX6 76 RX6 yX6_nextCode wsX6_nextCode) := goodIn_app (goodIn_of _ (by decide +kernel)) ggX6_unpack_X6_nextCode
set_option maxRecDepth 20000 in
theorem ggX6_unpack_X6_take : GoodIn wsX6_unpack wsX6_take := goodIn_r _ [91, 2, 13, 1, 92, 93, 94, 8, 95, 96, 97, 98, 99, 100, 101, 102, 103, 104, 11, 105, 12, 106, 107, 108, 109, 10, 110, 55, 56, 33, 57, 35, 111, 71, 72, 73, 74, 112, 113, 114, 115, 116, 117, 118, 17, 119, 19, 20, 21, 27, 22, 40, 41, 42, 43, 23, 24, 25, 26, 28, 29, 120, 121, 122, 123, 124, 125, 126, 127, 128, 129, 130, 131, 132, 133, 138, 139, 140, 141, 142, 143, 144, 145, 146, 147, 148, 149, 150, 151, 152, 153, 154, 155, 156, 157, 158, 159, 160, 161, 162, 163, 164, 165, 166, 167, 168] (by decide +kernel) (by decide +kernel)
set_option maxRecDepth 20000 in
theorem gX6_unpack_X6_take : GoodIn wsX6_unpack (wsV RX6 79 RX6 yX6_take wsX6_take) := goodIn_app (goodIn_of _ (by decide +kernel)) ggX6_unpack_X6_take
set_option maxRecDepth 20000 in
theorem ggX6_unpack_X6_closeLastByte : GoodIn wsX6_unpack wsX6_closeLastByte := goodIn_r _ [137, 4, 58, 59, 60, 8, 61, 62, 63, 64, 65, 3, 66, 67, 68, 51, 69, 53, 70, 71, 72, 33, 73, 35, 74, 75, 76, 77, 78, 79, 44, 45, 46, 47, 48, 49, 50, 52, 54, 55, 56, 57, 138, 139, 140, 141, 142, 143, 144, 145, 146, 147, 169, 170, 167, 168, 148, 149, 150, 151, 152, 153, 154, 155, 156, 157, 158, 159] (by decide +kernel) (by decide +kernel)
set_option maxRecDepth 20000 in
theorem gX6_unpack_X6_closeLastByte : GoodIn wsX6_unpack (wsV RX6 85 RX6 yX6_closeLastByte wsX6_closeLastByte) := goodIn_app (goodIn_of _ (by decide +kernel)) ggX6_unpack_X6_closeLastByte
theorem dX6_unpack_0 : decode cX6_unpack 0 = .ok (.aload_n 0, 1) := by decide +kernel
theorem dX6_unpack_1 : decode cX6_unpack 1 = .ok (.invokevirtual 44, 3) := by decide +kernel
theorem dX6_unpack_4 : decode cX6_unpack 4 = .ok (.iconst 0, 1) := by decide +kernel
theorem dX6_unpack_5 : decode cX6_unpack 5 = .ok (.istore_n 1, 1) := by decide +kernel
theorem dX6_unpack_6 : decode cX6_unpack 6 = .ok (.iload_n 1, 1) := by decide +kernel
theorem dX6_unpack_7 : decode cX6_unpack 7 = .ok (.sipush 3200, 3) := by decide +kernel
theorem dX6_unpack_10 : decode cX6_unpack 10 = .ok (.if_icmp .gt 114, 3) := by decide +kernel
theorem dX6_unpack_13 : decode cX6_unpack 13 = .ok (.aload_n 0, 1) := by decide +kernel
theorem dX6_unpack_14 : decode cX6_unpack 14 = .ok (.getfield 24, 3) := by decide +kernel
theorem dX6_unpack_17 : decode cX6_unpack 17 = .ok (.invokevirtual 47, 3) := by decide +kernel
theorem dX6_unpack_20 : decode cX6_unpack 20 = .ok (.istore_n 2, 1) := by decide +kernel
theorem dX6_unpack_21 : decode cX6_unpack 21 = .ok (.aload_n 0, 1) := by decide +kernel
theorem dX6_unpack_22 : decode cX6_unpack 22 = .ok (.getfield 9, 3) := by decide +kernel
theorem dX6_unpack_25 : decode cX6_unpack 25 = .ok (.getfield 51, 3) := by decide +kernel
theorem dX6_unpack_28 : decode cX6_unpack 28 = .ok (.ifCond .eq 31, 3) := by decide +kernel
theorem dX6_unpack_31 : decode cX6_unpack 31 = .ok (.aload_n 0, 1) := by decide +kernel
theorem dX6_unpack_32 : decode cX6_unpack 32 = .ok (.invokevirtual 57, 3) := by decide +kernel
theorem dX6_unpack_35 : decode cX6_unpack 35 = .ok (.iload_n 2, 1) := by decide +kernel
theorem dX6_unpack_36 : decode cX6_unpack 36 = .ok (.aload_n 0, 1) := by decide +kernel
theorem dX6_unpack_37 : decode cX6_unpack 37 = .ok (.getfield 24, 3) := by decide +kernel
theorem dX6_unpack_40 : decode cX6_unpack 40 = .ok (.getfield 60, 3) := by decide +kernel
theorem dX6_unpack_43 : decode cX6_unpack 43 = .ok (.iadd, 1) := by decide +kernel
theorem dX6_unpack_44 : decode cX6_unpack 44 = .ok (.if_icmp .ge 15, 3) := by decide +kernel
theorem dX6_unpack_47 : decode cX6_unpack 47 = .ok (.aload_n 0, 1) := by decide +kernel
theorem dX6_unpack_48 : decode cX6_unpack 48 = .ok (.aload_n 0, 1) := by decide +kernel
theorem dX6_unpack_49 : decode cX6_unpack 49 = .ok (.getfield 15, 3) := by decide +kernel
theorem dX6_unpack_52 : decode cX6_unpack 52 = .ok (.invokevirtual 64, 3) := by decide +kernel
theorem dX6_unpack_55 : decode cX6_unpack 55 = .ok (.invokevirtual 69, 3) := by decide +kernel
theorem dX6_unpack_58 : decode cX6_unpack 58 = .ok (.ireturn, 1) := by decide +kernel
theorem dX6_unpack_59 : decode cX6_unpack 59 = .ok (.aload_n 0, 1) := by decide +kernel
theorem dX6_unpack_60 : decode cX6_unpack 60 = .ok (.aload_n 0, 1) := by decide +kernel
theorem dX6_unpack_61 : decode cX6_unpack 61 = .ok (.getfield 73, 3) := by decide +kernel
theorem dX6_unpack_64 : decode cX6_unpack 64 = .ok (.iload_n 2, 1) := by decide +kernel
theorem dX6_unpack_65 : decode cX6_unpack 65 = .ok (.iadd, 1) := by decide +kernel
theorem dX6_unpack_66 : decode cX6_unpack 66 = .ok (.invokevirtual 69, 3) := by decide +kernel
theorem dX6_unpack_69 : decode cX6_unpack 69 = .ok (.ifCond .eq 6, 3) := by decide +kernel
theorem dX6_unpack_72 : decode cX6_unpack 72 = .ok (.bipush 6, 2) := by decide +kernel
theorem dX6_unpack_74 : decode cX6_unpack 74 = .ok (.ireturn, 1) := by decide +kernel
theorem dX6_unpack_75 : decode cX6_unpack 75 = .ok (.aload_n 0, 1) := by decide +kernel
theorem dX6_unpack_76 : decode cX6_unpack 76 = .ok (.invokevirtual 76, 3) := by decide +kernel
theorem dX6_unpack_79 : decode cX6_unpack 79 = .ok (.istore_n 3, 1) := by decide +kernel
theorem dX6_unpack_80 : decode cX6_unpack 80 = .ok (.iload_n 3, 1) := by decide +kernel
theorem dX6_unpack_81 : decode cX6_unpack 81 = .ok (.iconst (-1), 1) := by decide +kernel
theorem dX6_unpack_82 : decode cX6_unpack 82 = .ok (.if_icmp .ne 5, 3) := by decide +kernel
theorem dX6_unpack_85 : decode cX6_unpack 85 = .ok (.iconst 1, 1) := by decide +kernel
theorem dX6_unpack_86 : decode cX6_unpack 86 = .ok (.ireturn, 1) := by decide +kernel
theorem dX6_unpack_87 : decode cX6_unpack 87 = .ok (.aload_n 0, 1) := by decide +kernel
theorem dX6_unpack_88 : decode cX6_unpack 88 = .ok (.iload_n 3, 1) := by decide +kernel
theorem dX6_unpack_89 : decode cX6_unpack 89 = .ok (.invokevirtual 79, 3) := by decide +kernel
theorem dX6_unpack_92 : decode cX6_unpack 92 = .ok (.istore 4, 2) := by decide +kernel
theorem dX6_unpack_94 : decode cX6_unpack 94 = .ok (.iload 4, 2) := by decide +kernel
theorem dX6_unpack_96 : decode cX6_unpack 96 = .ok (.ifCond .eq 6, 3) := by decide +kernel
theorem dX6_unpack_99 : decode cX6_unpack 99 = .ok (.iload 4, 2) := by decide +kernel
theorem dX6_unpack_101 : decode cX6_unpack 101 = .ok (.ireturn, 1) := by decide +kernel
theorem dX6_unpack_102 : decode cX6_unpack 102 = .ok (.iload_n 3, 1) := by decide +kernel
theorem dX6_unpack_103 : decode cX6_unpack 103 = .ok (.aload_n 0, 1) := by decide +kernel
theorem dX6_unpack_104 : decode cX6_unpack 104 = .ok (.getfield 9, 3) := by decide +kernel
theorem dX6_unpack_107 : decode cX6_unpack 107 = .ok (.getfield 82, 3) := by decide +kernel
theorem dX6_unpack_110 : decode cX6_unpack 110 = .ok (.if_icmp .ne 8, 3) := by decide +kernel
theorem dX6_unpack_113 : decode cX6_unpack 113 = .ok (.aload_n 0, 1) := by decide +kernel
theorem dX6_unpack_114 : decode cX6_unpack 114 = .ok (.invokevirtual 85, 3) := by decide +kernel
theorem dX6_unpack_117 : decode cX6_unpack 117 = .ok (.ireturn, 1) := by decide +kernel
theorem dX6_unpack_118 : decode cX6_unpack 118 = .ok (.iinc 1 1, 3) := by decide +kernel
theorem dX6_unpack_121 : decode cX6_unpack 121 = .ok (.goto (-115), 3) := by decide +kernel
theorem dX6_unpack_124 : decode cX6_unpack 124 = .ok (.iconst 1, 1) := by decide +kernel
theorem dX6_unpack_125 : decode cX6_unpack 125 = .ok (.ireturn, 1) := by decide +kernel
set_option maxRecDepth 20000 in
theorem ggX6_begin_X0_begin : GoodIn wsX6_begin wsX0_begin := goodIn_r _ [11, 12, 13, 14, 15, 16, 17, 18, 10, 19, 20, 21, 22, 39, 40, 41, 42, 43, 44, 45, 46, 47, 48, 49, 50, 51, 52, 53, 54, 55, 56, 57] (by decide +kernel) (by decide +kernel)
set_option maxRecDepth 20000 in
theorem gX6_begin_X0_begin : GoodIn wsX6_begin (wsV RX6 88 RX0 yX0_begin wsX0_begin) := goodIn_app (goodIn_of _ (by decide +kernel)) ggX6_begin_X0_begin
set_option maxRecDepth 20000 in
theorem ggX6_begin_X2_shrinkTo : GoodIn wsX6_begin wsX2_shrinkTo := goodIn_r _ [27, 28, 58, 59] (by decide +kernel) (by decide +kernel)
set_option maxRecDepth 20000 in
theorem gX6_begin_X2_shrinkTo : GoodIn wsX6_begin (wsV RX6 89 RX2 yX2_shrinkTo wsX2_shrinkTo) := goodIn_app (goodIn_of _ (by decide +kernel)) ggX6_begin_X2_shrinkTo
theorem dX6_begin_0 : decode cX6_begin 0 = .ok (.aload_n 0, 1) := by decide +kernel
theorem dX6_begin_1 : decode cX6_begin 1 = .ok (.getfield 24, 3) := by decide +kernel
theorem dX6_begin_4 : decode cX6_begin 4 = .ok (.invokevirtual 88, 3) := by decide +kernel
theorem dX6_begin_7 : decode cX6_begin 7 = .ok (.aload_n 0, 1) := by decide +kernel
theorem dX6_begin_8 : decode cX6_begin 8 = .ok (.getfield 33, 3) := by decide +kernel
theorem dX6_begin_11 : decode cX6_begin 11 = .ok (.iconst 0, 1) := by decide +kernel
theorem dX6_begin_12 : decode cX6_begin 12 = .ok (.invokevirtual 89, 3) := by decide +kernel
theorem dX6_begin_15 : decode cX6_begin 15 = .ok (.aload_n 0, 1) := by decide +kernel
theorem dX6_begin_16 : decode cX6_begin 16 = .ok (.iconst 0, 1) := by decide +kernel
theorem dX6_begin_17 : decode cX6_begin 17 = .ok (.putfield 92, 3) := by decide +kernel
theorem dX6_begin_20 : decode cX6_begin 20 = .ok (.aload_n 0, 1) := by decide +kernel
theorem dX6_begin_21 : decode cX6_begin 21 = .ok (.iconst 0, 1) := by decide +kernel
theorem dX6_begin_22 : decode cX6_begin 22 = .ok (.putfield 95, 3) := by decide +kernel
theorem dX6_begin_25 : decode cX6_begin 25 = .ok (.aload_n 0, 1) := by decide +kernel
theorem dX6_begin_26 : decode cX6_begin 26 = .ok (.iconst 0, 1) := by decide +kernel
theorem dX6_begin_27 : decode cX6_begin 27 = .ok (.putfield 73, 3) := by decide +kernel
theorem dX6_begin_30 : decode cX6_begin 30 = .ok (.aload_n 0, 1) := by decide +kernel
theorem dX6_begin_31 : decode cX6_begin 31 = .ok (.iconst 0, 1) := by decide +kernel
theorem dX6_begin_32 : decode cX6_begin 32 = .ok (.putfield 98, 3) := by decide +kernel
theorem dX6_begin_35 : decode cX6_begin 35 = .ok (.return_, 1) := by decide +kernel
set_option maxRecDepth 20000 in
theorem ggX6_bitsLeft_X5_bits : GoodIn wsX6_bitsLeft wsX5_bits := goodIn_r _ [7, 8, 9, 10, 11, 12, 13, 14, 25, 26, 27, 28] (by decide +kernel) (by decide +kernel)
set_option maxRecDepth 20000 in
theorem gX6_bitsLeft_X5_bits : GoodIn wsX6_bitsLeft (wsV RX6 64 RX5 yX5_bits wsX5_bits) := goodIn_app (goodIn_of _ (by decide +kernel)) ggX6_bitsLeft_X5_bits
theorem dX6_bitsLeft_0 : decode cX6_bitsLeft 0 = .ok (.aload_n 0, 1) := by decide +kernel
theorem dX6_bitsLeft_1 : decode cX6_bitsLeft 1 = .ok (.getfield 15, 3) := by decide +kernel
theorem dX6_bitsLeft_4 : decode cX6_bitsLeft 4 = .ok (.invokevirtual 64, 3) := by decide +kernel
theorem dX6_bitsLeft_7 : decode cX6_bitsLeft 7 = .ok (.aload_n 0, 1) := by decide +kernel
theorem dX6_bitsLeft_8 : decode cX6_bitsLeft 8 = .ok (.getfield 73, 3) := by decide +kernel
theorem dX6_bitsLeft_11 : decode cX6_bitsLeft 11 = .ok (.isub, 1) := by decide +kernel
theorem dX6_bitsLeft_12 : decode cX6_bitsLeft 12 = .ok (.ireturn, 1) := by decide +kernel
set_option maxRecDepth 20000 in
theorem ggX6_nextBit_X5_bit : GoodIn wsX6_nextBit wsX5_bit := goodIn_r _ [7, 8, 9, 10, 11, 12, 13, 14, 15, 16, 17, 18, 6, 19, 20, 31, 32, 33, 34, 35, 36, 37, 38, 39, 40, 41, 42, 43, 44, 45, 46] (by decide +kernel) (by decide +kernel)
set_option maxRecDepth 20000 in
theorem gX6_nextBit_X5_bit : GoodIn wsX6_nextBit (wsV RX6 101 RX5 yX5_bit wsX5_bit) := goodIn_app (goodIn_of _ (by decide +kernel)) ggX6_nextBit_X5_bit
theorem dX6_nextBit_0 : decode cX6_nextBit 0 = .ok (.aload_n 0, 1) := by decide +kernel
theorem dX6_nextBit_1 : decode cX6_nextBit 1 = .ok (.getfield 15, 3) := by decide +kernel
theorem dX6_nextBit_4 : decode cX6_nextBit 4 = .ok (.aload_n 0, 1) := by decide +kernel
theorem dX6_nextBit_5 : decode cX6_nextBit 5 = .ok (.getfield 73, 3) := by decide +kernel
theorem dX6_nextBit_8 : decode cX6_nextBit 8 = .ok (.invokevirtual 101, 3) := by decide +kernel
theorem dX6_nextBit_11 : decode cX6_nextBit 11 = .ok (.istore_n 1, 1) := by decide +kernel
theorem dX6_nextBit_12 : decode cX6_nextBit 12 = .ok (.aload_n 0, 1) := by decide +kernel
theorem dX6_nextBit_13 : decode cX6_nextBit 13 = .ok (.dup, 1) := by decide +kernel
theorem dX6_nextBit_14 : decode cX6_nextBit 14 = .ok (.getfield 73, 3) := by decide +kernel
theorem dX6_nextBit_17 : decode cX6_nextBit 17 = .ok (.iconst 1, 1) := by decide +kernel
theorem dX6_nextBit_18 : decode cX6_nextBit 18 = .ok (.iadd, 1) := by decide +kernel
theorem dX6_nextBit_19 : decode cX6_nextBit 19 = .ok (.putfield 73, 3) := by decide +kernel
theorem dX6_nextBit_22 : decode cX6_nextBit 22 = .ok (.iload_n 1, 1) := by decide +kernel
theorem dX6_nextBit_23 : decode cX6_nextBit 23 = .ok (.ireturn, 1) := by decide +kernel
set_option maxRecDepth 20000 in
theorem ggX6_zerosUpTo_X6_nextBit : GoodIn wsX6_zerosUpTo wsX6_nextBit := goodIn_r _ [6, 7, 1, 8, 9, 10, 11, 12, 13, 14, 15, 16, 17, 18, 19, 20, 21, 22, 23, 24, 25, 26, 27, 28, 29, 30, 31, 32, 33, 34, 35, 36, 37, 38, 39, 40, 41, 42, 43, 44, 45, 46, 47, 48, 49, 50, 51] (by decide +kernel) (by decide +kernel)
set_option maxRecDepth 20000 in
theorem gX6_zerosUpTo_X6_nextBit : GoodIn wsX6_zerosUpTo (wsV RX6 104 RX6 yX6_nextBit wsX6_nextBit) := goodIn_app (goodIn_of _ (by decide +kernel)) ggX6_zerosUpTo_X6_nextBit
theorem dX6_zerosUpTo_0 : decode cX6_zerosUpTo 0 = .ok (.aload_n 0, 1) := by decide +kernel
theorem dX6_zerosUpTo_1 : decode cX6_zerosUpTo 1 = .ok (.getfield 73, 3) := by decide +kernel
theorem dX6_zerosUpTo_4 : decode cX6_zerosUpTo 4 = .ok (.istore_n 2, 1) := by decide +kernel
theorem dX6_zerosUpTo_5 : decode cX6_zerosUpTo 5 = .ok (.iload_n 2, 1) := by decide +kernel
theorem dX6_zerosUpTo_6 : decode cX6_zerosUpTo 6 = .ok (.iload_n 1, 1) := by decide +kernel
theorem dX6_zerosUpTo_7 : decode cX6_zerosUpTo 7 = .ok (.if_icmp .ge 19, 3) := by decide +kernel
theorem dX6_zerosUpTo_10 : decode cX6_zerosUpTo 10 = .ok (.aload_n 0, 1) := by decide +kernel
theorem dX6_zerosUpTo_11 : decode cX6_zerosUpTo 11 = .ok (.invokevirtual 104, 3) := by decide +kernel
theorem dX6_zerosUpTo_14 : decode cX6_zerosUpTo 14 = .ok (.ifCond .eq 6, 3) := by decide +kernel
theorem dX6_zerosUpTo_17 : decode cX6_zerosUpTo 17 = .ok (.bipush 6, 2) := by decide +kernel
theorem dX6_zerosUpTo_19 : decode cX6_zerosUpTo 19 = .ok (.ireturn, 1) := by decide +kernel
theorem dX6_zerosUpTo_20 : decode cX6_zerosUpTo 20 = .ok (.iinc 2 1, 3) := by decide +kernel
theorem dX6_zerosUpTo_23 : decode cX6_zerosUpTo 23 = .ok (.goto (-18), 3) := by decide +kernel
theorem dX6_zerosUpTo_26 : decode cX6_zerosUpTo 26 = .ok (.iconst 0, 1) := by decide +kernel
theorem dX6_zerosUpTo_27 : decode cX6_zerosUpTo 27 = .ok (.ireturn, 1) := by decide +kernel
set_option maxRecDepth 20000 in
theorem ggX6_closeLastByte_X6_zerosUpTo : GoodIn wsX6_closeLastByte wsX6_zerosUpTo := goodIn_r _ [6, 1, 7, 8, 9, 5, 10, 11, 12, 13, 14, 15, 16, 17, 18, 19, 20, 21, 22, 23, 24, 25, 26, 27, 28, 29, 42, 43, 44, 45, 46, 47, 48, 49, 50, 51, 52, 53, 54, 55, 56, 57, 58, 59, 60, 61, 62, 63, 64, 65, 66, 67] (by decide +kernel) (by decide +kernel)
set_option maxRecDepth 20000 in
theorem gX6_closeLastByte_X6_zerosUpTo : GoodIn wsX6_closeLastByte (wsV RX6 69 RX6 yX6_zerosUpTo wsX6_zerosUpTo) := goodIn_app (goodIn_of _ (by decide +kernel)) ggX6_closeLastByte_X6_zerosUpTo
set_option maxRecDepth 20000 in
theorem ggX6_closeLastByte_X6_bitsLeft : GoodIn wsX6_closeLastByte wsX6_bitsLeft := goodIn_r _ [33, 11, 1, 34, 35, 36, 15, 37, 17, 38, 39, 40, 21, 41, 23, 42, 43, 44, 45, 46, 47, 48, 49, 50, 51, 52, 53, 54, 55] (by decide +kernel) (by decide +kernel)
set_option maxRecDepth 20000 in
theorem gX6_closeLastByte_X6_bitsLeft : GoodIn wsX6_closeLastByte (wsV RX6 57 RX6 yX6_bitsLeft wsX6_bitsLeft) := goodIn_app (goodIn_of _ (by decide +kernel)) ggX6_closeLastByte_X6_bitsLeft
theorem dX6_closeLastByte_0 : decode cX6_closeLastByte 0 = .ok (.aload_n 0, 1) := by decide +kernel
theorem dX6_closeLastByte_1 : decode cX6_closeLastByte 1 = .ok (.aload_n 0, 1) := by decide +kernel
theorem dX6_closeLastByte_2 : decode cX6_closeLastByte 2 = .ok (.getfield 73, 3) := by decide +kernel
theorem dX6_closeLastByte_5 : decode cX6_closeLastByte 5 = .ok (.bipush 7, 2) := by decide +kernel
theorem dX6_closeLastByte_7 : decode cX6_closeLastByte 7 = .ok (.iadd, 1) := by decide +kernel
theorem dX6_closeLastByte_8 : decode cX6_closeLastByte 8 = .ok (.bipush 8, 2) := by decide +kernel
theorem dX6_closeLastByte_10 : decode cX6_closeLastByte 10 = .ok (.idiv, 1) := by decide +kernel
theorem dX6_closeLastByte_11 : decode cX6_closeLastByte 11 = .ok (.bipush 8, 2) := by decide +kernel
theorem dX6_closeLastByte_13 : decode cX6_closeLastByte 13 = .ok (.imul, 1) := by decide +kernel
theorem dX6_closeLastByte_14 : decode cX6_closeLastByte 14 = .ok (.invokevirtual 69, 3) := by decide +kernel
theorem dX6_closeLastByte_17 : decode cX6_closeLastByte 17 = .ok (.istore_n 1, 1) := by decide +kernel
theorem dX6_closeLastByte_18 : decode cX6_closeLastByte 18 = .ok (.iload_n 1, 1) := by decide +kernel
theorem dX6_closeLastByte_19 : decode cX6_closeLastByte 19 = .ok (.ifCond .ne 15, 3) := by decide +kernel
theorem dX6_closeLastByte_22 : decode cX6_closeLastByte 22 = .ok (.aload_n 0, 1) := by decide +kernel
theorem dX6_closeLastByte_23 : decode cX6_closeLastByte 23 = .ok (.invokevirtual 57, 3) := by decide +kernel
theorem dX6_closeLastByte_26 : decode cX6_closeLastByte 26 = .ok (.ifCond .le 8, 3) := by decide +kernel
theorem dX6_closeLastByte_29 : decode cX6_closeLastByte 29 = .ok (.bipush 6, 2) := by decide +kernel
theorem dX6_closeLastByte_31 : decode cX6_closeLastByte 31 = .ok (.goto 4, 3) := by decide +kernel
theorem dX6_closeLastByte_34 : decode cX6_closeLastByte 34 = .ok (.iload_n 1, 1) := by decide +kernel
theorem dX6_closeLastByte_35 : decode cX6_closeLastByte 35 = .ok (.ireturn, 1) := by decide +kernel
set_option maxRecDepth 20000 in
theorem ggX6_nextCode_X6_bitsLeft : GoodIn wsX6_nextCode wsX6_bitsLeft := goodIn_r _ [8, 2, 9, 10, 11, 12, 13, 14, 15, 16, 17, 18, 19, 20, 21, 44, 45, 46, 47, 48, 49, 50, 51, 52, 53, 61, 62, 63, 64] (by decide +kernel) (by decide +kernel)
set_option maxRecDepth 20000 in
theorem gX6_nextCode_X6_bitsLeft : GoodIn wsX6_nextCode (wsV RX6 57 RX6 yX6_bitsLeft wsX6_bitsLeft) := goodIn_app (goodIn_of _ (by decide +kernel)) ggX6_nextCode_X6_bitsLeft
set_option maxRecDepth 20000 in
theorem ggX6_nextCode_X6_nextBit : GoodIn wsX6_nextCode wsX6_nextBit := goodIn_r _ [25, 2, 9, 26, 27, 28, 13, 29, 15, 30, 31, 32, 19, 33, 21, 34, 35, 36, 37, 38, 39, 44, 45, 46, 47, 48, 49, 50, 51, 52, 53, 61, 62, 63, 64, 65, 66, 67, 68, 69, 70, 71, 72, 73, 74, 75, 76] (by decide +kernel) (by decide +kernel)
set_option maxRecDepth 20000 in
theorem gX6_nextCode_X6_nextBit : GoodIn wsX6_nextCode (wsV RX6 104 RX6 yX6_nextBit wsX6_nextBit) := goodIn_app (goodIn_of _ (by decide +kernel)) ggX6_nextCode_X6_nextBit
set_option maxRecDepth 20000 in
theorem ggX6_nextCode_X5_placeInCode : GoodIn wsX6_nextCode wsX5_placeInCode := goodIn_r _ [43, 39, 61, 62, 65, 66, 67, 68, 69, 70, 71, 72, 73, 74, 75, 76] (by decide +kernel) (by decide +kernel)
set_option maxRecDepth 20000 in
theorem gX6_nextCode_X5_placeInCode : GoodIn wsX6_nextCode (wsV RX6 107 RX5 yX5_placeInCode wsX5_placeInCode) := goodIn_app (goodIn_of _ (by decide +kernel)) ggX6_nextCode_X5_placeInCode
theorem dX6_nextCode_0 : decode cX6_nextCode 0 = .ok (.iconst 0, 1) := by decide +kernel
theorem dX6_nextCode_1 : decode cX6_nextCode 1 = .ok (.istore_n 1, 1) := by decide +kernel
theorem dX6_nextCode_2 : decode cX6_nextCode 2 = .ok (.iconst 0, 1) := by decide +kernel
theorem dX6_nextCode_3 : decode cX6_nextCode 3 = .ok (.istore_n 2, 1) := by decide +kernel
theorem dX6_nextCode_4 : decode cX6_nextCode 4 = .ok (.iload_n 2, 1) := by decide +kernel
theorem dX6_nextCode_5 : decode cX6_nextCode 5 = .ok (.aload_n 0, 1) := by decide +kernel
theorem dX6_nextCode_6 : decode cX6_nextCode 6 = .ok (.getfield 24, 3) := by decide +kernel
theorem dX6_nextCode_9 : decode cX6_nextCode 9 = .ok (.getfield 60, 3) := by decide +kernel
theorem dX6_nextCode_12 : decode cX6_nextCode 12 = .ok (.if_icmp .ge 41, 3) := by decide +kernel
theorem dX6_nextCode_15 : decode cX6_nextCode 15 = .ok (.aload_n 0, 1) := by decide +kernel
theorem dX6_nextCode_16 : decode cX6_nextCode 16 = .ok (.invokevirtual 57, 3) := by decide +kernel
theorem dX6_nextCode_19 : decode cX6_nextCode 19 = .ok (.ifCond .gt 5, 3) := by decide +kernel
theorem dX6_nextCode_22 : decode cX6_nextCode 22 = .ok (.iconst (-1), 1) := by decide +kernel
theorem dX6_nextCode_23 : decode cX6_nextCode 23 = .ok (.ireturn, 1) := by decide +kernel
theorem dX6_nextCode_24 : decode cX6_nextCode 24 = .ok (.iload_n 1, 1) := by decide +kernel
theorem dX6_nextCode_25 : decode cX6_nextCode 25 = .ok (.aload_n 0, 1) := by decide +kernel
theorem dX6_nextCode_26 : decode cX6_nextCode 26 = .ok (.invokevirtual 104, 3) := by decide +kernel
theorem dX6_nextCode_29 : decode cX6_nextCode 29 = .ok (.aload_n 0, 1) := by decide +kernel
theorem dX6_nextCode_30 : decode cX6_nextCode 30 = .ok (.getfield 15, 3) := by decide +kernel
theorem dX6_nextCode_33 : decode cX6_nextCode 33 = .ok (.iload_n 2, 1) := by decide +kernel
theorem dX6_nextCode_34 : decode cX6_nextCode 34 = .ok (.aload_n 0, 1) := by decide +kernel
theorem dX6_nextCode_35 : decode cX6_nextCode 35 = .ok (.getfield 24, 3) := by decide +kernel
theorem dX6_nextCode_38 : decode cX6_nextCode 38 = .ok (.getfield 60, 3) := by decide +kernel
theorem dX6_nextCode_41 : decode cX6_nextCode 41 = .ok (.invokevirtual 107, 3) := by decide +kernel
theorem dX6_nextCode_44 : decode cX6_nextCode 44 = .ok (.ishl, 1) := by decide +kernel
theorem dX6_nextCode_45 : decode cX6_nextCode 45 = .ok (.ior, 1) := by decide +kernel
theorem dX6_nextCode_46 : decode cX6_nextCode 46 = .ok (.istore_n 1, 1) := by decide +kernel
theorem dX6_nextCode_47 : decode cX6_nextCode 47 = .ok (.iinc 2 1, 3) := by decide +kernel
theorem dX6_nextCode_50 : decode cX6_nextCode 50 = .ok (.goto (-46), 3) := by decide +kernel
theorem dX6_nextCode_53 : decode cX6_nextCode 53 = .ok (.aload_n 0, 1) := by decide +kernel
theorem dX6_nextCode_54 : decode cX6_nextCode 54 = .ok (.dup, 1) := by decide +kernel
theorem dX6_nextCode_55 : decode cX6_nextCode 55 = .ok (.getfield 98, 3) := by decide +kernel
theorem dX6_nextCode_58 : decode cX6_nextCode 58 = .ok (.iconst 1, 1) := by decide +kernel
theorem dX6_nextCode_59 : decode cX6_nextCode 59 = .ok (.iadd, 1) := by decide +kernel
theorem dX6_nextCode_60 : decode cX6_nextCode 60 = .ok (.putfield 98, 3) := by decide +kernel
theorem dX6_nextCode_63 : decode cX6_nextCode 63 = .ok (.iload_n 1, 1) := by decide +kernel
theorem dX6_nextCode_64 : decode cX6_nextCode 64 = .ok (.ireturn, 1) := by decide +kernel
set_option maxRecDepth 20000 in
theorem ggX6_take_X6_takeString : GoodIn wsX6_take wsX6_takeString := goodIn_r _ [8, 3, 1, 9, 10, 11, 7, 12, 13, 14, 15, 16, 17, 18, 19, 20, 21, 22, 23, 24, 25, 26, 27, 28, 29, 30, 31, 32, 33, 34, 35, 36, 37, 38, 39, 40, 75, 76, 77, 78, 79, 80, 81, 82, 83, 84, 97, 98, 99, 100, 101, 102, 103, 85, 86, 87, 88, 89, 90, 91, 92, 93, 94, 95, 96, 104, 105] (by decide +kernel) (by decide +kernel)
set_option maxRecDepth 20000 in
theorem gX6_take_X6_takeString : GoodIn wsX6_take (wsV RX6 117 RX6 yX6_takeString wsX6_takeString) := goodIn_app (goodIn_of _ (by decide +kernel)) ggX6_take_X6_takeString
set_option maxRecDepth 20000 in
theorem ggX6_take_X0_pass : GoodIn wsX6_take wsX0_pass := goodIn_r _ [45, 46, 47, 48, 49, 50, 51, 52, 53, 44, 54, 55, 56, 57, 58, 59, 60, 61, 62, 63, 64, 65, 66, 67, 68, 69, 70, 71, 72, 73, 74, 97, 98, 99, 100, 101, 102, 103, 85, 86, 87, 88, 89, 90, 91, 92, 93, 94, 95, 96] (by decide +kernel) (by decide +kernel)
set_option maxRecDepth 20000 in
theorem gX6_take_X0_pass : GoodIn wsX6_take (wsV RX6 120 RX0 yX0_pass wsX0_pass) := goodIn_app (goodIn_of _ (by decide +kernel)) ggX6_take_X0_pass
theorem dX6_take_0 : decode cX6_take 0 = .ok (.iload_n 1, 1) := by decide +kernel
theorem dX6_take_1 : decode cX6_take 1 = .ok (.aload_n 0, 1) := by decide +kernel
theorem dX6_take_2 : decode cX6_take 2 = .ok (.getfield 9, 3) := by decide +kernel
theorem dX6_take_5 : decode cX6_take 5 = .ok (.getfield 111, 3) := by decide +kernel
theorem dX6_take_8 : decode cX6_take 8 = .ok (.if_icmp .ne 7, 3) := by decide +kernel
theorem dX6_take_11 : decode cX6_take 11 = .ok (.iconst 1, 1) := by decide +kernel
theorem dX6_take_12 : decode cX6_take 12 = .ok (.goto 4, 3) := by decide +kernel
theorem dX6_take_15 : decode cX6_take 15 = .ok (.iconst 0, 1) := by decide +kernel
theorem dX6_take_16 : decode cX6_take 16 = .ok (.istore_n 2, 1) := by decide +kernel
theorem dX6_take_17 : decode cX6_take 17 = .ok (.aload_n 0, 1) := by decide +kernel
theorem dX6_take_18 : decode cX6_take 18 = .ok (.getfield 98, 3) := by decide +kernel
theorem dX6_take_21 : decode cX6_take 21 = .ok (.iconst 1, 1) := by decide +kernel
theorem dX6_take_22 : decode cX6_take 22 = .ok (.if_icmp .ne 19, 3) := by decide +kernel
theorem dX6_take_25 : decode cX6_take 25 = .ok (.aload_n 0, 1) := by decide +kernel
theorem dX6_take_26 : decode cX6_take 26 = .ok (.getfield 9, 3) := by decide +kernel
theorem dX6_take_29 : decode cX6_take 29 = .ok (.getfield 114, 3) := by decide +kernel
theorem dX6_take_32 : decode cX6_take 32 = .ok (.ifCond .eq 9, 3) := by decide +kernel
theorem dX6_take_35 : decode cX6_take 35 = .ok (.iload_n 2, 1) := by decide +kernel
theorem dX6_take_36 : decode cX6_take 36 = .ok (.ifCond .ne 5, 3) := by decide +kernel
theorem dX6_take_39 : decode cX6_take 39 = .ok (.iconst 2, 1) := by decide +kernel
theorem dX6_take_40 : decode cX6_take 40 = .ok (.ireturn, 1) := by decide +kernel
theorem dX6_take_41 : decode cX6_take 41 = .ok (.iload_n 2, 1) := by decide +kernel
theorem dX6_take_42 : decode cX6_take 42 = .ok (.ifCond .ne 14, 3) := by decide +kernel
theorem dX6_take_45 : decode cX6_take 45 = .ok (.iload_n 1, 1) := by decide +kernel
theorem dX6_take_46 : decode cX6_take 46 = .ok (.aload_n 0, 1) := by decide +kernel
theorem dX6_take_47 : decode cX6_take 47 = .ok (.getfield 9, 3) := by decide +kernel
theorem dX6_take_50 : decode cX6_take 50 = .ok (.getfield 82, 3) := by decide +kernel
theorem dX6_take_53 : decode cX6_take 53 = .ok (.if_icmp .ne 7, 3) := by decide +kernel
theorem dX6_take_56 : decode cX6_take 56 = .ok (.iconst 0, 1) := by decide +kernel
theorem dX6_take_57 : decode cX6_take 57 = .ok (.goto 8, 3) := by decide +kernel
theorem dX6_take_60 : decode cX6_take 60 = .ok (.aload_n 0, 1) := by decide +kernel
theorem dX6_take_61 : decode cX6_take 61 = .ok (.iload_n 1, 1) := by decide +kernel
theorem dX6_take_62 : decode cX6_take 62 = .ok (.invokevirtual 117, 3) := by decide +kernel
theorem dX6_take_65 : decode cX6_take 65 = .ok (.istore_n 3, 1) := by decide +kernel
theorem dX6_take_66 : decode cX6_take 66 = .ok (.iload_n 3, 1) := by decide +kernel
theorem dX6_take_67 : decode cX6_take 67 = .ok (.ifCond .ne 11, 3) := by decide +kernel
theorem dX6_take_70 : decode cX6_take 70 = .ok (.aload_n 0, 1) := by decide +kernel
theorem dX6_take_71 : decode cX6_take 71 = .ok (.getfield 24, 3) := by decide +kernel
theorem dX6_take_74 : decode cX6_take 74 = .ok (.iload_n 1, 1) := by decide +kernel
theorem dX6_take_75 : decode cX6_take 75 = .ok (.invokevirtual 120, 3) := by decide +kernel
theorem dX6_take_78 : decode cX6_take 78 = .ok (.iload_n 3, 1) := by decide +kernel
theorem dX6_take_79 : decode cX6_take 79 = .ok (.ireturn, 1) := by decide +kernel
set_option maxRecDepth 20000 in
theorem ggX6_takeString_X6_isAboveCount : GoodIn wsX6_takeString wsX6_isAboveCount := goodIn_r _ [7, 2, 1, 36, 37, 38, 39, 40, 41, 42, 43, 44, 45, 53, 54, 55, 56, 57, 58, 59, 60, 61, 62, 63, 64, 46, 47, 48, 49, 50, 51, 52] (by decide +kernel) (by decide +kernel)
set_option maxRecDepth 20000 in
theorem gX6_takeString_X6_isAboveCount : GoodIn wsX6_takeString (wsV RX6 129 RX6 yX6_isAboveCount wsX6_isAboveCount) := goodIn_app (goodIn_of _ (by decide +kernel)) ggX6_takeString_X6_isAboveCount
set_option maxRecDepth 20000 in
theorem ggX6_takeString_X6_makeString : GoodIn wsX6_takeString wsX6_makeString := goodIn_r _ [11, 1, 2, 12, 13, 14, 15, 36, 37, 38, 39, 40, 41, 42, 43, 44, 45, 46, 47, 48, 49, 50, 51, 52, 53, 54, 55, 56, 57, 58, 59, 60, 61, 62, 63, 64] (by decide +kernel) (by decide +kernel)
set_option maxRecDepth 20000 in
theorem gX6_takeString_X6_makeString : GoodIn wsX6_takeString (wsV RX6 133 RX6 yX6_makeString wsX6_makeString) := goodIn_app (goodIn_of _ (by decide +kernel)) ggX6_takeString_X6_makeString
set_option maxRecDepth 20000 in
theorem ggX6_takeString_X6_give : GoodIn wsX6_takeString wsX6_give := goodIn_r _ [19, 20, 2, 12, 14, 13, 15, 21, 22, 23, 24, 25, 26, 27, 28, 29, 30, 31, 32, 33, 34, 35, 36, 37, 38, 39, 40, 41, 42, 43, 44, 45, 53, 54, 55, 56, 57, 58, 59, 60, 61, 62, 63, 64, 65, 66] (by decide +kernel) (by decide +kernel)
set_option maxRecDepth 20000 in
theorem gX6_takeString_X6_give : GoodIn wsX6_takeString (wsV RX6 136 RX6 yX6_give wsX6_give) := goodIn_app (goodIn_of _ (by decide +kernel)) ggX6_takeString_X6_give
theorem dX6_takeString_0 : decode cX6_takeString 0 = .ok (.aload_n 0, 1) := by decide +kernel
theorem dX6_takeString_1 : decode cX6_takeString 1 = .ok (.getfield 24, 3) := by decide +kernel
theorem dX6_takeString_4 : decode cX6_takeString 4 = .ok (.getfield 123, 3) := by decide +kernel
theorem dX6_takeString_7 : decode cX6_takeString 7 = .ok (.ifCond .eq 16, 3) := by decide +kernel
theorem dX6_takeString_10 : decode cX6_takeString 10 = .ok (.iload_n 1, 1) := by decide +kernel
theorem dX6_takeString_11 : decode cX6_takeString 11 = .ok (.aload_n 0, 1) := by decide +kernel
theorem dX6_takeString_12 : decode cX6_takeString 12 = .ok (.getfield 9, 3) := by decide +kernel
theorem dX6_takeString_15 : decode cX6_takeString 15 = .ok (.getfield 126, 3) := by decide +kernel
theorem dX6_takeString_18 : decode cX6_takeString 18 = .ok (.if_icmp .lt 19, 3) := by decide +kernel
theorem dX6_takeString_21 : decode cX6_takeString 21 = .ok (.iconst 3, 1) := by decide +kernel
theorem dX6_takeString_22 : decode cX6_takeString 22 = .ok (.ireturn, 1) := by decide +kernel
theorem dX6_takeString_23 : decode cX6_takeString 23 = .ok (.aload_n 0, 1) := by decide +kernel
theorem dX6_takeString_24 : decode cX6_takeString 24 = .ok (.iload_n 1, 1) := by decide +kernel
theorem dX6_takeString_25 : decode cX6_takeString 25 = .ok (.invokevirtual 129, 3) := by decide +kernel
theorem dX6_takeString_28 : decode cX6_takeString 28 = .ok (.ifCond .eq 5, 3) := by decide +kernel
theorem dX6_takeString_31 : decode cX6_takeString 31 = .ok (.iconst 4, 1) := by decide +kernel
theorem dX6_takeString_32 : decode cX6_takeString 32 = .ok (.ireturn, 1) := by decide +kernel
theorem dX6_takeString_33 : decode cX6_takeString 33 = .ok (.aload_n 0, 1) := by decide +kernel
theorem dX6_takeString_34 : decode cX6_takeString 34 = .ok (.invokevirtual 133, 3) := by decide +kernel
theorem dX6_takeString_37 : decode cX6_takeString 37 = .ok (.aload_n 0, 1) := by decide +kernel
theorem dX6_takeString_38 : decode cX6_takeString 38 = .ok (.iload_n 1, 1) := by decide +kernel
theorem dX6_takeString_39 : decode cX6_takeString 39 = .ok (.invokevirtual 136, 3) := by decide +kernel
theorem dX6_takeString_42 : decode cX6_takeString 42 = .ok (.ireturn, 1) := by decide +kernel
theorem dX6_isAboveCount_0 : decode cX6_isAboveCount 0 = .ok (.aload_n 0, 1) := by decide +kernel
theorem dX6_isAboveCount_1 : decode cX6_isAboveCount 1 = .ok (.getfield 9, 3) := by decide +kernel
theorem dX6_isAboveCount_4 : decode cX6_isAboveCount 4 = .ok (.getfield 139, 3) := by decide +kernel
theorem dX6_isAboveCount_7 : decode cX6_isAboveCount 7 = .ok (.istore_n 2, 1) := by decide +kernel
theorem dX6_isAboveCount_8 : decode cX6_isAboveCount 8 = .ok (.iload_n 1, 1) := by decide +kernel
theorem dX6_isAboveCount_9 : decode cX6_isAboveCount 9 = .ok (.aload_n 0, 1) := by decide +kernel
theorem dX6_isAboveCount_10 : decode cX6_isAboveCount 10 = .ok (.getfield 24, 3) := by decide +kernel
theorem dX6_isAboveCount_13 : decode cX6_isAboveCount 13 = .ok (.getfield 142, 3) := by decide +kernel
theorem dX6_isAboveCount_16 : decode cX6_isAboveCount 16 = .ok (.if_icmp .gt 19, 3) := by decide +kernel
theorem dX6_isAboveCount_19 : decode cX6_isAboveCount 19 = .ok (.aload_n 0, 1) := by decide +kernel
theorem dX6_isAboveCount_20 : decode cX6_isAboveCount 20 = .ok (.getfield 24, 3) := by decide +kernel
theorem dX6_isAboveCount_23 : decode cX6_isAboveCount 23 = .ok (.getfield 142, 3) := by decide +kernel
theorem dX6_isAboveCount_26 : decode cX6_isAboveCount 26 = .ok (.iload_n 2, 1) := by decide +kernel
theorem dX6_isAboveCount_27 : decode cX6_isAboveCount 27 = .ok (.if_icmp .ne 12, 3) := by decide +kernel
theorem dX6_isAboveCount_30 : decode cX6_isAboveCount 30 = .ok (.iload_n 1, 1) := by decide +kernel
theorem dX6_isAboveCount_31 : decode cX6_isAboveCount 31 = .ok (.iload_n 2, 1) := by decide +kernel
theorem dX6_isAboveCount_32 : decode cX6_isAboveCount 32 = .ok (.if_icmp .lt 7, 3) := by decide +kernel
theorem dX6_isAboveCount_35 : decode cX6_isAboveCount 35 = .ok (.iconst 1, 1) := by decide +kernel
theorem dX6_isAboveCount_36 : decode cX6_isAboveCount 36 = .ok (.goto 4, 3) := by decide +kernel
theorem dX6_isAboveCount_39 : decode cX6_isAboveCount 39 = .ok (.iconst 0, 1) := by decide +kernel
theorem dX6_isAboveCount_40 : decode cX6_isAboveCount 40 = .ok (.ireturn, 1) := by decide +kernel
theorem dX6_makeString_0 : decode cX6_makeString 0 = .ok (.aload_n 0, 1) := by decide +kernel
theorem dX6_makeString_1 : decode cX6_makeString 1 = .ok (.getfield 24, 3) := by decide +kernel
theorem dX6_makeString_4 : decode cX6_makeString 4 = .ok (.getfield 142, 3) := by decide +kernel
theorem dX6_makeString_7 : decode cX6_makeString 7 = .ok (.aload_n 0, 1) := by decide +kernel
theorem dX6_makeString_8 : decode cX6_makeString 8 = .ok (.getfield 9, 3) := by decide +kernel
theorem dX6_makeString_11 : decode cX6_makeString 11 = .ok (.getfield 126, 3) := by decide +kernel
theorem dX6_makeString_14 : decode cX6_makeString 14 = .ok (.isub, 1) := by decide +kernel
theorem dX6_makeString_15 : decode cX6_makeString 15 = .ok (.istore_n 1, 1) := by decide +kernel
theorem dX6_makeString_16 : decode cX6_makeString 16 = .ok (.aload_n 0, 1) := by decide +kernel
theorem dX6_makeString_17 : decode cX6_makeString 17 = .ok (.getfield 24, 3) := by decide +kernel
theorem dX6_makeString_20 : decode cX6_makeString 20 = .ok (.getfield 142, 3) := by decide +kernel
theorem dX6_makeString_23 : decode cX6_makeString 23 = .ok (.aload_n 0, 1) := by decide +kernel
theorem dX6_makeString_24 : decode cX6_makeString 24 = .ok (.getfield 9, 3) := by decide +kernel
theorem dX6_makeString_27 : decode cX6_makeString 27 = .ok (.getfield 139, 3) := by decide +kernel
theorem dX6_makeString_30 : decode cX6_makeString 30 = .ok (.if_icmp .ge 38, 3) := by decide +kernel
theorem dX6_makeString_33 : decode cX6_makeString 33 = .ok (.iload_n 1, 1) := by decide +kernel
theorem dX6_makeString_34 : decode cX6_makeString 34 = .ok (.ifCond .lt 34, 3) := by decide +kernel
theorem dX6_makeString_37 : decode cX6_makeString 37 = .ok (.iload_n 1, 1) := by decide +kernel
theorem dX6_makeString_38 : decode cX6_makeString 38 = .ok (.aload_n 0, 1) := by decide +kernel
theorem dX6_makeString_39 : decode cX6_makeString 39 = .ok (.getfield 37, 3) := by decide +kernel
theorem dX6_makeString_42 : decode cX6_makeString 42 = .ok (.arraylength, 1) := by decide +kernel
theorem dX6_makeString_43 : decode cX6_makeString 43 = .ok (.if_icmp .ge 25, 3) := by decide +kernel
theorem dX6_makeString_46 : decode cX6_makeString 46 = .ok (.aload_n 0, 1) := by decide +kernel
theorem dX6_makeString_47 : decode cX6_makeString 47 = .ok (.getfield 37, 3) := by decide +kernel
theorem dX6_makeString_50 : decode cX6_makeString 50 = .ok (.iload_n 1, 1) := by decide +kernel
theorem dX6_makeString_51 : decode cX6_makeString 51 = .ok (.aload_n 0, 1) := by decide +kernel
theorem dX6_makeString_52 : decode cX6_makeString 52 = .ok (.getfield 92, 3) := by decide +kernel
theorem dX6_makeString_55 : decode cX6_makeString 55 = .ok (.iastore, 1) := by decide +kernel
theorem dX6_makeString_56 : decode cX6_makeString 56 = .ok (.aload_n 0, 1) := by decide +kernel
theorem dX6_makeString_57 : decode cX6_makeString 57 = .ok (.getfield 41, 3) := by decide +kernel
theorem dX6_makeString_60 : decode cX6_makeString 60 = .ok (.iload_n 1, 1) := by decide +kernel
theorem dX6_makeString_61 : decode cX6_makeString 61 = .ok (.aload_n 0, 1) := by decide +kernel
theorem dX6_makeString_62 : decode cX6_makeString 62 = .ok (.getfield 95, 3) := by decide +kernel
theorem dX6_makeString_65 : decode cX6_makeString 65 = .ok (.iconst 1, 1) := by decide +kernel
theorem dX6_makeString_66 : decode cX6_makeString 66 = .ok (.iadd, 1) := by decide +kernel
theorem dX6_makeString_67 : decode cX6_makeString 67 = .ok (.iastore, 1) := by decide +kernel
theorem dX6_makeString_68 : decode cX6_makeString 68 = .ok (.return_, 1) := by decide +kernel
set_option maxRecDepth 20000 in
theorem ggX6_give_X2_size : GoodIn wsX6_give wsX2_size := goodIn_r _ [11, 12, 44, 45] (by decide +kernel) (by decide +kernel)
set_option maxRecDepth 20000 in
theorem gX6_give_X2_size : GoodIn wsX6_give (wsV RX6 145 RX2 yX2_size wsX2_size) := goodIn_app (goodIn_of _ (by decide +kernel)) ggX6_give_X2_size
set_option maxRecDepth 20000 in
theorem ggX6_give_X2_get : GoodIn wsX6_give wsX2_get := goodIn_r _ [16, 12, 17, 44, 45] (by decide +kernel) (by decide +kernel)
set_option maxRecDepth 20000 in
theorem gX6_give_X2_get : GoodIn wsX6_give (wsV RX6 148 RX2 yX2_get wsX2_get) := goodIn_app (goodIn_of _ (by decide +kernel)) ggX6_give_X2_get
set_option maxRecDepth 20000 in
theorem ggX6_give_X2_add : GoodIn wsX6_give wsX2_add := goodIn_r _ [21, 12, 17, 44, 45] (by decide +kernel) (by decide +kernel)
set_option maxRecDepth 20000 in
theorem gX6_give_X2_add : GoodIn wsX6_give (wsV RX6 151 RX2 yX2_add wsX2_add) := goodIn_app (goodIn_of _ (by decide +kernel)) ggX6_give_X2_add
theorem dX6_give_0 : decode cX6_give 0 = .ok (.aload_n 0, 1) := by decide +kernel
theorem dX6_give_1 : decode cX6_give 1 = .ok (.getfield 33, 3) := by decide +kernel
theorem dX6_give_4 : decode cX6_give 4 = .ok (.invokevirtual 145, 3) := by decide +kernel
theorem dX6_give_7 : decode cX6_give 7 = .ok (.istore_n 2, 1) := by decide +kernel
theorem dX6_give_8 : decode cX6_give 8 = .ok (.iload_n 1, 1) := by decide +kernel
theorem dX6_give_9 : decode cX6_give 9 = .ok (.aload_n 0, 1) := by decide +kernel
theorem dX6_give_10 : decode cX6_give 10 = .ok (.getfield 9, 3) := by decide +kernel
theorem dX6_give_13 : decode cX6_give 13 = .ok (.getfield 126, 3) := by decide +kernel
theorem dX6_give_16 : decode cX6_give 16 = .ok (.isub, 1) := by decide +kernel
theorem dX6_give_17 : decode cX6_give 17 = .ok (.istore_n 3, 1) := by decide +kernel
theorem dX6_give_18 : decode cX6_give 18 = .ok (.iload_n 3, 1) := by decide +kernel
theorem dX6_give_19 : decode cX6_give 19 = .ok (.ifCond .lt 16, 3) := by decide +kernel
theorem dX6_give_22 : decode cX6_give 22 = .ok (.iload_n 3, 1) := by decide +kernel
theorem dX6_give_23 : decode cX6_give 23 = .ok (.aload_n 0, 1) := by decide +kernel
theorem dX6_give_24 : decode cX6_give 24 = .ok (.getfield 37, 3) := by decide +kernel
theorem dX6_give_27 : decode cX6_give 27 = .ok (.arraylength, 1) := by decide +kernel
theorem dX6_give_28 : decode cX6_give 28 = .ok (.if_icmp .ge 7, 3) := by decide +kernel
theorem dX6_give_31 : decode cX6_give 31 = .ok (.iconst 1, 1) := by decide +kernel
theorem dX6_give_32 : decode cX6_give 32 = .ok (.goto 4, 3) := by decide +kernel
theorem dX6_give_35 : decode cX6_give 35 = .ok (.iconst 0, 1) := by decide +kernel
theorem dX6_give_36 : decode cX6_give 36 = .ok (.istore 4, 2) := by decide +kernel
theorem dX6_give_38 : decode cX6_give 38 = .ok (.iload 4, 2) := by decide +kernel
theorem dX6_give_40 : decode cX6_give 40 = .ok (.ifCond .eq 12, 3) := by decide +kernel
theorem dX6_give_43 : decode cX6_give 43 = .ok (.aload_n 0, 1) := by decide +kernel
theorem dX6_give_44 : decode cX6_give 44 = .ok (.getfield 41, 3) := by decide +kernel
theorem dX6_give_47 : decode cX6_give 47 = .ok (.iload_n 3, 1) := by decide +kernel
theorem dX6_give_48 : decode cX6_give 48 = .ok (.iaload, 1) := by decide +kernel
theorem dX6_give_49 : decode cX6_give 49 = .ok (.goto 4, 3) := by decide +kernel
theorem dX6_give_52 : decode cX6_give 52 = .ok (.iconst 1, 1) := by decide +kernel
theorem dX6_give_53 : decode cX6_give 53 = .ok (.istore 5, 2) := by decide +kernel
theorem dX6_give_55 : decode cX6_give 55 = .ok (.iload_n 2, 1) := by decide +kernel
theorem dX6_give_56 : decode cX6_give 56 = .ok (.iload 5, 2) := by decide +kernel
theorem dX6_give_58 : decode cX6_give 58 = .ok (.iadd, 1) := by decide +kernel
theorem dX6_give_59 : decode cX6_give 59 = .ok (.sipush 300, 3) := by decide +kernel
theorem dX6_give_62 : decode cX6_give 62 = .ok (.if_icmp .le 5, 3) := by decide +kernel
theorem dX6_give_65 : decode cX6_give 65 = .ok (.iconst 5, 1) := by decide +kernel
theorem dX6_give_66 : decode cX6_give 66 = .ok (.ireturn, 1) := by decide +kernel
theorem dX6_give_67 : decode cX6_give 67 = .ok (.iconst 0, 1) := by decide +kernel
theorem dX6_give_68 : decode cX6_give 68 = .ok (.istore 6, 2) := by decide +kernel
theorem dX6_give_70 : decode cX6_give 70 = .ok (.iload 6, 2) := by decide +kernel
theorem dX6_give_72 : decode cX6_give 72 = .ok (.iload 5, 2) := by decide +kernel
theorem dX6_give_74 : decode cX6_give 74 = .ok (.if_icmp .ge 42, 3) := by decide +kernel
theorem dX6_give_77 : decode cX6_give 77 = .ok (.aload_n 0, 1) := by decide +kernel
theorem dX6_give_78 : decode cX6_give 78 = .ok (.getfield 33, 3) := by decide +kernel
theorem dX6_give_81 : decode cX6_give 81 = .ok (.iload 4, 2) := by decide +kernel
theorem dX6_give_83 : decode cX6_give 83 = .ok (.ifCond .eq 22, 3) := by decide +kernel
theorem dX6_give_86 : decode cX6_give 86 = .ok (.aload_n 0, 1) := by decide +kernel
theorem dX6_give_87 : decode cX6_give 87 = .ok (.getfield 33, 3) := by decide +kernel
theorem dX6_give_90 : decode cX6_give 90 = .ok (.aload_n 0, 1) := by decide +kernel
theorem dX6_give_91 : decode cX6_give 91 = .ok (.getfield 37, 3) := by decide +kernel
theorem dX6_give_94 : decode cX6_give 94 = .ok (.iload_n 3, 1) := by decide +kernel
theorem dX6_give_95 : decode cX6_give 95 = .ok (.iaload, 1) := by decide +kernel
theorem dX6_give_96 : decode cX6_give 96 = .ok (.iload 6, 2) := by decide +kernel
theorem dX6_give_98 : decode cX6_give 98 = .ok (.iadd, 1) := by decide +kernel
theorem dX6_give_99 : decode cX6_give 99 = .ok (.invokevirtual 148, 3) := by decide +kernel
theorem dX6_give_102 : decode cX6_give 102 = .ok (.goto 4, 3) := by decide +kernel
theorem dX6_give_105 : decode cX6_give 105 = .ok (.iload_n 1, 1) := by decide +kernel
theorem dX6_give_106 : decode cX6_give 106 = .ok (.invokevirtual 151, 3) := by decide +kernel
theorem dX6_give_109 : decode cX6_give 109 = .ok (.pop, 1) := by decide +kernel
theorem dX6_give_110 : decode cX6_give 110 = .ok (.iinc 6 1, 3) := by decide +kernel
theorem dX6_give_113 : decode cX6_give 113 = .ok (.goto (-43), 3) := by decide +kernel
theorem dX6_give_116 : decode cX6_give 116 = .ok (.aload_n 0, 1) := by decide +kernel
theorem dX6_give_117 : decode cX6_give 117 = .ok (.iload_n 2, 1) := by decide +kernel
theorem dX6_give_118 : decode cX6_give 118 = .ok (.putfield 92, 3) := by decide +kernel
theorem dX6_give_121 : decode cX6_give 121 = .ok (.aload_n 0, 1) := by decide +kernel
theorem dX6_give_122 : decode cX6_give 122 = .ok (.iload 5, 2) := by decide +kernel
theorem dX6_give_124 : decode cX6_give 124 = .ok (.putfield 95, 3) := by decide +kernel
theorem dX6_give_127 : decode cX6_give 127 = .ok (.iconst 0, 1) := by decide +kernel
theorem dX6_give_128 : decode cX6_give 128 = .ok (.ireturn, 1) := by decide +kernel
set_option maxRecDepth 20000 in
theorem ggX7_init_X3_init : GoodIn wsX7_init wsX3_init := goodIn_r _ [28, 29, 2, 3, 30, 31, 32, 6, 33, 34, 35, 36, 37, 38, 39, 40, 41, 42, 43, 44, 45, 109, 110, 111, 112, 113, 114, 115, 116, 117, 118, 119, 120] (by decide +kernel) (by decide +kernel)
set_option maxRecDepth 20000 in
theorem gX7_init_X3_init : GoodIn wsX7_init (wsX3_init) := ggX7_init_X3_init
set_option maxRecDepth 20000 in
theorem ggX7_init_X5_init : GoodIn wsX7_init wsX5_init := goodIn_r _ [48, 49, 2, 3, 50, 51, 12, 13, 52, 53, 54, 55, 56, 57, 58, 59, 121, 122, 130, 131] (by decide +kernel) (by decide +kernel)
set_option maxRecDepth 20000 in
theorem gX7_init_X5_init : GoodIn wsX7_init (wsX5_init) := ggX7_init_X5_init
set_option maxRecDepth 20000 in
theorem ggX7_init_X2_init : GoodIn wsX7_init wsX2_init := goodIn_r _ [55, 56, 2, 3, 57, 58, 59, 130, 131] (by decide +kernel) (by decide +kernel)
set_option maxRecDepth 20000 in
theorem gX7_init_X2_init : GoodIn wsX7_init (wsX2_init) := ggX7_init_X2_init
set_option maxRecDepth 20000 in
theorem ggX7_init_X1_init : GoodIn wsX7_init wsX1_init := goodIn_r _ [63, 64, 2, 3, 65, 66, 67, 68, 69, 70, 71, 72, 73, 74, 12, 13, 75, 76, 77, 78, 79, 80, 81, 82, 83, 84, 85, 86, 87, 57, 88, 89, 90, 91, 92, 93, 94, 54, 55, 56, 58, 59, 132, 133, 134, 135, 136, 137, 138, 139, 140, 151, 152, 153, 154, 155, 156, 157, 158, 159, 160, 161, 162, 163, 164, 130, 131] (by decide +kernel) (by decide +kernel)
set_option maxRecDepth 20000 in
theorem gX7_init_X1_init : GoodIn wsX7_init (wsX1_init) := ggX7_init_X1_init
set_option maxRecDepth 20000 in
theorem ggX7_init_X6_init : GoodIn wsX7_init wsX6_init := goodIn_r _ [97, 98, 2, 3, 99, 100, 101, 67, 68, 102, 103, 12, 13, 104, 57, 105, 106, 107, 79, 80, 81, 82, 108, 54, 55, 56, 58, 59, 141, 142, 143, 144, 145, 146, 147, 148, 149, 150, 151, 152, 153, 154, 155, 156, 157, 130, 131] (by decide +kernel) (by decide +kernel)
set_option maxRecDepth 20000 in
theorem gX7_init_X6_init : GoodIn wsX7_init (wsX6_init) := ggX7_init_X6_init
theorem dX7_init_0 : decode cX7_init 0 = .ok (.aload_n 0, 1) := by decide +kernel
theorem dX7_init_1 : decode cX7_init 1 = .ok (.invokespecial 3, 3) := by decide +kernel
theorem dX7_init_4 : decode cX7_init 4 = .ok (.new 9, 3) := by decide +kernel
theorem dX7_init_7 : decode cX7_init 7 = .ok (.dup, 1) := by decide +kernel
theorem dX7_init_8 : decode cX7_init 8 = .ok (.invokespecial 11, 3) := by decide +kernel
theorem dX7_init_11 : decode cX7_init 11 = .ok (.astore_n 1, 1) := by decide +kernel
theorem dX7_init_12 : decode cX7_init 12 = .ok (.new 12, 3) := by decide +kernel
theorem dX7_init_15 : decode cX7_init 15 = .ok (.dup, 1) := by decide +kernel
theorem dX7_init_16 : decode cX7_init 16 = .ok (.aload_n 1, 1) := by decide +kernel
theorem dX7_init_17 : decode cX7_init 17 = .ok (.invokespecial 14, 3) := by decide +kernel
theorem dX7_init_20 : decode cX7_init 20 = .ok (.astore_n 2, 1) := by decide +kernel
theorem dX7_init_21 : decode cX7_init 21 = .ok (.aload_n 0, 1) := by decide +kernel
theorem dX7_init_22 : decode cX7_init 22 = .ok (.aload_n 1, 1) := by decide +kernel
theorem dX7_init_23 : decode cX7_init 23 = .ok (.putfield 17, 3) := by decide +kernel
theorem dX7_init_26 : decode cX7_init 26 = .ok (.aload_n 0, 1) := by decide +kernel
theorem dX7_init_27 : decode cX7_init 27 = .ok (.new 21, 3) := by decide +kernel
theorem dX7_init_30 : decode cX7_init 30 = .ok (.dup, 1) := by decide +kernel
theorem dX7_init_31 : decode cX7_init 31 = .ok (.sipush 300, 3) := by decide +kernel
theorem dX7_init_34 : decode cX7_init 34 = .ok (.invokespecial 23, 3) := by decide +kernel
theorem dX7_init_37 : decode cX7_init 37 = .ok (.putfield 26, 3) := by decide +kernel
theorem dX7_init_40 : decode cX7_init 40 = .ok (.aload_n 0, 1) := by decide +kernel
theorem dX7_init_41 : decode cX7_init 41 = .ok (.aload_n 2, 1) := by decide +kernel
theorem dX7_init_42 : decode cX7_init 42 = .ok (.putfield 30, 3) := by decide +kernel
theorem dX7_init_45 : decode cX7_init 45 = .ok (.aload_n 0, 1) := by decide +kernel
theorem dX7_init_46 : decode cX7_init 46 = .ok (.new 34, 3) := by decide +kernel
theorem dX7_init_49 : decode cX7_init 49 = .ok (.dup, 1) := by decide +kernel
theorem dX7_init_50 : decode cX7_init 50 = .ok (.aload_n 1, 1) := by decide +kernel
theorem dX7_init_51 : decode cX7_init 51 = .ok (.invokespecial 36, 3) := by decide +kernel
theorem dX7_init_54 : decode cX7_init 54 = .ok (.putfield 37, 3) := by decide +kernel
theorem dX7_init_57 : decode cX7_init 57 = .ok (.aload_n 0, 1) := by decide +kernel
theorem dX7_init_58 : decode cX7_init 58 = .ok (.new 41, 3) := by decide +kernel
theorem dX7_init_61 : decode cX7_init 61 = .ok (.dup, 1) := by decide +kernel
theorem dX7_init_62 : decode cX7_init 62 = .ok (.aload_n 1, 1) := by decide +kernel
theorem dX7_init_63 : decode cX7_init 63 = .ok (.aload_n 2, 1) := by decide +kernel
theorem dX7_init_64 : decode cX7_init 64 = .ok (.invokespecial 43, 3) := by decide +kernel
theorem dX7_init_67 : decode cX7_init 67 = .ok (.putfield 46, 3) := by decide +kernel
theorem dX7_init_70 : decode cX7_init 70 = .ok (.aload_n 0, 1) := by decide +kernel
theorem dX7_init_71 : decode cX7_init 71 = .ok (.iconst 0, 1) := by decide +kernel
theorem dX7_init_72 : decode cX7_init 72 = .ok (.putfield 50, 3) := by decide +kernel
theorem dX7_init_75 : decode cX7_init 75 = .ok (.aload_n 0, 1) := by decide +kernel
theorem dX7_init_76 : decode cX7_init 76 = .ok (.iconst (-1), 1) := by decide +kernel
theorem dX7_init_77 : decode cX7_init 77 = .ok (.putfield 54, 3) := by decide +kernel
theorem dX7_init_80 : decode cX7_init 80 = .ok (.return_, 1) := by decide +kernel
set_option maxRecDepth 20000 in
theorem ggX7_setting_X3_allow : GoodIn wsX7_setting wsX3_allow := goodIn_r _ [7] (by decide +kernel) (by decide +kernel)
set_option maxRecDepth 20000 in
theorem gX7_setting_X3_allow : GoodIn wsX7_setting (va_wsS RX7 58 yX3_allow wsX3_allow) := goodIn_app (goodIn_of _ (by decide +kernel)) ggX7_setting_X3_allow
set_option maxRecDepth 20000 in
theorem ggX7_setting_X2_size : GoodIn wsX7_setting wsX2_size := goodIn_r _ [12, 13, 37, 38] (by decide +kernel) (by decide +kernel)
set_option maxRecDepth 20000 in
theorem gX7_setting_X2_size : GoodIn wsX7_setting (wsV RX7 62 RX2 yX2_size wsX2_size) := goodIn_app (goodIn_of _ (by decide +kernel)) ggX7_setting_X2_size
set_option maxRecDepth 20000 in
theorem ggX7_setting_X3_become : GoodIn wsX7_setting wsX3_become := goodIn_r _ [17, 18, 19, 20, 21, 22, 23, 24, 25, 26, 27, 28, 29, 39, 40, 41, 42, 43, 44, 45, 46, 47, 48, 49, 50] (by decide +kernel) (by decide +kernel)
set_option maxRecDepth 20000 in
theorem gX7_setting_X3_become : GoodIn wsX7_setting (wsV RX7 66 RX3 yX3_become wsX3_become) := goodIn_app (goodIn_of _ (by decide +kernel)) ggX7_setting_X3_become
theorem dX7_setting_0 : decode cX7_setting 0 = .ok (.iload_n 1, 1) := by decide +kernel
theorem dX7_setting_1 : decode cX7_setting 1 = .ok (.iload_n 2, 1) := by decide +kernel
theorem dX7_setting_2 : decode cX7_setting 2 = .ok (.iload_n 3, 1) := by decide +kernel
theorem dX7_setting_3 : decode cX7_setting 3 = .ok (.iload 4, 2) := by decide +kernel
theorem dX7_setting_5 : decode cX7_setting 5 = .ok (.invokestatic 58, 3) := by decide +kernel
theorem dX7_setting_8 : decode cX7_setting 8 = .ok (.ifCond .ne 6, 3) := by decide +kernel
theorem dX7_setting_11 : decode cX7_setting 11 = .ok (.bipush (-2), 2) := by decide +kernel
theorem dX7_setting_13 : decode cX7_setting 13 = .ok (.ireturn, 1) := by decide +kernel
theorem dX7_setting_14 : decode cX7_setting 14 = .ok (.aload_n 0, 1) := by decide +kernel
theorem dX7_setting_15 : decode cX7_setting 15 = .ok (.getfield 26, 3) := by decide +kernel
theorem dX7_setting_18 : decode cX7_setting 18 = .ok (.invokevirtual 62, 3) := by decide +kernel
theorem dX7_setting_21 : decode cX7_setting 21 = .ok (.ifCond .le 6, 3) := by decide +kernel
theorem dX7_setting_24 : decode cX7_setting 24 = .ok (.bipush (-3), 2) := by decide +kernel
theorem dX7_setting_26 : decode cX7_setting 26 = .ok (.ireturn, 1) := by decide +kernel
theorem dX7_setting_27 : decode cX7_setting 27 = .ok (.aload_n 0, 1) := by decide +kernel
theorem dX7_setting_28 : decode cX7_setting 28 = .ok (.getfield 17, 3) := by decide +kernel
theorem dX7_setting_31 : decode cX7_setting 31 = .ok (.iload_n 1, 1) := by decide +kernel
theorem dX7_setting_32 : decode cX7_setting 32 = .ok (.iload_n 2, 1) := by decide +kernel
theorem dX7_setting_33 : decode cX7_setting 33 = .ok (.iload_n 3, 1) := by decide +kernel
theorem dX7_setting_34 : decode cX7_setting 34 = .ok (.iload 4, 2) := by decide +kernel
theorem dX7_setting_36 : decode cX7_setting 36 = .ok (.invokevirtual 66, 3) := by decide +kernel
theorem dX7_setting_39 : decode cX7_setting 39 = .ok (.aload_n 0, 1) := by decide +kernel
theorem dX7_setting_40 : decode cX7_setting 40 = .ok (.iconst 0, 1) := by decide +kernel
theorem dX7_setting_41 : decode cX7_setting 41 = .ok (.putfield 50, 3) := by decide +kernel
theorem dX7_setting_44 : decode cX7_setting 44 = .ok (.iconst 1, 1) := by decide +kernel
theorem dX7_setting_45 : decode cX7_setting 45 = .ok (.ireturn, 1) := by decide +kernel
set_option maxRecDepth 20000 in
theorem ggX7_symbol_X3_isSymbol : GoodIn wsX7_symbol wsX3_isSymbol := goodIn_r _ [8, 9, 28, 29, 30, 31, 32, 33, 34, 35, 36, 37, 38, 39] (by decide +kernel) (by decide +kernel)
set_option maxRecDepth 20000 in
theorem gX7_symbol_X3_isSymbol : GoodIn wsX7_symbol (wsV RX7 70 RX3 yX3_isSymbol wsX3_isSymbol) := goodIn_app (goodIn_of _ (by decide +kernel)) ggX7_symbol_X3_isSymbol
set_option maxRecDepth 20000 in
theorem ggX7_symbol_X2_add : GoodIn wsX7_symbol wsX2_add := goodIn_r _ [14, 15, 16, 40, 41] (by decide +kernel) (by decide +kernel)
set_option maxRecDepth 20000 in
theorem gX7_symbol_X2_add : GoodIn wsX7_symbol (wsV RX7 74 RX2 yX2_add wsX2_add) := goodIn_app (goodIn_of _ (by decide +kernel)) ggX7_symbol_X2_add
set_option maxRecDepth 20000 in
theorem ggX7_symbol_X2_size : GoodIn wsX7_symbol wsX2_size := goodIn_r _ [20, 15, 40, 41] (by decide +kernel) (by decide +kernel)
set_option maxRecDepth 20000 in
theorem gX7_symbol_X2_size : GoodIn wsX7_symbol (wsV RX7 62 RX2 yX2_size wsX2_size) := goodIn_app (goodIn_of _ (by decide +kernel)) ggX7_symbol_X2_size
theorem dX7_symbol_0 : decode cX7_symbol 0 = .ok (.aload_n 0, 1) := by decide +kernel
theorem dX7_symbol_1 : decode cX7_symbol 1 = .ok (.getfield 17, 3) := by decide +kernel
theorem dX7_symbol_4 : decode cX7_symbol 4 = .ok (.iload_n 1, 1) := by decide +kernel
theorem dX7_symbol_5 : decode cX7_symbol 5 = .ok (.invokevirtual 70, 3) := by decide +kernel
theorem dX7_symbol_8 : decode cX7_symbol 8 = .ok (.ifCond .ne 6, 3) := by decide +kernel
theorem dX7_symbol_11 : decode cX7_symbol 11 = .ok (.bipush (-2), 2) := by decide +kernel
theorem dX7_symbol_13 : decode cX7_symbol 13 = .ok (.ireturn, 1) := by decide +kernel
theorem dX7_symbol_14 : decode cX7_symbol 14 = .ok (.aload_n 0, 1) := by decide +kernel
theorem dX7_symbol_15 : decode cX7_symbol 15 = .ok (.getfield 26, 3) := by decide +kernel
theorem dX7_symbol_18 : decode cX7_symbol 18 = .ok (.iload_n 1, 1) := by decide +kernel
theorem dX7_symbol_19 : decode cX7_symbol 19 = .ok (.invokevirtual 74, 3) := by decide +kernel
theorem dX7_symbol_22 : decode cX7_symbol 22 = .ok (.ifCond .ne 6, 3) := by decide +kernel
theorem dX7_symbol_25 : decode cX7_symbol 25 = .ok (.bipush (-4), 2) := by decide +kernel
theorem dX7_symbol_27 : decode cX7_symbol 27 = .ok (.ireturn, 1) := by decide +kernel
theorem dX7_symbol_28 : decode cX7_symbol 28 = .ok (.aload_n 0, 1) := by decide +kernel
theorem dX7_symbol_29 : decode cX7_symbol 29 = .ok (.iconst 0, 1) := by decide +kernel
theorem dX7_symbol_30 : decode cX7_symbol 30 = .ok (.putfield 50, 3) := by decide +kernel
theorem dX7_symbol_33 : decode cX7_symbol 33 = .ok (.aload_n 0, 1) := by decide +kernel
theorem dX7_symbol_34 : decode cX7_symbol 34 = .ok (.getfield 26, 3) := by decide +kernel
theorem dX7_symbol_37 : decode cX7_symbol 37 = .ok (.invokevirtual 62, 3) := by decide +kernel
theorem dX7_symbol_40 : decode cX7_symbol 40 = .ok (.ireturn, 1) := by decide +kernel
set_option maxRecDepth 20000 in
theorem ggX7_empty_X2_size : GoodIn wsX7_empty wsX2_size := goodIn_r _ [7, 8, 20, 21] (by decide +kernel) (by decide +kernel)
set_option maxRecDepth 20000 in
theorem gX7_empty_X2_size : GoodIn wsX7_empty (wsV RX7 62 RX2 yX2_size wsX2_size) := goodIn_app (goodIn_of _ (by decide +kernel)) ggX7_empty_X2_size
set_option maxRecDepth 20000 in
theorem ggX7_empty_X2_shrinkTo : GoodIn wsX7_empty wsX2_shrinkTo := goodIn_r _ [12, 8, 20, 21] (by decide +kernel) (by decide +kernel)
set_option maxRecDepth 20000 in
theorem gX7_empty_X2_shrinkTo : GoodIn wsX7_empty (wsV RX7 77 RX2 yX2_shrinkTo wsX2_shrinkTo) := goodIn_app (goodIn_of _ (by decide +kernel)) ggX7_empty_X2_shrinkTo
theorem dX7_empty_0 : decode cX7_empty 0 = .ok (.aload_n 0, 1) := by decide +kernel
theorem dX7_empty_1 : decode cX7_empty 1 = .ok (.getfield 26, 3) := by decide +kernel
theorem dX7_empty_4 : decode cX7_empty 4 = .ok (.invokevirtual 62, 3) := by decide +kernel
theorem dX7_empty_7 : decode cX7_empty 7 = .ok (.istore_n 1, 1) := by decide +kernel
theorem dX7_empty_8 : decode cX7_empty 8 = .ok (.aload_n 0, 1) := by decide +kernel
theorem dX7_empty_9 : decode cX7_empty 9 = .ok (.getfield 26, 3) := by decide +kernel
theorem dX7_empty_12 : decode cX7_empty 12 = .ok (.iconst 0, 1) := by decide +kernel
theorem dX7_empty_13 : decode cX7_empty 13 = .ok (.invokevirtual 77, 3) := by decide +kernel
theorem dX7_empty_16 : decode cX7_empty 16 = .ok (.aload_n 0, 1) := by decide +kernel
theorem dX7_empty_17 : decode cX7_empty 17 = .ok (.iconst 0, 1) := by decide +kernel
theorem dX7_empty_18 : decode cX7_empty 18 = .ok (.putfield 50, 3) := by decide +kernel
theorem dX7_empty_21 : decode cX7_empty 21 = .ok (.iload_n 1, 1) := by decide +kernel
theorem dX7_empty_22 : decode cX7_empty 22 = .ok (.ireturn, 1) := by decide +kernel
set_option maxRecDepth 20000 in
theorem ggX7_at_X2_get : GoodIn wsX7_at wsX2_get := goodIn_r _ [6, 7, 8, 16, 17] (by decide +kernel) (by decide +kernel)
set_option maxRecDepth 20000 in
theorem gX7_at_X2_get : GoodIn wsX7_at (wsV RX7 80 RX2 yX2_get wsX2_get) := goodIn_app (goodIn_of _ (by decide +kernel)) ggX7_at_X2_get
theorem dX7_at_0 : decode cX7_at 0 = .ok (.aload_n 0, 1) := by decide +kernel
theorem dX7_at_1 : decode cX7_at 1 = .ok (.getfield 26, 3) := by decide +kernel
theorem dX7_at_4 : decode cX7_at 4 = .ok (.iload_n 1, 1) := by decide +kernel
theorem dX7_at_5 : decode cX7_at 5 = .ok (.invokevirtual 80, 3) := by decide +kernel
theorem dX7_at_8 : decode cX7_at 8 = .ok (.ireturn, 1) := by decide +kernel
set_option maxRecDepth 20000 in
theorem ggX7_told_X2_size : GoodIn wsX7_told wsX2_size := goodIn_r _ [8, 9, 183, 184] (by decide +kernel) (by decide +kernel)
set_option maxRecDepth 20000 in
theorem gX7_told_X2_size : GoodIn wsX7_told (wsV RX7 62 RX2 yX2_size wsX2_size) := goodIn_app (goodIn_of _ (by decide +kernel)) ggX7_told_X2_size
set_option maxRecDepth 20000 in
theorem ggX7_told_X7_packedData : GoodIn wsX7_told wsX7_packedData := goodIn_r _ [14, 15, 16, 1, 17, 18, 19, 20, 21, 22, 23, 24, 25, 26, 27, 28, 29, 30, 31, 32, 33, 34, 35, 36, 37, 38, 39, 40, 41, 42, 43, 44, 45, 46, 47, 48, 49, 50, 51, 52, 53, 54, 55, 56, 57, 58, 59, 60, 61, 7, 62, 9, 63, 64, 65, 66, 67, 68, 69, 70, 71, 72, 73, 74, 75, 76, 77, 78, 79, 80, 81, 82, 83, 84, 85, 86, 87, 88, 89, 90, 91, 92, 93, 94, 95, 96, 97, 98, 99, 100, 101, 102, 5, 6, 8, 103, 104, 105, 106, 107, 108, 109, 110, 111, 112, 113, 114, 115, 116, 117, 118, 119, 120, 121, 122, 123, 124, 125, 126, 127, 128, 129, 130, 131, 132, 133, 134, 135, 136, 137, 138, 139, 140, 141, 142, 143, 144, 145, 146, 147, 148, 149, 150, 151, 152, 167, 168, 169, 170, 171, 172, 173, 174, 175, 153, 154, 155, 156, 157, 158, 159, 160, 161, 162, 163, 164, 185, 186, 187, 188, 189, 190, 191, 176, 177, 178, 179, 180, 181, 182, 183, 184] (by decide +kernel) (by decide +kernel)
set_option maxRecDepth 20000 in
theorem gX7_told_X7_packedData : GoodIn wsX7_told (wsV RX7 99 RX7 yX7_packedData wsX7_packedData) := goodIn_app (goodIn_of _ (by decide +kernel)) ggX7_told_X7_packedData
theorem dX7_told_0 : decode cX7_told 0 = .ok (.iload_n 1, 1) := by decide +kernel
theorem dX7_told_1 : decode cX7_told 1 = .ok (.tableswitch 144 0 9 #[55, 63, 71, 79, 87, 95, 106, 117, 125, 136], 55) := by decide +kernel
theorem dX7_told_56 : decode cX7_told 56 = .ok (.aload_n 0, 1) := by decide +kernel
theorem dX7_told_57 : decode cX7_told 57 = .ok (.getfield 26, 3) := by decide +kernel
theorem dX7_told_60 : decode cX7_told 60 = .ok (.invokevirtual 62, 3) := by decide +kernel
theorem dX7_told_63 : decode cX7_told 63 = .ok (.ireturn, 1) := by decide +kernel
theorem dX7_told_64 : decode cX7_told 64 = .ok (.aload_n 0, 1) := by decide +kernel
theorem dX7_told_65 : decode cX7_told 65 = .ok (.getfield 17, 3) := by decide +kernel
theorem dX7_told_68 : decode cX7_told 68 = .ok (.getfield 84, 3) := by decide +kernel
theorem dX7_told_71 : decode cX7_told 71 = .ok (.ireturn, 1) := by decide +kernel
theorem dX7_told_72 : decode cX7_told 72 = .ok (.aload_n 0, 1) := by decide +kernel
theorem dX7_told_73 : decode cX7_told 73 = .ok (.getfield 17, 3) := by decide +kernel
theorem dX7_told_76 : decode cX7_told 76 = .ok (.getfield 87, 3) := by decide +kernel
theorem dX7_told_79 : decode cX7_told 79 = .ok (.ireturn, 1) := by decide +kernel
theorem dX7_told_80 : decode cX7_told 80 = .ok (.aload_n 0, 1) := by decide +kernel
theorem dX7_told_81 : decode cX7_told 81 = .ok (.getfield 17, 3) := by decide +kernel
theorem dX7_told_84 : decode cX7_told 84 = .ok (.getfield 90, 3) := by decide +kernel
theorem dX7_told_87 : decode cX7_told 87 = .ok (.ireturn, 1) := by decide +kernel
theorem dX7_told_88 : decode cX7_told 88 = .ok (.aload_n 0, 1) := by decide +kernel
theorem dX7_told_89 : decode cX7_told 89 = .ok (.getfield 17, 3) := by decide +kernel
theorem dX7_told_92 : decode cX7_told 92 = .ok (.getfield 93, 3) := by decide +kernel
theorem dX7_told_95 : decode cX7_told 95 = .ok (.ireturn, 1) := by decide +kernel
theorem dX7_told_96 : decode cX7_told 96 = .ok (.aload_n 0, 1) := by decide +kernel
theorem dX7_told_97 : decode cX7_told 97 = .ok (.getfield 30, 3) := by decide +kernel
theorem dX7_told_100 : decode cX7_told 100 = .ok (.getfield 96, 3) := by decide +kernel
theorem dX7_told_103 : decode cX7_told 103 = .ok (.invokevirtual 62, 3) := by decide +kernel
theorem dX7_told_106 : decode cX7_told 106 = .ok (.ireturn, 1) := by decide +kernel
theorem dX7_told_107 : decode cX7_told 107 = .ok (.aload_n 0, 1) := by decide +kernel
theorem dX7_told_108 : decode cX7_told 108 = .ok (.invokevirtual 99, 3) := by decide +kernel
theorem dX7_told_111 : decode cX7_told 111 = .ok (.getfield 103, 3) := by decide +kernel
theorem dX7_told_114 : decode cX7_told 114 = .ok (.invokevirtual 62, 3) := by decide +kernel
theorem dX7_told_117 : decode cX7_told 117 = .ok (.ireturn, 1) := by decide +kernel
theorem dX7_told_118 : decode cX7_told 118 = .ok (.aload_n 0, 1) := by decide +kernel
theorem dX7_told_119 : decode cX7_told 119 = .ok (.invokevirtual 99, 3) := by decide +kernel
theorem dX7_told_122 : decode cX7_told 122 = .ok (.getfield 106, 3) := by decide +kernel
theorem dX7_told_125 : decode cX7_told 125 = .ok (.ireturn, 1) := by decide +kernel
theorem dX7_told_126 : decode cX7_told 126 = .ok (.aload_n 0, 1) := by decide +kernel
theorem dX7_told_127 : decode cX7_told 127 = .ok (.invokevirtual 99, 3) := by decide +kernel
theorem dX7_told_130 : decode cX7_told 130 = .ok (.getfield 109, 3) := by decide +kernel
theorem dX7_told_133 : decode cX7_told 133 = .ok (.getfield 113, 3) := by decide +kernel
theorem dX7_told_136 : decode cX7_told 136 = .ok (.ireturn, 1) := by decide +kernel
theorem dX7_told_137 : decode cX7_told 137 = .ok (.aload_n 0, 1) := by decide +kernel
theorem dX7_told_138 : decode cX7_told 138 = .ok (.invokevirtual 99, 3) := by decide +kernel
theorem dX7_told_141 : decode cX7_told 141 = .ok (.getfield 118, 3) := by decide +kernel
theorem dX7_told_144 : decode cX7_told 144 = .ok (.ireturn, 1) := by decide +kernel
theorem dX7_told_145 : decode cX7_told 145 = .ok (.bipush (-2), 2) := by decide +kernel
theorem dX7_told_147 : decode cX7_told 147 = .ok (.ireturn, 1) := by decide +kernel
set_option maxRecDepth 20000 in
theorem ggX7_code_X7_packedData : GoodIn wsX7_code wsX7_packedData := goodIn_r _ [5, 6, 7, 8, 9, 10, 11, 12, 13, 14, 15, 16, 17, 18, 19, 20, 21, 22, 23, 24, 25, 26, 27, 28, 29, 30, 31, 32, 33, 34, 35, 36, 37, 38, 39, 40, 41, 42, 43, 44, 45, 46, 47, 48, 49, 50, 51, 52, 53, 54, 55, 56, 57, 58, 59, 60, 61, 62, 63, 64, 65, 66, 67, 68, 69, 70, 71, 72, 73, 74, 75, 76, 77, 78, 79, 80, 81, 82, 83, 84, 85, 86, 87, 88, 89, 90, 91, 92, 93, 94, 95, 96, 97, 98, 99, 100, 101, 102, 103, 104, 105, 106, 107, 108, 109, 110, 111, 112, 113, 114, 115, 116, 117, 118, 119, 120, 121, 122, 123, 124, 125, 126, 127, 128, 129, 130, 131, 132, 133, 134, 135, 136, 137, 138, 139, 140, 141, 142, 153, 154, 155, 156, 157, 158, 159, 144, 145, 146, 147, 148, 149, 150, 151, 152, 160, 161, 162, 163, 164, 165, 166, 167, 168, 169, 170, 171, 172, 173, 174, 175, 176, 177, 178, 179, 180, 181, 182, 183, 184, 185, 186, 187] (by decide +kernel) (by decide +kernel)
set_option maxRecDepth 20000 in
theorem gX7_code_X7_packedData : GoodIn wsX7_code (wsV RX7 99 RX7 yX7_packedData wsX7_packedData) := goodIn_app (goodIn_of _ (by decide +kernel)) ggX7_code_X7_packedData
set_option maxRecDepth 20000 in
theorem ggX7_code_X2_get : GoodIn wsX7_code wsX2_get := goodIn_r _ [107, 56, 77, 186, 187] (by decide +kernel) (by decide +kernel)
set_option maxRecDepth 20000 in
theorem gX7_code_X2_get : GoodIn wsX7_code (wsV RX7 80 RX2 yX2_get wsX2_get) := goodIn_app (goodIn_of _ (by decide +kernel)) ggX7_code_X2_get
theorem dX7_code_0 : decode cX7_code 0 = .ok (.iload_n 2, 1) := by decide +kernel
theorem dX7_code_1 : decode cX7_code 1 = .ok (.tableswitch 63 0 2 #[27, 39, 51], 27) := by decide +kernel
theorem dX7_code_28 : decode cX7_code 28 = .ok (.aload_n 0, 1) := by decide +kernel
theorem dX7_code_29 : decode cX7_code 29 = .ok (.invokevirtual 99, 3) := by decide +kernel
theorem dX7_code_32 : decode cX7_code 32 = .ok (.getfield 103, 3) := by decide +kernel
theorem dX7_code_35 : decode cX7_code 35 = .ok (.iload_n 1, 1) := by decide +kernel
theorem dX7_code_36 : decode cX7_code 36 = .ok (.invokevirtual 80, 3) := by decide +kernel
theorem dX7_code_39 : decode cX7_code 39 = .ok (.ireturn, 1) := by decide +kernel
theorem dX7_code_40 : decode cX7_code 40 = .ok (.aload_n 0, 1) := by decide +kernel
theorem dX7_code_41 : decode cX7_code 41 = .ok (.invokevirtual 99, 3) := by decide +kernel
theorem dX7_code_44 : decode cX7_code 44 = .ok (.getfield 121, 3) := by decide +kernel
theorem dX7_code_47 : decode cX7_code 47 = .ok (.iload_n 1, 1) := by decide +kernel
theorem dX7_code_48 : decode cX7_code 48 = .ok (.invokevirtual 80, 3) := by decide +kernel
theorem dX7_code_51 : decode cX7_code 51 = .ok (.ireturn, 1) := by decide +kernel
theorem dX7_code_52 : decode cX7_code 52 = .ok (.aload_n 0, 1) := by decide +kernel
theorem dX7_code_53 : decode cX7_code 53 = .ok (.invokevirtual 99, 3) := by decide +kernel
theorem dX7_code_56 : decode cX7_code 56 = .ok (.getfield 124, 3) := by decide +kernel
theorem dX7_code_59 : decode cX7_code 59 = .ok (.iload_n 1, 1) := by decide +kernel
theorem dX7_code_60 : decode cX7_code 60 = .ok (.invokevirtual 80, 3) := by decide +kernel
theorem dX7_code_63 : decode cX7_code 63 = .ok (.ireturn, 1) := by decide +kernel
theorem dX7_code_64 : decode cX7_code 64 = .ok (.bipush (-2), 2) := by decide +kernel
theorem dX7_code_66 : decode cX7_code 66 = .ok (.ireturn, 1) := by decide +kernel
set_option maxRecDepth 20000 in
theorem ggX7_string_X7_packedData : GoodIn wsX7_string wsX7_packedData := goodIn_r _ [5, 6, 7, 8, 9, 10, 11, 12, 13, 14, 15, 16, 17, 18, 19, 20, 21, 22, 23, 24, 25, 26, 27, 28, 29, 30, 31, 32, 33, 34, 35, 36, 37, 38, 39, 40, 41, 42, 43, 44, 45, 46, 47, 48, 49, 50, 51, 52, 53, 54, 55, 56, 57, 58, 59, 60, 61, 62, 63, 64, 65, 66, 67, 68, 69, 70, 71, 72, 73, 74, 75, 76, 77, 78, 79, 80, 81, 82, 83, 84, 85, 86, 87, 88, 89, 90, 91, 92, 93, 94, 95, 96, 97, 98, 99, 100, 101, 102, 103, 104, 105, 106, 107, 108, 109, 110, 111, 112, 113, 114, 115, 116, 117, 118, 119, 120, 121, 122, 123, 124, 125, 126, 127, 128, 129, 130, 131, 132, 133, 134, 135, 136, 137, 138, 139, 140, 141, 142, 161, 162, 163, 164, 165, 166, 167, 152, 153, 154, 155, 156, 157, 158, 159, 160, 168, 169, 170, 171, 172, 173, 174, 175, 176, 177, 178, 179, 180, 181, 182, 183, 184, 185, 186, 187, 188, 189, 190, 191, 192, 193, 194, 195] (by decide +kernel) (by decide +kernel)
set_option maxRecDepth 20000 in
theorem gX7_string_X7_packedData : GoodIn wsX7_string (wsV RX7 99 RX7 yX7_packedData wsX7_packedData) := goodIn_app (goodIn_of _ (by decide +kernel)) ggX7_string_X7_packedData
set_option maxRecDepth 20000 in
theorem ggX7_string_X4_headOf : GoodIn wsX7_string wsX4_headOf := goodIn_r _ [146, 49, 125, 126, 127, 46, 128, 113, 48, 187, 188, 189, 190, 191, 192, 193, 168, 169, 170, 171, 172, 173, 174, 175, 176, 177, 178, 179] (by decide +kernel) (by decide +kernel)
set_option maxRecDepth 20000 in
theorem gX7_string_X4_headOf : GoodIn wsX7_string (wsV RX7 127 RX4 yX4_headOf wsX4_headOf) := goodIn_app (goodIn_of _ (by decide +kernel)) ggX7_string_X4_headOf
set_option maxRecDepth 20000 in
theorem ggX7_string_X4_tailOf : GoodIn wsX7_string wsX4_tailOf := goodIn_r _ [150, 113, 112, 120, 121, 122, 93, 123, 124, 125, 126, 127, 46, 128, 48, 187, 188, 189, 190, 191, 192, 193, 168, 169, 170, 171, 172, 173, 174, 175, 176, 177, 178, 179] (by decide +kernel) (by decide +kernel)
set_option maxRecDepth 20000 in
theorem gX7_string_X4_tailOf : GoodIn wsX7_string (wsV RX7 130 RX4 yX4_tailOf wsX4_tailOf) := goodIn_app (goodIn_of _ (by decide +kernel)) ggX7_string_X4_tailOf
set_option maxRecDepth 20000 in
theorem ggX7_string_X4_lengthOf : GoodIn wsX7_string wsX4_lengthOf := goodIn_r _ [118, 113, 119, 120, 121, 122, 93, 123, 124, 125, 126, 127, 46, 128, 48, 187, 188, 189, 190, 191, 192, 193, 168, 169, 170, 171, 172, 173, 174, 175, 176, 177, 178, 179] (by decide +kernel) (by decide +kernel)
set_option maxRecDepth 20000 in
theorem gX7_string_X4_lengthOf : GoodIn wsX7_string (wsV RX7 133 RX4 yX4_lengthOf wsX4_lengthOf) := goodIn_app (goodIn_of _ (by decide +kernel)) ggX7_string_X4_lengthOf
theorem dX7_string_0 : decode cX7_string 0 = .ok (.iload_n 2, 1) := by decide +kernel
theorem dX7_string_1 : decode cX7_string 1 = .ok (.tableswitch 63 0 2 #[27, 39, 51], 27) := by decide +kernel
theorem dX7_string_28 : decode cX7_string 28 = .ok (.aload_n 0, 1) := by decide +kernel
theorem dX7_string_29 : decode cX7_string 29 = .ok (.invokevirtual 99, 3) := by decide +kernel
theorem dX7_string_32 : decode cX7_string 32 = .ok (.getfield 109, 3) := by decide +kernel
theorem dX7_string_35 : decode cX7_string 35 = .ok (.iload_n 1, 1) := by decide +kernel
theorem dX7_string_36 : decode cX7_string 36 = .ok (.invokevirtual 127, 3) := by decide +kernel
theorem dX7_string_39 : decode cX7_string 39 = .ok (.ireturn, 1) := by decide +kernel
theorem dX7_string_40 : decode cX7_string 40 = .ok (.aload_n 0, 1) := by decide +kernel
theorem dX7_string_41 : decode cX7_string 41 = .ok (.invokevirtual 99, 3) := by decide +kernel
theorem dX7_string_44 : decode cX7_string 44 = .ok (.getfield 109, 3) := by decide +kernel
theorem dX7_string_47 : decode cX7_string 47 = .ok (.iload_n 1, 1) := by decide +kernel
theorem dX7_string_48 : decode cX7_string 48 = .ok (.invokevirtual 130, 3) := by decide +kernel
theorem dX7_string_51 : decode cX7_string 51 = .ok (.ireturn, 1) := by decide +kernel
theorem dX7_string_52 : decode cX7_string 52 = .ok (.aload_n 0, 1) := by decide +kernel
theorem dX7_string_53 : decode cX7_string 53 = .ok (.invokevirtual 99, 3) := by decide +kernel
theorem dX7_string_56 : decode cX7_string 56 = .ok (.getfield 109, 3) := by decide +kernel
theorem dX7_string_59 : decode cX7_string 59 = .ok (.iload_n 1, 1) := by decide +kernel
theorem dX7_string_60 : decode cX7_string 60 = .ok (.invokevirtual 133, 3) := by decide +kernel
theorem dX7_string_63 : decode cX7_string 63 = .ok (.ireturn, 1) := by decide +kernel
theorem dX7_string_64 : decode cX7_string 64 = .ok (.bipush (-2), 2) := by decide +kernel
theorem dX7_string_66 : decode cX7_string 66 = .ok (.ireturn, 1) := by decide +kernel
set_option maxRecDepth 20000 in
theorem ggX7_write_X7_packedData : GoodIn wsX7_write wsX7_packedData := goodIn_r _ [6, 7, 8, 9, 10, 11, 12, 13, 14, 15, 16, 17, 18, 19, 20, 21, 22, 23, 24, 25, 26, 27, 28, 29, 30, 31, 32, 33, 34, 35, 36, 37, 38, 39, 40, 41, 42, 43, 44, 45, 46, 47, 48, 49, 50, 51, 52, 53, 54, 55, 56, 57, 58, 59, 60, 61, 62, 63, 64, 65, 66, 67, 68, 69, 70, 71, 72, 73, 74, 75, 76, 77, 78, 79, 80, 81, 82, 83, 84, 85, 86, 87, 88, 89, 90, 91, 92, 93, 94, 95, 96, 97, 98, 99, 100, 101, 102, 103, 104, 105, 106, 107, 108, 109, 110, 111, 112, 113, 114, 115, 116, 117, 118, 119, 120, 121, 122, 123, 124, 125, 126, 127, 128, 129, 130, 131, 132, 133, 134, 135, 136, 137, 138, 139, 140, 141, 142, 143, 181, 182, 183, 184, 185, 186, 187, 172, 173, 174, 175, 176, 177, 178, 179, 180, 188, 189, 190, 191, 192, 193, 194, 195, 196, 197, 198, 199, 200, 201, 202, 203, 204, 205, 206, 207, 208, 209, 210, 211, 212, 213, 214, 215] (by decide +kernel) (by decide +kernel)
set_option maxRecDepth 20000 in
theorem gX7_write_X7_packedData : GoodIn wsX7_write (wsV RX7 99 RX7 yX7_packedData wsX7_packedData) := goodIn_app (goodIn_of _ (by decide +kernel)) ggX7_write_X7_packedData
set_option maxRecDepth 20000 in
theorem ggX7_write_X5_blank : GoodIn wsX7_write wsX5_blank := goodIn_r _ [148, 149, 150, 53, 54, 55, 56, 57, 151, 75, 76, 77, 78, 216, 217, 214, 215] (by decide +kernel) (by decide +kernel)
set_option maxRecDepth 20000 in
theorem gX7_write_X5_blank : GoodIn wsX7_write (wsV RX7 136 RX5 yX5_blank wsX5_blank) := goodIn_app (goodIn_of _ (by decide +kernel)) ggX7_write_X5_blank
set_option maxRecDepth 20000 in
theorem ggX7_write_X2_size : GoodIn wsX7_write wsX2_size := goodIn_r _ [100, 57, 214, 215] (by decide +kernel) (by decide +kernel)
set_option maxRecDepth 20000 in
theorem gX7_write_X2_size : GoodIn wsX7_write (wsV RX7 62 RX2 yX2_size wsX2_size) := goodIn_app (goodIn_of _ (by decide +kernel)) ggX7_write_X2_size
set_option maxRecDepth 20000 in
theorem ggX7_write_X2_get : GoodIn wsX7_write wsX2_get := goodIn_r _ [108, 57, 78, 214, 215] (by decide +kernel) (by decide +kernel)
set_option maxRecDepth 20000 in
theorem gX7_write_X2_get : GoodIn wsX7_write (wsV RX7 80 RX2 yX2_get wsX2_get) := goodIn_app (goodIn_of _ (by decide +kernel)) ggX7_write_X2_get
set_option maxRecDepth 20000 in
theorem ggX7_write_X5_putCode : GoodIn wsX7_write wsX5_putCode := goodIn_r _ [157, 149, 158, 159, 160, 147, 161, 162, 163, 106, 107, 55, 108, 57, 78, 164, 165, 166, 167, 168, 169, 170, 171, 216, 217, 188, 189, 190, 191, 192, 193, 194, 195, 196, 197, 198, 199, 214, 215] (by decide +kernel) (by decide +kernel)
set_option maxRecDepth 20000 in
theorem gX7_write_X5_putCode : GoodIn wsX7_write (wsV RX7 139 RX5 yX5_putCode wsX5_putCode) := goodIn_app (goodIn_of _ (by decide +kernel)) ggX7_write_X5_putCode
theorem dX7_write_0 : decode cX7_write 0 = .ok (.aload_n 0, 1) := by decide +kernel
theorem dX7_write_1 : decode cX7_write 1 = .ok (.invokevirtual 99, 3) := by decide +kernel
theorem dX7_write_4 : decode cX7_write 4 = .ok (.astore_n 1, 1) := by decide +kernel
theorem dX7_write_5 : decode cX7_write 5 = .ok (.aload_n 1, 1) := by decide +kernel
theorem dX7_write_6 : decode cX7_write 6 = .ok (.getfield 106, 3) := by decide +kernel
theorem dX7_write_9 : decode cX7_write 9 = .ok (.bipush 7, 2) := by decide +kernel
theorem dX7_write_11 : decode cX7_write 11 = .ok (.iadd, 1) := by decide +kernel
theorem dX7_write_12 : decode cX7_write 12 = .ok (.bipush 8, 2) := by decide +kernel
theorem dX7_write_14 : decode cX7_write 14 = .ok (.idiv, 1) := by decide +kernel
theorem dX7_write_15 : decode cX7_write 15 = .ok (.istore_n 2, 1) := by decide +kernel
theorem dX7_write_16 : decode cX7_write 16 = .ok (.iload_n 2, 1) := by decide +kernel
theorem dX7_write_17 : decode cX7_write 17 = .ok (.sipush 400, 3) := by decide +kernel
theorem dX7_write_20 : decode cX7_write 20 = .ok (.if_icmp .le 6, 3) := by decide +kernel
theorem dX7_write_23 : decode cX7_write 23 = .ok (.bipush (-4), 2) := by decide +kernel
theorem dX7_write_25 : decode cX7_write 25 = .ok (.ireturn, 1) := by decide +kernel
theorem dX7_write_26 : decode cX7_write 26 = .ok (.aload_n 0, 1) := by decide +kernel
theorem dX7_write_27 : decode cX7_write 27 = .ok (.getfield 30, 3) := by decide +kernel
theorem dX7_write_30 : decode cX7_write 30 = .ok (.iload_n 2, 1) := by decide +kernel
theorem dX7_write_31 : decode cX7_write 31 = .ok (.invokevirtual 136, 3) := by decide +kernel
theorem dX7_write_34 : decode cX7_write 34 = .ok (.iconst 0, 1) := by decide +kernel
theorem dX7_write_35 : decode cX7_write 35 = .ok (.istore_n 3, 1) := by decide +kernel
theorem dX7_write_36 : decode cX7_write 36 = .ok (.iload_n 3, 1) := by decide +kernel
theorem dX7_write_37 : decode cX7_write 37 = .ok (.aload_n 1, 1) := by decide +kernel
theorem dX7_write_38 : decode cX7_write 38 = .ok (.getfield 103, 3) := by decide +kernel
theorem dX7_write_41 : decode cX7_write 41 = .ok (.invokevirtual 62, 3) := by decide +kernel
theorem dX7_write_44 : decode cX7_write 44 = .ok (.if_icmp .ge 40, 3) := by decide +kernel
theorem dX7_write_47 : decode cX7_write 47 = .ok (.aload_n 0, 1) := by decide +kernel
theorem dX7_write_48 : decode cX7_write 48 = .ok (.getfield 30, 3) := by decide +kernel
theorem dX7_write_51 : decode cX7_write 51 = .ok (.aload_n 1, 1) := by decide +kernel
theorem dX7_write_52 : decode cX7_write 52 = .ok (.getfield 103, 3) := by decide +kernel
theorem dX7_write_55 : decode cX7_write 55 = .ok (.iload_n 3, 1) := by decide +kernel
theorem dX7_write_56 : decode cX7_write 56 = .ok (.invokevirtual 80, 3) := by decide +kernel
theorem dX7_write_59 : decode cX7_write 59 = .ok (.aload_n 1, 1) := by decide +kernel
theorem dX7_write_60 : decode cX7_write 60 = .ok (.getfield 121, 3) := by decide +kernel
theorem dX7_write_63 : decode cX7_write 63 = .ok (.iload_n 3, 1) := by decide +kernel
theorem dX7_write_64 : decode cX7_write 64 = .ok (.invokevirtual 80, 3) := by decide +kernel
theorem dX7_write_67 : decode cX7_write 67 = .ok (.aload_n 1, 1) := by decide +kernel
theorem dX7_write_68 : decode cX7_write 68 = .ok (.getfield 124, 3) := by decide +kernel
theorem dX7_write_71 : decode cX7_write 71 = .ok (.iload_n 3, 1) := by decide +kernel
theorem dX7_write_72 : decode cX7_write 72 = .ok (.invokevirtual 80, 3) := by decide +kernel
theorem dX7_write_75 : decode cX7_write 75 = .ok (.invokevirtual 139, 3) := by decide +kernel
theorem dX7_write_78 : decode cX7_write 78 = .ok (.iinc 3 1, 3) := by decide +kernel
theorem dX7_write_81 : decode cX7_write 81 = .ok (.goto (-45), 3) := by decide +kernel
theorem dX7_write_84 : decode cX7_write 84 = .ok (.iload_n 2, 1) := by decide +kernel
theorem dX7_write_85 : decode cX7_write 85 = .ok (.ireturn, 1) := by decide +kernel
set_option maxRecDepth 20000 in
theorem ggX7_more_X2_add : GoodIn wsX7_more wsX2_add := goodIn_r _ [6, 7, 8, 22, 23] (by decide +kernel) (by decide +kernel)
set_option maxRecDepth 20000 in
theorem gX7_more_X2_add : GoodIn wsX7_more (wsV RX7 74 RX2 yX2_add wsX2_add) := goodIn_app (goodIn_of _ (by decide +kernel)) ggX7_more_X2_add
set_option maxRecDepth 20000 in
theorem ggX7_more_X2_size : GoodIn wsX7_more wsX2_size := goodIn_r _ [12, 7, 22, 23] (by decide +kernel) (by decide +kernel)
set_option maxRecDepth 20000 in
theorem gX7_more_X2_size : GoodIn wsX7_more (wsV RX7 62 RX2 yX2_size wsX2_size) := goodIn_app (goodIn_of _ (by decide +kernel)) ggX7_more_X2_size
theorem dX7_more_0 : decode cX7_more 0 = .ok (.iload_n 1, 1) := by decide +kernel
theorem dX7_more_1 : decode cX7_more 1 = .ok (.ifCond .lt 10, 3) := by decide +kernel
theorem dX7_more_4 : decode cX7_more 4 = .ok (.iload_n 1, 1) := by decide +kernel
theorem dX7_more_5 : decode cX7_more 5 = .ok (.sipush 255, 3) := by decide +kernel
theorem dX7_more_8 : decode cX7_more 8 = .ok (.if_icmp .le 6, 3) := by decide +kernel
theorem dX7_more_11 : decode cX7_more 11 = .ok (.bipush (-2), 2) := by decide +kernel
theorem dX7_more_13 : decode cX7_more 13 = .ok (.ireturn, 1) := by decide +kernel
theorem dX7_more_14 : decode cX7_more 14 = .ok (.aload_n 0, 1) := by decide +kernel
theorem dX7_more_15 : decode cX7_more 15 = .ok (.getfield 30, 3) := by decide +kernel
theorem dX7_more_18 : decode cX7_more 18 = .ok (.getfield 96, 3) := by decide +kernel
theorem dX7_more_21 : decode cX7_more 21 = .ok (.iload_n 1, 1) := by decide +kernel
theorem dX7_more_22 : decode cX7_more 22 = .ok (.invokevirtual 74, 3) := by decide +kernel
theorem dX7_more_25 : decode cX7_more 25 = .ok (.ifCond .eq 16, 3) := by decide +kernel
theorem dX7_more_28 : decode cX7_more 28 = .ok (.aload_n 0, 1) := by decide +kernel
theorem dX7_more_29 : decode cX7_more 29 = .ok (.getfield 30, 3) := by decide +kernel
theorem dX7_more_32 : decode cX7_more 32 = .ok (.getfield 96, 3) := by decide +kernel
theorem dX7_more_35 : decode cX7_more 35 = .ok (.invokevirtual 62, 3) := by decide +kernel
theorem dX7_more_38 : decode cX7_more 38 = .ok (.goto 5, 3) := by decide +kernel
theorem dX7_more_41 : decode cX7_more 41 = .ok (.bipush (-4), 2) := by decide +kernel
theorem dX7_more_43 : decode cX7_more 43 = .ok (.ireturn, 1) := by decide +kernel
set_option maxRecDepth 20000 in
theorem ggX7_cut_X2_size : GoodIn wsX7_cut wsX2_size := goodIn_r _ [6, 7, 21, 22] (by decide +kernel) (by decide +kernel)
set_option maxRecDepth 20000 in
theorem gX7_cut_X2_size : GoodIn wsX7_cut (wsV RX7 62 RX2 yX2_size wsX2_size) := goodIn_app (goodIn_of _ (by decide +kernel)) ggX7_cut_X2_size
set_option maxRecDepth 20000 in
theorem ggX7_cut_X2_shrinkTo : GoodIn wsX7_cut wsX2_shrinkTo := goodIn_r _ [11, 7, 21, 22] (by decide +kernel) (by decide +kernel)
set_option maxRecDepth 20000 in
theorem gX7_cut_X2_shrinkTo : GoodIn wsX7_cut (wsV RX7 77 RX2 yX2_shrinkTo wsX2_shrinkTo) := goodIn_app (goodIn_of _ (by decide +kernel)) ggX7_cut_X2_shrinkTo
theorem dX7_cut_0 : decode cX7_cut 0 = .ok (.aload_n 0, 1) := by decide +kernel
theorem dX7_cut_1 : decode cX7_cut 1 = .ok (.getfield 30, 3) := by decide +kernel
theorem dX7_cut_4 : decode cX7_cut 4 = .ok (.getfield 96, 3) := by decide +kernel
theorem dX7_cut_7 : decode cX7_cut 7 = .ok (.invokevirtual 62, 3) := by decide +kernel
theorem dX7_cut_10 : decode cX7_cut 10 = .ok (.istore_n 2, 1) := by decide +kernel
theorem dX7_cut_11 : decode cX7_cut 11 = .ok (.iload_n 1, 1) := by decide +kernel
theorem dX7_cut_12 : decode cX7_cut 12 = .ok (.ifCond .lt 8, 3) := by decide +kernel
theorem dX7_cut_15 : decode cX7_cut 15 = .ok (.iload_n 1, 1) := by decide +kernel
theorem dX7_cut_16 : decode cX7_cut 16 = .ok (.iload_n 2, 1) := by decide +kernel
theorem dX7_cut_17 : decode cX7_cut 17 = .ok (.if_icmp .le 6, 3) := by decide +kernel
theorem dX7_cut_20 : decode cX7_cut 20 = .ok (.bipush (-2), 2) := by decide +kernel
theorem dX7_cut_22 : decode cX7_cut 22 = .ok (.ireturn, 1) := by decide +kernel
theorem dX7_cut_23 : decode cX7_cut 23 = .ok (.aload_n 0, 1) := by decide +kernel
theorem dX7_cut_24 : decode cX7_cut 24 = .ok (.getfield 30, 3) := by decide +kernel
theorem dX7_cut_27 : decode cX7_cut 27 = .ok (.getfield 96, 3) := by decide +kernel
theorem dX7_cut_30 : decode cX7_cut 30 = .ok (.iload_n 1, 1) := by decide +kernel
theorem dX7_cut_31 : decode cX7_cut 31 = .ok (.invokevirtual 77, 3) := by decide +kernel
theorem dX7_cut_34 : decode cX7_cut 34 = .ok (.iload_n 2, 1) := by decide +kernel
theorem dX7_cut_35 : decode cX7_cut 35 = .ok (.iload_n 1, 1) := by decide +kernel
theorem dX7_cut_36 : decode cX7_cut 36 = .ok (.isub, 1) := by decide +kernel
theorem dX7_cut_37 : decode cX7_cut 37 = .ok (.ireturn, 1) := by decide +kernel
set_option maxRecDepth 20000 in
theorem ggX7_flip_X2_get : GoodIn wsX7_flip wsX2_get := goodIn_r _ [6, 7, 8, 22, 23] (by decide +kernel) (by decide +kernel)
set_option maxRecDepth 20000 in
theorem gX7_flip_X2_get : GoodIn wsX7_flip (wsV RX7 80 RX2 yX2_get wsX2_get) := goodIn_app (goodIn_of _ (by decide +kernel)) ggX7_flip_X2_get
set_option maxRecDepth 20000 in
theorem ggX7_flip_X2_set : GoodIn wsX7_flip wsX2_set := goodIn_r _ [12, 7, 8, 22, 23] (by decide +kernel) (by decide +kernel)
set_option maxRecDepth 20000 in
theorem gX7_flip_X2_set : GoodIn wsX7_flip (wsV RX7 143 RX2 yX2_set wsX2_set) := goodIn_app (goodIn_of _ (by decide +kernel)) ggX7_flip_X2_set
theorem dX7_flip_0 : decode cX7_flip 0 = .ok (.iload_n 2, 1) := by decide +kernel
theorem dX7_flip_1 : decode cX7_flip 1 = .ok (.ifCond .lt 9, 3) := by decide +kernel
theorem dX7_flip_4 : decode cX7_flip 4 = .ok (.iload_n 2, 1) := by decide +kernel
theorem dX7_flip_5 : decode cX7_flip 5 = .ok (.bipush 7, 2) := by decide +kernel
theorem dX7_flip_7 : decode cX7_flip 7 = .ok (.if_icmp .le 6, 3) := by decide +kernel
theorem dX7_flip_10 : decode cX7_flip 10 = .ok (.bipush (-2), 2) := by decide +kernel
theorem dX7_flip_12 : decode cX7_flip 12 = .ok (.ireturn, 1) := by decide +kernel
theorem dX7_flip_13 : decode cX7_flip 13 = .ok (.aload_n 0, 1) := by decide +kernel
theorem dX7_flip_14 : decode cX7_flip 14 = .ok (.getfield 30, 3) := by decide +kernel
theorem dX7_flip_17 : decode cX7_flip 17 = .ok (.getfield 96, 3) := by decide +kernel
theorem dX7_flip_20 : decode cX7_flip 20 = .ok (.iload_n 1, 1) := by decide +kernel
theorem dX7_flip_21 : decode cX7_flip 21 = .ok (.invokevirtual 80, 3) := by decide +kernel
theorem dX7_flip_24 : decode cX7_flip 24 = .ok (.istore_n 3, 1) := by decide +kernel
theorem dX7_flip_25 : decode cX7_flip 25 = .ok (.iload_n 3, 1) := by decide +kernel
theorem dX7_flip_26 : decode cX7_flip 26 = .ok (.iconst (-1), 1) := by decide +kernel
theorem dX7_flip_27 : decode cX7_flip 27 = .ok (.if_icmp .ne 5, 3) := by decide +kernel
theorem dX7_flip_30 : decode cX7_flip 30 = .ok (.iconst (-1), 1) := by decide +kernel
theorem dX7_flip_31 : decode cX7_flip 31 = .ok (.ireturn, 1) := by decide +kernel
theorem dX7_flip_32 : decode cX7_flip 32 = .ok (.iload_n 3, 1) := by decide +kernel
theorem dX7_flip_33 : decode cX7_flip 33 = .ok (.iconst 1, 1) := by decide +kernel
theorem dX7_flip_34 : decode cX7_flip 34 = .ok (.iload_n 2, 1) := by decide +kernel
theorem dX7_flip_35 : decode cX7_flip 35 = .ok (.ishl, 1) := by decide +kernel
theorem dX7_flip_36 : decode cX7_flip 36 = .ok (.ixor, 1) := by decide +kernel
theorem dX7_flip_37 : decode cX7_flip 37 = .ok (.istore 4, 2) := by decide +kernel
theorem dX7_flip_39 : decode cX7_flip 39 = .ok (.aload_n 0, 1) := by decide +kernel
theorem dX7_flip_40 : decode cX7_flip 40 = .ok (.getfield 30, 3) := by decide +kernel
theorem dX7_flip_43 : decode cX7_flip 43 = .ok (.getfield 96, 3) := by decide +kernel
theorem dX7_flip_46 : decode cX7_flip 46 = .ok (.iload_n 1, 1) := by decide +kernel
theorem dX7_flip_47 : decode cX7_flip 47 = .ok (.iload 4, 2) := by decide +kernel
theorem dX7_flip_49 : decode cX7_flip 49 = .ok (.invokevirtual 143, 3) := by decide +kernel
theorem dX7_flip_52 : decode cX7_flip 52 = .ok (.iload 4, 2) := by decide +kernel
theorem dX7_flip_54 : decode cX7_flip 54 = .ok (.ireturn, 1) := by decide +kernel
set_option maxRecDepth 20000 in
theorem ggX7_octet_X2_get : GoodIn wsX7_octet wsX2_get := goodIn_r _ [6, 7, 8, 18, 19] (by decide +kernel) (by decide +kernel)
set_option maxRecDepth 20000 in
theorem gX7_octet_X2_get : GoodIn wsX7_octet (wsV RX7 80 RX2 yX2_get wsX2_get) := goodIn_app (goodIn_of _ (by decide +kernel)) ggX7_octet_X2_get
theorem dX7_octet_0 : decode cX7_octet 0 = .ok (.aload_n 0, 1) := by decide +kernel
theorem dX7_octet_1 : decode cX7_octet 1 = .ok (.getfield 30, 3) := by decide +kernel
theorem dX7_octet_4 : decode cX7_octet 4 = .ok (.getfield 96, 3) := by decide +kernel
theorem dX7_octet_7 : decode cX7_octet 7 = .ok (.iload_n 1, 1) := by decide +kernel
theorem dX7_octet_8 : decode cX7_octet 8 = .ok (.invokevirtual 80, 3) := by decide +kernel
theorem dX7_octet_11 : decode cX7_octet 11 = .ok (.ireturn, 1) := by decide +kernel
set_option maxRecDepth 20000 in
theorem ggX7_read_X6_unpack : GoodIn wsX7_read wsX6_unpack := goodIn_r _ [9, 10, 11, 12, 13, 14, 15, 16, 8, 17, 18, 19, 20, 21, 22, 23, 24, 25, 26, 27, 28, 29, 30, 31, 32, 33, 34, 35, 36, 37, 38, 39, 40, 41, 42, 43, 44, 45, 46, 47, 48, 49, 50, 51, 52, 53, 54, 55, 56, 57, 58, 59, 60, 61, 62, 63, 64, 65, 66, 67, 68, 69, 70, 71, 72, 73, 74, 75, 76, 77, 78, 79, 80, 81, 82, 83, 84, 85, 86, 87, 88, 89, 90, 91, 92, 93, 94, 95, 96, 97, 98, 99, 100, 101, 102, 103, 104, 105, 106, 107, 108, 109, 110, 111, 112, 113, 114, 115, 116, 117, 118, 119, 120, 121, 122, 123, 124, 125, 126, 127, 128, 129, 130, 131, 132, 133, 134, 135, 136, 137, 138, 139, 140, 141, 142, 143, 144, 145, 160, 161, 162, 163, 164, 165, 166, 167, 168, 169, 170, 171, 172, 173, 174, 175, 176, 177, 178, 179, 180, 181, 182, 183, 184, 185, 186, 187, 188, 189, 190, 191, 192] (by decide +kernel) (by decide +kernel)
set_option maxRecDepth 20000 in
theorem gX7_read_X6_unpack : GoodIn wsX7_read (wsV RX7 147 RX6 yX6_unpack wsX6_unpack) := goodIn_app (goodIn_of _ (by decide +kernel)) ggX7_read_X6_unpack
set_option maxRecDepth 20000 in
theorem ggX7_read_X2_becomeLike : GoodIn wsX7_read wsX2_becomeLike := goodIn_r _ [149, 43, 150, 79, 80, 41, 81, 82, 151, 121, 122, 123, 189, 190] (by decide +kernel) (by decide +kernel)
set_option maxRecDepth 20000 in
theorem gX7_read_X2_becomeLike : GoodIn wsX7_read (wsV RX7 156 RX2 yX2_becomeLike wsX2_becomeLike) := goodIn_app (goodIn_of _ (by decide +kernel)) ggX7_read_X2_becomeLike
set_option maxRecDepth 20000 in
theorem ggX7_read_X2_size : GoodIn wsX7_read wsX2_size := goodIn_r _ [65, 43, 189, 190] (by decide +kernel) (by decide +kernel)
set_option maxRecDepth 20000 in
theorem gX7_read_X2_size : GoodIn wsX7_read (wsV RX7 62 RX2 yX2_size wsX2_size) := goodIn_app (goodIn_of _ (by decide +kernel)) ggX7_read_X2_size
theorem dX7_read_0 : decode cX7_read 0 = .ok (.aload_n 0, 1) := by decide +kernel
theorem dX7_read_1 : decode cX7_read 1 = .ok (.getfield 46, 3) := by decide +kernel
theorem dX7_read_4 : decode cX7_read 4 = .ok (.invokevirtual 147, 3) := by decide +kernel
theorem dX7_read_7 : decode cX7_read 7 = .ok (.istore_n 1, 1) := by decide +kernel
theorem dX7_read_8 : decode cX7_read 8 = .ok (.iload_n 1, 1) := by decide +kernel
theorem dX7_read_9 : decode cX7_read 9 = .ok (.ifCond .eq 19, 3) := by decide +kernel
theorem dX7_read_12 : decode cX7_read 12 = .ok (.aload_n 0, 1) := by decide +kernel
theorem dX7_read_13 : decode cX7_read 13 = .ok (.aload_n 0, 1) := by decide +kernel
theorem dX7_read_14 : decode cX7_read 14 = .ok (.getfield 46, 3) := by decide +kernel
theorem dX7_read_17 : decode cX7_read 17 = .ok (.getfield 150, 3) := by decide +kernel
theorem dX7_read_20 : decode cX7_read 20 = .ok (.putfield 54, 3) := by decide +kernel
theorem dX7_read_23 : decode cX7_read 23 = .ok (.bipush (-10), 2) := by decide +kernel
theorem dX7_read_25 : decode cX7_read 25 = .ok (.iload_n 1, 1) := by decide +kernel
theorem dX7_read_26 : decode cX7_read 26 = .ok (.isub, 1) := by decide +kernel
theorem dX7_read_27 : decode cX7_read 27 = .ok (.ireturn, 1) := by decide +kernel
theorem dX7_read_28 : decode cX7_read 28 = .ok (.aload_n 0, 1) := by decide +kernel
theorem dX7_read_29 : decode cX7_read 29 = .ok (.iconst (-1), 1) := by decide +kernel
theorem dX7_read_30 : decode cX7_read 30 = .ok (.putfield 54, 3) := by decide +kernel
theorem dX7_read_33 : decode cX7_read 33 = .ok (.aload_n 0, 1) := by decide +kernel
theorem dX7_read_34 : decode cX7_read 34 = .ok (.getfield 26, 3) := by decide +kernel
theorem dX7_read_37 : decode cX7_read 37 = .ok (.aload_n 0, 1) := by decide +kernel
theorem dX7_read_38 : decode cX7_read 38 = .ok (.getfield 46, 3) := by decide +kernel
theorem dX7_read_41 : decode cX7_read 41 = .ok (.getfield 153, 3) := by decide +kernel
theorem dX7_read_44 : decode cX7_read 44 = .ok (.invokevirtual 156, 3) := by decide +kernel
theorem dX7_read_47 : decode cX7_read 47 = .ok (.aload_n 0, 1) := by decide +kernel
theorem dX7_read_48 : decode cX7_read 48 = .ok (.iconst 0, 1) := by decide +kernel
theorem dX7_read_49 : decode cX7_read 49 = .ok (.putfield 50, 3) := by decide +kernel
theorem dX7_read_52 : decode cX7_read 52 = .ok (.aload_n 0, 1) := by decide +kernel
theorem dX7_read_53 : decode cX7_read 53 = .ok (.getfield 26, 3) := by decide +kernel
theorem dX7_read_56 : decode cX7_read 56 = .ok (.invokevirtual 62, 3) := by decide +kernel
theorem dX7_read_59 : decode cX7_read 59 = .ok (.ireturn, 1) := by decide +kernel
theorem dX7_fault_0 : decode cX7_fault 0 = .ok (.aload_n 0, 1) := by decide +kernel
theorem dX7_fault_1 : decode cX7_fault 1 = .ok (.getfield 54, 3) := by decide +kernel
theorem dX7_fault_4 : decode cX7_fault 4 = .ok (.ireturn, 1) := by decide +kernel
set_option maxRecDepth 20000 in
theorem ggX7_packedData_X1_pack : GoodIn wsX7_packedData wsX1_pack := goodIn_r _ [8, 9, 10, 11, 12, 13, 14, 7, 15, 16, 17, 18, 19, 20, 21, 22, 23, 24, 25, 26, 27, 28, 29, 30, 31, 32, 33, 34, 35, 36, 37, 38, 39, 40, 41, 42, 43, 44, 45, 46, 47, 48, 49, 50, 51, 52, 53, 54, 55, 56, 57, 58, 59, 60, 61, 62, 63, 64, 65, 66, 67, 68, 69, 70, 71, 72, 73, 74, 75, 76, 77, 78, 79, 80, 81, 82, 83, 84, 85, 86, 87, 88, 89, 90, 91, 92, 93, 94, 95, 96, 97, 98, 99, 100, 101, 102, 103, 104, 105, 106, 107, 108, 109, 110, 111, 112, 113, 114, 115, 116, 117, 118, 119, 120, 121, 122, 123, 124, 125, 126, 127, 128, 129, 130, 131, 132, 133, 134, 135, 136, 137, 145, 146, 147, 148, 149, 150, 151, 152, 153, 154, 155, 156, 157, 158, 159, 160, 161, 162, 163, 164, 165, 166, 167, 168, 169, 170, 171, 172, 173, 174, 175, 176, 177, 178, 179, 180, 181] (by decide +kernel) (by decide +kernel)
set_option maxRecDepth 20000 in
theorem gX7_packedData_X1_pack : GoodIn wsX7_packedData (wsV RX7 160 RX1 yX1_pack wsX1_pack) := goodIn_app (goodIn_of _ (by decide +kernel)) ggX7_packedData_X1_pack
theorem dX7_packedData_0 : decode cX7_packedData 0 = .ok (.aload_n 0, 1) := by decide +kernel
theorem dX7_packedData_1 : decode cX7_packedData 1 = .ok (.getfield 50, 3) := by decide +kernel
theorem dX7_packedData_4 : decode cX7_packedData 4 = .ok (.ifCond .ne 19, 3) := by decide +kernel
theorem dX7_packedData_7 : decode cX7_packedData 7 = .ok (.aload_n 0, 1) := by decide +kernel
theorem dX7_packedData_8 : decode cX7_packedData 8 = .ok (.getfield 37, 3) := by decide +kernel
theorem dX7_packedData_11 : decode cX7_packedData 11 = .ok (.aload_n 0, 1) := by decide +kernel
theorem dX7_packedData_12 : decode cX7_packedData 12 = .ok (.getfield 26, 3) := by decide +kernel
theorem dX7_packedData_15 : decode cX7_packedData 15 = .ok (.invokevirtual 160, 3) := by decide +kernel
theorem dX7_packedData_18 : decode cX7_packedData 18 = .ok (.aload_n 0, 1) := by decide +kernel
theorem dX7_packedData_19 : decode cX7_packedData 19 = .ok (.iconst 1, 1) := by decide +kernel
theorem dX7_packedData_20 : decode cX7_packedData 20 = .ok (.putfield 50, 3) := by decide +kernel
theorem dX7_packedData_23 : decode cX7_packedData 23 = .ok (.aload_n 0, 1) := by decide +kernel
theorem dX7_packedData_24 : decode cX7_packedData 24 = .ok (.getfield 37, 3) := by decide +kernel
theorem dX7_packedData_27 : decode cX7_packedData 27 = .ok (.areturn, 1) := by decide +kernel
