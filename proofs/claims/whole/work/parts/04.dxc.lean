set_option maxRecDepth 20000 in
theorem ggX8_init_X8_layCodes : GoodIn wsX8_init wsX8_layCodes := goodIn_r _ [23, 24, 25, 26, 27, 28, 29, 30, 31, 32, 33, 34, 35, 36, 37, 38, 39, 40, 41, 42, 43, 44, 45, 46, 47, 48, 49, 50, 51, 52] (by decide +kernel) (by decide +kernel)
set_option maxRecDepth 20000 in
theorem gX8_init_X8_layCodes : GoodIn wsX8_init (wsV RX8 51 RX8 yX8_layCodes wsX8_layCodes) := goodIn_app (goodIn_of _ (by decide +kernel)) ggX8_init_X8_layCodes
theorem dX8_init_0 : decode cX8_init 0 = .ok (.aload_n 0, 1) := by decide +kernel
theorem dX8_init_1 : decode cX8_init 1 = .ok (.invokespecial 1, 3) := by decide +kernel
theorem dX8_init_4 : decode cX8_init 4 = .ok (.aload_n 0, 1) := by decide +kernel
theorem dX8_init_5 : decode cX8_init 5 = .ok (.bipush 8, 2) := by decide +kernel
theorem dX8_init_7 : decode cX8_init 7 = .ok (.putfield 7, 3) := by decide +kernel
theorem dX8_init_10 : decode cX8_init 10 = .ok (.aload_n 0, 1) := by decide +kernel
theorem dX8_init_11 : decode cX8_init 11 = .ok (.bipush 12, 2) := by decide +kernel
theorem dX8_init_13 : decode cX8_init 13 = .ok (.putfield 13, 3) := by decide +kernel
theorem dX8_init_16 : decode cX8_init 16 = .ok (.aload_n 0, 1) := by decide +kernel
theorem dX8_init_17 : decode cX8_init 17 = .ok (.iconst 1, 1) := by decide +kernel
theorem dX8_init_18 : decode cX8_init 18 = .ok (.putfield 16, 3) := by decide +kernel
theorem dX8_init_21 : decode cX8_init 21 = .ok (.aload_n 0, 1) := by decide +kernel
theorem dX8_init_22 : decode cX8_init 22 = .ok (.sipush 300, 3) := by decide +kernel
theorem dX8_init_25 : decode cX8_init 25 = .ok (.newarray .int, 2) := by decide +kernel
theorem dX8_init_27 : decode cX8_init 27 = .ok (.putfield 19, 3) := by decide +kernel
theorem dX8_init_30 : decode cX8_init 30 = .ok (.aload_n 0, 1) := by decide +kernel
theorem dX8_init_31 : decode cX8_init 31 = .ok (.sipush 3200, 3) := by decide +kernel
theorem dX8_init_34 : decode cX8_init 34 = .ok (.newarray .boolean, 2) := by decide +kernel
theorem dX8_init_36 : decode cX8_init 36 = .ok (.putfield 23, 3) := by decide +kernel
theorem dX8_init_39 : decode cX8_init 39 = .ok (.aload_n 0, 1) := by decide +kernel
theorem dX8_init_40 : decode cX8_init 40 = .ok (.iconst (-1), 1) := by decide +kernel
theorem dX8_init_41 : decode cX8_init 41 = .ok (.putfield 27, 3) := by decide +kernel
theorem dX8_init_44 : decode cX8_init 44 = .ok (.aload_n 0, 1) := by decide +kernel
theorem dX8_init_45 : decode cX8_init 45 = .ok (.sipush 700, 3) := by decide +kernel
theorem dX8_init_48 : decode cX8_init 48 = .ok (.newarray .int, 2) := by decide +kernel
theorem dX8_init_50 : decode cX8_init 50 = .ok (.putfield 30, 3) := by decide +kernel
theorem dX8_init_53 : decode cX8_init 53 = .ok (.aload_n 0, 1) := by decide +kernel
theorem dX8_init_54 : decode cX8_init 54 = .ok (.sipush 700, 3) := by decide +kernel
theorem dX8_init_57 : decode cX8_init 57 = .ok (.newarray .int, 2) := by decide +kernel
theorem dX8_init_59 : decode cX8_init 59 = .ok (.putfield 33, 3) := by decide +kernel
theorem dX8_init_62 : decode cX8_init 62 = .ok (.aload_n 0, 1) := by decide +kernel
theorem dX8_init_63 : decode cX8_init 63 = .ok (.sipush 700, 3) := by decide +kernel
theorem dX8_init_66 : decode cX8_init 66 = .ok (.newarray .int, 2) := by decide +kernel
theorem dX8_init_68 : decode cX8_init 68 = .ok (.putfield 36, 3) := by decide +kernel
theorem dX8_init_71 : decode cX8_init 71 = .ok (.aload_n 0, 1) := by decide +kernel
theorem dX8_init_72 : decode cX8_init 72 = .ok (.sipush 300, 3) := by decide +kernel
theorem dX8_init_75 : decode cX8_init 75 = .ok (.newarray .int, 2) := by decide +kernel
theorem dX8_init_77 : decode cX8_init 77 = .ok (.putfield 39, 3) := by decide +kernel
theorem dX8_init_80 : decode cX8_init 80 = .ok (.aload_n 0, 1) := by decide +kernel
theorem dX8_init_81 : decode cX8_init 81 = .ok (.sipush 300, 3) := by decide +kernel
theorem dX8_init_84 : decode cX8_init 84 = .ok (.newarray .int, 2) := by decide +kernel
theorem dX8_init_86 : decode cX8_init 86 = .ok (.putfield 42, 3) := by decide +kernel
theorem dX8_init_89 : decode cX8_init 89 = .ok (.aload_n 0, 1) := by decide +kernel
theorem dX8_init_90 : decode cX8_init 90 = .ok (.sipush 300, 3) := by decide +kernel
theorem dX8_init_93 : decode cX8_init 93 = .ok (.newarray .int, 2) := by decide +kernel
theorem dX8_init_95 : decode cX8_init 95 = .ok (.putfield 45, 3) := by decide +kernel
theorem dX8_init_98 : decode cX8_init 98 = .ok (.aload_n 0, 1) := by decide +kernel
theorem dX8_init_99 : decode cX8_init 99 = .ok (.sipush 300, 3) := by decide +kernel
theorem dX8_init_102 : decode cX8_init 102 = .ok (.newarray .int, 2) := by decide +kernel
theorem dX8_init_104 : decode cX8_init 104 = .ok (.putfield 48, 3) := by decide +kernel
theorem dX8_init_107 : decode cX8_init 107 = .ok (.aload_n 0, 1) := by decide +kernel
theorem dX8_init_108 : decode cX8_init 108 = .ok (.invokevirtual 51, 3) := by decide +kernel
theorem dX8_init_111 : decode cX8_init 111 = .ok (.return_, 1) := by decide +kernel
theorem dX8_in_0 : decode cX8_in 0 = .ok (.iload_n 0, 1) := by decide +kernel
theorem dX8_in_1 : decode cX8_in 1 = .ok (.iload_n 1, 1) := by decide +kernel
theorem dX8_in_2 : decode cX8_in 2 = .ok (.if_icmp .lt 12, 3) := by decide +kernel
theorem dX8_in_5 : decode cX8_in 5 = .ok (.iload_n 0, 1) := by decide +kernel
theorem dX8_in_6 : decode cX8_in 6 = .ok (.iload_n 2, 1) := by decide +kernel
theorem dX8_in_7 : decode cX8_in 7 = .ok (.if_icmp .gt 7, 3) := by decide +kernel
theorem dX8_in_10 : decode cX8_in 10 = .ok (.iconst 1, 1) := by decide +kernel
theorem dX8_in_11 : decode cX8_in 11 = .ok (.goto 4, 3) := by decide +kernel
theorem dX8_in_14 : decode cX8_in 14 = .ok (.iconst 0, 1) := by decide +kernel
theorem dX8_in_15 : decode cX8_in 15 = .ok (.ireturn, 1) := by decide +kernel
theorem dX8_firstNumber_0 : decode cX8_firstNumber 0 = .ok (.iconst 1, 1) := by decide +kernel
theorem dX8_firstNumber_1 : decode cX8_firstNumber 1 = .ok (.aload_n 0, 1) := by decide +kernel
theorem dX8_firstNumber_2 : decode cX8_firstNumber 2 = .ok (.getfield 7, 3) := by decide +kernel
theorem dX8_firstNumber_5 : decode cX8_firstNumber 5 = .ok (.ishl, 1) := by decide +kernel
theorem dX8_firstNumber_6 : decode cX8_firstNumber 6 = .ok (.aload_n 0, 1) := by decide +kernel
theorem dX8_firstNumber_7 : decode cX8_firstNumber 7 = .ok (.getfield 54, 3) := by decide +kernel
theorem dX8_firstNumber_10 : decode cX8_firstNumber 10 = .ok (.iconst 2, 1) := by decide +kernel
theorem dX8_firstNumber_11 : decode cX8_firstNumber 11 = .ok (.if_icmp .ne 7, 3) := by decide +kernel
theorem dX8_firstNumber_14 : decode cX8_firstNumber 14 = .ok (.iconst 1, 1) := by decide +kernel
theorem dX8_firstNumber_15 : decode cX8_firstNumber 15 = .ok (.goto 4, 3) := by decide +kernel
theorem dX8_firstNumber_18 : decode cX8_firstNumber 18 = .ok (.iconst 2, 1) := by decide +kernel
theorem dX8_firstNumber_19 : decode cX8_firstNumber 19 = .ok (.iadd, 1) := by decide +kernel
theorem dX8_firstNumber_20 : decode cX8_firstNumber 20 = .ok (.ireturn, 1) := by decide +kernel
theorem dX8_lastNumber_0 : decode cX8_lastNumber 0 = .ok (.iconst 1, 1) := by decide +kernel
theorem dX8_lastNumber_1 : decode cX8_lastNumber 1 = .ok (.aload_n 0, 1) := by decide +kernel
theorem dX8_lastNumber_2 : decode cX8_lastNumber 2 = .ok (.getfield 13, 3) := by decide +kernel
theorem dX8_lastNumber_5 : decode cX8_lastNumber 5 = .ok (.ishl, 1) := by decide +kernel
theorem dX8_lastNumber_6 : decode cX8_lastNumber 6 = .ok (.aload_n 0, 1) := by decide +kernel
theorem dX8_lastNumber_7 : decode cX8_lastNumber 7 = .ok (.getfield 54, 3) := by decide +kernel
theorem dX8_lastNumber_10 : decode cX8_lastNumber 10 = .ok (.iconst 1, 1) := by decide +kernel
theorem dX8_lastNumber_11 : decode cX8_lastNumber 11 = .ok (.if_icmp .ne 7, 3) := by decide +kernel
theorem dX8_lastNumber_14 : decode cX8_lastNumber 14 = .ok (.iconst 1, 1) := by decide +kernel
theorem dX8_lastNumber_15 : decode cX8_lastNumber 15 = .ok (.goto 4, 3) := by decide +kernel
theorem dX8_lastNumber_18 : decode cX8_lastNumber 18 = .ok (.iconst 0, 1) := by decide +kernel
theorem dX8_lastNumber_19 : decode cX8_lastNumber 19 = .ok (.isub, 1) := by decide +kernel
theorem dX8_lastNumber_20 : decode cX8_lastNumber 20 = .ok (.ireturn, 1) := by decide +kernel
set_option maxRecDepth 20000 in
theorem ggX8_setting_X8_in : GoodIn wsX8_setting wsX8_in := goodIn_r _ [9] (by decide +kernel) (by decide +kernel)
set_option maxRecDepth 20000 in
theorem gX8_setting_X8_in : GoodIn wsX8_setting (va_wsS RX8 57 yX8_in wsX8_in) := goodIn_app (goodIn_of _ (by decide +kernel)) ggX8_setting_X8_in
set_option maxRecDepth 20000 in
theorem ggX8_setting_X8_layCodes : GoodIn wsX8_setting wsX8_layCodes := goodIn_r _ [13, 14, 15, 16, 17, 18, 19, 20, 21, 22, 23, 24, 25, 26, 27, 28, 29, 30, 31, 32, 33, 34, 35, 36, 37, 38, 39, 40, 41, 42] (by decide +kernel) (by decide +kernel)
set_option maxRecDepth 20000 in
theorem gX8_setting_X8_layCodes : GoodIn wsX8_setting (wsV RX8 51 RX8 yX8_layCodes wsX8_layCodes) := goodIn_app (goodIn_of _ (by decide +kernel)) ggX8_setting_X8_layCodes
theorem dX8_setting_0 : decode cX8_setting 0 = .ok (.iload_n 1, 1) := by decide +kernel
theorem dX8_setting_1 : decode cX8_setting 1 = .ok (.iconst 0, 1) := by decide +kernel
theorem dX8_setting_2 : decode cX8_setting 2 = .ok (.iconst 2, 1) := by decide +kernel
theorem dX8_setting_3 : decode cX8_setting 3 = .ok (.invokestatic 57, 3) := by decide +kernel
theorem dX8_setting_6 : decode cX8_setting 6 = .ok (.ifCond .eq 53, 3) := by decide +kernel
theorem dX8_setting_9 : decode cX8_setting 9 = .ok (.iload_n 1, 1) := by decide +kernel
theorem dX8_setting_10 : decode cX8_setting 10 = .ok (.ifCond .ne 16, 3) := by decide +kernel
theorem dX8_setting_13 : decode cX8_setting 13 = .ok (.iload_n 2, 1) := by decide +kernel
theorem dX8_setting_14 : decode cX8_setting 14 = .ok (.iconst 2, 1) := by decide +kernel
theorem dX8_setting_15 : decode cX8_setting 15 = .ok (.bipush 8, 2) := by decide +kernel
theorem dX8_setting_17 : decode cX8_setting 17 = .ok (.invokestatic 57, 3) := by decide +kernel
theorem dX8_setting_20 : decode cX8_setting 20 = .ok (.ifCond .eq 39, 3) := by decide +kernel
theorem dX8_setting_23 : decode cX8_setting 23 = .ok (.goto 9, 3) := by decide +kernel
theorem dX8_setting_26 : decode cX8_setting 26 = .ok (.iload_n 2, 1) := by decide +kernel
theorem dX8_setting_27 : decode cX8_setting 27 = .ok (.bipush 8, 2) := by decide +kernel
theorem dX8_setting_29 : decode cX8_setting 29 = .ok (.if_icmp .ne 30, 3) := by decide +kernel
theorem dX8_setting_32 : decode cX8_setting 32 = .ok (.iload_n 3, 1) := by decide +kernel
theorem dX8_setting_33 : decode cX8_setting 33 = .ok (.iload_n 2, 1) := by decide +kernel
theorem dX8_setting_34 : decode cX8_setting 34 = .ok (.iconst 2, 1) := by decide +kernel
theorem dX8_setting_35 : decode cX8_setting 35 = .ok (.iadd, 1) := by decide +kernel
theorem dX8_setting_36 : decode cX8_setting 36 = .ok (.bipush 12, 2) := by decide +kernel
theorem dX8_setting_38 : decode cX8_setting 38 = .ok (.invokestatic 57, 3) := by decide +kernel
theorem dX8_setting_41 : decode cX8_setting 41 = .ok (.ifCond .eq 18, 3) := by decide +kernel
theorem dX8_setting_44 : decode cX8_setting 44 = .ok (.iload 4, 2) := by decide +kernel
theorem dX8_setting_46 : decode cX8_setting 46 = .ok (.iconst 0, 1) := by decide +kernel
theorem dX8_setting_47 : decode cX8_setting 47 = .ok (.bipush 100, 2) := by decide +kernel
theorem dX8_setting_49 : decode cX8_setting 49 = .ok (.invokestatic 57, 3) := by decide +kernel
theorem dX8_setting_52 : decode cX8_setting 52 = .ok (.ifCond .eq 7, 3) := by decide +kernel
theorem dX8_setting_55 : decode cX8_setting 55 = .ok (.iconst 1, 1) := by decide +kernel
theorem dX8_setting_56 : decode cX8_setting 56 = .ok (.goto 4, 3) := by decide +kernel
theorem dX8_setting_59 : decode cX8_setting 59 = .ok (.iconst 0, 1) := by decide +kernel
theorem dX8_setting_60 : decode cX8_setting 60 = .ok (.istore 5, 2) := by decide +kernel
theorem dX8_setting_62 : decode cX8_setting 62 = .ok (.iload 5, 2) := by decide +kernel
theorem dX8_setting_64 : decode cX8_setting 64 = .ok (.ifCond .ne 6, 3) := by decide +kernel
theorem dX8_setting_67 : decode cX8_setting 67 = .ok (.bipush (-2), 2) := by decide +kernel
theorem dX8_setting_69 : decode cX8_setting 69 = .ok (.ireturn, 1) := by decide +kernel
theorem dX8_setting_70 : decode cX8_setting 70 = .ok (.aload_n 0, 1) := by decide +kernel
theorem dX8_setting_71 : decode cX8_setting 71 = .ok (.getfield 61, 3) := by decide +kernel
theorem dX8_setting_74 : decode cX8_setting 74 = .ok (.ifCond .le 6, 3) := by decide +kernel
theorem dX8_setting_77 : decode cX8_setting 77 = .ok (.bipush (-3), 2) := by decide +kernel
theorem dX8_setting_79 : decode cX8_setting 79 = .ok (.ireturn, 1) := by decide +kernel
theorem dX8_setting_80 : decode cX8_setting 80 = .ok (.aload_n 0, 1) := by decide +kernel
theorem dX8_setting_81 : decode cX8_setting 81 = .ok (.iload_n 1, 1) := by decide +kernel
theorem dX8_setting_82 : decode cX8_setting 82 = .ok (.putfield 54, 3) := by decide +kernel
theorem dX8_setting_85 : decode cX8_setting 85 = .ok (.aload_n 0, 1) := by decide +kernel
theorem dX8_setting_86 : decode cX8_setting 86 = .ok (.iload_n 2, 1) := by decide +kernel
theorem dX8_setting_87 : decode cX8_setting 87 = .ok (.putfield 7, 3) := by decide +kernel
theorem dX8_setting_90 : decode cX8_setting 90 = .ok (.aload_n 0, 1) := by decide +kernel
theorem dX8_setting_91 : decode cX8_setting 91 = .ok (.iload_n 3, 1) := by decide +kernel
theorem dX8_setting_92 : decode cX8_setting 92 = .ok (.putfield 13, 3) := by decide +kernel
theorem dX8_setting_95 : decode cX8_setting 95 = .ok (.aload_n 0, 1) := by decide +kernel
theorem dX8_setting_96 : decode cX8_setting 96 = .ok (.iload 4, 2) := by decide +kernel
theorem dX8_setting_98 : decode cX8_setting 98 = .ok (.putfield 16, 3) := by decide +kernel
theorem dX8_setting_101 : decode cX8_setting 101 = .ok (.aload_n 0, 1) := by decide +kernel
theorem dX8_setting_102 : decode cX8_setting 102 = .ok (.invokevirtual 51, 3) := by decide +kernel
theorem dX8_setting_105 : decode cX8_setting 105 = .ok (.iconst 1, 1) := by decide +kernel
theorem dX8_setting_106 : decode cX8_setting 106 = .ok (.ireturn, 1) := by decide +kernel
set_option maxRecDepth 20000 in
theorem ggX8_symbol_X8_in : GoodIn wsX8_symbol wsX8_in := goodIn_r _ [7] (by decide +kernel) (by decide +kernel)
set_option maxRecDepth 20000 in
theorem gX8_symbol_X8_in : GoodIn wsX8_symbol (va_wsS RX8 57 yX8_in wsX8_in) := goodIn_app (goodIn_of _ (by decide +kernel)) ggX8_symbol_X8_in
set_option maxRecDepth 20000 in
theorem ggX8_symbol_X8_layCodes : GoodIn wsX8_symbol wsX8_layCodes := goodIn_r _ [11, 12, 13, 14, 15, 16, 17, 18, 19, 20, 21, 22, 23, 24, 25, 26, 27, 28, 29, 30, 31, 32, 33, 34, 35, 36, 37, 38, 39, 40] (by decide +kernel) (by decide +kernel)
set_option maxRecDepth 20000 in
theorem gX8_symbol_X8_layCodes : GoodIn wsX8_symbol (wsV RX8 51 RX8 yX8_layCodes wsX8_layCodes) := goodIn_app (goodIn_of _ (by decide +kernel)) ggX8_symbol_X8_layCodes
theorem dX8_symbol_0 : decode cX8_symbol 0 = .ok (.iload_n 1, 1) := by decide +kernel
theorem dX8_symbol_1 : decode cX8_symbol 1 = .ok (.iconst 0, 1) := by decide +kernel
theorem dX8_symbol_2 : decode cX8_symbol 2 = .ok (.iconst 1, 1) := by decide +kernel
theorem dX8_symbol_3 : decode cX8_symbol 3 = .ok (.aload_n 0, 1) := by decide +kernel
theorem dX8_symbol_4 : decode cX8_symbol 4 = .ok (.getfield 7, 3) := by decide +kernel
theorem dX8_symbol_7 : decode cX8_symbol 7 = .ok (.ishl, 1) := by decide +kernel
theorem dX8_symbol_8 : decode cX8_symbol 8 = .ok (.iconst 1, 1) := by decide +kernel
theorem dX8_symbol_9 : decode cX8_symbol 9 = .ok (.isub, 1) := by decide +kernel
theorem dX8_symbol_10 : decode cX8_symbol 10 = .ok (.invokestatic 57, 3) := by decide +kernel
theorem dX8_symbol_13 : decode cX8_symbol 13 = .ok (.ifCond .ne 6, 3) := by decide +kernel
theorem dX8_symbol_16 : decode cX8_symbol 16 = .ok (.bipush (-2), 2) := by decide +kernel
theorem dX8_symbol_18 : decode cX8_symbol 18 = .ok (.ireturn, 1) := by decide +kernel
theorem dX8_symbol_19 : decode cX8_symbol 19 = .ok (.aload_n 0, 1) := by decide +kernel
theorem dX8_symbol_20 : decode cX8_symbol 20 = .ok (.getfield 61, 3) := by decide +kernel
theorem dX8_symbol_23 : decode cX8_symbol 23 = .ok (.sipush 300, 3) := by decide +kernel
theorem dX8_symbol_26 : decode cX8_symbol 26 = .ok (.if_icmp .ne 6, 3) := by decide +kernel
theorem dX8_symbol_29 : decode cX8_symbol 29 = .ok (.bipush (-4), 2) := by decide +kernel
theorem dX8_symbol_31 : decode cX8_symbol 31 = .ok (.ireturn, 1) := by decide +kernel
theorem dX8_symbol_32 : decode cX8_symbol 32 = .ok (.aload_n 0, 1) := by decide +kernel
theorem dX8_symbol_33 : decode cX8_symbol 33 = .ok (.getfield 19, 3) := by decide +kernel
theorem dX8_symbol_36 : decode cX8_symbol 36 = .ok (.aload_n 0, 1) := by decide +kernel
theorem dX8_symbol_37 : decode cX8_symbol 37 = .ok (.getfield 61, 3) := by decide +kernel
theorem dX8_symbol_40 : decode cX8_symbol 40 = .ok (.iload_n 1, 1) := by decide +kernel
theorem dX8_symbol_41 : decode cX8_symbol 41 = .ok (.iastore, 1) := by decide +kernel
theorem dX8_symbol_42 : decode cX8_symbol 42 = .ok (.aload_n 0, 1) := by decide +kernel
theorem dX8_symbol_43 : decode cX8_symbol 43 = .ok (.dup, 1) := by decide +kernel
theorem dX8_symbol_44 : decode cX8_symbol 44 = .ok (.getfield 61, 3) := by decide +kernel
theorem dX8_symbol_47 : decode cX8_symbol 47 = .ok (.iconst 1, 1) := by decide +kernel
theorem dX8_symbol_48 : decode cX8_symbol 48 = .ok (.iadd, 1) := by decide +kernel
theorem dX8_symbol_49 : decode cX8_symbol 49 = .ok (.putfield 61, 3) := by decide +kernel
theorem dX8_symbol_52 : decode cX8_symbol 52 = .ok (.aload_n 0, 1) := by decide +kernel
theorem dX8_symbol_53 : decode cX8_symbol 53 = .ok (.invokevirtual 51, 3) := by decide +kernel
theorem dX8_symbol_56 : decode cX8_symbol 56 = .ok (.aload_n 0, 1) := by decide +kernel
theorem dX8_symbol_57 : decode cX8_symbol 57 = .ok (.getfield 61, 3) := by decide +kernel
theorem dX8_symbol_60 : decode cX8_symbol 60 = .ok (.ireturn, 1) := by decide +kernel
set_option maxRecDepth 20000 in
theorem ggX8_empty_X8_layCodes : GoodIn wsX8_empty wsX8_layCodes := goodIn_r _ [6, 7, 8, 9, 10, 11, 12, 13, 14, 15, 16, 17, 18, 19, 20, 21, 22, 23, 24, 25, 26, 27, 28, 29, 30, 31, 32, 33, 34, 35] (by decide +kernel) (by decide +kernel)
set_option maxRecDepth 20000 in
theorem gX8_empty_X8_layCodes : GoodIn wsX8_empty (wsV RX8 51 RX8 yX8_layCodes wsX8_layCodes) := goodIn_app (goodIn_of _ (by decide +kernel)) ggX8_empty_X8_layCodes
theorem dX8_empty_0 : decode cX8_empty 0 = .ok (.aload_n 0, 1) := by decide +kernel
theorem dX8_empty_1 : decode cX8_empty 1 = .ok (.getfield 61, 3) := by decide +kernel
theorem dX8_empty_4 : decode cX8_empty 4 = .ok (.istore_n 1, 1) := by decide +kernel
theorem dX8_empty_5 : decode cX8_empty 5 = .ok (.aload_n 0, 1) := by decide +kernel
theorem dX8_empty_6 : decode cX8_empty 6 = .ok (.iconst 0, 1) := by decide +kernel
theorem dX8_empty_7 : decode cX8_empty 7 = .ok (.putfield 61, 3) := by decide +kernel
theorem dX8_empty_10 : decode cX8_empty 10 = .ok (.aload_n 0, 1) := by decide +kernel
theorem dX8_empty_11 : decode cX8_empty 11 = .ok (.invokevirtual 51, 3) := by decide +kernel
theorem dX8_empty_14 : decode cX8_empty 14 = .ok (.iload_n 1, 1) := by decide +kernel
theorem dX8_empty_15 : decode cX8_empty 15 = .ok (.ireturn, 1) := by decide +kernel
set_option maxRecDepth 20000 in
theorem ggX8_at_X8_in : GoodIn wsX8_at wsX8_in := goodIn_r _ [6] (by decide +kernel) (by decide +kernel)
set_option maxRecDepth 20000 in
theorem gX8_at_X8_in : GoodIn wsX8_at (va_wsS RX8 57 yX8_in wsX8_in) := goodIn_app (goodIn_of _ (by decide +kernel)) ggX8_at_X8_in
theorem dX8_at_0 : decode cX8_at 0 = .ok (.iload_n 1, 1) := by decide +kernel
theorem dX8_at_1 : decode cX8_at 1 = .ok (.iconst 0, 1) := by decide +kernel
theorem dX8_at_2 : decode cX8_at 2 = .ok (.aload_n 0, 1) := by decide +kernel
theorem dX8_at_3 : decode cX8_at 3 = .ok (.getfield 61, 3) := by decide +kernel
theorem dX8_at_6 : decode cX8_at 6 = .ok (.iconst 1, 1) := by decide +kernel
theorem dX8_at_7 : decode cX8_at 7 = .ok (.isub, 1) := by decide +kernel
theorem dX8_at_8 : decode cX8_at 8 = .ok (.invokestatic 57, 3) := by decide +kernel
theorem dX8_at_11 : decode cX8_at 11 = .ok (.ifCond .eq 12, 3) := by decide +kernel
theorem dX8_at_14 : decode cX8_at 14 = .ok (.aload_n 0, 1) := by decide +kernel
theorem dX8_at_15 : decode cX8_at 15 = .ok (.getfield 19, 3) := by decide +kernel
theorem dX8_at_18 : decode cX8_at 18 = .ok (.iload_n 1, 1) := by decide +kernel
theorem dX8_at_19 : decode cX8_at 19 = .ok (.iaload, 1) := by decide +kernel
theorem dX8_at_20 : decode cX8_at 20 = .ok (.goto 4, 3) := by decide +kernel
theorem dX8_at_23 : decode cX8_at 23 = .ok (.iconst (-1), 1) := by decide +kernel
theorem dX8_at_24 : decode cX8_at 24 = .ok (.ireturn, 1) := by decide +kernel
set_option maxRecDepth 20000 in
theorem ggX8_countNow_X8_firstNumber : GoodIn wsX8_countNow wsX8_firstNumber := goodIn_r _ [6, 7, 8, 14, 15, 16, 17, 18, 19, 20, 21, 22, 23, 24, 25, 26, 27, 28, 29, 30, 31, 32, 33, 34, 35, 36, 37, 38, 39, 40, 41] (by decide +kernel) (by decide +kernel)
set_option maxRecDepth 20000 in
theorem gX8_countNow_X8_firstNumber : GoodIn wsX8_countNow (wsV RX8 64 RX8 yX8_firstNumber wsX8_firstNumber) := goodIn_app (goodIn_of _ (by decide +kernel)) ggX8_countNow_X8_firstNumber
set_option maxRecDepth 20000 in
theorem ggX8_countNow_X8_lastNumber : GoodIn wsX8_countNow wsX8_lastNumber := goodIn_r _ [12, 13, 8, 14, 15, 16, 17, 18, 19, 20, 21, 22, 23, 24, 25, 26, 27, 28, 29, 30, 31, 32, 33, 34, 35, 36, 37, 38, 39, 40, 41] (by decide +kernel) (by decide +kernel)
set_option maxRecDepth 20000 in
theorem gX8_countNow_X8_lastNumber : GoodIn wsX8_countNow (wsV RX8 71 RX8 yX8_lastNumber wsX8_lastNumber) := goodIn_app (goodIn_of _ (by decide +kernel)) ggX8_countNow_X8_lastNumber
theorem dX8_countNow_0 : decode cX8_countNow 0 = .ok (.aload_n 0, 1) := by decide +kernel
theorem dX8_countNow_1 : decode cX8_countNow 1 = .ok (.invokevirtual 64, 3) := by decide +kernel
theorem dX8_countNow_4 : decode cX8_countNow 4 = .ok (.aload_n 0, 1) := by decide +kernel
theorem dX8_countNow_5 : decode cX8_countNow 5 = .ok (.getfield 68, 3) := by decide +kernel
theorem dX8_countNow_8 : decode cX8_countNow 8 = .ok (.ifCond .le 12, 3) := by decide +kernel
theorem dX8_countNow_11 : decode cX8_countNow 11 = .ok (.aload_n 0, 1) := by decide +kernel
theorem dX8_countNow_12 : decode cX8_countNow 12 = .ok (.getfield 68, 3) := by decide +kernel
theorem dX8_countNow_15 : decode cX8_countNow 15 = .ok (.iconst 1, 1) := by decide +kernel
theorem dX8_countNow_16 : decode cX8_countNow 16 = .ok (.isub, 1) := by decide +kernel
theorem dX8_countNow_17 : decode cX8_countNow 17 = .ok (.goto 4, 3) := by decide +kernel
theorem dX8_countNow_20 : decode cX8_countNow 20 = .ok (.iconst 0, 1) := by decide +kernel
theorem dX8_countNow_21 : decode cX8_countNow 21 = .ok (.iadd, 1) := by decide +kernel
theorem dX8_countNow_22 : decode cX8_countNow 22 = .ok (.istore_n 1, 1) := by decide +kernel
theorem dX8_countNow_23 : decode cX8_countNow 23 = .ok (.iload_n 1, 1) := by decide +kernel
theorem dX8_countNow_24 : decode cX8_countNow 24 = .ok (.aload_n 0, 1) := by decide +kernel
theorem dX8_countNow_25 : decode cX8_countNow 25 = .ok (.invokevirtual 71, 3) := by decide +kernel
theorem dX8_countNow_28 : decode cX8_countNow 28 = .ok (.if_icmp .ge 7, 3) := by decide +kernel
theorem dX8_countNow_31 : decode cX8_countNow 31 = .ok (.iload_n 1, 1) := by decide +kernel
theorem dX8_countNow_32 : decode cX8_countNow 32 = .ok (.goto 7, 3) := by decide +kernel
theorem dX8_countNow_35 : decode cX8_countNow 35 = .ok (.aload_n 0, 1) := by decide +kernel
theorem dX8_countNow_36 : decode cX8_countNow 36 = .ok (.invokevirtual 71, 3) := by decide +kernel
theorem dX8_countNow_39 : decode cX8_countNow 39 = .ok (.ireturn, 1) := by decide +kernel
set_option maxRecDepth 20000 in
theorem ggX8_widthNow_X8_countNow : GoodIn wsX8_widthNow wsX8_countNow := goodIn_r _ [8, 9, 10, 11, 12, 7, 13, 1, 3, 14, 15, 16, 17, 2, 18, 19, 20, 21, 22, 23, 24, 25, 26, 27, 28, 29, 30, 31, 32, 33, 34, 35, 36, 37, 38, 39, 40, 41, 42, 43, 44, 45] (by decide +kernel) (by decide +kernel)
set_option maxRecDepth 20000 in
theorem gX8_widthNow_X8_countNow : GoodIn wsX8_widthNow (wsV RX8 74 RX8 yX8_countNow wsX8_countNow) := goodIn_app (goodIn_of _ (by decide +kernel)) ggX8_widthNow_X8_countNow
theorem dX8_widthNow_0 : decode cX8_widthNow 0 = .ok (.aload_n 0, 1) := by decide +kernel
theorem dX8_widthNow_1 : decode cX8_widthNow 1 = .ok (.getfield 7, 3) := by decide +kernel
theorem dX8_widthNow_4 : decode cX8_widthNow 4 = .ok (.iconst 1, 1) := by decide +kernel
theorem dX8_widthNow_5 : decode cX8_widthNow 5 = .ok (.iadd, 1) := by decide +kernel
theorem dX8_widthNow_6 : decode cX8_widthNow 6 = .ok (.istore_n 1, 1) := by decide +kernel
theorem dX8_widthNow_7 : decode cX8_widthNow 7 = .ok (.aload_n 0, 1) := by decide +kernel
theorem dX8_widthNow_8 : decode cX8_widthNow 8 = .ok (.invokevirtual 74, 3) := by decide +kernel
theorem dX8_widthNow_11 : decode cX8_widthNow 11 = .ok (.istore_n 2, 1) := by decide +kernel
theorem dX8_widthNow_12 : decode cX8_widthNow 12 = .ok (.iload_n 1, 1) := by decide +kernel
theorem dX8_widthNow_13 : decode cX8_widthNow 13 = .ok (.aload_n 0, 1) := by decide +kernel
theorem dX8_widthNow_14 : decode cX8_widthNow 14 = .ok (.getfield 13, 3) := by decide +kernel
theorem dX8_widthNow_17 : decode cX8_widthNow 17 = .ok (.if_icmp .ge 30, 3) := by decide +kernel
theorem dX8_widthNow_20 : decode cX8_widthNow 20 = .ok (.iload_n 2, 1) := by decide +kernel
theorem dX8_widthNow_21 : decode cX8_widthNow 21 = .ok (.iconst 1, 1) := by decide +kernel
theorem dX8_widthNow_22 : decode cX8_widthNow 22 = .ok (.iload_n 1, 1) := by decide +kernel
theorem dX8_widthNow_23 : decode cX8_widthNow 23 = .ok (.ishl, 1) := by decide +kernel
theorem dX8_widthNow_24 : decode cX8_widthNow 24 = .ok (.aload_n 0, 1) := by decide +kernel
theorem dX8_widthNow_25 : decode cX8_widthNow 25 = .ok (.getfield 54, 3) := by decide +kernel
theorem dX8_widthNow_28 : decode cX8_widthNow 28 = .ok (.iconst 1, 1) := by decide +kernel
theorem dX8_widthNow_29 : decode cX8_widthNow 29 = .ok (.if_icmp .ne 7, 3) := by decide +kernel
theorem dX8_widthNow_32 : decode cX8_widthNow 32 = .ok (.iconst 1, 1) := by decide +kernel
theorem dX8_widthNow_33 : decode cX8_widthNow 33 = .ok (.goto 4, 3) := by decide +kernel
theorem dX8_widthNow_36 : decode cX8_widthNow 36 = .ok (.iconst 0, 1) := by decide +kernel
theorem dX8_widthNow_37 : decode cX8_widthNow 37 = .ok (.isub, 1) := by decide +kernel
theorem dX8_widthNow_38 : decode cX8_widthNow 38 = .ok (.if_icmp .lt 9, 3) := by decide +kernel
theorem dX8_widthNow_41 : decode cX8_widthNow 41 = .ok (.iinc 1 1, 3) := by decide +kernel
theorem dX8_widthNow_44 : decode cX8_widthNow 44 = .ok (.goto (-32), 3) := by decide +kernel
theorem dX8_widthNow_47 : decode cX8_widthNow 47 = .ok (.iload_n 1, 1) := by decide +kernel
theorem dX8_widthNow_48 : decode cX8_widthNow 48 = .ok (.ireturn, 1) := by decide +kernel
theorem dX8_layCodes_0 : decode cX8_layCodes 0 = .ok (.aload_n 0, 1) := by decide +kernel
theorem dX8_layCodes_1 : decode cX8_layCodes 1 = .ok (.iconst 0, 1) := by decide +kernel
theorem dX8_layCodes_2 : decode cX8_layCodes 2 = .ok (.putfield 77, 3) := by decide +kernel
theorem dX8_layCodes_5 : decode cX8_layCodes 5 = .ok (.return_, 1) := by decide +kernel
set_option maxRecDepth 20000 in
theorem ggX8_add_X8_widthNow : GoodIn wsX8_add wsX8_widthNow := goodIn_r _ [13, 4, 14, 1, 15, 16, 17, 12, 18, 19, 20, 21, 22, 23, 24, 25, 26, 27, 28, 29, 30, 31, 32, 33, 34, 35, 36, 37, 38, 39, 40, 41, 42, 43, 44, 45, 46, 47, 48, 49, 50, 51, 52, 53, 54, 55] (by decide +kernel) (by decide +kernel)
set_option maxRecDepth 20000 in
theorem gX8_add_X8_widthNow : GoodIn wsX8_add (wsV RX8 81 RX8 yX8_widthNow wsX8_widthNow) := goodIn_app (goodIn_of _ (by decide +kernel)) ggX8_add_X8_widthNow
theorem dX8_add_0 : decode cX8_add 0 = .ok (.aload_n 0, 1) := by decide +kernel
theorem dX8_add_1 : decode cX8_add 1 = .ok (.invokevirtual 81, 3) := by decide +kernel
theorem dX8_add_4 : decode cX8_add 4 = .ok (.istore_n 2, 1) := by decide +kernel
theorem dX8_add_5 : decode cX8_add 5 = .ok (.aload_n 0, 1) := by decide +kernel
theorem dX8_add_6 : decode cX8_add 6 = .ok (.getfield 54, 3) := by decide +kernel
theorem dX8_add_9 : decode cX8_add 9 = .ok (.iconst 2, 1) := by decide +kernel
theorem dX8_add_10 : decode cX8_add 10 = .ok (.if_icmp .ne 49, 3) := by decide +kernel
theorem dX8_add_13 : decode cX8_add 13 = .ok (.aload_n 0, 1) := by decide +kernel
theorem dX8_add_14 : decode cX8_add 14 = .ok (.getfield 84, 3) := by decide +kernel
theorem dX8_add_17 : decode cX8_add 17 = .ok (.ifCond .le 42, 3) := by decide +kernel
theorem dX8_add_20 : decode cX8_add 20 = .ok (.aload_n 0, 1) := by decide +kernel
theorem dX8_add_21 : decode cX8_add 21 = .ok (.getfield 30, 3) := by decide +kernel
theorem dX8_add_24 : decode cX8_add 24 = .ok (.aload_n 0, 1) := by decide +kernel
theorem dX8_add_25 : decode cX8_add 25 = .ok (.getfield 84, 3) := by decide +kernel
theorem dX8_add_28 : decode cX8_add 28 = .ok (.iconst 1, 1) := by decide +kernel
theorem dX8_add_29 : decode cX8_add 29 = .ok (.isub, 1) := by decide +kernel
theorem dX8_add_30 : decode cX8_add 30 = .ok (.iaload, 1) := by decide +kernel
theorem dX8_add_31 : decode cX8_add 31 = .ok (.iconst 1, 1) := by decide +kernel
theorem dX8_add_32 : decode cX8_add 32 = .ok (.aload_n 0, 1) := by decide +kernel
theorem dX8_add_33 : decode cX8_add 33 = .ok (.getfield 7, 3) := by decide +kernel
theorem dX8_add_36 : decode cX8_add 36 = .ok (.ishl, 1) := by decide +kernel
theorem dX8_add_37 : decode cX8_add 37 = .ok (.if_icmp .eq 18, 3) := by decide +kernel
theorem dX8_add_40 : decode cX8_add 40 = .ok (.aload_n 0, 1) := by decide +kernel
theorem dX8_add_41 : decode cX8_add 41 = .ok (.getfield 33, 3) := by decide +kernel
theorem dX8_add_44 : decode cX8_add 44 = .ok (.aload_n 0, 1) := by decide +kernel
theorem dX8_add_45 : decode cX8_add 45 = .ok (.getfield 84, 3) := by decide +kernel
theorem dX8_add_48 : decode cX8_add 48 = .ok (.iconst 1, 1) := by decide +kernel
theorem dX8_add_49 : decode cX8_add 49 = .ok (.isub, 1) := by decide +kernel
theorem dX8_add_50 : decode cX8_add 50 = .ok (.iaload, 1) := by decide +kernel
theorem dX8_add_51 : decode cX8_add 51 = .ok (.iload_n 2, 1) := by decide +kernel
theorem dX8_add_52 : decode cX8_add 52 = .ok (.if_icmp .eq 7, 3) := by decide +kernel
theorem dX8_add_55 : decode cX8_add 55 = .ok (.iconst 1, 1) := by decide +kernel
theorem dX8_add_56 : decode cX8_add 56 = .ok (.goto 4, 3) := by decide +kernel
theorem dX8_add_59 : decode cX8_add 59 = .ok (.iconst 0, 1) := by decide +kernel
theorem dX8_add_60 : decode cX8_add 60 = .ok (.istore_n 3, 1) := by decide +kernel
theorem dX8_add_61 : decode cX8_add 61 = .ok (.iload_n 3, 1) := by decide +kernel
theorem dX8_add_62 : decode cX8_add 62 = .ok (.ifCond .eq 34, 3) := by decide +kernel
theorem dX8_add_65 : decode cX8_add 65 = .ok (.aload_n 0, 1) := by decide +kernel
theorem dX8_add_66 : decode cX8_add 66 = .ok (.dup, 1) := by decide +kernel
theorem dX8_add_67 : decode cX8_add 67 = .ok (.getfield 87, 3) := by decide +kernel
theorem dX8_add_70 : decode cX8_add 70 = .ok (.bipush 8, 2) := by decide +kernel
theorem dX8_add_72 : decode cX8_add 72 = .ok (.aload_n 0, 1) := by decide +kernel
theorem dX8_add_73 : decode cX8_add 73 = .ok (.getfield 90, 3) := by decide +kernel
theorem dX8_add_76 : decode cX8_add 76 = .ok (.isub, 1) := by decide +kernel
theorem dX8_add_77 : decode cX8_add 77 = .ok (.bipush 8, 2) := by decide +kernel
theorem dX8_add_79 : decode cX8_add 79 = .ok (.irem, 1) := by decide +kernel
theorem dX8_add_80 : decode cX8_add 80 = .ok (.aload_n 0, 1) := by decide +kernel
theorem dX8_add_81 : decode cX8_add 81 = .ok (.getfield 33, 3) := by decide +kernel
theorem dX8_add_84 : decode cX8_add 84 = .ok (.aload_n 0, 1) := by decide +kernel
theorem dX8_add_85 : decode cX8_add 85 = .ok (.getfield 84, 3) := by decide +kernel
theorem dX8_add_88 : decode cX8_add 88 = .ok (.iconst 1, 1) := by decide +kernel
theorem dX8_add_89 : decode cX8_add 89 = .ok (.isub, 1) := by decide +kernel
theorem dX8_add_90 : decode cX8_add 90 = .ok (.iaload, 1) := by decide +kernel
theorem dX8_add_91 : decode cX8_add 91 = .ok (.imul, 1) := by decide +kernel
theorem dX8_add_92 : decode cX8_add 92 = .ok (.iadd, 1) := by decide +kernel
theorem dX8_add_93 : decode cX8_add 93 = .ok (.putfield 87, 3) := by decide +kernel
theorem dX8_add_96 : decode cX8_add 96 = .ok (.aload_n 0, 1) := by decide +kernel
theorem dX8_add_97 : decode cX8_add 97 = .ok (.iload_n 3, 1) := by decide +kernel
theorem dX8_add_98 : decode cX8_add 98 = .ok (.ifCond .eq 7, 3) := by decide +kernel
theorem dX8_add_101 : decode cX8_add 101 = .ok (.iconst 1, 1) := by decide +kernel
theorem dX8_add_102 : decode cX8_add 102 = .ok (.goto 12, 3) := by decide +kernel
theorem dX8_add_105 : decode cX8_add 105 = .ok (.aload_n 0, 1) := by decide +kernel
theorem dX8_add_106 : decode cX8_add 106 = .ok (.getfield 90, 3) := by decide +kernel
theorem dX8_add_109 : decode cX8_add 109 = .ok (.bipush 8, 2) := by decide +kernel
theorem dX8_add_111 : decode cX8_add 111 = .ok (.irem, 1) := by decide +kernel
theorem dX8_add_112 : decode cX8_add 112 = .ok (.iconst 1, 1) := by decide +kernel
theorem dX8_add_113 : decode cX8_add 113 = .ok (.iadd, 1) := by decide +kernel
theorem dX8_add_114 : decode cX8_add 114 = .ok (.putfield 90, 3) := by decide +kernel
theorem dX8_add_117 : decode cX8_add 117 = .ok (.aload_n 0, 1) := by decide +kernel
theorem dX8_add_118 : decode cX8_add 118 = .ok (.getfield 30, 3) := by decide +kernel
theorem dX8_add_121 : decode cX8_add 121 = .ok (.aload_n 0, 1) := by decide +kernel
theorem dX8_add_122 : decode cX8_add 122 = .ok (.getfield 84, 3) := by decide +kernel
theorem dX8_add_125 : decode cX8_add 125 = .ok (.iload_n 1, 1) := by decide +kernel
theorem dX8_add_126 : decode cX8_add 126 = .ok (.iastore, 1) := by decide +kernel
theorem dX8_add_127 : decode cX8_add 127 = .ok (.aload_n 0, 1) := by decide +kernel
theorem dX8_add_128 : decode cX8_add 128 = .ok (.getfield 33, 3) := by decide +kernel
theorem dX8_add_131 : decode cX8_add 131 = .ok (.aload_n 0, 1) := by decide +kernel
theorem dX8_add_132 : decode cX8_add 132 = .ok (.getfield 84, 3) := by decide +kernel
theorem dX8_add_135 : decode cX8_add 135 = .ok (.iload_n 2, 1) := by decide +kernel
theorem dX8_add_136 : decode cX8_add 136 = .ok (.iastore, 1) := by decide +kernel
theorem dX8_add_137 : decode cX8_add 137 = .ok (.aload_n 0, 1) := by decide +kernel
theorem dX8_add_138 : decode cX8_add 138 = .ok (.getfield 36, 3) := by decide +kernel
theorem dX8_add_141 : decode cX8_add 141 = .ok (.aload_n 0, 1) := by decide +kernel
theorem dX8_add_142 : decode cX8_add 142 = .ok (.getfield 84, 3) := by decide +kernel
theorem dX8_add_145 : decode cX8_add 145 = .ok (.aload_n 0, 1) := by decide +kernel
theorem dX8_add_146 : decode cX8_add 146 = .ok (.getfield 87, 3) := by decide +kernel
theorem dX8_add_149 : decode cX8_add 149 = .ok (.iastore, 1) := by decide +kernel
theorem dX8_add_150 : decode cX8_add 150 = .ok (.aload_n 0, 1) := by decide +kernel
theorem dX8_add_151 : decode cX8_add 151 = .ok (.dup, 1) := by decide +kernel
theorem dX8_add_152 : decode cX8_add 152 = .ok (.getfield 87, 3) := by decide +kernel
theorem dX8_add_155 : decode cX8_add 155 = .ok (.iload_n 2, 1) := by decide +kernel
theorem dX8_add_156 : decode cX8_add 156 = .ok (.iadd, 1) := by decide +kernel
theorem dX8_add_157 : decode cX8_add 157 = .ok (.putfield 87, 3) := by decide +kernel
theorem dX8_add_160 : decode cX8_add 160 = .ok (.aload_n 0, 1) := by decide +kernel
theorem dX8_add_161 : decode cX8_add 161 = .ok (.dup, 1) := by decide +kernel
theorem dX8_add_162 : decode cX8_add 162 = .ok (.getfield 84, 3) := by decide +kernel
theorem dX8_add_165 : decode cX8_add 165 = .ok (.iconst 1, 1) := by decide +kernel
theorem dX8_add_166 : decode cX8_add 166 = .ok (.iadd, 1) := by decide +kernel
theorem dX8_add_167 : decode cX8_add 167 = .ok (.putfield 84, 3) := by decide +kernel
theorem dX8_add_170 : decode cX8_add 170 = .ok (.return_, 1) := by decide +kernel
set_option maxRecDepth 20000 in
theorem ggX8_clear_X8_add : GoodIn wsX8_clear wsX8_add := goodIn_r _ [9, 10, 11, 12, 1, 13, 14, 15, 16, 17, 18, 19, 8, 20, 21, 22, 23, 24, 25, 3, 26, 27, 28, 29, 30, 31, 32, 33, 34, 35, 36, 37, 38, 39, 40, 41, 42, 43, 44, 45, 46, 47, 48, 49, 50, 51, 52, 53, 54, 55, 56, 57, 58, 59, 60, 61] (by decide +kernel) (by decide +kernel)
set_option maxRecDepth 20000 in
theorem gX8_clear_X8_add : GoodIn wsX8_clear (wsV RX8 93 RX8 yX8_add wsX8_add) := goodIn_app (goodIn_of _ (by decide +kernel)) ggX8_clear_X8_add
theorem dX8_clear_0 : decode cX8_clear 0 = .ok (.aload_n 0, 1) := by decide +kernel
theorem dX8_clear_1 : decode cX8_clear 1 = .ok (.iconst 1, 1) := by decide +kernel
theorem dX8_clear_2 : decode cX8_clear 2 = .ok (.aload_n 0, 1) := by decide +kernel
theorem dX8_clear_3 : decode cX8_clear 3 = .ok (.getfield 7, 3) := by decide +kernel
theorem dX8_clear_6 : decode cX8_clear 6 = .ok (.ishl, 1) := by decide +kernel
theorem dX8_clear_7 : decode cX8_clear 7 = .ok (.invokevirtual 93, 3) := by decide +kernel
theorem dX8_clear_10 : decode cX8_clear 10 = .ok (.aload_n 0, 1) := by decide +kernel
theorem dX8_clear_11 : decode cX8_clear 11 = .ok (.dup, 1) := by decide +kernel
theorem dX8_clear_12 : decode cX8_clear 12 = .ok (.getfield 97, 3) := by decide +kernel
theorem dX8_clear_15 : decode cX8_clear 15 = .ok (.iconst 1, 1) := by decide +kernel
theorem dX8_clear_16 : decode cX8_clear 16 = .ok (.iadd, 1) := by decide +kernel
theorem dX8_clear_17 : decode cX8_clear 17 = .ok (.putfield 97, 3) := by decide +kernel
theorem dX8_clear_20 : decode cX8_clear 20 = .ok (.aload_n 0, 1) := by decide +kernel
theorem dX8_clear_21 : decode cX8_clear 21 = .ok (.iconst 0, 1) := by decide +kernel
theorem dX8_clear_22 : decode cX8_clear 22 = .ok (.putfield 68, 3) := by decide +kernel
theorem dX8_clear_25 : decode cX8_clear 25 = .ok (.aload_n 0, 1) := by decide +kernel
theorem dX8_clear_26 : decode cX8_clear 26 = .ok (.iconst 0, 1) := by decide +kernel
theorem dX8_clear_27 : decode cX8_clear 27 = .ok (.putfield 100, 3) := by decide +kernel
theorem dX8_clear_30 : decode cX8_clear 30 = .ok (.return_, 1) := by decide +kernel
theorem dX8_standsAt_0 : decode cX8_standsAt 0 = .ok (.iload_n 2, 1) := by decide +kernel
theorem dX8_standsAt_1 : decode cX8_standsAt 1 = .ok (.aload_n 0, 1) := by decide +kernel
theorem dX8_standsAt_2 : decode cX8_standsAt 2 = .ok (.getfield 42, 3) := by decide +kernel
theorem dX8_standsAt_5 : decode cX8_standsAt 5 = .ok (.iload_n 1, 1) := by decide +kernel
theorem dX8_standsAt_6 : decode cX8_standsAt 6 = .ok (.iaload, 1) := by decide +kernel
theorem dX8_standsAt_7 : decode cX8_standsAt 7 = .ok (.iadd, 1) := by decide +kernel
theorem dX8_standsAt_8 : decode cX8_standsAt 8 = .ok (.aload_n 0, 1) := by decide +kernel
theorem dX8_standsAt_9 : decode cX8_standsAt 9 = .ok (.getfield 61, 3) := by decide +kernel
theorem dX8_standsAt_12 : decode cX8_standsAt 12 = .ok (.if_icmp .gt 7, 3) := by decide +kernel
theorem dX8_standsAt_15 : decode cX8_standsAt 15 = .ok (.iconst 1, 1) := by decide +kernel
theorem dX8_standsAt_16 : decode cX8_standsAt 16 = .ok (.goto 4, 3) := by decide +kernel
theorem dX8_standsAt_19 : decode cX8_standsAt 19 = .ok (.iconst 0, 1) := by decide +kernel
theorem dX8_standsAt_20 : decode cX8_standsAt 20 = .ok (.istore_n 3, 1) := by decide +kernel
theorem dX8_standsAt_21 : decode cX8_standsAt 21 = .ok (.iconst 0, 1) := by decide +kernel
theorem dX8_standsAt_22 : decode cX8_standsAt 22 = .ok (.istore 4, 2) := by decide +kernel
theorem dX8_standsAt_24 : decode cX8_standsAt 24 = .ok (.iload 4, 2) := by decide +kernel
theorem dX8_standsAt_26 : decode cX8_standsAt 26 = .ok (.aload_n 0, 1) := by decide +kernel
theorem dX8_standsAt_27 : decode cX8_standsAt 27 = .ok (.getfield 42, 3) := by decide +kernel
theorem dX8_standsAt_30 : decode cX8_standsAt 30 = .ok (.iload_n 1, 1) := by decide +kernel
theorem dX8_standsAt_31 : decode cX8_standsAt 31 = .ok (.iaload, 1) := by decide +kernel
theorem dX8_standsAt_32 : decode cX8_standsAt 32 = .ok (.if_icmp .ge 45, 3) := by decide +kernel
theorem dX8_standsAt_35 : decode cX8_standsAt 35 = .ok (.iload_n 3, 1) := by decide +kernel
theorem dX8_standsAt_36 : decode cX8_standsAt 36 = .ok (.ifCond .eq 41, 3) := by decide +kernel
theorem dX8_standsAt_39 : decode cX8_standsAt 39 = .ok (.aload_n 0, 1) := by decide +kernel
theorem dX8_standsAt_40 : decode cX8_standsAt 40 = .ok (.getfield 19, 3) := by decide +kernel
theorem dX8_standsAt_43 : decode cX8_standsAt 43 = .ok (.aload_n 0, 1) := by decide +kernel
theorem dX8_standsAt_44 : decode cX8_standsAt 44 = .ok (.getfield 39, 3) := by decide +kernel
theorem dX8_standsAt_47 : decode cX8_standsAt 47 = .ok (.iload_n 1, 1) := by decide +kernel
theorem dX8_standsAt_48 : decode cX8_standsAt 48 = .ok (.iaload, 1) := by decide +kernel
theorem dX8_standsAt_49 : decode cX8_standsAt 49 = .ok (.iload 4, 2) := by decide +kernel
theorem dX8_standsAt_51 : decode cX8_standsAt 51 = .ok (.iadd, 1) := by decide +kernel
theorem dX8_standsAt_52 : decode cX8_standsAt 52 = .ok (.iaload, 1) := by decide +kernel
theorem dX8_standsAt_53 : decode cX8_standsAt 53 = .ok (.aload_n 0, 1) := by decide +kernel
theorem dX8_standsAt_54 : decode cX8_standsAt 54 = .ok (.getfield 19, 3) := by decide +kernel
theorem dX8_standsAt_57 : decode cX8_standsAt 57 = .ok (.iload_n 2, 1) := by decide +kernel
theorem dX8_standsAt_58 : decode cX8_standsAt 58 = .ok (.iload 4, 2) := by decide +kernel
theorem dX8_standsAt_60 : decode cX8_standsAt 60 = .ok (.iadd, 1) := by decide +kernel
theorem dX8_standsAt_61 : decode cX8_standsAt 61 = .ok (.iaload, 1) := by decide +kernel
theorem dX8_standsAt_62 : decode cX8_standsAt 62 = .ok (.if_icmp .ne 7, 3) := by decide +kernel
theorem dX8_standsAt_65 : decode cX8_standsAt 65 = .ok (.iconst 1, 1) := by decide +kernel
theorem dX8_standsAt_66 : decode cX8_standsAt 66 = .ok (.goto 4, 3) := by decide +kernel
theorem dX8_standsAt_69 : decode cX8_standsAt 69 = .ok (.iconst 0, 1) := by decide +kernel
theorem dX8_standsAt_70 : decode cX8_standsAt 70 = .ok (.istore_n 3, 1) := by decide +kernel
theorem dX8_standsAt_71 : decode cX8_standsAt 71 = .ok (.iinc 4 1, 3) := by decide +kernel
theorem dX8_standsAt_74 : decode cX8_standsAt 74 = .ok (.goto (-50), 3) := by decide +kernel
theorem dX8_standsAt_77 : decode cX8_standsAt 77 = .ok (.iload_n 3, 1) := by decide +kernel
theorem dX8_standsAt_78 : decode cX8_standsAt 78 = .ok (.ireturn, 1) := by decide +kernel
set_option maxRecDepth 20000 in
theorem ggX8_pack_X8_clear : GoodIn wsX8_pack wsX8_clear := goodIn_r _ [20, 15, 4, 6, 7, 21, 22, 23, 19, 24, 8, 2, 25, 26, 3, 5, 27, 28, 29, 30, 31, 32, 33, 34, 35, 36, 37, 38, 39, 40, 41, 42, 43, 44, 49, 50, 51, 52, 53, 54, 55, 56, 57, 58, 59, 60, 61, 62, 63, 64, 65, 66, 67, 68, 69, 70, 71, 72, 73, 74, 75, 76] (by decide +kernel) (by decide +kernel)
set_option maxRecDepth 20000 in
theorem gX8_pack_X8_clear : GoodIn wsX8_pack (wsV RX8 103 RX8 yX8_clear wsX8_clear) := goodIn_app (goodIn_of _ (by decide +kernel)) ggX8_pack_X8_clear
set_option maxRecDepth 20000 in
theorem ggX8_pack_X8_standsAt : GoodIn wsX8_pack wsX8_standsAt := goodIn_r _ [48, 10, 9, 11, 12, 49, 50, 51, 52, 53, 54, 55, 56, 57, 58, 59, 60, 61, 62, 63, 64, 65, 66, 67, 68, 69, 70, 71, 72, 73, 74, 75, 76] (by decide +kernel) (by decide +kernel)
set_option maxRecDepth 20000 in
theorem gX8_pack_X8_standsAt : GoodIn wsX8_pack (wsV RX8 106 RX8 yX8_standsAt wsX8_standsAt) := goodIn_app (goodIn_of _ (by decide +kernel)) ggX8_pack_X8_standsAt
set_option maxRecDepth 20000 in
theorem ggX8_pack_X8_firstNumber : GoodIn wsX8_pack wsX8_firstNumber := goodIn_r _ [40, 15, 8, 49, 50, 51, 52, 53, 54, 55, 56, 57, 58, 59, 60, 61, 62, 63, 64, 65, 66, 67, 68, 69, 70, 71, 72, 73, 74, 75, 76] (by decide +kernel) (by decide +kernel)
set_option maxRecDepth 20000 in
theorem gX8_pack_X8_firstNumber : GoodIn wsX8_pack (wsV RX8 64 RX8 yX8_firstNumber wsX8_firstNumber) := goodIn_app (goodIn_of _ (by decide +kernel)) ggX8_pack_X8_firstNumber
set_option maxRecDepth 20000 in
theorem ggX8_pack_X8_add : GoodIn wsX8_pack wsX8_add := goodIn_r _ [24, 8, 2, 25, 15, 26, 3, 5, 27, 28, 29, 30, 19, 31, 32, 33, 34, 35, 36, 6, 37, 38, 39, 40, 41, 42, 43, 44, 49, 50, 51, 52, 53, 54, 55, 56, 57, 58, 59, 60, 61, 62, 63, 64, 65, 66, 67, 68, 69, 70, 71, 72, 73, 74, 75, 76] (by decide +kernel) (by decide +kernel)
set_option maxRecDepth 20000 in
theorem gX8_pack_X8_add : GoodIn wsX8_pack (wsV RX8 93 RX8 yX8_add wsX8_add) := goodIn_app (goodIn_of _ (by decide +kernel)) ggX8_pack_X8_add
set_option maxRecDepth 20000 in
theorem ggX8_pack_X8_lastNumber : GoodIn wsX8_pack wsX8_lastNumber := goodIn_r _ [44, 32, 8, 49, 50, 51, 52, 53, 54, 55, 56, 57, 58, 59, 60, 61, 62, 63, 64, 65, 66, 67, 68, 69, 70, 71, 72, 73, 74, 75, 76] (by decide +kernel) (by decide +kernel)
set_option maxRecDepth 20000 in
theorem gX8_pack_X8_lastNumber : GoodIn wsX8_pack (wsV RX8 71 RX8 yX8_lastNumber wsX8_lastNumber) := goodIn_app (goodIn_of _ (by decide +kernel)) ggX8_pack_X8_lastNumber
theorem dX8_pack_0 : decode cX8_pack 0 = .ok (.aload_n 0, 1) := by decide +kernel
theorem dX8_pack_1 : decode cX8_pack 1 = .ok (.getfield 77, 3) := by decide +kernel
theorem dX8_pack_4 : decode cX8_pack 4 = .ok (.ifCond .eq 4, 3) := by decide +kernel
theorem dX8_pack_7 : decode cX8_pack 7 = .ok (.return_, 1) := by decide +kernel
theorem dX8_pack_8 : decode cX8_pack 8 = .ok (.aload_n 0, 1) := by decide +kernel
theorem dX8_pack_9 : decode cX8_pack 9 = .ok (.iconst 1, 1) := by decide +kernel
theorem dX8_pack_10 : decode cX8_pack 10 = .ok (.putfield 77, 3) := by decide +kernel
theorem dX8_pack_13 : decode cX8_pack 13 = .ok (.aload_n 0, 1) := by decide +kernel
theorem dX8_pack_14 : decode cX8_pack 14 = .ok (.iconst 0, 1) := by decide +kernel
theorem dX8_pack_15 : decode cX8_pack 15 = .ok (.putfield 84, 3) := by decide +kernel
theorem dX8_pack_18 : decode cX8_pack 18 = .ok (.aload_n 0, 1) := by decide +kernel
theorem dX8_pack_19 : decode cX8_pack 19 = .ok (.iconst 0, 1) := by decide +kernel
theorem dX8_pack_20 : decode cX8_pack 20 = .ok (.putfield 87, 3) := by decide +kernel
theorem dX8_pack_23 : decode cX8_pack 23 = .ok (.aload_n 0, 1) := by decide +kernel
theorem dX8_pack_24 : decode cX8_pack 24 = .ok (.iconst 0, 1) := by decide +kernel
theorem dX8_pack_25 : decode cX8_pack 25 = .ok (.putfield 97, 3) := by decide +kernel
theorem dX8_pack_28 : decode cX8_pack 28 = .ok (.aload_n 0, 1) := by decide +kernel
theorem dX8_pack_29 : decode cX8_pack 29 = .ok (.iconst 0, 1) := by decide +kernel
theorem dX8_pack_30 : decode cX8_pack 30 = .ok (.putfield 90, 3) := by decide +kernel
theorem dX8_pack_33 : decode cX8_pack 33 = .ok (.aload_n 0, 1) := by decide +kernel
theorem dX8_pack_34 : decode cX8_pack 34 = .ok (.iconst 0, 1) := by decide +kernel
theorem dX8_pack_35 : decode cX8_pack 35 = .ok (.putfield 68, 3) := by decide +kernel
theorem dX8_pack_38 : decode cX8_pack 38 = .ok (.aload_n 0, 1) := by decide +kernel
theorem dX8_pack_39 : decode cX8_pack 39 = .ok (.iconst 0, 1) := by decide +kernel
theorem dX8_pack_40 : decode cX8_pack 40 = .ok (.putfield 100, 3) := by decide +kernel
theorem dX8_pack_43 : decode cX8_pack 43 = .ok (.aload_n 0, 1) := by decide +kernel
theorem dX8_pack_44 : decode cX8_pack 44 = .ok (.getfield 54, 3) := by decide +kernel
theorem dX8_pack_47 : decode cX8_pack 47 = .ok (.iconst 2, 1) := by decide +kernel
theorem dX8_pack_48 : decode cX8_pack 48 = .ok (.if_icmp .eq 7, 3) := by decide +kernel
theorem dX8_pack_51 : decode cX8_pack 51 = .ok (.aload_n 0, 1) := by decide +kernel
theorem dX8_pack_52 : decode cX8_pack 52 = .ok (.invokevirtual 103, 3) := by decide +kernel
theorem dX8_pack_55 : decode cX8_pack 55 = .ok (.iconst 0, 1) := by decide +kernel
theorem dX8_pack_56 : decode cX8_pack 56 = .ok (.istore_n 1, 1) := by decide +kernel
theorem dX8_pack_57 : decode cX8_pack 57 = .ok (.iload_n 1, 1) := by decide +kernel
theorem dX8_pack_58 : decode cX8_pack 58 = .ok (.aload_n 0, 1) := by decide +kernel
theorem dX8_pack_59 : decode cX8_pack 59 = .ok (.getfield 61, 3) := by decide +kernel
theorem dX8_pack_62 : decode cX8_pack 62 = .ok (.if_icmp .ge 263, 3) := by decide +kernel
theorem dX8_pack_65 : decode cX8_pack 65 = .ok (.iconst (-1), 1) := by decide +kernel
theorem dX8_pack_66 : decode cX8_pack 66 = .ok (.istore_n 2, 1) := by decide +kernel
theorem dX8_pack_67 : decode cX8_pack 67 = .ok (.iconst 0, 1) := by decide +kernel
theorem dX8_pack_68 : decode cX8_pack 68 = .ok (.istore_n 3, 1) := by decide +kernel
theorem dX8_pack_69 : decode cX8_pack 69 = .ok (.iload_n 3, 1) := by decide +kernel
theorem dX8_pack_70 : decode cX8_pack 70 = .ok (.aload_n 0, 1) := by decide +kernel
theorem dX8_pack_71 : decode cX8_pack 71 = .ok (.getfield 100, 3) := by decide +kernel
theorem dX8_pack_74 : decode cX8_pack 74 = .ok (.if_icmp .ge 44, 3) := by decide +kernel
theorem dX8_pack_77 : decode cX8_pack 77 = .ok (.iload_n 2, 1) := by decide +kernel
theorem dX8_pack_78 : decode cX8_pack 78 = .ok (.iconst (-1), 1) := by decide +kernel
theorem dX8_pack_79 : decode cX8_pack 79 = .ok (.if_icmp .eq 18, 3) := by decide +kernel
theorem dX8_pack_82 : decode cX8_pack 82 = .ok (.aload_n 0, 1) := by decide +kernel
theorem dX8_pack_83 : decode cX8_pack 83 = .ok (.getfield 42, 3) := by decide +kernel
theorem dX8_pack_86 : decode cX8_pack 86 = .ok (.iload_n 3, 1) := by decide +kernel
theorem dX8_pack_87 : decode cX8_pack 87 = .ok (.iaload, 1) := by decide +kernel
theorem dX8_pack_88 : decode cX8_pack 88 = .ok (.aload_n 0, 1) := by decide +kernel
theorem dX8_pack_89 : decode cX8_pack 89 = .ok (.getfield 42, 3) := by decide +kernel
theorem dX8_pack_92 : decode cX8_pack 92 = .ok (.iload_n 2, 1) := by decide +kernel
theorem dX8_pack_93 : decode cX8_pack 93 = .ok (.iaload, 1) := by decide +kernel
theorem dX8_pack_94 : decode cX8_pack 94 = .ok (.if_icmp .le 16, 3) := by decide +kernel
theorem dX8_pack_97 : decode cX8_pack 97 = .ok (.aload_n 0, 1) := by decide +kernel
theorem dX8_pack_98 : decode cX8_pack 98 = .ok (.iload_n 3, 1) := by decide +kernel
theorem dX8_pack_99 : decode cX8_pack 99 = .ok (.iload_n 1, 1) := by decide +kernel
theorem dX8_pack_100 : decode cX8_pack 100 = .ok (.invokevirtual 106, 3) := by decide +kernel
theorem dX8_pack_103 : decode cX8_pack 103 = .ok (.ifCond .eq 7, 3) := by decide +kernel
theorem dX8_pack_106 : decode cX8_pack 106 = .ok (.iload_n 3, 1) := by decide +kernel
theorem dX8_pack_107 : decode cX8_pack 107 = .ok (.goto 4, 3) := by decide +kernel
theorem dX8_pack_110 : decode cX8_pack 110 = .ok (.iload_n 2, 1) := by decide +kernel
theorem dX8_pack_111 : decode cX8_pack 111 = .ok (.istore_n 2, 1) := by decide +kernel
theorem dX8_pack_112 : decode cX8_pack 112 = .ok (.iinc 3 1, 3) := by decide +kernel
theorem dX8_pack_115 : decode cX8_pack 115 = .ok (.goto (-46), 3) := by decide +kernel
theorem dX8_pack_118 : decode cX8_pack 118 = .ok (.iload_n 2, 1) := by decide +kernel
theorem dX8_pack_119 : decode cX8_pack 119 = .ok (.iconst (-1), 1) := by decide +kernel
theorem dX8_pack_120 : decode cX8_pack 120 = .ok (.if_icmp .ne 12, 3) := by decide +kernel
theorem dX8_pack_123 : decode cX8_pack 123 = .ok (.aload_n 0, 1) := by decide +kernel
theorem dX8_pack_124 : decode cX8_pack 124 = .ok (.getfield 19, 3) := by decide +kernel
theorem dX8_pack_127 : decode cX8_pack 127 = .ok (.iload_n 1, 1) := by decide +kernel
theorem dX8_pack_128 : decode cX8_pack 128 = .ok (.iaload, 1) := by decide +kernel
theorem dX8_pack_129 : decode cX8_pack 129 = .ok (.goto 9, 3) := by decide +kernel
theorem dX8_pack_132 : decode cX8_pack 132 = .ok (.aload_n 0, 1) := by decide +kernel
theorem dX8_pack_133 : decode cX8_pack 133 = .ok (.invokevirtual 64, 3) := by decide +kernel
theorem dX8_pack_136 : decode cX8_pack 136 = .ok (.iload_n 2, 1) := by decide +kernel
theorem dX8_pack_137 : decode cX8_pack 137 = .ok (.iadd, 1) := by decide +kernel
theorem dX8_pack_138 : decode cX8_pack 138 = .ok (.istore_n 3, 1) := by decide +kernel
theorem dX8_pack_139 : decode cX8_pack 139 = .ok (.iload_n 2, 1) := by decide +kernel
theorem dX8_pack_140 : decode cX8_pack 140 = .ok (.iconst (-1), 1) := by decide +kernel
theorem dX8_pack_141 : decode cX8_pack 141 = .ok (.if_icmp .ne 7, 3) := by decide +kernel
theorem dX8_pack_144 : decode cX8_pack 144 = .ok (.iconst 1, 1) := by decide +kernel
theorem dX8_pack_145 : decode cX8_pack 145 = .ok (.goto 9, 3) := by decide +kernel
theorem dX8_pack_148 : decode cX8_pack 148 = .ok (.aload_n 0, 1) := by decide +kernel
theorem dX8_pack_149 : decode cX8_pack 149 = .ok (.getfield 42, 3) := by decide +kernel
theorem dX8_pack_152 : decode cX8_pack 152 = .ok (.iload_n 2, 1) := by decide +kernel
theorem dX8_pack_153 : decode cX8_pack 153 = .ok (.iaload, 1) := by decide +kernel
theorem dX8_pack_154 : decode cX8_pack 154 = .ok (.istore 4, 2) := by decide +kernel
theorem dX8_pack_156 : decode cX8_pack 156 = .ok (.aload_n 0, 1) := by decide +kernel
theorem dX8_pack_157 : decode cX8_pack 157 = .ok (.iload_n 3, 1) := by decide +kernel
theorem dX8_pack_158 : decode cX8_pack 158 = .ok (.invokevirtual 93, 3) := by decide +kernel
theorem dX8_pack_161 : decode cX8_pack 161 = .ok (.aload_n 0, 1) := by decide +kernel
theorem dX8_pack_162 : decode cX8_pack 162 = .ok (.dup, 1) := by decide +kernel
theorem dX8_pack_163 : decode cX8_pack 163 = .ok (.getfield 68, 3) := by decide +kernel
theorem dX8_pack_166 : decode cX8_pack 166 = .ok (.iconst 1, 1) := by decide +kernel
theorem dX8_pack_167 : decode cX8_pack 167 = .ok (.iadd, 1) := by decide +kernel
theorem dX8_pack_168 : decode cX8_pack 168 = .ok (.putfield 68, 3) := by decide +kernel
theorem dX8_pack_171 : decode cX8_pack 171 = .ok (.iload_n 1, 1) := by decide +kernel
theorem dX8_pack_172 : decode cX8_pack 172 = .ok (.iload 4, 2) := by decide +kernel
theorem dX8_pack_174 : decode cX8_pack 174 = .ok (.iadd, 1) := by decide +kernel
theorem dX8_pack_175 : decode cX8_pack 175 = .ok (.aload_n 0, 1) := by decide +kernel
theorem dX8_pack_176 : decode cX8_pack 176 = .ok (.getfield 61, 3) := by decide +kernel
theorem dX8_pack_179 : decode cX8_pack 179 = .ok (.if_icmp .ge 7, 3) := by decide +kernel
theorem dX8_pack_182 : decode cX8_pack 182 = .ok (.iconst 1, 1) := by decide +kernel
theorem dX8_pack_183 : decode cX8_pack 183 = .ok (.goto 4, 3) := by decide +kernel
theorem dX8_pack_186 : decode cX8_pack 186 = .ok (.iconst 0, 1) := by decide +kernel
theorem dX8_pack_187 : decode cX8_pack 187 = .ok (.istore 5, 2) := by decide +kernel
theorem dX8_pack_189 : decode cX8_pack 189 = .ok (.iload 5, 2) := by decide +kernel
theorem dX8_pack_191 : decode cX8_pack 191 = .ok (.ifCond .eq 62, 3) := by decide +kernel
theorem dX8_pack_194 : decode cX8_pack 194 = .ok (.aload_n 0, 1) := by decide +kernel
theorem dX8_pack_195 : decode cX8_pack 195 = .ok (.invokevirtual 64, 3) := by decide +kernel
theorem dX8_pack_198 : decode cX8_pack 198 = .ok (.aload_n 0, 1) := by decide +kernel
theorem dX8_pack_199 : decode cX8_pack 199 = .ok (.getfield 100, 3) := by decide +kernel
theorem dX8_pack_202 : decode cX8_pack 202 = .ok (.iadd, 1) := by decide +kernel
theorem dX8_pack_203 : decode cX8_pack 203 = .ok (.aload_n 0, 1) := by decide +kernel
theorem dX8_pack_204 : decode cX8_pack 204 = .ok (.invokevirtual 71, 3) := by decide +kernel
theorem dX8_pack_207 : decode cX8_pack 207 = .ok (.if_icmp .ge 46, 3) := by decide +kernel
theorem dX8_pack_210 : decode cX8_pack 210 = .ok (.aload_n 0, 1) := by decide +kernel
theorem dX8_pack_211 : decode cX8_pack 211 = .ok (.getfield 39, 3) := by decide +kernel
theorem dX8_pack_214 : decode cX8_pack 214 = .ok (.aload_n 0, 1) := by decide +kernel
theorem dX8_pack_215 : decode cX8_pack 215 = .ok (.getfield 100, 3) := by decide +kernel
theorem dX8_pack_218 : decode cX8_pack 218 = .ok (.iload_n 1, 1) := by decide +kernel
theorem dX8_pack_219 : decode cX8_pack 219 = .ok (.iastore, 1) := by decide +kernel
theorem dX8_pack_220 : decode cX8_pack 220 = .ok (.aload_n 0, 1) := by decide +kernel
theorem dX8_pack_221 : decode cX8_pack 221 = .ok (.getfield 42, 3) := by decide +kernel
theorem dX8_pack_224 : decode cX8_pack 224 = .ok (.aload_n 0, 1) := by decide +kernel
theorem dX8_pack_225 : decode cX8_pack 225 = .ok (.getfield 100, 3) := by decide +kernel
theorem dX8_pack_228 : decode cX8_pack 228 = .ok (.iload 4, 2) := by decide +kernel
theorem dX8_pack_230 : decode cX8_pack 230 = .ok (.iconst 1, 1) := by decide +kernel
theorem dX8_pack_231 : decode cX8_pack 231 = .ok (.iadd, 1) := by decide +kernel
theorem dX8_pack_232 : decode cX8_pack 232 = .ok (.iastore, 1) := by decide +kernel
theorem dX8_pack_233 : decode cX8_pack 233 = .ok (.aload_n 0, 1) := by decide +kernel
theorem dX8_pack_234 : decode cX8_pack 234 = .ok (.getfield 45, 3) := by decide +kernel
theorem dX8_pack_237 : decode cX8_pack 237 = .ok (.aload_n 0, 1) := by decide +kernel
theorem dX8_pack_238 : decode cX8_pack 238 = .ok (.getfield 100, 3) := by decide +kernel
theorem dX8_pack_241 : decode cX8_pack 241 = .ok (.iload_n 3, 1) := by decide +kernel
theorem dX8_pack_242 : decode cX8_pack 242 = .ok (.iastore, 1) := by decide +kernel
theorem dX8_pack_243 : decode cX8_pack 243 = .ok (.aload_n 0, 1) := by decide +kernel
theorem dX8_pack_244 : decode cX8_pack 244 = .ok (.dup, 1) := by decide +kernel
theorem dX8_pack_245 : decode cX8_pack 245 = .ok (.getfield 100, 3) := by decide +kernel
theorem dX8_pack_248 : decode cX8_pack 248 = .ok (.iconst 1, 1) := by decide +kernel
theorem dX8_pack_249 : decode cX8_pack 249 = .ok (.iadd, 1) := by decide +kernel
theorem dX8_pack_250 : decode cX8_pack 250 = .ok (.putfield 100, 3) := by decide +kernel
theorem dX8_pack_253 : decode cX8_pack 253 = .ok (.iload_n 1, 1) := by decide +kernel
theorem dX8_pack_254 : decode cX8_pack 254 = .ok (.iload 4, 2) := by decide +kernel
theorem dX8_pack_256 : decode cX8_pack 256 = .ok (.iadd, 1) := by decide +kernel
theorem dX8_pack_257 : decode cX8_pack 257 = .ok (.istore_n 1, 1) := by decide +kernel
theorem dX8_pack_258 : decode cX8_pack 258 = .ok (.aload_n 0, 1) := by decide +kernel
theorem dX8_pack_259 : decode cX8_pack 259 = .ok (.invokevirtual 64, 3) := by decide +kernel
theorem dX8_pack_262 : decode cX8_pack 262 = .ok (.aload_n 0, 1) := by decide +kernel
theorem dX8_pack_263 : decode cX8_pack 263 = .ok (.getfield 100, 3) := by decide +kernel
theorem dX8_pack_266 : decode cX8_pack 266 = .ok (.iadd, 1) := by decide +kernel
theorem dX8_pack_267 : decode cX8_pack 267 = .ok (.aload_n 0, 1) := by decide +kernel
theorem dX8_pack_268 : decode cX8_pack 268 = .ok (.invokevirtual 71, 3) := by decide +kernel
theorem dX8_pack_271 : decode cX8_pack 271 = .ok (.if_icmp .lt 7, 3) := by decide +kernel
theorem dX8_pack_274 : decode cX8_pack 274 = .ok (.iconst 1, 1) := by decide +kernel
theorem dX8_pack_275 : decode cX8_pack 275 = .ok (.goto 4, 3) := by decide +kernel
theorem dX8_pack_278 : decode cX8_pack 278 = .ok (.iconst 0, 1) := by decide +kernel
theorem dX8_pack_279 : decode cX8_pack 279 = .ok (.istore 6, 2) := by decide +kernel
theorem dX8_pack_281 : decode cX8_pack 281 = .ok (.iload 5, 2) := by decide +kernel
theorem dX8_pack_283 : decode cX8_pack 283 = .ok (.ifCond .eq 39, 3) := by decide +kernel
theorem dX8_pack_286 : decode cX8_pack 286 = .ok (.aload_n 0, 1) := by decide +kernel
theorem dX8_pack_287 : decode cX8_pack 287 = .ok (.getfield 16, 3) := by decide +kernel
theorem dX8_pack_290 : decode cX8_pack 290 = .ok (.iconst 1, 1) := by decide +kernel
theorem dX8_pack_291 : decode cX8_pack 291 = .ok (.if_icmp .ne 8, 3) := by decide +kernel
theorem dX8_pack_294 : decode cX8_pack 294 = .ok (.iload 6, 2) := by decide +kernel
theorem dX8_pack_296 : decode cX8_pack 296 = .ok (.ifCond .ne 22, 3) := by decide +kernel
theorem dX8_pack_299 : decode cX8_pack 299 = .ok (.aload_n 0, 1) := by decide +kernel
theorem dX8_pack_300 : decode cX8_pack 300 = .ok (.getfield 16, 3) := by decide +kernel
theorem dX8_pack_303 : decode cX8_pack 303 = .ok (.iconst 1, 1) := by decide +kernel
theorem dX8_pack_304 : decode cX8_pack 304 = .ok (.if_icmp .le 18, 3) := by decide +kernel
theorem dX8_pack_307 : decode cX8_pack 307 = .ok (.aload_n 0, 1) := by decide +kernel
theorem dX8_pack_308 : decode cX8_pack 308 = .ok (.getfield 68, 3) := by decide +kernel
theorem dX8_pack_311 : decode cX8_pack 311 = .ok (.aload_n 0, 1) := by decide +kernel
theorem dX8_pack_312 : decode cX8_pack 312 = .ok (.getfield 16, 3) := by decide +kernel
theorem dX8_pack_315 : decode cX8_pack 315 = .ok (.if_icmp .ne 7, 3) := by decide +kernel
theorem dX8_pack_318 : decode cX8_pack 318 = .ok (.aload_n 0, 1) := by decide +kernel
theorem dX8_pack_319 : decode cX8_pack 319 = .ok (.invokevirtual 103, 3) := by decide +kernel
theorem dX8_pack_322 : decode cX8_pack 322 = .ok (.goto (-265), 3) := by decide +kernel
theorem dX8_pack_325 : decode cX8_pack 325 = .ok (.aload_n 0, 1) := by decide +kernel
theorem dX8_pack_326 : decode cX8_pack 326 = .ok (.getfield 54, 3) := by decide +kernel
theorem dX8_pack_329 : decode cX8_pack 329 = .ok (.iconst 2, 1) := by decide +kernel
theorem dX8_pack_330 : decode cX8_pack 330 = .ok (.if_icmp .eq 15, 3) := by decide +kernel
theorem dX8_pack_333 : decode cX8_pack 333 = .ok (.aload_n 0, 1) := by decide +kernel
theorem dX8_pack_334 : decode cX8_pack 334 = .ok (.iconst 1, 1) := by decide +kernel
theorem dX8_pack_335 : decode cX8_pack 335 = .ok (.aload_n 0, 1) := by decide +kernel
theorem dX8_pack_336 : decode cX8_pack 336 = .ok (.getfield 7, 3) := by decide +kernel
theorem dX8_pack_339 : decode cX8_pack 339 = .ok (.ishl, 1) := by decide +kernel
theorem dX8_pack_340 : decode cX8_pack 340 = .ok (.iconst 1, 1) := by decide +kernel
theorem dX8_pack_341 : decode cX8_pack 341 = .ok (.iadd, 1) := by decide +kernel
theorem dX8_pack_342 : decode cX8_pack 342 = .ok (.invokevirtual 93, 3) := by decide +kernel
theorem dX8_pack_345 : decode cX8_pack 345 = .ok (.return_, 1) := by decide +kernel
set_option maxRecDepth 20000 in
theorem ggX8_told_X8_pack : GoodIn wsX8_told wsX8_pack := goodIn_r _ [15, 16, 7, 8, 10, 17, 18, 9, 2, 1, 19, 20, 21, 22, 5, 3, 23, 24, 25, 14, 26, 27, 28, 29, 30, 31, 32, 33, 34, 35, 36, 37, 4, 38, 39, 40, 41, 42, 43, 44, 45, 46, 47, 48, 49, 50, 51, 52, 53, 54, 55, 56, 57, 58, 59, 60, 61, 62, 63, 64, 65, 66, 67, 68, 69, 70, 71, 72, 73, 74, 75, 76, 77, 78, 79, 80, 81] (by decide +kernel) (by decide +kernel)
set_option maxRecDepth 20000 in
theorem gX8_told_X8_pack : GoodIn wsX8_told (wsV RX8 110 RX8 yX8_pack wsX8_pack) := goodIn_app (goodIn_of _ (by decide +kernel)) ggX8_told_X8_pack
theorem dX8_told_0 : decode cX8_told 0 = .ok (.aload_n 0, 1) := by decide +kernel
theorem dX8_told_1 : decode cX8_told 1 = .ok (.invokevirtual 110, 3) := by decide +kernel
theorem dX8_told_4 : decode cX8_told 4 = .ok (.iload_n 1, 1) := by decide +kernel
theorem dX8_told_5 : decode cX8_told 5 = .ok (.tableswitch 96 0 8 #[51, 56, 61, 66, 71, 76, 81, 86, 91], 51) := by decide +kernel
theorem dX8_told_56 : decode cX8_told 56 = .ok (.aload_n 0, 1) := by decide +kernel
theorem dX8_told_57 : decode cX8_told 57 = .ok (.getfield 61, 3) := by decide +kernel
theorem dX8_told_60 : decode cX8_told 60 = .ok (.ireturn, 1) := by decide +kernel
theorem dX8_told_61 : decode cX8_told 61 = .ok (.aload_n 0, 1) := by decide +kernel
theorem dX8_told_62 : decode cX8_told 62 = .ok (.getfield 54, 3) := by decide +kernel
theorem dX8_told_65 : decode cX8_told 65 = .ok (.ireturn, 1) := by decide +kernel
theorem dX8_told_66 : decode cX8_told 66 = .ok (.aload_n 0, 1) := by decide +kernel
theorem dX8_told_67 : decode cX8_told 67 = .ok (.getfield 7, 3) := by decide +kernel
theorem dX8_told_70 : decode cX8_told 70 = .ok (.ireturn, 1) := by decide +kernel
theorem dX8_told_71 : decode cX8_told 71 = .ok (.aload_n 0, 1) := by decide +kernel
theorem dX8_told_72 : decode cX8_told 72 = .ok (.getfield 13, 3) := by decide +kernel
theorem dX8_told_75 : decode cX8_told 75 = .ok (.ireturn, 1) := by decide +kernel
theorem dX8_told_76 : decode cX8_told 76 = .ok (.aload_n 0, 1) := by decide +kernel
theorem dX8_told_77 : decode cX8_told 77 = .ok (.getfield 16, 3) := by decide +kernel
theorem dX8_told_80 : decode cX8_told 80 = .ok (.ireturn, 1) := by decide +kernel
theorem dX8_told_81 : decode cX8_told 81 = .ok (.aload_n 0, 1) := by decide +kernel
theorem dX8_told_82 : decode cX8_told 82 = .ok (.getfield 113, 3) := by decide +kernel
theorem dX8_told_85 : decode cX8_told 85 = .ok (.ireturn, 1) := by decide +kernel
theorem dX8_told_86 : decode cX8_told 86 = .ok (.aload_n 0, 1) := by decide +kernel
theorem dX8_told_87 : decode cX8_told 87 = .ok (.getfield 84, 3) := by decide +kernel
theorem dX8_told_90 : decode cX8_told 90 = .ok (.ireturn, 1) := by decide +kernel
theorem dX8_told_91 : decode cX8_told 91 = .ok (.aload_n 0, 1) := by decide +kernel
theorem dX8_told_92 : decode cX8_told 92 = .ok (.getfield 87, 3) := by decide +kernel
theorem dX8_told_95 : decode cX8_told 95 = .ok (.ireturn, 1) := by decide +kernel
theorem dX8_told_96 : decode cX8_told 96 = .ok (.aload_n 0, 1) := by decide +kernel
theorem dX8_told_97 : decode cX8_told 97 = .ok (.getfield 100, 3) := by decide +kernel
theorem dX8_told_100 : decode cX8_told 100 = .ok (.ireturn, 1) := by decide +kernel
theorem dX8_told_101 : decode cX8_told 101 = .ok (.iload_n 1, 1) := by decide +kernel
theorem dX8_told_102 : decode cX8_told 102 = .ok (.bipush 9, 2) := by decide +kernel
theorem dX8_told_104 : decode cX8_told 104 = .ok (.if_icmp .ne 10, 3) := by decide +kernel
theorem dX8_told_107 : decode cX8_told 107 = .ok (.aload_n 0, 1) := by decide +kernel
theorem dX8_told_108 : decode cX8_told 108 = .ok (.getfield 97, 3) := by decide +kernel
theorem dX8_told_111 : decode cX8_told 111 = .ok (.goto 5, 3) := by decide +kernel
theorem dX8_told_114 : decode cX8_told 114 = .ok (.bipush (-2), 2) := by decide +kernel
theorem dX8_told_116 : decode cX8_told 116 = .ok (.ireturn, 1) := by decide +kernel
set_option maxRecDepth 20000 in
theorem ggX8_code_X8_in : GoodIn wsX8_code wsX8_in := goodIn_r _ [8] (by decide +kernel) (by decide +kernel)
set_option maxRecDepth 20000 in
theorem gX8_code_X8_in : GoodIn wsX8_code (va_wsS RX8 57 yX8_in wsX8_in) := goodIn_app (goodIn_of _ (by decide +kernel)) ggX8_code_X8_in
set_option maxRecDepth 20000 in
theorem ggX8_code_X8_pack : GoodIn wsX8_code wsX8_pack := goodIn_r _ [12, 13, 1, 14, 15, 16, 17, 18, 19, 20, 21, 22, 23, 24, 25, 26, 27, 28, 29, 7, 30, 31, 32, 33, 34, 2, 3, 4, 35, 36, 37, 38, 39, 40, 41, 42, 43, 44, 45, 46, 47, 48, 49, 50, 51, 52, 53, 54, 55, 56, 57, 58, 59, 60, 61, 62, 63, 64, 65, 66, 67, 68, 69, 70, 71, 72, 73, 74, 75, 76, 77, 78, 79, 80, 81, 82, 83] (by decide +kernel) (by decide +kernel)
set_option maxRecDepth 20000 in
theorem gX8_code_X8_pack : GoodIn wsX8_code (wsV RX8 110 RX8 yX8_pack wsX8_pack) := goodIn_app (goodIn_of _ (by decide +kernel)) ggX8_code_X8_pack
theorem dX8_code_0 : decode cX8_code 0 = .ok (.iload_n 2, 1) := by decide +kernel
theorem dX8_code_1 : decode cX8_code 1 = .ok (.iconst 0, 1) := by decide +kernel
theorem dX8_code_2 : decode cX8_code 2 = .ok (.iconst 2, 1) := by decide +kernel
theorem dX8_code_3 : decode cX8_code 3 = .ok (.invokestatic 57, 3) := by decide +kernel
theorem dX8_code_6 : decode cX8_code 6 = .ok (.ifCond .ne 6, 3) := by decide +kernel
theorem dX8_code_9 : decode cX8_code 9 = .ok (.bipush (-2), 2) := by decide +kernel
theorem dX8_code_11 : decode cX8_code 11 = .ok (.ireturn, 1) := by decide +kernel
theorem dX8_code_12 : decode cX8_code 12 = .ok (.aload_n 0, 1) := by decide +kernel
theorem dX8_code_13 : decode cX8_code 13 = .ok (.invokevirtual 110, 3) := by decide +kernel
theorem dX8_code_16 : decode cX8_code 16 = .ok (.iload_n 1, 1) := by decide +kernel
theorem dX8_code_17 : decode cX8_code 17 = .ok (.iconst 0, 1) := by decide +kernel
theorem dX8_code_18 : decode cX8_code 18 = .ok (.aload_n 0, 1) := by decide +kernel
theorem dX8_code_19 : decode cX8_code 19 = .ok (.getfield 84, 3) := by decide +kernel
theorem dX8_code_22 : decode cX8_code 22 = .ok (.iconst 1, 1) := by decide +kernel
theorem dX8_code_23 : decode cX8_code 23 = .ok (.isub, 1) := by decide +kernel
theorem dX8_code_24 : decode cX8_code 24 = .ok (.invokestatic 57, 3) := by decide +kernel
theorem dX8_code_27 : decode cX8_code 27 = .ok (.ifCond .ne 5, 3) := by decide +kernel
theorem dX8_code_30 : decode cX8_code 30 = .ok (.iconst (-1), 1) := by decide +kernel
theorem dX8_code_31 : decode cX8_code 31 = .ok (.ireturn, 1) := by decide +kernel
theorem dX8_code_32 : decode cX8_code 32 = .ok (.iload_n 2, 1) := by decide +kernel
theorem dX8_code_33 : decode cX8_code 33 = .ok (.ifCond .ne 12, 3) := by decide +kernel
theorem dX8_code_36 : decode cX8_code 36 = .ok (.aload_n 0, 1) := by decide +kernel
theorem dX8_code_37 : decode cX8_code 37 = .ok (.getfield 30, 3) := by decide +kernel
theorem dX8_code_40 : decode cX8_code 40 = .ok (.iload_n 1, 1) := by decide +kernel
theorem dX8_code_41 : decode cX8_code 41 = .ok (.iaload, 1) := by decide +kernel
theorem dX8_code_42 : decode cX8_code 42 = .ok (.goto 23, 3) := by decide +kernel
theorem dX8_code_45 : decode cX8_code 45 = .ok (.iload_n 2, 1) := by decide +kernel
theorem dX8_code_46 : decode cX8_code 46 = .ok (.iconst 1, 1) := by decide +kernel
theorem dX8_code_47 : decode cX8_code 47 = .ok (.if_icmp .ne 12, 3) := by decide +kernel
theorem dX8_code_50 : decode cX8_code 50 = .ok (.aload_n 0, 1) := by decide +kernel
theorem dX8_code_51 : decode cX8_code 51 = .ok (.getfield 33, 3) := by decide +kernel
theorem dX8_code_54 : decode cX8_code 54 = .ok (.iload_n 1, 1) := by decide +kernel
theorem dX8_code_55 : decode cX8_code 55 = .ok (.iaload, 1) := by decide +kernel
theorem dX8_code_56 : decode cX8_code 56 = .ok (.goto 9, 3) := by decide +kernel
theorem dX8_code_59 : decode cX8_code 59 = .ok (.aload_n 0, 1) := by decide +kernel
theorem dX8_code_60 : decode cX8_code 60 = .ok (.getfield 36, 3) := by decide +kernel
theorem dX8_code_63 : decode cX8_code 63 = .ok (.iload_n 1, 1) := by decide +kernel
theorem dX8_code_64 : decode cX8_code 64 = .ok (.iaload, 1) := by decide +kernel
theorem dX8_code_65 : decode cX8_code 65 = .ok (.ireturn, 1) := by decide +kernel
set_option maxRecDepth 20000 in
theorem ggX8_string_X8_in : GoodIn wsX8_string wsX8_in := goodIn_r _ [10] (by decide +kernel) (by decide +kernel)
set_option maxRecDepth 20000 in
theorem gX8_string_X8_in : GoodIn wsX8_string (va_wsS RX8 57 yX8_in wsX8_in) := goodIn_app (goodIn_of _ (by decide +kernel)) ggX8_string_X8_in
set_option maxRecDepth 20000 in
theorem ggX8_string_X8_pack : GoodIn wsX8_string wsX8_pack := goodIn_r _ [14, 15, 16, 17, 18, 19, 20, 2, 21, 22, 6, 4, 5, 3, 23, 1, 24, 25, 26, 9, 27, 28, 29, 30, 31, 32, 33, 34, 35, 36, 37, 38, 39, 40, 41, 42, 43, 44, 45, 46, 47, 48, 49, 50, 51, 52, 53, 54, 55, 56, 57, 58, 59, 60, 61, 62, 63, 64, 65, 66, 67, 68, 69, 70, 71, 72, 73, 74, 75, 76, 77, 78, 79, 80, 81, 82, 83] (by decide +kernel) (by decide +kernel)
set_option maxRecDepth 20000 in
theorem gX8_string_X8_pack : GoodIn wsX8_string (wsV RX8 110 RX8 yX8_pack wsX8_pack) := goodIn_app (goodIn_of _ (by decide +kernel)) ggX8_string_X8_pack
set_option maxRecDepth 20000 in
theorem ggX8_string_X8_firstNumber : GoodIn wsX8_string wsX8_firstNumber := goodIn_r _ [47, 1, 21, 56, 57, 58, 59, 60, 61, 62, 63, 64, 65, 66, 67, 68, 69, 70, 71, 72, 73, 74, 75, 76, 77, 78, 79, 80, 81, 82, 83] (by decide +kernel) (by decide +kernel)
set_option maxRecDepth 20000 in
theorem gX8_string_X8_firstNumber : GoodIn wsX8_string (wsV RX8 64 RX8 yX8_firstNumber wsX8_firstNumber) := goodIn_app (goodIn_of _ (by decide +kernel)) ggX8_string_X8_firstNumber
theorem dX8_string_0 : decode cX8_string 0 = .ok (.iload_n 2, 1) := by decide +kernel
theorem dX8_string_1 : decode cX8_string 1 = .ok (.iconst 0, 1) := by decide +kernel
theorem dX8_string_2 : decode cX8_string 2 = .ok (.iconst 2, 1) := by decide +kernel
theorem dX8_string_3 : decode cX8_string 3 = .ok (.invokestatic 57, 3) := by decide +kernel
theorem dX8_string_6 : decode cX8_string 6 = .ok (.ifCond .ne 6, 3) := by decide +kernel
theorem dX8_string_9 : decode cX8_string 9 = .ok (.bipush (-2), 2) := by decide +kernel
theorem dX8_string_11 : decode cX8_string 11 = .ok (.ireturn, 1) := by decide +kernel
theorem dX8_string_12 : decode cX8_string 12 = .ok (.aload_n 0, 1) := by decide +kernel
theorem dX8_string_13 : decode cX8_string 13 = .ok (.invokevirtual 110, 3) := by decide +kernel
theorem dX8_string_16 : decode cX8_string 16 = .ok (.iload_n 1, 1) := by decide +kernel
theorem dX8_string_17 : decode cX8_string 17 = .ok (.iconst 0, 1) := by decide +kernel
theorem dX8_string_18 : decode cX8_string 18 = .ok (.iconst 1, 1) := by decide +kernel
theorem dX8_string_19 : decode cX8_string 19 = .ok (.aload_n 0, 1) := by decide +kernel
theorem dX8_string_20 : decode cX8_string 20 = .ok (.getfield 7, 3) := by decide +kernel
theorem dX8_string_23 : decode cX8_string 23 = .ok (.ishl, 1) := by decide +kernel
theorem dX8_string_24 : decode cX8_string 24 = .ok (.iconst 1, 1) := by decide +kernel
theorem dX8_string_25 : decode cX8_string 25 = .ok (.isub, 1) := by decide +kernel
theorem dX8_string_26 : decode cX8_string 26 = .ok (.invokestatic 57, 3) := by decide +kernel
theorem dX8_string_29 : decode cX8_string 29 = .ok (.ifCond .eq 22, 3) := by decide +kernel
theorem dX8_string_32 : decode cX8_string 32 = .ok (.iload_n 2, 1) := by decide +kernel
theorem dX8_string_33 : decode cX8_string 33 = .ok (.ifCond .ne 7, 3) := by decide +kernel
theorem dX8_string_36 : decode cX8_string 36 = .ok (.iconst (-1), 1) := by decide +kernel
theorem dX8_string_37 : decode cX8_string 37 = .ok (.goto 13, 3) := by decide +kernel
theorem dX8_string_40 : decode cX8_string 40 = .ok (.iload_n 2, 1) := by decide +kernel
theorem dX8_string_41 : decode cX8_string 41 = .ok (.iconst 1, 1) := by decide +kernel
theorem dX8_string_42 : decode cX8_string 42 = .ok (.if_icmp .ne 7, 3) := by decide +kernel
theorem dX8_string_45 : decode cX8_string 45 = .ok (.iload_n 1, 1) := by decide +kernel
theorem dX8_string_46 : decode cX8_string 46 = .ok (.goto 4, 3) := by decide +kernel
theorem dX8_string_49 : decode cX8_string 49 = .ok (.iconst 1, 1) := by decide +kernel
theorem dX8_string_50 : decode cX8_string 50 = .ok (.ireturn, 1) := by decide +kernel
theorem dX8_string_51 : decode cX8_string 51 = .ok (.iload_n 1, 1) := by decide +kernel
theorem dX8_string_52 : decode cX8_string 52 = .ok (.aload_n 0, 1) := by decide +kernel
theorem dX8_string_53 : decode cX8_string 53 = .ok (.invokevirtual 64, 3) := by decide +kernel
theorem dX8_string_56 : decode cX8_string 56 = .ok (.isub, 1) := by decide +kernel
theorem dX8_string_57 : decode cX8_string 57 = .ok (.istore_n 3, 1) := by decide +kernel
theorem dX8_string_58 : decode cX8_string 58 = .ok (.iload_n 3, 1) := by decide +kernel
theorem dX8_string_59 : decode cX8_string 59 = .ok (.iconst 0, 1) := by decide +kernel
theorem dX8_string_60 : decode cX8_string 60 = .ok (.aload_n 0, 1) := by decide +kernel
theorem dX8_string_61 : decode cX8_string 61 = .ok (.getfield 100, 3) := by decide +kernel
theorem dX8_string_64 : decode cX8_string 64 = .ok (.iconst 1, 1) := by decide +kernel
theorem dX8_string_65 : decode cX8_string 65 = .ok (.isub, 1) := by decide +kernel
theorem dX8_string_66 : decode cX8_string 66 = .ok (.invokestatic 57, 3) := by decide +kernel
theorem dX8_string_69 : decode cX8_string 69 = .ok (.ifCond .ne 5, 3) := by decide +kernel
theorem dX8_string_72 : decode cX8_string 72 = .ok (.iconst (-1), 1) := by decide +kernel
theorem dX8_string_73 : decode cX8_string 73 = .ok (.ireturn, 1) := by decide +kernel
theorem dX8_string_74 : decode cX8_string 74 = .ok (.iload_n 2, 1) := by decide +kernel
theorem dX8_string_75 : decode cX8_string 75 = .ok (.ifCond .ne 12, 3) := by decide +kernel
theorem dX8_string_78 : decode cX8_string 78 = .ok (.aload_n 0, 1) := by decide +kernel
theorem dX8_string_79 : decode cX8_string 79 = .ok (.getfield 45, 3) := by decide +kernel
theorem dX8_string_82 : decode cX8_string 82 = .ok (.iload_n 3, 1) := by decide +kernel
theorem dX8_string_83 : decode cX8_string 83 = .ok (.iaload, 1) := by decide +kernel
theorem dX8_string_84 : decode cX8_string 84 = .ok (.goto 37, 3) := by decide +kernel
theorem dX8_string_87 : decode cX8_string 87 = .ok (.iload_n 2, 1) := by decide +kernel
theorem dX8_string_88 : decode cX8_string 88 = .ok (.iconst 1, 1) := by decide +kernel
theorem dX8_string_89 : decode cX8_string 89 = .ok (.if_icmp .ne 26, 3) := by decide +kernel
theorem dX8_string_92 : decode cX8_string 92 = .ok (.aload_n 0, 1) := by decide +kernel
theorem dX8_string_93 : decode cX8_string 93 = .ok (.getfield 19, 3) := by decide +kernel
theorem dX8_string_96 : decode cX8_string 96 = .ok (.aload_n 0, 1) := by decide +kernel
theorem dX8_string_97 : decode cX8_string 97 = .ok (.getfield 39, 3) := by decide +kernel
theorem dX8_string_100 : decode cX8_string 100 = .ok (.iload_n 3, 1) := by decide +kernel
theorem dX8_string_101 : decode cX8_string 101 = .ok (.iaload, 1) := by decide +kernel
theorem dX8_string_102 : decode cX8_string 102 = .ok (.aload_n 0, 1) := by decide +kernel
theorem dX8_string_103 : decode cX8_string 103 = .ok (.getfield 42, 3) := by decide +kernel
theorem dX8_string_106 : decode cX8_string 106 = .ok (.iload_n 3, 1) := by decide +kernel
theorem dX8_string_107 : decode cX8_string 107 = .ok (.iaload, 1) := by decide +kernel
theorem dX8_string_108 : decode cX8_string 108 = .ok (.iadd, 1) := by decide +kernel
theorem dX8_string_109 : decode cX8_string 109 = .ok (.iconst 1, 1) := by decide +kernel
theorem dX8_string_110 : decode cX8_string 110 = .ok (.isub, 1) := by decide +kernel
theorem dX8_string_111 : decode cX8_string 111 = .ok (.iaload, 1) := by decide +kernel
theorem dX8_string_112 : decode cX8_string 112 = .ok (.goto 9, 3) := by decide +kernel
theorem dX8_string_115 : decode cX8_string 115 = .ok (.aload_n 0, 1) := by decide +kernel
theorem dX8_string_116 : decode cX8_string 116 = .ok (.getfield 42, 3) := by decide +kernel
theorem dX8_string_119 : decode cX8_string 119 = .ok (.iload_n 3, 1) := by decide +kernel
theorem dX8_string_120 : decode cX8_string 120 = .ok (.iaload, 1) := by decide +kernel
theorem dX8_string_121 : decode cX8_string 121 = .ok (.ireturn, 1) := by decide +kernel
set_option maxRecDepth 20000 in
theorem ggX8_write_X8_pack : GoodIn wsX8_write wsX8_pack := goodIn_r _ [13, 14, 4, 1, 15, 16, 17, 18, 6, 19, 20, 21, 22, 23, 24, 25, 26, 27, 28, 12, 29, 30, 31, 32, 33, 8, 5, 7, 34, 35, 36, 37, 38, 39, 40, 41, 42, 43, 44, 45, 46, 47, 48, 49, 50, 51, 52, 53, 54, 59, 60, 61, 62, 63, 64, 65, 66, 67, 68, 69, 70, 71, 72, 73, 74, 75, 76, 77, 78, 79, 80, 81, 82, 83, 84, 85, 86] (by decide +kernel) (by decide +kernel)
set_option maxRecDepth 20000 in
theorem gX8_write_X8_pack : GoodIn wsX8_write (wsV RX8 110 RX8 yX8_pack wsX8_pack) := goodIn_app (goodIn_of _ (by decide +kernel)) ggX8_write_X8_pack
set_option maxRecDepth 20000 in
theorem ggX8_write_X8_turnTape : GoodIn wsX8_write wsX8_turnTape := goodIn_r _ [58, 2, 6, 3, 59, 60, 61, 62, 63, 64, 65, 66, 67, 68, 69, 70, 71, 72, 73, 74, 75, 76, 77, 78, 79, 80, 81, 82, 83, 84, 85, 86] (by decide +kernel) (by decide +kernel)
set_option maxRecDepth 20000 in
theorem gX8_write_X8_turnTape : GoodIn wsX8_write (wsV RX8 116 RX8 yX8_turnTape wsX8_turnTape) := goodIn_app (goodIn_of _ (by decide +kernel)) ggX8_write_X8_turnTape
theorem dX8_write_0 : decode cX8_write 0 = .ok (.aload_n 0, 1) := by decide +kernel
theorem dX8_write_1 : decode cX8_write 1 = .ok (.invokevirtual 110, 3) := by decide +kernel
theorem dX8_write_4 : decode cX8_write 4 = .ok (.aload_n 0, 1) := by decide +kernel
theorem dX8_write_5 : decode cX8_write 5 = .ok (.getfield 87, 3) := by decide +kernel
theorem dX8_write_8 : decode cX8_write 8 = .ok (.bipush 7, 2) := by decide +kernel
theorem dX8_write_10 : decode cX8_write 10 = .ok (.iadd, 1) := by decide +kernel
theorem dX8_write_11 : decode cX8_write 11 = .ok (.bipush 8, 2) := by decide +kernel
theorem dX8_write_13 : decode cX8_write 13 = .ok (.idiv, 1) := by decide +kernel
theorem dX8_write_14 : decode cX8_write 14 = .ok (.istore_n 1, 1) := by decide +kernel
theorem dX8_write_15 : decode cX8_write 15 = .ok (.iload_n 1, 1) := by decide +kernel
theorem dX8_write_16 : decode cX8_write 16 = .ok (.sipush 400, 3) := by decide +kernel
theorem dX8_write_19 : decode cX8_write 19 = .ok (.if_icmp .le 6, 3) := by decide +kernel
theorem dX8_write_22 : decode cX8_write 22 = .ok (.bipush (-4), 2) := by decide +kernel
theorem dX8_write_24 : decode cX8_write 24 = .ok (.ireturn, 1) := by decide +kernel
theorem dX8_write_25 : decode cX8_write 25 = .ok (.aload_n 0, 1) := by decide +kernel
theorem dX8_write_26 : decode cX8_write 26 = .ok (.iload_n 1, 1) := by decide +kernel
theorem dX8_write_27 : decode cX8_write 27 = .ok (.putfield 113, 3) := by decide +kernel
theorem dX8_write_30 : decode cX8_write 30 = .ok (.iconst 0, 1) := by decide +kernel
theorem dX8_write_31 : decode cX8_write 31 = .ok (.istore_n 2, 1) := by decide +kernel
theorem dX8_write_32 : decode cX8_write 32 = .ok (.iload_n 2, 1) := by decide +kernel
theorem dX8_write_33 : decode cX8_write 33 = .ok (.bipush 8, 2) := by decide +kernel
theorem dX8_write_35 : decode cX8_write 35 = .ok (.iload_n 1, 1) := by decide +kernel
theorem dX8_write_36 : decode cX8_write 36 = .ok (.imul, 1) := by decide +kernel
theorem dX8_write_37 : decode cX8_write 37 = .ok (.if_icmp .ge 16, 3) := by decide +kernel
theorem dX8_write_40 : decode cX8_write 40 = .ok (.aload_n 0, 1) := by decide +kernel
theorem dX8_write_41 : decode cX8_write 41 = .ok (.getfield 23, 3) := by decide +kernel
theorem dX8_write_44 : decode cX8_write 44 = .ok (.iload_n 2, 1) := by decide +kernel
theorem dX8_write_45 : decode cX8_write 45 = .ok (.iconst 0, 1) := by decide +kernel
theorem dX8_write_46 : decode cX8_write 46 = .ok (.bastore, 1) := by decide +kernel
theorem dX8_write_47 : decode cX8_write 47 = .ok (.iinc 2 1, 3) := by decide +kernel
theorem dX8_write_50 : decode cX8_write 50 = .ok (.goto (-18), 3) := by decide +kernel
theorem dX8_write_53 : decode cX8_write 53 = .ok (.iconst 0, 1) := by decide +kernel
theorem dX8_write_54 : decode cX8_write 54 = .ok (.istore_n 2, 1) := by decide +kernel
theorem dX8_write_55 : decode cX8_write 55 = .ok (.iload_n 2, 1) := by decide +kernel
theorem dX8_write_56 : decode cX8_write 56 = .ok (.aload_n 0, 1) := by decide +kernel
theorem dX8_write_57 : decode cX8_write 57 = .ok (.getfield 84, 3) := by decide +kernel
theorem dX8_write_60 : decode cX8_write 60 = .ok (.if_icmp .ge 84, 3) := by decide +kernel
theorem dX8_write_63 : decode cX8_write 63 = .ok (.iconst 0, 1) := by decide +kernel
theorem dX8_write_64 : decode cX8_write 64 = .ok (.istore_n 3, 1) := by decide +kernel
theorem dX8_write_65 : decode cX8_write 65 = .ok (.iload_n 3, 1) := by decide +kernel
theorem dX8_write_66 : decode cX8_write 66 = .ok (.aload_n 0, 1) := by decide +kernel
theorem dX8_write_67 : decode cX8_write 67 = .ok (.getfield 33, 3) := by decide +kernel
theorem dX8_write_70 : decode cX8_write 70 = .ok (.iload_n 2, 1) := by decide +kernel
theorem dX8_write_71 : decode cX8_write 71 = .ok (.iaload, 1) := by decide +kernel
theorem dX8_write_72 : decode cX8_write 72 = .ok (.if_icmp .ge 66, 3) := by decide +kernel
theorem dX8_write_75 : decode cX8_write 75 = .ok (.aload_n 0, 1) := by decide +kernel
theorem dX8_write_76 : decode cX8_write 76 = .ok (.getfield 54, 3) := by decide +kernel
theorem dX8_write_79 : decode cX8_write 79 = .ok (.iconst 1, 1) := by decide +kernel
theorem dX8_write_80 : decode cX8_write 80 = .ok (.if_icmp .ne 16, 3) := by decide +kernel
theorem dX8_write_83 : decode cX8_write 83 = .ok (.aload_n 0, 1) := by decide +kernel
theorem dX8_write_84 : decode cX8_write 84 = .ok (.getfield 33, 3) := by decide +kernel
theorem dX8_write_87 : decode cX8_write 87 = .ok (.iload_n 2, 1) := by decide +kernel
theorem dX8_write_88 : decode cX8_write 88 = .ok (.iaload, 1) := by decide +kernel
theorem dX8_write_89 : decode cX8_write 89 = .ok (.iconst 1, 1) := by decide +kernel
theorem dX8_write_90 : decode cX8_write 90 = .ok (.isub, 1) := by decide +kernel
theorem dX8_write_91 : decode cX8_write 91 = .ok (.iload_n 3, 1) := by decide +kernel
theorem dX8_write_92 : decode cX8_write 92 = .ok (.isub, 1) := by decide +kernel
theorem dX8_write_93 : decode cX8_write 93 = .ok (.goto 4, 3) := by decide +kernel
theorem dX8_write_96 : decode cX8_write 96 = .ok (.iload_n 3, 1) := by decide +kernel
theorem dX8_write_97 : decode cX8_write 97 = .ok (.istore 4, 2) := by decide +kernel
theorem dX8_write_99 : decode cX8_write 99 = .ok (.aload_n 0, 1) := by decide +kernel
theorem dX8_write_100 : decode cX8_write 100 = .ok (.getfield 23, 3) := by decide +kernel
theorem dX8_write_103 : decode cX8_write 103 = .ok (.aload_n 0, 1) := by decide +kernel
theorem dX8_write_104 : decode cX8_write 104 = .ok (.getfield 36, 3) := by decide +kernel
theorem dX8_write_107 : decode cX8_write 107 = .ok (.iload_n 2, 1) := by decide +kernel
theorem dX8_write_108 : decode cX8_write 108 = .ok (.iaload, 1) := by decide +kernel
theorem dX8_write_109 : decode cX8_write 109 = .ok (.iload_n 3, 1) := by decide +kernel
theorem dX8_write_110 : decode cX8_write 110 = .ok (.iadd, 1) := by decide +kernel
theorem dX8_write_111 : decode cX8_write 111 = .ok (.aload_n 0, 1) := by decide +kernel
theorem dX8_write_112 : decode cX8_write 112 = .ok (.getfield 30, 3) := by decide +kernel
theorem dX8_write_115 : decode cX8_write 115 = .ok (.iload_n 2, 1) := by decide +kernel
theorem dX8_write_116 : decode cX8_write 116 = .ok (.iaload, 1) := by decide +kernel
theorem dX8_write_117 : decode cX8_write 117 = .ok (.iload 4, 2) := by decide +kernel
theorem dX8_write_119 : decode cX8_write 119 = .ok (.ishr, 1) := by decide +kernel
theorem dX8_write_120 : decode cX8_write 120 = .ok (.iconst 1, 1) := by decide +kernel
theorem dX8_write_121 : decode cX8_write 121 = .ok (.iand, 1) := by decide +kernel
theorem dX8_write_122 : decode cX8_write 122 = .ok (.iconst 1, 1) := by decide +kernel
theorem dX8_write_123 : decode cX8_write 123 = .ok (.if_icmp .ne 7, 3) := by decide +kernel
theorem dX8_write_126 : decode cX8_write 126 = .ok (.iconst 1, 1) := by decide +kernel
theorem dX8_write_127 : decode cX8_write 127 = .ok (.goto 4, 3) := by decide +kernel
theorem dX8_write_130 : decode cX8_write 130 = .ok (.iconst 0, 1) := by decide +kernel
theorem dX8_write_131 : decode cX8_write 131 = .ok (.bastore, 1) := by decide +kernel
theorem dX8_write_132 : decode cX8_write 132 = .ok (.iinc 3 1, 3) := by decide +kernel
theorem dX8_write_135 : decode cX8_write 135 = .ok (.goto (-70), 3) := by decide +kernel
theorem dX8_write_138 : decode cX8_write 138 = .ok (.iinc 2 1, 3) := by decide +kernel
theorem dX8_write_141 : decode cX8_write 141 = .ok (.goto (-86), 3) := by decide +kernel
theorem dX8_write_144 : decode cX8_write 144 = .ok (.aload_n 0, 1) := by decide +kernel
theorem dX8_write_145 : decode cX8_write 145 = .ok (.invokevirtual 116, 3) := by decide +kernel
theorem dX8_write_148 : decode cX8_write 148 = .ok (.aload_n 0, 1) := by decide +kernel
theorem dX8_write_149 : decode cX8_write 149 = .ok (.getfield 113, 3) := by decide +kernel
theorem dX8_write_152 : decode cX8_write 152 = .ok (.ireturn, 1) := by decide +kernel
theorem dX8_turnTape_0 : decode cX8_turnTape 0 = .ok (.iconst 0, 1) := by decide +kernel
theorem dX8_turnTape_1 : decode cX8_turnTape 1 = .ok (.istore_n 1, 1) := by decide +kernel
theorem dX8_turnTape_2 : decode cX8_turnTape 2 = .ok (.iload_n 1, 1) := by decide +kernel
theorem dX8_turnTape_3 : decode cX8_turnTape 3 = .ok (.aload_n 0, 1) := by decide +kernel
theorem dX8_turnTape_4 : decode cX8_turnTape 4 = .ok (.getfield 113, 3) := by decide +kernel
theorem dX8_turnTape_7 : decode cX8_turnTape 7 = .ok (.if_icmp .ge 82, 3) := by decide +kernel
theorem dX8_turnTape_10 : decode cX8_turnTape 10 = .ok (.aload_n 0, 1) := by decide +kernel
theorem dX8_turnTape_11 : decode cX8_turnTape 11 = .ok (.getfield 54, 3) := by decide +kernel
theorem dX8_turnTape_14 : decode cX8_turnTape 14 = .ok (.iconst 1, 1) := by decide +kernel
theorem dX8_turnTape_15 : decode cX8_turnTape 15 = .ok (.if_icmp .ne 74, 3) := by decide +kernel
theorem dX8_turnTape_18 : decode cX8_turnTape 18 = .ok (.iconst 0, 1) := by decide +kernel
theorem dX8_turnTape_19 : decode cX8_turnTape 19 = .ok (.istore_n 2, 1) := by decide +kernel
theorem dX8_turnTape_20 : decode cX8_turnTape 20 = .ok (.iload_n 2, 1) := by decide +kernel
theorem dX8_turnTape_21 : decode cX8_turnTape 21 = .ok (.iconst 4, 1) := by decide +kernel
theorem dX8_turnTape_22 : decode cX8_turnTape 22 = .ok (.if_icmp .ge 61, 3) := by decide +kernel
theorem dX8_turnTape_25 : decode cX8_turnTape 25 = .ok (.aload_n 0, 1) := by decide +kernel
theorem dX8_turnTape_26 : decode cX8_turnTape 26 = .ok (.getfield 23, 3) := by decide +kernel
theorem dX8_turnTape_29 : decode cX8_turnTape 29 = .ok (.bipush 8, 2) := by decide +kernel
theorem dX8_turnTape_31 : decode cX8_turnTape 31 = .ok (.iload_n 1, 1) := by decide +kernel
theorem dX8_turnTape_32 : decode cX8_turnTape 32 = .ok (.imul, 1) := by decide +kernel
theorem dX8_turnTape_33 : decode cX8_turnTape 33 = .ok (.iload_n 2, 1) := by decide +kernel
theorem dX8_turnTape_34 : decode cX8_turnTape 34 = .ok (.iadd, 1) := by decide +kernel
theorem dX8_turnTape_35 : decode cX8_turnTape 35 = .ok (.baload, 1) := by decide +kernel
theorem dX8_turnTape_36 : decode cX8_turnTape 36 = .ok (.istore_n 3, 1) := by decide +kernel
theorem dX8_turnTape_37 : decode cX8_turnTape 37 = .ok (.aload_n 0, 1) := by decide +kernel
theorem dX8_turnTape_38 : decode cX8_turnTape 38 = .ok (.getfield 23, 3) := by decide +kernel
theorem dX8_turnTape_41 : decode cX8_turnTape 41 = .ok (.bipush 8, 2) := by decide +kernel
theorem dX8_turnTape_43 : decode cX8_turnTape 43 = .ok (.iload_n 1, 1) := by decide +kernel
theorem dX8_turnTape_44 : decode cX8_turnTape 44 = .ok (.imul, 1) := by decide +kernel
theorem dX8_turnTape_45 : decode cX8_turnTape 45 = .ok (.iload_n 2, 1) := by decide +kernel
theorem dX8_turnTape_46 : decode cX8_turnTape 46 = .ok (.iadd, 1) := by decide +kernel
theorem dX8_turnTape_47 : decode cX8_turnTape 47 = .ok (.aload_n 0, 1) := by decide +kernel
theorem dX8_turnTape_48 : decode cX8_turnTape 48 = .ok (.getfield 23, 3) := by decide +kernel
theorem dX8_turnTape_51 : decode cX8_turnTape 51 = .ok (.bipush 8, 2) := by decide +kernel
theorem dX8_turnTape_53 : decode cX8_turnTape 53 = .ok (.iload_n 1, 1) := by decide +kernel
theorem dX8_turnTape_54 : decode cX8_turnTape 54 = .ok (.imul, 1) := by decide +kernel
theorem dX8_turnTape_55 : decode cX8_turnTape 55 = .ok (.bipush 7, 2) := by decide +kernel
theorem dX8_turnTape_57 : decode cX8_turnTape 57 = .ok (.iadd, 1) := by decide +kernel
theorem dX8_turnTape_58 : decode cX8_turnTape 58 = .ok (.iload_n 2, 1) := by decide +kernel
theorem dX8_turnTape_59 : decode cX8_turnTape 59 = .ok (.isub, 1) := by decide +kernel
theorem dX8_turnTape_60 : decode cX8_turnTape 60 = .ok (.baload, 1) := by decide +kernel
theorem dX8_turnTape_61 : decode cX8_turnTape 61 = .ok (.bastore, 1) := by decide +kernel
theorem dX8_turnTape_62 : decode cX8_turnTape 62 = .ok (.aload_n 0, 1) := by decide +kernel
theorem dX8_turnTape_63 : decode cX8_turnTape 63 = .ok (.getfield 23, 3) := by decide +kernel
theorem dX8_turnTape_66 : decode cX8_turnTape 66 = .ok (.bipush 8, 2) := by decide +kernel
theorem dX8_turnTape_68 : decode cX8_turnTape 68 = .ok (.iload_n 1, 1) := by decide +kernel
theorem dX8_turnTape_69 : decode cX8_turnTape 69 = .ok (.imul, 1) := by decide +kernel
theorem dX8_turnTape_70 : decode cX8_turnTape 70 = .ok (.bipush 7, 2) := by decide +kernel
theorem dX8_turnTape_72 : decode cX8_turnTape 72 = .ok (.iadd, 1) := by decide +kernel
theorem dX8_turnTape_73 : decode cX8_turnTape 73 = .ok (.iload_n 2, 1) := by decide +kernel
theorem dX8_turnTape_74 : decode cX8_turnTape 74 = .ok (.isub, 1) := by decide +kernel
theorem dX8_turnTape_75 : decode cX8_turnTape 75 = .ok (.iload_n 3, 1) := by decide +kernel
theorem dX8_turnTape_76 : decode cX8_turnTape 76 = .ok (.bastore, 1) := by decide +kernel
theorem dX8_turnTape_77 : decode cX8_turnTape 77 = .ok (.iinc 2 1, 3) := by decide +kernel
theorem dX8_turnTape_80 : decode cX8_turnTape 80 = .ok (.goto (-60), 3) := by decide +kernel
theorem dX8_turnTape_83 : decode cX8_turnTape 83 = .ok (.iinc 1 1, 3) := by decide +kernel
theorem dX8_turnTape_86 : decode cX8_turnTape 86 = .ok (.goto (-84), 3) := by decide +kernel
theorem dX8_turnTape_89 : decode cX8_turnTape 89 = .ok (.return_, 1) := by decide +kernel
set_option maxRecDepth 20000 in
theorem ggX8_more_X8_in : GoodIn wsX8_more wsX8_in := goodIn_r _ [6] (by decide +kernel) (by decide +kernel)
set_option maxRecDepth 20000 in
theorem gX8_more_X8_in : GoodIn wsX8_more (va_wsS RX8 57 yX8_in wsX8_in) := goodIn_app (goodIn_of _ (by decide +kernel)) ggX8_more_X8_in
theorem dX8_more_0 : decode cX8_more 0 = .ok (.iload_n 1, 1) := by decide +kernel
theorem dX8_more_1 : decode cX8_more 1 = .ok (.iconst 0, 1) := by decide +kernel
theorem dX8_more_2 : decode cX8_more 2 = .ok (.sipush 255, 3) := by decide +kernel
theorem dX8_more_5 : decode cX8_more 5 = .ok (.invokestatic 57, 3) := by decide +kernel
theorem dX8_more_8 : decode cX8_more 8 = .ok (.ifCond .ne 6, 3) := by decide +kernel
theorem dX8_more_11 : decode cX8_more 11 = .ok (.bipush (-2), 2) := by decide +kernel
theorem dX8_more_13 : decode cX8_more 13 = .ok (.ireturn, 1) := by decide +kernel
theorem dX8_more_14 : decode cX8_more 14 = .ok (.aload_n 0, 1) := by decide +kernel
theorem dX8_more_15 : decode cX8_more 15 = .ok (.getfield 113, 3) := by decide +kernel
theorem dX8_more_18 : decode cX8_more 18 = .ok (.sipush 400, 3) := by decide +kernel
theorem dX8_more_21 : decode cX8_more 21 = .ok (.if_icmp .ne 6, 3) := by decide +kernel
theorem dX8_more_24 : decode cX8_more 24 = .ok (.bipush (-4), 2) := by decide +kernel
theorem dX8_more_26 : decode cX8_more 26 = .ok (.ireturn, 1) := by decide +kernel
theorem dX8_more_27 : decode cX8_more 27 = .ok (.iconst 0, 1) := by decide +kernel
theorem dX8_more_28 : decode cX8_more 28 = .ok (.istore_n 2, 1) := by decide +kernel
theorem dX8_more_29 : decode cX8_more 29 = .ok (.iload_n 2, 1) := by decide +kernel
theorem dX8_more_30 : decode cX8_more 30 = .ok (.bipush 8, 2) := by decide +kernel
theorem dX8_more_32 : decode cX8_more 32 = .ok (.if_icmp .ge 37, 3) := by decide +kernel
theorem dX8_more_35 : decode cX8_more 35 = .ok (.aload_n 0, 1) := by decide +kernel
theorem dX8_more_36 : decode cX8_more 36 = .ok (.getfield 23, 3) := by decide +kernel
theorem dX8_more_39 : decode cX8_more 39 = .ok (.bipush 8, 2) := by decide +kernel
theorem dX8_more_41 : decode cX8_more 41 = .ok (.aload_n 0, 1) := by decide +kernel
theorem dX8_more_42 : decode cX8_more 42 = .ok (.getfield 113, 3) := by decide +kernel
theorem dX8_more_45 : decode cX8_more 45 = .ok (.imul, 1) := by decide +kernel
theorem dX8_more_46 : decode cX8_more 46 = .ok (.iload_n 2, 1) := by decide +kernel
theorem dX8_more_47 : decode cX8_more 47 = .ok (.iadd, 1) := by decide +kernel
theorem dX8_more_48 : decode cX8_more 48 = .ok (.iload_n 1, 1) := by decide +kernel
theorem dX8_more_49 : decode cX8_more 49 = .ok (.iload_n 2, 1) := by decide +kernel
theorem dX8_more_50 : decode cX8_more 50 = .ok (.ishr, 1) := by decide +kernel
theorem dX8_more_51 : decode cX8_more 51 = .ok (.iconst 1, 1) := by decide +kernel
theorem dX8_more_52 : decode cX8_more 52 = .ok (.iand, 1) := by decide +kernel
theorem dX8_more_53 : decode cX8_more 53 = .ok (.iconst 1, 1) := by decide +kernel
theorem dX8_more_54 : decode cX8_more 54 = .ok (.if_icmp .ne 7, 3) := by decide +kernel
theorem dX8_more_57 : decode cX8_more 57 = .ok (.iconst 1, 1) := by decide +kernel
theorem dX8_more_58 : decode cX8_more 58 = .ok (.goto 4, 3) := by decide +kernel
theorem dX8_more_61 : decode cX8_more 61 = .ok (.iconst 0, 1) := by decide +kernel
theorem dX8_more_62 : decode cX8_more 62 = .ok (.bastore, 1) := by decide +kernel
theorem dX8_more_63 : decode cX8_more 63 = .ok (.iinc 2 1, 3) := by decide +kernel
theorem dX8_more_66 : decode cX8_more 66 = .ok (.goto (-37), 3) := by decide +kernel
theorem dX8_more_69 : decode cX8_more 69 = .ok (.aload_n 0, 1) := by decide +kernel
theorem dX8_more_70 : decode cX8_more 70 = .ok (.dup, 1) := by decide +kernel
theorem dX8_more_71 : decode cX8_more 71 = .ok (.getfield 113, 3) := by decide +kernel
theorem dX8_more_74 : decode cX8_more 74 = .ok (.iconst 1, 1) := by decide +kernel
theorem dX8_more_75 : decode cX8_more 75 = .ok (.iadd, 1) := by decide +kernel
theorem dX8_more_76 : decode cX8_more 76 = .ok (.putfield 113, 3) := by decide +kernel
theorem dX8_more_79 : decode cX8_more 79 = .ok (.aload_n 0, 1) := by decide +kernel
theorem dX8_more_80 : decode cX8_more 80 = .ok (.getfield 113, 3) := by decide +kernel
theorem dX8_more_83 : decode cX8_more 83 = .ok (.ireturn, 1) := by decide +kernel
set_option maxRecDepth 20000 in
theorem ggX8_cut_X8_in : GoodIn wsX8_cut wsX8_in := goodIn_r _ [5] (by decide +kernel) (by decide +kernel)
set_option maxRecDepth 20000 in
theorem gX8_cut_X8_in : GoodIn wsX8_cut (va_wsS RX8 57 yX8_in wsX8_in) := goodIn_app (goodIn_of _ (by decide +kernel)) ggX8_cut_X8_in
theorem dX8_cut_0 : decode cX8_cut 0 = .ok (.iload_n 1, 1) := by decide +kernel
theorem dX8_cut_1 : decode cX8_cut 1 = .ok (.iconst 0, 1) := by decide +kernel
theorem dX8_cut_2 : decode cX8_cut 2 = .ok (.aload_n 0, 1) := by decide +kernel
theorem dX8_cut_3 : decode cX8_cut 3 = .ok (.getfield 113, 3) := by decide +kernel
theorem dX8_cut_6 : decode cX8_cut 6 = .ok (.invokestatic 57, 3) := by decide +kernel
theorem dX8_cut_9 : decode cX8_cut 9 = .ok (.ifCond .ne 6, 3) := by decide +kernel
theorem dX8_cut_12 : decode cX8_cut 12 = .ok (.bipush (-2), 2) := by decide +kernel
theorem dX8_cut_14 : decode cX8_cut 14 = .ok (.ireturn, 1) := by decide +kernel
theorem dX8_cut_15 : decode cX8_cut 15 = .ok (.aload_n 0, 1) := by decide +kernel
theorem dX8_cut_16 : decode cX8_cut 16 = .ok (.getfield 113, 3) := by decide +kernel
theorem dX8_cut_19 : decode cX8_cut 19 = .ok (.iload_n 1, 1) := by decide +kernel
theorem dX8_cut_20 : decode cX8_cut 20 = .ok (.isub, 1) := by decide +kernel
theorem dX8_cut_21 : decode cX8_cut 21 = .ok (.istore_n 2, 1) := by decide +kernel
theorem dX8_cut_22 : decode cX8_cut 22 = .ok (.aload_n 0, 1) := by decide +kernel
theorem dX8_cut_23 : decode cX8_cut 23 = .ok (.iload_n 1, 1) := by decide +kernel
theorem dX8_cut_24 : decode cX8_cut 24 = .ok (.putfield 113, 3) := by decide +kernel
theorem dX8_cut_27 : decode cX8_cut 27 = .ok (.iload_n 2, 1) := by decide +kernel
theorem dX8_cut_28 : decode cX8_cut 28 = .ok (.ireturn, 1) := by decide +kernel
set_option maxRecDepth 20000 in
theorem ggX8_flip_X8_in : GoodIn wsX8_flip wsX8_in := goodIn_r _ [6] (by decide +kernel) (by decide +kernel)
set_option maxRecDepth 20000 in
theorem gX8_flip_X8_in : GoodIn wsX8_flip (va_wsS RX8 57 yX8_in wsX8_in) := goodIn_app (goodIn_of _ (by decide +kernel)) ggX8_flip_X8_in
set_option maxRecDepth 20000 in
theorem ggX8_flip_X8_octet : GoodIn wsX8_flip wsX8_octet := goodIn_r _ [10, 1, 2, 3, 4, 5, 6, 11, 12, 13, 14, 15, 16, 17, 18, 19, 20, 21, 22, 23, 24, 25, 26, 27, 28, 29, 30, 31, 32, 33, 34, 35, 36, 37, 38] (by decide +kernel) (by decide +kernel)
set_option maxRecDepth 20000 in
theorem gX8_flip_X8_octet : GoodIn wsX8_flip (wsV RX8 119 RX8 yX8_octet wsX8_octet) := goodIn_app (goodIn_of _ (by decide +kernel)) ggX8_flip_X8_octet
theorem dX8_flip_0 : decode cX8_flip 0 = .ok (.iload_n 2, 1) := by decide +kernel
theorem dX8_flip_1 : decode cX8_flip 1 = .ok (.iconst 0, 1) := by decide +kernel
theorem dX8_flip_2 : decode cX8_flip 2 = .ok (.bipush 7, 2) := by decide +kernel
theorem dX8_flip_4 : decode cX8_flip 4 = .ok (.invokestatic 57, 3) := by decide +kernel
theorem dX8_flip_7 : decode cX8_flip 7 = .ok (.ifCond .ne 6, 3) := by decide +kernel
theorem dX8_flip_10 : decode cX8_flip 10 = .ok (.bipush (-2), 2) := by decide +kernel
theorem dX8_flip_12 : decode cX8_flip 12 = .ok (.ireturn, 1) := by decide +kernel
theorem dX8_flip_13 : decode cX8_flip 13 = .ok (.iload_n 1, 1) := by decide +kernel
theorem dX8_flip_14 : decode cX8_flip 14 = .ok (.iconst 0, 1) := by decide +kernel
theorem dX8_flip_15 : decode cX8_flip 15 = .ok (.aload_n 0, 1) := by decide +kernel
theorem dX8_flip_16 : decode cX8_flip 16 = .ok (.getfield 113, 3) := by decide +kernel
theorem dX8_flip_19 : decode cX8_flip 19 = .ok (.iconst 1, 1) := by decide +kernel
theorem dX8_flip_20 : decode cX8_flip 20 = .ok (.isub, 1) := by decide +kernel
theorem dX8_flip_21 : decode cX8_flip 21 = .ok (.invokestatic 57, 3) := by decide +kernel
theorem dX8_flip_24 : decode cX8_flip 24 = .ok (.ifCond .ne 5, 3) := by decide +kernel
theorem dX8_flip_27 : decode cX8_flip 27 = .ok (.iconst (-1), 1) := by decide +kernel
theorem dX8_flip_28 : decode cX8_flip 28 = .ok (.ireturn, 1) := by decide +kernel
theorem dX8_flip_29 : decode cX8_flip 29 = .ok (.aload_n 0, 1) := by decide +kernel
theorem dX8_flip_30 : decode cX8_flip 30 = .ok (.getfield 23, 3) := by decide +kernel
theorem dX8_flip_33 : decode cX8_flip 33 = .ok (.bipush 8, 2) := by decide +kernel
theorem dX8_flip_35 : decode cX8_flip 35 = .ok (.iload_n 1, 1) := by decide +kernel
theorem dX8_flip_36 : decode cX8_flip 36 = .ok (.imul, 1) := by decide +kernel
theorem dX8_flip_37 : decode cX8_flip 37 = .ok (.iload_n 2, 1) := by decide +kernel
theorem dX8_flip_38 : decode cX8_flip 38 = .ok (.iadd, 1) := by decide +kernel
theorem dX8_flip_39 : decode cX8_flip 39 = .ok (.aload_n 0, 1) := by decide +kernel
theorem dX8_flip_40 : decode cX8_flip 40 = .ok (.getfield 23, 3) := by decide +kernel
theorem dX8_flip_43 : decode cX8_flip 43 = .ok (.bipush 8, 2) := by decide +kernel
theorem dX8_flip_45 : decode cX8_flip 45 = .ok (.iload_n 1, 1) := by decide +kernel
theorem dX8_flip_46 : decode cX8_flip 46 = .ok (.imul, 1) := by decide +kernel
theorem dX8_flip_47 : decode cX8_flip 47 = .ok (.iload_n 2, 1) := by decide +kernel
theorem dX8_flip_48 : decode cX8_flip 48 = .ok (.iadd, 1) := by decide +kernel
theorem dX8_flip_49 : decode cX8_flip 49 = .ok (.baload, 1) := by decide +kernel
theorem dX8_flip_50 : decode cX8_flip 50 = .ok (.ifCond .ne 7, 3) := by decide +kernel
theorem dX8_flip_53 : decode cX8_flip 53 = .ok (.iconst 1, 1) := by decide +kernel
theorem dX8_flip_54 : decode cX8_flip 54 = .ok (.goto 4, 3) := by decide +kernel
theorem dX8_flip_57 : decode cX8_flip 57 = .ok (.iconst 0, 1) := by decide +kernel
theorem dX8_flip_58 : decode cX8_flip 58 = .ok (.bastore, 1) := by decide +kernel
theorem dX8_flip_59 : decode cX8_flip 59 = .ok (.aload_n 0, 1) := by decide +kernel
theorem dX8_flip_60 : decode cX8_flip 60 = .ok (.iload_n 1, 1) := by decide +kernel
theorem dX8_flip_61 : decode cX8_flip 61 = .ok (.invokevirtual 119, 3) := by decide +kernel
theorem dX8_flip_64 : decode cX8_flip 64 = .ok (.ireturn, 1) := by decide +kernel
set_option maxRecDepth 20000 in
theorem ggX8_octet_X8_in : GoodIn wsX8_octet wsX8_in := goodIn_r _ [6] (by decide +kernel) (by decide +kernel)
set_option maxRecDepth 20000 in
theorem gX8_octet_X8_in : GoodIn wsX8_octet (va_wsS RX8 57 yX8_in wsX8_in) := goodIn_app (goodIn_of _ (by decide +kernel)) ggX8_octet_X8_in
theorem dX8_octet_0 : decode cX8_octet 0 = .ok (.iload_n 1, 1) := by decide +kernel
theorem dX8_octet_1 : decode cX8_octet 1 = .ok (.iconst 0, 1) := by decide +kernel
theorem dX8_octet_2 : decode cX8_octet 2 = .ok (.aload_n 0, 1) := by decide +kernel
theorem dX8_octet_3 : decode cX8_octet 3 = .ok (.getfield 113, 3) := by decide +kernel
theorem dX8_octet_6 : decode cX8_octet 6 = .ok (.iconst 1, 1) := by decide +kernel
theorem dX8_octet_7 : decode cX8_octet 7 = .ok (.isub, 1) := by decide +kernel
theorem dX8_octet_8 : decode cX8_octet 8 = .ok (.invokestatic 57, 3) := by decide +kernel
theorem dX8_octet_11 : decode cX8_octet 11 = .ok (.ifCond .ne 5, 3) := by decide +kernel
theorem dX8_octet_14 : decode cX8_octet 14 = .ok (.iconst (-1), 1) := by decide +kernel
theorem dX8_octet_15 : decode cX8_octet 15 = .ok (.ireturn, 1) := by decide +kernel
theorem dX8_octet_16 : decode cX8_octet 16 = .ok (.iconst 0, 1) := by decide +kernel
theorem dX8_octet_17 : decode cX8_octet 17 = .ok (.istore_n 2, 1) := by decide +kernel
theorem dX8_octet_18 : decode cX8_octet 18 = .ok (.iconst 0, 1) := by decide +kernel
theorem dX8_octet_19 : decode cX8_octet 19 = .ok (.istore_n 3, 1) := by decide +kernel
theorem dX8_octet_20 : decode cX8_octet 20 = .ok (.iload_n 3, 1) := by decide +kernel
theorem dX8_octet_21 : decode cX8_octet 21 = .ok (.bipush 8, 2) := by decide +kernel
theorem dX8_octet_23 : decode cX8_octet 23 = .ok (.if_icmp .ge 33, 3) := by decide +kernel
theorem dX8_octet_26 : decode cX8_octet 26 = .ok (.iload_n 2, 1) := by decide +kernel
theorem dX8_octet_27 : decode cX8_octet 27 = .ok (.aload_n 0, 1) := by decide +kernel
theorem dX8_octet_28 : decode cX8_octet 28 = .ok (.getfield 23, 3) := by decide +kernel
theorem dX8_octet_31 : decode cX8_octet 31 = .ok (.bipush 8, 2) := by decide +kernel
theorem dX8_octet_33 : decode cX8_octet 33 = .ok (.iload_n 1, 1) := by decide +kernel
theorem dX8_octet_34 : decode cX8_octet 34 = .ok (.imul, 1) := by decide +kernel
theorem dX8_octet_35 : decode cX8_octet 35 = .ok (.iload_n 3, 1) := by decide +kernel
theorem dX8_octet_36 : decode cX8_octet 36 = .ok (.iadd, 1) := by decide +kernel
theorem dX8_octet_37 : decode cX8_octet 37 = .ok (.baload, 1) := by decide +kernel
theorem dX8_octet_38 : decode cX8_octet 38 = .ok (.ifCond .eq 9, 3) := by decide +kernel
theorem dX8_octet_41 : decode cX8_octet 41 = .ok (.iconst 1, 1) := by decide +kernel
theorem dX8_octet_42 : decode cX8_octet 42 = .ok (.iload_n 3, 1) := by decide +kernel
theorem dX8_octet_43 : decode cX8_octet 43 = .ok (.ishl, 1) := by decide +kernel
theorem dX8_octet_44 : decode cX8_octet 44 = .ok (.goto 4, 3) := by decide +kernel
theorem dX8_octet_47 : decode cX8_octet 47 = .ok (.iconst 0, 1) := by decide +kernel
theorem dX8_octet_48 : decode cX8_octet 48 = .ok (.iadd, 1) := by decide +kernel
theorem dX8_octet_49 : decode cX8_octet 49 = .ok (.istore_n 2, 1) := by decide +kernel
theorem dX8_octet_50 : decode cX8_octet 50 = .ok (.iinc 3 1, 3) := by decide +kernel
theorem dX8_octet_53 : decode cX8_octet 53 = .ok (.goto (-33), 3) := by decide +kernel
theorem dX8_octet_56 : decode cX8_octet 56 = .ok (.iload_n 2, 1) := by decide +kernel
theorem dX8_octet_57 : decode cX8_octet 57 = .ok (.ireturn, 1) := by decide +kernel
theorem dX8_bit_0 : decode cX8_bit 0 = .ok (.aload_n 0, 1) := by decide +kernel
theorem dX8_bit_1 : decode cX8_bit 1 = .ok (.getfield 123, 3) := by decide +kernel
theorem dX8_bit_4 : decode cX8_bit 4 = .ok (.ifCond .ne 22, 3) := by decide +kernel
theorem dX8_bit_7 : decode cX8_bit 7 = .ok (.aload_n 0, 1) := by decide +kernel
theorem dX8_bit_8 : decode cX8_bit 8 = .ok (.getfield 126, 3) := by decide +kernel
theorem dX8_bit_11 : decode cX8_bit 11 = .ok (.bipush 8, 2) := by decide +kernel
theorem dX8_bit_13 : decode cX8_bit 13 = .ok (.aload_n 0, 1) := by decide +kernel
theorem dX8_bit_14 : decode cX8_bit 14 = .ok (.getfield 113, 3) := by decide +kernel
theorem dX8_bit_17 : decode cX8_bit 17 = .ok (.imul, 1) := by decide +kernel
theorem dX8_bit_18 : decode cX8_bit 18 = .ok (.if_icmp .ne 8, 3) := by decide +kernel
theorem dX8_bit_21 : decode cX8_bit 21 = .ok (.aload_n 0, 1) := by decide +kernel
theorem dX8_bit_22 : decode cX8_bit 22 = .ok (.iconst 1, 1) := by decide +kernel
theorem dX8_bit_23 : decode cX8_bit 23 = .ok (.putfield 123, 3) := by decide +kernel
theorem dX8_bit_26 : decode cX8_bit 26 = .ok (.aload_n 0, 1) := by decide +kernel
theorem dX8_bit_27 : decode cX8_bit 27 = .ok (.getfield 123, 3) := by decide +kernel
theorem dX8_bit_30 : decode cX8_bit 30 = .ok (.ifCond .eq 5, 3) := by decide +kernel
theorem dX8_bit_33 : decode cX8_bit 33 = .ok (.iconst 0, 1) := by decide +kernel
theorem dX8_bit_34 : decode cX8_bit 34 = .ok (.ireturn, 1) := by decide +kernel
theorem dX8_bit_35 : decode cX8_bit 35 = .ok (.aload_n 0, 1) := by decide +kernel
theorem dX8_bit_36 : decode cX8_bit 36 = .ok (.getfield 54, 3) := by decide +kernel
theorem dX8_bit_39 : decode cX8_bit 39 = .ok (.iconst 1, 1) := by decide +kernel
theorem dX8_bit_40 : decode cX8_bit 40 = .ok (.if_icmp .ne 27, 3) := by decide +kernel
theorem dX8_bit_43 : decode cX8_bit 43 = .ok (.bipush 8, 2) := by decide +kernel
theorem dX8_bit_45 : decode cX8_bit 45 = .ok (.aload_n 0, 1) := by decide +kernel
theorem dX8_bit_46 : decode cX8_bit 46 = .ok (.getfield 126, 3) := by decide +kernel
theorem dX8_bit_49 : decode cX8_bit 49 = .ok (.bipush 8, 2) := by decide +kernel
theorem dX8_bit_51 : decode cX8_bit 51 = .ok (.idiv, 1) := by decide +kernel
theorem dX8_bit_52 : decode cX8_bit 52 = .ok (.imul, 1) := by decide +kernel
theorem dX8_bit_53 : decode cX8_bit 53 = .ok (.bipush 7, 2) := by decide +kernel
theorem dX8_bit_55 : decode cX8_bit 55 = .ok (.iadd, 1) := by decide +kernel
theorem dX8_bit_56 : decode cX8_bit 56 = .ok (.aload_n 0, 1) := by decide +kernel
theorem dX8_bit_57 : decode cX8_bit 57 = .ok (.getfield 126, 3) := by decide +kernel
theorem dX8_bit_60 : decode cX8_bit 60 = .ok (.bipush 8, 2) := by decide +kernel
theorem dX8_bit_62 : decode cX8_bit 62 = .ok (.irem, 1) := by decide +kernel
theorem dX8_bit_63 : decode cX8_bit 63 = .ok (.isub, 1) := by decide +kernel
theorem dX8_bit_64 : decode cX8_bit 64 = .ok (.goto 7, 3) := by decide +kernel
theorem dX8_bit_67 : decode cX8_bit 67 = .ok (.aload_n 0, 1) := by decide +kernel
theorem dX8_bit_68 : decode cX8_bit 68 = .ok (.getfield 126, 3) := by decide +kernel
theorem dX8_bit_71 : decode cX8_bit 71 = .ok (.istore_n 1, 1) := by decide +kernel
theorem dX8_bit_72 : decode cX8_bit 72 = .ok (.aload_n 0, 1) := by decide +kernel
theorem dX8_bit_73 : decode cX8_bit 73 = .ok (.dup, 1) := by decide +kernel
theorem dX8_bit_74 : decode cX8_bit 74 = .ok (.getfield 126, 3) := by decide +kernel
theorem dX8_bit_77 : decode cX8_bit 77 = .ok (.iconst 1, 1) := by decide +kernel
theorem dX8_bit_78 : decode cX8_bit 78 = .ok (.iadd, 1) := by decide +kernel
theorem dX8_bit_79 : decode cX8_bit 79 = .ok (.putfield 126, 3) := by decide +kernel
theorem dX8_bit_82 : decode cX8_bit 82 = .ok (.aload_n 0, 1) := by decide +kernel
theorem dX8_bit_83 : decode cX8_bit 83 = .ok (.getfield 23, 3) := by decide +kernel
theorem dX8_bit_86 : decode cX8_bit 86 = .ok (.iload_n 1, 1) := by decide +kernel
theorem dX8_bit_87 : decode cX8_bit 87 = .ok (.baload, 1) := by decide +kernel
theorem dX8_bit_88 : decode cX8_bit 88 = .ok (.ifCond .eq 7, 3) := by decide +kernel
theorem dX8_bit_91 : decode cX8_bit 91 = .ok (.iconst 1, 1) := by decide +kernel
theorem dX8_bit_92 : decode cX8_bit 92 = .ok (.goto 4, 3) := by decide +kernel
theorem dX8_bit_95 : decode cX8_bit 95 = .ok (.iconst 0, 1) := by decide +kernel
theorem dX8_bit_96 : decode cX8_bit 96 = .ok (.ireturn, 1) := by decide +kernel
set_option maxRecDepth 20000 in
theorem ggX8_number_X8_bit : GoodIn wsX8_number wsX8_bit := goodIn_r _ [6, 7, 8, 9, 1, 10, 11, 12, 13, 14, 15, 16, 17, 18, 19, 20, 21, 22, 23, 24, 25, 26, 27, 28, 29, 30, 31, 32, 33, 34, 35, 36, 37, 38] (by decide +kernel) (by decide +kernel)
set_option maxRecDepth 20000 in
theorem gX8_number_X8_bit : GoodIn wsX8_number (wsV RX8 129 RX8 yX8_bit wsX8_bit) := goodIn_app (goodIn_of _ (by decide +kernel)) ggX8_number_X8_bit
theorem dX8_number_0 : decode cX8_number 0 = .ok (.iconst 0, 1) := by decide +kernel
theorem dX8_number_1 : decode cX8_number 1 = .ok (.istore_n 2, 1) := by decide +kernel
theorem dX8_number_2 : decode cX8_number 2 = .ok (.iconst 0, 1) := by decide +kernel
theorem dX8_number_3 : decode cX8_number 3 = .ok (.istore_n 3, 1) := by decide +kernel
theorem dX8_number_4 : decode cX8_number 4 = .ok (.iload_n 3, 1) := by decide +kernel
theorem dX8_number_5 : decode cX8_number 5 = .ok (.iload_n 1, 1) := by decide +kernel
theorem dX8_number_6 : decode cX8_number 6 = .ok (.if_icmp .ge 39, 3) := by decide +kernel
theorem dX8_number_9 : decode cX8_number 9 = .ok (.aload_n 0, 1) := by decide +kernel
theorem dX8_number_10 : decode cX8_number 10 = .ok (.invokevirtual 129, 3) := by decide +kernel
theorem dX8_number_13 : decode cX8_number 13 = .ok (.istore 4, 2) := by decide +kernel
theorem dX8_number_15 : decode cX8_number 15 = .ok (.aload_n 0, 1) := by decide +kernel
theorem dX8_number_16 : decode cX8_number 16 = .ok (.getfield 54, 3) := by decide +kernel
theorem dX8_number_19 : decode cX8_number 19 = .ok (.iconst 1, 1) := by decide +kernel
theorem dX8_number_20 : decode cX8_number 20 = .ok (.if_icmp .ne 12, 3) := by decide +kernel
theorem dX8_number_23 : decode cX8_number 23 = .ok (.iconst 2, 1) := by decide +kernel
theorem dX8_number_24 : decode cX8_number 24 = .ok (.iload_n 2, 1) := by decide +kernel
theorem dX8_number_25 : decode cX8_number 25 = .ok (.imul, 1) := by decide +kernel
theorem dX8_number_26 : decode cX8_number 26 = .ok (.iload 4, 2) := by decide +kernel
theorem dX8_number_28 : decode cX8_number 28 = .ok (.iadd, 1) := by decide +kernel
theorem dX8_number_29 : decode cX8_number 29 = .ok (.goto 9, 3) := by decide +kernel
theorem dX8_number_32 : decode cX8_number 32 = .ok (.iload_n 2, 1) := by decide +kernel
theorem dX8_number_33 : decode cX8_number 33 = .ok (.iload 4, 2) := by decide +kernel
theorem dX8_number_35 : decode cX8_number 35 = .ok (.iload_n 3, 1) := by decide +kernel
theorem dX8_number_36 : decode cX8_number 36 = .ok (.ishl, 1) := by decide +kernel
theorem dX8_number_37 : decode cX8_number 37 = .ok (.iadd, 1) := by decide +kernel
theorem dX8_number_38 : decode cX8_number 38 = .ok (.istore_n 2, 1) := by decide +kernel
theorem dX8_number_39 : decode cX8_number 39 = .ok (.iinc 3 1, 3) := by decide +kernel
theorem dX8_number_42 : decode cX8_number 42 = .ok (.goto (-38), 3) := by decide +kernel
theorem dX8_number_45 : decode cX8_number 45 = .ok (.iload_n 2, 1) := by decide +kernel
theorem dX8_number_46 : decode cX8_number 46 = .ok (.ireturn, 1) := by decide +kernel
set_option maxRecDepth 20000 in
theorem ggX8_zeros_X8_bit : GoodIn wsX8_zeros wsX8_bit := goodIn_r _ [6, 1, 7, 8, 9, 10, 11, 12, 13, 14, 15, 16, 17, 18, 19, 20, 21, 22, 23, 24, 25, 26, 27, 28, 29, 30, 31, 32, 33, 34, 35, 36, 37, 38] (by decide +kernel) (by decide +kernel)
set_option maxRecDepth 20000 in
theorem gX8_zeros_X8_bit : GoodIn wsX8_zeros (wsV RX8 129 RX8 yX8_bit wsX8_bit) := goodIn_app (goodIn_of _ (by decide +kernel)) ggX8_zeros_X8_bit
theorem dX8_zeros_0 : decode cX8_zeros 0 = .ok (.iconst 0, 1) := by decide +kernel
theorem dX8_zeros_1 : decode cX8_zeros 1 = .ok (.istore_n 2, 1) := by decide +kernel
theorem dX8_zeros_2 : decode cX8_zeros 2 = .ok (.iload_n 2, 1) := by decide +kernel
theorem dX8_zeros_3 : decode cX8_zeros 3 = .ok (.iload_n 1, 1) := by decide +kernel
theorem dX8_zeros_4 : decode cX8_zeros 4 = .ok (.if_icmp .ge 30, 3) := by decide +kernel
theorem dX8_zeros_7 : decode cX8_zeros 7 = .ok (.aload_n 0, 1) := by decide +kernel
theorem dX8_zeros_8 : decode cX8_zeros 8 = .ok (.getfield 123, 3) := by decide +kernel
theorem dX8_zeros_11 : decode cX8_zeros 11 = .ok (.ifCond .ne 23, 3) := by decide +kernel
theorem dX8_zeros_14 : decode cX8_zeros 14 = .ok (.aload_n 0, 1) := by decide +kernel
theorem dX8_zeros_15 : decode cX8_zeros 15 = .ok (.invokevirtual 129, 3) := by decide +kernel
theorem dX8_zeros_18 : decode cX8_zeros 18 = .ok (.iconst 1, 1) := by decide +kernel
theorem dX8_zeros_19 : decode cX8_zeros 19 = .ok (.if_icmp .ne 9, 3) := by decide +kernel
theorem dX8_zeros_22 : decode cX8_zeros 22 = .ok (.aload_n 0, 1) := by decide +kernel
theorem dX8_zeros_23 : decode cX8_zeros 23 = .ok (.bipush 6, 2) := by decide +kernel
theorem dX8_zeros_25 : decode cX8_zeros 25 = .ok (.putfield 123, 3) := by decide +kernel
theorem dX8_zeros_28 : decode cX8_zeros 28 = .ok (.iinc 2 1, 3) := by decide +kernel
theorem dX8_zeros_31 : decode cX8_zeros 31 = .ok (.goto (-29), 3) := by decide +kernel
theorem dX8_zeros_34 : decode cX8_zeros 34 = .ok (.return_, 1) := by decide +kernel
set_option maxRecDepth 20000 in
theorem ggX8_give_X8_countNow : GoodIn wsX8_give wsX8_countNow := goodIn_r _ [13, 1, 14, 15, 16, 12, 17, 18, 19, 20, 21, 22, 23, 24, 25, 26, 27, 28, 29, 30, 31, 32, 33, 34, 35, 36, 37, 38, 39, 40, 41, 42, 43, 44, 45, 46, 47, 48, 49, 50, 51, 52] (by decide +kernel) (by decide +kernel)
set_option maxRecDepth 20000 in
theorem gX8_give_X8_countNow : GoodIn wsX8_give (wsV RX8 74 RX8 yX8_countNow wsX8_countNow) := goodIn_app (goodIn_of _ (by decide +kernel)) ggX8_give_X8_countNow
set_option maxRecDepth 20000 in
theorem ggX8_give_X8_firstNumber : GoodIn wsX8_give wsX8_firstNumber := goodIn_r _ [17, 18, 19, 25, 26, 27, 28, 29, 30, 31, 32, 33, 34, 35, 36, 37, 38, 39, 40, 41, 42, 43, 44, 45, 46, 47, 48, 49, 50, 51, 52] (by decide +kernel) (by decide +kernel)
set_option maxRecDepth 20000 in
theorem gX8_give_X8_firstNumber : GoodIn wsX8_give (wsV RX8 64 RX8 yX8_firstNumber wsX8_firstNumber) := goodIn_app (goodIn_of _ (by decide +kernel)) ggX8_give_X8_firstNumber
set_option maxRecDepth 20000 in
theorem ggX8_give_X8_lastNumber : GoodIn wsX8_give wsX8_lastNumber := goodIn_r _ [23, 24, 19, 25, 26, 27, 28, 29, 30, 31, 32, 33, 34, 35, 36, 37, 38, 39, 40, 41, 42, 43, 44, 45, 46, 47, 48, 49, 50, 51, 52] (by decide +kernel) (by decide +kernel)
set_option maxRecDepth 20000 in
theorem gX8_give_X8_lastNumber : GoodIn wsX8_give (wsV RX8 71 RX8 yX8_lastNumber wsX8_lastNumber) := goodIn_app (goodIn_of _ (by decide +kernel)) ggX8_give_X8_lastNumber
theorem dX8_give_0 : decode cX8_give 0 = .ok (.aload_n 0, 1) := by decide +kernel
theorem dX8_give_1 : decode cX8_give 1 = .ok (.getfield 68, 3) := by decide +kernel
theorem dX8_give_4 : decode cX8_give 4 = .ok (.ifCond .ne 7, 3) := by decide +kernel
theorem dX8_give_7 : decode cX8_give 7 = .ok (.iconst 1, 1) := by decide +kernel
theorem dX8_give_8 : decode cX8_give 8 = .ok (.goto 4, 3) := by decide +kernel
theorem dX8_give_11 : decode cX8_give 11 = .ok (.iconst 0, 1) := by decide +kernel
theorem dX8_give_12 : decode cX8_give 12 = .ok (.istore_n 2, 1) := by decide +kernel
theorem dX8_give_13 : decode cX8_give 13 = .ok (.aload_n 0, 1) := by decide +kernel
theorem dX8_give_14 : decode cX8_give 14 = .ok (.invokevirtual 74, 3) := by decide +kernel
theorem dX8_give_17 : decode cX8_give 17 = .ok (.istore_n 3, 1) := by decide +kernel
theorem dX8_give_18 : decode cX8_give 18 = .ok (.iconst (-1), 1) := by decide +kernel
theorem dX8_give_19 : decode cX8_give 19 = .ok (.istore 4, 2) := by decide +kernel
theorem dX8_give_21 : decode cX8_give 21 = .ok (.iconst 1, 1) := by decide +kernel
theorem dX8_give_22 : decode cX8_give 22 = .ok (.istore 5, 2) := by decide +kernel
theorem dX8_give_24 : decode cX8_give 24 = .ok (.iload_n 1, 1) := by decide +kernel
theorem dX8_give_25 : decode cX8_give 25 = .ok (.aload_n 0, 1) := by decide +kernel
theorem dX8_give_26 : decode cX8_give 26 = .ok (.invokevirtual 64, 3) := by decide +kernel
theorem dX8_give_29 : decode cX8_give 29 = .ok (.if_icmp .lt 79, 3) := by decide +kernel
theorem dX8_give_32 : decode cX8_give 32 = .ok (.iload_n 1, 1) := by decide +kernel
theorem dX8_give_33 : decode cX8_give 33 = .ok (.aload_n 0, 1) := by decide +kernel
theorem dX8_give_34 : decode cX8_give 34 = .ok (.invokevirtual 64, 3) := by decide +kernel
theorem dX8_give_37 : decode cX8_give 37 = .ok (.isub, 1) := by decide +kernel
theorem dX8_give_38 : decode cX8_give 38 = .ok (.istore 6, 2) := by decide +kernel
theorem dX8_give_40 : decode cX8_give 40 = .ok (.iload_n 1, 1) := by decide +kernel
theorem dX8_give_41 : decode cX8_give 41 = .ok (.iload_n 3, 1) := by decide +kernel
theorem dX8_give_42 : decode cX8_give 42 = .ok (.if_icmp .ne 22, 3) := by decide +kernel
theorem dX8_give_45 : decode cX8_give 45 = .ok (.iload_n 2, 1) := by decide +kernel
theorem dX8_give_46 : decode cX8_give 46 = .ok (.ifCond .ne 18, 3) := by decide +kernel
theorem dX8_give_49 : decode cX8_give 49 = .ok (.iload_n 3, 1) := by decide +kernel
theorem dX8_give_50 : decode cX8_give 50 = .ok (.aload_n 0, 1) := by decide +kernel
theorem dX8_give_51 : decode cX8_give 51 = .ok (.invokevirtual 71, 3) := by decide +kernel
theorem dX8_give_54 : decode cX8_give 54 = .ok (.if_icmp .ge 10, 3) := by decide +kernel
theorem dX8_give_57 : decode cX8_give 57 = .ok (.aload_n 0, 1) := by decide +kernel
theorem dX8_give_58 : decode cX8_give 58 = .ok (.getfield 132, 3) := by decide +kernel
theorem dX8_give_61 : decode cX8_give 61 = .ok (.goto 10, 3) := by decide +kernel
theorem dX8_give_64 : decode cX8_give 64 = .ok (.aload_n 0, 1) := by decide +kernel
theorem dX8_give_65 : decode cX8_give 65 = .ok (.getfield 39, 3) := by decide +kernel
theorem dX8_give_68 : decode cX8_give 68 = .ok (.iload 6, 2) := by decide +kernel
theorem dX8_give_70 : decode cX8_give 70 = .ok (.iaload, 1) := by decide +kernel
theorem dX8_give_71 : decode cX8_give 71 = .ok (.istore 4, 2) := by decide +kernel
theorem dX8_give_73 : decode cX8_give 73 = .ok (.iload_n 1, 1) := by decide +kernel
theorem dX8_give_74 : decode cX8_give 74 = .ok (.iload_n 3, 1) := by decide +kernel
theorem dX8_give_75 : decode cX8_give 75 = .ok (.if_icmp .ne 24, 3) := by decide +kernel
theorem dX8_give_78 : decode cX8_give 78 = .ok (.iload_n 2, 1) := by decide +kernel
theorem dX8_give_79 : decode cX8_give 79 = .ok (.ifCond .ne 20, 3) := by decide +kernel
theorem dX8_give_82 : decode cX8_give 82 = .ok (.iload_n 3, 1) := by decide +kernel
theorem dX8_give_83 : decode cX8_give 83 = .ok (.aload_n 0, 1) := by decide +kernel
theorem dX8_give_84 : decode cX8_give 84 = .ok (.invokevirtual 71, 3) := by decide +kernel
theorem dX8_give_87 : decode cX8_give 87 = .ok (.if_icmp .ge 12, 3) := by decide +kernel
theorem dX8_give_90 : decode cX8_give 90 = .ok (.aload_n 0, 1) := by decide +kernel
theorem dX8_give_91 : decode cX8_give 91 = .ok (.getfield 135, 3) := by decide +kernel
theorem dX8_give_94 : decode cX8_give 94 = .ok (.iconst 1, 1) := by decide +kernel
theorem dX8_give_95 : decode cX8_give 95 = .ok (.iadd, 1) := by decide +kernel
theorem dX8_give_96 : decode cX8_give 96 = .ok (.goto 10, 3) := by decide +kernel
theorem dX8_give_99 : decode cX8_give 99 = .ok (.aload_n 0, 1) := by decide +kernel
theorem dX8_give_100 : decode cX8_give 100 = .ok (.getfield 42, 3) := by decide +kernel
theorem dX8_give_103 : decode cX8_give 103 = .ok (.iload 6, 2) := by decide +kernel
theorem dX8_give_105 : decode cX8_give 105 = .ok (.iaload, 1) := by decide +kernel
theorem dX8_give_106 : decode cX8_give 106 = .ok (.istore 5, 2) := by decide +kernel
theorem dX8_give_108 : decode cX8_give 108 = .ok (.aload_n 0, 1) := by decide +kernel
theorem dX8_give_109 : decode cX8_give 109 = .ok (.getfield 138, 3) := by decide +kernel
theorem dX8_give_112 : decode cX8_give 112 = .ok (.istore 6, 2) := by decide +kernel
theorem dX8_give_114 : decode cX8_give 114 = .ok (.iconst 0, 1) := by decide +kernel
theorem dX8_give_115 : decode cX8_give 115 = .ok (.istore 7, 2) := by decide +kernel
theorem dX8_give_117 : decode cX8_give 117 = .ok (.iload 7, 2) := by decide +kernel
theorem dX8_give_119 : decode cX8_give 119 = .ok (.iload 5, 2) := by decide +kernel
theorem dX8_give_121 : decode cX8_give 121 = .ok (.if_icmp .ge 73, 3) := by decide +kernel
theorem dX8_give_124 : decode cX8_give 124 = .ok (.aload_n 0, 1) := by decide +kernel
theorem dX8_give_125 : decode cX8_give 125 = .ok (.getfield 123, 3) := by decide +kernel
theorem dX8_give_128 : decode cX8_give 128 = .ok (.ifCond .ne 66, 3) := by decide +kernel
theorem dX8_give_131 : decode cX8_give 131 = .ok (.aload_n 0, 1) := by decide +kernel
theorem dX8_give_132 : decode cX8_give 132 = .ok (.getfield 138, 3) := by decide +kernel
theorem dX8_give_135 : decode cX8_give 135 = .ok (.sipush 300, 3) := by decide +kernel
theorem dX8_give_138 : decode cX8_give 138 = .ok (.if_icmp .ne 11, 3) := by decide +kernel
theorem dX8_give_141 : decode cX8_give 141 = .ok (.aload_n 0, 1) := by decide +kernel
theorem dX8_give_142 : decode cX8_give 142 = .ok (.iconst 5, 1) := by decide +kernel
theorem dX8_give_143 : decode cX8_give 143 = .ok (.putfield 123, 3) := by decide +kernel
theorem dX8_give_146 : decode cX8_give 146 = .ok (.goto 42, 3) := by decide +kernel
theorem dX8_give_149 : decode cX8_give 149 = .ok (.aload_n 0, 1) := by decide +kernel
theorem dX8_give_150 : decode cX8_give 150 = .ok (.getfield 48, 3) := by decide +kernel
theorem dX8_give_153 : decode cX8_give 153 = .ok (.aload_n 0, 1) := by decide +kernel
theorem dX8_give_154 : decode cX8_give 154 = .ok (.getfield 138, 3) := by decide +kernel
theorem dX8_give_157 : decode cX8_give 157 = .ok (.iload 4, 2) := by decide +kernel
theorem dX8_give_159 : decode cX8_give 159 = .ok (.iconst (-1), 1) := by decide +kernel
theorem dX8_give_160 : decode cX8_give 160 = .ok (.if_icmp .ne 7, 3) := by decide +kernel
theorem dX8_give_163 : decode cX8_give 163 = .ok (.iload_n 1, 1) := by decide +kernel
theorem dX8_give_164 : decode cX8_give 164 = .ok (.goto 13, 3) := by decide +kernel
theorem dX8_give_167 : decode cX8_give 167 = .ok (.aload_n 0, 1) := by decide +kernel
theorem dX8_give_168 : decode cX8_give 168 = .ok (.getfield 48, 3) := by decide +kernel
theorem dX8_give_171 : decode cX8_give 171 = .ok (.iload 4, 2) := by decide +kernel
theorem dX8_give_173 : decode cX8_give 173 = .ok (.iload 7, 2) := by decide +kernel
theorem dX8_give_175 : decode cX8_give 175 = .ok (.iadd, 1) := by decide +kernel
theorem dX8_give_176 : decode cX8_give 176 = .ok (.iaload, 1) := by decide +kernel
theorem dX8_give_177 : decode cX8_give 177 = .ok (.iastore, 1) := by decide +kernel
theorem dX8_give_178 : decode cX8_give 178 = .ok (.aload_n 0, 1) := by decide +kernel
theorem dX8_give_179 : decode cX8_give 179 = .ok (.dup, 1) := by decide +kernel
theorem dX8_give_180 : decode cX8_give 180 = .ok (.getfield 138, 3) := by decide +kernel
theorem dX8_give_183 : decode cX8_give 183 = .ok (.iconst 1, 1) := by decide +kernel
theorem dX8_give_184 : decode cX8_give 184 = .ok (.iadd, 1) := by decide +kernel
theorem dX8_give_185 : decode cX8_give 185 = .ok (.putfield 138, 3) := by decide +kernel
theorem dX8_give_188 : decode cX8_give 188 = .ok (.iinc 7 1, 3) := by decide +kernel
theorem dX8_give_191 : decode cX8_give 191 = .ok (.goto (-74), 3) := by decide +kernel
theorem dX8_give_194 : decode cX8_give 194 = .ok (.iload_n 2, 1) := by decide +kernel
theorem dX8_give_195 : decode cX8_give 195 = .ok (.ifCond .ne 43, 3) := by decide +kernel
theorem dX8_give_198 : decode cX8_give 198 = .ok (.iload_n 3, 1) := by decide +kernel
theorem dX8_give_199 : decode cX8_give 199 = .ok (.aload_n 0, 1) := by decide +kernel
theorem dX8_give_200 : decode cX8_give 200 = .ok (.invokevirtual 71, 3) := by decide +kernel
theorem dX8_give_203 : decode cX8_give 203 = .ok (.if_icmp .ge 35, 3) := by decide +kernel
theorem dX8_give_206 : decode cX8_give 206 = .ok (.aload_n 0, 1) := by decide +kernel
theorem dX8_give_207 : decode cX8_give 207 = .ok (.getfield 39, 3) := by decide +kernel
theorem dX8_give_210 : decode cX8_give 210 = .ok (.iload_n 3, 1) := by decide +kernel
theorem dX8_give_211 : decode cX8_give 211 = .ok (.aload_n 0, 1) := by decide +kernel
theorem dX8_give_212 : decode cX8_give 212 = .ok (.invokevirtual 64, 3) := by decide +kernel
theorem dX8_give_215 : decode cX8_give 215 = .ok (.isub, 1) := by decide +kernel
theorem dX8_give_216 : decode cX8_give 216 = .ok (.aload_n 0, 1) := by decide +kernel
theorem dX8_give_217 : decode cX8_give 217 = .ok (.getfield 132, 3) := by decide +kernel
theorem dX8_give_220 : decode cX8_give 220 = .ok (.iastore, 1) := by decide +kernel
theorem dX8_give_221 : decode cX8_give 221 = .ok (.aload_n 0, 1) := by decide +kernel
theorem dX8_give_222 : decode cX8_give 222 = .ok (.getfield 42, 3) := by decide +kernel
theorem dX8_give_225 : decode cX8_give 225 = .ok (.iload_n 3, 1) := by decide +kernel
theorem dX8_give_226 : decode cX8_give 226 = .ok (.aload_n 0, 1) := by decide +kernel
theorem dX8_give_227 : decode cX8_give 227 = .ok (.invokevirtual 64, 3) := by decide +kernel
theorem dX8_give_230 : decode cX8_give 230 = .ok (.isub, 1) := by decide +kernel
theorem dX8_give_231 : decode cX8_give 231 = .ok (.aload_n 0, 1) := by decide +kernel
theorem dX8_give_232 : decode cX8_give 232 = .ok (.getfield 135, 3) := by decide +kernel
theorem dX8_give_235 : decode cX8_give 235 = .ok (.iconst 1, 1) := by decide +kernel
theorem dX8_give_236 : decode cX8_give 236 = .ok (.iadd, 1) := by decide +kernel
theorem dX8_give_237 : decode cX8_give 237 = .ok (.iastore, 1) := by decide +kernel
theorem dX8_give_238 : decode cX8_give 238 = .ok (.aload_n 0, 1) := by decide +kernel
theorem dX8_give_239 : decode cX8_give 239 = .ok (.iload 6, 2) := by decide +kernel
theorem dX8_give_241 : decode cX8_give 241 = .ok (.putfield 132, 3) := by decide +kernel
theorem dX8_give_244 : decode cX8_give 244 = .ok (.aload_n 0, 1) := by decide +kernel
theorem dX8_give_245 : decode cX8_give 245 = .ok (.iload 5, 2) := by decide +kernel
theorem dX8_give_247 : decode cX8_give 247 = .ok (.putfield 135, 3) := by decide +kernel
theorem dX8_give_250 : decode cX8_give 250 = .ok (.aload_n 0, 1) := by decide +kernel
theorem dX8_give_251 : decode cX8_give 251 = .ok (.dup, 1) := by decide +kernel
theorem dX8_give_252 : decode cX8_give 252 = .ok (.getfield 68, 3) := by decide +kernel
theorem dX8_give_255 : decode cX8_give 255 = .ok (.iconst 1, 1) := by decide +kernel
theorem dX8_give_256 : decode cX8_give 256 = .ok (.iadd, 1) := by decide +kernel
theorem dX8_give_257 : decode cX8_give 257 = .ok (.putfield 68, 3) := by decide +kernel
theorem dX8_give_260 : decode cX8_give 260 = .ok (.return_, 1) := by decide +kernel
set_option maxRecDepth 20000 in
theorem ggX8_readCode_X8_countNow : GoodIn wsX8_readCode wsX8_countNow := goodIn_r _ [7, 1, 8, 9, 10, 6, 11, 12, 13, 14, 15, 16, 17, 18, 29, 30, 31, 32, 33, 34, 35, 36, 37, 38, 39, 40, 41, 42, 43, 44, 45, 46, 47, 48, 49, 50, 51, 52, 53, 54, 55, 56] (by decide +kernel) (by decide +kernel)
set_option maxRecDepth 20000 in
theorem gX8_readCode_X8_countNow : GoodIn wsX8_readCode (wsV RX8 74 RX8 yX8_countNow wsX8_countNow) := goodIn_app (goodIn_of _ (by decide +kernel)) ggX8_readCode_X8_countNow
set_option maxRecDepth 20000 in
theorem ggX8_readCode_X8_firstNumber : GoodIn wsX8_readCode wsX8_firstNumber := goodIn_r _ [11, 12, 13, 29, 30, 31, 32, 33, 34, 35, 36, 37, 38, 39, 40, 41, 42, 43, 44, 45, 46, 47, 48, 49, 50, 51, 52, 53, 54, 55, 56] (by decide +kernel) (by decide +kernel)
set_option maxRecDepth 20000 in
theorem gX8_readCode_X8_firstNumber : GoodIn wsX8_readCode (wsV RX8 64 RX8 yX8_firstNumber wsX8_firstNumber) := goodIn_app (goodIn_of _ (by decide +kernel)) ggX8_readCode_X8_firstNumber
set_option maxRecDepth 20000 in
theorem ggX8_readCode_X8_lastNumber : GoodIn wsX8_readCode wsX8_lastNumber := goodIn_r _ [17, 18, 13, 29, 30, 31, 32, 33, 34, 35, 36, 37, 38, 39, 40, 41, 42, 43, 44, 45, 46, 47, 48, 49, 50, 51, 52, 53, 54, 55, 56] (by decide +kernel) (by decide +kernel)
set_option maxRecDepth 20000 in
theorem gX8_readCode_X8_lastNumber : GoodIn wsX8_readCode (wsV RX8 71 RX8 yX8_lastNumber wsX8_lastNumber) := goodIn_app (goodIn_of _ (by decide +kernel)) ggX8_readCode_X8_lastNumber
set_option maxRecDepth 20000 in
theorem ggX8_readCode_X8_give : GoodIn wsX8_readCode wsX8_give := goodIn_r _ [22, 1, 23, 24, 25, 26, 27, 2, 28, 3, 4, 5, 6, 7, 8, 9, 10, 11, 12, 13, 14, 15, 16, 17, 18, 29, 30, 31, 32, 33, 34, 35, 36, 37, 38, 39, 40, 41, 42, 43, 44, 45, 46, 47, 48, 49, 50, 51, 52, 53, 54, 55, 56] (by decide +kernel) (by decide +kernel)
set_option maxRecDepth 20000 in
theorem gX8_readCode_X8_give : GoodIn wsX8_readCode (wsV RX8 141 RX8 yX8_give wsX8_give) := goodIn_app (goodIn_of _ (by decide +kernel)) ggX8_readCode_X8_give
theorem dX8_readCode_0 : decode cX8_readCode 0 = .ok (.aload_n 0, 1) := by decide +kernel
theorem dX8_readCode_1 : decode cX8_readCode 1 = .ok (.invokevirtual 74, 3) := by decide +kernel
theorem dX8_readCode_4 : decode cX8_readCode 4 = .ok (.istore_n 2, 1) := by decide +kernel
theorem dX8_readCode_5 : decode cX8_readCode 5 = .ok (.aload_n 0, 1) := by decide +kernel
theorem dX8_readCode_6 : decode cX8_readCode 6 = .ok (.getfield 68, 3) := by decide +kernel
theorem dX8_readCode_9 : decode cX8_readCode 9 = .ok (.ifCond .ne 33, 3) := by decide +kernel
theorem dX8_readCode_12 : decode cX8_readCode 12 = .ok (.aload_n 0, 1) := by decide +kernel
theorem dX8_readCode_13 : decode cX8_readCode 13 = .ok (.aload_n 0, 1) := by decide +kernel
theorem dX8_readCode_14 : decode cX8_readCode 14 = .ok (.getfield 123, 3) := by decide +kernel
theorem dX8_readCode_17 : decode cX8_readCode 17 = .ok (.ifCond .ne 15, 3) := by decide +kernel
theorem dX8_readCode_20 : decode cX8_readCode 20 = .ok (.iload_n 1, 1) := by decide +kernel
theorem dX8_readCode_21 : decode cX8_readCode 21 = .ok (.aload_n 0, 1) := by decide +kernel
theorem dX8_readCode_22 : decode cX8_readCode 22 = .ok (.invokevirtual 64, 3) := by decide +kernel
theorem dX8_readCode_25 : decode cX8_readCode 25 = .ok (.if_icmp .lt 7, 3) := by decide +kernel
theorem dX8_readCode_28 : decode cX8_readCode 28 = .ok (.iconst 3, 1) := by decide +kernel
theorem dX8_readCode_29 : decode cX8_readCode 29 = .ok (.goto 7, 3) := by decide +kernel
theorem dX8_readCode_32 : decode cX8_readCode 32 = .ok (.aload_n 0, 1) := by decide +kernel
theorem dX8_readCode_33 : decode cX8_readCode 33 = .ok (.getfield 123, 3) := by decide +kernel
theorem dX8_readCode_36 : decode cX8_readCode 36 = .ok (.putfield 123, 3) := by decide +kernel
theorem dX8_readCode_39 : decode cX8_readCode 39 = .ok (.goto 40, 3) := by decide +kernel
theorem dX8_readCode_42 : decode cX8_readCode 42 = .ok (.aload_n 0, 1) := by decide +kernel
theorem dX8_readCode_43 : decode cX8_readCode 43 = .ok (.aload_n 0, 1) := by decide +kernel
theorem dX8_readCode_44 : decode cX8_readCode 44 = .ok (.getfield 123, 3) := by decide +kernel
theorem dX8_readCode_47 : decode cX8_readCode 47 = .ok (.ifCond .ne 25, 3) := by decide +kernel
theorem dX8_readCode_50 : decode cX8_readCode 50 = .ok (.iload_n 1, 1) := by decide +kernel
theorem dX8_readCode_51 : decode cX8_readCode 51 = .ok (.iload_n 2, 1) := by decide +kernel
theorem dX8_readCode_52 : decode cX8_readCode 52 = .ok (.if_icmp .gt 16, 3) := by decide +kernel
theorem dX8_readCode_55 : decode cX8_readCode 55 = .ok (.iload_n 2, 1) := by decide +kernel
theorem dX8_readCode_56 : decode cX8_readCode 56 = .ok (.aload_n 0, 1) := by decide +kernel
theorem dX8_readCode_57 : decode cX8_readCode 57 = .ok (.invokevirtual 71, 3) := by decide +kernel
theorem dX8_readCode_60 : decode cX8_readCode 60 = .ok (.if_icmp .ne 12, 3) := by decide +kernel
theorem dX8_readCode_63 : decode cX8_readCode 63 = .ok (.iload_n 1, 1) := by decide +kernel
theorem dX8_readCode_64 : decode cX8_readCode 64 = .ok (.iload_n 2, 1) := by decide +kernel
theorem dX8_readCode_65 : decode cX8_readCode 65 = .ok (.if_icmp .lt 7, 3) := by decide +kernel
theorem dX8_readCode_68 : decode cX8_readCode 68 = .ok (.iconst 4, 1) := by decide +kernel
theorem dX8_readCode_69 : decode cX8_readCode 69 = .ok (.goto 7, 3) := by decide +kernel
theorem dX8_readCode_72 : decode cX8_readCode 72 = .ok (.aload_n 0, 1) := by decide +kernel
theorem dX8_readCode_73 : decode cX8_readCode 73 = .ok (.getfield 123, 3) := by decide +kernel
theorem dX8_readCode_76 : decode cX8_readCode 76 = .ok (.putfield 123, 3) := by decide +kernel
theorem dX8_readCode_79 : decode cX8_readCode 79 = .ok (.aload_n 0, 1) := by decide +kernel
theorem dX8_readCode_80 : decode cX8_readCode 80 = .ok (.getfield 123, 3) := by decide +kernel
theorem dX8_readCode_83 : decode cX8_readCode 83 = .ok (.ifCond .ne 8, 3) := by decide +kernel
theorem dX8_readCode_86 : decode cX8_readCode 86 = .ok (.aload_n 0, 1) := by decide +kernel
theorem dX8_readCode_87 : decode cX8_readCode 87 = .ok (.iload_n 1, 1) := by decide +kernel
theorem dX8_readCode_88 : decode cX8_readCode 88 = .ok (.invokevirtual 141, 3) := by decide +kernel
theorem dX8_readCode_91 : decode cX8_readCode 91 = .ok (.return_, 1) := by decide +kernel
set_option maxRecDepth 20000 in
theorem ggX8_readClosed_X8_widthNow : GoodIn wsX8_readClosed wsX8_widthNow := goodIn_r _ [10, 2, 11, 12, 13, 14, 15, 9, 16, 3, 17, 18, 19, 20, 21, 22, 23, 24, 52, 53, 54, 55, 56, 57, 58, 59, 60, 61, 62, 63, 64, 65, 66, 67, 68, 69, 70, 71, 72, 73, 74, 75, 76, 77, 78, 79] (by decide +kernel) (by decide +kernel)
set_option maxRecDepth 20000 in
theorem gX8_readClosed_X8_widthNow : GoodIn wsX8_readClosed (wsV RX8 81 RX8 yX8_widthNow wsX8_widthNow) := goodIn_app (goodIn_of _ (by decide +kernel)) ggX8_readClosed_X8_widthNow
set_option maxRecDepth 20000 in
theorem ggX8_readClosed_X8_number : GoodIn wsX8_readClosed wsX8_number := goodIn_r _ [28, 12, 29, 30, 31, 9, 32, 1, 4, 5, 33, 52, 53, 54, 55, 56, 57, 58, 59, 60, 61, 62, 63, 64, 65, 66, 67, 68, 69, 70, 71, 72, 73, 74, 75, 76, 77, 78, 79] (by decide +kernel) (by decide +kernel)
set_option maxRecDepth 20000 in
theorem gX8_readClosed_X8_number : GoodIn wsX8_readClosed (wsV RX8 144 RX8 yX8_number wsX8_number) := goodIn_app (goodIn_of _ (by decide +kernel)) ggX8_readClosed_X8_number
set_option maxRecDepth 20000 in
theorem ggX8_readClosed_X8_readCode : GoodIn wsX8_readClosed wsX8_readCode := goodIn_r _ [37, 3, 1, 13, 14, 15, 9, 16, 17, 18, 19, 20, 2, 12, 21, 22, 23, 24, 11, 38, 39, 40, 41, 42, 43, 44, 45, 46, 47, 52, 53, 54, 55, 56, 57, 58, 59, 60, 61, 62, 63, 64, 65, 66, 67, 68, 69, 70, 71, 72, 73, 74, 75, 76, 77, 78, 79] (by decide +kernel) (by decide +kernel)
set_option maxRecDepth 20000 in
theorem gX8_readClosed_X8_readCode : GoodIn wsX8_readClosed (wsV RX8 147 RX8 yX8_readCode wsX8_readCode) := goodIn_app (goodIn_of _ (by decide +kernel)) ggX8_readClosed_X8_readCode
set_option maxRecDepth 20000 in
theorem ggX8_readClosed_X8_zeros : GoodIn wsX8_readClosed wsX8_zeros := goodIn_r _ [51, 1, 29, 30, 31, 9, 32, 4, 5, 12, 33, 52, 53, 54, 55, 56, 57, 58, 59, 60, 61, 62, 63, 64, 65, 66, 67, 68, 69, 70, 71, 72, 73, 74, 75, 76, 77, 78, 79] (by decide +kernel) (by decide +kernel)
set_option maxRecDepth 20000 in
theorem gX8_readClosed_X8_zeros : GoodIn wsX8_readClosed (wsV RX8 150 RX8 yX8_zeros wsX8_zeros) := goodIn_app (goodIn_of _ (by decide +kernel)) ggX8_readClosed_X8_zeros
theorem dX8_readClosed_0 : decode cX8_readClosed 0 = .ok (.iconst 0, 1) := by decide +kernel
theorem dX8_readClosed_1 : decode cX8_readClosed 1 = .ok (.istore_n 1, 1) := by decide +kernel
theorem dX8_readClosed_2 : decode cX8_readClosed 2 = .ok (.iconst 1, 1) := by decide +kernel
theorem dX8_readClosed_3 : decode cX8_readClosed 3 = .ok (.istore_n 2, 1) := by decide +kernel
theorem dX8_readClosed_4 : decode cX8_readClosed 4 = .ok (.iload_n 1, 1) := by decide +kernel
theorem dX8_readClosed_5 : decode cX8_readClosed 5 = .ok (.ifCond .ne 111, 3) := by decide +kernel
theorem dX8_readClosed_8 : decode cX8_readClosed 8 = .ok (.aload_n 0, 1) := by decide +kernel
theorem dX8_readClosed_9 : decode cX8_readClosed 9 = .ok (.getfield 123, 3) := by decide +kernel
theorem dX8_readClosed_12 : decode cX8_readClosed 12 = .ok (.ifCond .ne 104, 3) := by decide +kernel
theorem dX8_readClosed_15 : decode cX8_readClosed 15 = .ok (.aload_n 0, 1) := by decide +kernel
theorem dX8_readClosed_16 : decode cX8_readClosed 16 = .ok (.aload_n 0, 1) := by decide +kernel
theorem dX8_readClosed_17 : decode cX8_readClosed 17 = .ok (.invokevirtual 81, 3) := by decide +kernel
theorem dX8_readClosed_20 : decode cX8_readClosed 20 = .ok (.invokevirtual 144, 3) := by decide +kernel
theorem dX8_readClosed_23 : decode cX8_readClosed 23 = .ok (.istore_n 3, 1) := by decide +kernel
theorem dX8_readClosed_24 : decode cX8_readClosed 24 = .ok (.aload_n 0, 1) := by decide +kernel
theorem dX8_readClosed_25 : decode cX8_readClosed 25 = .ok (.getfield 123, 3) := by decide +kernel
theorem dX8_readClosed_28 : decode cX8_readClosed 28 = .ok (.ifCond .ne 22, 3) := by decide +kernel
theorem dX8_readClosed_31 : decode cX8_readClosed 31 = .ok (.iload_n 2, 1) := by decide +kernel
theorem dX8_readClosed_32 : decode cX8_readClosed 32 = .ok (.ifCond .eq 18, 3) := by decide +kernel
theorem dX8_readClosed_35 : decode cX8_readClosed 35 = .ok (.iload_n 3, 1) := by decide +kernel
theorem dX8_readClosed_36 : decode cX8_readClosed 36 = .ok (.iconst 1, 1) := by decide +kernel
theorem dX8_readClosed_37 : decode cX8_readClosed 37 = .ok (.aload_n 0, 1) := by decide +kernel
theorem dX8_readClosed_38 : decode cX8_readClosed 38 = .ok (.getfield 7, 3) := by decide +kernel
theorem dX8_readClosed_41 : decode cX8_readClosed 41 = .ok (.ishl, 1) := by decide +kernel
theorem dX8_readClosed_42 : decode cX8_readClosed 42 = .ok (.if_icmp .eq 8, 3) := by decide +kernel
theorem dX8_readClosed_45 : decode cX8_readClosed 45 = .ok (.aload_n 0, 1) := by decide +kernel
theorem dX8_readClosed_46 : decode cX8_readClosed 46 = .ok (.iconst 2, 1) := by decide +kernel
theorem dX8_readClosed_47 : decode cX8_readClosed 47 = .ok (.putfield 123, 3) := by decide +kernel
theorem dX8_readClosed_50 : decode cX8_readClosed 50 = .ok (.iconst 0, 1) := by decide +kernel
theorem dX8_readClosed_51 : decode cX8_readClosed 51 = .ok (.istore_n 2, 1) := by decide +kernel
theorem dX8_readClosed_52 : decode cX8_readClosed 52 = .ok (.aload_n 0, 1) := by decide +kernel
theorem dX8_readClosed_53 : decode cX8_readClosed 53 = .ok (.getfield 123, 3) := by decide +kernel
theorem dX8_readClosed_56 : decode cX8_readClosed 56 = .ok (.ifCond .ne 21, 3) := by decide +kernel
theorem dX8_readClosed_59 : decode cX8_readClosed 59 = .ok (.iload_n 3, 1) := by decide +kernel
theorem dX8_readClosed_60 : decode cX8_readClosed 60 = .ok (.iconst 1, 1) := by decide +kernel
theorem dX8_readClosed_61 : decode cX8_readClosed 61 = .ok (.aload_n 0, 1) := by decide +kernel
theorem dX8_readClosed_62 : decode cX8_readClosed 62 = .ok (.getfield 7, 3) := by decide +kernel
theorem dX8_readClosed_65 : decode cX8_readClosed 65 = .ok (.ishl, 1) := by decide +kernel
theorem dX8_readClosed_66 : decode cX8_readClosed 66 = .ok (.if_icmp .ne 11, 3) := by decide +kernel
theorem dX8_readClosed_69 : decode cX8_readClosed 69 = .ok (.aload_n 0, 1) := by decide +kernel
theorem dX8_readClosed_70 : decode cX8_readClosed 70 = .ok (.iconst 0, 1) := by decide +kernel
theorem dX8_readClosed_71 : decode cX8_readClosed 71 = .ok (.putfield 68, 3) := by decide +kernel
theorem dX8_readClosed_74 : decode cX8_readClosed 74 = .ok (.goto 39, 3) := by decide +kernel
theorem dX8_readClosed_77 : decode cX8_readClosed 77 = .ok (.aload_n 0, 1) := by decide +kernel
theorem dX8_readClosed_78 : decode cX8_readClosed 78 = .ok (.getfield 123, 3) := by decide +kernel
theorem dX8_readClosed_81 : decode cX8_readClosed 81 = .ok (.ifCond .ne 20, 3) := by decide +kernel
theorem dX8_readClosed_84 : decode cX8_readClosed 84 = .ok (.iload_n 3, 1) := by decide +kernel
theorem dX8_readClosed_85 : decode cX8_readClosed 85 = .ok (.iconst 1, 1) := by decide +kernel
theorem dX8_readClosed_86 : decode cX8_readClosed 86 = .ok (.aload_n 0, 1) := by decide +kernel
theorem dX8_readClosed_87 : decode cX8_readClosed 87 = .ok (.getfield 7, 3) := by decide +kernel
theorem dX8_readClosed_90 : decode cX8_readClosed 90 = .ok (.ishl, 1) := by decide +kernel
theorem dX8_readClosed_91 : decode cX8_readClosed 91 = .ok (.iconst 1, 1) := by decide +kernel
theorem dX8_readClosed_92 : decode cX8_readClosed 92 = .ok (.iadd, 1) := by decide +kernel
theorem dX8_readClosed_93 : decode cX8_readClosed 93 = .ok (.if_icmp .ne 8, 3) := by decide +kernel
theorem dX8_readClosed_96 : decode cX8_readClosed 96 = .ok (.iconst 1, 1) := by decide +kernel
theorem dX8_readClosed_97 : decode cX8_readClosed 97 = .ok (.istore_n 1, 1) := by decide +kernel
theorem dX8_readClosed_98 : decode cX8_readClosed 98 = .ok (.goto 15, 3) := by decide +kernel
theorem dX8_readClosed_101 : decode cX8_readClosed 101 = .ok (.aload_n 0, 1) := by decide +kernel
theorem dX8_readClosed_102 : decode cX8_readClosed 102 = .ok (.getfield 123, 3) := by decide +kernel
theorem dX8_readClosed_105 : decode cX8_readClosed 105 = .ok (.ifCond .ne 8, 3) := by decide +kernel
theorem dX8_readClosed_108 : decode cX8_readClosed 108 = .ok (.aload_n 0, 1) := by decide +kernel
theorem dX8_readClosed_109 : decode cX8_readClosed 109 = .ok (.iload_n 3, 1) := by decide +kernel
theorem dX8_readClosed_110 : decode cX8_readClosed 110 = .ok (.invokevirtual 147, 3) := by decide +kernel
theorem dX8_readClosed_113 : decode cX8_readClosed 113 = .ok (.goto (-109), 3) := by decide +kernel
theorem dX8_readClosed_116 : decode cX8_readClosed 116 = .ok (.aload_n 0, 1) := by decide +kernel
theorem dX8_readClosed_117 : decode cX8_readClosed 117 = .ok (.bipush 8, 2) := by decide +kernel
theorem dX8_readClosed_119 : decode cX8_readClosed 119 = .ok (.aload_n 0, 1) := by decide +kernel
theorem dX8_readClosed_120 : decode cX8_readClosed 120 = .ok (.getfield 126, 3) := by decide +kernel
theorem dX8_readClosed_123 : decode cX8_readClosed 123 = .ok (.bipush 8, 2) := by decide +kernel
theorem dX8_readClosed_125 : decode cX8_readClosed 125 = .ok (.irem, 1) := by decide +kernel
theorem dX8_readClosed_126 : decode cX8_readClosed 126 = .ok (.isub, 1) := by decide +kernel
theorem dX8_readClosed_127 : decode cX8_readClosed 127 = .ok (.bipush 8, 2) := by decide +kernel
theorem dX8_readClosed_129 : decode cX8_readClosed 129 = .ok (.irem, 1) := by decide +kernel
theorem dX8_readClosed_130 : decode cX8_readClosed 130 = .ok (.invokevirtual 150, 3) := by decide +kernel
theorem dX8_readClosed_133 : decode cX8_readClosed 133 = .ok (.aload_n 0, 1) := by decide +kernel
theorem dX8_readClosed_134 : decode cX8_readClosed 134 = .ok (.getfield 123, 3) := by decide +kernel
theorem dX8_readClosed_137 : decode cX8_readClosed 137 = .ok (.ifCond .ne 23, 3) := by decide +kernel
theorem dX8_readClosed_140 : decode cX8_readClosed 140 = .ok (.aload_n 0, 1) := by decide +kernel
theorem dX8_readClosed_141 : decode cX8_readClosed 141 = .ok (.getfield 126, 3) := by decide +kernel
theorem dX8_readClosed_144 : decode cX8_readClosed 144 = .ok (.bipush 8, 2) := by decide +kernel
theorem dX8_readClosed_146 : decode cX8_readClosed 146 = .ok (.aload_n 0, 1) := by decide +kernel
theorem dX8_readClosed_147 : decode cX8_readClosed 147 = .ok (.getfield 113, 3) := by decide +kernel
theorem dX8_readClosed_150 : decode cX8_readClosed 150 = .ok (.imul, 1) := by decide +kernel
theorem dX8_readClosed_151 : decode cX8_readClosed 151 = .ok (.if_icmp .ge 9, 3) := by decide +kernel
theorem dX8_readClosed_154 : decode cX8_readClosed 154 = .ok (.aload_n 0, 1) := by decide +kernel
theorem dX8_readClosed_155 : decode cX8_readClosed 155 = .ok (.bipush 6, 2) := by decide +kernel
theorem dX8_readClosed_157 : decode cX8_readClosed 157 = .ok (.putfield 123, 3) := by decide +kernel
theorem dX8_readClosed_160 : decode cX8_readClosed 160 = .ok (.return_, 1) := by decide +kernel
set_option maxRecDepth 20000 in
theorem ggX8_readOpen_X8_widthNow : GoodIn wsX8_readOpen wsX8_widthNow := goodIn_r _ [10, 4, 11, 12, 13, 14, 15, 9, 16, 5, 17, 18, 19, 20, 21, 22, 23, 24, 52, 53, 54, 55, 56, 57, 58, 59, 60, 61, 62, 63, 64, 65, 66, 67, 68, 69, 70, 71, 72, 73, 74, 75, 76, 77, 78, 79] (by decide +kernel) (by decide +kernel)
set_option maxRecDepth 20000 in
theorem gX8_readOpen_X8_widthNow : GoodIn wsX8_readOpen (wsV RX8 81 RX8 yX8_widthNow wsX8_widthNow) := goodIn_app (goodIn_of _ (by decide +kernel)) ggX8_readOpen_X8_widthNow
set_option maxRecDepth 20000 in
theorem ggX8_readOpen_X8_zeros : GoodIn wsX8_readOpen wsX8_zeros := goodIn_r _ [28, 1, 29, 30, 31, 9, 32, 3, 2, 12, 33, 52, 53, 54, 55, 56, 57, 58, 59, 60, 61, 62, 63, 64, 65, 66, 67, 68, 69, 70, 71, 72, 73, 74, 75, 76, 77, 78, 79] (by decide +kernel) (by decide +kernel)
set_option maxRecDepth 20000 in
theorem gX8_readOpen_X8_zeros : GoodIn wsX8_readOpen (wsV RX8 150 RX8 yX8_zeros wsX8_zeros) := goodIn_app (goodIn_of _ (by decide +kernel)) ggX8_readOpen_X8_zeros
set_option maxRecDepth 20000 in
theorem ggX8_readOpen_X8_number : GoodIn wsX8_readOpen wsX8_number := goodIn_r _ [37, 12, 29, 30, 31, 9, 32, 1, 3, 2, 33, 52, 53, 54, 55, 56, 57, 58, 59, 60, 61, 62, 63, 64, 65, 66, 67, 68, 69, 70, 71, 72, 73, 74, 75, 76, 77, 78, 79] (by decide +kernel) (by decide +kernel)
set_option maxRecDepth 20000 in
theorem gX8_readOpen_X8_number : GoodIn wsX8_readOpen (wsV RX8 144 RX8 yX8_number wsX8_number) := goodIn_app (goodIn_of _ (by decide +kernel)) ggX8_readOpen_X8_number
set_option maxRecDepth 20000 in
theorem ggX8_readOpen_X8_readCode : GoodIn wsX8_readOpen wsX8_readCode := goodIn_r _ [41, 5, 1, 13, 14, 15, 9, 16, 17, 18, 19, 20, 4, 12, 21, 22, 23, 24, 11, 42, 43, 44, 45, 46, 47, 48, 49, 50, 51, 52, 53, 54, 55, 56, 57, 58, 59, 60, 61, 62, 63, 64, 65, 66, 67, 68, 69, 70, 71, 72, 73, 74, 75, 76, 77, 78, 79] (by decide +kernel) (by decide +kernel)
set_option maxRecDepth 20000 in
theorem gX8_readOpen_X8_readCode : GoodIn wsX8_readOpen (wsV RX8 147 RX8 yX8_readCode wsX8_readCode) := goodIn_app (goodIn_of _ (by decide +kernel)) ggX8_readOpen_X8_readCode
theorem dX8_readOpen_0 : decode cX8_readOpen 0 = .ok (.iconst 0, 1) := by decide +kernel
theorem dX8_readOpen_1 : decode cX8_readOpen 1 = .ok (.istore_n 1, 1) := by decide +kernel
theorem dX8_readOpen_2 : decode cX8_readOpen 2 = .ok (.iconst (-1), 1) := by decide +kernel
theorem dX8_readOpen_3 : decode cX8_readOpen 3 = .ok (.istore_n 2, 1) := by decide +kernel
theorem dX8_readOpen_4 : decode cX8_readOpen 4 = .ok (.iconst 0, 1) := by decide +kernel
theorem dX8_readOpen_5 : decode cX8_readOpen 5 = .ok (.istore_n 3, 1) := by decide +kernel
theorem dX8_readOpen_6 : decode cX8_readOpen 6 = .ok (.iconst 1, 1) := by decide +kernel
theorem dX8_readOpen_7 : decode cX8_readOpen 7 = .ok (.istore 4, 2) := by decide +kernel
theorem dX8_readOpen_9 : decode cX8_readOpen 9 = .ok (.iload 4, 2) := by decide +kernel
theorem dX8_readOpen_11 : decode cX8_readOpen 11 = .ok (.ifCond .eq 175, 3) := by decide +kernel
theorem dX8_readOpen_14 : decode cX8_readOpen 14 = .ok (.aload_n 0, 1) := by decide +kernel
theorem dX8_readOpen_15 : decode cX8_readOpen 15 = .ok (.getfield 123, 3) := by decide +kernel
theorem dX8_readOpen_18 : decode cX8_readOpen 18 = .ok (.ifCond .ne 168, 3) := by decide +kernel
theorem dX8_readOpen_21 : decode cX8_readOpen 21 = .ok (.aload_n 0, 1) := by decide +kernel
theorem dX8_readOpen_22 : decode cX8_readOpen 22 = .ok (.invokevirtual 81, 3) := by decide +kernel
theorem dX8_readOpen_25 : decode cX8_readOpen 25 = .ok (.istore 5, 2) := by decide +kernel
theorem dX8_readOpen_27 : decode cX8_readOpen 27 = .ok (.iload_n 2, 1) := by decide +kernel
theorem dX8_readOpen_28 : decode cX8_readOpen 28 = .ok (.iconst (-1), 1) := by decide +kernel
theorem dX8_readOpen_29 : decode cX8_readOpen 29 = .ok (.if_icmp .eq 17, 3) := by decide +kernel
theorem dX8_readOpen_32 : decode cX8_readOpen 32 = .ok (.iload_n 3, 1) := by decide +kernel
theorem dX8_readOpen_33 : decode cX8_readOpen 33 = .ok (.ifCond .ne 9, 3) := by decide +kernel
theorem dX8_readOpen_36 : decode cX8_readOpen 36 = .ok (.iload_n 2, 1) := by decide +kernel
theorem dX8_readOpen_37 : decode cX8_readOpen 37 = .ok (.iload 5, 2) := by decide +kernel
theorem dX8_readOpen_39 : decode cX8_readOpen 39 = .ok (.if_icmp .eq 7, 3) := by decide +kernel
theorem dX8_readOpen_42 : decode cX8_readOpen 42 = .ok (.iconst 1, 1) := by decide +kernel
theorem dX8_readOpen_43 : decode cX8_readOpen 43 = .ok (.goto 4, 3) := by decide +kernel
theorem dX8_readOpen_46 : decode cX8_readOpen 46 = .ok (.iconst 0, 1) := by decide +kernel
theorem dX8_readOpen_47 : decode cX8_readOpen 47 = .ok (.istore 6, 2) := by decide +kernel
theorem dX8_readOpen_49 : decode cX8_readOpen 49 = .ok (.iload 6, 2) := by decide +kernel
theorem dX8_readOpen_51 : decode cX8_readOpen 51 = .ok (.ifCond .eq 15, 3) := by decide +kernel
theorem dX8_readOpen_54 : decode cX8_readOpen 54 = .ok (.bipush 8, 2) := by decide +kernel
theorem dX8_readOpen_56 : decode cX8_readOpen 56 = .ok (.iload_n 1, 1) := by decide +kernel
theorem dX8_readOpen_57 : decode cX8_readOpen 57 = .ok (.isub, 1) := by decide +kernel
theorem dX8_readOpen_58 : decode cX8_readOpen 58 = .ok (.bipush 8, 2) := by decide +kernel
theorem dX8_readOpen_60 : decode cX8_readOpen 60 = .ok (.irem, 1) := by decide +kernel
theorem dX8_readOpen_61 : decode cX8_readOpen 61 = .ok (.iload_n 2, 1) := by decide +kernel
theorem dX8_readOpen_62 : decode cX8_readOpen 62 = .ok (.imul, 1) := by decide +kernel
theorem dX8_readOpen_63 : decode cX8_readOpen 63 = .ok (.goto 4, 3) := by decide +kernel
theorem dX8_readOpen_66 : decode cX8_readOpen 66 = .ok (.iconst 0, 1) := by decide +kernel
theorem dX8_readOpen_67 : decode cX8_readOpen 67 = .ok (.istore 7, 2) := by decide +kernel
theorem dX8_readOpen_69 : decode cX8_readOpen 69 = .ok (.bipush 8, 2) := by decide +kernel
theorem dX8_readOpen_71 : decode cX8_readOpen 71 = .ok (.aload_n 0, 1) := by decide +kernel
theorem dX8_readOpen_72 : decode cX8_readOpen 72 = .ok (.getfield 113, 3) := by decide +kernel
theorem dX8_readOpen_75 : decode cX8_readOpen 75 = .ok (.imul, 1) := by decide +kernel
theorem dX8_readOpen_76 : decode cX8_readOpen 76 = .ok (.aload_n 0, 1) := by decide +kernel
theorem dX8_readOpen_77 : decode cX8_readOpen 77 = .ok (.getfield 126, 3) := by decide +kernel
theorem dX8_readOpen_80 : decode cX8_readOpen 80 = .ok (.isub, 1) := by decide +kernel
theorem dX8_readOpen_81 : decode cX8_readOpen 81 = .ok (.iload 7, 2) := by decide +kernel
theorem dX8_readOpen_83 : decode cX8_readOpen 83 = .ok (.iload 5, 2) := by decide +kernel
theorem dX8_readOpen_85 : decode cX8_readOpen 85 = .ok (.iadd, 1) := by decide +kernel
theorem dX8_readOpen_86 : decode cX8_readOpen 86 = .ok (.if_icmp .lt 7, 3) := by decide +kernel
theorem dX8_readOpen_89 : decode cX8_readOpen 89 = .ok (.iconst 1, 1) := by decide +kernel
theorem dX8_readOpen_90 : decode cX8_readOpen 90 = .ok (.goto 4, 3) := by decide +kernel
theorem dX8_readOpen_93 : decode cX8_readOpen 93 = .ok (.iconst 0, 1) := by decide +kernel
theorem dX8_readOpen_94 : decode cX8_readOpen 94 = .ok (.istore 4, 2) := by decide +kernel
theorem dX8_readOpen_96 : decode cX8_readOpen 96 = .ok (.iload 4, 2) := by decide +kernel
theorem dX8_readOpen_98 : decode cX8_readOpen 98 = .ok (.ifCond .eq 85, 3) := by decide +kernel
theorem dX8_readOpen_101 : decode cX8_readOpen 101 = .ok (.aload_n 0, 1) := by decide +kernel
theorem dX8_readOpen_102 : decode cX8_readOpen 102 = .ok (.iload 7, 2) := by decide +kernel
theorem dX8_readOpen_104 : decode cX8_readOpen 104 = .ok (.invokevirtual 150, 3) := by decide +kernel
theorem dX8_readOpen_107 : decode cX8_readOpen 107 = .ok (.aload_n 0, 1) := by decide +kernel
theorem dX8_readOpen_108 : decode cX8_readOpen 108 = .ok (.iload 5, 2) := by decide +kernel
theorem dX8_readOpen_110 : decode cX8_readOpen 110 = .ok (.invokevirtual 144, 3) := by decide +kernel
theorem dX8_readOpen_113 : decode cX8_readOpen 113 = .ok (.istore 8, 2) := by decide +kernel
theorem dX8_readOpen_115 : decode cX8_readOpen 115 = .ok (.iload 6, 2) := by decide +kernel
theorem dX8_readOpen_117 : decode cX8_readOpen 117 = .ok (.ifCond .eq 7, 3) := by decide +kernel
theorem dX8_readOpen_120 : decode cX8_readOpen 120 = .ok (.iconst 1, 1) := by decide +kernel
theorem dX8_readOpen_121 : decode cX8_readOpen 121 = .ok (.goto 9, 3) := by decide +kernel
theorem dX8_readOpen_124 : decode cX8_readOpen 124 = .ok (.iload_n 1, 1) := by decide +kernel
theorem dX8_readOpen_125 : decode cX8_readOpen 125 = .ok (.bipush 8, 2) := by decide +kernel
theorem dX8_readOpen_127 : decode cX8_readOpen 127 = .ok (.irem, 1) := by decide +kernel
theorem dX8_readOpen_128 : decode cX8_readOpen 128 = .ok (.iconst 1, 1) := by decide +kernel
theorem dX8_readOpen_129 : decode cX8_readOpen 129 = .ok (.iadd, 1) := by decide +kernel
theorem dX8_readOpen_130 : decode cX8_readOpen 130 = .ok (.istore_n 1, 1) := by decide +kernel
theorem dX8_readOpen_131 : decode cX8_readOpen 131 = .ok (.iload 5, 2) := by decide +kernel
theorem dX8_readOpen_133 : decode cX8_readOpen 133 = .ok (.istore_n 2, 1) := by decide +kernel
theorem dX8_readOpen_134 : decode cX8_readOpen 134 = .ok (.iload 8, 2) := by decide +kernel
theorem dX8_readOpen_136 : decode cX8_readOpen 136 = .ok (.iconst 1, 1) := by decide +kernel
theorem dX8_readOpen_137 : decode cX8_readOpen 137 = .ok (.aload_n 0, 1) := by decide +kernel
theorem dX8_readOpen_138 : decode cX8_readOpen 138 = .ok (.getfield 7, 3) := by decide +kernel
theorem dX8_readOpen_141 : decode cX8_readOpen 141 = .ok (.ishl, 1) := by decide +kernel
theorem dX8_readOpen_142 : decode cX8_readOpen 142 = .ok (.if_icmp .ne 7, 3) := by decide +kernel
theorem dX8_readOpen_145 : decode cX8_readOpen 145 = .ok (.iconst 1, 1) := by decide +kernel
theorem dX8_readOpen_146 : decode cX8_readOpen 146 = .ok (.goto 4, 3) := by decide +kernel
theorem dX8_readOpen_149 : decode cX8_readOpen 149 = .ok (.iconst 0, 1) := by decide +kernel
theorem dX8_readOpen_150 : decode cX8_readOpen 150 = .ok (.istore_n 3, 1) := by decide +kernel
theorem dX8_readOpen_151 : decode cX8_readOpen 151 = .ok (.aload_n 0, 1) := by decide +kernel
theorem dX8_readOpen_152 : decode cX8_readOpen 152 = .ok (.getfield 123, 3) := by decide +kernel
theorem dX8_readOpen_155 : decode cX8_readOpen 155 = .ok (.ifCond .ne 15, 3) := by decide +kernel
theorem dX8_readOpen_158 : decode cX8_readOpen 158 = .ok (.iload_n 3, 1) := by decide +kernel
theorem dX8_readOpen_159 : decode cX8_readOpen 159 = .ok (.ifCond .eq 11, 3) := by decide +kernel
theorem dX8_readOpen_162 : decode cX8_readOpen 162 = .ok (.aload_n 0, 1) := by decide +kernel
theorem dX8_readOpen_163 : decode cX8_readOpen 163 = .ok (.iconst 0, 1) := by decide +kernel
theorem dX8_readOpen_164 : decode cX8_readOpen 164 = .ok (.putfield 68, 3) := by decide +kernel
theorem dX8_readOpen_167 : decode cX8_readOpen 167 = .ok (.goto 16, 3) := by decide +kernel
theorem dX8_readOpen_170 : decode cX8_readOpen 170 = .ok (.aload_n 0, 1) := by decide +kernel
theorem dX8_readOpen_171 : decode cX8_readOpen 171 = .ok (.getfield 123, 3) := by decide +kernel
theorem dX8_readOpen_174 : decode cX8_readOpen 174 = .ok (.ifCond .ne 9, 3) := by decide +kernel
theorem dX8_readOpen_177 : decode cX8_readOpen 177 = .ok (.aload_n 0, 1) := by decide +kernel
theorem dX8_readOpen_178 : decode cX8_readOpen 178 = .ok (.iload 8, 2) := by decide +kernel
theorem dX8_readOpen_180 : decode cX8_readOpen 180 = .ok (.invokevirtual 147, 3) := by decide +kernel
theorem dX8_readOpen_183 : decode cX8_readOpen 183 = .ok (.goto (-174), 3) := by decide +kernel
theorem dX8_readOpen_186 : decode cX8_readOpen 186 = .ok (.aload_n 0, 1) := by decide +kernel
theorem dX8_readOpen_187 : decode cX8_readOpen 187 = .ok (.bipush 8, 2) := by decide +kernel
theorem dX8_readOpen_189 : decode cX8_readOpen 189 = .ok (.aload_n 0, 1) := by decide +kernel
theorem dX8_readOpen_190 : decode cX8_readOpen 190 = .ok (.getfield 113, 3) := by decide +kernel
theorem dX8_readOpen_193 : decode cX8_readOpen 193 = .ok (.imul, 1) := by decide +kernel
theorem dX8_readOpen_194 : decode cX8_readOpen 194 = .ok (.aload_n 0, 1) := by decide +kernel
theorem dX8_readOpen_195 : decode cX8_readOpen 195 = .ok (.getfield 126, 3) := by decide +kernel
theorem dX8_readOpen_198 : decode cX8_readOpen 198 = .ok (.isub, 1) := by decide +kernel
theorem dX8_readOpen_199 : decode cX8_readOpen 199 = .ok (.invokevirtual 150, 3) := by decide +kernel
theorem dX8_readOpen_202 : decode cX8_readOpen 202 = .ok (.return_, 1) := by decide +kernel
set_option maxRecDepth 20000 in
theorem ggX8_read_X8_readOpen : GoodIn wsX8_read wsX8_readOpen := goodIn_r _ [15, 2, 16, 1, 17, 4, 18, 19, 20, 14, 21, 22, 6, 23, 24, 25, 26, 27, 28, 29, 30, 31, 32, 33, 34, 35, 36, 37, 38, 39, 40, 41, 42, 43, 44, 45, 46, 47, 48, 49, 50, 51, 52, 53, 54, 55, 56, 57, 58, 59, 3, 9, 64, 65, 66, 67, 68, 69, 70, 71, 72, 73, 74, 75, 76, 77, 78, 79, 80, 81, 82, 83, 84, 85, 86, 87, 88, 89, 90, 91] (by decide +kernel) (by decide +kernel)
set_option maxRecDepth 20000 in
theorem gX8_read_X8_readOpen : GoodIn wsX8_read (wsV RX8 153 RX8 yX8_readOpen wsX8_readOpen) := goodIn_app (goodIn_of _ (by decide +kernel)) ggX8_read_X8_readOpen
set_option maxRecDepth 20000 in
theorem ggX8_read_X8_readClosed : GoodIn wsX8_read wsX8_readClosed := goodIn_r _ [63, 2, 17, 4, 1, 16, 18, 19, 20, 14, 21, 22, 6, 23, 24, 25, 26, 27, 28, 29, 30, 31, 32, 33, 34, 44, 45, 46, 47, 39, 40, 41, 42, 43, 48, 49, 50, 51, 52, 53, 54, 55, 56, 57, 58, 59, 3, 9, 35, 36, 37, 38, 64, 65, 66, 67, 68, 69, 70, 71, 72, 73, 74, 75, 76, 77, 78, 79, 80, 81, 82, 83, 84, 85, 86, 87, 88, 89, 90, 91] (by decide +kernel) (by decide +kernel)
set_option maxRecDepth 20000 in
theorem gX8_read_X8_readClosed : GoodIn wsX8_read (wsV RX8 156 RX8 yX8_readClosed wsX8_readClosed) := goodIn_app (goodIn_of _ (by decide +kernel)) ggX8_read_X8_readClosed
theorem dX8_read_0 : decode cX8_read 0 = .ok (.aload_n 0, 1) := by decide +kernel
theorem dX8_read_1 : decode cX8_read 1 = .ok (.iconst 0, 1) := by decide +kernel
theorem dX8_read_2 : decode cX8_read 2 = .ok (.putfield 126, 3) := by decide +kernel
theorem dX8_read_5 : decode cX8_read 5 = .ok (.aload_n 0, 1) := by decide +kernel
theorem dX8_read_6 : decode cX8_read 6 = .ok (.iconst 0, 1) := by decide +kernel
theorem dX8_read_7 : decode cX8_read 7 = .ok (.putfield 123, 3) := by decide +kernel
theorem dX8_read_10 : decode cX8_read 10 = .ok (.aload_n 0, 1) := by decide +kernel
theorem dX8_read_11 : decode cX8_read 11 = .ok (.iconst 0, 1) := by decide +kernel
theorem dX8_read_12 : decode cX8_read 12 = .ok (.putfield 138, 3) := by decide +kernel
theorem dX8_read_15 : decode cX8_read 15 = .ok (.aload_n 0, 1) := by decide +kernel
theorem dX8_read_16 : decode cX8_read 16 = .ok (.iconst 0, 1) := by decide +kernel
theorem dX8_read_17 : decode cX8_read 17 = .ok (.putfield 68, 3) := by decide +kernel
theorem dX8_read_20 : decode cX8_read 20 = .ok (.aload_n 0, 1) := by decide +kernel
theorem dX8_read_21 : decode cX8_read 21 = .ok (.iconst 0, 1) := by decide +kernel
theorem dX8_read_22 : decode cX8_read 22 = .ok (.putfield 77, 3) := by decide +kernel
theorem dX8_read_25 : decode cX8_read 25 = .ok (.aload_n 0, 1) := by decide +kernel
theorem dX8_read_26 : decode cX8_read 26 = .ok (.getfield 54, 3) := by decide +kernel
theorem dX8_read_29 : decode cX8_read 29 = .ok (.iconst 2, 1) := by decide +kernel
theorem dX8_read_30 : decode cX8_read 30 = .ok (.if_icmp .ne 10, 3) := by decide +kernel
theorem dX8_read_33 : decode cX8_read 33 = .ok (.aload_n 0, 1) := by decide +kernel
theorem dX8_read_34 : decode cX8_read 34 = .ok (.invokevirtual 153, 3) := by decide +kernel
theorem dX8_read_37 : decode cX8_read 37 = .ok (.goto 7, 3) := by decide +kernel
theorem dX8_read_40 : decode cX8_read 40 = .ok (.aload_n 0, 1) := by decide +kernel
theorem dX8_read_41 : decode cX8_read 41 = .ok (.invokevirtual 156, 3) := by decide +kernel
theorem dX8_read_44 : decode cX8_read 44 = .ok (.aload_n 0, 1) := by decide +kernel
theorem dX8_read_45 : decode cX8_read 45 = .ok (.aload_n 0, 1) := by decide +kernel
theorem dX8_read_46 : decode cX8_read 46 = .ok (.getfield 123, 3) := by decide +kernel
theorem dX8_read_49 : decode cX8_read 49 = .ok (.ifCond .ne 7, 3) := by decide +kernel
theorem dX8_read_52 : decode cX8_read 52 = .ok (.iconst (-1), 1) := by decide +kernel
theorem dX8_read_53 : decode cX8_read 53 = .ok (.goto 7, 3) := by decide +kernel
theorem dX8_read_56 : decode cX8_read 56 = .ok (.aload_n 0, 1) := by decide +kernel
theorem dX8_read_57 : decode cX8_read 57 = .ok (.getfield 126, 3) := by decide +kernel
theorem dX8_read_60 : decode cX8_read 60 = .ok (.putfield 27, 3) := by decide +kernel
theorem dX8_read_63 : decode cX8_read 63 = .ok (.aload_n 0, 1) := by decide +kernel
theorem dX8_read_64 : decode cX8_read 64 = .ok (.getfield 123, 3) := by decide +kernel
theorem dX8_read_67 : decode cX8_read 67 = .ok (.ifCond .eq 11, 3) := by decide +kernel
theorem dX8_read_70 : decode cX8_read 70 = .ok (.bipush (-10), 2) := by decide +kernel
theorem dX8_read_72 : decode cX8_read 72 = .ok (.aload_n 0, 1) := by decide +kernel
theorem dX8_read_73 : decode cX8_read 73 = .ok (.getfield 123, 3) := by decide +kernel
theorem dX8_read_76 : decode cX8_read 76 = .ok (.isub, 1) := by decide +kernel
theorem dX8_read_77 : decode cX8_read 77 = .ok (.ireturn, 1) := by decide +kernel
theorem dX8_read_78 : decode cX8_read 78 = .ok (.iconst 0, 1) := by decide +kernel
theorem dX8_read_79 : decode cX8_read 79 = .ok (.istore_n 1, 1) := by decide +kernel
theorem dX8_read_80 : decode cX8_read 80 = .ok (.iload_n 1, 1) := by decide +kernel
theorem dX8_read_81 : decode cX8_read 81 = .ok (.aload_n 0, 1) := by decide +kernel
theorem dX8_read_82 : decode cX8_read 82 = .ok (.getfield 138, 3) := by decide +kernel
theorem dX8_read_85 : decode cX8_read 85 = .ok (.if_icmp .ge 21, 3) := by decide +kernel
theorem dX8_read_88 : decode cX8_read 88 = .ok (.aload_n 0, 1) := by decide +kernel
theorem dX8_read_89 : decode cX8_read 89 = .ok (.getfield 19, 3) := by decide +kernel
theorem dX8_read_92 : decode cX8_read 92 = .ok (.iload_n 1, 1) := by decide +kernel
theorem dX8_read_93 : decode cX8_read 93 = .ok (.aload_n 0, 1) := by decide +kernel
theorem dX8_read_94 : decode cX8_read 94 = .ok (.getfield 48, 3) := by decide +kernel
theorem dX8_read_97 : decode cX8_read 97 = .ok (.iload_n 1, 1) := by decide +kernel
theorem dX8_read_98 : decode cX8_read 98 = .ok (.iaload, 1) := by decide +kernel
theorem dX8_read_99 : decode cX8_read 99 = .ok (.iastore, 1) := by decide +kernel
theorem dX8_read_100 : decode cX8_read 100 = .ok (.iinc 1 1, 3) := by decide +kernel
theorem dX8_read_103 : decode cX8_read 103 = .ok (.goto (-23), 3) := by decide +kernel
theorem dX8_read_106 : decode cX8_read 106 = .ok (.aload_n 0, 1) := by decide +kernel
theorem dX8_read_107 : decode cX8_read 107 = .ok (.aload_n 0, 1) := by decide +kernel
theorem dX8_read_108 : decode cX8_read 108 = .ok (.getfield 138, 3) := by decide +kernel
theorem dX8_read_111 : decode cX8_read 111 = .ok (.putfield 61, 3) := by decide +kernel
theorem dX8_read_114 : decode cX8_read 114 = .ok (.aload_n 0, 1) := by decide +kernel
theorem dX8_read_115 : decode cX8_read 115 = .ok (.getfield 61, 3) := by decide +kernel
theorem dX8_read_118 : decode cX8_read 118 = .ok (.ireturn, 1) := by decide +kernel
theorem dX8_fault_0 : decode cX8_fault 0 = .ok (.aload_n 0, 1) := by decide +kernel
theorem dX8_fault_1 : decode cX8_fault 1 = .ok (.getfield 27, 3) := by decide +kernel
theorem dX8_fault_4 : decode cX8_fault 4 = .ok (.ireturn, 1) := by decide +kernel
