theorem dX7_init_0 : decode cX7_init 0 = .ok (.aload_n 0, 1) := by decide +kernel
theorem dX7_init_1 : decode cX7_init 1 = .ok (.invokespecial 1, 3) := by decide +kernel
theorem dX7_init_4 : decode cX7_init 4 = .ok (.aload_n 0, 1) := by decide +kernel
theorem dX7_init_5 : decode cX7_init 5 = .ok (.bipush 24, 2) := by decide +kernel
theorem dX7_init_7 : decode cX7_init 7 = .ok (.newarray .int, 2) := by decide +kernel
theorem dX7_init_9 : decode cX7_init 9 = .ok (.putfield 7, 3) := by decide +kernel
theorem dX7_init_12 : decode cX7_init 12 = .ok (.aload_n 0, 1) := by decide +kernel
theorem dX7_init_13 : decode cX7_init 13 = .ok (.bipush 24, 2) := by decide +kernel
theorem dX7_init_15 : decode cX7_init 15 = .ok (.newarray .long, 2) := by decide +kernel
theorem dX7_init_17 : decode cX7_init 17 = .ok (.putfield 13, 3) := by decide +kernel
theorem dX7_init_20 : decode cX7_init 20 = .ok (.aload_n 0, 1) := by decide +kernel
theorem dX7_init_21 : decode cX7_init 21 = .ok (.iconst 4, 1) := by decide +kernel
theorem dX7_init_22 : decode cX7_init 22 = .ok (.newarray .int, 2) := by decide +kernel
theorem dX7_init_24 : decode cX7_init 24 = .ok (.dup, 1) := by decide +kernel
theorem dX7_init_25 : decode cX7_init 25 = .ok (.iconst 0, 1) := by decide +kernel
theorem dX7_init_26 : decode cX7_init 26 = .ok (.bipush (-4), 2) := by decide +kernel
theorem dX7_init_28 : decode cX7_init 28 = .ok (.iastore, 1) := by decide +kernel
theorem dX7_init_29 : decode cX7_init 29 = .ok (.dup, 1) := by decide +kernel
theorem dX7_init_30 : decode cX7_init 30 = .ok (.iconst 1, 1) := by decide +kernel
theorem dX7_init_31 : decode cX7_init 31 = .ok (.bipush (-4), 2) := by decide +kernel
theorem dX7_init_33 : decode cX7_init 33 = .ok (.iastore, 1) := by decide +kernel
theorem dX7_init_34 : decode cX7_init 34 = .ok (.dup, 1) := by decide +kernel
theorem dX7_init_35 : decode cX7_init 35 = .ok (.iconst 2, 1) := by decide +kernel
theorem dX7_init_36 : decode cX7_init 36 = .ok (.bipush (-4), 2) := by decide +kernel
theorem dX7_init_38 : decode cX7_init 38 = .ok (.iastore, 1) := by decide +kernel
theorem dX7_init_39 : decode cX7_init 39 = .ok (.dup, 1) := by decide +kernel
theorem dX7_init_40 : decode cX7_init 40 = .ok (.iconst 3, 1) := by decide +kernel
theorem dX7_init_41 : decode cX7_init 41 = .ok (.bipush (-4), 2) := by decide +kernel
theorem dX7_init_43 : decode cX7_init 43 = .ok (.iastore, 1) := by decide +kernel
theorem dX7_init_44 : decode cX7_init 44 = .ok (.putfield 17, 3) := by decide +kernel
theorem dX7_init_47 : decode cX7_init 47 = .ok (.aload_n 0, 1) := by decide +kernel
theorem dX7_init_48 : decode cX7_init 48 = .ok (.iconst 4, 1) := by decide +kernel
theorem dX7_init_49 : decode cX7_init 49 = .ok (.newarray .int, 2) := by decide +kernel
theorem dX7_init_51 : decode cX7_init 51 = .ok (.putfield 20, 3) := by decide +kernel
theorem dX7_init_54 : decode cX7_init 54 = .ok (.aload_n 0, 1) := by decide +kernel
theorem dX7_init_55 : decode cX7_init 55 = .ok (.sipush 256, 3) := by decide +kernel
theorem dX7_init_58 : decode cX7_init 58 = .ok (.newarray .int, 2) := by decide +kernel
theorem dX7_init_60 : decode cX7_init 60 = .ok (.putfield 23, 3) := by decide +kernel
theorem dX7_init_63 : decode cX7_init 63 = .ok (.aload_n 0, 1) := by decide +kernel
theorem dX7_init_64 : decode cX7_init 64 = .ok (.bipush 16, 2) := by decide +kernel
theorem dX7_init_66 : decode cX7_init 66 = .ok (.newarray .long, 2) := by decide +kernel
theorem dX7_init_68 : decode cX7_init 68 = .ok (.putfield 26, 3) := by decide +kernel
theorem dX7_init_71 : decode cX7_init 71 = .ok (.aload_n 0, 1) := by decide +kernel
theorem dX7_init_72 : decode cX7_init 72 = .ok (.bipush (-4), 2) := by decide +kernel
theorem dX7_init_74 : decode cX7_init 74 = .ok (.putfield 29, 3) := by decide +kernel
theorem dX7_init_77 : decode cX7_init 77 = .ok (.aload_n 0, 1) := by decide +kernel
theorem dX7_init_78 : decode cX7_init 78 = .ok (.sipush 6000, 3) := by decide +kernel
theorem dX7_init_81 : decode cX7_init 81 = .ok (.newarray .int, 2) := by decide +kernel
theorem dX7_init_83 : decode cX7_init 83 = .ok (.putfield 33, 3) := by decide +kernel
theorem dX7_init_86 : decode cX7_init 86 = .ok (.aload_n 0, 1) := by decide +kernel
theorem dX7_init_87 : decode cX7_init 87 = .ok (.sipush 600, 3) := by decide +kernel
theorem dX7_init_90 : decode cX7_init 90 = .ok (.newarray .int, 2) := by decide +kernel
theorem dX7_init_92 : decode cX7_init 92 = .ok (.putfield 36, 3) := by decide +kernel
theorem dX7_init_95 : decode cX7_init 95 = .ok (.aload_n 0, 1) := by decide +kernel
theorem dX7_init_96 : decode cX7_init 96 = .ok (.sipush 2048, 3) := by decide +kernel
theorem dX7_init_99 : decode cX7_init 99 = .ok (.newarray .int, 2) := by decide +kernel
theorem dX7_init_101 : decode cX7_init 101 = .ok (.putfield 39, 3) := by decide +kernel
theorem dX7_init_104 : decode cX7_init 104 = .ok (.aload_n 0, 1) := by decide +kernel
theorem dX7_init_105 : decode cX7_init 105 = .ok (.bipush 30, 2) := by decide +kernel
theorem dX7_init_107 : decode cX7_init 107 = .ok (.newarray .boolean, 2) := by decide +kernel
theorem dX7_init_109 : decode cX7_init 109 = .ok (.putfield 42, 3) := by decide +kernel
theorem dX7_init_112 : decode cX7_init 112 = .ok (.aload_n 0, 1) := by decide +kernel
theorem dX7_init_113 : decode cX7_init 113 = .ok (.bipush 120, 2) := by decide +kernel
theorem dX7_init_115 : decode cX7_init 115 = .ok (.newarray .int, 2) := by decide +kernel
theorem dX7_init_117 : decode cX7_init 117 = .ok (.putfield 46, 3) := by decide +kernel
theorem dX7_init_120 : decode cX7_init 120 = .ok (.return_, 1) := by decide +kernel
theorem dX7_in_0 : decode cX7_in 0 = .ok (.lload_n 0, 1) := by decide +kernel
theorem dX7_in_1 : decode cX7_in 1 = .ok (.lload_n 2, 1) := by decide +kernel
theorem dX7_in_2 : decode cX7_in 2 = .ok (.lcmp, 1) := by decide +kernel
theorem dX7_in_3 : decode cX7_in 3 = .ok (.ifCond .lt 14, 3) := by decide +kernel
theorem dX7_in_6 : decode cX7_in 6 = .ok (.lload_n 0, 1) := by decide +kernel
theorem dX7_in_7 : decode cX7_in 7 = .ok (.lload 4, 2) := by decide +kernel
theorem dX7_in_9 : decode cX7_in 9 = .ok (.lcmp, 1) := by decide +kernel
theorem dX7_in_10 : decode cX7_in 10 = .ok (.ifCond .gt 7, 3) := by decide +kernel
theorem dX7_in_13 : decode cX7_in 13 = .ok (.iconst 1, 1) := by decide +kernel
theorem dX7_in_14 : decode cX7_in 14 = .ok (.goto 4, 3) := by decide +kernel
theorem dX7_in_17 : decode cX7_in 17 = .ok (.iconst 0, 1) := by decide +kernel
theorem dX7_in_18 : decode cX7_in 18 = .ok (.ireturn, 1) := by decide +kernel
theorem dX7_at_0 : decode cX7_at 0 = .ok (.lload_n 0, 1) := by decide +kernel
theorem dX7_at_1 : decode cX7_at 1 = .ok (.iload_n 2, 1) := by decide +kernel
theorem dX7_at_2 : decode cX7_at 2 = .ok (.lshr, 1) := by decide +kernel
theorem dX7_at_3 : decode cX7_at 3 = .ok (.lconst 1, 1) := by decide +kernel
theorem dX7_at_4 : decode cX7_at 4 = .ok (.land, 1) := by decide +kernel
theorem dX7_at_5 : decode cX7_at 5 = .ok (.lconst 1, 1) := by decide +kernel
theorem dX7_at_6 : decode cX7_at 6 = .ok (.lcmp, 1) := by decide +kernel
theorem dX7_at_7 : decode cX7_at 7 = .ok (.ifCond .ne 7, 3) := by decide +kernel
theorem dX7_at_10 : decode cX7_at 10 = .ok (.iconst (-1), 1) := by decide +kernel
theorem dX7_at_11 : decode cX7_at 11 = .ok (.goto 4, 3) := by decide +kernel
theorem dX7_at_14 : decode cX7_at 14 = .ok (.iconst 1, 1) := by decide +kernel
theorem dX7_at_15 : decode cX7_at 15 = .ok (.ireturn, 1) := by decide +kernel
set_option maxRecDepth 20000 in
theorem ggX7_is_X7_in : GoodIn wsX7_is wsX7_in := goodIn_r _ [5] (by decide +kernel) (by decide +kernel)
set_option maxRecDepth 20000 in
theorem gX7_is_X7_in : GoodIn wsX7_is (va_wsS RX7 52 yX7_in wsX7_in) := goodIn_app (goodIn_of _ (by decide +kernel)) ggX7_is_X7_in
theorem dX7_is_0 : decode cX7_is 0 = .ok (.iload_n 1, 1) := by decide +kernel
theorem dX7_is_1 : decode cX7_is 1 = .ok (.i2l, 1) := by decide +kernel
theorem dX7_is_2 : decode cX7_is 2 = .ok (.lconst 0, 1) := by decide +kernel
theorem dX7_is_3 : decode cX7_is 3 = .ok (.aload_n 0, 1) := by decide +kernel
theorem dX7_is_4 : decode cX7_is 4 = .ok (.getfield 49, 3) := by decide +kernel
theorem dX7_is_7 : decode cX7_is 7 = .ok (.iconst 1, 1) := by decide +kernel
theorem dX7_is_8 : decode cX7_is 8 = .ok (.isub, 1) := by decide +kernel
theorem dX7_is_9 : decode cX7_is 9 = .ok (.i2l, 1) := by decide +kernel
theorem dX7_is_10 : decode cX7_is 10 = .ok (.invokestatic 52, 3) := by decide +kernel
theorem dX7_is_13 : decode cX7_is 13 = .ok (.ireturn, 1) := by decide +kernel
theorem dX7_added_0 : decode cX7_added 0 = .ok (.aload_n 0, 1) := by decide +kernel
theorem dX7_added_1 : decode cX7_added 1 = .ok (.getfield 7, 3) := by decide +kernel
theorem dX7_added_4 : decode cX7_added 4 = .ok (.aload_n 0, 1) := by decide +kernel
theorem dX7_added_5 : decode cX7_added 5 = .ok (.getfield 49, 3) := by decide +kernel
theorem dX7_added_8 : decode cX7_added 8 = .ok (.iload_n 1, 1) := by decide +kernel
theorem dX7_added_9 : decode cX7_added 9 = .ok (.iastore, 1) := by decide +kernel
theorem dX7_added_10 : decode cX7_added 10 = .ok (.aload_n 0, 1) := by decide +kernel
theorem dX7_added_11 : decode cX7_added 11 = .ok (.getfield 13, 3) := by decide +kernel
theorem dX7_added_14 : decode cX7_added 14 = .ok (.aload_n 0, 1) := by decide +kernel
theorem dX7_added_15 : decode cX7_added 15 = .ok (.getfield 49, 3) := by decide +kernel
theorem dX7_added_18 : decode cX7_added 18 = .ok (.lload_n 2, 1) := by decide +kernel
theorem dX7_added_19 : decode cX7_added 19 = .ok (.lastore, 1) := by decide +kernel
theorem dX7_added_20 : decode cX7_added 20 = .ok (.aload_n 0, 1) := by decide +kernel
theorem dX7_added_21 : decode cX7_added 21 = .ok (.dup, 1) := by decide +kernel
theorem dX7_added_22 : decode cX7_added 22 = .ok (.getfield 49, 3) := by decide +kernel
theorem dX7_added_25 : decode cX7_added 25 = .ok (.iconst 1, 1) := by decide +kernel
theorem dX7_added_26 : decode cX7_added 26 = .ok (.iadd, 1) := by decide +kernel
theorem dX7_added_27 : decode cX7_added 27 = .ok (.putfield 49, 3) := by decide +kernel
theorem dX7_added_30 : decode cX7_added 30 = .ok (.aload_n 0, 1) := by decide +kernel
theorem dX7_added_31 : decode cX7_added 31 = .ok (.getfield 49, 3) := by decide +kernel
theorem dX7_added_34 : decode cX7_added 34 = .ok (.iconst 1, 1) := by decide +kernel
theorem dX7_added_35 : decode cX7_added 35 = .ok (.isub, 1) := by decide +kernel
theorem dX7_added_36 : decode cX7_added 36 = .ok (.ireturn, 1) := by decide +kernel
set_option maxRecDepth 20000 in
theorem ggX7_row_X7_in : GoodIn wsX7_row wsX7_in := goodIn_r _ [6] (by decide +kernel) (by decide +kernel)
set_option maxRecDepth 20000 in
theorem gX7_row_X7_in : GoodIn wsX7_row (va_wsS RX7 52 yX7_in wsX7_in) := goodIn_app (goodIn_of _ (by decide +kernel)) ggX7_row_X7_in
set_option maxRecDepth 20000 in
theorem ggX7_row_X7_added : GoodIn wsX7_row wsX7_added := goodIn_r _ [10, 11, 2, 12, 13, 14, 15, 16, 17, 18, 19, 20, 21, 22, 23, 24, 25, 26, 27, 28] (by decide +kernel) (by decide +kernel)
set_option maxRecDepth 20000 in
theorem gX7_row_X7_added : GoodIn wsX7_row (wsV RX7 58 RX7 yX7_added wsX7_added) := goodIn_app (goodIn_of _ (by decide +kernel)) ggX7_row_X7_added
theorem dX7_row_0 : decode cX7_row 0 = .ok (.iload_n 1, 1) := by decide +kernel
theorem dX7_row_1 : decode cX7_row 1 = .ok (.i2l, 1) := by decide +kernel
theorem dX7_row_2 : decode cX7_row 2 = .ok (.lconst 1, 1) := by decide +kernel
theorem dX7_row_3 : decode cX7_row 3 = .ok (.ldc2_w 56, 3) := by decide +kernel
theorem dX7_row_6 : decode cX7_row 6 = .ok (.invokestatic 52, 3) := by decide +kernel
theorem dX7_row_9 : decode cX7_row 9 = .ok (.ifCond .eq 16, 3) := by decide +kernel
theorem dX7_row_12 : decode cX7_row 12 = .ok (.lload_n 2, 1) := by decide +kernel
theorem dX7_row_13 : decode cX7_row 13 = .ok (.lconst 0, 1) := by decide +kernel
theorem dX7_row_14 : decode cX7_row 14 = .ok (.lconst 1, 1) := by decide +kernel
theorem dX7_row_15 : decode cX7_row 15 = .ok (.iload_n 1, 1) := by decide +kernel
theorem dX7_row_16 : decode cX7_row 16 = .ok (.lshl, 1) := by decide +kernel
theorem dX7_row_17 : decode cX7_row 17 = .ok (.lconst 1, 1) := by decide +kernel
theorem dX7_row_18 : decode cX7_row 18 = .ok (.lsub, 1) := by decide +kernel
theorem dX7_row_19 : decode cX7_row 19 = .ok (.invokestatic 52, 3) := by decide +kernel
theorem dX7_row_22 : decode cX7_row 22 = .ok (.ifCond .ne 5, 3) := by decide +kernel
theorem dX7_row_25 : decode cX7_row 25 = .ok (.iconst (-1), 1) := by decide +kernel
theorem dX7_row_26 : decode cX7_row 26 = .ok (.ireturn, 1) := by decide +kernel
theorem dX7_row_27 : decode cX7_row 27 = .ok (.aload_n 0, 1) := by decide +kernel
theorem dX7_row_28 : decode cX7_row 28 = .ok (.getfield 49, 3) := by decide +kernel
theorem dX7_row_31 : decode cX7_row 31 = .ok (.bipush 24, 2) := by decide +kernel
theorem dX7_row_33 : decode cX7_row 33 = .ok (.if_icmp .ne 8, 3) := by decide +kernel
theorem dX7_row_36 : decode cX7_row 36 = .ok (.bipush (-3), 2) := by decide +kernel
theorem dX7_row_38 : decode cX7_row 38 = .ok (.goto 9, 3) := by decide +kernel
theorem dX7_row_41 : decode cX7_row 41 = .ok (.aload_n 0, 1) := by decide +kernel
theorem dX7_row_42 : decode cX7_row 42 = .ok (.iload_n 1, 1) := by decide +kernel
theorem dX7_row_43 : decode cX7_row 43 = .ok (.lload_n 2, 1) := by decide +kernel
theorem dX7_row_44 : decode cX7_row 44 = .ok (.invokevirtual 58, 3) := by decide +kernel
theorem dX7_row_47 : decode cX7_row 47 = .ok (.ireturn, 1) := by decide +kernel
set_option maxRecDepth 20000 in
theorem ggX7_sheet_X7_in : GoodIn wsX7_sheet wsX7_in := goodIn_r _ [9] (by decide +kernel) (by decide +kernel)
set_option maxRecDepth 20000 in
theorem gX7_sheet_X7_in : GoodIn wsX7_sheet (va_wsS RX7 52 yX7_in wsX7_in) := goodIn_app (goodIn_of _ (by decide +kernel)) ggX7_sheet_X7_in
theorem dX7_sheet_0 : decode cX7_sheet 0 = .ok (.iload_n 1, 1) := by decide +kernel
theorem dX7_sheet_1 : decode cX7_sheet 1 = .ok (.i2l, 1) := by decide +kernel
theorem dX7_sheet_2 : decode cX7_sheet 2 = .ok (.lconst 0, 1) := by decide +kernel
theorem dX7_sheet_3 : decode cX7_sheet 3 = .ok (.ldc2_w 62, 3) := by decide +kernel
theorem dX7_sheet_6 : decode cX7_sheet 6 = .ok (.invokestatic 52, 3) := by decide +kernel
theorem dX7_sheet_9 : decode cX7_sheet 9 = .ok (.ifCond .eq 21, 3) := by decide +kernel
theorem dX7_sheet_12 : decode cX7_sheet 12 = .ok (.iload_n 2, 1) := by decide +kernel
theorem dX7_sheet_13 : decode cX7_sheet 13 = .ok (.i2l, 1) := by decide +kernel
theorem dX7_sheet_14 : decode cX7_sheet 14 = .ok (.lconst 0, 1) := by decide +kernel
theorem dX7_sheet_15 : decode cX7_sheet 15 = .ok (.ldc2_w 64, 3) := by decide +kernel
theorem dX7_sheet_18 : decode cX7_sheet 18 = .ok (.invokestatic 52, 3) := by decide +kernel
theorem dX7_sheet_21 : decode cX7_sheet 21 = .ok (.ifCond .eq 9, 3) := by decide +kernel
theorem dX7_sheet_24 : decode cX7_sheet 24 = .ok (.iload_n 3, 1) := by decide +kernel
theorem dX7_sheet_25 : decode cX7_sheet 25 = .ok (.bipush 64, 2) := by decide +kernel
theorem dX7_sheet_27 : decode cX7_sheet 27 = .ok (.if_icmp .le 5, 3) := by decide +kernel
theorem dX7_sheet_30 : decode cX7_sheet 30 = .ok (.iconst (-1), 1) := by decide +kernel
theorem dX7_sheet_31 : decode cX7_sheet 31 = .ok (.ireturn, 1) := by decide +kernel
theorem dX7_sheet_32 : decode cX7_sheet 32 = .ok (.iload_n 3, 1) := by decide +kernel
theorem dX7_sheet_33 : decode cX7_sheet 33 = .ok (.ifCond .ge 6, 3) := by decide +kernel
theorem dX7_sheet_36 : decode cX7_sheet 36 = .ok (.bipush (-14), 2) := by decide +kernel
theorem dX7_sheet_38 : decode cX7_sheet 38 = .ok (.ireturn, 1) := by decide +kernel
theorem dX7_sheet_39 : decode cX7_sheet 39 = .ok (.aload_n 0, 1) := by decide +kernel
theorem dX7_sheet_40 : decode cX7_sheet 40 = .ok (.getfield 17, 3) := by decide +kernel
theorem dX7_sheet_43 : decode cX7_sheet 43 = .ok (.iload_n 1, 1) := by decide +kernel
theorem dX7_sheet_44 : decode cX7_sheet 44 = .ok (.iload_n 2, 1) := by decide +kernel
theorem dX7_sheet_45 : decode cX7_sheet 45 = .ok (.iastore, 1) := by decide +kernel
theorem dX7_sheet_46 : decode cX7_sheet 46 = .ok (.aload_n 0, 1) := by decide +kernel
theorem dX7_sheet_47 : decode cX7_sheet 47 = .ok (.getfield 20, 3) := by decide +kernel
theorem dX7_sheet_50 : decode cX7_sheet 50 = .ok (.iload_n 1, 1) := by decide +kernel
theorem dX7_sheet_51 : decode cX7_sheet 51 = .ok (.iload_n 3, 1) := by decide +kernel
theorem dX7_sheet_52 : decode cX7_sheet 52 = .ok (.iastore, 1) := by decide +kernel
theorem dX7_sheet_53 : decode cX7_sheet 53 = .ok (.iconst 0, 1) := by decide +kernel
theorem dX7_sheet_54 : decode cX7_sheet 54 = .ok (.istore 4, 2) := by decide +kernel
theorem dX7_sheet_56 : decode cX7_sheet 56 = .ok (.iload 4, 2) := by decide +kernel
theorem dX7_sheet_58 : decode cX7_sheet 58 = .ok (.bipush 64, 2) := by decide +kernel
theorem dX7_sheet_60 : decode cX7_sheet 60 = .ok (.if_icmp .ge 22, 3) := by decide +kernel
theorem dX7_sheet_63 : decode cX7_sheet 63 = .ok (.aload_n 0, 1) := by decide +kernel
theorem dX7_sheet_64 : decode cX7_sheet 64 = .ok (.getfield 23, 3) := by decide +kernel
theorem dX7_sheet_67 : decode cX7_sheet 67 = .ok (.bipush 64, 2) := by decide +kernel
theorem dX7_sheet_69 : decode cX7_sheet 69 = .ok (.iload_n 1, 1) := by decide +kernel
theorem dX7_sheet_70 : decode cX7_sheet 70 = .ok (.imul, 1) := by decide +kernel
theorem dX7_sheet_71 : decode cX7_sheet 71 = .ok (.iload 4, 2) := by decide +kernel
theorem dX7_sheet_73 : decode cX7_sheet 73 = .ok (.iadd, 1) := by decide +kernel
theorem dX7_sheet_74 : decode cX7_sheet 74 = .ok (.iconst 0, 1) := by decide +kernel
theorem dX7_sheet_75 : decode cX7_sheet 75 = .ok (.iastore, 1) := by decide +kernel
theorem dX7_sheet_76 : decode cX7_sheet 76 = .ok (.iinc 4 1, 3) := by decide +kernel
theorem dX7_sheet_79 : decode cX7_sheet 79 = .ok (.goto (-23), 3) := by decide +kernel
theorem dX7_sheet_82 : decode cX7_sheet 82 = .ok (.iconst 1, 1) := by decide +kernel
theorem dX7_sheet_83 : decode cX7_sheet 83 = .ok (.ireturn, 1) := by decide +kernel
set_option maxRecDepth 20000 in
theorem ggX7_lay_X7_in : GoodIn wsX7_lay wsX7_in := goodIn_r _ [8] (by decide +kernel) (by decide +kernel)
set_option maxRecDepth 20000 in
theorem gX7_lay_X7_in : GoodIn wsX7_lay (va_wsS RX7 52 yX7_in wsX7_in) := goodIn_app (goodIn_of _ (by decide +kernel)) ggX7_lay_X7_in
theorem dX7_lay_0 : decode cX7_lay 0 = .ok (.iload_n 1, 1) := by decide +kernel
theorem dX7_lay_1 : decode cX7_lay 1 = .ok (.i2l, 1) := by decide +kernel
theorem dX7_lay_2 : decode cX7_lay 2 = .ok (.lconst 0, 1) := by decide +kernel
theorem dX7_lay_3 : decode cX7_lay 3 = .ok (.ldc2_w 62, 3) := by decide +kernel
theorem dX7_lay_6 : decode cX7_lay 6 = .ok (.invokestatic 52, 3) := by decide +kernel
theorem dX7_lay_9 : decode cX7_lay 9 = .ok (.ifCond .ne 5, 3) := by decide +kernel
theorem dX7_lay_12 : decode cX7_lay 12 = .ok (.iconst (-1), 1) := by decide +kernel
theorem dX7_lay_13 : decode cX7_lay 13 = .ok (.ireturn, 1) := by decide +kernel
theorem dX7_lay_14 : decode cX7_lay 14 = .ok (.aload_n 0, 1) := by decide +kernel
theorem dX7_lay_15 : decode cX7_lay 15 = .ok (.getfield 17, 3) := by decide +kernel
theorem dX7_lay_18 : decode cX7_lay 18 = .ok (.iload_n 1, 1) := by decide +kernel
theorem dX7_lay_19 : decode cX7_lay 19 = .ok (.iaload, 1) := by decide +kernel
theorem dX7_lay_20 : decode cX7_lay 20 = .ok (.bipush (-4), 2) := by decide +kernel
theorem dX7_lay_22 : decode cX7_lay 22 = .ok (.if_icmp .ne 6, 3) := by decide +kernel
theorem dX7_lay_25 : decode cX7_lay 25 = .ok (.bipush (-11), 2) := by decide +kernel
theorem dX7_lay_27 : decode cX7_lay 27 = .ok (.ireturn, 1) := by decide +kernel
theorem dX7_lay_28 : decode cX7_lay 28 = .ok (.iload_n 2, 1) := by decide +kernel
theorem dX7_lay_29 : decode cX7_lay 29 = .ok (.i2l, 1) := by decide +kernel
theorem dX7_lay_30 : decode cX7_lay 30 = .ok (.lconst 0, 1) := by decide +kernel
theorem dX7_lay_31 : decode cX7_lay 31 = .ok (.aload_n 0, 1) := by decide +kernel
theorem dX7_lay_32 : decode cX7_lay 32 = .ok (.getfield 20, 3) := by decide +kernel
theorem dX7_lay_35 : decode cX7_lay 35 = .ok (.iload_n 1, 1) := by decide +kernel
theorem dX7_lay_36 : decode cX7_lay 36 = .ok (.iaload, 1) := by decide +kernel
theorem dX7_lay_37 : decode cX7_lay 37 = .ok (.iconst 1, 1) := by decide +kernel
theorem dX7_lay_38 : decode cX7_lay 38 = .ok (.isub, 1) := by decide +kernel
theorem dX7_lay_39 : decode cX7_lay 39 = .ok (.i2l, 1) := by decide +kernel
theorem dX7_lay_40 : decode cX7_lay 40 = .ok (.invokestatic 52, 3) := by decide +kernel
theorem dX7_lay_43 : decode cX7_lay 43 = .ok (.ifCond .ne 6, 3) := by decide +kernel
theorem dX7_lay_46 : decode cX7_lay 46 = .ok (.bipush (-12), 2) := by decide +kernel
theorem dX7_lay_48 : decode cX7_lay 48 = .ok (.ireturn, 1) := by decide +kernel
theorem dX7_lay_49 : decode cX7_lay 49 = .ok (.aload_n 0, 1) := by decide +kernel
theorem dX7_lay_50 : decode cX7_lay 50 = .ok (.getfield 23, 3) := by decide +kernel
theorem dX7_lay_53 : decode cX7_lay 53 = .ok (.bipush 64, 2) := by decide +kernel
theorem dX7_lay_55 : decode cX7_lay 55 = .ok (.iload_n 1, 1) := by decide +kernel
theorem dX7_lay_56 : decode cX7_lay 56 = .ok (.imul, 1) := by decide +kernel
theorem dX7_lay_57 : decode cX7_lay 57 = .ok (.iload_n 2, 1) := by decide +kernel
theorem dX7_lay_58 : decode cX7_lay 58 = .ok (.iadd, 1) := by decide +kernel
theorem dX7_lay_59 : decode cX7_lay 59 = .ok (.aload_n 0, 1) := by decide +kernel
theorem dX7_lay_60 : decode cX7_lay 60 = .ok (.getfield 17, 3) := by decide +kernel
theorem dX7_lay_63 : decode cX7_lay 63 = .ok (.iload_n 1, 1) := by decide +kernel
theorem dX7_lay_64 : decode cX7_lay 64 = .ok (.iaload, 1) := by decide +kernel
theorem dX7_lay_65 : decode cX7_lay 65 = .ok (.ifCond .ne 13, 3) := by decide +kernel
theorem dX7_lay_68 : decode cX7_lay 68 = .ok (.iload_n 3, 1) := by decide +kernel
theorem dX7_lay_69 : decode cX7_lay 69 = .ok (.bipush 24, 2) := by decide +kernel
theorem dX7_lay_71 : decode cX7_lay 71 = .ok (.ishl, 1) := by decide +kernel
theorem dX7_lay_72 : decode cX7_lay 72 = .ok (.bipush 24, 2) := by decide +kernel
theorem dX7_lay_74 : decode cX7_lay 74 = .ok (.ishr, 1) := by decide +kernel
theorem dX7_lay_75 : decode cX7_lay 75 = .ok (.goto 24, 3) := by decide +kernel
theorem dX7_lay_78 : decode cX7_lay 78 = .ok (.aload_n 0, 1) := by decide +kernel
theorem dX7_lay_79 : decode cX7_lay 79 = .ok (.getfield 17, 3) := by decide +kernel
theorem dX7_lay_82 : decode cX7_lay 82 = .ok (.iload_n 1, 1) := by decide +kernel
theorem dX7_lay_83 : decode cX7_lay 83 = .ok (.iaload, 1) := by decide +kernel
theorem dX7_lay_84 : decode cX7_lay 84 = .ok (.iconst 1, 1) := by decide +kernel
theorem dX7_lay_85 : decode cX7_lay 85 = .ok (.if_icmp .ne 13, 3) := by decide +kernel
theorem dX7_lay_88 : decode cX7_lay 88 = .ok (.iload_n 3, 1) := by decide +kernel
theorem dX7_lay_89 : decode cX7_lay 89 = .ok (.bipush 16, 2) := by decide +kernel
theorem dX7_lay_91 : decode cX7_lay 91 = .ok (.ishl, 1) := by decide +kernel
theorem dX7_lay_92 : decode cX7_lay 92 = .ok (.bipush 16, 2) := by decide +kernel
theorem dX7_lay_94 : decode cX7_lay 94 = .ok (.ishr, 1) := by decide +kernel
theorem dX7_lay_95 : decode cX7_lay 95 = .ok (.goto 4, 3) := by decide +kernel
theorem dX7_lay_98 : decode cX7_lay 98 = .ok (.iload_n 3, 1) := by decide +kernel
theorem dX7_lay_99 : decode cX7_lay 99 = .ok (.iastore, 1) := by decide +kernel
theorem dX7_lay_100 : decode cX7_lay 100 = .ok (.iconst 1, 1) := by decide +kernel
theorem dX7_lay_101 : decode cX7_lay 101 = .ok (.ireturn, 1) := by decide +kernel
set_option maxRecDepth 20000 in
theorem ggX7_draw_X7_in : GoodIn wsX7_draw wsX7_in := goodIn_r _ [11] (by decide +kernel) (by decide +kernel)
set_option maxRecDepth 20000 in
theorem gX7_draw_X7_in : GoodIn wsX7_draw (va_wsS RX7 52 yX7_in wsX7_in) := goodIn_app (goodIn_of _ (by decide +kernel)) ggX7_draw_X7_in
set_option maxRecDepth 20000 in
theorem ggX7_draw_X7_added : GoodIn wsX7_draw wsX7_added := goodIn_r _ [15, 16, 7, 17, 18, 19, 20, 21, 22, 23, 24, 25, 26, 27, 28, 29, 30, 31, 32, 33] (by decide +kernel) (by decide +kernel)
set_option maxRecDepth 20000 in
theorem gX7_draw_X7_added : GoodIn wsX7_draw (wsV RX7 58 RX7 yX7_added wsX7_added) := goodIn_app (goodIn_of _ (by decide +kernel)) ggX7_draw_X7_added
theorem dX7_draw_0 : decode cX7_draw 0 = .ok (.iload_n 1, 1) := by decide +kernel
theorem dX7_draw_1 : decode cX7_draw 1 = .ok (.i2l, 1) := by decide +kernel
theorem dX7_draw_2 : decode cX7_draw 2 = .ok (.lconst 0, 1) := by decide +kernel
theorem dX7_draw_3 : decode cX7_draw 3 = .ok (.ldc2_w 62, 3) := by decide +kernel
theorem dX7_draw_6 : decode cX7_draw 6 = .ok (.invokestatic 52, 3) := by decide +kernel
theorem dX7_draw_9 : decode cX7_draw 9 = .ok (.ifCond .eq 28, 3) := by decide +kernel
theorem dX7_draw_12 : decode cX7_draw 12 = .ok (.iload_n 2, 1) := by decide +kernel
theorem dX7_draw_13 : decode cX7_draw 13 = .ok (.i2l, 1) := by decide +kernel
theorem dX7_draw_14 : decode cX7_draw 14 = .ok (.lconst 0, 1) := by decide +kernel
theorem dX7_draw_15 : decode cX7_draw 15 = .ok (.ldc2_w 64, 3) := by decide +kernel
theorem dX7_draw_18 : decode cX7_draw 18 = .ok (.invokestatic 52, 3) := by decide +kernel
theorem dX7_draw_21 : decode cX7_draw 21 = .ok (.ifCond .eq 16, 3) := by decide +kernel
theorem dX7_draw_24 : decode cX7_draw 24 = .ok (.iload 4, 2) := by decide +kernel
theorem dX7_draw_26 : decode cX7_draw 26 = .ok (.i2l, 1) := by decide +kernel
theorem dX7_draw_27 : decode cX7_draw 27 = .ok (.lconst 1, 1) := by decide +kernel
theorem dX7_draw_28 : decode cX7_draw 28 = .ok (.ldc2_w 56, 3) := by decide +kernel
theorem dX7_draw_31 : decode cX7_draw 31 = .ok (.invokestatic 52, 3) := by decide +kernel
theorem dX7_draw_34 : decode cX7_draw 34 = .ok (.ifCond .ne 5, 3) := by decide +kernel
theorem dX7_draw_37 : decode cX7_draw 37 = .ok (.iconst (-1), 1) := by decide +kernel
theorem dX7_draw_38 : decode cX7_draw 38 = .ok (.ireturn, 1) := by decide +kernel
theorem dX7_draw_39 : decode cX7_draw 39 = .ok (.aload_n 0, 1) := by decide +kernel
theorem dX7_draw_40 : decode cX7_draw 40 = .ok (.getfield 17, 3) := by decide +kernel
theorem dX7_draw_43 : decode cX7_draw 43 = .ok (.iload_n 1, 1) := by decide +kernel
theorem dX7_draw_44 : decode cX7_draw 44 = .ok (.iaload, 1) := by decide +kernel
theorem dX7_draw_45 : decode cX7_draw 45 = .ok (.iload_n 2, 1) := by decide +kernel
theorem dX7_draw_46 : decode cX7_draw 46 = .ok (.if_icmp .eq 22, 3) := by decide +kernel
theorem dX7_draw_49 : decode cX7_draw 49 = .ok (.aload_n 0, 1) := by decide +kernel
theorem dX7_draw_50 : decode cX7_draw 50 = .ok (.getfield 17, 3) := by decide +kernel
theorem dX7_draw_53 : decode cX7_draw 53 = .ok (.iload_n 1, 1) := by decide +kernel
theorem dX7_draw_54 : decode cX7_draw 54 = .ok (.iaload, 1) := by decide +kernel
theorem dX7_draw_55 : decode cX7_draw 55 = .ok (.bipush (-4), 2) := by decide +kernel
theorem dX7_draw_57 : decode cX7_draw 57 = .ok (.if_icmp .ne 8, 3) := by decide +kernel
theorem dX7_draw_60 : decode cX7_draw 60 = .ok (.bipush (-11), 2) := by decide +kernel
theorem dX7_draw_62 : decode cX7_draw 62 = .ok (.goto 5, 3) := by decide +kernel
theorem dX7_draw_65 : decode cX7_draw 65 = .ok (.bipush (-13), 2) := by decide +kernel
theorem dX7_draw_67 : decode cX7_draw 67 = .ok (.ireturn, 1) := by decide +kernel
theorem dX7_draw_68 : decode cX7_draw 68 = .ok (.lconst 0, 1) := by decide +kernel
theorem dX7_draw_69 : decode cX7_draw 69 = .ok (.lstore 5, 2) := by decide +kernel
theorem dX7_draw_71 : decode cX7_draw 71 = .ok (.iconst 0, 1) := by decide +kernel
theorem dX7_draw_72 : decode cX7_draw 72 = .ok (.istore 7, 2) := by decide +kernel
theorem dX7_draw_74 : decode cX7_draw 74 = .ok (.iload 7, 2) := by decide +kernel
theorem dX7_draw_76 : decode cX7_draw 76 = .ok (.iload 4, 2) := by decide +kernel
theorem dX7_draw_78 : decode cX7_draw 78 = .ok (.if_icmp .ge 86, 3) := by decide +kernel
theorem dX7_draw_81 : decode cX7_draw 81 = .ok (.iload_n 3, 1) := by decide +kernel
theorem dX7_draw_82 : decode cX7_draw 82 = .ok (.i2l, 1) := by decide +kernel
theorem dX7_draw_83 : decode cX7_draw 83 = .ok (.iload 7, 2) := by decide +kernel
theorem dX7_draw_85 : decode cX7_draw 85 = .ok (.i2l, 1) := by decide +kernel
theorem dX7_draw_86 : decode cX7_draw 86 = .ok (.ladd, 1) := by decide +kernel
theorem dX7_draw_87 : decode cX7_draw 87 = .ok (.lconst 0, 1) := by decide +kernel
theorem dX7_draw_88 : decode cX7_draw 88 = .ok (.aload_n 0, 1) := by decide +kernel
theorem dX7_draw_89 : decode cX7_draw 89 = .ok (.getfield 20, 3) := by decide +kernel
theorem dX7_draw_92 : decode cX7_draw 92 = .ok (.iload_n 1, 1) := by decide +kernel
theorem dX7_draw_93 : decode cX7_draw 93 = .ok (.iaload, 1) := by decide +kernel
theorem dX7_draw_94 : decode cX7_draw 94 = .ok (.iconst 1, 1) := by decide +kernel
theorem dX7_draw_95 : decode cX7_draw 95 = .ok (.isub, 1) := by decide +kernel
theorem dX7_draw_96 : decode cX7_draw 96 = .ok (.i2l, 1) := by decide +kernel
theorem dX7_draw_97 : decode cX7_draw 97 = .ok (.invokestatic 52, 3) := by decide +kernel
theorem dX7_draw_100 : decode cX7_draw 100 = .ok (.ifCond .ne 6, 3) := by decide +kernel
theorem dX7_draw_103 : decode cX7_draw 103 = .ok (.bipush (-12), 2) := by decide +kernel
theorem dX7_draw_105 : decode cX7_draw 105 = .ok (.ireturn, 1) := by decide +kernel
theorem dX7_draw_106 : decode cX7_draw 106 = .ok (.aload_n 0, 1) := by decide +kernel
theorem dX7_draw_107 : decode cX7_draw 107 = .ok (.getfield 23, 3) := by decide +kernel
theorem dX7_draw_110 : decode cX7_draw 110 = .ok (.bipush 64, 2) := by decide +kernel
theorem dX7_draw_112 : decode cX7_draw 112 = .ok (.iload_n 1, 1) := by decide +kernel
theorem dX7_draw_113 : decode cX7_draw 113 = .ok (.imul, 1) := by decide +kernel
theorem dX7_draw_114 : decode cX7_draw 114 = .ok (.iload_n 3, 1) := by decide +kernel
theorem dX7_draw_115 : decode cX7_draw 115 = .ok (.iadd, 1) := by decide +kernel
theorem dX7_draw_116 : decode cX7_draw 116 = .ok (.iload 7, 2) := by decide +kernel
theorem dX7_draw_118 : decode cX7_draw 118 = .ok (.iadd, 1) := by decide +kernel
theorem dX7_draw_119 : decode cX7_draw 119 = .ok (.iaload, 1) := by decide +kernel
theorem dX7_draw_120 : decode cX7_draw 120 = .ok (.istore 8, 2) := by decide +kernel
theorem dX7_draw_122 : decode cX7_draw 122 = .ok (.iload 8, 2) := by decide +kernel
theorem dX7_draw_124 : decode cX7_draw 124 = .ok (.iconst 1, 1) := by decide +kernel
theorem dX7_draw_125 : decode cX7_draw 125 = .ok (.if_icmp .eq 15, 3) := by decide +kernel
theorem dX7_draw_128 : decode cX7_draw 128 = .ok (.iload 8, 2) := by decide +kernel
theorem dX7_draw_130 : decode cX7_draw 130 = .ok (.iconst (-1), 1) := by decide +kernel
theorem dX7_draw_131 : decode cX7_draw 131 = .ok (.if_icmp .eq 9, 3) := by decide +kernel
theorem dX7_draw_134 : decode cX7_draw 134 = .ok (.bipush (-20), 2) := by decide +kernel
theorem dX7_draw_136 : decode cX7_draw 136 = .ok (.iload 7, 2) := by decide +kernel
theorem dX7_draw_138 : decode cX7_draw 138 = .ok (.isub, 1) := by decide +kernel
theorem dX7_draw_139 : decode cX7_draw 139 = .ok (.ireturn, 1) := by decide +kernel
theorem dX7_draw_140 : decode cX7_draw 140 = .ok (.lload 5, 2) := by decide +kernel
theorem dX7_draw_142 : decode cX7_draw 142 = .ok (.iload 8, 2) := by decide +kernel
theorem dX7_draw_144 : decode cX7_draw 144 = .ok (.ifCond .ge 10, 3) := by decide +kernel
theorem dX7_draw_147 : decode cX7_draw 147 = .ok (.lconst 1, 1) := by decide +kernel
theorem dX7_draw_148 : decode cX7_draw 148 = .ok (.iload 7, 2) := by decide +kernel
theorem dX7_draw_150 : decode cX7_draw 150 = .ok (.lshl, 1) := by decide +kernel
theorem dX7_draw_151 : decode cX7_draw 151 = .ok (.goto 4, 3) := by decide +kernel
theorem dX7_draw_154 : decode cX7_draw 154 = .ok (.lconst 0, 1) := by decide +kernel
theorem dX7_draw_155 : decode cX7_draw 155 = .ok (.lor, 1) := by decide +kernel
theorem dX7_draw_156 : decode cX7_draw 156 = .ok (.lstore 5, 2) := by decide +kernel
theorem dX7_draw_158 : decode cX7_draw 158 = .ok (.iinc 7 1, 3) := by decide +kernel
theorem dX7_draw_161 : decode cX7_draw 161 = .ok (.goto (-87), 3) := by decide +kernel
theorem dX7_draw_164 : decode cX7_draw 164 = .ok (.aload_n 0, 1) := by decide +kernel
theorem dX7_draw_165 : decode cX7_draw 165 = .ok (.getfield 49, 3) := by decide +kernel
theorem dX7_draw_168 : decode cX7_draw 168 = .ok (.bipush 24, 2) := by decide +kernel
theorem dX7_draw_170 : decode cX7_draw 170 = .ok (.if_icmp .ne 8, 3) := by decide +kernel
theorem dX7_draw_173 : decode cX7_draw 173 = .ok (.bipush (-3), 2) := by decide +kernel
theorem dX7_draw_175 : decode cX7_draw 175 = .ok (.goto 11, 3) := by decide +kernel
theorem dX7_draw_178 : decode cX7_draw 178 = .ok (.aload_n 0, 1) := by decide +kernel
theorem dX7_draw_179 : decode cX7_draw 179 = .ok (.iload 4, 2) := by decide +kernel
theorem dX7_draw_181 : decode cX7_draw 181 = .ok (.lload 5, 2) := by decide +kernel
theorem dX7_draw_183 : decode cX7_draw 183 = .ok (.invokevirtual 58, 3) := by decide +kernel
theorem dX7_draw_186 : decode cX7_draw 186 = .ok (.ireturn, 1) := by decide +kernel
theorem dX7_drop_0 : decode cX7_drop 0 = .ok (.aload_n 0, 1) := by decide +kernel
theorem dX7_drop_1 : decode cX7_drop 1 = .ok (.getfield 49, 3) := by decide +kernel
theorem dX7_drop_4 : decode cX7_drop 4 = .ok (.ifCond .ne 6, 3) := by decide +kernel
theorem dX7_drop_7 : decode cX7_drop 7 = .ok (.bipush (-4), 2) := by decide +kernel
theorem dX7_drop_9 : decode cX7_drop 9 = .ok (.ireturn, 1) := by decide +kernel
theorem dX7_drop_10 : decode cX7_drop 10 = .ok (.aload_n 0, 1) := by decide +kernel
theorem dX7_drop_11 : decode cX7_drop 11 = .ok (.dup, 1) := by decide +kernel
theorem dX7_drop_12 : decode cX7_drop 12 = .ok (.getfield 49, 3) := by decide +kernel
theorem dX7_drop_15 : decode cX7_drop 15 = .ok (.iconst 1, 1) := by decide +kernel
theorem dX7_drop_16 : decode cX7_drop 16 = .ok (.isub, 1) := by decide +kernel
theorem dX7_drop_17 : decode cX7_drop 17 = .ok (.putfield 49, 3) := by decide +kernel
theorem dX7_drop_20 : decode cX7_drop 20 = .ok (.aload_n 0, 1) := by decide +kernel
theorem dX7_drop_21 : decode cX7_drop 21 = .ok (.getfield 49, 3) := by decide +kernel
theorem dX7_drop_24 : decode cX7_drop 24 = .ok (.ireturn, 1) := by decide +kernel
set_option maxRecDepth 20000 in
theorem ggX7_length_X7_is : GoodIn wsX7_length wsX7_is := goodIn_r _ [6, 7, 8, 9, 5, 10, 11, 12, 13, 14, 15, 16, 17, 18, 19, 20, 21, 22, 23, 24, 25, 26] (by decide +kernel) (by decide +kernel)
set_option maxRecDepth 20000 in
theorem gX7_length_X7_is : GoodIn wsX7_length (wsV RX7 66 RX7 yX7_is wsX7_is) := goodIn_app (goodIn_of _ (by decide +kernel)) ggX7_length_X7_is
theorem dX7_length_0 : decode cX7_length 0 = .ok (.aload_n 0, 1) := by decide +kernel
theorem dX7_length_1 : decode cX7_length 1 = .ok (.iload_n 1, 1) := by decide +kernel
theorem dX7_length_2 : decode cX7_length 2 = .ok (.invokevirtual 66, 3) := by decide +kernel
theorem dX7_length_5 : decode cX7_length 5 = .ok (.ifCond .eq 12, 3) := by decide +kernel
theorem dX7_length_8 : decode cX7_length 8 = .ok (.aload_n 0, 1) := by decide +kernel
theorem dX7_length_9 : decode cX7_length 9 = .ok (.getfield 7, 3) := by decide +kernel
theorem dX7_length_12 : decode cX7_length 12 = .ok (.iload_n 1, 1) := by decide +kernel
theorem dX7_length_13 : decode cX7_length 13 = .ok (.iaload, 1) := by decide +kernel
theorem dX7_length_14 : decode cX7_length 14 = .ok (.goto 4, 3) := by decide +kernel
theorem dX7_length_17 : decode cX7_length 17 = .ok (.iconst (-1), 1) := by decide +kernel
theorem dX7_length_18 : decode cX7_length 18 = .ok (.ireturn, 1) := by decide +kernel
set_option maxRecDepth 20000 in
theorem ggX7_place_X7_is : GoodIn wsX7_place wsX7_is := goodIn_r _ [7, 8, 9, 10, 6, 11, 15, 16, 17, 18, 19, 20, 21, 22, 23, 24, 25, 26, 27, 28, 29, 30] (by decide +kernel) (by decide +kernel)
set_option maxRecDepth 20000 in
theorem gX7_place_X7_is : GoodIn wsX7_place (wsV RX7 66 RX7 yX7_is wsX7_is) := goodIn_app (goodIn_of _ (by decide +kernel)) ggX7_place_X7_is
set_option maxRecDepth 20000 in
theorem ggX7_place_X7_in : GoodIn wsX7_place wsX7_in := goodIn_r _ [11] (by decide +kernel) (by decide +kernel)
set_option maxRecDepth 20000 in
theorem gX7_place_X7_in : GoodIn wsX7_place (va_wsS RX7 52 yX7_in wsX7_in) := goodIn_app (goodIn_of _ (by decide +kernel)) ggX7_place_X7_in
set_option maxRecDepth 20000 in
theorem ggX7_place_X7_at : GoodIn wsX7_place wsX7_at := goodIn_r _ [14] (by decide +kernel) (by decide +kernel)
set_option maxRecDepth 20000 in
theorem gX7_place_X7_at : GoodIn wsX7_place (va_wsS RX7 70 yX7_at wsX7_at) := goodIn_app (goodIn_of _ (by decide +kernel)) ggX7_place_X7_at
theorem dX7_place_0 : decode cX7_place 0 = .ok (.aload_n 0, 1) := by decide +kernel
theorem dX7_place_1 : decode cX7_place 1 = .ok (.iload_n 1, 1) := by decide +kernel
theorem dX7_place_2 : decode cX7_place 2 = .ok (.invokevirtual 66, 3) := by decide +kernel
theorem dX7_place_5 : decode cX7_place 5 = .ok (.ifCond .eq 34, 3) := by decide +kernel
theorem dX7_place_8 : decode cX7_place 8 = .ok (.iload_n 2, 1) := by decide +kernel
theorem dX7_place_9 : decode cX7_place 9 = .ok (.i2l, 1) := by decide +kernel
theorem dX7_place_10 : decode cX7_place 10 = .ok (.lconst 0, 1) := by decide +kernel
theorem dX7_place_11 : decode cX7_place 11 = .ok (.aload_n 0, 1) := by decide +kernel
theorem dX7_place_12 : decode cX7_place 12 = .ok (.getfield 7, 3) := by decide +kernel
theorem dX7_place_15 : decode cX7_place 15 = .ok (.iload_n 1, 1) := by decide +kernel
theorem dX7_place_16 : decode cX7_place 16 = .ok (.iaload, 1) := by decide +kernel
theorem dX7_place_17 : decode cX7_place 17 = .ok (.iconst 1, 1) := by decide +kernel
theorem dX7_place_18 : decode cX7_place 18 = .ok (.isub, 1) := by decide +kernel
theorem dX7_place_19 : decode cX7_place 19 = .ok (.i2l, 1) := by decide +kernel
theorem dX7_place_20 : decode cX7_place 20 = .ok (.invokestatic 52, 3) := by decide +kernel
theorem dX7_place_23 : decode cX7_place 23 = .ok (.ifCond .eq 16, 3) := by decide +kernel
theorem dX7_place_26 : decode cX7_place 26 = .ok (.aload_n 0, 1) := by decide +kernel
theorem dX7_place_27 : decode cX7_place 27 = .ok (.getfield 13, 3) := by decide +kernel
theorem dX7_place_30 : decode cX7_place 30 = .ok (.iload_n 1, 1) := by decide +kernel
theorem dX7_place_31 : decode cX7_place 31 = .ok (.laload, 1) := by decide +kernel
theorem dX7_place_32 : decode cX7_place 32 = .ok (.iload_n 2, 1) := by decide +kernel
theorem dX7_place_33 : decode cX7_place 33 = .ok (.invokestatic 70, 3) := by decide +kernel
theorem dX7_place_36 : decode cX7_place 36 = .ok (.goto 4, 3) := by decide +kernel
theorem dX7_place_39 : decode cX7_place 39 = .ok (.iconst 0, 1) := by decide +kernel
theorem dX7_place_40 : decode cX7_place 40 = .ok (.ireturn, 1) := by decide +kernel
set_option maxRecDepth 20000 in
theorem ggX7_number_X7_is : GoodIn wsX7_number wsX7_is := goodIn_r _ [7, 8, 9, 10, 6, 11, 12, 13, 14, 15, 16, 17, 18, 19, 20, 21, 22, 23, 24, 25, 26, 27] (by decide +kernel) (by decide +kernel)
set_option maxRecDepth 20000 in
theorem gX7_number_X7_is : GoodIn wsX7_number (wsV RX7 66 RX7 yX7_is wsX7_is) := goodIn_app (goodIn_of _ (by decide +kernel)) ggX7_number_X7_is
theorem dX7_number_0 : decode cX7_number 0 = .ok (.aload_n 0, 1) := by decide +kernel
theorem dX7_number_1 : decode cX7_number 1 = .ok (.iload_n 1, 1) := by decide +kernel
theorem dX7_number_2 : decode cX7_number 2 = .ok (.invokevirtual 66, 3) := by decide +kernel
theorem dX7_number_5 : decode cX7_number 5 = .ok (.ifCond .eq 12, 3) := by decide +kernel
theorem dX7_number_8 : decode cX7_number 8 = .ok (.aload_n 0, 1) := by decide +kernel
theorem dX7_number_9 : decode cX7_number 9 = .ok (.getfield 13, 3) := by decide +kernel
theorem dX7_number_12 : decode cX7_number 12 = .ok (.iload_n 1, 1) := by decide +kernel
theorem dX7_number_13 : decode cX7_number 13 = .ok (.laload, 1) := by decide +kernel
theorem dX7_number_14 : decode cX7_number 14 = .ok (.goto 6, 3) := by decide +kernel
theorem dX7_number_17 : decode cX7_number 17 = .ok (.ldc2_w 74, 3) := by decide +kernel
theorem dX7_number_20 : decode cX7_number 20 = .ok (.lreturn, 1) := by decide +kernel
set_option maxRecDepth 20000 in
theorem ggX7_openOf_X7_at : GoodIn wsX7_openOf wsX7_at := goodIn_r _ [4] (by decide +kernel) (by decide +kernel)
set_option maxRecDepth 20000 in
theorem gX7_openOf_X7_at : GoodIn wsX7_openOf (va_wsS RX7 70 yX7_at wsX7_at) := goodIn_app (goodIn_of _ (by decide +kernel)) ggX7_openOf_X7_at
theorem dX7_openOf_0 : decode cX7_openOf 0 = .ok (.iconst 0, 1) := by decide +kernel
theorem dX7_openOf_1 : decode cX7_openOf 1 = .ok (.istore 4, 2) := by decide +kernel
theorem dX7_openOf_3 : decode cX7_openOf 3 = .ok (.iconst 0, 1) := by decide +kernel
theorem dX7_openOf_4 : decode cX7_openOf 4 = .ok (.istore 5, 2) := by decide +kernel
theorem dX7_openOf_6 : decode cX7_openOf 6 = .ok (.iload 5, 2) := by decide +kernel
theorem dX7_openOf_8 : decode cX7_openOf 8 = .ok (.iload_n 3, 1) := by decide +kernel
theorem dX7_openOf_9 : decode cX7_openOf 9 = .ok (.iadd, 1) := by decide +kernel
theorem dX7_openOf_10 : decode cX7_openOf 10 = .ok (.iload_n 0, 1) := by decide +kernel
theorem dX7_openOf_11 : decode cX7_openOf 11 = .ok (.if_icmp .ge 29, 3) := by decide +kernel
theorem dX7_openOf_14 : decode cX7_openOf 14 = .ok (.iload 4, 2) := by decide +kernel
theorem dX7_openOf_16 : decode cX7_openOf 16 = .ok (.lload_n 1, 1) := by decide +kernel
theorem dX7_openOf_17 : decode cX7_openOf 17 = .ok (.iload 5, 2) := by decide +kernel
theorem dX7_openOf_19 : decode cX7_openOf 19 = .ok (.invokestatic 70, 3) := by decide +kernel
theorem dX7_openOf_22 : decode cX7_openOf 22 = .ok (.lload_n 1, 1) := by decide +kernel
theorem dX7_openOf_23 : decode cX7_openOf 23 = .ok (.iload 5, 2) := by decide +kernel
theorem dX7_openOf_25 : decode cX7_openOf 25 = .ok (.iload_n 3, 1) := by decide +kernel
theorem dX7_openOf_26 : decode cX7_openOf 26 = .ok (.iadd, 1) := by decide +kernel
theorem dX7_openOf_27 : decode cX7_openOf 27 = .ok (.invokestatic 70, 3) := by decide +kernel
theorem dX7_openOf_30 : decode cX7_openOf 30 = .ok (.imul, 1) := by decide +kernel
theorem dX7_openOf_31 : decode cX7_openOf 31 = .ok (.iadd, 1) := by decide +kernel
theorem dX7_openOf_32 : decode cX7_openOf 32 = .ok (.istore 4, 2) := by decide +kernel
theorem dX7_openOf_34 : decode cX7_openOf 34 = .ok (.iinc 5 1, 3) := by decide +kernel
theorem dX7_openOf_37 : decode cX7_openOf 37 = .ok (.goto (-31), 3) := by decide +kernel
theorem dX7_openOf_40 : decode cX7_openOf 40 = .ok (.iload 4, 2) := by decide +kernel
theorem dX7_openOf_42 : decode cX7_openOf 42 = .ok (.ireturn, 1) := by decide +kernel
set_option maxRecDepth 20000 in
theorem ggX7_roundOf_X7_at : GoodIn wsX7_roundOf wsX7_at := goodIn_r _ [4] (by decide +kernel) (by decide +kernel)
set_option maxRecDepth 20000 in
theorem gX7_roundOf_X7_at : GoodIn wsX7_roundOf (va_wsS RX7 70 yX7_at wsX7_at) := goodIn_app (goodIn_of _ (by decide +kernel)) ggX7_roundOf_X7_at
theorem dX7_roundOf_0 : decode cX7_roundOf 0 = .ok (.iconst 0, 1) := by decide +kernel
theorem dX7_roundOf_1 : decode cX7_roundOf 1 = .ok (.istore 4, 2) := by decide +kernel
theorem dX7_roundOf_3 : decode cX7_roundOf 3 = .ok (.iconst 0, 1) := by decide +kernel
theorem dX7_roundOf_4 : decode cX7_roundOf 4 = .ok (.istore 5, 2) := by decide +kernel
theorem dX7_roundOf_6 : decode cX7_roundOf 6 = .ok (.iload 5, 2) := by decide +kernel
theorem dX7_roundOf_8 : decode cX7_roundOf 8 = .ok (.iload_n 0, 1) := by decide +kernel
theorem dX7_roundOf_9 : decode cX7_roundOf 9 = .ok (.if_icmp .ge 31, 3) := by decide +kernel
theorem dX7_roundOf_12 : decode cX7_roundOf 12 = .ok (.iload 4, 2) := by decide +kernel
theorem dX7_roundOf_14 : decode cX7_roundOf 14 = .ok (.lload_n 1, 1) := by decide +kernel
theorem dX7_roundOf_15 : decode cX7_roundOf 15 = .ok (.iload 5, 2) := by decide +kernel
theorem dX7_roundOf_17 : decode cX7_roundOf 17 = .ok (.invokestatic 70, 3) := by decide +kernel
theorem dX7_roundOf_20 : decode cX7_roundOf 20 = .ok (.lload_n 1, 1) := by decide +kernel
theorem dX7_roundOf_21 : decode cX7_roundOf 21 = .ok (.iload 5, 2) := by decide +kernel
theorem dX7_roundOf_23 : decode cX7_roundOf 23 = .ok (.iload_n 3, 1) := by decide +kernel
theorem dX7_roundOf_24 : decode cX7_roundOf 24 = .ok (.iadd, 1) := by decide +kernel
theorem dX7_roundOf_25 : decode cX7_roundOf 25 = .ok (.iload_n 0, 1) := by decide +kernel
theorem dX7_roundOf_26 : decode cX7_roundOf 26 = .ok (.irem, 1) := by decide +kernel
theorem dX7_roundOf_27 : decode cX7_roundOf 27 = .ok (.invokestatic 70, 3) := by decide +kernel
theorem dX7_roundOf_30 : decode cX7_roundOf 30 = .ok (.imul, 1) := by decide +kernel
theorem dX7_roundOf_31 : decode cX7_roundOf 31 = .ok (.iadd, 1) := by decide +kernel
theorem dX7_roundOf_32 : decode cX7_roundOf 32 = .ok (.istore 4, 2) := by decide +kernel
theorem dX7_roundOf_34 : decode cX7_roundOf 34 = .ok (.iinc 5 1, 3) := by decide +kernel
theorem dX7_roundOf_37 : decode cX7_roundOf 37 = .ok (.goto (-31), 3) := by decide +kernel
theorem dX7_roundOf_40 : decode cX7_roundOf 40 = .ok (.iload 4, 2) := by decide +kernel
theorem dX7_roundOf_42 : decode cX7_roundOf 42 = .ok (.ireturn, 1) := by decide +kernel
set_option maxRecDepth 20000 in
theorem ggX7_open_X7_is : GoodIn wsX7_open wsX7_is := goodIn_r _ [7, 8, 9, 10, 6, 11, 18, 19, 20, 21, 22, 23, 24, 25, 26, 27, 28, 29, 30, 31, 32, 33] (by decide +kernel) (by decide +kernel)
set_option maxRecDepth 20000 in
theorem gX7_open_X7_is : GoodIn wsX7_open (wsV RX7 66 RX7 yX7_is wsX7_is) := goodIn_app (goodIn_of _ (by decide +kernel)) ggX7_open_X7_is
set_option maxRecDepth 20000 in
theorem ggX7_open_X7_in : GoodIn wsX7_open wsX7_in := goodIn_r _ [11] (by decide +kernel) (by decide +kernel)
set_option maxRecDepth 20000 in
theorem gX7_open_X7_in : GoodIn wsX7_open (va_wsS RX7 52 yX7_in wsX7_in) := goodIn_app (goodIn_of _ (by decide +kernel)) ggX7_open_X7_in
set_option maxRecDepth 20000 in
theorem ggX7_open_X7_openOf : GoodIn wsX7_open wsX7_openOf := goodIn_r _ [14, 15, 16, 6, 17] (by decide +kernel) (by decide +kernel)
set_option maxRecDepth 20000 in
theorem gX7_open_X7_openOf : GoodIn wsX7_open (va_wsS RX7 76 yX7_openOf wsX7_openOf) := goodIn_app (goodIn_of _ (by decide +kernel)) ggX7_open_X7_openOf
theorem dX7_open_0 : decode cX7_open 0 = .ok (.aload_n 0, 1) := by decide +kernel
theorem dX7_open_1 : decode cX7_open 1 = .ok (.iload_n 1, 1) := by decide +kernel
theorem dX7_open_2 : decode cX7_open 2 = .ok (.invokevirtual 66, 3) := by decide +kernel
theorem dX7_open_5 : decode cX7_open 5 = .ok (.ifCond .eq 40, 3) := by decide +kernel
theorem dX7_open_8 : decode cX7_open 8 = .ok (.iload_n 2, 1) := by decide +kernel
theorem dX7_open_9 : decode cX7_open 9 = .ok (.i2l, 1) := by decide +kernel
theorem dX7_open_10 : decode cX7_open 10 = .ok (.lconst 0, 1) := by decide +kernel
theorem dX7_open_11 : decode cX7_open 11 = .ok (.aload_n 0, 1) := by decide +kernel
theorem dX7_open_12 : decode cX7_open 12 = .ok (.getfield 7, 3) := by decide +kernel
theorem dX7_open_15 : decode cX7_open 15 = .ok (.iload_n 1, 1) := by decide +kernel
theorem dX7_open_16 : decode cX7_open 16 = .ok (.iaload, 1) := by decide +kernel
theorem dX7_open_17 : decode cX7_open 17 = .ok (.iconst 1, 1) := by decide +kernel
theorem dX7_open_18 : decode cX7_open 18 = .ok (.isub, 1) := by decide +kernel
theorem dX7_open_19 : decode cX7_open 19 = .ok (.i2l, 1) := by decide +kernel
theorem dX7_open_20 : decode cX7_open 20 = .ok (.invokestatic 52, 3) := by decide +kernel
theorem dX7_open_23 : decode cX7_open 23 = .ok (.ifCond .eq 22, 3) := by decide +kernel
theorem dX7_open_26 : decode cX7_open 26 = .ok (.aload_n 0, 1) := by decide +kernel
theorem dX7_open_27 : decode cX7_open 27 = .ok (.getfield 7, 3) := by decide +kernel
theorem dX7_open_30 : decode cX7_open 30 = .ok (.iload_n 1, 1) := by decide +kernel
theorem dX7_open_31 : decode cX7_open 31 = .ok (.iaload, 1) := by decide +kernel
theorem dX7_open_32 : decode cX7_open 32 = .ok (.aload_n 0, 1) := by decide +kernel
theorem dX7_open_33 : decode cX7_open 33 = .ok (.getfield 13, 3) := by decide +kernel
theorem dX7_open_36 : decode cX7_open 36 = .ok (.iload_n 1, 1) := by decide +kernel
theorem dX7_open_37 : decode cX7_open 37 = .ok (.laload, 1) := by decide +kernel
theorem dX7_open_38 : decode cX7_open 38 = .ok (.iload_n 2, 1) := by decide +kernel
theorem dX7_open_39 : decode cX7_open 39 = .ok (.invokestatic 76, 3) := by decide +kernel
theorem dX7_open_42 : decode cX7_open 42 = .ok (.goto 6, 3) := by decide +kernel
theorem dX7_open_45 : decode cX7_open 45 = .ok (.sipush 1000, 3) := by decide +kernel
theorem dX7_open_48 : decode cX7_open 48 = .ok (.ireturn, 1) := by decide +kernel
set_option maxRecDepth 20000 in
theorem ggX7_round_X7_is : GoodIn wsX7_round wsX7_is := goodIn_r _ [7, 8, 9, 10, 6, 11, 18, 19, 20, 21, 22, 23, 24, 25, 26, 27, 28, 29, 30, 31, 32, 33] (by decide +kernel) (by decide +kernel)
set_option maxRecDepth 20000 in
theorem gX7_round_X7_is : GoodIn wsX7_round (wsV RX7 66 RX7 yX7_is wsX7_is) := goodIn_app (goodIn_of _ (by decide +kernel)) ggX7_round_X7_is
set_option maxRecDepth 20000 in
theorem ggX7_round_X7_in : GoodIn wsX7_round wsX7_in := goodIn_r _ [11] (by decide +kernel) (by decide +kernel)
set_option maxRecDepth 20000 in
theorem gX7_round_X7_in : GoodIn wsX7_round (va_wsS RX7 52 yX7_in wsX7_in) := goodIn_app (goodIn_of _ (by decide +kernel)) ggX7_round_X7_in
set_option maxRecDepth 20000 in
theorem ggX7_round_X7_roundOf : GoodIn wsX7_round wsX7_roundOf := goodIn_r _ [14, 15, 16, 6, 17] (by decide +kernel) (by decide +kernel)
set_option maxRecDepth 20000 in
theorem gX7_round_X7_roundOf : GoodIn wsX7_round (va_wsS RX7 80 yX7_roundOf wsX7_roundOf) := goodIn_app (goodIn_of _ (by decide +kernel)) ggX7_round_X7_roundOf
theorem dX7_round_0 : decode cX7_round 0 = .ok (.aload_n 0, 1) := by decide +kernel
theorem dX7_round_1 : decode cX7_round 1 = .ok (.iload_n 1, 1) := by decide +kernel
theorem dX7_round_2 : decode cX7_round 2 = .ok (.invokevirtual 66, 3) := by decide +kernel
theorem dX7_round_5 : decode cX7_round 5 = .ok (.ifCond .eq 40, 3) := by decide +kernel
theorem dX7_round_8 : decode cX7_round 8 = .ok (.iload_n 2, 1) := by decide +kernel
theorem dX7_round_9 : decode cX7_round 9 = .ok (.i2l, 1) := by decide +kernel
theorem dX7_round_10 : decode cX7_round 10 = .ok (.lconst 0, 1) := by decide +kernel
theorem dX7_round_11 : decode cX7_round 11 = .ok (.aload_n 0, 1) := by decide +kernel
theorem dX7_round_12 : decode cX7_round 12 = .ok (.getfield 7, 3) := by decide +kernel
theorem dX7_round_15 : decode cX7_round 15 = .ok (.iload_n 1, 1) := by decide +kernel
theorem dX7_round_16 : decode cX7_round 16 = .ok (.iaload, 1) := by decide +kernel
theorem dX7_round_17 : decode cX7_round 17 = .ok (.iconst 1, 1) := by decide +kernel
theorem dX7_round_18 : decode cX7_round 18 = .ok (.isub, 1) := by decide +kernel
theorem dX7_round_19 : decode cX7_round 19 = .ok (.i2l, 1) := by decide +kernel
theorem dX7_round_20 : decode cX7_round 20 = .ok (.invokestatic 52, 3) := by decide +kernel
theorem dX7_round_23 : decode cX7_round 23 = .ok (.ifCond .eq 22, 3) := by decide +kernel
theorem dX7_round_26 : decode cX7_round 26 = .ok (.aload_n 0, 1) := by decide +kernel
theorem dX7_round_27 : decode cX7_round 27 = .ok (.getfield 7, 3) := by decide +kernel
theorem dX7_round_30 : decode cX7_round 30 = .ok (.iload_n 1, 1) := by decide +kernel
theorem dX7_round_31 : decode cX7_round 31 = .ok (.iaload, 1) := by decide +kernel
theorem dX7_round_32 : decode cX7_round 32 = .ok (.aload_n 0, 1) := by decide +kernel
theorem dX7_round_33 : decode cX7_round 33 = .ok (.getfield 13, 3) := by decide +kernel
theorem dX7_round_36 : decode cX7_round 36 = .ok (.iload_n 1, 1) := by decide +kernel
theorem dX7_round_37 : decode cX7_round 37 = .ok (.laload, 1) := by decide +kernel
theorem dX7_round_38 : decode cX7_round 38 = .ok (.iload_n 2, 1) := by decide +kernel
theorem dX7_round_39 : decode cX7_round 39 = .ok (.invokestatic 80, 3) := by decide +kernel
theorem dX7_round_42 : decode cX7_round 42 = .ok (.goto 6, 3) := by decide +kernel
theorem dX7_round_45 : decode cX7_round 45 = .ok (.sipush 1000, 3) := by decide +kernel
theorem dX7_round_48 : decode cX7_round 48 = .ok (.ireturn, 1) := by decide +kernel
set_option maxRecDepth 20000 in
theorem ggX7_peakOf_X7_openOf : GoodIn wsX7_peakOf wsX7_openOf := goodIn_r _ [4, 5, 6, 3, 7] (by decide +kernel) (by decide +kernel)
set_option maxRecDepth 20000 in
theorem gX7_peakOf_X7_openOf : GoodIn wsX7_peakOf (va_wsS RX7 76 yX7_openOf wsX7_openOf) := goodIn_app (goodIn_of _ (by decide +kernel)) ggX7_peakOf_X7_openOf
theorem dX7_peakOf_0 : decode cX7_peakOf 0 = .ok (.iconst 0, 1) := by decide +kernel
theorem dX7_peakOf_1 : decode cX7_peakOf 1 = .ok (.istore_n 3, 1) := by decide +kernel
theorem dX7_peakOf_2 : decode cX7_peakOf 2 = .ok (.iconst 1, 1) := by decide +kernel
theorem dX7_peakOf_3 : decode cX7_peakOf 3 = .ok (.istore 4, 2) := by decide +kernel
theorem dX7_peakOf_5 : decode cX7_peakOf 5 = .ok (.iload 4, 2) := by decide +kernel
theorem dX7_peakOf_7 : decode cX7_peakOf 7 = .ok (.iload_n 0, 1) := by decide +kernel
theorem dX7_peakOf_8 : decode cX7_peakOf 8 = .ok (.if_icmp .ge 46, 3) := by decide +kernel
theorem dX7_peakOf_11 : decode cX7_peakOf 11 = .ok (.iload_n 0, 1) := by decide +kernel
theorem dX7_peakOf_12 : decode cX7_peakOf 12 = .ok (.lload_n 1, 1) := by decide +kernel
theorem dX7_peakOf_13 : decode cX7_peakOf 13 = .ok (.iload 4, 2) := by decide +kernel
theorem dX7_peakOf_15 : decode cX7_peakOf 15 = .ok (.invokestatic 76, 3) := by decide +kernel
theorem dX7_peakOf_18 : decode cX7_peakOf 18 = .ok (.istore 5, 2) := by decide +kernel
theorem dX7_peakOf_20 : decode cX7_peakOf 20 = .ok (.iload 5, 2) := by decide +kernel
theorem dX7_peakOf_22 : decode cX7_peakOf 22 = .ok (.ifCond .ge 9, 3) := by decide +kernel
theorem dX7_peakOf_25 : decode cX7_peakOf 25 = .ok (.iload 5, 2) := by decide +kernel
theorem dX7_peakOf_27 : decode cX7_peakOf 27 = .ok (.ineg, 1) := by decide +kernel
theorem dX7_peakOf_28 : decode cX7_peakOf 28 = .ok (.goto 5, 3) := by decide +kernel
theorem dX7_peakOf_31 : decode cX7_peakOf 31 = .ok (.iload 5, 2) := by decide +kernel
theorem dX7_peakOf_33 : decode cX7_peakOf 33 = .ok (.istore 5, 2) := by decide +kernel
theorem dX7_peakOf_35 : decode cX7_peakOf 35 = .ok (.iload 5, 2) := by decide +kernel
theorem dX7_peakOf_37 : decode cX7_peakOf 37 = .ok (.iload_n 3, 1) := by decide +kernel
theorem dX7_peakOf_38 : decode cX7_peakOf 38 = .ok (.if_icmp .le 8, 3) := by decide +kernel
theorem dX7_peakOf_41 : decode cX7_peakOf 41 = .ok (.iload 5, 2) := by decide +kernel
theorem dX7_peakOf_43 : decode cX7_peakOf 43 = .ok (.goto 4, 3) := by decide +kernel
theorem dX7_peakOf_46 : decode cX7_peakOf 46 = .ok (.iload_n 3, 1) := by decide +kernel
theorem dX7_peakOf_47 : decode cX7_peakOf 47 = .ok (.istore_n 3, 1) := by decide +kernel
theorem dX7_peakOf_48 : decode cX7_peakOf 48 = .ok (.iinc 4 1, 3) := by decide +kernel
theorem dX7_peakOf_51 : decode cX7_peakOf 51 = .ok (.goto (-46), 3) := by decide +kernel
theorem dX7_peakOf_54 : decode cX7_peakOf 54 = .ok (.iload_n 3, 1) := by decide +kernel
theorem dX7_peakOf_55 : decode cX7_peakOf 55 = .ok (.ireturn, 1) := by decide +kernel
set_option maxRecDepth 20000 in
theorem ggX7_energyOf_X7_openOf : GoodIn wsX7_energyOf wsX7_openOf := goodIn_r _ [4, 5, 6, 3, 7] (by decide +kernel) (by decide +kernel)
set_option maxRecDepth 20000 in
theorem gX7_energyOf_X7_openOf : GoodIn wsX7_energyOf (va_wsS RX7 76 yX7_openOf wsX7_openOf) := goodIn_app (goodIn_of _ (by decide +kernel)) ggX7_energyOf_X7_openOf
theorem dX7_energyOf_0 : decode cX7_energyOf 0 = .ok (.iconst 0, 1) := by decide +kernel
theorem dX7_energyOf_1 : decode cX7_energyOf 1 = .ok (.istore_n 3, 1) := by decide +kernel
theorem dX7_energyOf_2 : decode cX7_energyOf 2 = .ok (.iconst 1, 1) := by decide +kernel
theorem dX7_energyOf_3 : decode cX7_energyOf 3 = .ok (.istore 4, 2) := by decide +kernel
theorem dX7_energyOf_5 : decode cX7_energyOf 5 = .ok (.iload 4, 2) := by decide +kernel
theorem dX7_energyOf_7 : decode cX7_energyOf 7 = .ok (.iload_n 0, 1) := by decide +kernel
theorem dX7_energyOf_8 : decode cX7_energyOf 8 = .ok (.if_icmp .ge 26, 3) := by decide +kernel
theorem dX7_energyOf_11 : decode cX7_energyOf 11 = .ok (.iload_n 0, 1) := by decide +kernel
theorem dX7_energyOf_12 : decode cX7_energyOf 12 = .ok (.lload_n 1, 1) := by decide +kernel
theorem dX7_energyOf_13 : decode cX7_energyOf 13 = .ok (.iload 4, 2) := by decide +kernel
theorem dX7_energyOf_15 : decode cX7_energyOf 15 = .ok (.invokestatic 76, 3) := by decide +kernel
theorem dX7_energyOf_18 : decode cX7_energyOf 18 = .ok (.istore 5, 2) := by decide +kernel
theorem dX7_energyOf_20 : decode cX7_energyOf 20 = .ok (.iload_n 3, 1) := by decide +kernel
theorem dX7_energyOf_21 : decode cX7_energyOf 21 = .ok (.iload 5, 2) := by decide +kernel
theorem dX7_energyOf_23 : decode cX7_energyOf 23 = .ok (.iload 5, 2) := by decide +kernel
theorem dX7_energyOf_25 : decode cX7_energyOf 25 = .ok (.imul, 1) := by decide +kernel
theorem dX7_energyOf_26 : decode cX7_energyOf 26 = .ok (.iadd, 1) := by decide +kernel
theorem dX7_energyOf_27 : decode cX7_energyOf 27 = .ok (.istore_n 3, 1) := by decide +kernel
theorem dX7_energyOf_28 : decode cX7_energyOf 28 = .ok (.iinc 4 1, 3) := by decide +kernel
theorem dX7_energyOf_31 : decode cX7_energyOf 31 = .ok (.goto (-26), 3) := by decide +kernel
theorem dX7_energyOf_34 : decode cX7_energyOf 34 = .ok (.iload_n 3, 1) := by decide +kernel
theorem dX7_energyOf_35 : decode cX7_energyOf 35 = .ok (.ireturn, 1) := by decide +kernel
set_option maxRecDepth 20000 in
theorem ggX7_turned_X7_at : GoodIn wsX7_turned wsX7_at := goodIn_r _ [4] (by decide +kernel) (by decide +kernel)
set_option maxRecDepth 20000 in
theorem gX7_turned_X7_at : GoodIn wsX7_turned (va_wsS RX7 70 yX7_at wsX7_at) := goodIn_app (goodIn_of _ (by decide +kernel)) ggX7_turned_X7_at
theorem dX7_turned_0 : decode cX7_turned 0 = .ok (.lconst 0, 1) := by decide +kernel
theorem dX7_turned_1 : decode cX7_turned 1 = .ok (.lstore 4, 2) := by decide +kernel
theorem dX7_turned_3 : decode cX7_turned 3 = .ok (.iconst 0, 1) := by decide +kernel
theorem dX7_turned_4 : decode cX7_turned 4 = .ok (.istore 6, 2) := by decide +kernel
theorem dX7_turned_6 : decode cX7_turned 6 = .ok (.iload 6, 2) := by decide +kernel
theorem dX7_turned_8 : decode cX7_turned 8 = .ok (.iload_n 0, 1) := by decide +kernel
theorem dX7_turned_9 : decode cX7_turned 9 = .ok (.if_icmp .ge 80, 3) := by decide +kernel
theorem dX7_turned_12 : decode cX7_turned 12 = .ok (.iload_n 3, 1) := by decide +kernel
theorem dX7_turned_13 : decode cX7_turned 13 = .ok (.ifCond .ne 12, 3) := by decide +kernel
theorem dX7_turned_16 : decode cX7_turned 16 = .ok (.iload_n 0, 1) := by decide +kernel
theorem dX7_turned_17 : decode cX7_turned 17 = .ok (.iconst 1, 1) := by decide +kernel
theorem dX7_turned_18 : decode cX7_turned 18 = .ok (.isub, 1) := by decide +kernel
theorem dX7_turned_19 : decode cX7_turned 19 = .ok (.iload 6, 2) := by decide +kernel
theorem dX7_turned_21 : decode cX7_turned 21 = .ok (.isub, 1) := by decide +kernel
theorem dX7_turned_22 : decode cX7_turned 22 = .ok (.goto 5, 3) := by decide +kernel
theorem dX7_turned_25 : decode cX7_turned 25 = .ok (.iload 6, 2) := by decide +kernel
theorem dX7_turned_27 : decode cX7_turned 27 = .ok (.istore 7, 2) := by decide +kernel
theorem dX7_turned_29 : decode cX7_turned 29 = .ok (.lload_n 1, 1) := by decide +kernel
theorem dX7_turned_30 : decode cX7_turned 30 = .ok (.iload 7, 2) := by decide +kernel
theorem dX7_turned_32 : decode cX7_turned 32 = .ok (.invokestatic 70, 3) := by decide +kernel
theorem dX7_turned_35 : decode cX7_turned 35 = .ok (.istore 8, 2) := by decide +kernel
theorem dX7_turned_37 : decode cX7_turned 37 = .ok (.iload_n 3, 1) := by decide +kernel
theorem dX7_turned_38 : decode cX7_turned 38 = .ok (.iconst 1, 1) := by decide +kernel
theorem dX7_turned_39 : decode cX7_turned 39 = .ok (.if_icmp .eq 16, 3) := by decide +kernel
theorem dX7_turned_42 : decode cX7_turned 42 = .ok (.iload_n 3, 1) := by decide +kernel
theorem dX7_turned_43 : decode cX7_turned 43 = .ok (.iconst 2, 1) := by decide +kernel
theorem dX7_turned_44 : decode cX7_turned 44 = .ok (.if_icmp .ne 17, 3) := by decide +kernel
theorem dX7_turned_47 : decode cX7_turned 47 = .ok (.iload 6, 2) := by decide +kernel
theorem dX7_turned_49 : decode cX7_turned 49 = .ok (.iconst 2, 1) := by decide +kernel
theorem dX7_turned_50 : decode cX7_turned 50 = .ok (.irem, 1) := by decide +kernel
theorem dX7_turned_51 : decode cX7_turned 51 = .ok (.iconst 1, 1) := by decide +kernel
theorem dX7_turned_52 : decode cX7_turned 52 = .ok (.if_icmp .ne 9, 3) := by decide +kernel
theorem dX7_turned_55 : decode cX7_turned 55 = .ok (.iload 8, 2) := by decide +kernel
theorem dX7_turned_57 : decode cX7_turned 57 = .ok (.ineg, 1) := by decide +kernel
theorem dX7_turned_58 : decode cX7_turned 58 = .ok (.goto 5, 3) := by decide +kernel
theorem dX7_turned_61 : decode cX7_turned 61 = .ok (.iload 8, 2) := by decide +kernel
theorem dX7_turned_63 : decode cX7_turned 63 = .ok (.istore 8, 2) := by decide +kernel
theorem dX7_turned_65 : decode cX7_turned 65 = .ok (.lload 4, 2) := by decide +kernel
theorem dX7_turned_67 : decode cX7_turned 67 = .ok (.iload 8, 2) := by decide +kernel
theorem dX7_turned_69 : decode cX7_turned 69 = .ok (.ifCond .ge 10, 3) := by decide +kernel
theorem dX7_turned_72 : decode cX7_turned 72 = .ok (.lconst 1, 1) := by decide +kernel
theorem dX7_turned_73 : decode cX7_turned 73 = .ok (.iload 6, 2) := by decide +kernel
theorem dX7_turned_75 : decode cX7_turned 75 = .ok (.lshl, 1) := by decide +kernel
theorem dX7_turned_76 : decode cX7_turned 76 = .ok (.goto 4, 3) := by decide +kernel
theorem dX7_turned_79 : decode cX7_turned 79 = .ok (.lconst 0, 1) := by decide +kernel
theorem dX7_turned_80 : decode cX7_turned 80 = .ok (.lor, 1) := by decide +kernel
theorem dX7_turned_81 : decode cX7_turned 81 = .ok (.lstore 4, 2) := by decide +kernel
theorem dX7_turned_83 : decode cX7_turned 83 = .ok (.iinc 6 1, 3) := by decide +kernel
theorem dX7_turned_86 : decode cX7_turned 86 = .ok (.goto (-80), 3) := by decide +kernel
theorem dX7_turned_89 : decode cX7_turned 89 = .ok (.lload 4, 2) := by decide +kernel
theorem dX7_turned_91 : decode cX7_turned 91 = .ok (.lreturn, 1) := by decide +kernel
set_option maxRecDepth 20000 in
theorem ggX7_turns_X7_turned : GoodIn wsX7_turns wsX7_turned := goodIn_r _ [6, 7, 8, 5, 9] (by decide +kernel) (by decide +kernel)
set_option maxRecDepth 20000 in
theorem gX7_turns_X7_turned : GoodIn wsX7_turns (va_wsS RX7 86 yX7_turned wsX7_turned) := goodIn_app (goodIn_of _ (by decide +kernel)) ggX7_turns_X7_turned
theorem dX7_turns_0 : decode cX7_turns 0 = .ok (.aload_n 0, 1) := by decide +kernel
theorem dX7_turns_1 : decode cX7_turns 1 = .ok (.getfield 26, 3) := by decide +kernel
theorem dX7_turns_4 : decode cX7_turns 4 = .ok (.iconst 0, 1) := by decide +kernel
theorem dX7_turns_5 : decode cX7_turns 5 = .ok (.lload_n 2, 1) := by decide +kernel
theorem dX7_turns_6 : decode cX7_turns 6 = .ok (.lastore, 1) := by decide +kernel
theorem dX7_turns_7 : decode cX7_turns 7 = .ok (.aload_n 0, 1) := by decide +kernel
theorem dX7_turns_8 : decode cX7_turns 8 = .ok (.iconst 1, 1) := by decide +kernel
theorem dX7_turns_9 : decode cX7_turns 9 = .ok (.putfield 83, 3) := by decide +kernel
theorem dX7_turns_12 : decode cX7_turns 12 = .ok (.lload_n 2, 1) := by decide +kernel
theorem dX7_turns_13 : decode cX7_turns 13 = .ok (.lstore 4, 2) := by decide +kernel
theorem dX7_turns_15 : decode cX7_turns 15 = .ok (.iconst 0, 1) := by decide +kernel
theorem dX7_turns_16 : decode cX7_turns 16 = .ok (.istore 6, 2) := by decide +kernel
theorem dX7_turns_18 : decode cX7_turns 18 = .ok (.iload 6, 2) := by decide +kernel
theorem dX7_turns_20 : decode cX7_turns 20 = .ok (.aload_n 0, 1) := by decide +kernel
theorem dX7_turns_21 : decode cX7_turns 21 = .ok (.getfield 83, 3) := by decide +kernel
theorem dX7_turns_24 : decode cX7_turns 24 = .ok (.if_icmp .ge 128, 3) := by decide +kernel
theorem dX7_turns_27 : decode cX7_turns 27 = .ok (.iconst 0, 1) := by decide +kernel
theorem dX7_turns_28 : decode cX7_turns 28 = .ok (.istore 7, 2) := by decide +kernel
theorem dX7_turns_30 : decode cX7_turns 30 = .ok (.iload 7, 2) := by decide +kernel
theorem dX7_turns_32 : decode cX7_turns 32 = .ok (.iconst 3, 1) := by decide +kernel
theorem dX7_turns_33 : decode cX7_turns 33 = .ok (.if_icmp .ge 113, 3) := by decide +kernel
theorem dX7_turns_36 : decode cX7_turns 36 = .ok (.iload_n 1, 1) := by decide +kernel
theorem dX7_turns_37 : decode cX7_turns 37 = .ok (.aload_n 0, 1) := by decide +kernel
theorem dX7_turns_38 : decode cX7_turns 38 = .ok (.getfield 26, 3) := by decide +kernel
theorem dX7_turns_41 : decode cX7_turns 41 = .ok (.iload 6, 2) := by decide +kernel
theorem dX7_turns_43 : decode cX7_turns 43 = .ok (.laload, 1) := by decide +kernel
theorem dX7_turns_44 : decode cX7_turns 44 = .ok (.iload 7, 2) := by decide +kernel
theorem dX7_turns_46 : decode cX7_turns 46 = .ok (.invokestatic 86, 3) := by decide +kernel
theorem dX7_turns_49 : decode cX7_turns 49 = .ok (.lstore 8, 2) := by decide +kernel
theorem dX7_turns_51 : decode cX7_turns 51 = .ok (.iconst 0, 1) := by decide +kernel
theorem dX7_turns_52 : decode cX7_turns 52 = .ok (.istore 10, 2) := by decide +kernel
theorem dX7_turns_54 : decode cX7_turns 54 = .ok (.iconst 0, 1) := by decide +kernel
theorem dX7_turns_55 : decode cX7_turns 55 = .ok (.istore 11, 2) := by decide +kernel
theorem dX7_turns_57 : decode cX7_turns 57 = .ok (.iload 11, 2) := by decide +kernel
theorem dX7_turns_59 : decode cX7_turns 59 = .ok (.aload_n 0, 1) := by decide +kernel
theorem dX7_turns_60 : decode cX7_turns 60 = .ok (.getfield 83, 3) := by decide +kernel
theorem dX7_turns_63 : decode cX7_turns 63 = .ok (.if_icmp .ge 34, 3) := by decide +kernel
theorem dX7_turns_66 : decode cX7_turns 66 = .ok (.iload 10, 2) := by decide +kernel
theorem dX7_turns_68 : decode cX7_turns 68 = .ok (.ifCond .ne 16, 3) := by decide +kernel
theorem dX7_turns_71 : decode cX7_turns 71 = .ok (.aload_n 0, 1) := by decide +kernel
theorem dX7_turns_72 : decode cX7_turns 72 = .ok (.getfield 26, 3) := by decide +kernel
theorem dX7_turns_75 : decode cX7_turns 75 = .ok (.iload 11, 2) := by decide +kernel
theorem dX7_turns_77 : decode cX7_turns 77 = .ok (.laload, 1) := by decide +kernel
theorem dX7_turns_78 : decode cX7_turns 78 = .ok (.lload 8, 2) := by decide +kernel
theorem dX7_turns_80 : decode cX7_turns 80 = .ok (.lcmp, 1) := by decide +kernel
theorem dX7_turns_81 : decode cX7_turns 81 = .ok (.ifCond .ne 7, 3) := by decide +kernel
theorem dX7_turns_84 : decode cX7_turns 84 = .ok (.iconst 1, 1) := by decide +kernel
theorem dX7_turns_85 : decode cX7_turns 85 = .ok (.goto 4, 3) := by decide +kernel
theorem dX7_turns_88 : decode cX7_turns 88 = .ok (.iconst 0, 1) := by decide +kernel
theorem dX7_turns_89 : decode cX7_turns 89 = .ok (.istore 10, 2) := by decide +kernel
theorem dX7_turns_91 : decode cX7_turns 91 = .ok (.iinc 11 1, 3) := by decide +kernel
theorem dX7_turns_94 : decode cX7_turns 94 = .ok (.goto (-37), 3) := by decide +kernel
theorem dX7_turns_97 : decode cX7_turns 97 = .ok (.iload 10, 2) := by decide +kernel
theorem dX7_turns_99 : decode cX7_turns 99 = .ok (.ifCond .ne 41, 3) := by decide +kernel
theorem dX7_turns_102 : decode cX7_turns 102 = .ok (.aload_n 0, 1) := by decide +kernel
theorem dX7_turns_103 : decode cX7_turns 103 = .ok (.getfield 26, 3) := by decide +kernel
theorem dX7_turns_106 : decode cX7_turns 106 = .ok (.aload_n 0, 1) := by decide +kernel
theorem dX7_turns_107 : decode cX7_turns 107 = .ok (.getfield 83, 3) := by decide +kernel
theorem dX7_turns_110 : decode cX7_turns 110 = .ok (.lload 8, 2) := by decide +kernel
theorem dX7_turns_112 : decode cX7_turns 112 = .ok (.lastore, 1) := by decide +kernel
theorem dX7_turns_113 : decode cX7_turns 113 = .ok (.aload_n 0, 1) := by decide +kernel
theorem dX7_turns_114 : decode cX7_turns 114 = .ok (.dup, 1) := by decide +kernel
theorem dX7_turns_115 : decode cX7_turns 115 = .ok (.getfield 83, 3) := by decide +kernel
theorem dX7_turns_118 : decode cX7_turns 118 = .ok (.iconst 1, 1) := by decide +kernel
theorem dX7_turns_119 : decode cX7_turns 119 = .ok (.iadd, 1) := by decide +kernel
theorem dX7_turns_120 : decode cX7_turns 120 = .ok (.putfield 83, 3) := by decide +kernel
theorem dX7_turns_123 : decode cX7_turns 123 = .ok (.lload 8, 2) := by decide +kernel
theorem dX7_turns_125 : decode cX7_turns 125 = .ok (.lload 4, 2) := by decide +kernel
theorem dX7_turns_127 : decode cX7_turns 127 = .ok (.lcmp, 1) := by decide +kernel
theorem dX7_turns_128 : decode cX7_turns 128 = .ok (.ifCond .ge 8, 3) := by decide +kernel
theorem dX7_turns_131 : decode cX7_turns 131 = .ok (.lload 8, 2) := by decide +kernel
theorem dX7_turns_133 : decode cX7_turns 133 = .ok (.goto 5, 3) := by decide +kernel
theorem dX7_turns_136 : decode cX7_turns 136 = .ok (.lload 4, 2) := by decide +kernel
theorem dX7_turns_138 : decode cX7_turns 138 = .ok (.lstore 4, 2) := by decide +kernel
theorem dX7_turns_140 : decode cX7_turns 140 = .ok (.iinc 7 1, 3) := by decide +kernel
theorem dX7_turns_143 : decode cX7_turns 143 = .ok (.goto (-113), 3) := by decide +kernel
theorem dX7_turns_146 : decode cX7_turns 146 = .ok (.iinc 6 1, 3) := by decide +kernel
theorem dX7_turns_149 : decode cX7_turns 149 = .ok (.goto (-131), 3) := by decide +kernel
theorem dX7_turns_152 : decode cX7_turns 152 = .ok (.lload 4, 2) := by decide +kernel
theorem dX7_turns_154 : decode cX7_turns 154 = .ok (.lreturn, 1) := by decide +kernel
set_option maxRecDepth 20000 in
theorem ggX7_about_X7_is : GoodIn wsX7_about wsX7_is := goodIn_r _ [8, 9, 10, 11, 7, 12, 33, 34, 35, 36, 37, 38, 39, 40, 41, 42, 43, 44, 45, 46, 47, 48] (by decide +kernel) (by decide +kernel)
set_option maxRecDepth 20000 in
theorem gX7_about_X7_is : GoodIn wsX7_about (wsV RX7 66 RX7 yX7_is wsX7_is) := goodIn_app (goodIn_of _ (by decide +kernel)) ggX7_about_X7_is
set_option maxRecDepth 20000 in
theorem ggX7_about_X7_peakOf : GoodIn wsX7_about wsX7_peakOf := goodIn_r _ [15, 16, 17, 7, 18, 19, 20, 21] (by decide +kernel) (by decide +kernel)
set_option maxRecDepth 20000 in
theorem gX7_about_X7_peakOf : GoodIn wsX7_about (va_wsS RX7 90 yX7_peakOf wsX7_peakOf) := goodIn_app (goodIn_of _ (by decide +kernel)) ggX7_about_X7_peakOf
set_option maxRecDepth 20000 in
theorem ggX7_about_X7_energyOf : GoodIn wsX7_about wsX7_energyOf := goodIn_r _ [24, 16, 17, 7, 18, 19, 20, 21] (by decide +kernel) (by decide +kernel)
set_option maxRecDepth 20000 in
theorem gX7_about_X7_energyOf : GoodIn wsX7_about (va_wsS RX7 93 yX7_energyOf wsX7_energyOf) := goodIn_app (goodIn_of _ (by decide +kernel)) ggX7_about_X7_energyOf
set_option maxRecDepth 20000 in
theorem ggX7_about_X7_at : GoodIn wsX7_about wsX7_at := goodIn_r _ [21] (by decide +kernel) (by decide +kernel)
set_option maxRecDepth 20000 in
theorem gX7_about_X7_at : GoodIn wsX7_about (va_wsS RX7 70 yX7_at wsX7_at) := goodIn_app (goodIn_of _ (by decide +kernel)) ggX7_about_X7_at
set_option maxRecDepth 20000 in
theorem ggX7_about_X7_turns : GoodIn wsX7_about wsX7_turns := goodIn_r _ [28, 29, 3, 30, 31, 7, 32, 19, 20, 21, 33, 34, 35, 36, 37, 38, 39, 40, 41, 42, 43, 44, 45, 46, 47, 48] (by decide +kernel) (by decide +kernel)
set_option maxRecDepth 20000 in
theorem gX7_about_X7_turns : GoodIn wsX7_about (wsV RX7 96 RX7 yX7_turns wsX7_turns) := goodIn_app (goodIn_of _ (by decide +kernel)) ggX7_about_X7_turns
theorem dX7_about_0 : decode cX7_about 0 = .ok (.aload_n 0, 1) := by decide +kernel
theorem dX7_about_1 : decode cX7_about 1 = .ok (.iload_n 1, 1) := by decide +kernel
theorem dX7_about_2 : decode cX7_about 2 = .ok (.invokevirtual 66, 3) := by decide +kernel
theorem dX7_about_5 : decode cX7_about 5 = .ok (.ifCond .ne 5, 3) := by decide +kernel
theorem dX7_about_8 : decode cX7_about 8 = .ok (.iconst (-1), 1) := by decide +kernel
theorem dX7_about_9 : decode cX7_about 9 = .ok (.ireturn, 1) := by decide +kernel
theorem dX7_about_10 : decode cX7_about 10 = .ok (.aload_n 0, 1) := by decide +kernel
theorem dX7_about_11 : decode cX7_about 11 = .ok (.getfield 7, 3) := by decide +kernel
theorem dX7_about_14 : decode cX7_about 14 = .ok (.iload_n 1, 1) := by decide +kernel
theorem dX7_about_15 : decode cX7_about 15 = .ok (.iaload, 1) := by decide +kernel
theorem dX7_about_16 : decode cX7_about 16 = .ok (.istore_n 3, 1) := by decide +kernel
theorem dX7_about_17 : decode cX7_about 17 = .ok (.aload_n 0, 1) := by decide +kernel
theorem dX7_about_18 : decode cX7_about 18 = .ok (.getfield 13, 3) := by decide +kernel
theorem dX7_about_21 : decode cX7_about 21 = .ok (.iload_n 1, 1) := by decide +kernel
theorem dX7_about_22 : decode cX7_about 22 = .ok (.laload, 1) := by decide +kernel
theorem dX7_about_23 : decode cX7_about 23 = .ok (.lstore 4, 2) := by decide +kernel
theorem dX7_about_25 : decode cX7_about 25 = .ok (.iconst 0, 1) := by decide +kernel
theorem dX7_about_26 : decode cX7_about 26 = .ok (.istore 6, 2) := by decide +kernel
theorem dX7_about_28 : decode cX7_about 28 = .ok (.iload_n 2, 1) := by decide +kernel
theorem dX7_about_29 : decode cX7_about 29 = .ok (.tableswitch 140 0 4 #[35, 42, 49, 79, 126], 35) := by decide +kernel
theorem dX7_about_64 : decode cX7_about 64 = .ok (.iload_n 3, 1) := by decide +kernel
theorem dX7_about_65 : decode cX7_about 65 = .ok (.lload 4, 2) := by decide +kernel
theorem dX7_about_67 : decode cX7_about 67 = .ok (.invokestatic 90, 3) := by decide +kernel
theorem dX7_about_70 : decode cX7_about 70 = .ok (.ireturn, 1) := by decide +kernel
theorem dX7_about_71 : decode cX7_about 71 = .ok (.iload_n 3, 1) := by decide +kernel
theorem dX7_about_72 : decode cX7_about 72 = .ok (.lload 4, 2) := by decide +kernel
theorem dX7_about_74 : decode cX7_about 74 = .ok (.invokestatic 93, 3) := by decide +kernel
theorem dX7_about_77 : decode cX7_about 77 = .ok (.ireturn, 1) := by decide +kernel
theorem dX7_about_78 : decode cX7_about 78 = .ok (.iconst 0, 1) := by decide +kernel
theorem dX7_about_79 : decode cX7_about 79 = .ok (.istore 7, 2) := by decide +kernel
theorem dX7_about_81 : decode cX7_about 81 = .ok (.iload 7, 2) := by decide +kernel
theorem dX7_about_83 : decode cX7_about 83 = .ok (.iload_n 3, 1) := by decide +kernel
theorem dX7_about_84 : decode cX7_about 84 = .ok (.if_icmp .ge 21, 3) := by decide +kernel
theorem dX7_about_87 : decode cX7_about 87 = .ok (.iload 6, 2) := by decide +kernel
theorem dX7_about_89 : decode cX7_about 89 = .ok (.lload 4, 2) := by decide +kernel
theorem dX7_about_91 : decode cX7_about 91 = .ok (.iload 7, 2) := by decide +kernel
theorem dX7_about_93 : decode cX7_about 93 = .ok (.invokestatic 70, 3) := by decide +kernel
theorem dX7_about_96 : decode cX7_about 96 = .ok (.iadd, 1) := by decide +kernel
theorem dX7_about_97 : decode cX7_about 97 = .ok (.istore 6, 2) := by decide +kernel
theorem dX7_about_99 : decode cX7_about 99 = .ok (.iinc 7 1, 3) := by decide +kernel
theorem dX7_about_102 : decode cX7_about 102 = .ok (.goto (-21), 3) := by decide +kernel
theorem dX7_about_105 : decode cX7_about 105 = .ok (.iload 6, 2) := by decide +kernel
theorem dX7_about_107 : decode cX7_about 107 = .ok (.ireturn, 1) := by decide +kernel
theorem dX7_about_108 : decode cX7_about 108 = .ok (.iconst 1, 1) := by decide +kernel
theorem dX7_about_109 : decode cX7_about 109 = .ok (.istore 7, 2) := by decide +kernel
theorem dX7_about_111 : decode cX7_about 111 = .ok (.iload 7, 2) := by decide +kernel
theorem dX7_about_113 : decode cX7_about 113 = .ok (.iload_n 3, 1) := by decide +kernel
theorem dX7_about_114 : decode cX7_about 114 = .ok (.if_icmp .ge 38, 3) := by decide +kernel
theorem dX7_about_117 : decode cX7_about 117 = .ok (.iload 6, 2) := by decide +kernel
theorem dX7_about_119 : decode cX7_about 119 = .ok (.lload 4, 2) := by decide +kernel
theorem dX7_about_121 : decode cX7_about 121 = .ok (.iload 7, 2) := by decide +kernel
theorem dX7_about_123 : decode cX7_about 123 = .ok (.invokestatic 70, 3) := by decide +kernel
theorem dX7_about_126 : decode cX7_about 126 = .ok (.lload 4, 2) := by decide +kernel
theorem dX7_about_128 : decode cX7_about 128 = .ok (.iload 7, 2) := by decide +kernel
theorem dX7_about_130 : decode cX7_about 130 = .ok (.iconst 1, 1) := by decide +kernel
theorem dX7_about_131 : decode cX7_about 131 = .ok (.isub, 1) := by decide +kernel
theorem dX7_about_132 : decode cX7_about 132 = .ok (.invokestatic 70, 3) := by decide +kernel
theorem dX7_about_135 : decode cX7_about 135 = .ok (.if_icmp .eq 7, 3) := by decide +kernel
theorem dX7_about_138 : decode cX7_about 138 = .ok (.iconst 1, 1) := by decide +kernel
theorem dX7_about_139 : decode cX7_about 139 = .ok (.goto 4, 3) := by decide +kernel
theorem dX7_about_142 : decode cX7_about 142 = .ok (.iconst 0, 1) := by decide +kernel
theorem dX7_about_143 : decode cX7_about 143 = .ok (.iadd, 1) := by decide +kernel
theorem dX7_about_144 : decode cX7_about 144 = .ok (.istore 6, 2) := by decide +kernel
theorem dX7_about_146 : decode cX7_about 146 = .ok (.iinc 7 1, 3) := by decide +kernel
theorem dX7_about_149 : decode cX7_about 149 = .ok (.goto (-38), 3) := by decide +kernel
theorem dX7_about_152 : decode cX7_about 152 = .ok (.iload 6, 2) := by decide +kernel
theorem dX7_about_154 : decode cX7_about 154 = .ok (.ireturn, 1) := by decide +kernel
theorem dX7_about_155 : decode cX7_about 155 = .ok (.aload_n 0, 1) := by decide +kernel
theorem dX7_about_156 : decode cX7_about 156 = .ok (.iload_n 3, 1) := by decide +kernel
theorem dX7_about_157 : decode cX7_about 157 = .ok (.lload 4, 2) := by decide +kernel
theorem dX7_about_159 : decode cX7_about 159 = .ok (.invokevirtual 96, 3) := by decide +kernel
theorem dX7_about_162 : decode cX7_about 162 = .ok (.lstore 7, 2) := by decide +kernel
theorem dX7_about_164 : decode cX7_about 164 = .ok (.aload_n 0, 1) := by decide +kernel
theorem dX7_about_165 : decode cX7_about 165 = .ok (.getfield 83, 3) := by decide +kernel
theorem dX7_about_168 : decode cX7_about 168 = .ok (.ireturn, 1) := by decide +kernel
theorem dX7_about_169 : decode cX7_about 169 = .ok (.iconst (-1), 1) := by decide +kernel
theorem dX7_about_170 : decode cX7_about 170 = .ok (.ireturn, 1) := by decide +kernel
set_option maxRecDepth 20000 in
theorem ggX7_least_X7_is : GoodIn wsX7_least wsX7_is := goodIn_r _ [8, 9, 10, 11, 7, 12, 25, 26, 27, 28, 29, 30, 31, 32, 33, 34, 35, 36, 37, 38, 39, 40] (by decide +kernel) (by decide +kernel)
set_option maxRecDepth 20000 in
theorem gX7_least_X7_is : GoodIn wsX7_least (wsV RX7 66 RX7 yX7_is wsX7_is) := goodIn_app (goodIn_of _ (by decide +kernel)) ggX7_least_X7_is
set_option maxRecDepth 20000 in
theorem ggX7_least_X7_turns : GoodIn wsX7_least wsX7_turns := goodIn_r _ [16, 17, 18, 19, 20, 7, 21, 22, 23, 24, 25, 26, 27, 28, 29, 30, 31, 32, 33, 34, 35, 36, 37, 38, 39, 40] (by decide +kernel) (by decide +kernel)
set_option maxRecDepth 20000 in
theorem gX7_least_X7_turns : GoodIn wsX7_least (wsV RX7 96 RX7 yX7_turns wsX7_turns) := goodIn_app (goodIn_of _ (by decide +kernel)) ggX7_least_X7_turns
theorem dX7_least_0 : decode cX7_least 0 = .ok (.aload_n 0, 1) := by decide +kernel
theorem dX7_least_1 : decode cX7_least 1 = .ok (.iload_n 1, 1) := by decide +kernel
theorem dX7_least_2 : decode cX7_least 2 = .ok (.invokevirtual 66, 3) := by decide +kernel
theorem dX7_least_5 : decode cX7_least 5 = .ok (.ifCond .eq 22, 3) := by decide +kernel
theorem dX7_least_8 : decode cX7_least 8 = .ok (.aload_n 0, 1) := by decide +kernel
theorem dX7_least_9 : decode cX7_least 9 = .ok (.aload_n 0, 1) := by decide +kernel
theorem dX7_least_10 : decode cX7_least 10 = .ok (.getfield 7, 3) := by decide +kernel
theorem dX7_least_13 : decode cX7_least 13 = .ok (.iload_n 1, 1) := by decide +kernel
theorem dX7_least_14 : decode cX7_least 14 = .ok (.iaload, 1) := by decide +kernel
theorem dX7_least_15 : decode cX7_least 15 = .ok (.aload_n 0, 1) := by decide +kernel
theorem dX7_least_16 : decode cX7_least 16 = .ok (.getfield 13, 3) := by decide +kernel
theorem dX7_least_19 : decode cX7_least 19 = .ok (.iload_n 1, 1) := by decide +kernel
theorem dX7_least_20 : decode cX7_least 20 = .ok (.laload, 1) := by decide +kernel
theorem dX7_least_21 : decode cX7_least 21 = .ok (.invokevirtual 96, 3) := by decide +kernel
theorem dX7_least_24 : decode cX7_least 24 = .ok (.goto 6, 3) := by decide +kernel
theorem dX7_least_27 : decode cX7_least 27 = .ok (.ldc2_w 74, 3) := by decide +kernel
theorem dX7_least_30 : decode cX7_least 30 = .ok (.lreturn, 1) := by decide +kernel
set_option maxRecDepth 20000 in
theorem ggX7_turn_X7_is : GoodIn wsX7_turn wsX7_is := goodIn_r _ [9, 2, 10, 11, 8, 12, 23, 24, 25, 26, 27, 28, 29, 30, 31, 32, 33, 34, 35, 36, 37, 38] (by decide +kernel) (by decide +kernel)
set_option maxRecDepth 20000 in
theorem gX7_turn_X7_is : GoodIn wsX7_turn (wsV RX7 66 RX7 yX7_is wsX7_is) := goodIn_app (goodIn_of _ (by decide +kernel)) ggX7_turn_X7_is
set_option maxRecDepth 20000 in
theorem ggX7_turn_X7_in : GoodIn wsX7_turn wsX7_in := goodIn_r _ [12] (by decide +kernel) (by decide +kernel)
set_option maxRecDepth 20000 in
theorem gX7_turn_X7_in : GoodIn wsX7_turn (va_wsS RX7 52 yX7_in wsX7_in) := goodIn_app (goodIn_of _ (by decide +kernel)) ggX7_turn_X7_in
set_option maxRecDepth 20000 in
theorem ggX7_turn_X7_turned : GoodIn wsX7_turn wsX7_turned := goodIn_r _ [15, 16, 17, 8, 18] (by decide +kernel) (by decide +kernel)
set_option maxRecDepth 20000 in
theorem gX7_turn_X7_turned : GoodIn wsX7_turn (va_wsS RX7 86 yX7_turned wsX7_turned) := goodIn_app (goodIn_of _ (by decide +kernel)) ggX7_turn_X7_turned
set_option maxRecDepth 20000 in
theorem ggX7_turn_X7_added : GoodIn wsX7_turn wsX7_added := goodIn_r _ [22, 3, 2, 4, 23, 24, 25, 26, 27, 28, 29, 30, 31, 32, 33, 34, 35, 36, 37, 38] (by decide +kernel) (by decide +kernel)
set_option maxRecDepth 20000 in
theorem gX7_turn_X7_added : GoodIn wsX7_turn (wsV RX7 58 RX7 yX7_added wsX7_added) := goodIn_app (goodIn_of _ (by decide +kernel)) ggX7_turn_X7_added
theorem dX7_turn_0 : decode cX7_turn 0 = .ok (.aload_n 0, 1) := by decide +kernel
theorem dX7_turn_1 : decode cX7_turn 1 = .ok (.iload_n 1, 1) := by decide +kernel
theorem dX7_turn_2 : decode cX7_turn 2 = .ok (.invokevirtual 66, 3) := by decide +kernel
theorem dX7_turn_5 : decode cX7_turn 5 = .ok (.ifCond .eq 15, 3) := by decide +kernel
theorem dX7_turn_8 : decode cX7_turn 8 = .ok (.iload_n 2, 1) := by decide +kernel
theorem dX7_turn_9 : decode cX7_turn 9 = .ok (.i2l, 1) := by decide +kernel
theorem dX7_turn_10 : decode cX7_turn 10 = .ok (.lconst 0, 1) := by decide +kernel
theorem dX7_turn_11 : decode cX7_turn 11 = .ok (.ldc2_w 64, 3) := by decide +kernel
theorem dX7_turn_14 : decode cX7_turn 14 = .ok (.invokestatic 52, 3) := by decide +kernel
theorem dX7_turn_17 : decode cX7_turn 17 = .ok (.ifCond .ne 5, 3) := by decide +kernel
theorem dX7_turn_20 : decode cX7_turn 20 = .ok (.iconst (-1), 1) := by decide +kernel
theorem dX7_turn_21 : decode cX7_turn 21 = .ok (.ireturn, 1) := by decide +kernel
theorem dX7_turn_22 : decode cX7_turn 22 = .ok (.aload_n 0, 1) := by decide +kernel
theorem dX7_turn_23 : decode cX7_turn 23 = .ok (.getfield 49, 3) := by decide +kernel
theorem dX7_turn_26 : decode cX7_turn 26 = .ok (.bipush 24, 2) := by decide +kernel
theorem dX7_turn_28 : decode cX7_turn 28 = .ok (.if_icmp .ne 8, 3) := by decide +kernel
theorem dX7_turn_31 : decode cX7_turn 31 = .ok (.bipush (-3), 2) := by decide +kernel
theorem dX7_turn_33 : decode cX7_turn 33 = .ok (.goto 29, 3) := by decide +kernel
theorem dX7_turn_36 : decode cX7_turn 36 = .ok (.aload_n 0, 1) := by decide +kernel
theorem dX7_turn_37 : decode cX7_turn 37 = .ok (.aload_n 0, 1) := by decide +kernel
theorem dX7_turn_38 : decode cX7_turn 38 = .ok (.getfield 7, 3) := by decide +kernel
theorem dX7_turn_41 : decode cX7_turn 41 = .ok (.iload_n 1, 1) := by decide +kernel
theorem dX7_turn_42 : decode cX7_turn 42 = .ok (.iaload, 1) := by decide +kernel
theorem dX7_turn_43 : decode cX7_turn 43 = .ok (.aload_n 0, 1) := by decide +kernel
theorem dX7_turn_44 : decode cX7_turn 44 = .ok (.getfield 7, 3) := by decide +kernel
theorem dX7_turn_47 : decode cX7_turn 47 = .ok (.iload_n 1, 1) := by decide +kernel
theorem dX7_turn_48 : decode cX7_turn 48 = .ok (.iaload, 1) := by decide +kernel
theorem dX7_turn_49 : decode cX7_turn 49 = .ok (.aload_n 0, 1) := by decide +kernel
theorem dX7_turn_50 : decode cX7_turn 50 = .ok (.getfield 13, 3) := by decide +kernel
theorem dX7_turn_53 : decode cX7_turn 53 = .ok (.iload_n 1, 1) := by decide +kernel
theorem dX7_turn_54 : decode cX7_turn 54 = .ok (.laload, 1) := by decide +kernel
theorem dX7_turn_55 : decode cX7_turn 55 = .ok (.iload_n 2, 1) := by decide +kernel
theorem dX7_turn_56 : decode cX7_turn 56 = .ok (.invokestatic 86, 3) := by decide +kernel
theorem dX7_turn_59 : decode cX7_turn 59 = .ok (.invokevirtual 58, 3) := by decide +kernel
theorem dX7_turn_62 : decode cX7_turn 62 = .ok (.ireturn, 1) := by decide +kernel
set_option maxRecDepth 20000 in
theorem ggX7_areLike_X7_is : GoodIn wsX7_areLike wsX7_is := goodIn_r _ [6, 7, 8, 9, 5, 10, 11, 12, 13, 14, 15, 16, 17, 18, 19, 20, 21, 22, 23, 24, 25, 26] (by decide +kernel) (by decide +kernel)
set_option maxRecDepth 20000 in
theorem gX7_areLike_X7_is : GoodIn wsX7_areLike (wsV RX7 66 RX7 yX7_is wsX7_is) := goodIn_app (goodIn_of _ (by decide +kernel)) ggX7_areLike_X7_is
theorem dX7_areLike_0 : decode cX7_areLike 0 = .ok (.aload_n 0, 1) := by decide +kernel
theorem dX7_areLike_1 : decode cX7_areLike 1 = .ok (.iload_n 1, 1) := by decide +kernel
theorem dX7_areLike_2 : decode cX7_areLike 2 = .ok (.invokevirtual 66, 3) := by decide +kernel
theorem dX7_areLike_5 : decode cX7_areLike 5 = .ok (.ifCond .eq 30, 3) := by decide +kernel
theorem dX7_areLike_8 : decode cX7_areLike 8 = .ok (.aload_n 0, 1) := by decide +kernel
theorem dX7_areLike_9 : decode cX7_areLike 9 = .ok (.iload_n 2, 1) := by decide +kernel
theorem dX7_areLike_10 : decode cX7_areLike 10 = .ok (.invokevirtual 66, 3) := by decide +kernel
theorem dX7_areLike_13 : decode cX7_areLike 13 = .ok (.ifCond .eq 22, 3) := by decide +kernel
theorem dX7_areLike_16 : decode cX7_areLike 16 = .ok (.aload_n 0, 1) := by decide +kernel
theorem dX7_areLike_17 : decode cX7_areLike 17 = .ok (.getfield 7, 3) := by decide +kernel
theorem dX7_areLike_20 : decode cX7_areLike 20 = .ok (.iload_n 1, 1) := by decide +kernel
theorem dX7_areLike_21 : decode cX7_areLike 21 = .ok (.iaload, 1) := by decide +kernel
theorem dX7_areLike_22 : decode cX7_areLike 22 = .ok (.aload_n 0, 1) := by decide +kernel
theorem dX7_areLike_23 : decode cX7_areLike 23 = .ok (.getfield 7, 3) := by decide +kernel
theorem dX7_areLike_26 : decode cX7_areLike 26 = .ok (.iload_n 2, 1) := by decide +kernel
theorem dX7_areLike_27 : decode cX7_areLike 27 = .ok (.iaload, 1) := by decide +kernel
theorem dX7_areLike_28 : decode cX7_areLike 28 = .ok (.if_icmp .ne 7, 3) := by decide +kernel
theorem dX7_areLike_31 : decode cX7_areLike 31 = .ok (.iconst 1, 1) := by decide +kernel
theorem dX7_areLike_32 : decode cX7_areLike 32 = .ok (.goto 4, 3) := by decide +kernel
theorem dX7_areLike_35 : decode cX7_areLike 35 = .ok (.iconst 0, 1) := by decide +kernel
theorem dX7_areLike_36 : decode cX7_areLike 36 = .ok (.ireturn, 1) := by decide +kernel
theorem dX7_behind_0 : decode cX7_behind 0 = .ok (.lload_n 1, 1) := by decide +kernel
theorem dX7_behind_1 : decode cX7_behind 1 = .ok (.lload_n 3, 1) := by decide +kernel
theorem dX7_behind_2 : decode cX7_behind 2 = .ok (.iload_n 0, 1) := by decide +kernel
theorem dX7_behind_3 : decode cX7_behind 3 = .ok (.lshl, 1) := by decide +kernel
theorem dX7_behind_4 : decode cX7_behind 4 = .ok (.lor, 1) := by decide +kernel
theorem dX7_behind_5 : decode cX7_behind 5 = .ok (.lreturn, 1) := by decide +kernel
set_option maxRecDepth 20000 in
theorem ggX7_put_X7_is : GoodIn wsX7_put wsX7_is := goodIn_r _ [8, 2, 9, 10, 7, 11, 19, 20, 21, 22, 23, 24, 25, 26, 27, 28, 29, 30, 31, 32, 33, 34] (by decide +kernel) (by decide +kernel)
set_option maxRecDepth 20000 in
theorem gX7_put_X7_is : GoodIn wsX7_put (wsV RX7 66 RX7 yX7_is wsX7_is) := goodIn_app (goodIn_of _ (by decide +kernel)) ggX7_put_X7_is
set_option maxRecDepth 20000 in
theorem ggX7_put_X7_behind : GoodIn wsX7_put wsX7_behind := goodIn_r _ [14] (by decide +kernel) (by decide +kernel)
set_option maxRecDepth 20000 in
theorem gX7_put_X7_behind : GoodIn wsX7_put (va_wsS RX7 100 yX7_behind wsX7_behind) := goodIn_app (goodIn_of _ (by decide +kernel)) ggX7_put_X7_behind
set_option maxRecDepth 20000 in
theorem ggX7_put_X7_added : GoodIn wsX7_put wsX7_added := goodIn_r _ [18, 1, 2, 3, 19, 20, 21, 22, 23, 24, 25, 26, 27, 28, 29, 30, 31, 32, 33, 34] (by decide +kernel) (by decide +kernel)
set_option maxRecDepth 20000 in
theorem gX7_put_X7_added : GoodIn wsX7_put (wsV RX7 58 RX7 yX7_added wsX7_added) := goodIn_app (goodIn_of _ (by decide +kernel)) ggX7_put_X7_added
theorem dX7_put_0 : decode cX7_put 0 = .ok (.aload_n 0, 1) := by decide +kernel
theorem dX7_put_1 : decode cX7_put 1 = .ok (.iload_n 1, 1) := by decide +kernel
theorem dX7_put_2 : decode cX7_put 2 = .ok (.invokevirtual 66, 3) := by decide +kernel
theorem dX7_put_5 : decode cX7_put 5 = .ok (.ifCond .eq 11, 3) := by decide +kernel
theorem dX7_put_8 : decode cX7_put 8 = .ok (.aload_n 0, 1) := by decide +kernel
theorem dX7_put_9 : decode cX7_put 9 = .ok (.iload_n 2, 1) := by decide +kernel
theorem dX7_put_10 : decode cX7_put 10 = .ok (.invokevirtual 66, 3) := by decide +kernel
theorem dX7_put_13 : decode cX7_put 13 = .ok (.ifCond .ne 5, 3) := by decide +kernel
theorem dX7_put_16 : decode cX7_put 16 = .ok (.iconst (-1), 1) := by decide +kernel
theorem dX7_put_17 : decode cX7_put 17 = .ok (.ireturn, 1) := by decide +kernel
theorem dX7_put_18 : decode cX7_put 18 = .ok (.aload_n 0, 1) := by decide +kernel
theorem dX7_put_19 : decode cX7_put 19 = .ok (.getfield 7, 3) := by decide +kernel
theorem dX7_put_22 : decode cX7_put 22 = .ok (.iload_n 1, 1) := by decide +kernel
theorem dX7_put_23 : decode cX7_put 23 = .ok (.iaload, 1) := by decide +kernel
theorem dX7_put_24 : decode cX7_put 24 = .ok (.aload_n 0, 1) := by decide +kernel
theorem dX7_put_25 : decode cX7_put 25 = .ok (.getfield 7, 3) := by decide +kernel
theorem dX7_put_28 : decode cX7_put 28 = .ok (.iload_n 2, 1) := by decide +kernel
theorem dX7_put_29 : decode cX7_put 29 = .ok (.iaload, 1) := by decide +kernel
theorem dX7_put_30 : decode cX7_put 30 = .ok (.iadd, 1) := by decide +kernel
theorem dX7_put_31 : decode cX7_put 31 = .ok (.istore_n 3, 1) := by decide +kernel
theorem dX7_put_32 : decode cX7_put 32 = .ok (.aload_n 0, 1) := by decide +kernel
theorem dX7_put_33 : decode cX7_put 33 = .ok (.getfield 49, 3) := by decide +kernel
theorem dX7_put_36 : decode cX7_put 36 = .ok (.bipush 24, 2) := by decide +kernel
theorem dX7_put_38 : decode cX7_put 38 = .ok (.if_icmp .eq 9, 3) := by decide +kernel
theorem dX7_put_41 : decode cX7_put 41 = .ok (.iload_n 3, 1) := by decide +kernel
theorem dX7_put_42 : decode cX7_put 42 = .ok (.bipush 32, 2) := by decide +kernel
theorem dX7_put_44 : decode cX7_put 44 = .ok (.if_icmp .le 8, 3) := by decide +kernel
theorem dX7_put_47 : decode cX7_put 47 = .ok (.bipush (-3), 2) := by decide +kernel
theorem dX7_put_49 : decode cX7_put 49 = .ok (.goto 29, 3) := by decide +kernel
theorem dX7_put_52 : decode cX7_put 52 = .ok (.aload_n 0, 1) := by decide +kernel
theorem dX7_put_53 : decode cX7_put 53 = .ok (.iload_n 3, 1) := by decide +kernel
theorem dX7_put_54 : decode cX7_put 54 = .ok (.aload_n 0, 1) := by decide +kernel
theorem dX7_put_55 : decode cX7_put 55 = .ok (.getfield 7, 3) := by decide +kernel
theorem dX7_put_58 : decode cX7_put 58 = .ok (.iload_n 1, 1) := by decide +kernel
theorem dX7_put_59 : decode cX7_put 59 = .ok (.iaload, 1) := by decide +kernel
theorem dX7_put_60 : decode cX7_put 60 = .ok (.aload_n 0, 1) := by decide +kernel
theorem dX7_put_61 : decode cX7_put 61 = .ok (.getfield 13, 3) := by decide +kernel
theorem dX7_put_64 : decode cX7_put 64 = .ok (.iload_n 1, 1) := by decide +kernel
theorem dX7_put_65 : decode cX7_put 65 = .ok (.laload, 1) := by decide +kernel
theorem dX7_put_66 : decode cX7_put 66 = .ok (.aload_n 0, 1) := by decide +kernel
theorem dX7_put_67 : decode cX7_put 67 = .ok (.getfield 13, 3) := by decide +kernel
theorem dX7_put_70 : decode cX7_put 70 = .ok (.iload_n 2, 1) := by decide +kernel
theorem dX7_put_71 : decode cX7_put 71 = .ok (.laload, 1) := by decide +kernel
theorem dX7_put_72 : decode cX7_put 72 = .ok (.invokestatic 100, 3) := by decide +kernel
theorem dX7_put_75 : decode cX7_put 75 = .ok (.invokevirtual 58, 3) := by decide +kernel
theorem dX7_put_78 : decode cX7_put 78 = .ok (.ireturn, 1) := by decide +kernel
set_option maxRecDepth 20000 in
theorem ggX7_weave_X7_areLike : GoodIn wsX7_weave wsX7_areLike := goodIn_r _ [8, 1, 9, 10, 11, 7, 12, 2, 13, 14, 15, 20, 21, 22, 23, 24, 25, 26, 27, 28, 29, 30, 31, 32, 33, 34, 35] (by decide +kernel) (by decide +kernel)
set_option maxRecDepth 20000 in
theorem gX7_weave_X7_areLike : GoodIn wsX7_weave (wsV RX7 104 RX7 yX7_areLike wsX7_areLike) := goodIn_app (goodIn_of _ (by decide +kernel)) ggX7_weave_X7_areLike
set_option maxRecDepth 20000 in
theorem ggX7_weave_X7_added : GoodIn wsX7_weave wsX7_added := goodIn_r _ [19, 1, 2, 3, 20, 21, 22, 23, 24, 25, 26, 27, 28, 29, 30, 31, 32, 33, 34, 35] (by decide +kernel) (by decide +kernel)
set_option maxRecDepth 20000 in
theorem gX7_weave_X7_added : GoodIn wsX7_weave (wsV RX7 58 RX7 yX7_added wsX7_added) := goodIn_app (goodIn_of _ (by decide +kernel)) ggX7_weave_X7_added
theorem dX7_weave_0 : decode cX7_weave 0 = .ok (.aload_n 0, 1) := by decide +kernel
theorem dX7_weave_1 : decode cX7_weave 1 = .ok (.iload_n 1, 1) := by decide +kernel
theorem dX7_weave_2 : decode cX7_weave 2 = .ok (.iload_n 2, 1) := by decide +kernel
theorem dX7_weave_3 : decode cX7_weave 3 = .ok (.invokevirtual 104, 3) := by decide +kernel
theorem dX7_weave_6 : decode cX7_weave 6 = .ok (.ifCond .ne 5, 3) := by decide +kernel
theorem dX7_weave_9 : decode cX7_weave 9 = .ok (.iconst (-1), 1) := by decide +kernel
theorem dX7_weave_10 : decode cX7_weave 10 = .ok (.ireturn, 1) := by decide +kernel
theorem dX7_weave_11 : decode cX7_weave 11 = .ok (.aload_n 0, 1) := by decide +kernel
theorem dX7_weave_12 : decode cX7_weave 12 = .ok (.getfield 7, 3) := by decide +kernel
theorem dX7_weave_15 : decode cX7_weave 15 = .ok (.iload_n 1, 1) := by decide +kernel
theorem dX7_weave_16 : decode cX7_weave 16 = .ok (.iaload, 1) := by decide +kernel
theorem dX7_weave_17 : decode cX7_weave 17 = .ok (.istore_n 3, 1) := by decide +kernel
theorem dX7_weave_18 : decode cX7_weave 18 = .ok (.aload_n 0, 1) := by decide +kernel
theorem dX7_weave_19 : decode cX7_weave 19 = .ok (.getfield 49, 3) := by decide +kernel
theorem dX7_weave_22 : decode cX7_weave 22 = .ok (.bipush 24, 2) := by decide +kernel
theorem dX7_weave_24 : decode cX7_weave 24 = .ok (.if_icmp .eq 11, 3) := by decide +kernel
theorem dX7_weave_27 : decode cX7_weave 27 = .ok (.iconst 2, 1) := by decide +kernel
theorem dX7_weave_28 : decode cX7_weave 28 = .ok (.iload_n 3, 1) := by decide +kernel
theorem dX7_weave_29 : decode cX7_weave 29 = .ok (.imul, 1) := by decide +kernel
theorem dX7_weave_30 : decode cX7_weave 30 = .ok (.bipush 32, 2) := by decide +kernel
theorem dX7_weave_32 : decode cX7_weave 32 = .ok (.if_icmp .le 6, 3) := by decide +kernel
theorem dX7_weave_35 : decode cX7_weave 35 = .ok (.bipush (-3), 2) := by decide +kernel
theorem dX7_weave_37 : decode cX7_weave 37 = .ok (.ireturn, 1) := by decide +kernel
theorem dX7_weave_38 : decode cX7_weave 38 = .ok (.lconst 0, 1) := by decide +kernel
theorem dX7_weave_39 : decode cX7_weave 39 = .ok (.lstore 4, 2) := by decide +kernel
theorem dX7_weave_41 : decode cX7_weave 41 = .ok (.iconst 0, 1) := by decide +kernel
theorem dX7_weave_42 : decode cX7_weave 42 = .ok (.istore 6, 2) := by decide +kernel
theorem dX7_weave_44 : decode cX7_weave 44 = .ok (.iload 6, 2) := by decide +kernel
theorem dX7_weave_46 : decode cX7_weave 46 = .ok (.iload_n 3, 1) := by decide +kernel
theorem dX7_weave_47 : decode cX7_weave 47 = .ok (.if_icmp .ge 49, 3) := by decide +kernel
theorem dX7_weave_50 : decode cX7_weave 50 = .ok (.lload 4, 2) := by decide +kernel
theorem dX7_weave_52 : decode cX7_weave 52 = .ok (.aload_n 0, 1) := by decide +kernel
theorem dX7_weave_53 : decode cX7_weave 53 = .ok (.getfield 13, 3) := by decide +kernel
theorem dX7_weave_56 : decode cX7_weave 56 = .ok (.iload_n 1, 1) := by decide +kernel
theorem dX7_weave_57 : decode cX7_weave 57 = .ok (.laload, 1) := by decide +kernel
theorem dX7_weave_58 : decode cX7_weave 58 = .ok (.iload 6, 2) := by decide +kernel
theorem dX7_weave_60 : decode cX7_weave 60 = .ok (.lshr, 1) := by decide +kernel
theorem dX7_weave_61 : decode cX7_weave 61 = .ok (.lconst 1, 1) := by decide +kernel
theorem dX7_weave_62 : decode cX7_weave 62 = .ok (.land, 1) := by decide +kernel
theorem dX7_weave_63 : decode cX7_weave 63 = .ok (.iconst 2, 1) := by decide +kernel
theorem dX7_weave_64 : decode cX7_weave 64 = .ok (.iload 6, 2) := by decide +kernel
theorem dX7_weave_66 : decode cX7_weave 66 = .ok (.imul, 1) := by decide +kernel
theorem dX7_weave_67 : decode cX7_weave 67 = .ok (.lshl, 1) := by decide +kernel
theorem dX7_weave_68 : decode cX7_weave 68 = .ok (.aload_n 0, 1) := by decide +kernel
theorem dX7_weave_69 : decode cX7_weave 69 = .ok (.getfield 13, 3) := by decide +kernel
theorem dX7_weave_72 : decode cX7_weave 72 = .ok (.iload_n 2, 1) := by decide +kernel
theorem dX7_weave_73 : decode cX7_weave 73 = .ok (.laload, 1) := by decide +kernel
theorem dX7_weave_74 : decode cX7_weave 74 = .ok (.iload 6, 2) := by decide +kernel
theorem dX7_weave_76 : decode cX7_weave 76 = .ok (.lshr, 1) := by decide +kernel
theorem dX7_weave_77 : decode cX7_weave 77 = .ok (.lconst 1, 1) := by decide +kernel
theorem dX7_weave_78 : decode cX7_weave 78 = .ok (.land, 1) := by decide +kernel
theorem dX7_weave_79 : decode cX7_weave 79 = .ok (.iconst 2, 1) := by decide +kernel
theorem dX7_weave_80 : decode cX7_weave 80 = .ok (.iload 6, 2) := by decide +kernel
theorem dX7_weave_82 : decode cX7_weave 82 = .ok (.imul, 1) := by decide +kernel
theorem dX7_weave_83 : decode cX7_weave 83 = .ok (.iconst 1, 1) := by decide +kernel
theorem dX7_weave_84 : decode cX7_weave 84 = .ok (.iadd, 1) := by decide +kernel
theorem dX7_weave_85 : decode cX7_weave 85 = .ok (.lshl, 1) := by decide +kernel
theorem dX7_weave_86 : decode cX7_weave 86 = .ok (.lor, 1) := by decide +kernel
theorem dX7_weave_87 : decode cX7_weave 87 = .ok (.lor, 1) := by decide +kernel
theorem dX7_weave_88 : decode cX7_weave 88 = .ok (.lstore 4, 2) := by decide +kernel
theorem dX7_weave_90 : decode cX7_weave 90 = .ok (.iinc 6 1, 3) := by decide +kernel
theorem dX7_weave_93 : decode cX7_weave 93 = .ok (.goto (-49), 3) := by decide +kernel
theorem dX7_weave_96 : decode cX7_weave 96 = .ok (.aload_n 0, 1) := by decide +kernel
theorem dX7_weave_97 : decode cX7_weave 97 = .ok (.iconst 2, 1) := by decide +kernel
theorem dX7_weave_98 : decode cX7_weave 98 = .ok (.iload_n 3, 1) := by decide +kernel
theorem dX7_weave_99 : decode cX7_weave 99 = .ok (.imul, 1) := by decide +kernel
theorem dX7_weave_100 : decode cX7_weave 100 = .ok (.lload 4, 2) := by decide +kernel
theorem dX7_weave_102 : decode cX7_weave 102 = .ok (.invokevirtual 58, 3) := by decide +kernel
theorem dX7_weave_105 : decode cX7_weave 105 = .ok (.ireturn, 1) := by decide +kernel
set_option maxRecDepth 20000 in
theorem ggX7_times_X7_is : GoodIn wsX7_times wsX7_is := goodIn_r _ [8, 2, 9, 10, 7, 11, 19, 20, 21, 22, 23, 24, 25, 26, 27, 28, 29, 30, 31, 32, 33, 34] (by decide +kernel) (by decide +kernel)
set_option maxRecDepth 20000 in
theorem gX7_times_X7_is : GoodIn wsX7_times (wsV RX7 66 RX7 yX7_is wsX7_is) := goodIn_app (goodIn_of _ (by decide +kernel)) ggX7_times_X7_is
set_option maxRecDepth 20000 in
theorem ggX7_times_X7_at : GoodIn wsX7_times wsX7_at := goodIn_r _ [14] (by decide +kernel) (by decide +kernel)
set_option maxRecDepth 20000 in
theorem gX7_times_X7_at : GoodIn wsX7_times (va_wsS RX7 70 yX7_at wsX7_at) := goodIn_app (goodIn_of _ (by decide +kernel)) ggX7_times_X7_at
set_option maxRecDepth 20000 in
theorem ggX7_times_X7_added : GoodIn wsX7_times wsX7_added := goodIn_r _ [18, 1, 2, 3, 19, 20, 21, 22, 23, 24, 25, 26, 27, 28, 29, 30, 31, 32, 33, 34] (by decide +kernel) (by decide +kernel)
set_option maxRecDepth 20000 in
theorem gX7_times_X7_added : GoodIn wsX7_times (wsV RX7 58 RX7 yX7_added wsX7_added) := goodIn_app (goodIn_of _ (by decide +kernel)) ggX7_times_X7_added
theorem dX7_times_0 : decode cX7_times 0 = .ok (.aload_n 0, 1) := by decide +kernel
theorem dX7_times_1 : decode cX7_times 1 = .ok (.iload_n 1, 1) := by decide +kernel
theorem dX7_times_2 : decode cX7_times 2 = .ok (.invokevirtual 66, 3) := by decide +kernel
theorem dX7_times_5 : decode cX7_times 5 = .ok (.ifCond .eq 11, 3) := by decide +kernel
theorem dX7_times_8 : decode cX7_times 8 = .ok (.aload_n 0, 1) := by decide +kernel
theorem dX7_times_9 : decode cX7_times 9 = .ok (.iload_n 2, 1) := by decide +kernel
theorem dX7_times_10 : decode cX7_times 10 = .ok (.invokevirtual 66, 3) := by decide +kernel
theorem dX7_times_13 : decode cX7_times 13 = .ok (.ifCond .ne 5, 3) := by decide +kernel
theorem dX7_times_16 : decode cX7_times 16 = .ok (.iconst (-1), 1) := by decide +kernel
theorem dX7_times_17 : decode cX7_times 17 = .ok (.ireturn, 1) := by decide +kernel
theorem dX7_times_18 : decode cX7_times 18 = .ok (.aload_n 0, 1) := by decide +kernel
theorem dX7_times_19 : decode cX7_times 19 = .ok (.getfield 7, 3) := by decide +kernel
theorem dX7_times_22 : decode cX7_times 22 = .ok (.iload_n 2, 1) := by decide +kernel
theorem dX7_times_23 : decode cX7_times 23 = .ok (.iaload, 1) := by decide +kernel
theorem dX7_times_24 : decode cX7_times 24 = .ok (.istore_n 3, 1) := by decide +kernel
theorem dX7_times_25 : decode cX7_times 25 = .ok (.aload_n 0, 1) := by decide +kernel
theorem dX7_times_26 : decode cX7_times 26 = .ok (.getfield 49, 3) := by decide +kernel
theorem dX7_times_29 : decode cX7_times 29 = .ok (.bipush 24, 2) := by decide +kernel
theorem dX7_times_31 : decode cX7_times 31 = .ok (.if_icmp .eq 16, 3) := by decide +kernel
theorem dX7_times_34 : decode cX7_times 34 = .ok (.aload_n 0, 1) := by decide +kernel
theorem dX7_times_35 : decode cX7_times 35 = .ok (.getfield 7, 3) := by decide +kernel
theorem dX7_times_38 : decode cX7_times 38 = .ok (.iload_n 1, 1) := by decide +kernel
theorem dX7_times_39 : decode cX7_times 39 = .ok (.iaload, 1) := by decide +kernel
theorem dX7_times_40 : decode cX7_times 40 = .ok (.iload_n 3, 1) := by decide +kernel
theorem dX7_times_41 : decode cX7_times 41 = .ok (.imul, 1) := by decide +kernel
theorem dX7_times_42 : decode cX7_times 42 = .ok (.bipush 32, 2) := by decide +kernel
theorem dX7_times_44 : decode cX7_times 44 = .ok (.if_icmp .le 6, 3) := by decide +kernel
theorem dX7_times_47 : decode cX7_times 47 = .ok (.bipush (-3), 2) := by decide +kernel
theorem dX7_times_49 : decode cX7_times 49 = .ok (.ireturn, 1) := by decide +kernel
theorem dX7_times_50 : decode cX7_times 50 = .ok (.lconst 0, 1) := by decide +kernel
theorem dX7_times_51 : decode cX7_times 51 = .ok (.lstore 4, 2) := by decide +kernel
theorem dX7_times_53 : decode cX7_times 53 = .ok (.iconst 0, 1) := by decide +kernel
theorem dX7_times_54 : decode cX7_times 54 = .ok (.istore 6, 2) := by decide +kernel
theorem dX7_times_56 : decode cX7_times 56 = .ok (.iload 6, 2) := by decide +kernel
theorem dX7_times_58 : decode cX7_times 58 = .ok (.aload_n 0, 1) := by decide +kernel
theorem dX7_times_59 : decode cX7_times 59 = .ok (.getfield 7, 3) := by decide +kernel
theorem dX7_times_62 : decode cX7_times 62 = .ok (.iload_n 1, 1) := by decide +kernel
theorem dX7_times_63 : decode cX7_times 63 = .ok (.iaload, 1) := by decide +kernel
theorem dX7_times_64 : decode cX7_times 64 = .ok (.iload_n 3, 1) := by decide +kernel
theorem dX7_times_65 : decode cX7_times 65 = .ok (.imul, 1) := by decide +kernel
theorem dX7_times_66 : decode cX7_times 66 = .ok (.if_icmp .ge 52, 3) := by decide +kernel
theorem dX7_times_69 : decode cX7_times 69 = .ok (.lload 4, 2) := by decide +kernel
theorem dX7_times_71 : decode cX7_times 71 = .ok (.aload_n 0, 1) := by decide +kernel
theorem dX7_times_72 : decode cX7_times 72 = .ok (.getfield 13, 3) := by decide +kernel
theorem dX7_times_75 : decode cX7_times 75 = .ok (.iload_n 1, 1) := by decide +kernel
theorem dX7_times_76 : decode cX7_times 76 = .ok (.laload, 1) := by decide +kernel
theorem dX7_times_77 : decode cX7_times 77 = .ok (.iload 6, 2) := by decide +kernel
theorem dX7_times_79 : decode cX7_times 79 = .ok (.iload_n 3, 1) := by decide +kernel
theorem dX7_times_80 : decode cX7_times 80 = .ok (.idiv, 1) := by decide +kernel
theorem dX7_times_81 : decode cX7_times 81 = .ok (.invokestatic 70, 3) := by decide +kernel
theorem dX7_times_84 : decode cX7_times 84 = .ok (.aload_n 0, 1) := by decide +kernel
theorem dX7_times_85 : decode cX7_times 85 = .ok (.getfield 13, 3) := by decide +kernel
theorem dX7_times_88 : decode cX7_times 88 = .ok (.iload_n 2, 1) := by decide +kernel
theorem dX7_times_89 : decode cX7_times 89 = .ok (.laload, 1) := by decide +kernel
theorem dX7_times_90 : decode cX7_times 90 = .ok (.iload 6, 2) := by decide +kernel
theorem dX7_times_92 : decode cX7_times 92 = .ok (.iload_n 3, 1) := by decide +kernel
theorem dX7_times_93 : decode cX7_times 93 = .ok (.irem, 1) := by decide +kernel
theorem dX7_times_94 : decode cX7_times 94 = .ok (.invokestatic 70, 3) := by decide +kernel
theorem dX7_times_97 : decode cX7_times 97 = .ok (.imul, 1) := by decide +kernel
theorem dX7_times_98 : decode cX7_times 98 = .ok (.ifCond .ge 10, 3) := by decide +kernel
theorem dX7_times_101 : decode cX7_times 101 = .ok (.lconst 1, 1) := by decide +kernel
theorem dX7_times_102 : decode cX7_times 102 = .ok (.iload 6, 2) := by decide +kernel
theorem dX7_times_104 : decode cX7_times 104 = .ok (.lshl, 1) := by decide +kernel
theorem dX7_times_105 : decode cX7_times 105 = .ok (.goto 4, 3) := by decide +kernel
theorem dX7_times_108 : decode cX7_times 108 = .ok (.lconst 0, 1) := by decide +kernel
theorem dX7_times_109 : decode cX7_times 109 = .ok (.lor, 1) := by decide +kernel
theorem dX7_times_110 : decode cX7_times 110 = .ok (.lstore 4, 2) := by decide +kernel
theorem dX7_times_112 : decode cX7_times 112 = .ok (.iinc 6 1, 3) := by decide +kernel
theorem dX7_times_115 : decode cX7_times 115 = .ok (.goto (-59), 3) := by decide +kernel
theorem dX7_times_118 : decode cX7_times 118 = .ok (.aload_n 0, 1) := by decide +kernel
theorem dX7_times_119 : decode cX7_times 119 = .ok (.aload_n 0, 1) := by decide +kernel
theorem dX7_times_120 : decode cX7_times 120 = .ok (.getfield 7, 3) := by decide +kernel
theorem dX7_times_123 : decode cX7_times 123 = .ok (.iload_n 1, 1) := by decide +kernel
theorem dX7_times_124 : decode cX7_times 124 = .ok (.iaload, 1) := by decide +kernel
theorem dX7_times_125 : decode cX7_times 125 = .ok (.iload_n 3, 1) := by decide +kernel
theorem dX7_times_126 : decode cX7_times 126 = .ok (.imul, 1) := by decide +kernel
theorem dX7_times_127 : decode cX7_times 127 = .ok (.lload 4, 2) := by decide +kernel
theorem dX7_times_129 : decode cX7_times 129 = .ok (.invokevirtual 58, 3) := by decide +kernel
theorem dX7_times_132 : decode cX7_times 132 = .ok (.ireturn, 1) := by decide +kernel
set_option maxRecDepth 20000 in
theorem ggX7_cancelOf_X7_openOf : GoodIn wsX7_cancelOf wsX7_openOf := goodIn_r _ [4, 5, 6, 3, 7] (by decide +kernel) (by decide +kernel)
set_option maxRecDepth 20000 in
theorem gX7_cancelOf_X7_openOf : GoodIn wsX7_cancelOf (va_wsS RX7 76 yX7_openOf wsX7_openOf) := goodIn_app (goodIn_of _ (by decide +kernel)) ggX7_cancelOf_X7_openOf
theorem dX7_cancelOf_0 : decode cX7_cancelOf 0 = .ok (.iconst 1, 1) := by decide +kernel
theorem dX7_cancelOf_1 : decode cX7_cancelOf 1 = .ok (.istore 5, 2) := by decide +kernel
theorem dX7_cancelOf_3 : decode cX7_cancelOf 3 = .ok (.iload 5, 2) := by decide +kernel
theorem dX7_cancelOf_5 : decode cX7_cancelOf 5 = .ok (.iload_n 0, 1) := by decide +kernel
theorem dX7_cancelOf_6 : decode cX7_cancelOf 6 = .ok (.if_icmp .ge 30, 3) := by decide +kernel
theorem dX7_cancelOf_9 : decode cX7_cancelOf 9 = .ok (.iload_n 0, 1) := by decide +kernel
theorem dX7_cancelOf_10 : decode cX7_cancelOf 10 = .ok (.lload_n 1, 1) := by decide +kernel
theorem dX7_cancelOf_11 : decode cX7_cancelOf 11 = .ok (.iload 5, 2) := by decide +kernel
theorem dX7_cancelOf_13 : decode cX7_cancelOf 13 = .ok (.invokestatic 76, 3) := by decide +kernel
theorem dX7_cancelOf_16 : decode cX7_cancelOf 16 = .ok (.iload_n 0, 1) := by decide +kernel
theorem dX7_cancelOf_17 : decode cX7_cancelOf 17 = .ok (.lload_n 3, 1) := by decide +kernel
theorem dX7_cancelOf_18 : decode cX7_cancelOf 18 = .ok (.iload 5, 2) := by decide +kernel
theorem dX7_cancelOf_20 : decode cX7_cancelOf 20 = .ok (.invokestatic 76, 3) := by decide +kernel
theorem dX7_cancelOf_23 : decode cX7_cancelOf 23 = .ok (.iadd, 1) := by decide +kernel
theorem dX7_cancelOf_24 : decode cX7_cancelOf 24 = .ok (.ifCond .eq 6, 3) := by decide +kernel
theorem dX7_cancelOf_27 : decode cX7_cancelOf 27 = .ok (.iload 5, 2) := by decide +kernel
theorem dX7_cancelOf_29 : decode cX7_cancelOf 29 = .ok (.ireturn, 1) := by decide +kernel
theorem dX7_cancelOf_30 : decode cX7_cancelOf 30 = .ok (.iinc 5 1, 3) := by decide +kernel
theorem dX7_cancelOf_33 : decode cX7_cancelOf 33 = .ok (.goto (-30), 3) := by decide +kernel
theorem dX7_cancelOf_36 : decode cX7_cancelOf 36 = .ok (.iconst 0, 1) := by decide +kernel
theorem dX7_cancelOf_37 : decode cX7_cancelOf 37 = .ok (.ireturn, 1) := by decide +kernel
set_option maxRecDepth 20000 in
theorem ggX7_cancels_X7_areLike : GoodIn wsX7_cancels wsX7_areLike := goodIn_r _ [7, 1, 8, 9, 10, 6, 11, 12, 13, 14, 15, 25, 26, 27, 28, 29, 30, 31, 32, 33, 34, 35, 36, 37, 38, 39, 40] (by decide +kernel) (by decide +kernel)
set_option maxRecDepth 20000 in
theorem gX7_cancels_X7_areLike : GoodIn wsX7_cancels (wsV RX7 104 RX7 yX7_areLike wsX7_areLike) := goodIn_app (goodIn_of _ (by decide +kernel)) ggX7_cancels_X7_areLike
set_option maxRecDepth 20000 in
theorem ggX7_cancels_X7_cancelOf : GoodIn wsX7_cancels wsX7_cancelOf := goodIn_r _ [18, 19, 20, 6, 21, 22, 23, 24] (by decide +kernel) (by decide +kernel)
set_option maxRecDepth 20000 in
theorem gX7_cancels_X7_cancelOf : GoodIn wsX7_cancels (va_wsS RX7 108 yX7_cancelOf wsX7_cancelOf) := goodIn_app (goodIn_of _ (by decide +kernel)) ggX7_cancels_X7_cancelOf
theorem dX7_cancels_0 : decode cX7_cancels 0 = .ok (.aload_n 0, 1) := by decide +kernel
theorem dX7_cancels_1 : decode cX7_cancels 1 = .ok (.iload_n 1, 1) := by decide +kernel
theorem dX7_cancels_2 : decode cX7_cancels 2 = .ok (.iload_n 2, 1) := by decide +kernel
theorem dX7_cancels_3 : decode cX7_cancels 3 = .ok (.invokevirtual 104, 3) := by decide +kernel
theorem dX7_cancels_6 : decode cX7_cancels 6 = .ok (.ifCond .eq 27, 3) := by decide +kernel
theorem dX7_cancels_9 : decode cX7_cancels 9 = .ok (.aload_n 0, 1) := by decide +kernel
theorem dX7_cancels_10 : decode cX7_cancels 10 = .ok (.getfield 7, 3) := by decide +kernel
theorem dX7_cancels_13 : decode cX7_cancels 13 = .ok (.iload_n 1, 1) := by decide +kernel
theorem dX7_cancels_14 : decode cX7_cancels 14 = .ok (.iaload, 1) := by decide +kernel
theorem dX7_cancels_15 : decode cX7_cancels 15 = .ok (.aload_n 0, 1) := by decide +kernel
theorem dX7_cancels_16 : decode cX7_cancels 16 = .ok (.getfield 13, 3) := by decide +kernel
theorem dX7_cancels_19 : decode cX7_cancels 19 = .ok (.iload_n 1, 1) := by decide +kernel
theorem dX7_cancels_20 : decode cX7_cancels 20 = .ok (.laload, 1) := by decide +kernel
theorem dX7_cancels_21 : decode cX7_cancels 21 = .ok (.aload_n 0, 1) := by decide +kernel
theorem dX7_cancels_22 : decode cX7_cancels 22 = .ok (.getfield 13, 3) := by decide +kernel
theorem dX7_cancels_25 : decode cX7_cancels 25 = .ok (.iload_n 2, 1) := by decide +kernel
theorem dX7_cancels_26 : decode cX7_cancels 26 = .ok (.laload, 1) := by decide +kernel
theorem dX7_cancels_27 : decode cX7_cancels 27 = .ok (.invokestatic 108, 3) := by decide +kernel
theorem dX7_cancels_30 : decode cX7_cancels 30 = .ok (.goto 4, 3) := by decide +kernel
theorem dX7_cancels_33 : decode cX7_cancels 33 = .ok (.iconst (-1), 1) := by decide +kernel
theorem dX7_cancels_34 : decode cX7_cancels 34 = .ok (.ireturn, 1) := by decide +kernel
set_option maxRecDepth 20000 in
theorem ggX7_four_X7_areLike : GoodIn wsX7_four wsX7_areLike := goodIn_r _ [7, 1, 8, 9, 10, 6, 11, 12, 13, 14, 15, 22, 23, 24, 25, 26, 27, 28, 29, 30, 31, 32, 33, 34, 35, 36, 37] (by decide +kernel) (by decide +kernel)
set_option maxRecDepth 20000 in
theorem gX7_four_X7_areLike : GoodIn wsX7_four (wsV RX7 104 RX7 yX7_areLike wsX7_areLike) := goodIn_app (goodIn_of _ (by decide +kernel)) ggX7_four_X7_areLike
set_option maxRecDepth 20000 in
theorem ggX7_four_X7_roundOf : GoodIn wsX7_four wsX7_roundOf := goodIn_r _ [18, 19, 20, 6, 21] (by decide +kernel) (by decide +kernel)
set_option maxRecDepth 20000 in
theorem gX7_four_X7_roundOf : GoodIn wsX7_four (va_wsS RX7 80 yX7_roundOf wsX7_roundOf) := goodIn_app (goodIn_of _ (by decide +kernel)) ggX7_four_X7_roundOf
theorem dX7_four_0 : decode cX7_four 0 = .ok (.aload_n 0, 1) := by decide +kernel
theorem dX7_four_1 : decode cX7_four 1 = .ok (.iload_n 1, 1) := by decide +kernel
theorem dX7_four_2 : decode cX7_four 2 = .ok (.iload_n 2, 1) := by decide +kernel
theorem dX7_four_3 : decode cX7_four 3 = .ok (.invokevirtual 104, 3) := by decide +kernel
theorem dX7_four_6 : decode cX7_four 6 = .ok (.ifCond .eq 22, 3) := by decide +kernel
theorem dX7_four_9 : decode cX7_four 9 = .ok (.aload_n 0, 1) := by decide +kernel
theorem dX7_four_10 : decode cX7_four 10 = .ok (.iload_n 1, 1) := by decide +kernel
theorem dX7_four_11 : decode cX7_four 11 = .ok (.iload_n 3, 1) := by decide +kernel
theorem dX7_four_12 : decode cX7_four 12 = .ok (.invokevirtual 104, 3) := by decide +kernel
theorem dX7_four_15 : decode cX7_four 15 = .ok (.ifCond .eq 13, 3) := by decide +kernel
theorem dX7_four_18 : decode cX7_four 18 = .ok (.aload_n 0, 1) := by decide +kernel
theorem dX7_four_19 : decode cX7_four 19 = .ok (.iload_n 1, 1) := by decide +kernel
theorem dX7_four_20 : decode cX7_four 20 = .ok (.iload 4, 2) := by decide +kernel
theorem dX7_four_22 : decode cX7_four 22 = .ok (.invokevirtual 104, 3) := by decide +kernel
theorem dX7_four_25 : decode cX7_four 25 = .ok (.ifCond .ne 5, 3) := by decide +kernel
theorem dX7_four_28 : decode cX7_four 28 = .ok (.iconst (-1), 1) := by decide +kernel
theorem dX7_four_29 : decode cX7_four 29 = .ok (.ireturn, 1) := by decide +kernel
theorem dX7_four_30 : decode cX7_four 30 = .ok (.aload_n 0, 1) := by decide +kernel
theorem dX7_four_31 : decode cX7_four 31 = .ok (.getfield 7, 3) := by decide +kernel
theorem dX7_four_34 : decode cX7_four 34 = .ok (.iload_n 1, 1) := by decide +kernel
theorem dX7_four_35 : decode cX7_four 35 = .ok (.iaload, 1) := by decide +kernel
theorem dX7_four_36 : decode cX7_four 36 = .ok (.istore 5, 2) := by decide +kernel
theorem dX7_four_38 : decode cX7_four 38 = .ok (.iconst 1, 1) := by decide +kernel
theorem dX7_four_39 : decode cX7_four 39 = .ok (.istore 6, 2) := by decide +kernel
theorem dX7_four_41 : decode cX7_four 41 = .ok (.iload 6, 2) := by decide +kernel
theorem dX7_four_43 : decode cX7_four 43 = .ok (.iload 5, 2) := by decide +kernel
theorem dX7_four_45 : decode cX7_four 45 = .ok (.if_icmp .ge 71, 3) := by decide +kernel
theorem dX7_four_48 : decode cX7_four 48 = .ok (.iload 5, 2) := by decide +kernel
theorem dX7_four_50 : decode cX7_four 50 = .ok (.aload_n 0, 1) := by decide +kernel
theorem dX7_four_51 : decode cX7_four 51 = .ok (.getfield 13, 3) := by decide +kernel
theorem dX7_four_54 : decode cX7_four 54 = .ok (.iload_n 1, 1) := by decide +kernel
theorem dX7_four_55 : decode cX7_four 55 = .ok (.laload, 1) := by decide +kernel
theorem dX7_four_56 : decode cX7_four 56 = .ok (.iload 6, 2) := by decide +kernel
theorem dX7_four_58 : decode cX7_four 58 = .ok (.invokestatic 80, 3) := by decide +kernel
theorem dX7_four_61 : decode cX7_four 61 = .ok (.iload 5, 2) := by decide +kernel
theorem dX7_four_63 : decode cX7_four 63 = .ok (.aload_n 0, 1) := by decide +kernel
theorem dX7_four_64 : decode cX7_four 64 = .ok (.getfield 13, 3) := by decide +kernel
theorem dX7_four_67 : decode cX7_four 67 = .ok (.iload_n 2, 1) := by decide +kernel
theorem dX7_four_68 : decode cX7_four 68 = .ok (.laload, 1) := by decide +kernel
theorem dX7_four_69 : decode cX7_four 69 = .ok (.iload 6, 2) := by decide +kernel
theorem dX7_four_71 : decode cX7_four 71 = .ok (.invokestatic 80, 3) := by decide +kernel
theorem dX7_four_74 : decode cX7_four 74 = .ok (.iadd, 1) := by decide +kernel
theorem dX7_four_75 : decode cX7_four 75 = .ok (.iload 5, 2) := by decide +kernel
theorem dX7_four_77 : decode cX7_four 77 = .ok (.aload_n 0, 1) := by decide +kernel
theorem dX7_four_78 : decode cX7_four 78 = .ok (.getfield 13, 3) := by decide +kernel
theorem dX7_four_81 : decode cX7_four 81 = .ok (.iload_n 3, 1) := by decide +kernel
theorem dX7_four_82 : decode cX7_four 82 = .ok (.laload, 1) := by decide +kernel
theorem dX7_four_83 : decode cX7_four 83 = .ok (.iload 6, 2) := by decide +kernel
theorem dX7_four_85 : decode cX7_four 85 = .ok (.invokestatic 80, 3) := by decide +kernel
theorem dX7_four_88 : decode cX7_four 88 = .ok (.iadd, 1) := by decide +kernel
theorem dX7_four_89 : decode cX7_four 89 = .ok (.iload 5, 2) := by decide +kernel
theorem dX7_four_91 : decode cX7_four 91 = .ok (.aload_n 0, 1) := by decide +kernel
theorem dX7_four_92 : decode cX7_four 92 = .ok (.getfield 13, 3) := by decide +kernel
theorem dX7_four_95 : decode cX7_four 95 = .ok (.iload 4, 2) := by decide +kernel
theorem dX7_four_97 : decode cX7_four 97 = .ok (.laload, 1) := by decide +kernel
theorem dX7_four_98 : decode cX7_four 98 = .ok (.iload 6, 2) := by decide +kernel
theorem dX7_four_100 : decode cX7_four 100 = .ok (.invokestatic 80, 3) := by decide +kernel
theorem dX7_four_103 : decode cX7_four 103 = .ok (.iadd, 1) := by decide +kernel
theorem dX7_four_104 : decode cX7_four 104 = .ok (.ifCond .eq 6, 3) := by decide +kernel
theorem dX7_four_107 : decode cX7_four 107 = .ok (.iload 6, 2) := by decide +kernel
theorem dX7_four_109 : decode cX7_four 109 = .ok (.ireturn, 1) := by decide +kernel
theorem dX7_four_110 : decode cX7_four 110 = .ok (.iinc 6 1, 3) := by decide +kernel
theorem dX7_four_113 : decode cX7_four 113 = .ok (.goto (-72), 3) := by decide +kernel
theorem dX7_four_116 : decode cX7_four 116 = .ok (.iconst 0, 1) := by decide +kernel
theorem dX7_four_117 : decode cX7_four 117 = .ok (.ireturn, 1) := by decide +kernel
theorem dX7_opposite_0 : decode cX7_opposite 0 = .ok (.lload_n 1, 1) := by decide +kernel
theorem dX7_opposite_1 : decode cX7_opposite 1 = .ok (.lconst 1, 1) := by decide +kernel
theorem dX7_opposite_2 : decode cX7_opposite 2 = .ok (.iload_n 0, 1) := by decide +kernel
theorem dX7_opposite_3 : decode cX7_opposite 3 = .ok (.lshl, 1) := by decide +kernel
theorem dX7_opposite_4 : decode cX7_opposite 4 = .ok (.lconst 1, 1) := by decide +kernel
theorem dX7_opposite_5 : decode cX7_opposite 5 = .ok (.lsub, 1) := by decide +kernel
theorem dX7_opposite_6 : decode cX7_opposite 6 = .ok (.lxor, 1) := by decide +kernel
theorem dX7_opposite_7 : decode cX7_opposite 7 = .ok (.lreturn, 1) := by decide +kernel
set_option maxRecDepth 20000 in
theorem ggX7_doubled_X7_areLike : GoodIn wsX7_doubled wsX7_areLike := goodIn_r _ [8, 1, 9, 10, 11, 7, 12, 2, 13, 14, 15, 26, 27, 28, 29, 30, 31, 32, 33, 34, 35, 36, 37, 38, 39, 40, 41] (by decide +kernel) (by decide +kernel)
set_option maxRecDepth 20000 in
theorem gX7_doubled_X7_areLike : GoodIn wsX7_doubled (wsV RX7 104 RX7 yX7_areLike wsX7_areLike) := goodIn_app (goodIn_of _ (by decide +kernel)) ggX7_doubled_X7_areLike
set_option maxRecDepth 20000 in
theorem ggX7_doubled_X7_behind : GoodIn wsX7_doubled wsX7_behind := goodIn_r _ [18] (by decide +kernel) (by decide +kernel)
set_option maxRecDepth 20000 in
theorem gX7_doubled_X7_behind : GoodIn wsX7_doubled (va_wsS RX7 100 yX7_behind wsX7_behind) := goodIn_app (goodIn_of _ (by decide +kernel)) ggX7_doubled_X7_behind
set_option maxRecDepth 20000 in
theorem ggX7_doubled_X7_added : GoodIn wsX7_doubled wsX7_added := goodIn_r _ [22, 1, 2, 3, 26, 27, 28, 29, 30, 31, 32, 33, 34, 35, 36, 37, 38, 39, 40, 41] (by decide +kernel) (by decide +kernel)
set_option maxRecDepth 20000 in
theorem gX7_doubled_X7_added : GoodIn wsX7_doubled (wsV RX7 58 RX7 yX7_added wsX7_added) := goodIn_app (goodIn_of _ (by decide +kernel)) ggX7_doubled_X7_added
set_option maxRecDepth 20000 in
theorem ggX7_doubled_X7_opposite : GoodIn wsX7_doubled wsX7_opposite := goodIn_r _ [25] (by decide +kernel) (by decide +kernel)
set_option maxRecDepth 20000 in
theorem gX7_doubled_X7_opposite : GoodIn wsX7_doubled (va_wsS RX7 112 yX7_opposite wsX7_opposite) := goodIn_app (goodIn_of _ (by decide +kernel)) ggX7_doubled_X7_opposite
theorem dX7_doubled_0 : decode cX7_doubled 0 = .ok (.aload_n 0, 1) := by decide +kernel
theorem dX7_doubled_1 : decode cX7_doubled 1 = .ok (.iload_n 1, 1) := by decide +kernel
theorem dX7_doubled_2 : decode cX7_doubled 2 = .ok (.iload_n 2, 1) := by decide +kernel
theorem dX7_doubled_3 : decode cX7_doubled 3 = .ok (.invokevirtual 104, 3) := by decide +kernel
theorem dX7_doubled_6 : decode cX7_doubled 6 = .ok (.ifCond .ne 5, 3) := by decide +kernel
theorem dX7_doubled_9 : decode cX7_doubled 9 = .ok (.iconst (-1), 1) := by decide +kernel
theorem dX7_doubled_10 : decode cX7_doubled 10 = .ok (.ireturn, 1) := by decide +kernel
theorem dX7_doubled_11 : decode cX7_doubled 11 = .ok (.aload_n 0, 1) := by decide +kernel
theorem dX7_doubled_12 : decode cX7_doubled 12 = .ok (.getfield 7, 3) := by decide +kernel
theorem dX7_doubled_15 : decode cX7_doubled 15 = .ok (.iload_n 1, 1) := by decide +kernel
theorem dX7_doubled_16 : decode cX7_doubled 16 = .ok (.iaload, 1) := by decide +kernel
theorem dX7_doubled_17 : decode cX7_doubled 17 = .ok (.istore_n 3, 1) := by decide +kernel
theorem dX7_doubled_18 : decode cX7_doubled 18 = .ok (.aload_n 0, 1) := by decide +kernel
theorem dX7_doubled_19 : decode cX7_doubled 19 = .ok (.getfield 49, 3) := by decide +kernel
theorem dX7_doubled_22 : decode cX7_doubled 22 = .ok (.iconst 2, 1) := by decide +kernel
theorem dX7_doubled_23 : decode cX7_doubled 23 = .ok (.iadd, 1) := by decide +kernel
theorem dX7_doubled_24 : decode cX7_doubled 24 = .ok (.bipush 24, 2) := by decide +kernel
theorem dX7_doubled_26 : decode cX7_doubled 26 = .ok (.if_icmp .gt 11, 3) := by decide +kernel
theorem dX7_doubled_29 : decode cX7_doubled 29 = .ok (.iconst 2, 1) := by decide +kernel
theorem dX7_doubled_30 : decode cX7_doubled 30 = .ok (.iload_n 3, 1) := by decide +kernel
theorem dX7_doubled_31 : decode cX7_doubled 31 = .ok (.imul, 1) := by decide +kernel
theorem dX7_doubled_32 : decode cX7_doubled 32 = .ok (.bipush 32, 2) := by decide +kernel
theorem dX7_doubled_34 : decode cX7_doubled 34 = .ok (.if_icmp .le 6, 3) := by decide +kernel
theorem dX7_doubled_37 : decode cX7_doubled 37 = .ok (.bipush (-3), 2) := by decide +kernel
theorem dX7_doubled_39 : decode cX7_doubled 39 = .ok (.ireturn, 1) := by decide +kernel
theorem dX7_doubled_40 : decode cX7_doubled 40 = .ok (.aload_n 0, 1) := by decide +kernel
theorem dX7_doubled_41 : decode cX7_doubled 41 = .ok (.getfield 13, 3) := by decide +kernel
theorem dX7_doubled_44 : decode cX7_doubled 44 = .ok (.iload_n 1, 1) := by decide +kernel
theorem dX7_doubled_45 : decode cX7_doubled 45 = .ok (.laload, 1) := by decide +kernel
theorem dX7_doubled_46 : decode cX7_doubled 46 = .ok (.lstore 4, 2) := by decide +kernel
theorem dX7_doubled_48 : decode cX7_doubled 48 = .ok (.aload_n 0, 1) := by decide +kernel
theorem dX7_doubled_49 : decode cX7_doubled 49 = .ok (.getfield 13, 3) := by decide +kernel
theorem dX7_doubled_52 : decode cX7_doubled 52 = .ok (.iload_n 2, 1) := by decide +kernel
theorem dX7_doubled_53 : decode cX7_doubled 53 = .ok (.laload, 1) := by decide +kernel
theorem dX7_doubled_54 : decode cX7_doubled 54 = .ok (.lstore 6, 2) := by decide +kernel
theorem dX7_doubled_56 : decode cX7_doubled 56 = .ok (.aload_n 0, 1) := by decide +kernel
theorem dX7_doubled_57 : decode cX7_doubled 57 = .ok (.iconst 2, 1) := by decide +kernel
theorem dX7_doubled_58 : decode cX7_doubled 58 = .ok (.iload_n 3, 1) := by decide +kernel
theorem dX7_doubled_59 : decode cX7_doubled 59 = .ok (.imul, 1) := by decide +kernel
theorem dX7_doubled_60 : decode cX7_doubled 60 = .ok (.iload_n 3, 1) := by decide +kernel
theorem dX7_doubled_61 : decode cX7_doubled 61 = .ok (.lload 4, 2) := by decide +kernel
theorem dX7_doubled_63 : decode cX7_doubled 63 = .ok (.lload 6, 2) := by decide +kernel
theorem dX7_doubled_65 : decode cX7_doubled 65 = .ok (.invokestatic 100, 3) := by decide +kernel
theorem dX7_doubled_68 : decode cX7_doubled 68 = .ok (.invokevirtual 58, 3) := by decide +kernel
theorem dX7_doubled_71 : decode cX7_doubled 71 = .ok (.istore 8, 2) := by decide +kernel
theorem dX7_doubled_73 : decode cX7_doubled 73 = .ok (.aload_n 0, 1) := by decide +kernel
theorem dX7_doubled_74 : decode cX7_doubled 74 = .ok (.iconst 2, 1) := by decide +kernel
theorem dX7_doubled_75 : decode cX7_doubled 75 = .ok (.iload_n 3, 1) := by decide +kernel
theorem dX7_doubled_76 : decode cX7_doubled 76 = .ok (.imul, 1) := by decide +kernel
theorem dX7_doubled_77 : decode cX7_doubled 77 = .ok (.iload_n 3, 1) := by decide +kernel
theorem dX7_doubled_78 : decode cX7_doubled 78 = .ok (.lload 4, 2) := by decide +kernel
theorem dX7_doubled_80 : decode cX7_doubled 80 = .ok (.iload_n 3, 1) := by decide +kernel
theorem dX7_doubled_81 : decode cX7_doubled 81 = .ok (.lload 6, 2) := by decide +kernel
theorem dX7_doubled_83 : decode cX7_doubled 83 = .ok (.invokestatic 112, 3) := by decide +kernel
theorem dX7_doubled_86 : decode cX7_doubled 86 = .ok (.invokestatic 100, 3) := by decide +kernel
theorem dX7_doubled_89 : decode cX7_doubled 89 = .ok (.invokevirtual 58, 3) := by decide +kernel
theorem dX7_doubled_92 : decode cX7_doubled 92 = .ok (.istore 9, 2) := by decide +kernel
theorem dX7_doubled_94 : decode cX7_doubled 94 = .ok (.iload 8, 2) := by decide +kernel
theorem dX7_doubled_96 : decode cX7_doubled 96 = .ok (.ireturn, 1) := by decide +kernel
theorem dX7_ofBits_0 : decode cX7_ofBits 0 = .ok (.lconst 0, 1) := by decide +kernel
theorem dX7_ofBits_1 : decode cX7_ofBits 1 = .ok (.lstore_n 3, 1) := by decide +kernel
theorem dX7_ofBits_2 : decode cX7_ofBits 2 = .ok (.iconst 0, 1) := by decide +kernel
theorem dX7_ofBits_3 : decode cX7_ofBits 3 = .ok (.istore 5, 2) := by decide +kernel
theorem dX7_ofBits_5 : decode cX7_ofBits 5 = .ok (.iload 5, 2) := by decide +kernel
theorem dX7_ofBits_7 : decode cX7_ofBits 7 = .ok (.iload_n 0, 1) := by decide +kernel
theorem dX7_ofBits_8 : decode cX7_ofBits 8 = .ok (.if_icmp .ge 25, 3) := by decide +kernel
theorem dX7_ofBits_11 : decode cX7_ofBits 11 = .ok (.lload_n 3, 1) := by decide +kernel
theorem dX7_ofBits_12 : decode cX7_ofBits 12 = .ok (.lload_n 1, 1) := by decide +kernel
theorem dX7_ofBits_13 : decode cX7_ofBits 13 = .ok (.iload_n 0, 1) := by decide +kernel
theorem dX7_ofBits_14 : decode cX7_ofBits 14 = .ok (.iconst 1, 1) := by decide +kernel
theorem dX7_ofBits_15 : decode cX7_ofBits 15 = .ok (.isub, 1) := by decide +kernel
theorem dX7_ofBits_16 : decode cX7_ofBits 16 = .ok (.iload 5, 2) := by decide +kernel
theorem dX7_ofBits_18 : decode cX7_ofBits 18 = .ok (.isub, 1) := by decide +kernel
theorem dX7_ofBits_19 : decode cX7_ofBits 19 = .ok (.lshr, 1) := by decide +kernel
theorem dX7_ofBits_20 : decode cX7_ofBits 20 = .ok (.lconst 1, 1) := by decide +kernel
theorem dX7_ofBits_21 : decode cX7_ofBits 21 = .ok (.land, 1) := by decide +kernel
theorem dX7_ofBits_22 : decode cX7_ofBits 22 = .ok (.iload 5, 2) := by decide +kernel
theorem dX7_ofBits_24 : decode cX7_ofBits 24 = .ok (.lshl, 1) := by decide +kernel
theorem dX7_ofBits_25 : decode cX7_ofBits 25 = .ok (.lor, 1) := by decide +kernel
theorem dX7_ofBits_26 : decode cX7_ofBits 26 = .ok (.lstore_n 3, 1) := by decide +kernel
theorem dX7_ofBits_27 : decode cX7_ofBits 27 = .ok (.iinc 5 1, 3) := by decide +kernel
theorem dX7_ofBits_30 : decode cX7_ofBits 30 = .ok (.goto (-25), 3) := by decide +kernel
theorem dX7_ofBits_33 : decode cX7_ofBits 33 = .ok (.lload_n 3, 1) := by decide +kernel
theorem dX7_ofBits_34 : decode cX7_ofBits 34 = .ok (.lreturn, 1) := by decide +kernel
set_option maxRecDepth 20000 in
theorem ggX7_told_X7_in : GoodIn wsX7_told wsX7_in := goodIn_r _ [10] (by decide +kernel) (by decide +kernel)
set_option maxRecDepth 20000 in
theorem gX7_told_X7_in : GoodIn wsX7_told (va_wsS RX7 52 yX7_in wsX7_in) := goodIn_app (goodIn_of _ (by decide +kernel)) ggX7_told_X7_in
set_option maxRecDepth 20000 in
theorem ggX7_told_X7_ofBits : GoodIn wsX7_told wsX7_ofBits := goodIn_r _ [13] (by decide +kernel) (by decide +kernel)
set_option maxRecDepth 20000 in
theorem gX7_told_X7_ofBits : GoodIn wsX7_told (va_wsS RX7 123 yX7_ofBits wsX7_ofBits) := goodIn_app (goodIn_of _ (by decide +kernel)) ggX7_told_X7_ofBits
set_option maxRecDepth 20000 in
theorem ggX7_told_X7_behind : GoodIn wsX7_told wsX7_behind := goodIn_r _ [16] (by decide +kernel) (by decide +kernel)
set_option maxRecDepth 20000 in
theorem gX7_told_X7_behind : GoodIn wsX7_told (va_wsS RX7 100 yX7_behind wsX7_behind) := goodIn_app (goodIn_of _ (by decide +kernel)) ggX7_told_X7_behind
set_option maxRecDepth 20000 in
theorem ggX7_told_X7_opposite : GoodIn wsX7_told wsX7_opposite := goodIn_r _ [19] (by decide +kernel) (by decide +kernel)
set_option maxRecDepth 20000 in
theorem gX7_told_X7_opposite : GoodIn wsX7_told (va_wsS RX7 112 yX7_opposite wsX7_opposite) := goodIn_app (goodIn_of _ (by decide +kernel)) ggX7_told_X7_opposite
set_option maxRecDepth 20000 in
theorem ggX7_told_X7_added : GoodIn wsX7_told wsX7_added := goodIn_r _ [23, 24, 6, 25, 26, 27, 28, 29, 30, 31, 32, 33, 34, 35, 36, 37, 38, 39, 40, 41] (by decide +kernel) (by decide +kernel)
set_option maxRecDepth 20000 in
theorem gX7_told_X7_added : GoodIn wsX7_told (wsV RX7 58 RX7 yX7_added wsX7_added) := goodIn_app (goodIn_of _ (by decide +kernel)) ggX7_told_X7_added
theorem dX7_told_0 : decode cX7_told 0 = .ok (.iload_n 1, 1) := by decide +kernel
theorem dX7_told_1 : decode cX7_told 1 = .ok (.i2l, 1) := by decide +kernel
theorem dX7_told_2 : decode cX7_told 2 = .ok (.lconst 1, 1) := by decide +kernel
theorem dX7_told_3 : decode cX7_told 3 = .ok (.ldc2_w 56, 3) := by decide +kernel
theorem dX7_told_6 : decode cX7_told 6 = .ok (.invokestatic 52, 3) := by decide +kernel
theorem dX7_told_9 : decode cX7_told 9 = .ok (.ifCond .ne 5, 3) := by decide +kernel
theorem dX7_told_12 : decode cX7_told 12 = .ok (.iconst (-1), 1) := by decide +kernel
theorem dX7_told_13 : decode cX7_told 13 = .ok (.ireturn, 1) := by decide +kernel
theorem dX7_told_14 : decode cX7_told 14 = .ok (.iload_n 1, 1) := by decide +kernel
theorem dX7_told_15 : decode cX7_told 15 = .ok (.bipush 26, 2) := by decide +kernel
theorem dX7_told_17 : decode cX7_told 17 = .ok (.if_icmp .ne 8, 3) := by decide +kernel
theorem dX7_told_20 : decode cX7_told 20 = .ok (.bipush 26, 2) := by decide +kernel
theorem dX7_told_22 : decode cX7_told 22 = .ok (.goto 22, 3) := by decide +kernel
theorem dX7_told_25 : decode cX7_told 25 = .ok (.iload_n 1, 1) := by decide +kernel
theorem dX7_told_26 : decode cX7_told 26 = .ok (.bipush 10, 2) := by decide +kernel
theorem dX7_told_28 : decode cX7_told 28 = .ok (.irem, 1) := by decide +kernel
theorem dX7_told_29 : decode cX7_told 29 = .ok (.ifCond .ne 14, 3) := by decide +kernel
theorem dX7_told_32 : decode cX7_told 32 = .ok (.iload_n 1, 1) := by decide +kernel
theorem dX7_told_33 : decode cX7_told 33 = .ok (.bipush 30, 2) := by decide +kernel
theorem dX7_told_35 : decode cX7_told 35 = .ok (.if_icmp .ge 8, 3) := by decide +kernel
theorem dX7_told_38 : decode cX7_told 38 = .ok (.bipush 10, 2) := by decide +kernel
theorem dX7_told_40 : decode cX7_told 40 = .ok (.goto 4, 3) := by decide +kernel
theorem dX7_told_43 : decode cX7_told 43 = .ok (.iconst 1, 1) := by decide +kernel
theorem dX7_told_44 : decode cX7_told 44 = .ok (.istore_n 2, 1) := by decide +kernel
theorem dX7_told_45 : decode cX7_told 45 = .ok (.iload_n 2, 1) := by decide +kernel
theorem dX7_told_46 : decode cX7_told 46 = .ok (.bipush 26, 2) := by decide +kernel
theorem dX7_told_48 : decode cX7_told 48 = .ok (.if_icmp .ne 9, 3) := by decide +kernel
theorem dX7_told_51 : decode cX7_told 51 = .ok (.ldc2_w 115, 3) := by decide +kernel
theorem dX7_told_54 : decode cX7_told 54 = .ok (.goto 16, 3) := by decide +kernel
theorem dX7_told_57 : decode cX7_told 57 = .ok (.iload_n 2, 1) := by decide +kernel
theorem dX7_told_58 : decode cX7_told 58 = .ok (.bipush 10, 2) := by decide +kernel
theorem dX7_told_60 : decode cX7_told 60 = .ok (.if_icmp .ne 9, 3) := by decide +kernel
theorem dX7_told_63 : decode cX7_told 63 = .ok (.ldc2_w 117, 3) := by decide +kernel
theorem dX7_told_66 : decode cX7_told 66 = .ok (.goto 4, 3) := by decide +kernel
theorem dX7_told_69 : decode cX7_told 69 = .ok (.lconst 0, 1) := by decide +kernel
theorem dX7_told_70 : decode cX7_told 70 = .ok (.lstore_n 3, 1) := by decide +kernel
theorem dX7_told_71 : decode cX7_told 71 = .ok (.iload_n 2, 1) := by decide +kernel
theorem dX7_told_72 : decode cX7_told 72 = .ok (.bipush 26, 2) := by decide +kernel
theorem dX7_told_74 : decode cX7_told 74 = .ok (.if_icmp .ne 9, 3) := by decide +kernel
theorem dX7_told_77 : decode cX7_told 77 = .ok (.ldc2_w 119, 3) := by decide +kernel
theorem dX7_told_80 : decode cX7_told 80 = .ok (.goto 16, 3) := by decide +kernel
theorem dX7_told_83 : decode cX7_told 83 = .ok (.iload_n 2, 1) := by decide +kernel
theorem dX7_told_84 : decode cX7_told 84 = .ok (.bipush 10, 2) := by decide +kernel
theorem dX7_told_86 : decode cX7_told 86 = .ok (.if_icmp .ne 9, 3) := by decide +kernel
theorem dX7_told_89 : decode cX7_told 89 = .ok (.ldc2_w 121, 3) := by decide +kernel
theorem dX7_told_92 : decode cX7_told 92 = .ok (.goto 4, 3) := by decide +kernel
theorem dX7_told_95 : decode cX7_told 95 = .ok (.lconst 0, 1) := by decide +kernel
theorem dX7_told_96 : decode cX7_told 96 = .ok (.lstore 5, 2) := by decide +kernel
theorem dX7_told_98 : decode cX7_told 98 = .ok (.iload_n 2, 1) := by decide +kernel
theorem dX7_told_99 : decode cX7_told 99 = .ok (.istore 7, 2) := by decide +kernel
theorem dX7_told_101 : decode cX7_told 101 = .ok (.iload 7, 2) := by decide +kernel
theorem dX7_told_103 : decode cX7_told 103 = .ok (.iload_n 1, 1) := by decide +kernel
theorem dX7_told_104 : decode cX7_told 104 = .ok (.if_icmp .ge 12, 3) := by decide +kernel
theorem dX7_told_107 : decode cX7_told 107 = .ok (.iload 7, 2) := by decide +kernel
theorem dX7_told_109 : decode cX7_told 109 = .ok (.iconst 2, 1) := by decide +kernel
theorem dX7_told_110 : decode cX7_told 110 = .ok (.imul, 1) := by decide +kernel
theorem dX7_told_111 : decode cX7_told 111 = .ok (.istore 7, 2) := by decide +kernel
theorem dX7_told_113 : decode cX7_told 113 = .ok (.goto (-12), 3) := by decide +kernel
theorem dX7_told_116 : decode cX7_told 116 = .ok (.iload 7, 2) := by decide +kernel
theorem dX7_told_118 : decode cX7_told 118 = .ok (.iload_n 1, 1) := by decide +kernel
theorem dX7_told_119 : decode cX7_told 119 = .ok (.if_icmp .eq 6, 3) := by decide +kernel
theorem dX7_told_122 : decode cX7_told 122 = .ok (.bipush (-4), 2) := by decide +kernel
theorem dX7_told_124 : decode cX7_told 124 = .ok (.ireturn, 1) := by decide +kernel
theorem dX7_told_125 : decode cX7_told 125 = .ok (.aload_n 0, 1) := by decide +kernel
theorem dX7_told_126 : decode cX7_told 126 = .ok (.getfield 49, 3) := by decide +kernel
theorem dX7_told_129 : decode cX7_told 129 = .ok (.iconst 2, 1) := by decide +kernel
theorem dX7_told_130 : decode cX7_told 130 = .ok (.iadd, 1) := by decide +kernel
theorem dX7_told_131 : decode cX7_told 131 = .ok (.bipush 24, 2) := by decide +kernel
theorem dX7_told_133 : decode cX7_told 133 = .ok (.if_icmp .le 6, 3) := by decide +kernel
theorem dX7_told_136 : decode cX7_told 136 = .ok (.bipush (-3), 2) := by decide +kernel
theorem dX7_told_138 : decode cX7_told 138 = .ok (.ireturn, 1) := by decide +kernel
theorem dX7_told_139 : decode cX7_told 139 = .ok (.iload_n 2, 1) := by decide +kernel
theorem dX7_told_140 : decode cX7_told 140 = .ok (.lload_n 3, 1) := by decide +kernel
theorem dX7_told_141 : decode cX7_told 141 = .ok (.invokestatic 123, 3) := by decide +kernel
theorem dX7_told_144 : decode cX7_told 144 = .ok (.lstore_n 3, 1) := by decide +kernel
theorem dX7_told_145 : decode cX7_told 145 = .ok (.iload_n 2, 1) := by decide +kernel
theorem dX7_told_146 : decode cX7_told 146 = .ok (.lload 5, 2) := by decide +kernel
theorem dX7_told_148 : decode cX7_told 148 = .ok (.invokestatic 123, 3) := by decide +kernel
theorem dX7_told_151 : decode cX7_told 151 = .ok (.lstore 5, 2) := by decide +kernel
theorem dX7_told_153 : decode cX7_told 153 = .ok (.iload_n 2, 1) := by decide +kernel
theorem dX7_told_154 : decode cX7_told 154 = .ok (.istore 8, 2) := by decide +kernel
theorem dX7_told_156 : decode cX7_told 156 = .ok (.iload 8, 2) := by decide +kernel
theorem dX7_told_158 : decode cX7_told 158 = .ok (.iload_n 1, 1) := by decide +kernel
theorem dX7_told_159 : decode cX7_told 159 = .ok (.if_icmp .ge 40, 3) := by decide +kernel
theorem dX7_told_162 : decode cX7_told 162 = .ok (.iload 8, 2) := by decide +kernel
theorem dX7_told_164 : decode cX7_told 164 = .ok (.lload_n 3, 1) := by decide +kernel
theorem dX7_told_165 : decode cX7_told 165 = .ok (.lload 5, 2) := by decide +kernel
theorem dX7_told_167 : decode cX7_told 167 = .ok (.invokestatic 100, 3) := by decide +kernel
theorem dX7_told_170 : decode cX7_told 170 = .ok (.lstore 9, 2) := by decide +kernel
theorem dX7_told_172 : decode cX7_told 172 = .ok (.iload 8, 2) := by decide +kernel
theorem dX7_told_174 : decode cX7_told 174 = .ok (.lload_n 3, 1) := by decide +kernel
theorem dX7_told_175 : decode cX7_told 175 = .ok (.iload 8, 2) := by decide +kernel
theorem dX7_told_177 : decode cX7_told 177 = .ok (.lload 5, 2) := by decide +kernel
theorem dX7_told_179 : decode cX7_told 179 = .ok (.invokestatic 112, 3) := by decide +kernel
theorem dX7_told_182 : decode cX7_told 182 = .ok (.invokestatic 100, 3) := by decide +kernel
theorem dX7_told_185 : decode cX7_told 185 = .ok (.lstore 5, 2) := by decide +kernel
theorem dX7_told_187 : decode cX7_told 187 = .ok (.lload 9, 2) := by decide +kernel
theorem dX7_told_189 : decode cX7_told 189 = .ok (.lstore_n 3, 1) := by decide +kernel
theorem dX7_told_190 : decode cX7_told 190 = .ok (.iload 8, 2) := by decide +kernel
theorem dX7_told_192 : decode cX7_told 192 = .ok (.iconst 2, 1) := by decide +kernel
theorem dX7_told_193 : decode cX7_told 193 = .ok (.imul, 1) := by decide +kernel
theorem dX7_told_194 : decode cX7_told 194 = .ok (.istore 8, 2) := by decide +kernel
theorem dX7_told_196 : decode cX7_told 196 = .ok (.goto (-40), 3) := by decide +kernel
theorem dX7_told_199 : decode cX7_told 199 = .ok (.aload_n 0, 1) := by decide +kernel
theorem dX7_told_200 : decode cX7_told 200 = .ok (.iload_n 1, 1) := by decide +kernel
theorem dX7_told_201 : decode cX7_told 201 = .ok (.lload_n 3, 1) := by decide +kernel
theorem dX7_told_202 : decode cX7_told 202 = .ok (.invokevirtual 58, 3) := by decide +kernel
theorem dX7_told_205 : decode cX7_told 205 = .ok (.istore 8, 2) := by decide +kernel
theorem dX7_told_207 : decode cX7_told 207 = .ok (.aload_n 0, 1) := by decide +kernel
theorem dX7_told_208 : decode cX7_told 208 = .ok (.iload_n 1, 1) := by decide +kernel
theorem dX7_told_209 : decode cX7_told 209 = .ok (.lload 5, 2) := by decide +kernel
theorem dX7_told_211 : decode cX7_told 211 = .ok (.invokevirtual 58, 3) := by decide +kernel
theorem dX7_told_214 : decode cX7_told 214 = .ok (.istore 9, 2) := by decide +kernel
theorem dX7_told_216 : decode cX7_told 216 = .ok (.iload 8, 2) := by decide +kernel
theorem dX7_told_218 : decode cX7_told 218 = .ok (.ireturn, 1) := by decide +kernel
set_option maxRecDepth 20000 in
theorem ggX7_why_X7_in : GoodIn wsX7_why wsX7_in := goodIn_r _ [5] (by decide +kernel) (by decide +kernel)
set_option maxRecDepth 20000 in
theorem gX7_why_X7_in : GoodIn wsX7_why (va_wsS RX7 52 yX7_in wsX7_in) := goodIn_app (goodIn_of _ (by decide +kernel)) ggX7_why_X7_in
set_option maxRecDepth 20000 in
theorem ggX7_why_X7_ways : GoodIn wsX7_why wsX7_ways := goodIn_r _ [8, 9, 10, 4, 11] (by decide +kernel) (by decide +kernel)
set_option maxRecDepth 20000 in
theorem gX7_why_X7_ways : GoodIn wsX7_why (va_wsS RX7 128 yX7_ways wsX7_ways) := goodIn_app (goodIn_of _ (by decide +kernel)) ggX7_why_X7_ways
theorem dX7_why_0 : decode cX7_why 0 = .ok (.iload_n 1, 1) := by decide +kernel
theorem dX7_why_1 : decode cX7_why 1 = .ok (.i2l, 1) := by decide +kernel
theorem dX7_why_2 : decode cX7_why 2 = .ok (.lconst 1, 1) := by decide +kernel
theorem dX7_why_3 : decode cX7_why 3 = .ok (.ldc2_w 126, 3) := by decide +kernel
theorem dX7_why_6 : decode cX7_why 6 = .ok (.invokestatic 52, 3) := by decide +kernel
theorem dX7_why_9 : decode cX7_why 9 = .ok (.ifCond .ne 5, 3) := by decide +kernel
theorem dX7_why_12 : decode cX7_why 12 = .ok (.iconst (-1), 1) := by decide +kernel
theorem dX7_why_13 : decode cX7_why 13 = .ok (.ireturn, 1) := by decide +kernel
theorem dX7_why_14 : decode cX7_why 14 = .ok (.iload_n 1, 1) := by decide +kernel
theorem dX7_why_15 : decode cX7_why 15 = .ok (.iconst 2, 1) := by decide +kernel
theorem dX7_why_16 : decode cX7_why 16 = .ok (.irem, 1) := by decide +kernel
theorem dX7_why_17 : decode cX7_why 17 = .ok (.iconst 1, 1) := by decide +kernel
theorem dX7_why_18 : decode cX7_why 18 = .ok (.if_icmp .ne 10, 3) := by decide +kernel
theorem dX7_why_21 : decode cX7_why 21 = .ok (.iload_n 1, 1) := by decide +kernel
theorem dX7_why_22 : decode cX7_why 22 = .ok (.iconst 1, 1) := by decide +kernel
theorem dX7_why_23 : decode cX7_why 23 = .ok (.if_icmp .le 5, 3) := by decide +kernel
theorem dX7_why_26 : decode cX7_why 26 = .ok (.iconst 1, 1) := by decide +kernel
theorem dX7_why_27 : decode cX7_why 27 = .ok (.ireturn, 1) := by decide +kernel
theorem dX7_why_28 : decode cX7_why 28 = .ok (.iload_n 1, 1) := by decide +kernel
theorem dX7_why_29 : decode cX7_why 29 = .ok (.iconst 2, 1) := by decide +kernel
theorem dX7_why_30 : decode cX7_why 30 = .ok (.invokestatic 128, 3) := by decide +kernel
theorem dX7_why_33 : decode cX7_why 33 = .ok (.ifCond .ne 5, 3) := by decide +kernel
theorem dX7_why_36 : decode cX7_why 36 = .ok (.iconst 2, 1) := by decide +kernel
theorem dX7_why_37 : decode cX7_why 37 = .ok (.ireturn, 1) := by decide +kernel
theorem dX7_why_38 : decode cX7_why 38 = .ok (.iload_n 1, 1) := by decide +kernel
theorem dX7_why_39 : decode cX7_why 39 = .ok (.istore_n 2, 1) := by decide +kernel
theorem dX7_why_40 : decode cX7_why 40 = .ok (.iconst 2, 1) := by decide +kernel
theorem dX7_why_41 : decode cX7_why 41 = .ok (.istore_n 3, 1) := by decide +kernel
theorem dX7_why_42 : decode cX7_why 42 = .ok (.iload_n 2, 1) := by decide +kernel
theorem dX7_why_43 : decode cX7_why 43 = .ok (.iconst 1, 1) := by decide +kernel
theorem dX7_why_44 : decode cX7_why 44 = .ok (.if_icmp .le 37, 3) := by decide +kernel
theorem dX7_why_47 : decode cX7_why 47 = .ok (.iload_n 2, 1) := by decide +kernel
theorem dX7_why_48 : decode cX7_why 48 = .ok (.iload_n 3, 1) := by decide +kernel
theorem dX7_why_49 : decode cX7_why 49 = .ok (.irem, 1) := by decide +kernel
theorem dX7_why_50 : decode cX7_why 50 = .ok (.ifCond .ne 25, 3) := by decide +kernel
theorem dX7_why_53 : decode cX7_why 53 = .ok (.iload_n 3, 1) := by decide +kernel
theorem dX7_why_54 : decode cX7_why 54 = .ok (.iconst 4, 1) := by decide +kernel
theorem dX7_why_55 : decode cX7_why 55 = .ok (.irem, 1) := by decide +kernel
theorem dX7_why_56 : decode cX7_why 56 = .ok (.iconst 3, 1) := by decide +kernel
theorem dX7_why_57 : decode cX7_why 57 = .ok (.if_icmp .ne 5, 3) := by decide +kernel
theorem dX7_why_60 : decode cX7_why 60 = .ok (.iconst 3, 1) := by decide +kernel
theorem dX7_why_61 : decode cX7_why 61 = .ok (.ireturn, 1) := by decide +kernel
theorem dX7_why_62 : decode cX7_why 62 = .ok (.iload_n 2, 1) := by decide +kernel
theorem dX7_why_63 : decode cX7_why 63 = .ok (.iload_n 3, 1) := by decide +kernel
theorem dX7_why_64 : decode cX7_why 64 = .ok (.irem, 1) := by decide +kernel
theorem dX7_why_65 : decode cX7_why 65 = .ok (.ifCond .ne 10, 3) := by decide +kernel
theorem dX7_why_68 : decode cX7_why 68 = .ok (.iload_n 2, 1) := by decide +kernel
theorem dX7_why_69 : decode cX7_why 69 = .ok (.iload_n 3, 1) := by decide +kernel
theorem dX7_why_70 : decode cX7_why 70 = .ok (.idiv, 1) := by decide +kernel
theorem dX7_why_71 : decode cX7_why 71 = .ok (.istore_n 2, 1) := by decide +kernel
theorem dX7_why_72 : decode cX7_why 72 = .ok (.goto (-10), 3) := by decide +kernel
theorem dX7_why_75 : decode cX7_why 75 = .ok (.iinc 3 1, 3) := by decide +kernel
theorem dX7_why_78 : decode cX7_why 78 = .ok (.goto (-36), 3) := by decide +kernel
theorem dX7_why_81 : decode cX7_why 81 = .ok (.iconst 0, 1) := by decide +kernel
theorem dX7_why_82 : decode cX7_why 82 = .ok (.ireturn, 1) := by decide +kernel
theorem dX7_rootOf_0 : decode cX7_rootOf 0 = .ok (.iconst 0, 1) := by decide +kernel
theorem dX7_rootOf_1 : decode cX7_rootOf 1 = .ok (.istore_n 1, 1) := by decide +kernel
theorem dX7_rootOf_2 : decode cX7_rootOf 2 = .ok (.sipush 1024, 3) := by decide +kernel
theorem dX7_rootOf_5 : decode cX7_rootOf 5 = .ok (.istore_n 2, 1) := by decide +kernel
theorem dX7_rootOf_6 : decode cX7_rootOf 6 = .ok (.iload_n 2, 1) := by decide +kernel
theorem dX7_rootOf_7 : decode cX7_rootOf 7 = .ok (.ifCond .le 25, 3) := by decide +kernel
theorem dX7_rootOf_10 : decode cX7_rootOf 10 = .ok (.iload_n 1, 1) := by decide +kernel
theorem dX7_rootOf_11 : decode cX7_rootOf 11 = .ok (.iload_n 2, 1) := by decide +kernel
theorem dX7_rootOf_12 : decode cX7_rootOf 12 = .ok (.iadd, 1) := by decide +kernel
theorem dX7_rootOf_13 : decode cX7_rootOf 13 = .ok (.iload_n 1, 1) := by decide +kernel
theorem dX7_rootOf_14 : decode cX7_rootOf 14 = .ok (.iload_n 2, 1) := by decide +kernel
theorem dX7_rootOf_15 : decode cX7_rootOf 15 = .ok (.iadd, 1) := by decide +kernel
theorem dX7_rootOf_16 : decode cX7_rootOf 16 = .ok (.imul, 1) := by decide +kernel
theorem dX7_rootOf_17 : decode cX7_rootOf 17 = .ok (.iload_n 0, 1) := by decide +kernel
theorem dX7_rootOf_18 : decode cX7_rootOf 18 = .ok (.if_icmp .gt 7, 3) := by decide +kernel
theorem dX7_rootOf_21 : decode cX7_rootOf 21 = .ok (.iload_n 1, 1) := by decide +kernel
theorem dX7_rootOf_22 : decode cX7_rootOf 22 = .ok (.iload_n 2, 1) := by decide +kernel
theorem dX7_rootOf_23 : decode cX7_rootOf 23 = .ok (.iadd, 1) := by decide +kernel
theorem dX7_rootOf_24 : decode cX7_rootOf 24 = .ok (.istore_n 1, 1) := by decide +kernel
theorem dX7_rootOf_25 : decode cX7_rootOf 25 = .ok (.iload_n 2, 1) := by decide +kernel
theorem dX7_rootOf_26 : decode cX7_rootOf 26 = .ok (.iconst 2, 1) := by decide +kernel
theorem dX7_rootOf_27 : decode cX7_rootOf 27 = .ok (.idiv, 1) := by decide +kernel
theorem dX7_rootOf_28 : decode cX7_rootOf 28 = .ok (.istore_n 2, 1) := by decide +kernel
theorem dX7_rootOf_29 : decode cX7_rootOf 29 = .ok (.goto (-23), 3) := by decide +kernel
theorem dX7_rootOf_32 : decode cX7_rootOf 32 = .ok (.iload_n 1, 1) := by decide +kernel
theorem dX7_rootOf_33 : decode cX7_rootOf 33 = .ok (.ireturn, 1) := by decide +kernel
set_option maxRecDepth 20000 in
theorem ggX7_ways_X7_rootOf : GoodIn wsX7_ways wsX7_rootOf := goodIn_r _ [4] (by decide +kernel) (by decide +kernel)
set_option maxRecDepth 20000 in
theorem gX7_ways_X7_rootOf : GoodIn wsX7_ways (va_wsS RX7 132 yX7_rootOf wsX7_rootOf) := goodIn_app (goodIn_of _ (by decide +kernel)) ggX7_ways_X7_rootOf
theorem dX7_ways_0 : decode cX7_ways 0 = .ok (.iconst 0, 1) := by decide +kernel
theorem dX7_ways_1 : decode cX7_ways 1 = .ok (.istore_n 2, 1) := by decide +kernel
theorem dX7_ways_2 : decode cX7_ways 2 = .ok (.iload_n 0, 1) := by decide +kernel
theorem dX7_ways_3 : decode cX7_ways 3 = .ok (.invokestatic 132, 3) := by decide +kernel
theorem dX7_ways_6 : decode cX7_ways 6 = .ok (.istore_n 3, 1) := by decide +kernel
theorem dX7_ways_7 : decode cX7_ways 7 = .ok (.iload_n 1, 1) := by decide +kernel
theorem dX7_ways_8 : decode cX7_ways 8 = .ok (.iconst 1, 1) := by decide +kernel
theorem dX7_ways_9 : decode cX7_ways 9 = .ok (.if_icmp .ne 16, 3) := by decide +kernel
theorem dX7_ways_12 : decode cX7_ways 12 = .ok (.iload_n 3, 1) := by decide +kernel
theorem dX7_ways_13 : decode cX7_ways 13 = .ok (.iload_n 3, 1) := by decide +kernel
theorem dX7_ways_14 : decode cX7_ways 14 = .ok (.imul, 1) := by decide +kernel
theorem dX7_ways_15 : decode cX7_ways 15 = .ok (.iload_n 0, 1) := by decide +kernel
theorem dX7_ways_16 : decode cX7_ways 16 = .ok (.if_icmp .ne 7, 3) := by decide +kernel
theorem dX7_ways_19 : decode cX7_ways 19 = .ok (.iconst 1, 1) := by decide +kernel
theorem dX7_ways_20 : decode cX7_ways 20 = .ok (.goto 4, 3) := by decide +kernel
theorem dX7_ways_23 : decode cX7_ways 23 = .ok (.iconst 0, 1) := by decide +kernel
theorem dX7_ways_24 : decode cX7_ways 24 = .ok (.ireturn, 1) := by decide +kernel
theorem dX7_ways_25 : decode cX7_ways 25 = .ok (.iload_n 3, 1) := by decide +kernel
theorem dX7_ways_26 : decode cX7_ways 26 = .ok (.ifCond .lt 190, 3) := by decide +kernel
theorem dX7_ways_29 : decode cX7_ways 29 = .ok (.iload_n 0, 1) := by decide +kernel
theorem dX7_ways_30 : decode cX7_ways 30 = .ok (.iload_n 3, 1) := by decide +kernel
theorem dX7_ways_31 : decode cX7_ways 31 = .ok (.iload_n 3, 1) := by decide +kernel
theorem dX7_ways_32 : decode cX7_ways 32 = .ok (.imul, 1) := by decide +kernel
theorem dX7_ways_33 : decode cX7_ways 33 = .ok (.isub, 1) := by decide +kernel
theorem dX7_ways_34 : decode cX7_ways 34 = .ok (.istore 4, 2) := by decide +kernel
theorem dX7_ways_36 : decode cX7_ways 36 = .ok (.iload 4, 2) := by decide +kernel
theorem dX7_ways_38 : decode cX7_ways 38 = .ok (.invokestatic 132, 3) := by decide +kernel
theorem dX7_ways_41 : decode cX7_ways 41 = .ok (.istore 5, 2) := by decide +kernel
theorem dX7_ways_43 : decode cX7_ways 43 = .ok (.iload 5, 2) := by decide +kernel
theorem dX7_ways_45 : decode cX7_ways 45 = .ok (.iload_n 3, 1) := by decide +kernel
theorem dX7_ways_46 : decode cX7_ways 46 = .ok (.if_icmp .le 7, 3) := by decide +kernel
theorem dX7_ways_49 : decode cX7_ways 49 = .ok (.iload_n 3, 1) := by decide +kernel
theorem dX7_ways_50 : decode cX7_ways 50 = .ok (.goto 5, 3) := by decide +kernel
theorem dX7_ways_53 : decode cX7_ways 53 = .ok (.iload 5, 2) := by decide +kernel
theorem dX7_ways_55 : decode cX7_ways 55 = .ok (.istore 5, 2) := by decide +kernel
theorem dX7_ways_57 : decode cX7_ways 57 = .ok (.iload_n 1, 1) := by decide +kernel
theorem dX7_ways_58 : decode cX7_ways 58 = .ok (.iconst 2, 1) := by decide +kernel
theorem dX7_ways_59 : decode cX7_ways 59 = .ok (.if_icmp .ne 21, 3) := by decide +kernel
theorem dX7_ways_62 : decode cX7_ways 62 = .ok (.iload_n 2, 1) := by decide +kernel
theorem dX7_ways_63 : decode cX7_ways 63 = .ok (.iload 4, 2) := by decide +kernel
theorem dX7_ways_65 : decode cX7_ways 65 = .ok (.iload 5, 2) := by decide +kernel
theorem dX7_ways_67 : decode cX7_ways 67 = .ok (.iload 5, 2) := by decide +kernel
theorem dX7_ways_69 : decode cX7_ways 69 = .ok (.imul, 1) := by decide +kernel
theorem dX7_ways_70 : decode cX7_ways 70 = .ok (.if_icmp .ne 7, 3) := by decide +kernel
theorem dX7_ways_73 : decode cX7_ways 73 = .ok (.iconst 1, 1) := by decide +kernel
theorem dX7_ways_74 : decode cX7_ways 74 = .ok (.goto 4, 3) := by decide +kernel
theorem dX7_ways_77 : decode cX7_ways 77 = .ok (.iconst 0, 1) := by decide +kernel
theorem dX7_ways_78 : decode cX7_ways 78 = .ok (.iadd, 1) := by decide +kernel
theorem dX7_ways_79 : decode cX7_ways 79 = .ok (.istore_n 2, 1) := by decide +kernel
theorem dX7_ways_80 : decode cX7_ways 80 = .ok (.iload 5, 2) := by decide +kernel
theorem dX7_ways_82 : decode cX7_ways 82 = .ok (.ifCond .lt 128, 3) := by decide +kernel
theorem dX7_ways_85 : decode cX7_ways 85 = .ok (.iload_n 1, 1) := by decide +kernel
theorem dX7_ways_86 : decode cX7_ways 86 = .ok (.iconst 2, 1) := by decide +kernel
theorem dX7_ways_87 : decode cX7_ways 87 = .ok (.if_icmp .le 123, 3) := by decide +kernel
theorem dX7_ways_90 : decode cX7_ways 90 = .ok (.iload 4, 2) := by decide +kernel
theorem dX7_ways_92 : decode cX7_ways 92 = .ok (.iload 5, 2) := by decide +kernel
theorem dX7_ways_94 : decode cX7_ways 94 = .ok (.iload 5, 2) := by decide +kernel
theorem dX7_ways_96 : decode cX7_ways 96 = .ok (.imul, 1) := by decide +kernel
theorem dX7_ways_97 : decode cX7_ways 97 = .ok (.isub, 1) := by decide +kernel
theorem dX7_ways_98 : decode cX7_ways 98 = .ok (.istore 6, 2) := by decide +kernel
theorem dX7_ways_100 : decode cX7_ways 100 = .ok (.iload 6, 2) := by decide +kernel
theorem dX7_ways_102 : decode cX7_ways 102 = .ok (.invokestatic 132, 3) := by decide +kernel
theorem dX7_ways_105 : decode cX7_ways 105 = .ok (.istore 7, 2) := by decide +kernel
theorem dX7_ways_107 : decode cX7_ways 107 = .ok (.iload 7, 2) := by decide +kernel
theorem dX7_ways_109 : decode cX7_ways 109 = .ok (.iload 5, 2) := by decide +kernel
theorem dX7_ways_111 : decode cX7_ways 111 = .ok (.if_icmp .le 8, 3) := by decide +kernel
theorem dX7_ways_114 : decode cX7_ways 114 = .ok (.iload 5, 2) := by decide +kernel
theorem dX7_ways_116 : decode cX7_ways 116 = .ok (.goto 5, 3) := by decide +kernel
theorem dX7_ways_119 : decode cX7_ways 119 = .ok (.iload 7, 2) := by decide +kernel
theorem dX7_ways_121 : decode cX7_ways 121 = .ok (.istore 7, 2) := by decide +kernel
theorem dX7_ways_123 : decode cX7_ways 123 = .ok (.iload_n 1, 1) := by decide +kernel
theorem dX7_ways_124 : decode cX7_ways 124 = .ok (.iconst 3, 1) := by decide +kernel
theorem dX7_ways_125 : decode cX7_ways 125 = .ok (.if_icmp .ne 21, 3) := by decide +kernel
theorem dX7_ways_128 : decode cX7_ways 128 = .ok (.iload_n 2, 1) := by decide +kernel
theorem dX7_ways_129 : decode cX7_ways 129 = .ok (.iload 6, 2) := by decide +kernel
theorem dX7_ways_131 : decode cX7_ways 131 = .ok (.iload 7, 2) := by decide +kernel
theorem dX7_ways_133 : decode cX7_ways 133 = .ok (.iload 7, 2) := by decide +kernel
theorem dX7_ways_135 : decode cX7_ways 135 = .ok (.imul, 1) := by decide +kernel
theorem dX7_ways_136 : decode cX7_ways 136 = .ok (.if_icmp .ne 7, 3) := by decide +kernel
theorem dX7_ways_139 : decode cX7_ways 139 = .ok (.iconst 1, 1) := by decide +kernel
theorem dX7_ways_140 : decode cX7_ways 140 = .ok (.goto 4, 3) := by decide +kernel
theorem dX7_ways_143 : decode cX7_ways 143 = .ok (.iconst 0, 1) := by decide +kernel
theorem dX7_ways_144 : decode cX7_ways 144 = .ok (.iadd, 1) := by decide +kernel
theorem dX7_ways_145 : decode cX7_ways 145 = .ok (.istore_n 2, 1) := by decide +kernel
theorem dX7_ways_146 : decode cX7_ways 146 = .ok (.iload 7, 2) := by decide +kernel
theorem dX7_ways_148 : decode cX7_ways 148 = .ok (.ifCond .lt 56, 3) := by decide +kernel
theorem dX7_ways_151 : decode cX7_ways 151 = .ok (.iload_n 1, 1) := by decide +kernel
theorem dX7_ways_152 : decode cX7_ways 152 = .ok (.iconst 3, 1) := by decide +kernel
theorem dX7_ways_153 : decode cX7_ways 153 = .ok (.if_icmp .le 51, 3) := by decide +kernel
theorem dX7_ways_156 : decode cX7_ways 156 = .ok (.iload 6, 2) := by decide +kernel
theorem dX7_ways_158 : decode cX7_ways 158 = .ok (.iload 7, 2) := by decide +kernel
theorem dX7_ways_160 : decode cX7_ways 160 = .ok (.iload 7, 2) := by decide +kernel
theorem dX7_ways_162 : decode cX7_ways 162 = .ok (.imul, 1) := by decide +kernel
theorem dX7_ways_163 : decode cX7_ways 163 = .ok (.isub, 1) := by decide +kernel
theorem dX7_ways_164 : decode cX7_ways 164 = .ok (.istore 8, 2) := by decide +kernel
theorem dX7_ways_166 : decode cX7_ways 166 = .ok (.iload 8, 2) := by decide +kernel
theorem dX7_ways_168 : decode cX7_ways 168 = .ok (.invokestatic 132, 3) := by decide +kernel
theorem dX7_ways_171 : decode cX7_ways 171 = .ok (.istore 9, 2) := by decide +kernel
theorem dX7_ways_173 : decode cX7_ways 173 = .ok (.iload_n 2, 1) := by decide +kernel
theorem dX7_ways_174 : decode cX7_ways 174 = .ok (.iload 9, 2) := by decide +kernel
theorem dX7_ways_176 : decode cX7_ways 176 = .ok (.iload 7, 2) := by decide +kernel
theorem dX7_ways_178 : decode cX7_ways 178 = .ok (.if_icmp .gt 17, 3) := by decide +kernel
theorem dX7_ways_181 : decode cX7_ways 181 = .ok (.iload 9, 2) := by decide +kernel
theorem dX7_ways_183 : decode cX7_ways 183 = .ok (.iload 9, 2) := by decide +kernel
theorem dX7_ways_185 : decode cX7_ways 185 = .ok (.imul, 1) := by decide +kernel
theorem dX7_ways_186 : decode cX7_ways 186 = .ok (.iload 8, 2) := by decide +kernel
theorem dX7_ways_188 : decode cX7_ways 188 = .ok (.if_icmp .ne 7, 3) := by decide +kernel
theorem dX7_ways_191 : decode cX7_ways 191 = .ok (.iconst 1, 1) := by decide +kernel
theorem dX7_ways_192 : decode cX7_ways 192 = .ok (.goto 4, 3) := by decide +kernel
theorem dX7_ways_195 : decode cX7_ways 195 = .ok (.iconst 0, 1) := by decide +kernel
theorem dX7_ways_196 : decode cX7_ways 196 = .ok (.iadd, 1) := by decide +kernel
theorem dX7_ways_197 : decode cX7_ways 197 = .ok (.istore_n 2, 1) := by decide +kernel
theorem dX7_ways_198 : decode cX7_ways 198 = .ok (.iinc 7 (-1), 3) := by decide +kernel
theorem dX7_ways_201 : decode cX7_ways 201 = .ok (.goto (-55), 3) := by decide +kernel
theorem dX7_ways_204 : decode cX7_ways 204 = .ok (.iinc 5 (-1), 3) := by decide +kernel
theorem dX7_ways_207 : decode cX7_ways 207 = .ok (.goto (-127), 3) := by decide +kernel
theorem dX7_ways_210 : decode cX7_ways 210 = .ok (.iinc 3 (-1), 3) := by decide +kernel
theorem dX7_ways_213 : decode cX7_ways 213 = .ok (.goto (-188), 3) := by decide +kernel
theorem dX7_ways_216 : decode cX7_ways 216 = .ok (.iload_n 2, 1) := by decide +kernel
theorem dX7_ways_217 : decode cX7_ways 217 = .ok (.ireturn, 1) := by decide +kernel
set_option maxRecDepth 20000 in
theorem ggX7_squares_X7_in : GoodIn wsX7_squares wsX7_in := goodIn_r _ [7] (by decide +kernel) (by decide +kernel)
set_option maxRecDepth 20000 in
theorem gX7_squares_X7_in : GoodIn wsX7_squares (va_wsS RX7 52 yX7_in wsX7_in) := goodIn_app (goodIn_of _ (by decide +kernel)) ggX7_squares_X7_in
set_option maxRecDepth 20000 in
theorem ggX7_squares_X7_ways : GoodIn wsX7_squares wsX7_ways := goodIn_r _ [10, 11, 12, 6, 13] (by decide +kernel) (by decide +kernel)
set_option maxRecDepth 20000 in
theorem gX7_squares_X7_ways : GoodIn wsX7_squares (va_wsS RX7 128 yX7_ways wsX7_ways) := goodIn_app (goodIn_of _ (by decide +kernel)) ggX7_squares_X7_ways
theorem dX7_squares_0 : decode cX7_squares 0 = .ok (.iload_n 2, 1) := by decide +kernel
theorem dX7_squares_1 : decode cX7_squares 1 = .ok (.i2l, 1) := by decide +kernel
theorem dX7_squares_2 : decode cX7_squares 2 = .ok (.lconst 1, 1) := by decide +kernel
theorem dX7_squares_3 : decode cX7_squares 3 = .ok (.ldc2_w 136, 3) := by decide +kernel
theorem dX7_squares_6 : decode cX7_squares 6 = .ok (.invokestatic 52, 3) := by decide +kernel
theorem dX7_squares_9 : decode cX7_squares 9 = .ok (.ifCond .eq 34, 3) := by decide +kernel
theorem dX7_squares_12 : decode cX7_squares 12 = .ok (.iload_n 1, 1) := by decide +kernel
theorem dX7_squares_13 : decode cX7_squares 13 = .ok (.i2l, 1) := by decide +kernel
theorem dX7_squares_14 : decode cX7_squares 14 = .ok (.lconst 0, 1) := by decide +kernel
theorem dX7_squares_15 : decode cX7_squares 15 = .ok (.iload_n 2, 1) := by decide +kernel
theorem dX7_squares_16 : decode cX7_squares 16 = .ok (.iconst 2, 1) := by decide +kernel
theorem dX7_squares_17 : decode cX7_squares 17 = .ok (.if_icmp .le 9, 3) := by decide +kernel
theorem dX7_squares_20 : decode cX7_squares 20 = .ok (.ldc2_w 138, 3) := by decide +kernel
theorem dX7_squares_23 : decode cX7_squares 23 = .ok (.goto 6, 3) := by decide +kernel
theorem dX7_squares_26 : decode cX7_squares 26 = .ok (.ldc2_w 126, 3) := by decide +kernel
theorem dX7_squares_29 : decode cX7_squares 29 = .ok (.invokestatic 52, 3) := by decide +kernel
theorem dX7_squares_32 : decode cX7_squares 32 = .ok (.ifCond .eq 11, 3) := by decide +kernel
theorem dX7_squares_35 : decode cX7_squares 35 = .ok (.iload_n 1, 1) := by decide +kernel
theorem dX7_squares_36 : decode cX7_squares 36 = .ok (.iload_n 2, 1) := by decide +kernel
theorem dX7_squares_37 : decode cX7_squares 37 = .ok (.invokestatic 128, 3) := by decide +kernel
theorem dX7_squares_40 : decode cX7_squares 40 = .ok (.goto 4, 3) := by decide +kernel
theorem dX7_squares_43 : decode cX7_squares 43 = .ok (.iconst (-1), 1) := by decide +kernel
theorem dX7_squares_44 : decode cX7_squares 44 = .ok (.ireturn, 1) := by decide +kernel
set_option maxRecDepth 20000 in
theorem ggX7_know_X7_openOf : GoodIn wsX7_know wsX7_openOf := goodIn_r _ [10, 11, 12, 9, 13] (by decide +kernel) (by decide +kernel)
set_option maxRecDepth 20000 in
theorem gX7_know_X7_openOf : GoodIn wsX7_know (va_wsS RX7 76 yX7_openOf wsX7_openOf) := goodIn_app (goodIn_of _ (by decide +kernel)) ggX7_know_X7_openOf
set_option maxRecDepth 20000 in
theorem ggX7_know_X7_isLeast : GoodIn wsX7_know wsX7_isLeast := goodIn_r _ [16, 17, 18, 9, 19, 11, 12, 13] (by decide +kernel) (by decide +kernel)
set_option maxRecDepth 20000 in
theorem gX7_know_X7_isLeast : GoodIn wsX7_know (va_wsS RX7 146 yX7_isLeast wsX7_isLeast) := goodIn_app (goodIn_of _ (by decide +kernel)) ggX7_know_X7_isLeast
theorem dX7_know_0 : decode cX7_know 0 = .ok (.aload_n 0, 1) := by decide +kernel
theorem dX7_know_1 : decode cX7_know 1 = .ok (.getfield 29, 3) := by decide +kernel
theorem dX7_know_4 : decode cX7_know 4 = .ok (.iload_n 1, 1) := by decide +kernel
theorem dX7_know_5 : decode cX7_know 5 = .ok (.if_icmp .ne 4, 3) := by decide +kernel
theorem dX7_know_8 : decode cX7_know 8 = .ok (.return_, 1) := by decide +kernel
theorem dX7_know_9 : decode cX7_know 9 = .ok (.aload_n 0, 1) := by decide +kernel
theorem dX7_know_10 : decode cX7_know 10 = .ok (.iload_n 1, 1) := by decide +kernel
theorem dX7_know_11 : decode cX7_know 11 = .ok (.putfield 29, 3) := by decide +kernel
theorem dX7_know_14 : decode cX7_know 14 = .ok (.iconst 1, 1) := by decide +kernel
theorem dX7_know_15 : decode cX7_know 15 = .ok (.iload_n 1, 1) := by decide +kernel
theorem dX7_know_16 : decode cX7_know 16 = .ok (.ishl, 1) := by decide +kernel
theorem dX7_know_17 : decode cX7_know 17 = .ok (.istore_n 2, 1) := by decide +kernel
theorem dX7_know_18 : decode cX7_know 18 = .ok (.iconst 0, 1) := by decide +kernel
theorem dX7_know_19 : decode cX7_know 19 = .ok (.istore_n 3, 1) := by decide +kernel
theorem dX7_know_20 : decode cX7_know 20 = .ok (.iload_n 3, 1) := by decide +kernel
theorem dX7_know_21 : decode cX7_know 21 = .ok (.iload_n 2, 1) := by decide +kernel
theorem dX7_know_22 : decode cX7_know 22 = .ok (.if_icmp .ge 44, 3) := by decide +kernel
theorem dX7_know_25 : decode cX7_know 25 = .ok (.iconst 1, 1) := by decide +kernel
theorem dX7_know_26 : decode cX7_know 26 = .ok (.istore 4, 2) := by decide +kernel
theorem dX7_know_28 : decode cX7_know 28 = .ok (.iload 4, 2) := by decide +kernel
theorem dX7_know_30 : decode cX7_know 30 = .ok (.iload_n 1, 1) := by decide +kernel
theorem dX7_know_31 : decode cX7_know 31 = .ok (.if_icmp .ge 29, 3) := by decide +kernel
theorem dX7_know_34 : decode cX7_know 34 = .ok (.aload_n 0, 1) := by decide +kernel
theorem dX7_know_35 : decode cX7_know 35 = .ok (.getfield 39, 3) := by decide +kernel
theorem dX7_know_38 : decode cX7_know 38 = .ok (.bipush 8, 2) := by decide +kernel
theorem dX7_know_40 : decode cX7_know 40 = .ok (.iload_n 3, 1) := by decide +kernel
theorem dX7_know_41 : decode cX7_know 41 = .ok (.imul, 1) := by decide +kernel
theorem dX7_know_42 : decode cX7_know 42 = .ok (.iload 4, 2) := by decide +kernel
theorem dX7_know_44 : decode cX7_know 44 = .ok (.iadd, 1) := by decide +kernel
theorem dX7_know_45 : decode cX7_know 45 = .ok (.iload_n 1, 1) := by decide +kernel
theorem dX7_know_46 : decode cX7_know 46 = .ok (.iload_n 3, 1) := by decide +kernel
theorem dX7_know_47 : decode cX7_know 47 = .ok (.i2l, 1) := by decide +kernel
theorem dX7_know_48 : decode cX7_know 48 = .ok (.iload 4, 2) := by decide +kernel
theorem dX7_know_50 : decode cX7_know 50 = .ok (.invokestatic 76, 3) := by decide +kernel
theorem dX7_know_53 : decode cX7_know 53 = .ok (.iastore, 1) := by decide +kernel
theorem dX7_know_54 : decode cX7_know 54 = .ok (.iinc 4 1, 3) := by decide +kernel
theorem dX7_know_57 : decode cX7_know 57 = .ok (.goto (-29), 3) := by decide +kernel
theorem dX7_know_60 : decode cX7_know 60 = .ok (.iinc 3 1, 3) := by decide +kernel
theorem dX7_know_63 : decode cX7_know 63 = .ok (.goto (-43), 3) := by decide +kernel
theorem dX7_know_66 : decode cX7_know 66 = .ok (.aload_n 0, 1) := by decide +kernel
theorem dX7_know_67 : decode cX7_know 67 = .ok (.iconst 0, 1) := by decide +kernel
theorem dX7_know_68 : decode cX7_know 68 = .ok (.putfield 140, 3) := by decide +kernel
theorem dX7_know_71 : decode cX7_know 71 = .ok (.aload_n 0, 1) := by decide +kernel
theorem dX7_know_72 : decode cX7_know 72 = .ok (.iconst 0, 1) := by decide +kernel
theorem dX7_know_73 : decode cX7_know 73 = .ok (.putfield 143, 3) := by decide +kernel
theorem dX7_know_76 : decode cX7_know 76 = .ok (.iconst 0, 1) := by decide +kernel
theorem dX7_know_77 : decode cX7_know 77 = .ok (.istore_n 3, 1) := by decide +kernel
theorem dX7_know_78 : decode cX7_know 78 = .ok (.iload_n 3, 1) := by decide +kernel
theorem dX7_know_79 : decode cX7_know 79 = .ok (.iload_n 2, 1) := by decide +kernel
theorem dX7_know_80 : decode cX7_know 80 = .ok (.if_icmp .ge 152, 3) := by decide +kernel
theorem dX7_know_83 : decode cX7_know 83 = .ok (.iconst 0, 1) := by decide +kernel
theorem dX7_know_84 : decode cX7_know 84 = .ok (.istore 4, 2) := by decide +kernel
theorem dX7_know_86 : decode cX7_know 86 = .ok (.iload 4, 2) := by decide +kernel
theorem dX7_know_88 : decode cX7_know 88 = .ok (.iload_n 2, 1) := by decide +kernel
theorem dX7_know_89 : decode cX7_know 89 = .ok (.if_icmp .ge 137, 3) := by decide +kernel
theorem dX7_know_92 : decode cX7_know 92 = .ok (.iconst 1, 1) := by decide +kernel
theorem dX7_know_93 : decode cX7_know 93 = .ok (.istore 5, 2) := by decide +kernel
theorem dX7_know_95 : decode cX7_know 95 = .ok (.iconst 1, 1) := by decide +kernel
theorem dX7_know_96 : decode cX7_know 96 = .ok (.istore 6, 2) := by decide +kernel
theorem dX7_know_98 : decode cX7_know 98 = .ok (.iload 6, 2) := by decide +kernel
theorem dX7_know_100 : decode cX7_know 100 = .ok (.iload_n 1, 1) := by decide +kernel
theorem dX7_know_101 : decode cX7_know 101 = .ok (.if_icmp .ge 50, 3) := by decide +kernel
theorem dX7_know_104 : decode cX7_know 104 = .ok (.iload 5, 2) := by decide +kernel
theorem dX7_know_106 : decode cX7_know 106 = .ok (.ifCond .eq 45, 3) := by decide +kernel
theorem dX7_know_109 : decode cX7_know 109 = .ok (.aload_n 0, 1) := by decide +kernel
theorem dX7_know_110 : decode cX7_know 110 = .ok (.getfield 39, 3) := by decide +kernel
theorem dX7_know_113 : decode cX7_know 113 = .ok (.bipush 8, 2) := by decide +kernel
theorem dX7_know_115 : decode cX7_know 115 = .ok (.iload_n 3, 1) := by decide +kernel
theorem dX7_know_116 : decode cX7_know 116 = .ok (.imul, 1) := by decide +kernel
theorem dX7_know_117 : decode cX7_know 117 = .ok (.iload 6, 2) := by decide +kernel
theorem dX7_know_119 : decode cX7_know 119 = .ok (.iadd, 1) := by decide +kernel
theorem dX7_know_120 : decode cX7_know 120 = .ok (.iaload, 1) := by decide +kernel
theorem dX7_know_121 : decode cX7_know 121 = .ok (.aload_n 0, 1) := by decide +kernel
theorem dX7_know_122 : decode cX7_know 122 = .ok (.getfield 39, 3) := by decide +kernel
theorem dX7_know_125 : decode cX7_know 125 = .ok (.bipush 8, 2) := by decide +kernel
theorem dX7_know_127 : decode cX7_know 127 = .ok (.iload 4, 2) := by decide +kernel
theorem dX7_know_129 : decode cX7_know 129 = .ok (.imul, 1) := by decide +kernel
theorem dX7_know_130 : decode cX7_know 130 = .ok (.iload 6, 2) := by decide +kernel
theorem dX7_know_132 : decode cX7_know 132 = .ok (.iadd, 1) := by decide +kernel
theorem dX7_know_133 : decode cX7_know 133 = .ok (.iaload, 1) := by decide +kernel
theorem dX7_know_134 : decode cX7_know 134 = .ok (.iadd, 1) := by decide +kernel
theorem dX7_know_135 : decode cX7_know 135 = .ok (.ifCond .ne 7, 3) := by decide +kernel
theorem dX7_know_138 : decode cX7_know 138 = .ok (.iconst 1, 1) := by decide +kernel
theorem dX7_know_139 : decode cX7_know 139 = .ok (.goto 4, 3) := by decide +kernel
theorem dX7_know_142 : decode cX7_know 142 = .ok (.iconst 0, 1) := by decide +kernel
theorem dX7_know_143 : decode cX7_know 143 = .ok (.istore 5, 2) := by decide +kernel
theorem dX7_know_145 : decode cX7_know 145 = .ok (.iinc 6 1, 3) := by decide +kernel
theorem dX7_know_148 : decode cX7_know 148 = .ok (.goto (-50), 3) := by decide +kernel
theorem dX7_know_151 : decode cX7_know 151 = .ok (.iload 5, 2) := by decide +kernel
theorem dX7_know_153 : decode cX7_know 153 = .ok (.ifCond .eq 67, 3) := by decide +kernel
theorem dX7_know_156 : decode cX7_know 156 = .ok (.aload_n 0, 1) := by decide +kernel
theorem dX7_know_157 : decode cX7_know 157 = .ok (.getfield 33, 3) := by decide +kernel
theorem dX7_know_160 : decode cX7_know 160 = .ok (.aload_n 0, 1) := by decide +kernel
theorem dX7_know_161 : decode cX7_know 161 = .ok (.getfield 140, 3) := by decide +kernel
theorem dX7_know_164 : decode cX7_know 164 = .ok (.sipush 1000, 3) := by decide +kernel
theorem dX7_know_167 : decode cX7_know 167 = .ok (.iload_n 3, 1) := by decide +kernel
theorem dX7_know_168 : decode cX7_know 168 = .ok (.imul, 1) := by decide +kernel
theorem dX7_know_169 : decode cX7_know 169 = .ok (.iload 4, 2) := by decide +kernel
theorem dX7_know_171 : decode cX7_know 171 = .ok (.iadd, 1) := by decide +kernel
theorem dX7_know_172 : decode cX7_know 172 = .ok (.iastore, 1) := by decide +kernel
theorem dX7_know_173 : decode cX7_know 173 = .ok (.aload_n 0, 1) := by decide +kernel
theorem dX7_know_174 : decode cX7_know 174 = .ok (.dup, 1) := by decide +kernel
theorem dX7_know_175 : decode cX7_know 175 = .ok (.getfield 140, 3) := by decide +kernel
theorem dX7_know_178 : decode cX7_know 178 = .ok (.iconst 1, 1) := by decide +kernel
theorem dX7_know_179 : decode cX7_know 179 = .ok (.iadd, 1) := by decide +kernel
theorem dX7_know_180 : decode cX7_know 180 = .ok (.putfield 140, 3) := by decide +kernel
theorem dX7_know_183 : decode cX7_know 183 = .ok (.iload_n 1, 1) := by decide +kernel
theorem dX7_know_184 : decode cX7_know 184 = .ok (.iload_n 3, 1) := by decide +kernel
theorem dX7_know_185 : decode cX7_know 185 = .ok (.iload 4, 2) := by decide +kernel
theorem dX7_know_187 : decode cX7_know 187 = .ok (.invokestatic 146, 3) := by decide +kernel
theorem dX7_know_190 : decode cX7_know 190 = .ok (.ifCond .eq 30, 3) := by decide +kernel
theorem dX7_know_193 : decode cX7_know 193 = .ok (.aload_n 0, 1) := by decide +kernel
theorem dX7_know_194 : decode cX7_know 194 = .ok (.getfield 36, 3) := by decide +kernel
theorem dX7_know_197 : decode cX7_know 197 = .ok (.aload_n 0, 1) := by decide +kernel
theorem dX7_know_198 : decode cX7_know 198 = .ok (.getfield 143, 3) := by decide +kernel
theorem dX7_know_201 : decode cX7_know 201 = .ok (.sipush 1000, 3) := by decide +kernel
theorem dX7_know_204 : decode cX7_know 204 = .ok (.iload_n 3, 1) := by decide +kernel
theorem dX7_know_205 : decode cX7_know 205 = .ok (.imul, 1) := by decide +kernel
theorem dX7_know_206 : decode cX7_know 206 = .ok (.iload 4, 2) := by decide +kernel
theorem dX7_know_208 : decode cX7_know 208 = .ok (.iadd, 1) := by decide +kernel
theorem dX7_know_209 : decode cX7_know 209 = .ok (.iastore, 1) := by decide +kernel
theorem dX7_know_210 : decode cX7_know 210 = .ok (.aload_n 0, 1) := by decide +kernel
theorem dX7_know_211 : decode cX7_know 211 = .ok (.dup, 1) := by decide +kernel
theorem dX7_know_212 : decode cX7_know 212 = .ok (.getfield 143, 3) := by decide +kernel
theorem dX7_know_215 : decode cX7_know 215 = .ok (.iconst 1, 1) := by decide +kernel
theorem dX7_know_216 : decode cX7_know 216 = .ok (.iadd, 1) := by decide +kernel
theorem dX7_know_217 : decode cX7_know 217 = .ok (.putfield 143, 3) := by decide +kernel
theorem dX7_know_220 : decode cX7_know 220 = .ok (.iinc 4 1, 3) := by decide +kernel
theorem dX7_know_223 : decode cX7_know 223 = .ok (.goto (-137), 3) := by decide +kernel
theorem dX7_know_226 : decode cX7_know 226 = .ok (.iinc 3 1, 3) := by decide +kernel
theorem dX7_know_229 : decode cX7_know 229 = .ok (.goto (-151), 3) := by decide +kernel
theorem dX7_know_232 : decode cX7_know 232 = .ok (.return_, 1) := by decide +kernel
set_option maxRecDepth 20000 in
theorem ggX7_isLeast_X7_turned : GoodIn wsX7_isLeast wsX7_turned := goodIn_r _ [4, 5, 6, 3, 7] (by decide +kernel) (by decide +kernel)
set_option maxRecDepth 20000 in
theorem gX7_isLeast_X7_turned : GoodIn wsX7_isLeast (va_wsS RX7 86 yX7_turned wsX7_turned) := goodIn_app (goodIn_of _ (by decide +kernel)) ggX7_isLeast_X7_turned
theorem dX7_isLeast_0 : decode cX7_isLeast 0 = .ok (.iconst 0, 1) := by decide +kernel
theorem dX7_isLeast_1 : decode cX7_isLeast 1 = .ok (.istore_n 3, 1) := by decide +kernel
theorem dX7_isLeast_2 : decode cX7_isLeast 2 = .ok (.iload_n 3, 1) := by decide +kernel
theorem dX7_isLeast_3 : decode cX7_isLeast 3 = .ok (.bipush 64, 2) := by decide +kernel
theorem dX7_isLeast_5 : decode cX7_isLeast 5 = .ok (.if_icmp .ge 198, 3) := by decide +kernel
theorem dX7_isLeast_8 : decode cX7_isLeast 8 = .ok (.iload_n 1, 1) := by decide +kernel
theorem dX7_isLeast_9 : decode cX7_isLeast 9 = .ok (.i2l, 1) := by decide +kernel
theorem dX7_isLeast_10 : decode cX7_isLeast 10 = .ok (.lstore 4, 2) := by decide +kernel
theorem dX7_isLeast_12 : decode cX7_isLeast 12 = .ok (.iload_n 2, 1) := by decide +kernel
theorem dX7_isLeast_13 : decode cX7_isLeast 13 = .ok (.i2l, 1) := by decide +kernel
theorem dX7_isLeast_14 : decode cX7_isLeast 14 = .ok (.lstore 6, 2) := by decide +kernel
theorem dX7_isLeast_16 : decode cX7_isLeast 16 = .ok (.iload_n 3, 1) := by decide +kernel
theorem dX7_isLeast_17 : decode cX7_isLeast 17 = .ok (.iconst 1, 1) := by decide +kernel
theorem dX7_isLeast_18 : decode cX7_isLeast 18 = .ok (.iand, 1) := by decide +kernel
theorem dX7_isLeast_19 : decode cX7_isLeast 19 = .ok (.ifCond .le 13, 3) := by decide +kernel
theorem dX7_isLeast_22 : decode cX7_isLeast 22 = .ok (.iload_n 0, 1) := by decide +kernel
theorem dX7_isLeast_23 : decode cX7_isLeast 23 = .ok (.lload 4, 2) := by decide +kernel
theorem dX7_isLeast_25 : decode cX7_isLeast 25 = .ok (.iconst 0, 1) := by decide +kernel
theorem dX7_isLeast_26 : decode cX7_isLeast 26 = .ok (.invokestatic 86, 3) := by decide +kernel
theorem dX7_isLeast_29 : decode cX7_isLeast 29 = .ok (.goto 5, 3) := by decide +kernel
theorem dX7_isLeast_32 : decode cX7_isLeast 32 = .ok (.lload 4, 2) := by decide +kernel
theorem dX7_isLeast_34 : decode cX7_isLeast 34 = .ok (.lstore 4, 2) := by decide +kernel
theorem dX7_isLeast_36 : decode cX7_isLeast 36 = .ok (.iload_n 3, 1) := by decide +kernel
theorem dX7_isLeast_37 : decode cX7_isLeast 37 = .ok (.iconst 2, 1) := by decide +kernel
theorem dX7_isLeast_38 : decode cX7_isLeast 38 = .ok (.iand, 1) := by decide +kernel
theorem dX7_isLeast_39 : decode cX7_isLeast 39 = .ok (.ifCond .le 13, 3) := by decide +kernel
theorem dX7_isLeast_42 : decode cX7_isLeast 42 = .ok (.iload_n 0, 1) := by decide +kernel
theorem dX7_isLeast_43 : decode cX7_isLeast 43 = .ok (.lload 6, 2) := by decide +kernel
theorem dX7_isLeast_45 : decode cX7_isLeast 45 = .ok (.iconst 0, 1) := by decide +kernel
theorem dX7_isLeast_46 : decode cX7_isLeast 46 = .ok (.invokestatic 86, 3) := by decide +kernel
theorem dX7_isLeast_49 : decode cX7_isLeast 49 = .ok (.goto 5, 3) := by decide +kernel
theorem dX7_isLeast_52 : decode cX7_isLeast 52 = .ok (.lload 6, 2) := by decide +kernel
theorem dX7_isLeast_54 : decode cX7_isLeast 54 = .ok (.lstore 6, 2) := by decide +kernel
theorem dX7_isLeast_56 : decode cX7_isLeast 56 = .ok (.iload_n 3, 1) := by decide +kernel
theorem dX7_isLeast_57 : decode cX7_isLeast 57 = .ok (.iconst 4, 1) := by decide +kernel
theorem dX7_isLeast_58 : decode cX7_isLeast 58 = .ok (.iand, 1) := by decide +kernel
theorem dX7_isLeast_59 : decode cX7_isLeast 59 = .ok (.ifCond .le 13, 3) := by decide +kernel
theorem dX7_isLeast_62 : decode cX7_isLeast 62 = .ok (.iload_n 0, 1) := by decide +kernel
theorem dX7_isLeast_63 : decode cX7_isLeast 63 = .ok (.lload 4, 2) := by decide +kernel
theorem dX7_isLeast_65 : decode cX7_isLeast 65 = .ok (.iconst 1, 1) := by decide +kernel
theorem dX7_isLeast_66 : decode cX7_isLeast 66 = .ok (.invokestatic 86, 3) := by decide +kernel
theorem dX7_isLeast_69 : decode cX7_isLeast 69 = .ok (.goto 5, 3) := by decide +kernel
theorem dX7_isLeast_72 : decode cX7_isLeast 72 = .ok (.lload 4, 2) := by decide +kernel
theorem dX7_isLeast_74 : decode cX7_isLeast 74 = .ok (.lstore 4, 2) := by decide +kernel
theorem dX7_isLeast_76 : decode cX7_isLeast 76 = .ok (.iload_n 3, 1) := by decide +kernel
theorem dX7_isLeast_77 : decode cX7_isLeast 77 = .ok (.bipush 8, 2) := by decide +kernel
theorem dX7_isLeast_79 : decode cX7_isLeast 79 = .ok (.iand, 1) := by decide +kernel
theorem dX7_isLeast_80 : decode cX7_isLeast 80 = .ok (.ifCond .le 13, 3) := by decide +kernel
theorem dX7_isLeast_83 : decode cX7_isLeast 83 = .ok (.iload_n 0, 1) := by decide +kernel
theorem dX7_isLeast_84 : decode cX7_isLeast 84 = .ok (.lload 6, 2) := by decide +kernel
theorem dX7_isLeast_86 : decode cX7_isLeast 86 = .ok (.iconst 1, 1) := by decide +kernel
theorem dX7_isLeast_87 : decode cX7_isLeast 87 = .ok (.invokestatic 86, 3) := by decide +kernel
theorem dX7_isLeast_90 : decode cX7_isLeast 90 = .ok (.goto 5, 3) := by decide +kernel
theorem dX7_isLeast_93 : decode cX7_isLeast 93 = .ok (.lload 6, 2) := by decide +kernel
theorem dX7_isLeast_95 : decode cX7_isLeast 95 = .ok (.lstore 6, 2) := by decide +kernel
theorem dX7_isLeast_97 : decode cX7_isLeast 97 = .ok (.iload_n 3, 1) := by decide +kernel
theorem dX7_isLeast_98 : decode cX7_isLeast 98 = .ok (.bipush 16, 2) := by decide +kernel
theorem dX7_isLeast_100 : decode cX7_isLeast 100 = .ok (.iand, 1) := by decide +kernel
theorem dX7_isLeast_101 : decode cX7_isLeast 101 = .ok (.ifCond .le 13, 3) := by decide +kernel
theorem dX7_isLeast_104 : decode cX7_isLeast 104 = .ok (.iload_n 0, 1) := by decide +kernel
theorem dX7_isLeast_105 : decode cX7_isLeast 105 = .ok (.lload 4, 2) := by decide +kernel
theorem dX7_isLeast_107 : decode cX7_isLeast 107 = .ok (.iconst 2, 1) := by decide +kernel
theorem dX7_isLeast_108 : decode cX7_isLeast 108 = .ok (.invokestatic 86, 3) := by decide +kernel
theorem dX7_isLeast_111 : decode cX7_isLeast 111 = .ok (.goto 5, 3) := by decide +kernel
theorem dX7_isLeast_114 : decode cX7_isLeast 114 = .ok (.lload 4, 2) := by decide +kernel
theorem dX7_isLeast_116 : decode cX7_isLeast 116 = .ok (.lstore 4, 2) := by decide +kernel
theorem dX7_isLeast_118 : decode cX7_isLeast 118 = .ok (.iload_n 3, 1) := by decide +kernel
theorem dX7_isLeast_119 : decode cX7_isLeast 119 = .ok (.bipush 16, 2) := by decide +kernel
theorem dX7_isLeast_121 : decode cX7_isLeast 121 = .ok (.iand, 1) := by decide +kernel
theorem dX7_isLeast_122 : decode cX7_isLeast 122 = .ok (.ifCond .le 13, 3) := by decide +kernel
theorem dX7_isLeast_125 : decode cX7_isLeast 125 = .ok (.iload_n 0, 1) := by decide +kernel
theorem dX7_isLeast_126 : decode cX7_isLeast 126 = .ok (.lload 6, 2) := by decide +kernel
theorem dX7_isLeast_128 : decode cX7_isLeast 128 = .ok (.iconst 2, 1) := by decide +kernel
theorem dX7_isLeast_129 : decode cX7_isLeast 129 = .ok (.invokestatic 86, 3) := by decide +kernel
theorem dX7_isLeast_132 : decode cX7_isLeast 132 = .ok (.goto 5, 3) := by decide +kernel
theorem dX7_isLeast_135 : decode cX7_isLeast 135 = .ok (.lload 6, 2) := by decide +kernel
theorem dX7_isLeast_137 : decode cX7_isLeast 137 = .ok (.lstore 6, 2) := by decide +kernel
theorem dX7_isLeast_139 : decode cX7_isLeast 139 = .ok (.iload_n 3, 1) := by decide +kernel
theorem dX7_isLeast_140 : decode cX7_isLeast 140 = .ok (.bipush 32, 2) := by decide +kernel
theorem dX7_isLeast_142 : decode cX7_isLeast 142 = .ok (.iand, 1) := by decide +kernel
theorem dX7_isLeast_143 : decode cX7_isLeast 143 = .ok (.ifCond .le 8, 3) := by decide +kernel
theorem dX7_isLeast_146 : decode cX7_isLeast 146 = .ok (.lload 6, 2) := by decide +kernel
theorem dX7_isLeast_148 : decode cX7_isLeast 148 = .ok (.goto 5, 3) := by decide +kernel
theorem dX7_isLeast_151 : decode cX7_isLeast 151 = .ok (.lload 4, 2) := by decide +kernel
theorem dX7_isLeast_153 : decode cX7_isLeast 153 = .ok (.lstore 8, 2) := by decide +kernel
theorem dX7_isLeast_155 : decode cX7_isLeast 155 = .ok (.iload_n 3, 1) := by decide +kernel
theorem dX7_isLeast_156 : decode cX7_isLeast 156 = .ok (.bipush 32, 2) := by decide +kernel
theorem dX7_isLeast_158 : decode cX7_isLeast 158 = .ok (.iand, 1) := by decide +kernel
theorem dX7_isLeast_159 : decode cX7_isLeast 159 = .ok (.ifCond .le 8, 3) := by decide +kernel
theorem dX7_isLeast_162 : decode cX7_isLeast 162 = .ok (.lload 4, 2) := by decide +kernel
theorem dX7_isLeast_164 : decode cX7_isLeast 164 = .ok (.goto 5, 3) := by decide +kernel
theorem dX7_isLeast_167 : decode cX7_isLeast 167 = .ok (.lload 6, 2) := by decide +kernel
theorem dX7_isLeast_169 : decode cX7_isLeast 169 = .ok (.lstore 10, 2) := by decide +kernel
theorem dX7_isLeast_171 : decode cX7_isLeast 171 = .ok (.lload 8, 2) := by decide +kernel
theorem dX7_isLeast_173 : decode cX7_isLeast 173 = .ok (.iload_n 1, 1) := by decide +kernel
theorem dX7_isLeast_174 : decode cX7_isLeast 174 = .ok (.i2l, 1) := by decide +kernel
theorem dX7_isLeast_175 : decode cX7_isLeast 175 = .ok (.lcmp, 1) := by decide +kernel
theorem dX7_isLeast_176 : decode cX7_isLeast 176 = .ok (.ifCond .lt 19, 3) := by decide +kernel
theorem dX7_isLeast_179 : decode cX7_isLeast 179 = .ok (.lload 8, 2) := by decide +kernel
theorem dX7_isLeast_181 : decode cX7_isLeast 181 = .ok (.iload_n 1, 1) := by decide +kernel
theorem dX7_isLeast_182 : decode cX7_isLeast 182 = .ok (.i2l, 1) := by decide +kernel
theorem dX7_isLeast_183 : decode cX7_isLeast 183 = .ok (.lcmp, 1) := by decide +kernel
theorem dX7_isLeast_184 : decode cX7_isLeast 184 = .ok (.ifCond .ne 13, 3) := by decide +kernel
theorem dX7_isLeast_187 : decode cX7_isLeast 187 = .ok (.lload 10, 2) := by decide +kernel
theorem dX7_isLeast_189 : decode cX7_isLeast 189 = .ok (.iload_n 2, 1) := by decide +kernel
theorem dX7_isLeast_190 : decode cX7_isLeast 190 = .ok (.i2l, 1) := by decide +kernel
theorem dX7_isLeast_191 : decode cX7_isLeast 191 = .ok (.lcmp, 1) := by decide +kernel
theorem dX7_isLeast_192 : decode cX7_isLeast 192 = .ok (.ifCond .ge 5, 3) := by decide +kernel
theorem dX7_isLeast_195 : decode cX7_isLeast 195 = .ok (.iconst 0, 1) := by decide +kernel
theorem dX7_isLeast_196 : decode cX7_isLeast 196 = .ok (.ireturn, 1) := by decide +kernel
theorem dX7_isLeast_197 : decode cX7_isLeast 197 = .ok (.iinc 3 1, 3) := by decide +kernel
theorem dX7_isLeast_200 : decode cX7_isLeast 200 = .ok (.goto (-198), 3) := by decide +kernel
theorem dX7_isLeast_203 : decode cX7_isLeast 203 = .ok (.iconst 1, 1) := by decide +kernel
theorem dX7_isLeast_204 : decode cX7_isLeast 204 = .ok (.ireturn, 1) := by decide +kernel
set_option maxRecDepth 20000 in
theorem ggX7_pairs_X7_in : GoodIn wsX7_pairs wsX7_in := goodIn_r _ [9] (by decide +kernel) (by decide +kernel)
set_option maxRecDepth 20000 in
theorem gX7_pairs_X7_in : GoodIn wsX7_pairs (va_wsS RX7 52 yX7_in wsX7_in) := goodIn_app (goodIn_of _ (by decide +kernel)) ggX7_pairs_X7_in
set_option maxRecDepth 20000 in
theorem ggX7_pairs_X7_know : GoodIn wsX7_pairs wsX7_know := goodIn_r _ [13, 14, 15, 3, 4, 5, 16, 17, 18, 8, 19, 20, 21, 22, 23, 24, 25, 26, 27, 28, 29, 30, 31, 32, 33, 34, 35, 36, 37, 38, 39, 40, 41, 42, 43, 44] (by decide +kernel) (by decide +kernel)
set_option maxRecDepth 20000 in
theorem gX7_pairs_X7_know : GoodIn wsX7_pairs (wsV RX7 152 RX7 yX7_know wsX7_know) := goodIn_app (goodIn_of _ (by decide +kernel)) ggX7_pairs_X7_know
theorem dX7_pairs_0 : decode cX7_pairs 0 = .ok (.iload_n 1, 1) := by decide +kernel
theorem dX7_pairs_1 : decode cX7_pairs 1 = .ok (.i2l, 1) := by decide +kernel
theorem dX7_pairs_2 : decode cX7_pairs 2 = .ok (.lconst 1, 1) := by decide +kernel
theorem dX7_pairs_3 : decode cX7_pairs 3 = .ok (.ldc2_w 150, 3) := by decide +kernel
theorem dX7_pairs_6 : decode cX7_pairs 6 = .ok (.invokestatic 52, 3) := by decide +kernel
theorem dX7_pairs_9 : decode cX7_pairs 9 = .ok (.ifCond .eq 15, 3) := by decide +kernel
theorem dX7_pairs_12 : decode cX7_pairs 12 = .ok (.iload_n 2, 1) := by decide +kernel
theorem dX7_pairs_13 : decode cX7_pairs 13 = .ok (.i2l, 1) := by decide +kernel
theorem dX7_pairs_14 : decode cX7_pairs 14 = .ok (.lconst 0, 1) := by decide +kernel
theorem dX7_pairs_15 : decode cX7_pairs 15 = .ok (.ldc2_w 62, 3) := by decide +kernel
theorem dX7_pairs_18 : decode cX7_pairs 18 = .ok (.invokestatic 52, 3) := by decide +kernel
theorem dX7_pairs_21 : decode cX7_pairs 21 = .ok (.ifCond .ne 5, 3) := by decide +kernel
theorem dX7_pairs_24 : decode cX7_pairs 24 = .ok (.iconst (-1), 1) := by decide +kernel
theorem dX7_pairs_25 : decode cX7_pairs 25 = .ok (.ireturn, 1) := by decide +kernel
theorem dX7_pairs_26 : decode cX7_pairs 26 = .ok (.aload_n 0, 1) := by decide +kernel
theorem dX7_pairs_27 : decode cX7_pairs 27 = .ok (.iload_n 1, 1) := by decide +kernel
theorem dX7_pairs_28 : decode cX7_pairs 28 = .ok (.invokevirtual 152, 3) := by decide +kernel
theorem dX7_pairs_31 : decode cX7_pairs 31 = .ok (.iload_n 2, 1) := by decide +kernel
theorem dX7_pairs_32 : decode cX7_pairs 32 = .ok (.iconst 2, 1) := by decide +kernel
theorem dX7_pairs_33 : decode cX7_pairs 33 = .ok (.if_icmp .ge 19, 3) := by decide +kernel
theorem dX7_pairs_36 : decode cX7_pairs 36 = .ok (.iload_n 2, 1) := by decide +kernel
theorem dX7_pairs_37 : decode cX7_pairs 37 = .ok (.ifCond .ne 10, 3) := by decide +kernel
theorem dX7_pairs_40 : decode cX7_pairs 40 = .ok (.aload_n 0, 1) := by decide +kernel
theorem dX7_pairs_41 : decode cX7_pairs 41 = .ok (.getfield 140, 3) := by decide +kernel
theorem dX7_pairs_44 : decode cX7_pairs 44 = .ok (.goto 7, 3) := by decide +kernel
theorem dX7_pairs_47 : decode cX7_pairs 47 = .ok (.aload_n 0, 1) := by decide +kernel
theorem dX7_pairs_48 : decode cX7_pairs 48 = .ok (.getfield 143, 3) := by decide +kernel
theorem dX7_pairs_51 : decode cX7_pairs 51 = .ok (.ireturn, 1) := by decide +kernel
theorem dX7_pairs_52 : decode cX7_pairs 52 = .ok (.aload_n 0, 1) := by decide +kernel
theorem dX7_pairs_53 : decode cX7_pairs 53 = .ok (.getfield 140, 3) := by decide +kernel
theorem dX7_pairs_56 : decode cX7_pairs 56 = .ok (.ifCond .ne 8, 3) := by decide +kernel
theorem dX7_pairs_59 : decode cX7_pairs 59 = .ok (.bipush (-4), 2) := by decide +kernel
theorem dX7_pairs_61 : decode cX7_pairs 61 = .ok (.goto 31, 3) := by decide +kernel
theorem dX7_pairs_64 : decode cX7_pairs 64 = .ok (.iload_n 2, 1) := by decide +kernel
theorem dX7_pairs_65 : decode cX7_pairs 65 = .ok (.iconst 2, 1) := by decide +kernel
theorem dX7_pairs_66 : decode cX7_pairs 66 = .ok (.if_icmp .ne 16, 3) := by decide +kernel
theorem dX7_pairs_69 : decode cX7_pairs 69 = .ok (.aload_n 0, 1) := by decide +kernel
theorem dX7_pairs_70 : decode cX7_pairs 70 = .ok (.getfield 33, 3) := by decide +kernel
theorem dX7_pairs_73 : decode cX7_pairs 73 = .ok (.iconst 0, 1) := by decide +kernel
theorem dX7_pairs_74 : decode cX7_pairs 74 = .ok (.iaload, 1) := by decide +kernel
theorem dX7_pairs_75 : decode cX7_pairs 75 = .ok (.sipush 1000, 3) := by decide +kernel
theorem dX7_pairs_78 : decode cX7_pairs 78 = .ok (.idiv, 1) := by decide +kernel
theorem dX7_pairs_79 : decode cX7_pairs 79 = .ok (.goto 13, 3) := by decide +kernel
theorem dX7_pairs_82 : decode cX7_pairs 82 = .ok (.aload_n 0, 1) := by decide +kernel
theorem dX7_pairs_83 : decode cX7_pairs 83 = .ok (.getfield 33, 3) := by decide +kernel
theorem dX7_pairs_86 : decode cX7_pairs 86 = .ok (.iconst 0, 1) := by decide +kernel
theorem dX7_pairs_87 : decode cX7_pairs 87 = .ok (.iaload, 1) := by decide +kernel
theorem dX7_pairs_88 : decode cX7_pairs 88 = .ok (.sipush 1000, 3) := by decide +kernel
theorem dX7_pairs_91 : decode cX7_pairs 91 = .ok (.irem, 1) := by decide +kernel
theorem dX7_pairs_92 : decode cX7_pairs 92 = .ok (.ireturn, 1) := by decide +kernel
set_option maxRecDepth 20000 in
theorem ggX7_pair_X7_in : GoodIn wsX7_pair wsX7_in := goodIn_r _ [7] (by decide +kernel) (by decide +kernel)
set_option maxRecDepth 20000 in
theorem gX7_pair_X7_in : GoodIn wsX7_pair (va_wsS RX7 52 yX7_in wsX7_in) := goodIn_app (goodIn_of _ (by decide +kernel)) ggX7_pair_X7_in
set_option maxRecDepth 20000 in
theorem ggX7_pair_X7_know : GoodIn wsX7_pair wsX7_know := goodIn_r _ [11, 12, 13, 14, 2, 15, 3, 16, 17, 6, 18, 19, 20, 21, 22, 23, 24, 25, 26, 27, 28, 29, 30, 31, 32, 33, 34, 35, 36, 37, 38, 39, 40, 41, 42, 43] (by decide +kernel) (by decide +kernel)
set_option maxRecDepth 20000 in
theorem gX7_pair_X7_know : GoodIn wsX7_pair (wsV RX7 152 RX7 yX7_know wsX7_know) := goodIn_app (goodIn_of _ (by decide +kernel)) ggX7_pair_X7_know
theorem dX7_pair_0 : decode cX7_pair 0 = .ok (.iload_n 1, 1) := by decide +kernel
theorem dX7_pair_1 : decode cX7_pair 1 = .ok (.i2l, 1) := by decide +kernel
theorem dX7_pair_2 : decode cX7_pair 2 = .ok (.lconst 1, 1) := by decide +kernel
theorem dX7_pair_3 : decode cX7_pair 3 = .ok (.ldc2_w 150, 3) := by decide +kernel
theorem dX7_pair_6 : decode cX7_pair 6 = .ok (.invokestatic 52, 3) := by decide +kernel
theorem dX7_pair_9 : decode cX7_pair 9 = .ok (.ifCond .eq 7, 3) := by decide +kernel
theorem dX7_pair_12 : decode cX7_pair 12 = .ok (.iload_n 2, 1) := by decide +kernel
theorem dX7_pair_13 : decode cX7_pair 13 = .ok (.ifCond .ge 5, 3) := by decide +kernel
theorem dX7_pair_16 : decode cX7_pair 16 = .ok (.iconst (-1), 1) := by decide +kernel
theorem dX7_pair_17 : decode cX7_pair 17 = .ok (.ireturn, 1) := by decide +kernel
theorem dX7_pair_18 : decode cX7_pair 18 = .ok (.aload_n 0, 1) := by decide +kernel
theorem dX7_pair_19 : decode cX7_pair 19 = .ok (.iload_n 1, 1) := by decide +kernel
theorem dX7_pair_20 : decode cX7_pair 20 = .ok (.invokevirtual 152, 3) := by decide +kernel
theorem dX7_pair_23 : decode cX7_pair 23 = .ok (.iload_n 2, 1) := by decide +kernel
theorem dX7_pair_24 : decode cX7_pair 24 = .ok (.aload_n 0, 1) := by decide +kernel
theorem dX7_pair_25 : decode cX7_pair 25 = .ok (.getfield 143, 3) := by decide +kernel
theorem dX7_pair_28 : decode cX7_pair 28 = .ok (.if_icmp .ge 12, 3) := by decide +kernel
theorem dX7_pair_31 : decode cX7_pair 31 = .ok (.aload_n 0, 1) := by decide +kernel
theorem dX7_pair_32 : decode cX7_pair 32 = .ok (.getfield 36, 3) := by decide +kernel
theorem dX7_pair_35 : decode cX7_pair 35 = .ok (.iload_n 2, 1) := by decide +kernel
theorem dX7_pair_36 : decode cX7_pair 36 = .ok (.iaload, 1) := by decide +kernel
theorem dX7_pair_37 : decode cX7_pair 37 = .ok (.goto 5, 3) := by decide +kernel
theorem dX7_pair_40 : decode cX7_pair 40 = .ok (.bipush (-4), 2) := by decide +kernel
theorem dX7_pair_42 : decode cX7_pair 42 = .ok (.ireturn, 1) := by decide +kernel
set_option maxRecDepth 20000 in
theorem ggX7_search_X7_peakOf : GoodIn wsX7_search wsX7_peakOf := goodIn_r _ [7, 8, 9, 6, 10, 11, 12, 13] (by decide +kernel) (by decide +kernel)
set_option maxRecDepth 20000 in
theorem gX7_search_X7_peakOf : GoodIn wsX7_search (va_wsS RX7 90 yX7_peakOf wsX7_peakOf) := goodIn_app (goodIn_of _ (by decide +kernel)) ggX7_search_X7_peakOf
set_option maxRecDepth 20000 in
theorem ggX7_search_X7_energyOf : GoodIn wsX7_search wsX7_energyOf := goodIn_r _ [16, 8, 9, 6, 10, 11, 12, 13] (by decide +kernel) (by decide +kernel)
set_option maxRecDepth 20000 in
theorem gX7_search_X7_energyOf : GoodIn wsX7_search (va_wsS RX7 93 yX7_energyOf wsX7_energyOf) := goodIn_app (goodIn_of _ (by decide +kernel)) ggX7_search_X7_energyOf
set_option maxRecDepth 20000 in
theorem ggX7_search_X7_turns : GoodIn wsX7_search wsX7_turns := goodIn_r _ [20, 21, 22, 23, 24, 6, 25, 11, 12, 13, 26, 27, 28, 29, 30, 31, 32, 33, 34, 35, 36, 37, 38, 39, 40, 41] (by decide +kernel) (by decide +kernel)
set_option maxRecDepth 20000 in
theorem gX7_search_X7_turns : GoodIn wsX7_search (wsV RX7 96 RX7 yX7_turns wsX7_turns) := goodIn_app (goodIn_of _ (by decide +kernel)) ggX7_search_X7_turns
theorem dX7_search_0 : decode cX7_search 0 = .ok (.iconst 4, 1) := by decide +kernel
theorem dX7_search_1 : decode cX7_search 1 = .ok (.iconst 2, 1) := by decide +kernel
theorem dX7_search_2 : decode cX7_search 2 = .ok (.iload_n 1, 1) := by decide +kernel
theorem dX7_search_3 : decode cX7_search 3 = .ok (.imul, 1) := by decide +kernel
theorem dX7_search_4 : decode cX7_search 4 = .ok (.iload_n 2, 1) := by decide +kernel
theorem dX7_search_5 : decode cX7_search 5 = .ok (.iadd, 1) := by decide +kernel
theorem dX7_search_6 : decode cX7_search 6 = .ok (.imul, 1) := by decide +kernel
theorem dX7_search_7 : decode cX7_search 7 = .ok (.istore_n 3, 1) := by decide +kernel
theorem dX7_search_8 : decode cX7_search 8 = .ok (.aload_n 0, 1) := by decide +kernel
theorem dX7_search_9 : decode cX7_search 9 = .ok (.getfield 42, 3) := by decide +kernel
theorem dX7_search_12 : decode cX7_search 12 = .ok (.iconst 2, 1) := by decide +kernel
theorem dX7_search_13 : decode cX7_search 13 = .ok (.iload_n 1, 1) := by decide +kernel
theorem dX7_search_14 : decode cX7_search 14 = .ok (.imul, 1) := by decide +kernel
theorem dX7_search_15 : decode cX7_search 15 = .ok (.iload_n 2, 1) := by decide +kernel
theorem dX7_search_16 : decode cX7_search 16 = .ok (.iadd, 1) := by decide +kernel
theorem dX7_search_17 : decode cX7_search 17 = .ok (.iconst 1, 1) := by decide +kernel
theorem dX7_search_18 : decode cX7_search 18 = .ok (.bastore, 1) := by decide +kernel
theorem dX7_search_19 : decode cX7_search 19 = .ok (.ldc 156, 2) := by decide +kernel
theorem dX7_search_21 : decode cX7_search 21 = .ok (.istore 4, 2) := by decide +kernel
theorem dX7_search_23 : decode cX7_search 23 = .ok (.iconst 0, 1) := by decide +kernel
theorem dX7_search_24 : decode cX7_search 24 = .ok (.istore 5, 2) := by decide +kernel
theorem dX7_search_26 : decode cX7_search 26 = .ok (.iload 5, 2) := by decide +kernel
theorem dX7_search_28 : decode cX7_search 28 = .ok (.iconst 1, 1) := by decide +kernel
theorem dX7_search_29 : decode cX7_search 29 = .ok (.iload_n 1, 1) := by decide +kernel
theorem dX7_search_30 : decode cX7_search 30 = .ok (.ishl, 1) := by decide +kernel
theorem dX7_search_31 : decode cX7_search 31 = .ok (.if_icmp .ge 129, 3) := by decide +kernel
theorem dX7_search_34 : decode cX7_search 34 = .ok (.iload_n 2, 1) := by decide +kernel
theorem dX7_search_35 : decode cX7_search 35 = .ok (.ifCond .ne 13, 3) := by decide +kernel
theorem dX7_search_38 : decode cX7_search 38 = .ok (.iload_n 1, 1) := by decide +kernel
theorem dX7_search_39 : decode cX7_search 39 = .ok (.iload 5, 2) := by decide +kernel
theorem dX7_search_41 : decode cX7_search 41 = .ok (.i2l, 1) := by decide +kernel
theorem dX7_search_42 : decode cX7_search 42 = .ok (.invokestatic 90, 3) := by decide +kernel
theorem dX7_search_45 : decode cX7_search 45 = .ok (.goto 10, 3) := by decide +kernel
theorem dX7_search_48 : decode cX7_search 48 = .ok (.iload_n 1, 1) := by decide +kernel
theorem dX7_search_49 : decode cX7_search 49 = .ok (.iload 5, 2) := by decide +kernel
theorem dX7_search_51 : decode cX7_search 51 = .ok (.i2l, 1) := by decide +kernel
theorem dX7_search_52 : decode cX7_search 52 = .ok (.invokestatic 93, 3) := by decide +kernel
theorem dX7_search_55 : decode cX7_search 55 = .ok (.istore 6, 2) := by decide +kernel
theorem dX7_search_57 : decode cX7_search 57 = .ok (.iload 6, 2) := by decide +kernel
theorem dX7_search_59 : decode cX7_search 59 = .ok (.iload 4, 2) := by decide +kernel
theorem dX7_search_61 : decode cX7_search 61 = .ok (.if_icmp .ge 43, 3) := by decide +kernel
theorem dX7_search_64 : decode cX7_search 64 = .ok (.iload 6, 2) := by decide +kernel
theorem dX7_search_66 : decode cX7_search 66 = .ok (.istore 4, 2) := by decide +kernel
theorem dX7_search_68 : decode cX7_search 68 = .ok (.aload_n 0, 1) := by decide +kernel
theorem dX7_search_69 : decode cX7_search 69 = .ok (.getfield 46, 3) := by decide +kernel
theorem dX7_search_72 : decode cX7_search 72 = .ok (.iload_n 3, 1) := by decide +kernel
theorem dX7_search_73 : decode cX7_search 73 = .ok (.iload 6, 2) := by decide +kernel
theorem dX7_search_75 : decode cX7_search 75 = .ok (.iastore, 1) := by decide +kernel
theorem dX7_search_76 : decode cX7_search 76 = .ok (.aload_n 0, 1) := by decide +kernel
theorem dX7_search_77 : decode cX7_search 77 = .ok (.getfield 46, 3) := by decide +kernel
theorem dX7_search_80 : decode cX7_search 80 = .ok (.iload_n 3, 1) := by decide +kernel
theorem dX7_search_81 : decode cX7_search 81 = .ok (.iconst 1, 1) := by decide +kernel
theorem dX7_search_82 : decode cX7_search 82 = .ok (.iadd, 1) := by decide +kernel
theorem dX7_search_83 : decode cX7_search 83 = .ok (.iload 5, 2) := by decide +kernel
theorem dX7_search_85 : decode cX7_search 85 = .ok (.iastore, 1) := by decide +kernel
theorem dX7_search_86 : decode cX7_search 86 = .ok (.aload_n 0, 1) := by decide +kernel
theorem dX7_search_87 : decode cX7_search 87 = .ok (.getfield 46, 3) := by decide +kernel
theorem dX7_search_90 : decode cX7_search 90 = .ok (.iload_n 3, 1) := by decide +kernel
theorem dX7_search_91 : decode cX7_search 91 = .ok (.iconst 2, 1) := by decide +kernel
theorem dX7_search_92 : decode cX7_search 92 = .ok (.iadd, 1) := by decide +kernel
theorem dX7_search_93 : decode cX7_search 93 = .ok (.iconst 0, 1) := by decide +kernel
theorem dX7_search_94 : decode cX7_search 94 = .ok (.iastore, 1) := by decide +kernel
theorem dX7_search_95 : decode cX7_search 95 = .ok (.aload_n 0, 1) := by decide +kernel
theorem dX7_search_96 : decode cX7_search 96 = .ok (.getfield 46, 3) := by decide +kernel
theorem dX7_search_99 : decode cX7_search 99 = .ok (.iload_n 3, 1) := by decide +kernel
theorem dX7_search_100 : decode cX7_search 100 = .ok (.iconst 3, 1) := by decide +kernel
theorem dX7_search_101 : decode cX7_search 101 = .ok (.iadd, 1) := by decide +kernel
theorem dX7_search_102 : decode cX7_search 102 = .ok (.iconst 0, 1) := by decide +kernel
theorem dX7_search_103 : decode cX7_search 103 = .ok (.iastore, 1) := by decide +kernel
theorem dX7_search_104 : decode cX7_search 104 = .ok (.iload 6, 2) := by decide +kernel
theorem dX7_search_106 : decode cX7_search 106 = .ok (.iload 4, 2) := by decide +kernel
theorem dX7_search_108 : decode cX7_search 108 = .ok (.if_icmp .ne 46, 3) := by decide +kernel
theorem dX7_search_111 : decode cX7_search 111 = .ok (.aload_n 0, 1) := by decide +kernel
theorem dX7_search_112 : decode cX7_search 112 = .ok (.getfield 46, 3) := by decide +kernel
theorem dX7_search_115 : decode cX7_search 115 = .ok (.iload_n 3, 1) := by decide +kernel
theorem dX7_search_116 : decode cX7_search 116 = .ok (.iconst 2, 1) := by decide +kernel
theorem dX7_search_117 : decode cX7_search 117 = .ok (.iadd, 1) := by decide +kernel
theorem dX7_search_118 : decode cX7_search 118 = .ok (.dup2, 1) := by decide +kernel
theorem dX7_search_119 : decode cX7_search 119 = .ok (.iaload, 1) := by decide +kernel
theorem dX7_search_120 : decode cX7_search 120 = .ok (.iconst 1, 1) := by decide +kernel
theorem dX7_search_121 : decode cX7_search 121 = .ok (.iadd, 1) := by decide +kernel
theorem dX7_search_122 : decode cX7_search 122 = .ok (.iastore, 1) := by decide +kernel
theorem dX7_search_123 : decode cX7_search 123 = .ok (.aload_n 0, 1) := by decide +kernel
theorem dX7_search_124 : decode cX7_search 124 = .ok (.getfield 46, 3) := by decide +kernel
theorem dX7_search_127 : decode cX7_search 127 = .ok (.iload_n 3, 1) := by decide +kernel
theorem dX7_search_128 : decode cX7_search 128 = .ok (.iconst 3, 1) := by decide +kernel
theorem dX7_search_129 : decode cX7_search 129 = .ok (.iadd, 1) := by decide +kernel
theorem dX7_search_130 : decode cX7_search 130 = .ok (.dup2, 1) := by decide +kernel
theorem dX7_search_131 : decode cX7_search 131 = .ok (.iaload, 1) := by decide +kernel
theorem dX7_search_132 : decode cX7_search 132 = .ok (.aload_n 0, 1) := by decide +kernel
theorem dX7_search_133 : decode cX7_search 133 = .ok (.iload_n 1, 1) := by decide +kernel
theorem dX7_search_134 : decode cX7_search 134 = .ok (.iload 5, 2) := by decide +kernel
theorem dX7_search_136 : decode cX7_search 136 = .ok (.i2l, 1) := by decide +kernel
theorem dX7_search_137 : decode cX7_search 137 = .ok (.invokevirtual 96, 3) := by decide +kernel
theorem dX7_search_140 : decode cX7_search 140 = .ok (.iload 5, 2) := by decide +kernel
theorem dX7_search_142 : decode cX7_search 142 = .ok (.i2l, 1) := by decide +kernel
theorem dX7_search_143 : decode cX7_search 143 = .ok (.lcmp, 1) := by decide +kernel
theorem dX7_search_144 : decode cX7_search 144 = .ok (.ifCond .ne 7, 3) := by decide +kernel
theorem dX7_search_147 : decode cX7_search 147 = .ok (.iconst 1, 1) := by decide +kernel
theorem dX7_search_148 : decode cX7_search 148 = .ok (.goto 4, 3) := by decide +kernel
theorem dX7_search_151 : decode cX7_search 151 = .ok (.iconst 0, 1) := by decide +kernel
theorem dX7_search_152 : decode cX7_search 152 = .ok (.iadd, 1) := by decide +kernel
theorem dX7_search_153 : decode cX7_search 153 = .ok (.iastore, 1) := by decide +kernel
theorem dX7_search_154 : decode cX7_search 154 = .ok (.iinc 5 1, 3) := by decide +kernel
theorem dX7_search_157 : decode cX7_search 157 = .ok (.goto (-131), 3) := by decide +kernel
theorem dX7_search_160 : decode cX7_search 160 = .ok (.return_, 1) := by decide +kernel
set_option maxRecDepth 20000 in
theorem ggX7_best_X7_in : GoodIn wsX7_best wsX7_in := goodIn_r _ [8] (by decide +kernel) (by decide +kernel)
set_option maxRecDepth 20000 in
theorem gX7_best_X7_in : GoodIn wsX7_best (va_wsS RX7 52 yX7_in wsX7_in) := goodIn_app (goodIn_of _ (by decide +kernel)) ggX7_best_X7_in
set_option maxRecDepth 20000 in
theorem ggX7_best_X7_search : GoodIn wsX7_best wsX7_search := goodIn_r _ [12, 3, 13, 4, 14, 15, 7, 16, 17, 18, 19, 20, 21, 22, 23, 24, 25, 26, 27, 28, 29, 30, 31, 32, 33, 34, 35, 36, 37, 38, 39, 40, 41, 42, 43, 44, 45, 46, 47, 48, 49, 50] (by decide +kernel) (by decide +kernel)
set_option maxRecDepth 20000 in
theorem gX7_best_X7_search : GoodIn wsX7_best (wsV RX7 159 RX7 yX7_search wsX7_search) := goodIn_app (goodIn_of _ (by decide +kernel)) ggX7_best_X7_search
theorem dX7_best_0 : decode cX7_best 0 = .ok (.iload_n 1, 1) := by decide +kernel
theorem dX7_best_1 : decode cX7_best 1 = .ok (.i2l, 1) := by decide +kernel
theorem dX7_best_2 : decode cX7_best 2 = .ok (.lconst 1, 1) := by decide +kernel
theorem dX7_best_3 : decode cX7_best 3 = .ok (.ldc2_w 157, 3) := by decide +kernel
theorem dX7_best_6 : decode cX7_best 6 = .ok (.invokestatic 52, 3) := by decide +kernel
theorem dX7_best_9 : decode cX7_best 9 = .ok (.ifCond .eq 25, 3) := by decide +kernel
theorem dX7_best_12 : decode cX7_best 12 = .ok (.iload_n 2, 1) := by decide +kernel
theorem dX7_best_13 : decode cX7_best 13 = .ok (.i2l, 1) := by decide +kernel
theorem dX7_best_14 : decode cX7_best 14 = .ok (.lconst 0, 1) := by decide +kernel
theorem dX7_best_15 : decode cX7_best 15 = .ok (.lconst 1, 1) := by decide +kernel
theorem dX7_best_16 : decode cX7_best 16 = .ok (.invokestatic 52, 3) := by decide +kernel
theorem dX7_best_19 : decode cX7_best 19 = .ok (.ifCond .eq 15, 3) := by decide +kernel
theorem dX7_best_22 : decode cX7_best 22 = .ok (.iload_n 3, 1) := by decide +kernel
theorem dX7_best_23 : decode cX7_best 23 = .ok (.i2l, 1) := by decide +kernel
theorem dX7_best_24 : decode cX7_best 24 = .ok (.lconst 0, 1) := by decide +kernel
theorem dX7_best_25 : decode cX7_best 25 = .ok (.ldc2_w 62, 3) := by decide +kernel
theorem dX7_best_28 : decode cX7_best 28 = .ok (.invokestatic 52, 3) := by decide +kernel
theorem dX7_best_31 : decode cX7_best 31 = .ok (.ifCond .ne 5, 3) := by decide +kernel
theorem dX7_best_34 : decode cX7_best 34 = .ok (.iconst (-1), 1) := by decide +kernel
theorem dX7_best_35 : decode cX7_best 35 = .ok (.ireturn, 1) := by decide +kernel
theorem dX7_best_36 : decode cX7_best 36 = .ok (.aload_n 0, 1) := by decide +kernel
theorem dX7_best_37 : decode cX7_best 37 = .ok (.getfield 42, 3) := by decide +kernel
theorem dX7_best_40 : decode cX7_best 40 = .ok (.iconst 2, 1) := by decide +kernel
theorem dX7_best_41 : decode cX7_best 41 = .ok (.iload_n 1, 1) := by decide +kernel
theorem dX7_best_42 : decode cX7_best 42 = .ok (.imul, 1) := by decide +kernel
theorem dX7_best_43 : decode cX7_best 43 = .ok (.iload_n 2, 1) := by decide +kernel
theorem dX7_best_44 : decode cX7_best 44 = .ok (.iadd, 1) := by decide +kernel
theorem dX7_best_45 : decode cX7_best 45 = .ok (.baload, 1) := by decide +kernel
theorem dX7_best_46 : decode cX7_best 46 = .ok (.ifCond .ne 9, 3) := by decide +kernel
theorem dX7_best_49 : decode cX7_best 49 = .ok (.aload_n 0, 1) := by decide +kernel
theorem dX7_best_50 : decode cX7_best 50 = .ok (.iload_n 1, 1) := by decide +kernel
theorem dX7_best_51 : decode cX7_best 51 = .ok (.iload_n 2, 1) := by decide +kernel
theorem dX7_best_52 : decode cX7_best 52 = .ok (.invokevirtual 159, 3) := by decide +kernel
theorem dX7_best_55 : decode cX7_best 55 = .ok (.aload_n 0, 1) := by decide +kernel
theorem dX7_best_56 : decode cX7_best 56 = .ok (.getfield 46, 3) := by decide +kernel
theorem dX7_best_59 : decode cX7_best 59 = .ok (.iconst 4, 1) := by decide +kernel
theorem dX7_best_60 : decode cX7_best 60 = .ok (.iconst 2, 1) := by decide +kernel
theorem dX7_best_61 : decode cX7_best 61 = .ok (.iload_n 1, 1) := by decide +kernel
theorem dX7_best_62 : decode cX7_best 62 = .ok (.imul, 1) := by decide +kernel
theorem dX7_best_63 : decode cX7_best 63 = .ok (.iload_n 2, 1) := by decide +kernel
theorem dX7_best_64 : decode cX7_best 64 = .ok (.iadd, 1) := by decide +kernel
theorem dX7_best_65 : decode cX7_best 65 = .ok (.imul, 1) := by decide +kernel
theorem dX7_best_66 : decode cX7_best 66 = .ok (.iload_n 3, 1) := by decide +kernel
theorem dX7_best_67 : decode cX7_best 67 = .ok (.iadd, 1) := by decide +kernel
theorem dX7_best_68 : decode cX7_best 68 = .ok (.iaload, 1) := by decide +kernel
theorem dX7_best_69 : decode cX7_best 69 = .ok (.ireturn, 1) := by decide +kernel
theorem dX7_count_0 : decode cX7_count 0 = .ok (.iload_n 1, 1) := by decide +kernel
theorem dX7_count_1 : decode cX7_count 1 = .ok (.ifCond .ne 10, 3) := by decide +kernel
theorem dX7_count_4 : decode cX7_count 4 = .ok (.aload_n 0, 1) := by decide +kernel
theorem dX7_count_5 : decode cX7_count 5 = .ok (.getfield 49, 3) := by decide +kernel
theorem dX7_count_8 : decode cX7_count 8 = .ok (.goto 34, 3) := by decide +kernel
theorem dX7_count_11 : decode cX7_count 11 = .ok (.iload_n 1, 1) := by decide +kernel
theorem dX7_count_12 : decode cX7_count 12 = .ok (.iconst 1, 1) := by decide +kernel
theorem dX7_count_13 : decode cX7_count 13 = .ok (.if_icmp .ne 28, 3) := by decide +kernel
theorem dX7_count_16 : decode cX7_count 16 = .ok (.aload_n 0, 1) := by decide +kernel
theorem dX7_count_17 : decode cX7_count 17 = .ok (.getfield 17, 3) := by decide +kernel
theorem dX7_count_20 : decode cX7_count 20 = .ok (.iconst 0, 1) := by decide +kernel
theorem dX7_count_21 : decode cX7_count 21 = .ok (.iaload, 1) := by decide +kernel
theorem dX7_count_22 : decode cX7_count 22 = .ok (.bipush (-4), 2) := by decide +kernel
theorem dX7_count_24 : decode cX7_count 24 = .ok (.if_icmp .ne 8, 3) := by decide +kernel
theorem dX7_count_27 : decode cX7_count 27 = .ok (.bipush (-4), 2) := by decide +kernel
theorem dX7_count_29 : decode cX7_count 29 = .ok (.goto 13, 3) := by decide +kernel
theorem dX7_count_32 : decode cX7_count 32 = .ok (.aload_n 0, 1) := by decide +kernel
theorem dX7_count_33 : decode cX7_count 33 = .ok (.getfield 20, 3) := by decide +kernel
theorem dX7_count_36 : decode cX7_count 36 = .ok (.iconst 0, 1) := by decide +kernel
theorem dX7_count_37 : decode cX7_count 37 = .ok (.iaload, 1) := by decide +kernel
theorem dX7_count_38 : decode cX7_count 38 = .ok (.goto 4, 3) := by decide +kernel
theorem dX7_count_41 : decode cX7_count 41 = .ok (.iconst (-1), 1) := by decide +kernel
theorem dX7_count_42 : decode cX7_count 42 = .ok (.ireturn, 1) := by decide +kernel
