set_option maxRecDepth 20000 in
theorem ggX0_init_X3_peak : GoodIn wsX0_init wsX3_peak := goodIn_r _ [12, 13, 14, 15, 16, 17, 18, 19, 20, 21, 11, 22, 23, 24, 25, 26, 27, 28, 29, 30, 31, 32] (by decide +kernel) (by decide +kernel)
set_option maxRecDepth 20000 in
theorem gX0_init_X3_peak : GoodIn wsX0_init (va_wsS RX0 14 yX3_peak wsX3_peak) := goodIn_app (goodIn_of _ (by decide +kernel)) ggX0_init_X3_peak
set_option maxRecDepth 20000 in
theorem ggX0_init_X3_energy : GoodIn wsX0_init wsX3_energy := goodIn_r _ [35, 20, 21, 11, 22, 23, 24, 25, 26, 27, 28, 29, 30, 31, 32] (by decide +kernel) (by decide +kernel)
set_option maxRecDepth 20000 in
theorem gX0_init_X3_energy : GoodIn wsX0_init (va_wsS RX0 20 yX3_energy wsX3_energy) := goodIn_app (goodIn_of _ (by decide +kernel)) ggX0_init_X3_energy
set_option maxRecDepth 20000 in
theorem ggX0_init_X3_leastTurned : GoodIn wsX0_init wsX3_leastTurned := goodIn_r _ [38, 39, 40, 15, 41, 42, 43, 11, 44, 45, 46, 47, 48, 49, 50, 51, 23, 24, 25] (by decide +kernel) (by decide +kernel)
set_option maxRecDepth 20000 in
theorem gX0_init_X3_leastTurned : GoodIn wsX0_init (va_wsS RX0 32 yX3_leastTurned wsX3_leastTurned) := goodIn_app (goodIn_of _ (by decide +kernel)) ggX0_init_X3_leastTurned
theorem dX0_init_0 : decode cX0_init 0 = .ok (.aload_n 0, 1) := by decide +kernel
theorem dX0_init_1 : decode cX0_init 1 = .ok (.invokespecial 1, 3) := by decide +kernel
theorem dX0_init_4 : decode cX0_init 4 = .ok (.aload_n 0, 1) := by decide +kernel
theorem dX0_init_5 : decode cX0_init 5 = .ok (.ldc 9, 2) := by decide +kernel
theorem dX0_init_7 : decode cX0_init 7 = .ok (.putfield 10, 3) := by decide +kernel
theorem dX0_init_10 : decode cX0_init 10 = .ok (.iload_n 1, 1) := by decide +kernel
theorem dX0_init_11 : decode cX0_init 11 = .ok (.iconst 1, 1) := by decide +kernel
theorem dX0_init_12 : decode cX0_init 12 = .ok (.if_icmp .ne 7, 3) := by decide +kernel
theorem dX0_init_15 : decode cX0_init 15 = .ok (.iconst 2, 1) := by decide +kernel
theorem dX0_init_16 : decode cX0_init 16 = .ok (.goto 4, 3) := by decide +kernel
theorem dX0_init_19 : decode cX0_init 19 = .ok (.iconst 4, 1) := by decide +kernel
theorem dX0_init_20 : decode cX0_init 20 = .ok (.istore_n 3, 1) := by decide +kernel
theorem dX0_init_21 : decode cX0_init 21 = .ok (.iconst 1, 1) := by decide +kernel
theorem dX0_init_22 : decode cX0_init 22 = .ok (.iload_n 1, 1) := by decide +kernel
theorem dX0_init_23 : decode cX0_init 23 = .ok (.ishl, 1) := by decide +kernel
theorem dX0_init_24 : decode cX0_init 24 = .ok (.iload_n 3, 1) := by decide +kernel
theorem dX0_init_25 : decode cX0_init 25 = .ok (.idiv, 1) := by decide +kernel
theorem dX0_init_26 : decode cX0_init 26 = .ok (.istore 4, 2) := by decide +kernel
theorem dX0_init_28 : decode cX0_init 28 = .ok (.iconst 0, 1) := by decide +kernel
theorem dX0_init_29 : decode cX0_init 29 = .ok (.istore 5, 2) := by decide +kernel
theorem dX0_init_31 : decode cX0_init 31 = .ok (.iload 5, 2) := by decide +kernel
theorem dX0_init_33 : decode cX0_init 33 = .ok (.iload 4, 2) := by decide +kernel
theorem dX0_init_35 : decode cX0_init 35 = .ok (.if_icmp .ge 110, 3) := by decide +kernel
theorem dX0_init_38 : decode cX0_init 38 = .ok (.iload_n 2, 1) := by decide +kernel
theorem dX0_init_39 : decode cX0_init 39 = .ok (.ifCond .ne 13, 3) := by decide +kernel
theorem dX0_init_42 : decode cX0_init 42 = .ok (.iload 5, 2) := by decide +kernel
theorem dX0_init_44 : decode cX0_init 44 = .ok (.i2l, 1) := by decide +kernel
theorem dX0_init_45 : decode cX0_init 45 = .ok (.iload_n 1, 1) := by decide +kernel
theorem dX0_init_46 : decode cX0_init 46 = .ok (.invokestatic 14, 3) := by decide +kernel
theorem dX0_init_49 : decode cX0_init 49 = .ok (.goto 10, 3) := by decide +kernel
theorem dX0_init_52 : decode cX0_init 52 = .ok (.iload 5, 2) := by decide +kernel
theorem dX0_init_54 : decode cX0_init 54 = .ok (.i2l, 1) := by decide +kernel
theorem dX0_init_55 : decode cX0_init 55 = .ok (.iload_n 1, 1) := by decide +kernel
theorem dX0_init_56 : decode cX0_init 56 = .ok (.invokestatic 20, 3) := by decide +kernel
theorem dX0_init_59 : decode cX0_init 59 = .ok (.istore 6, 2) := by decide +kernel
theorem dX0_init_61 : decode cX0_init 61 = .ok (.iload 6, 2) := by decide +kernel
theorem dX0_init_63 : decode cX0_init 63 = .ok (.aload_n 0, 1) := by decide +kernel
theorem dX0_init_64 : decode cX0_init 64 = .ok (.getfield 10, 3) := by decide +kernel
theorem dX0_init_67 : decode cX0_init 67 = .ok (.if_icmp .ge 25, 3) := by decide +kernel
theorem dX0_init_70 : decode cX0_init 70 = .ok (.aload_n 0, 1) := by decide +kernel
theorem dX0_init_71 : decode cX0_init 71 = .ok (.iload 6, 2) := by decide +kernel
theorem dX0_init_73 : decode cX0_init 73 = .ok (.putfield 10, 3) := by decide +kernel
theorem dX0_init_76 : decode cX0_init 76 = .ok (.aload_n 0, 1) := by decide +kernel
theorem dX0_init_77 : decode cX0_init 77 = .ok (.iload 5, 2) := by decide +kernel
theorem dX0_init_79 : decode cX0_init 79 = .ok (.putfield 23, 3) := by decide +kernel
theorem dX0_init_82 : decode cX0_init 82 = .ok (.aload_n 0, 1) := by decide +kernel
theorem dX0_init_83 : decode cX0_init 83 = .ok (.iconst 0, 1) := by decide +kernel
theorem dX0_init_84 : decode cX0_init 84 = .ok (.putfield 26, 3) := by decide +kernel
theorem dX0_init_87 : decode cX0_init 87 = .ok (.aload_n 0, 1) := by decide +kernel
theorem dX0_init_88 : decode cX0_init 88 = .ok (.iconst 0, 1) := by decide +kernel
theorem dX0_init_89 : decode cX0_init 89 = .ok (.putfield 29, 3) := by decide +kernel
theorem dX0_init_92 : decode cX0_init 92 = .ok (.iload 6, 2) := by decide +kernel
theorem dX0_init_94 : decode cX0_init 94 = .ok (.aload_n 0, 1) := by decide +kernel
theorem dX0_init_95 : decode cX0_init 95 = .ok (.getfield 10, 3) := by decide +kernel
theorem dX0_init_98 : decode cX0_init 98 = .ok (.if_icmp .ne 41, 3) := by decide +kernel
theorem dX0_init_101 : decode cX0_init 101 = .ok (.aload_n 0, 1) := by decide +kernel
theorem dX0_init_102 : decode cX0_init 102 = .ok (.dup, 1) := by decide +kernel
theorem dX0_init_103 : decode cX0_init 103 = .ok (.getfield 26, 3) := by decide +kernel
theorem dX0_init_106 : decode cX0_init 106 = .ok (.iload_n 3, 1) := by decide +kernel
theorem dX0_init_107 : decode cX0_init 107 = .ok (.iadd, 1) := by decide +kernel
theorem dX0_init_108 : decode cX0_init 108 = .ok (.putfield 26, 3) := by decide +kernel
theorem dX0_init_111 : decode cX0_init 111 = .ok (.aload_n 0, 1) := by decide +kernel
theorem dX0_init_112 : decode cX0_init 112 = .ok (.dup, 1) := by decide +kernel
theorem dX0_init_113 : decode cX0_init 113 = .ok (.getfield 29, 3) := by decide +kernel
theorem dX0_init_116 : decode cX0_init 116 = .ok (.iload 5, 2) := by decide +kernel
theorem dX0_init_118 : decode cX0_init 118 = .ok (.i2l, 1) := by decide +kernel
theorem dX0_init_119 : decode cX0_init 119 = .ok (.iload_n 1, 1) := by decide +kernel
theorem dX0_init_120 : decode cX0_init 120 = .ok (.invokestatic 32, 3) := by decide +kernel
theorem dX0_init_123 : decode cX0_init 123 = .ok (.iload 5, 2) := by decide +kernel
theorem dX0_init_125 : decode cX0_init 125 = .ok (.i2l, 1) := by decide +kernel
theorem dX0_init_126 : decode cX0_init 126 = .ok (.lcmp, 1) := by decide +kernel
theorem dX0_init_127 : decode cX0_init 127 = .ok (.ifCond .ne 7, 3) := by decide +kernel
theorem dX0_init_130 : decode cX0_init 130 = .ok (.iconst 1, 1) := by decide +kernel
theorem dX0_init_131 : decode cX0_init 131 = .ok (.goto 4, 3) := by decide +kernel
theorem dX0_init_134 : decode cX0_init 134 = .ok (.iconst 0, 1) := by decide +kernel
theorem dX0_init_135 : decode cX0_init 135 = .ok (.iadd, 1) := by decide +kernel
theorem dX0_init_136 : decode cX0_init 136 = .ok (.putfield 29, 3) := by decide +kernel
theorem dX0_init_139 : decode cX0_init 139 = .ok (.iinc 5 1, 3) := by decide +kernel
theorem dX0_init_142 : decode cX0_init 142 = .ok (.goto (-111), 3) := by decide +kernel
theorem dX0_init_145 : decode cX0_init 145 = .ok (.return_, 1) := by decide +kernel
set_option maxRecDepth 20000 in
theorem ggX1_init_Jx4a65c_init_da8c8 : GoodIn wsX1_init wsJx4a65c_init_da8c8 := goodIn_r _ [11, 12, 13, 14, 15, 16, 17, 18, 19, 20, 21, 22, 23, 2, 3, 131, 132, 133] (by decide +kernel) (by decide +kernel)
set_option maxRecDepth 20000 in
theorem gX1_init_Jx4a65c_init_da8c8 : GoodIn wsX1_init (wsJx4a65c_init_da8c8) := ggX1_init_Jx4a65c_init_da8c8
set_option maxRecDepth 20000 in
theorem ggX1_init_X3_firstLeftOpen : GoodIn wsX1_init wsX3_firstLeftOpen := goodIn_r _ [27, 28, 29, 26, 30, 31, 32, 33, 34, 35, 36, 37, 38, 39, 40] (by decide +kernel) (by decide +kernel)
set_option maxRecDepth 20000 in
theorem gX1_init_X3_firstLeftOpen : GoodIn wsX1_init (va_wsS RX1 20 yX3_firstLeftOpen wsX3_firstLeftOpen) := goodIn_app (goodIn_of _ (by decide +kernel)) ggX1_init_X3_firstLeftOpen
set_option maxRecDepth 20000 in
theorem ggX1_init_X1_keepIfLeast : GoodIn wsX1_init wsX1_keepIfLeast := goodIn_r _ [45, 8, 46, 47, 44, 48, 49, 50, 26, 51, 52, 53, 54, 55, 56, 57, 58, 31, 32, 33, 59, 60, 61, 62, 63, 64, 65, 66, 67, 68, 69, 70, 71, 72, 73, 74, 75, 2, 3, 76, 77, 78, 7, 79, 80, 81, 13, 82, 83, 84, 85, 86, 87, 88, 89, 90, 91, 92, 93, 94, 12, 95, 96, 97, 98, 99, 100, 101, 102, 103, 104, 105, 106, 107, 108, 109, 110, 111, 112, 113, 114, 115, 116, 117, 118, 119, 120, 121, 122, 123, 124, 125, 126, 127, 128, 129, 130, 134, 131, 132, 133] (by decide +kernel) (by decide +kernel)
set_option maxRecDepth 20000 in
theorem gX1_init_X1_keepIfLeast : GoodIn wsX1_init (wsV RX1 26 RX1 yX1_keepIfLeast wsX1_keepIfLeast) := goodIn_app (goodIn_of _ (by decide +kernel)) ggX1_init_X1_keepIfLeast
theorem dX1_init_0 : decode cX1_init 0 = .ok (.aload_n 0, 1) := by decide +kernel
theorem dX1_init_1 : decode cX1_init 1 = .ok (.invokespecial 1, 3) := by decide +kernel
theorem dX1_init_4 : decode cX1_init 4 = .ok (.aload_n 0, 1) := by decide +kernel
theorem dX1_init_5 : decode cX1_init 5 = .ok (.iconst 0, 1) := by decide +kernel
theorem dX1_init_6 : decode cX1_init 6 = .ok (.putfield 7, 3) := by decide +kernel
theorem dX1_init_9 : decode cX1_init 9 = .ok (.aload_n 0, 1) := by decide +kernel
theorem dX1_init_10 : decode cX1_init 10 = .ok (.new 13, 3) := by decide +kernel
theorem dX1_init_13 : decode cX1_init 13 = .ok (.dup, 1) := by decide +kernel
theorem dX1_init_14 : decode cX1_init 14 = .ok (.invokespecial 15, 3) := by decide +kernel
theorem dX1_init_17 : decode cX1_init 17 = .ok (.putfield 16, 3) := by decide +kernel
theorem dX1_init_20 : decode cX1_init 20 = .ok (.iconst 1, 1) := by decide +kernel
theorem dX1_init_21 : decode cX1_init 21 = .ok (.iload_n 1, 1) := by decide +kernel
theorem dX1_init_22 : decode cX1_init 22 = .ok (.iconst 1, 1) := by decide +kernel
theorem dX1_init_23 : decode cX1_init 23 = .ok (.isub, 1) := by decide +kernel
theorem dX1_init_24 : decode cX1_init 24 = .ok (.ishl, 1) := by decide +kernel
theorem dX1_init_25 : decode cX1_init 25 = .ok (.istore_n 2, 1) := by decide +kernel
theorem dX1_init_26 : decode cX1_init 26 = .ok (.iconst 0, 1) := by decide +kernel
theorem dX1_init_27 : decode cX1_init 27 = .ok (.istore_n 3, 1) := by decide +kernel
theorem dX1_init_28 : decode cX1_init 28 = .ok (.iload_n 3, 1) := by decide +kernel
theorem dX1_init_29 : decode cX1_init 29 = .ok (.iload_n 2, 1) := by decide +kernel
theorem dX1_init_30 : decode cX1_init 30 = .ok (.if_icmp .ge 54, 3) := by decide +kernel
theorem dX1_init_33 : decode cX1_init 33 = .ok (.iconst 0, 1) := by decide +kernel
theorem dX1_init_34 : decode cX1_init 34 = .ok (.istore 4, 2) := by decide +kernel
theorem dX1_init_36 : decode cX1_init 36 = .ok (.iload 4, 2) := by decide +kernel
theorem dX1_init_38 : decode cX1_init 38 = .ok (.iload_n 2, 1) := by decide +kernel
theorem dX1_init_39 : decode cX1_init 39 = .ok (.if_icmp .ge 39, 3) := by decide +kernel
theorem dX1_init_42 : decode cX1_init 42 = .ok (.iload_n 3, 1) := by decide +kernel
theorem dX1_init_43 : decode cX1_init 43 = .ok (.i2l, 1) := by decide +kernel
theorem dX1_init_44 : decode cX1_init 44 = .ok (.iload 4, 2) := by decide +kernel
theorem dX1_init_46 : decode cX1_init 46 = .ok (.i2l, 1) := by decide +kernel
theorem dX1_init_47 : decode cX1_init 47 = .ok (.iload_n 1, 1) := by decide +kernel
theorem dX1_init_48 : decode cX1_init 48 = .ok (.invokestatic 20, 3) := by decide +kernel
theorem dX1_init_51 : decode cX1_init 51 = .ok (.ifCond .ne 21, 3) := by decide +kernel
theorem dX1_init_54 : decode cX1_init 54 = .ok (.aload_n 0, 1) := by decide +kernel
theorem dX1_init_55 : decode cX1_init 55 = .ok (.dup, 1) := by decide +kernel
theorem dX1_init_56 : decode cX1_init 56 = .ok (.getfield 7, 3) := by decide +kernel
theorem dX1_init_59 : decode cX1_init 59 = .ok (.iconst 4, 1) := by decide +kernel
theorem dX1_init_60 : decode cX1_init 60 = .ok (.iadd, 1) := by decide +kernel
theorem dX1_init_61 : decode cX1_init 61 = .ok (.putfield 7, 3) := by decide +kernel
theorem dX1_init_64 : decode cX1_init 64 = .ok (.aload_n 0, 1) := by decide +kernel
theorem dX1_init_65 : decode cX1_init 65 = .ok (.iload_n 3, 1) := by decide +kernel
theorem dX1_init_66 : decode cX1_init 66 = .ok (.iload 4, 2) := by decide +kernel
theorem dX1_init_68 : decode cX1_init 68 = .ok (.iload_n 1, 1) := by decide +kernel
theorem dX1_init_69 : decode cX1_init 69 = .ok (.invokevirtual 26, 3) := by decide +kernel
theorem dX1_init_72 : decode cX1_init 72 = .ok (.iinc 4 1, 3) := by decide +kernel
theorem dX1_init_75 : decode cX1_init 75 = .ok (.goto (-39), 3) := by decide +kernel
theorem dX1_init_78 : decode cX1_init 78 = .ok (.iinc 3 1, 3) := by decide +kernel
theorem dX1_init_81 : decode cX1_init 81 = .ok (.goto (-53), 3) := by decide +kernel
theorem dX1_init_84 : decode cX1_init 84 = .ok (.return_, 1) := by decide +kernel
set_option maxRecDepth 20000 in
theorem ggX1_kinds_Jx4a65c_size_8abf5 : GoodIn wsX1_kinds wsJx4a65c_size_8abf5 := goodIn_r _ [6, 7, 10, 11, 12] (by decide +kernel) (by decide +kernel)
set_option maxRecDepth 20000 in
theorem gX1_kinds_Jx4a65c_size_8abf5 : GoodIn wsX1_kinds (wsV RX1 30 RJx4a65c yJx4a65c_size_8abf5 wsJx4a65c_size_8abf5) := goodIn_app (goodIn_of _ (by decide +kernel)) ggX1_kinds_Jx4a65c_size_8abf5
theorem dX1_kinds_0 : decode cX1_kinds 0 = .ok (.aload_n 0, 1) := by decide +kernel
theorem dX1_kinds_1 : decode cX1_kinds 1 = .ok (.getfield 16, 3) := by decide +kernel
theorem dX1_kinds_4 : decode cX1_kinds 4 = .ok (.invokevirtual 30, 3) := by decide +kernel
theorem dX1_kinds_7 : decode cX1_kinds 7 = .ok (.ireturn, 1) := by decide +kernel
set_option maxRecDepth 20000 in
theorem ggX1_codeAt_Jx4a65c_size_8abf5 : GoodIn wsX1_codeAt wsJx4a65c_size_8abf5 := goodIn_r _ [7, 8, 34, 35, 36] (by decide +kernel) (by decide +kernel)
set_option maxRecDepth 20000 in
theorem gX1_codeAt_Jx4a65c_size_8abf5 : GoodIn wsX1_codeAt (wsV RX1 30 RJx4a65c yJx4a65c_size_8abf5 wsJx4a65c_size_8abf5) := goodIn_app (goodIn_of _ (by decide +kernel)) ggX1_codeAt_Jx4a65c_size_8abf5
set_option maxRecDepth 20000 in
theorem ggX1_codeAt_Jx4a65c_get_915e3 : GoodIn wsX1_codeAt wsJx4a65c_get_915e3 := goodIn_r _ [12, 8, 13, 14, 15, 16, 17, 18, 19, 20, 21, 22, 23, 6, 24, 25, 34, 35, 36] (by decide +kernel) (by decide +kernel)
set_option maxRecDepth 20000 in
theorem gX1_codeAt_Jx4a65c_get_915e3 : GoodIn wsX1_codeAt (wsV RX1 34 RJx4a65c yJx4a65c_get_915e3 wsJx4a65c_get_915e3) := goodIn_app (goodIn_of _ (by decide +kernel)) ggX1_codeAt_Jx4a65c_get_915e3
set_option maxRecDepth 20000 in
theorem ggX1_codeAt_J6_intValue_8abf5 : GoodIn wsX1_codeAt wsJ6_intValue_8abf5 := goodIn_r _ [30, 31, 37] (by decide +kernel) (by decide +kernel)
set_option maxRecDepth 20000 in
theorem gX1_codeAt_J6_intValue_8abf5 : GoodIn wsX1_codeAt (wsV RX1 40 RJ6 yJ6_intValue_8abf5 wsJ6_intValue_8abf5) := goodIn_app (goodIn_of _ (by decide +kernel)) ggX1_codeAt_J6_intValue_8abf5
theorem dX1_codeAt_0 : decode cX1_codeAt 0 = .ok (.iload_n 1, 1) := by decide +kernel
theorem dX1_codeAt_1 : decode cX1_codeAt 1 = .ok (.ifCond .lt 31, 3) := by decide +kernel
theorem dX1_codeAt_4 : decode cX1_codeAt 4 = .ok (.iload_n 1, 1) := by decide +kernel
theorem dX1_codeAt_5 : decode cX1_codeAt 5 = .ok (.aload_n 0, 1) := by decide +kernel
theorem dX1_codeAt_6 : decode cX1_codeAt 6 = .ok (.getfield 16, 3) := by decide +kernel
theorem dX1_codeAt_9 : decode cX1_codeAt 9 = .ok (.invokevirtual 30, 3) := by decide +kernel
theorem dX1_codeAt_12 : decode cX1_codeAt 12 = .ok (.if_icmp .ge 20, 3) := by decide +kernel
theorem dX1_codeAt_15 : decode cX1_codeAt 15 = .ok (.aload_n 0, 1) := by decide +kernel
theorem dX1_codeAt_16 : decode cX1_codeAt 16 = .ok (.getfield 16, 3) := by decide +kernel
theorem dX1_codeAt_19 : decode cX1_codeAt 19 = .ok (.iload_n 1, 1) := by decide +kernel
theorem dX1_codeAt_20 : decode cX1_codeAt 20 = .ok (.invokevirtual 34, 3) := by decide +kernel
theorem dX1_codeAt_23 : decode cX1_codeAt 23 = .ok (.checkcast 38, 3) := by decide +kernel
theorem dX1_codeAt_26 : decode cX1_codeAt 26 = .ok (.invokevirtual 40, 3) := by decide +kernel
theorem dX1_codeAt_29 : decode cX1_codeAt 29 = .ok (.goto 4, 3) := by decide +kernel
theorem dX1_codeAt_32 : decode cX1_codeAt 32 = .ok (.iconst 0, 1) := by decide +kernel
theorem dX1_codeAt_33 : decode cX1_codeAt 33 = .ok (.ireturn, 1) := by decide +kernel
set_option maxRecDepth 20000 in
theorem ggX1_keepIfLeast_X1_codeOf : GoodIn wsX1_keepIfLeast wsX1_codeOf := goodIn_r _ [5] (by decide +kernel) (by decide +kernel)
set_option maxRecDepth 20000 in
theorem gX1_keepIfLeast_X1_codeOf : GoodIn wsX1_keepIfLeast (va_wsS RX1 43 yX1_codeOf wsX1_codeOf) := goodIn_app (goodIn_of _ (by decide +kernel)) ggX1_keepIfLeast_X1_codeOf
set_option maxRecDepth 20000 in
theorem ggX1_keepIfLeast_X3_turned : GoodIn wsX1_keepIfLeast wsX3_turned := goodIn_r _ [9, 10, 11, 12, 8, 13, 14, 15, 16, 17, 18, 19] (by decide +kernel) (by decide +kernel)
set_option maxRecDepth 20000 in
theorem gX1_keepIfLeast_X3_turned : GoodIn wsX1_keepIfLeast (va_wsS RX1 47 yX3_turned wsX3_turned) := goodIn_app (goodIn_of _ (by decide +kernel)) ggX1_keepIfLeast_X3_turned
set_option maxRecDepth 20000 in
theorem ggX1_keepIfLeast_J6_valueOf_2dffe : GoodIn wsX1_keepIfLeast wsJ6_valueOf_2dffe := goodIn_r _ [23, 24, 25, 26, 27, 22, 28, 29, 30, 31, 32, 33, 34, 35, 36, 37, 38, 97] (by decide +kernel) (by decide +kernel)
set_option maxRecDepth 20000 in
theorem gX1_keepIfLeast_J6_valueOf_2dffe : GoodIn wsX1_keepIfLeast (va_wsS RX1 51 yJ6_valueOf_2dffe wsJ6_valueOf_2dffe) := goodIn_app (goodIn_of _ (by decide +kernel)) ggX1_keepIfLeast_J6_valueOf_2dffe
set_option maxRecDepth 20000 in
theorem ggX1_keepIfLeast_Jx4a65c_add_9ea2d : GoodIn wsX1_keepIfLeast wsJx4a65c_add_9ea2d := goodIn_r _ [43, 44, 45, 46, 47, 48, 49, 50, 42, 51, 52, 53, 54, 55, 56, 57, 58, 59, 60, 61, 62, 63, 64, 65, 66, 67, 68, 69, 70, 71, 72, 73, 74, 75, 76, 77, 78, 79, 80, 81, 82, 83, 84, 85, 86, 87, 88, 89, 90, 91, 92, 93, 94, 98, 99, 100] (by decide +kernel) (by decide +kernel)
set_option maxRecDepth 20000 in
theorem gX1_keepIfLeast_Jx4a65c_add_9ea2d : GoodIn wsX1_keepIfLeast (wsV RX1 55 RJx4a65c yJx4a65c_add_9ea2d wsJx4a65c_add_9ea2d) := goodIn_app (goodIn_of _ (by decide +kernel)) ggX1_keepIfLeast_Jx4a65c_add_9ea2d
theorem dX1_keepIfLeast_0 : decode cX1_keepIfLeast 0 = .ok (.iload_n 1, 1) := by decide +kernel
theorem dX1_keepIfLeast_1 : decode cX1_keepIfLeast 1 = .ok (.i2l, 1) := by decide +kernel
theorem dX1_keepIfLeast_2 : decode cX1_keepIfLeast 2 = .ok (.iload_n 2, 1) := by decide +kernel
theorem dX1_keepIfLeast_3 : decode cX1_keepIfLeast 3 = .ok (.i2l, 1) := by decide +kernel
theorem dX1_keepIfLeast_4 : decode cX1_keepIfLeast 4 = .ok (.invokestatic 43, 3) := by decide +kernel
theorem dX1_keepIfLeast_7 : decode cX1_keepIfLeast 7 = .ok (.istore 4, 2) := by decide +kernel
theorem dX1_keepIfLeast_9 : decode cX1_keepIfLeast 9 = .ok (.iconst 0, 1) := by decide +kernel
theorem dX1_keepIfLeast_10 : decode cX1_keepIfLeast 10 = .ok (.istore 5, 2) := by decide +kernel
theorem dX1_keepIfLeast_12 : decode cX1_keepIfLeast 12 = .ok (.iload 5, 2) := by decide +kernel
theorem dX1_keepIfLeast_14 : decode cX1_keepIfLeast 14 = .ok (.bipush 8, 2) := by decide +kernel
theorem dX1_keepIfLeast_16 : decode cX1_keepIfLeast 16 = .ok (.if_icmp .ge 74, 3) := by decide +kernel
theorem dX1_keepIfLeast_19 : decode cX1_keepIfLeast 19 = .ok (.iconst 0, 1) := by decide +kernel
theorem dX1_keepIfLeast_20 : decode cX1_keepIfLeast 20 = .ok (.istore 6, 2) := by decide +kernel
theorem dX1_keepIfLeast_22 : decode cX1_keepIfLeast 22 = .ok (.iload 6, 2) := by decide +kernel
theorem dX1_keepIfLeast_24 : decode cX1_keepIfLeast 24 = .ok (.iconst 4, 1) := by decide +kernel
theorem dX1_keepIfLeast_25 : decode cX1_keepIfLeast 25 = .ok (.if_icmp .ge 59, 3) := by decide +kernel
theorem dX1_keepIfLeast_28 : decode cX1_keepIfLeast 28 = .ok (.iload_n 1, 1) := by decide +kernel
theorem dX1_keepIfLeast_29 : decode cX1_keepIfLeast 29 = .ok (.i2l, 1) := by decide +kernel
theorem dX1_keepIfLeast_30 : decode cX1_keepIfLeast 30 = .ok (.iload_n 3, 1) := by decide +kernel
theorem dX1_keepIfLeast_31 : decode cX1_keepIfLeast 31 = .ok (.iload 5, 2) := by decide +kernel
theorem dX1_keepIfLeast_33 : decode cX1_keepIfLeast 33 = .ok (.invokestatic 47, 3) := by decide +kernel
theorem dX1_keepIfLeast_36 : decode cX1_keepIfLeast 36 = .ok (.lstore 7, 2) := by decide +kernel
theorem dX1_keepIfLeast_38 : decode cX1_keepIfLeast 38 = .ok (.iload_n 2, 1) := by decide +kernel
theorem dX1_keepIfLeast_39 : decode cX1_keepIfLeast 39 = .ok (.i2l, 1) := by decide +kernel
theorem dX1_keepIfLeast_40 : decode cX1_keepIfLeast 40 = .ok (.iload_n 3, 1) := by decide +kernel
theorem dX1_keepIfLeast_41 : decode cX1_keepIfLeast 41 = .ok (.iload 5, 2) := by decide +kernel
theorem dX1_keepIfLeast_43 : decode cX1_keepIfLeast 43 = .ok (.iconst 4, 1) := by decide +kernel
theorem dX1_keepIfLeast_44 : decode cX1_keepIfLeast 44 = .ok (.iand, 1) := by decide +kernel
theorem dX1_keepIfLeast_45 : decode cX1_keepIfLeast 45 = .ok (.iload 6, 2) := by decide +kernel
theorem dX1_keepIfLeast_47 : decode cX1_keepIfLeast 47 = .ok (.ior, 1) := by decide +kernel
theorem dX1_keepIfLeast_48 : decode cX1_keepIfLeast 48 = .ok (.invokestatic 47, 3) := by decide +kernel
theorem dX1_keepIfLeast_51 : decode cX1_keepIfLeast 51 = .ok (.lstore 9, 2) := by decide +kernel
theorem dX1_keepIfLeast_53 : decode cX1_keepIfLeast 53 = .ok (.lload 7, 2) := by decide +kernel
theorem dX1_keepIfLeast_55 : decode cX1_keepIfLeast 55 = .ok (.lload 9, 2) := by decide +kernel
theorem dX1_keepIfLeast_57 : decode cX1_keepIfLeast 57 = .ok (.invokestatic 43, 3) := by decide +kernel
theorem dX1_keepIfLeast_60 : decode cX1_keepIfLeast 60 = .ok (.iload 4, 2) := by decide +kernel
theorem dX1_keepIfLeast_62 : decode cX1_keepIfLeast 62 = .ok (.if_icmp .lt 15, 3) := by decide +kernel
theorem dX1_keepIfLeast_65 : decode cX1_keepIfLeast 65 = .ok (.lload 9, 2) := by decide +kernel
theorem dX1_keepIfLeast_67 : decode cX1_keepIfLeast 67 = .ok (.lload 7, 2) := by decide +kernel
theorem dX1_keepIfLeast_69 : decode cX1_keepIfLeast 69 = .ok (.invokestatic 43, 3) := by decide +kernel
theorem dX1_keepIfLeast_72 : decode cX1_keepIfLeast 72 = .ok (.iload 4, 2) := by decide +kernel
theorem dX1_keepIfLeast_74 : decode cX1_keepIfLeast 74 = .ok (.if_icmp .ge 4, 3) := by decide +kernel
theorem dX1_keepIfLeast_77 : decode cX1_keepIfLeast 77 = .ok (.return_, 1) := by decide +kernel
theorem dX1_keepIfLeast_78 : decode cX1_keepIfLeast 78 = .ok (.iinc 6 1, 3) := by decide +kernel
theorem dX1_keepIfLeast_81 : decode cX1_keepIfLeast 81 = .ok (.goto (-59), 3) := by decide +kernel
theorem dX1_keepIfLeast_84 : decode cX1_keepIfLeast 84 = .ok (.iinc 5 1, 3) := by decide +kernel
theorem dX1_keepIfLeast_87 : decode cX1_keepIfLeast 87 = .ok (.goto (-75), 3) := by decide +kernel
theorem dX1_keepIfLeast_90 : decode cX1_keepIfLeast 90 = .ok (.aload_n 0, 1) := by decide +kernel
theorem dX1_keepIfLeast_91 : decode cX1_keepIfLeast 91 = .ok (.getfield 16, 3) := by decide +kernel
theorem dX1_keepIfLeast_94 : decode cX1_keepIfLeast 94 = .ok (.iload 4, 2) := by decide +kernel
theorem dX1_keepIfLeast_96 : decode cX1_keepIfLeast 96 = .ok (.invokestatic 51, 3) := by decide +kernel
theorem dX1_keepIfLeast_99 : decode cX1_keepIfLeast 99 = .ok (.invokevirtual 55, 3) := by decide +kernel
theorem dX1_keepIfLeast_102 : decode cX1_keepIfLeast 102 = .ok (.pop, 1) := by decide +kernel
theorem dX1_keepIfLeast_103 : decode cX1_keepIfLeast 103 = .ok (.return_, 1) := by decide +kernel
theorem dX1_codeOf_0 : decode cX1_codeOf 0 = .ok (.sipush 1000, 3) := by decide +kernel
theorem dX1_codeOf_3 : decode cX1_codeOf 3 = .ok (.lload_n 0, 1) := by decide +kernel
theorem dX1_codeOf_4 : decode cX1_codeOf 4 = .ok (.l2i, 1) := by decide +kernel
theorem dX1_codeOf_5 : decode cX1_codeOf 5 = .ok (.imul, 1) := by decide +kernel
theorem dX1_codeOf_6 : decode cX1_codeOf 6 = .ok (.lload_n 2, 1) := by decide +kernel
theorem dX1_codeOf_7 : decode cX1_codeOf 7 = .ok (.l2i, 1) := by decide +kernel
theorem dX1_codeOf_8 : decode cX1_codeOf 8 = .ok (.iadd, 1) := by decide +kernel
theorem dX1_codeOf_9 : decode cX1_codeOf 9 = .ok (.ireturn, 1) := by decide +kernel
theorem dX2_init_0 : decode cX2_init 0 = .ok (.aload_n 0, 1) := by decide +kernel
theorem dX2_init_1 : decode cX2_init 1 = .ok (.invokespecial 1, 3) := by decide +kernel
theorem dX2_init_4 : decode cX2_init 4 = .ok (.aload_n 0, 1) := by decide +kernel
theorem dX2_init_5 : decode cX2_init 5 = .ok (.iload_n 1, 1) := by decide +kernel
theorem dX2_init_6 : decode cX2_init 6 = .ok (.putfield 7, 3) := by decide +kernel
theorem dX2_init_9 : decode cX2_init 9 = .ok (.aload_n 0, 1) := by decide +kernel
theorem dX2_init_10 : decode cX2_init 10 = .ok (.iload_n 2, 1) := by decide +kernel
theorem dX2_init_11 : decode cX2_init 11 = .ok (.iconst 0, 1) := by decide +kernel
theorem dX2_init_12 : decode cX2_init 12 = .ok (.invokestatic 13, 3) := by decide +kernel
theorem dX2_init_15 : decode cX2_init 15 = .ok (.newarray .int, 2) := by decide +kernel
theorem dX2_init_17 : decode cX2_init 17 = .ok (.putfield 19, 3) := by decide +kernel
theorem dX2_init_20 : decode cX2_init 20 = .ok (.return_, 1) := by decide +kernel
theorem dX2_size_0 : decode cX2_size 0 = .ok (.aload_n 0, 1) := by decide +kernel
theorem dX2_size_1 : decode cX2_size 1 = .ok (.getfield 19, 3) := by decide +kernel
theorem dX2_size_4 : decode cX2_size 4 = .ok (.arraylength, 1) := by decide +kernel
theorem dX2_size_5 : decode cX2_size 5 = .ok (.ireturn, 1) := by decide +kernel
theorem dX2_has_0 : decode cX2_has 0 = .ok (.iload_n 1, 1) := by decide +kernel
theorem dX2_has_1 : decode cX2_has 1 = .ok (.ifCond .lt 16, 3) := by decide +kernel
theorem dX2_has_4 : decode cX2_has 4 = .ok (.iload_n 1, 1) := by decide +kernel
theorem dX2_has_5 : decode cX2_has 5 = .ok (.aload_n 0, 1) := by decide +kernel
theorem dX2_has_6 : decode cX2_has 6 = .ok (.getfield 19, 3) := by decide +kernel
theorem dX2_has_9 : decode cX2_has 9 = .ok (.arraylength, 1) := by decide +kernel
theorem dX2_has_10 : decode cX2_has 10 = .ok (.if_icmp .ge 7, 3) := by decide +kernel
theorem dX2_has_13 : decode cX2_has 13 = .ok (.iconst 1, 1) := by decide +kernel
theorem dX2_has_14 : decode cX2_has 14 = .ok (.goto 4, 3) := by decide +kernel
theorem dX2_has_17 : decode cX2_has 17 = .ok (.iconst 0, 1) := by decide +kernel
theorem dX2_has_18 : decode cX2_has 18 = .ok (.ireturn, 1) := by decide +kernel
set_option maxRecDepth 20000 in
theorem ggX2_read_X2_has : GoodIn wsX2_read wsX2_has := goodIn_r _ [6, 1, 7, 8] (by decide +kernel) (by decide +kernel)
set_option maxRecDepth 20000 in
theorem gX2_read_X2_has : GoodIn wsX2_read (wsV RX2 23 RX2 yX2_has wsX2_has) := goodIn_app (goodIn_of _ (by decide +kernel)) ggX2_read_X2_has
theorem dX2_read_0 : decode cX2_read 0 = .ok (.aload_n 0, 1) := by decide +kernel
theorem dX2_read_1 : decode cX2_read 1 = .ok (.iload_n 1, 1) := by decide +kernel
theorem dX2_read_2 : decode cX2_read 2 = .ok (.invokevirtual 23, 3) := by decide +kernel
theorem dX2_read_5 : decode cX2_read 5 = .ok (.ifCond .eq 12, 3) := by decide +kernel
theorem dX2_read_8 : decode cX2_read 8 = .ok (.aload_n 0, 1) := by decide +kernel
theorem dX2_read_9 : decode cX2_read 9 = .ok (.getfield 19, 3) := by decide +kernel
theorem dX2_read_12 : decode cX2_read 12 = .ok (.iload_n 1, 1) := by decide +kernel
theorem dX2_read_13 : decode cX2_read 13 = .ok (.iaload, 1) := by decide +kernel
theorem dX2_read_14 : decode cX2_read 14 = .ok (.goto 4, 3) := by decide +kernel
theorem dX2_read_17 : decode cX2_read 17 = .ok (.iconst 0, 1) := by decide +kernel
theorem dX2_read_18 : decode cX2_read 18 = .ok (.ireturn, 1) := by decide +kernel
set_option maxRecDepth 20000 in
theorem ggX2_write_X2_has : GoodIn wsX2_write wsX2_has := goodIn_r _ [6, 1, 12, 13] (by decide +kernel) (by decide +kernel)
set_option maxRecDepth 20000 in
theorem gX2_write_X2_has : GoodIn wsX2_write (wsV RX2 23 RX2 yX2_has wsX2_has) := goodIn_app (goodIn_of _ (by decide +kernel)) ggX2_write_X2_has
set_option maxRecDepth 20000 in
theorem ggX2_write_X2_cut : GoodIn wsX2_write wsX2_cut := goodIn_r _ [10, 11, 12, 13] (by decide +kernel) (by decide +kernel)
set_option maxRecDepth 20000 in
theorem gX2_write_X2_cut : GoodIn wsX2_write (wsV RX2 27 RX2 yX2_cut wsX2_cut) := goodIn_app (goodIn_of _ (by decide +kernel)) ggX2_write_X2_cut
theorem dX2_write_0 : decode cX2_write 0 = .ok (.aload_n 0, 1) := by decide +kernel
theorem dX2_write_1 : decode cX2_write 1 = .ok (.iload_n 1, 1) := by decide +kernel
theorem dX2_write_2 : decode cX2_write 2 = .ok (.invokevirtual 23, 3) := by decide +kernel
theorem dX2_write_5 : decode cX2_write 5 = .ok (.ifCond .eq 14, 3) := by decide +kernel
theorem dX2_write_8 : decode cX2_write 8 = .ok (.aload_n 0, 1) := by decide +kernel
theorem dX2_write_9 : decode cX2_write 9 = .ok (.getfield 19, 3) := by decide +kernel
theorem dX2_write_12 : decode cX2_write 12 = .ok (.iload_n 1, 1) := by decide +kernel
theorem dX2_write_13 : decode cX2_write 13 = .ok (.aload_n 0, 1) := by decide +kernel
theorem dX2_write_14 : decode cX2_write 14 = .ok (.iload_n 2, 1) := by decide +kernel
theorem dX2_write_15 : decode cX2_write 15 = .ok (.invokevirtual 27, 3) := by decide +kernel
theorem dX2_write_18 : decode cX2_write 18 = .ok (.iastore, 1) := by decide +kernel
theorem dX2_write_19 : decode cX2_write 19 = .ok (.return_, 1) := by decide +kernel
theorem dX2_cut_0 : decode cX2_cut 0 = .ok (.aload_n 0, 1) := by decide +kernel
theorem dX2_cut_1 : decode cX2_cut 1 = .ok (.getfield 7, 3) := by decide +kernel
theorem dX2_cut_4 : decode cX2_cut 4 = .ok (.ifCond .ne 6, 3) := by decide +kernel
theorem dX2_cut_7 : decode cX2_cut 7 = .ok (.iload_n 1, 1) := by decide +kernel
theorem dX2_cut_8 : decode cX2_cut 8 = .ok (.i2b, 1) := by decide +kernel
theorem dX2_cut_9 : decode cX2_cut 9 = .ok (.ireturn, 1) := by decide +kernel
theorem dX2_cut_10 : decode cX2_cut 10 = .ok (.aload_n 0, 1) := by decide +kernel
theorem dX2_cut_11 : decode cX2_cut 11 = .ok (.getfield 7, 3) := by decide +kernel
theorem dX2_cut_14 : decode cX2_cut 14 = .ok (.iconst 1, 1) := by decide +kernel
theorem dX2_cut_15 : decode cX2_cut 15 = .ok (.if_icmp .ne 8, 3) := by decide +kernel
theorem dX2_cut_18 : decode cX2_cut 18 = .ok (.iload_n 1, 1) := by decide +kernel
theorem dX2_cut_19 : decode cX2_cut 19 = .ok (.i2s, 1) := by decide +kernel
theorem dX2_cut_20 : decode cX2_cut 20 = .ok (.goto 4, 3) := by decide +kernel
theorem dX2_cut_23 : decode cX2_cut 23 = .ok (.iload_n 1, 1) := by decide +kernel
theorem dX2_cut_24 : decode cX2_cut 24 = .ok (.ireturn, 1) := by decide +kernel
theorem dX3_mask_0 : decode cX3_mask 0 = .ok (.lconst 1, 1) := by decide +kernel
theorem dX3_mask_1 : decode cX3_mask 1 = .ok (.iload_n 0, 1) := by decide +kernel
theorem dX3_mask_2 : decode cX3_mask 2 = .ok (.lshl, 1) := by decide +kernel
theorem dX3_mask_3 : decode cX3_mask 3 = .ok (.lconst 1, 1) := by decide +kernel
theorem dX3_mask_4 : decode cX3_mask 4 = .ok (.lsub, 1) := by decide +kernel
theorem dX3_mask_5 : decode cX3_mask 5 = .ok (.lreturn, 1) := by decide +kernel
theorem dX3_sign_0 : decode cX3_sign 0 = .ok (.lload_n 0, 1) := by decide +kernel
theorem dX3_sign_1 : decode cX3_sign 1 = .ok (.iload_n 2, 1) := by decide +kernel
theorem dX3_sign_2 : decode cX3_sign 2 = .ok (.lushr, 1) := by decide +kernel
theorem dX3_sign_3 : decode cX3_sign 3 = .ok (.lconst 1, 1) := by decide +kernel
theorem dX3_sign_4 : decode cX3_sign 4 = .ok (.land, 1) := by decide +kernel
theorem dX3_sign_5 : decode cX3_sign 5 = .ok (.lconst 0, 1) := by decide +kernel
theorem dX3_sign_6 : decode cX3_sign 6 = .ok (.lcmp, 1) := by decide +kernel
theorem dX3_sign_7 : decode cX3_sign 7 = .ok (.ifCond .ne 7, 3) := by decide +kernel
theorem dX3_sign_10 : decode cX3_sign 10 = .ok (.iconst 1, 1) := by decide +kernel
theorem dX3_sign_11 : decode cX3_sign 11 = .ok (.goto 4, 3) := by decide +kernel
theorem dX3_sign_14 : decode cX3_sign 14 = .ok (.iconst (-1), 1) := by decide +kernel
theorem dX3_sign_15 : decode cX3_sign 15 = .ok (.ireturn, 1) := by decide +kernel
set_option maxRecDepth 20000 in
theorem ggX3_openSum_X3_mask : GoodIn wsX3_openSum wsX3_mask := goodIn_r _ [4] (by decide +kernel) (by decide +kernel)
set_option maxRecDepth 20000 in
theorem gX3_openSum_X3_mask : GoodIn wsX3_openSum (va_wsS RX3 7 yX3_mask wsX3_mask) := goodIn_app (goodIn_of _ (by decide +kernel)) ggX3_openSum_X3_mask
set_option maxRecDepth 20000 in
theorem ggX3_openSum_J13_bitCount_95d88 : GoodIn wsX3_openSum wsJ13_bitCount_95d88 := goodIn_r _ [8, 9, 10, 11] (by decide +kernel) (by decide +kernel)
set_option maxRecDepth 20000 in
theorem gX3_openSum_J13_bitCount_95d88 : GoodIn wsX3_openSum (va_wsS RX3 13 yJ13_bitCount_95d88 wsJ13_bitCount_95d88) := goodIn_app (goodIn_of _ (by decide +kernel)) ggX3_openSum_J13_bitCount_95d88
theorem dX3_openSum_0 : decode cX3_openSum 0 = .ok (.iload_n 2, 1) := by decide +kernel
theorem dX3_openSum_1 : decode cX3_openSum 1 = .ok (.iload_n 3, 1) := by decide +kernel
theorem dX3_openSum_2 : decode cX3_openSum 2 = .ok (.isub, 1) := by decide +kernel
theorem dX3_openSum_3 : decode cX3_openSum 3 = .ok (.istore 4, 2) := by decide +kernel
theorem dX3_openSum_5 : decode cX3_openSum 5 = .ok (.iload 4, 2) := by decide +kernel
theorem dX3_openSum_7 : decode cX3_openSum 7 = .ok (.iconst 2, 1) := by decide +kernel
theorem dX3_openSum_8 : decode cX3_openSum 8 = .ok (.lload_n 0, 1) := by decide +kernel
theorem dX3_openSum_9 : decode cX3_openSum 9 = .ok (.lload_n 0, 1) := by decide +kernel
theorem dX3_openSum_10 : decode cX3_openSum 10 = .ok (.iload_n 3, 1) := by decide +kernel
theorem dX3_openSum_11 : decode cX3_openSum 11 = .ok (.lushr, 1) := by decide +kernel
theorem dX3_openSum_12 : decode cX3_openSum 12 = .ok (.lxor, 1) := by decide +kernel
theorem dX3_openSum_13 : decode cX3_openSum 13 = .ok (.iload 4, 2) := by decide +kernel
theorem dX3_openSum_15 : decode cX3_openSum 15 = .ok (.invokestatic 7, 3) := by decide +kernel
theorem dX3_openSum_18 : decode cX3_openSum 18 = .ok (.land, 1) := by decide +kernel
theorem dX3_openSum_19 : decode cX3_openSum 19 = .ok (.invokestatic 13, 3) := by decide +kernel
theorem dX3_openSum_22 : decode cX3_openSum 22 = .ok (.imul, 1) := by decide +kernel
theorem dX3_openSum_23 : decode cX3_openSum 23 = .ok (.isub, 1) := by decide +kernel
theorem dX3_openSum_24 : decode cX3_openSum 24 = .ok (.ireturn, 1) := by decide +kernel
set_option maxRecDepth 20000 in
theorem ggX3_roundSum_X3_mask : GoodIn wsX3_roundSum wsX3_mask := goodIn_r _ [4] (by decide +kernel) (by decide +kernel)
set_option maxRecDepth 20000 in
theorem gX3_roundSum_X3_mask : GoodIn wsX3_roundSum (va_wsS RX3 7 yX3_mask wsX3_mask) := goodIn_app (goodIn_of _ (by decide +kernel)) ggX3_roundSum_X3_mask
set_option maxRecDepth 20000 in
theorem ggX3_roundSum_J13_bitCount_95d88 : GoodIn wsX3_roundSum wsJ13_bitCount_95d88 := goodIn_r _ [8, 9, 10, 11] (by decide +kernel) (by decide +kernel)
set_option maxRecDepth 20000 in
theorem gX3_roundSum_J13_bitCount_95d88 : GoodIn wsX3_roundSum (va_wsS RX3 13 yJ13_bitCount_95d88 wsJ13_bitCount_95d88) := goodIn_app (goodIn_of _ (by decide +kernel)) ggX3_roundSum_J13_bitCount_95d88
theorem dX3_roundSum_0 : decode cX3_roundSum 0 = .ok (.lload_n 0, 1) := by decide +kernel
theorem dX3_roundSum_1 : decode cX3_roundSum 1 = .ok (.iload_n 3, 1) := by decide +kernel
theorem dX3_roundSum_2 : decode cX3_roundSum 2 = .ok (.lushr, 1) := by decide +kernel
theorem dX3_roundSum_3 : decode cX3_roundSum 3 = .ok (.lload_n 0, 1) := by decide +kernel
theorem dX3_roundSum_4 : decode cX3_roundSum 4 = .ok (.iload_n 2, 1) := by decide +kernel
theorem dX3_roundSum_5 : decode cX3_roundSum 5 = .ok (.iload_n 3, 1) := by decide +kernel
theorem dX3_roundSum_6 : decode cX3_roundSum 6 = .ok (.isub, 1) := by decide +kernel
theorem dX3_roundSum_7 : decode cX3_roundSum 7 = .ok (.lshl, 1) := by decide +kernel
theorem dX3_roundSum_8 : decode cX3_roundSum 8 = .ok (.lor, 1) := by decide +kernel
theorem dX3_roundSum_9 : decode cX3_roundSum 9 = .ok (.iload_n 2, 1) := by decide +kernel
theorem dX3_roundSum_10 : decode cX3_roundSum 10 = .ok (.invokestatic 7, 3) := by decide +kernel
theorem dX3_roundSum_13 : decode cX3_roundSum 13 = .ok (.land, 1) := by decide +kernel
theorem dX3_roundSum_14 : decode cX3_roundSum 14 = .ok (.lstore 4, 2) := by decide +kernel
theorem dX3_roundSum_16 : decode cX3_roundSum 16 = .ok (.iload_n 2, 1) := by decide +kernel
theorem dX3_roundSum_17 : decode cX3_roundSum 17 = .ok (.iconst 2, 1) := by decide +kernel
theorem dX3_roundSum_18 : decode cX3_roundSum 18 = .ok (.lload_n 0, 1) := by decide +kernel
theorem dX3_roundSum_19 : decode cX3_roundSum 19 = .ok (.lload 4, 2) := by decide +kernel
theorem dX3_roundSum_21 : decode cX3_roundSum 21 = .ok (.lxor, 1) := by decide +kernel
theorem dX3_roundSum_22 : decode cX3_roundSum 22 = .ok (.invokestatic 13, 3) := by decide +kernel
theorem dX3_roundSum_25 : decode cX3_roundSum 25 = .ok (.imul, 1) := by decide +kernel
theorem dX3_roundSum_26 : decode cX3_roundSum 26 = .ok (.isub, 1) := by decide +kernel
theorem dX3_roundSum_27 : decode cX3_roundSum 27 = .ok (.ireturn, 1) := by decide +kernel
set_option maxRecDepth 20000 in
theorem ggX3_peak_X3_openSum : GoodIn wsX3_peak wsX3_openSum := goodIn_r _ [11, 12, 13, 10, 14, 15, 16, 17, 18, 19, 20, 21] (by decide +kernel) (by decide +kernel)
set_option maxRecDepth 20000 in
theorem gX3_peak_X3_openSum : GoodIn wsX3_peak (va_wsS RX3 19 yX3_openSum wsX3_openSum) := goodIn_app (goodIn_of _ (by decide +kernel)) ggX3_peak_X3_openSum
theorem dX3_peak_0 : decode cX3_peak 0 = .ok (.iconst 0, 1) := by decide +kernel
theorem dX3_peak_1 : decode cX3_peak 1 = .ok (.istore_n 3, 1) := by decide +kernel
theorem dX3_peak_2 : decode cX3_peak 2 = .ok (.iconst 1, 1) := by decide +kernel
theorem dX3_peak_3 : decode cX3_peak 3 = .ok (.istore 4, 2) := by decide +kernel
theorem dX3_peak_5 : decode cX3_peak 5 = .ok (.iload 4, 2) := by decide +kernel
theorem dX3_peak_7 : decode cX3_peak 7 = .ok (.iload_n 2, 1) := by decide +kernel
theorem dX3_peak_8 : decode cX3_peak 8 = .ok (.if_icmp .ge 24, 3) := by decide +kernel
theorem dX3_peak_11 : decode cX3_peak 11 = .ok (.iload_n 3, 1) := by decide +kernel
theorem dX3_peak_12 : decode cX3_peak 12 = .ok (.lload_n 0, 1) := by decide +kernel
theorem dX3_peak_13 : decode cX3_peak 13 = .ok (.iload_n 2, 1) := by decide +kernel
theorem dX3_peak_14 : decode cX3_peak 14 = .ok (.iload 4, 2) := by decide +kernel
theorem dX3_peak_16 : decode cX3_peak 16 = .ok (.invokestatic 19, 3) := by decide +kernel
theorem dX3_peak_19 : decode cX3_peak 19 = .ok (.invokestatic 23, 3) := by decide +kernel
theorem dX3_peak_22 : decode cX3_peak 22 = .ok (.invokestatic 29, 3) := by decide +kernel
theorem dX3_peak_25 : decode cX3_peak 25 = .ok (.istore_n 3, 1) := by decide +kernel
theorem dX3_peak_26 : decode cX3_peak 26 = .ok (.iinc 4 1, 3) := by decide +kernel
theorem dX3_peak_29 : decode cX3_peak 29 = .ok (.goto (-24), 3) := by decide +kernel
theorem dX3_peak_32 : decode cX3_peak 32 = .ok (.iload_n 3, 1) := by decide +kernel
theorem dX3_peak_33 : decode cX3_peak 33 = .ok (.ireturn, 1) := by decide +kernel
set_option maxRecDepth 20000 in
theorem ggX3_energy_X3_openSum : GoodIn wsX3_energy wsX3_openSum := goodIn_r _ [4, 5, 6, 3, 7, 8, 9, 10, 11, 12, 13, 14] (by decide +kernel) (by decide +kernel)
set_option maxRecDepth 20000 in
theorem gX3_energy_X3_openSum : GoodIn wsX3_energy (va_wsS RX3 19 yX3_openSum wsX3_openSum) := goodIn_app (goodIn_of _ (by decide +kernel)) ggX3_energy_X3_openSum
theorem dX3_energy_0 : decode cX3_energy 0 = .ok (.iconst 0, 1) := by decide +kernel
theorem dX3_energy_1 : decode cX3_energy 1 = .ok (.istore_n 3, 1) := by decide +kernel
theorem dX3_energy_2 : decode cX3_energy 2 = .ok (.iconst 1, 1) := by decide +kernel
theorem dX3_energy_3 : decode cX3_energy 3 = .ok (.istore 4, 2) := by decide +kernel
theorem dX3_energy_5 : decode cX3_energy 5 = .ok (.iload 4, 2) := by decide +kernel
theorem dX3_energy_7 : decode cX3_energy 7 = .ok (.iload_n 2, 1) := by decide +kernel
theorem dX3_energy_8 : decode cX3_energy 8 = .ok (.if_icmp .ge 26, 3) := by decide +kernel
theorem dX3_energy_11 : decode cX3_energy 11 = .ok (.lload_n 0, 1) := by decide +kernel
theorem dX3_energy_12 : decode cX3_energy 12 = .ok (.iload_n 2, 1) := by decide +kernel
theorem dX3_energy_13 : decode cX3_energy 13 = .ok (.iload 4, 2) := by decide +kernel
theorem dX3_energy_15 : decode cX3_energy 15 = .ok (.invokestatic 19, 3) := by decide +kernel
theorem dX3_energy_18 : decode cX3_energy 18 = .ok (.istore 5, 2) := by decide +kernel
theorem dX3_energy_20 : decode cX3_energy 20 = .ok (.iload_n 3, 1) := by decide +kernel
theorem dX3_energy_21 : decode cX3_energy 21 = .ok (.iload 5, 2) := by decide +kernel
theorem dX3_energy_23 : decode cX3_energy 23 = .ok (.iload 5, 2) := by decide +kernel
theorem dX3_energy_25 : decode cX3_energy 25 = .ok (.imul, 1) := by decide +kernel
theorem dX3_energy_26 : decode cX3_energy 26 = .ok (.iadd, 1) := by decide +kernel
theorem dX3_energy_27 : decode cX3_energy 27 = .ok (.istore_n 3, 1) := by decide +kernel
theorem dX3_energy_28 : decode cX3_energy 28 = .ok (.iinc 4 1, 3) := by decide +kernel
theorem dX3_energy_31 : decode cX3_energy 31 = .ok (.goto (-26), 3) := by decide +kernel
theorem dX3_energy_34 : decode cX3_energy 34 = .ok (.iload_n 3, 1) := by decide +kernel
theorem dX3_energy_35 : decode cX3_energy 35 = .ok (.ireturn, 1) := by decide +kernel
set_option maxRecDepth 20000 in
theorem ggX3_total_J13_bitCount_95d88 : GoodIn wsX3_total wsJ13_bitCount_95d88 := goodIn_r _ [4, 5, 6, 7] (by decide +kernel) (by decide +kernel)
set_option maxRecDepth 20000 in
theorem gX3_total_J13_bitCount_95d88 : GoodIn wsX3_total (va_wsS RX3 13 yJ13_bitCount_95d88 wsJ13_bitCount_95d88) := goodIn_app (goodIn_of _ (by decide +kernel)) ggX3_total_J13_bitCount_95d88
theorem dX3_total_0 : decode cX3_total 0 = .ok (.iload_n 2, 1) := by decide +kernel
theorem dX3_total_1 : decode cX3_total 1 = .ok (.iconst 2, 1) := by decide +kernel
theorem dX3_total_2 : decode cX3_total 2 = .ok (.lload_n 0, 1) := by decide +kernel
theorem dX3_total_3 : decode cX3_total 3 = .ok (.invokestatic 13, 3) := by decide +kernel
theorem dX3_total_6 : decode cX3_total 6 = .ok (.imul, 1) := by decide +kernel
theorem dX3_total_7 : decode cX3_total 7 = .ok (.isub, 1) := by decide +kernel
theorem dX3_total_8 : decode cX3_total 8 = .ok (.ireturn, 1) := by decide +kernel
set_option maxRecDepth 20000 in
theorem ggX3_changes_X3_mask : GoodIn wsX3_changes wsX3_mask := goodIn_r _ [4] (by decide +kernel) (by decide +kernel)
set_option maxRecDepth 20000 in
theorem gX3_changes_X3_mask : GoodIn wsX3_changes (va_wsS RX3 7 yX3_mask wsX3_mask) := goodIn_app (goodIn_of _ (by decide +kernel)) ggX3_changes_X3_mask
set_option maxRecDepth 20000 in
theorem ggX3_changes_J13_bitCount_95d88 : GoodIn wsX3_changes wsJ13_bitCount_95d88 := goodIn_r _ [8, 9, 10, 11] (by decide +kernel) (by decide +kernel)
set_option maxRecDepth 20000 in
theorem gX3_changes_J13_bitCount_95d88 : GoodIn wsX3_changes (va_wsS RX3 13 yJ13_bitCount_95d88 wsJ13_bitCount_95d88) := goodIn_app (goodIn_of _ (by decide +kernel)) ggX3_changes_J13_bitCount_95d88
theorem dX3_changes_0 : decode cX3_changes 0 = .ok (.lload_n 0, 1) := by decide +kernel
theorem dX3_changes_1 : decode cX3_changes 1 = .ok (.lload_n 0, 1) := by decide +kernel
theorem dX3_changes_2 : decode cX3_changes 2 = .ok (.iconst 1, 1) := by decide +kernel
theorem dX3_changes_3 : decode cX3_changes 3 = .ok (.lushr, 1) := by decide +kernel
theorem dX3_changes_4 : decode cX3_changes 4 = .ok (.lxor, 1) := by decide +kernel
theorem dX3_changes_5 : decode cX3_changes 5 = .ok (.iload_n 2, 1) := by decide +kernel
theorem dX3_changes_6 : decode cX3_changes 6 = .ok (.iconst 1, 1) := by decide +kernel
theorem dX3_changes_7 : decode cX3_changes 7 = .ok (.isub, 1) := by decide +kernel
theorem dX3_changes_8 : decode cX3_changes 8 = .ok (.invokestatic 7, 3) := by decide +kernel
theorem dX3_changes_11 : decode cX3_changes 11 = .ok (.land, 1) := by decide +kernel
theorem dX3_changes_12 : decode cX3_changes 12 = .ok (.invokestatic 13, 3) := by decide +kernel
theorem dX3_changes_15 : decode cX3_changes 15 = .ok (.ireturn, 1) := by decide +kernel
set_option maxRecDepth 20000 in
theorem ggX3_firstLeftOpen_X3_openSum : GoodIn wsX3_firstLeftOpen wsX3_openSum := goodIn_r _ [4, 5, 6, 3, 7, 8, 9, 10, 11, 12, 13, 14] (by decide +kernel) (by decide +kernel)
set_option maxRecDepth 20000 in
theorem gX3_firstLeftOpen_X3_openSum : GoodIn wsX3_firstLeftOpen (va_wsS RX3 19 yX3_openSum wsX3_openSum) := goodIn_app (goodIn_of _ (by decide +kernel)) ggX3_firstLeftOpen_X3_openSum
theorem dX3_firstLeftOpen_0 : decode cX3_firstLeftOpen 0 = .ok (.iconst 1, 1) := by decide +kernel
theorem dX3_firstLeftOpen_1 : decode cX3_firstLeftOpen 1 = .ok (.istore 5, 2) := by decide +kernel
theorem dX3_firstLeftOpen_3 : decode cX3_firstLeftOpen 3 = .ok (.iload 5, 2) := by decide +kernel
theorem dX3_firstLeftOpen_5 : decode cX3_firstLeftOpen 5 = .ok (.iload 4, 2) := by decide +kernel
theorem dX3_firstLeftOpen_7 : decode cX3_firstLeftOpen 7 = .ok (.if_icmp .ge 32, 3) := by decide +kernel
theorem dX3_firstLeftOpen_10 : decode cX3_firstLeftOpen 10 = .ok (.lload_n 0, 1) := by decide +kernel
theorem dX3_firstLeftOpen_11 : decode cX3_firstLeftOpen 11 = .ok (.iload 4, 2) := by decide +kernel
theorem dX3_firstLeftOpen_13 : decode cX3_firstLeftOpen 13 = .ok (.iload 5, 2) := by decide +kernel
theorem dX3_firstLeftOpen_15 : decode cX3_firstLeftOpen 15 = .ok (.invokestatic 19, 3) := by decide +kernel
theorem dX3_firstLeftOpen_18 : decode cX3_firstLeftOpen 18 = .ok (.lload_n 2, 1) := by decide +kernel
theorem dX3_firstLeftOpen_19 : decode cX3_firstLeftOpen 19 = .ok (.iload 4, 2) := by decide +kernel
theorem dX3_firstLeftOpen_21 : decode cX3_firstLeftOpen 21 = .ok (.iload 5, 2) := by decide +kernel
theorem dX3_firstLeftOpen_23 : decode cX3_firstLeftOpen 23 = .ok (.invokestatic 19, 3) := by decide +kernel
theorem dX3_firstLeftOpen_26 : decode cX3_firstLeftOpen 26 = .ok (.iadd, 1) := by decide +kernel
theorem dX3_firstLeftOpen_27 : decode cX3_firstLeftOpen 27 = .ok (.ifCond .eq 6, 3) := by decide +kernel
theorem dX3_firstLeftOpen_30 : decode cX3_firstLeftOpen 30 = .ok (.iload 5, 2) := by decide +kernel
theorem dX3_firstLeftOpen_32 : decode cX3_firstLeftOpen 32 = .ok (.ireturn, 1) := by decide +kernel
theorem dX3_firstLeftOpen_33 : decode cX3_firstLeftOpen 33 = .ok (.iinc 5 1, 3) := by decide +kernel
theorem dX3_firstLeftOpen_36 : decode cX3_firstLeftOpen 36 = .ok (.goto (-33), 3) := by decide +kernel
theorem dX3_firstLeftOpen_39 : decode cX3_firstLeftOpen 39 = .ok (.iconst 0, 1) := by decide +kernel
theorem dX3_firstLeftOpen_40 : decode cX3_firstLeftOpen 40 = .ok (.ireturn, 1) := by decide +kernel
theorem dX3_reversed_0 : decode cX3_reversed 0 = .ok (.lconst 0, 1) := by decide +kernel
theorem dX3_reversed_1 : decode cX3_reversed 1 = .ok (.lstore_n 3, 1) := by decide +kernel
theorem dX3_reversed_2 : decode cX3_reversed 2 = .ok (.iconst 0, 1) := by decide +kernel
theorem dX3_reversed_3 : decode cX3_reversed 3 = .ok (.istore 5, 2) := by decide +kernel
theorem dX3_reversed_5 : decode cX3_reversed 5 = .ok (.iload 5, 2) := by decide +kernel
theorem dX3_reversed_7 : decode cX3_reversed 7 = .ok (.iload_n 2, 1) := by decide +kernel
theorem dX3_reversed_8 : decode cX3_reversed 8 = .ok (.if_icmp .ge 20, 3) := by decide +kernel
theorem dX3_reversed_11 : decode cX3_reversed 11 = .ok (.lload_n 3, 1) := by decide +kernel
theorem dX3_reversed_12 : decode cX3_reversed 12 = .ok (.iconst 1, 1) := by decide +kernel
theorem dX3_reversed_13 : decode cX3_reversed 13 = .ok (.lshl, 1) := by decide +kernel
theorem dX3_reversed_14 : decode cX3_reversed 14 = .ok (.lload_n 0, 1) := by decide +kernel
theorem dX3_reversed_15 : decode cX3_reversed 15 = .ok (.iload 5, 2) := by decide +kernel
theorem dX3_reversed_17 : decode cX3_reversed 17 = .ok (.lushr, 1) := by decide +kernel
theorem dX3_reversed_18 : decode cX3_reversed 18 = .ok (.lconst 1, 1) := by decide +kernel
theorem dX3_reversed_19 : decode cX3_reversed 19 = .ok (.land, 1) := by decide +kernel
theorem dX3_reversed_20 : decode cX3_reversed 20 = .ok (.lor, 1) := by decide +kernel
theorem dX3_reversed_21 : decode cX3_reversed 21 = .ok (.lstore_n 3, 1) := by decide +kernel
theorem dX3_reversed_22 : decode cX3_reversed 22 = .ok (.iinc 5 1, 3) := by decide +kernel
theorem dX3_reversed_25 : decode cX3_reversed 25 = .ok (.goto (-20), 3) := by decide +kernel
theorem dX3_reversed_28 : decode cX3_reversed 28 = .ok (.lload_n 3, 1) := by decide +kernel
theorem dX3_reversed_29 : decode cX3_reversed 29 = .ok (.lreturn, 1) := by decide +kernel
set_option maxRecDepth 20000 in
theorem ggX3_opposite_X3_mask : GoodIn wsX3_opposite wsX3_mask := goodIn_r _ [4] (by decide +kernel) (by decide +kernel)
set_option maxRecDepth 20000 in
theorem gX3_opposite_X3_mask : GoodIn wsX3_opposite (va_wsS RX3 7 yX3_mask wsX3_mask) := goodIn_app (goodIn_of _ (by decide +kernel)) ggX3_opposite_X3_mask
theorem dX3_opposite_0 : decode cX3_opposite 0 = .ok (.lload_n 0, 1) := by decide +kernel
theorem dX3_opposite_1 : decode cX3_opposite 1 = .ok (.iload_n 2, 1) := by decide +kernel
theorem dX3_opposite_2 : decode cX3_opposite 2 = .ok (.invokestatic 7, 3) := by decide +kernel
theorem dX3_opposite_5 : decode cX3_opposite 5 = .ok (.lxor, 1) := by decide +kernel
theorem dX3_opposite_6 : decode cX3_opposite 6 = .ok (.lreturn, 1) := by decide +kernel
set_option maxRecDepth 20000 in
theorem ggX3_turned_X3_reversed : GoodIn wsX3_turned wsX3_reversed := goodIn_r _ [5] (by decide +kernel) (by decide +kernel)
set_option maxRecDepth 20000 in
theorem gX3_turned_X3_reversed : GoodIn wsX3_turned (va_wsS RX3 33 yX3_reversed wsX3_reversed) := goodIn_app (goodIn_of _ (by decide +kernel)) ggX3_turned_X3_reversed
set_option maxRecDepth 20000 in
theorem ggX3_turned_X3_opposite : GoodIn wsX3_turned wsX3_opposite := goodIn_r _ [8, 9, 10, 4, 11] (by decide +kernel) (by decide +kernel)
set_option maxRecDepth 20000 in
theorem gX3_turned_X3_opposite : GoodIn wsX3_turned (va_wsS RX3 37 yX3_opposite wsX3_opposite) := goodIn_app (goodIn_of _ (by decide +kernel)) ggX3_turned_X3_opposite
set_option maxRecDepth 20000 in
theorem ggX3_turned_X3_mask : GoodIn wsX3_turned wsX3_mask := goodIn_r _ [11] (by decide +kernel) (by decide +kernel)
set_option maxRecDepth 20000 in
theorem gX3_turned_X3_mask : GoodIn wsX3_turned (va_wsS RX3 7 yX3_mask wsX3_mask) := goodIn_app (goodIn_of _ (by decide +kernel)) ggX3_turned_X3_mask
theorem dX3_turned_0 : decode cX3_turned 0 = .ok (.iload_n 3, 1) := by decide +kernel
theorem dX3_turned_1 : decode cX3_turned 1 = .ok (.iconst 1, 1) := by decide +kernel
theorem dX3_turned_2 : decode cX3_turned 2 = .ok (.iand, 1) := by decide +kernel
theorem dX3_turned_3 : decode cX3_turned 3 = .ok (.ifCond .eq 11, 3) := by decide +kernel
theorem dX3_turned_6 : decode cX3_turned 6 = .ok (.lload_n 0, 1) := by decide +kernel
theorem dX3_turned_7 : decode cX3_turned 7 = .ok (.iload_n 2, 1) := by decide +kernel
theorem dX3_turned_8 : decode cX3_turned 8 = .ok (.invokestatic 33, 3) := by decide +kernel
theorem dX3_turned_11 : decode cX3_turned 11 = .ok (.goto 4, 3) := by decide +kernel
theorem dX3_turned_14 : decode cX3_turned 14 = .ok (.lload_n 0, 1) := by decide +kernel
theorem dX3_turned_15 : decode cX3_turned 15 = .ok (.lstore 4, 2) := by decide +kernel
theorem dX3_turned_17 : decode cX3_turned 17 = .ok (.iload_n 3, 1) := by decide +kernel
theorem dX3_turned_18 : decode cX3_turned 18 = .ok (.iconst 2, 1) := by decide +kernel
theorem dX3_turned_19 : decode cX3_turned 19 = .ok (.iand, 1) := by decide +kernel
theorem dX3_turned_20 : decode cX3_turned 20 = .ok (.ifCond .eq 12, 3) := by decide +kernel
theorem dX3_turned_23 : decode cX3_turned 23 = .ok (.lload 4, 2) := by decide +kernel
theorem dX3_turned_25 : decode cX3_turned 25 = .ok (.iload_n 2, 1) := by decide +kernel
theorem dX3_turned_26 : decode cX3_turned 26 = .ok (.invokestatic 37, 3) := by decide +kernel
theorem dX3_turned_29 : decode cX3_turned 29 = .ok (.goto 5, 3) := by decide +kernel
theorem dX3_turned_32 : decode cX3_turned 32 = .ok (.lload 4, 2) := by decide +kernel
theorem dX3_turned_34 : decode cX3_turned 34 = .ok (.lstore 4, 2) := by decide +kernel
theorem dX3_turned_36 : decode cX3_turned 36 = .ok (.iload_n 3, 1) := by decide +kernel
theorem dX3_turned_37 : decode cX3_turned 37 = .ok (.iconst 4, 1) := by decide +kernel
theorem dX3_turned_38 : decode cX3_turned 38 = .ok (.iand, 1) := by decide +kernel
theorem dX3_turned_39 : decode cX3_turned 39 = .ok (.ifCond .eq 17, 3) := by decide +kernel
theorem dX3_turned_42 : decode cX3_turned 42 = .ok (.lload 4, 2) := by decide +kernel
theorem dX3_turned_44 : decode cX3_turned 44 = .ok (.ldc2_w 40, 3) := by decide +kernel
theorem dX3_turned_47 : decode cX3_turned 47 = .ok (.iload_n 2, 1) := by decide +kernel
theorem dX3_turned_48 : decode cX3_turned 48 = .ok (.invokestatic 7, 3) := by decide +kernel
theorem dX3_turned_51 : decode cX3_turned 51 = .ok (.land, 1) := by decide +kernel
theorem dX3_turned_52 : decode cX3_turned 52 = .ok (.lxor, 1) := by decide +kernel
theorem dX3_turned_53 : decode cX3_turned 53 = .ok (.goto 5, 3) := by decide +kernel
theorem dX3_turned_56 : decode cX3_turned 56 = .ok (.lload 4, 2) := by decide +kernel
theorem dX3_turned_58 : decode cX3_turned 58 = .ok (.lreturn, 1) := by decide +kernel
set_option maxRecDepth 20000 in
theorem ggX3_leastTurned_X3_turned : GoodIn wsX3_leastTurned wsX3_turned := goodIn_r _ [8, 9, 10, 11, 7, 12, 13, 14, 15, 16, 17, 18] (by decide +kernel) (by decide +kernel)
set_option maxRecDepth 20000 in
theorem gX3_leastTurned_X3_turned : GoodIn wsX3_leastTurned (va_wsS RX3 42 yX3_turned wsX3_turned) := goodIn_app (goodIn_of _ (by decide +kernel)) ggX3_leastTurned_X3_turned
theorem dX3_leastTurned_0 : decode cX3_leastTurned 0 = .ok (.lload_n 0, 1) := by decide +kernel
theorem dX3_leastTurned_1 : decode cX3_leastTurned 1 = .ok (.lstore_n 3, 1) := by decide +kernel
theorem dX3_leastTurned_2 : decode cX3_leastTurned 2 = .ok (.iconst 1, 1) := by decide +kernel
theorem dX3_leastTurned_3 : decode cX3_leastTurned 3 = .ok (.istore 5, 2) := by decide +kernel
theorem dX3_leastTurned_5 : decode cX3_leastTurned 5 = .ok (.iload 5, 2) := by decide +kernel
theorem dX3_leastTurned_7 : decode cX3_leastTurned 7 = .ok (.bipush 8, 2) := by decide +kernel
theorem dX3_leastTurned_9 : decode cX3_leastTurned 9 = .ok (.if_icmp .ge 21, 3) := by decide +kernel
theorem dX3_leastTurned_12 : decode cX3_leastTurned 12 = .ok (.lload_n 3, 1) := by decide +kernel
theorem dX3_leastTurned_13 : decode cX3_leastTurned 13 = .ok (.lload_n 0, 1) := by decide +kernel
theorem dX3_leastTurned_14 : decode cX3_leastTurned 14 = .ok (.iload_n 2, 1) := by decide +kernel
theorem dX3_leastTurned_15 : decode cX3_leastTurned 15 = .ok (.iload 5, 2) := by decide +kernel
theorem dX3_leastTurned_17 : decode cX3_leastTurned 17 = .ok (.invokestatic 42, 3) := by decide +kernel
theorem dX3_leastTurned_20 : decode cX3_leastTurned 20 = .ok (.invokestatic 46, 3) := by decide +kernel
theorem dX3_leastTurned_23 : decode cX3_leastTurned 23 = .ok (.lstore_n 3, 1) := by decide +kernel
theorem dX3_leastTurned_24 : decode cX3_leastTurned 24 = .ok (.iinc 5 1, 3) := by decide +kernel
theorem dX3_leastTurned_27 : decode cX3_leastTurned 27 = .ok (.goto (-22), 3) := by decide +kernel
theorem dX3_leastTurned_30 : decode cX3_leastTurned 30 = .ok (.lload_n 3, 1) := by decide +kernel
theorem dX3_leastTurned_31 : decode cX3_leastTurned 31 = .ok (.lreturn, 1) := by decide +kernel
set_option maxRecDepth 20000 in
theorem ggX3_unlikeTurned_X3_isNewTurned : GoodIn wsX3_unlikeTurned wsX3_isNewTurned := goodIn_r _ [4, 5, 6, 3, 7, 8, 9, 10, 11, 12, 13, 14, 15, 16, 17] (by decide +kernel) (by decide +kernel)
set_option maxRecDepth 20000 in
theorem gX3_unlikeTurned_X3_isNewTurned : GoodIn wsX3_unlikeTurned (va_wsS RX3 50 yX3_isNewTurned wsX3_isNewTurned) := goodIn_app (goodIn_of _ (by decide +kernel)) ggX3_unlikeTurned_X3_isNewTurned
theorem dX3_unlikeTurned_0 : decode cX3_unlikeTurned 0 = .ok (.iconst 0, 1) := by decide +kernel
theorem dX3_unlikeTurned_1 : decode cX3_unlikeTurned 1 = .ok (.istore_n 3, 1) := by decide +kernel
theorem dX3_unlikeTurned_2 : decode cX3_unlikeTurned 2 = .ok (.iconst 0, 1) := by decide +kernel
theorem dX3_unlikeTurned_3 : decode cX3_unlikeTurned 3 = .ok (.istore 4, 2) := by decide +kernel
theorem dX3_unlikeTurned_5 : decode cX3_unlikeTurned 5 = .ok (.iload 4, 2) := by decide +kernel
theorem dX3_unlikeTurned_7 : decode cX3_unlikeTurned 7 = .ok (.bipush 8, 2) := by decide +kernel
theorem dX3_unlikeTurned_9 : decode cX3_unlikeTurned 9 = .ok (.if_icmp .ge 27, 3) := by decide +kernel
theorem dX3_unlikeTurned_12 : decode cX3_unlikeTurned 12 = .ok (.iload_n 3, 1) := by decide +kernel
theorem dX3_unlikeTurned_13 : decode cX3_unlikeTurned 13 = .ok (.lload_n 0, 1) := by decide +kernel
theorem dX3_unlikeTurned_14 : decode cX3_unlikeTurned 14 = .ok (.iload_n 2, 1) := by decide +kernel
theorem dX3_unlikeTurned_15 : decode cX3_unlikeTurned 15 = .ok (.iload 4, 2) := by decide +kernel
theorem dX3_unlikeTurned_17 : decode cX3_unlikeTurned 17 = .ok (.invokestatic 50, 3) := by decide +kernel
theorem dX3_unlikeTurned_20 : decode cX3_unlikeTurned 20 = .ok (.ifCond .eq 7, 3) := by decide +kernel
theorem dX3_unlikeTurned_23 : decode cX3_unlikeTurned 23 = .ok (.iconst 1, 1) := by decide +kernel
theorem dX3_unlikeTurned_24 : decode cX3_unlikeTurned 24 = .ok (.goto 4, 3) := by decide +kernel
theorem dX3_unlikeTurned_27 : decode cX3_unlikeTurned 27 = .ok (.iconst 0, 1) := by decide +kernel
theorem dX3_unlikeTurned_28 : decode cX3_unlikeTurned 28 = .ok (.iadd, 1) := by decide +kernel
theorem dX3_unlikeTurned_29 : decode cX3_unlikeTurned 29 = .ok (.istore_n 3, 1) := by decide +kernel
theorem dX3_unlikeTurned_30 : decode cX3_unlikeTurned 30 = .ok (.iinc 4 1, 3) := by decide +kernel
theorem dX3_unlikeTurned_33 : decode cX3_unlikeTurned 33 = .ok (.goto (-28), 3) := by decide +kernel
theorem dX3_unlikeTurned_36 : decode cX3_unlikeTurned 36 = .ok (.iload_n 3, 1) := by decide +kernel
theorem dX3_unlikeTurned_37 : decode cX3_unlikeTurned 37 = .ok (.ireturn, 1) := by decide +kernel
set_option maxRecDepth 20000 in
theorem ggX3_isNewTurned_X3_turned : GoodIn wsX3_isNewTurned wsX3_turned := goodIn_r _ [4, 5, 6, 7, 3, 8, 9, 10, 11, 12, 13, 14] (by decide +kernel) (by decide +kernel)
set_option maxRecDepth 20000 in
theorem gX3_isNewTurned_X3_turned : GoodIn wsX3_isNewTurned (va_wsS RX3 42 yX3_turned wsX3_turned) := goodIn_app (goodIn_of _ (by decide +kernel)) ggX3_isNewTurned_X3_turned
theorem dX3_isNewTurned_0 : decode cX3_isNewTurned 0 = .ok (.lload_n 0, 1) := by decide +kernel
theorem dX3_isNewTurned_1 : decode cX3_isNewTurned 1 = .ok (.iload_n 2, 1) := by decide +kernel
theorem dX3_isNewTurned_2 : decode cX3_isNewTurned 2 = .ok (.iload_n 3, 1) := by decide +kernel
theorem dX3_isNewTurned_3 : decode cX3_isNewTurned 3 = .ok (.invokestatic 42, 3) := by decide +kernel
theorem dX3_isNewTurned_6 : decode cX3_isNewTurned 6 = .ok (.lstore 4, 2) := by decide +kernel
theorem dX3_isNewTurned_8 : decode cX3_isNewTurned 8 = .ok (.iconst 0, 1) := by decide +kernel
theorem dX3_isNewTurned_9 : decode cX3_isNewTurned 9 = .ok (.istore 6, 2) := by decide +kernel
theorem dX3_isNewTurned_11 : decode cX3_isNewTurned 11 = .ok (.iload 6, 2) := by decide +kernel
theorem dX3_isNewTurned_13 : decode cX3_isNewTurned 13 = .ok (.iload_n 3, 1) := by decide +kernel
theorem dX3_isNewTurned_14 : decode cX3_isNewTurned 14 = .ok (.if_icmp .ge 24, 3) := by decide +kernel
theorem dX3_isNewTurned_17 : decode cX3_isNewTurned 17 = .ok (.lload_n 0, 1) := by decide +kernel
theorem dX3_isNewTurned_18 : decode cX3_isNewTurned 18 = .ok (.iload_n 2, 1) := by decide +kernel
theorem dX3_isNewTurned_19 : decode cX3_isNewTurned 19 = .ok (.iload 6, 2) := by decide +kernel
theorem dX3_isNewTurned_21 : decode cX3_isNewTurned 21 = .ok (.invokestatic 42, 3) := by decide +kernel
theorem dX3_isNewTurned_24 : decode cX3_isNewTurned 24 = .ok (.lload 4, 2) := by decide +kernel
theorem dX3_isNewTurned_26 : decode cX3_isNewTurned 26 = .ok (.lcmp, 1) := by decide +kernel
theorem dX3_isNewTurned_27 : decode cX3_isNewTurned 27 = .ok (.ifCond .ne 5, 3) := by decide +kernel
theorem dX3_isNewTurned_30 : decode cX3_isNewTurned 30 = .ok (.iconst 0, 1) := by decide +kernel
theorem dX3_isNewTurned_31 : decode cX3_isNewTurned 31 = .ok (.ireturn, 1) := by decide +kernel
theorem dX3_isNewTurned_32 : decode cX3_isNewTurned 32 = .ok (.iinc 6 1, 3) := by decide +kernel
theorem dX3_isNewTurned_35 : decode cX3_isNewTurned 35 = .ok (.goto (-24), 3) := by decide +kernel
theorem dX3_isNewTurned_38 : decode cX3_isNewTurned 38 = .ok (.iconst 1, 1) := by decide +kernel
theorem dX3_isNewTurned_39 : decode cX3_isNewTurned 39 = .ok (.ireturn, 1) := by decide +kernel
theorem dX3_joined_0 : decode cX3_joined 0 = .ok (.lload_n 0, 1) := by decide +kernel
theorem dX3_joined_1 : decode cX3_joined 1 = .ok (.lload_n 3, 1) := by decide +kernel
theorem dX3_joined_2 : decode cX3_joined 2 = .ok (.iload_n 2, 1) := by decide +kernel
theorem dX3_joined_3 : decode cX3_joined 3 = .ok (.lshl, 1) := by decide +kernel
theorem dX3_joined_4 : decode cX3_joined 4 = .ok (.lor, 1) := by decide +kernel
theorem dX3_joined_5 : decode cX3_joined 5 = .ok (.lreturn, 1) := by decide +kernel
theorem dX3_woven_0 : decode cX3_woven 0 = .ok (.lconst 0, 1) := by decide +kernel
theorem dX3_woven_1 : decode cX3_woven 1 = .ok (.lstore 5, 2) := by decide +kernel
theorem dX3_woven_3 : decode cX3_woven 3 = .ok (.iconst 0, 1) := by decide +kernel
theorem dX3_woven_4 : decode cX3_woven 4 = .ok (.istore 7, 2) := by decide +kernel
theorem dX3_woven_6 : decode cX3_woven 6 = .ok (.iload 7, 2) := by decide +kernel
theorem dX3_woven_8 : decode cX3_woven 8 = .ok (.iload 4, 2) := by decide +kernel
theorem dX3_woven_10 : decode cX3_woven 10 = .ok (.if_icmp .ge 39, 3) := by decide +kernel
theorem dX3_woven_13 : decode cX3_woven 13 = .ok (.lload 5, 2) := by decide +kernel
theorem dX3_woven_15 : decode cX3_woven 15 = .ok (.lload_n 0, 1) := by decide +kernel
theorem dX3_woven_16 : decode cX3_woven 16 = .ok (.iload 7, 2) := by decide +kernel
theorem dX3_woven_18 : decode cX3_woven 18 = .ok (.lushr, 1) := by decide +kernel
theorem dX3_woven_19 : decode cX3_woven 19 = .ok (.lconst 1, 1) := by decide +kernel
theorem dX3_woven_20 : decode cX3_woven 20 = .ok (.land, 1) := by decide +kernel
theorem dX3_woven_21 : decode cX3_woven 21 = .ok (.iconst 2, 1) := by decide +kernel
theorem dX3_woven_22 : decode cX3_woven 22 = .ok (.iload 7, 2) := by decide +kernel
theorem dX3_woven_24 : decode cX3_woven 24 = .ok (.imul, 1) := by decide +kernel
theorem dX3_woven_25 : decode cX3_woven 25 = .ok (.lshl, 1) := by decide +kernel
theorem dX3_woven_26 : decode cX3_woven 26 = .ok (.lload_n 2, 1) := by decide +kernel
theorem dX3_woven_27 : decode cX3_woven 27 = .ok (.iload 7, 2) := by decide +kernel
theorem dX3_woven_29 : decode cX3_woven 29 = .ok (.lushr, 1) := by decide +kernel
theorem dX3_woven_30 : decode cX3_woven 30 = .ok (.lconst 1, 1) := by decide +kernel
theorem dX3_woven_31 : decode cX3_woven 31 = .ok (.land, 1) := by decide +kernel
theorem dX3_woven_32 : decode cX3_woven 32 = .ok (.iconst 2, 1) := by decide +kernel
theorem dX3_woven_33 : decode cX3_woven 33 = .ok (.iload 7, 2) := by decide +kernel
theorem dX3_woven_35 : decode cX3_woven 35 = .ok (.imul, 1) := by decide +kernel
theorem dX3_woven_36 : decode cX3_woven 36 = .ok (.iconst 1, 1) := by decide +kernel
theorem dX3_woven_37 : decode cX3_woven 37 = .ok (.iadd, 1) := by decide +kernel
theorem dX3_woven_38 : decode cX3_woven 38 = .ok (.lshl, 1) := by decide +kernel
theorem dX3_woven_39 : decode cX3_woven 39 = .ok (.lor, 1) := by decide +kernel
theorem dX3_woven_40 : decode cX3_woven 40 = .ok (.lor, 1) := by decide +kernel
theorem dX3_woven_41 : decode cX3_woven 41 = .ok (.lstore 5, 2) := by decide +kernel
theorem dX3_woven_43 : decode cX3_woven 43 = .ok (.iinc 7 1, 3) := by decide +kernel
theorem dX3_woven_46 : decode cX3_woven 46 = .ok (.goto (-40), 3) := by decide +kernel
theorem dX3_woven_49 : decode cX3_woven 49 = .ok (.lload 5, 2) := by decide +kernel
theorem dX3_woven_51 : decode cX3_woven 51 = .ok (.lreturn, 1) := by decide +kernel
set_option maxRecDepth 20000 in
theorem ggX3_product_X3_sign : GoodIn wsX3_product wsX3_sign := goodIn_r _ [4] (by decide +kernel) (by decide +kernel)
set_option maxRecDepth 20000 in
theorem gX3_product_X3_sign : GoodIn wsX3_product (va_wsS RX3 54 yX3_sign wsX3_sign) := goodIn_app (goodIn_of _ (by decide +kernel)) ggX3_product_X3_sign
set_option maxRecDepth 20000 in
theorem ggX3_product_X3_opposite : GoodIn wsX3_product wsX3_opposite := goodIn_r _ [7, 8, 9, 3, 10] (by decide +kernel) (by decide +kernel)
set_option maxRecDepth 20000 in
theorem gX3_product_X3_opposite : GoodIn wsX3_product (va_wsS RX3 37 yX3_opposite wsX3_opposite) := goodIn_app (goodIn_of _ (by decide +kernel)) ggX3_product_X3_opposite
theorem dX3_product_0 : decode cX3_product 0 = .ok (.lconst 0, 1) := by decide +kernel
theorem dX3_product_1 : decode cX3_product 1 = .ok (.lstore 6, 2) := by decide +kernel
theorem dX3_product_3 : decode cX3_product 3 = .ok (.iconst 0, 1) := by decide +kernel
theorem dX3_product_4 : decode cX3_product 4 = .ok (.istore 8, 2) := by decide +kernel
theorem dX3_product_6 : decode cX3_product 6 = .ok (.iload 8, 2) := by decide +kernel
theorem dX3_product_8 : decode cX3_product 8 = .ok (.iload_n 2, 1) := by decide +kernel
theorem dX3_product_9 : decode cX3_product 9 = .ok (.if_icmp .ge 44, 3) := by decide +kernel
theorem dX3_product_12 : decode cX3_product 12 = .ok (.lload_n 0, 1) := by decide +kernel
theorem dX3_product_13 : decode cX3_product 13 = .ok (.iload 8, 2) := by decide +kernel
theorem dX3_product_15 : decode cX3_product 15 = .ok (.invokestatic 54, 3) := by decide +kernel
theorem dX3_product_18 : decode cX3_product 18 = .ok (.iconst 1, 1) := by decide +kernel
theorem dX3_product_19 : decode cX3_product 19 = .ok (.if_icmp .ne 7, 3) := by decide +kernel
theorem dX3_product_22 : decode cX3_product 22 = .ok (.lload_n 3, 1) := by decide +kernel
theorem dX3_product_23 : decode cX3_product 23 = .ok (.goto 9, 3) := by decide +kernel
theorem dX3_product_26 : decode cX3_product 26 = .ok (.lload_n 3, 1) := by decide +kernel
theorem dX3_product_27 : decode cX3_product 27 = .ok (.iload 5, 2) := by decide +kernel
theorem dX3_product_29 : decode cX3_product 29 = .ok (.invokestatic 37, 3) := by decide +kernel
theorem dX3_product_32 : decode cX3_product 32 = .ok (.lstore 9, 2) := by decide +kernel
theorem dX3_product_34 : decode cX3_product 34 = .ok (.lload 6, 2) := by decide +kernel
theorem dX3_product_36 : decode cX3_product 36 = .ok (.lload 9, 2) := by decide +kernel
theorem dX3_product_38 : decode cX3_product 38 = .ok (.iload 8, 2) := by decide +kernel
theorem dX3_product_40 : decode cX3_product 40 = .ok (.iload 5, 2) := by decide +kernel
theorem dX3_product_42 : decode cX3_product 42 = .ok (.imul, 1) := by decide +kernel
theorem dX3_product_43 : decode cX3_product 43 = .ok (.lshl, 1) := by decide +kernel
theorem dX3_product_44 : decode cX3_product 44 = .ok (.lor, 1) := by decide +kernel
theorem dX3_product_45 : decode cX3_product 45 = .ok (.lstore 6, 2) := by decide +kernel
theorem dX3_product_47 : decode cX3_product 47 = .ok (.iinc 8 1, 3) := by decide +kernel
theorem dX3_product_50 : decode cX3_product 50 = .ok (.goto (-44), 3) := by decide +kernel
theorem dX3_product_53 : decode cX3_product 53 = .ok (.lload 6, 2) := by decide +kernel
theorem dX3_product_55 : decode cX3_product 55 = .ok (.lreturn, 1) := by decide +kernel
theorem dX4_rootOf_0 : decode cX4_rootOf 0 = .ok (.iconst 0, 1) := by decide +kernel
theorem dX4_rootOf_1 : decode cX4_rootOf 1 = .ok (.istore_n 1, 1) := by decide +kernel
theorem dX4_rootOf_2 : decode cX4_rootOf 2 = .ok (.sipush 512, 3) := by decide +kernel
theorem dX4_rootOf_5 : decode cX4_rootOf 5 = .ok (.istore_n 2, 1) := by decide +kernel
theorem dX4_rootOf_6 : decode cX4_rootOf 6 = .ok (.iload_n 2, 1) := by decide +kernel
theorem dX4_rootOf_7 : decode cX4_rootOf 7 = .ok (.ifCond .le 25, 3) := by decide +kernel
theorem dX4_rootOf_10 : decode cX4_rootOf 10 = .ok (.iload_n 1, 1) := by decide +kernel
theorem dX4_rootOf_11 : decode cX4_rootOf 11 = .ok (.iload_n 2, 1) := by decide +kernel
theorem dX4_rootOf_12 : decode cX4_rootOf 12 = .ok (.iadd, 1) := by decide +kernel
theorem dX4_rootOf_13 : decode cX4_rootOf 13 = .ok (.iload_n 1, 1) := by decide +kernel
theorem dX4_rootOf_14 : decode cX4_rootOf 14 = .ok (.iload_n 2, 1) := by decide +kernel
theorem dX4_rootOf_15 : decode cX4_rootOf 15 = .ok (.iadd, 1) := by decide +kernel
theorem dX4_rootOf_16 : decode cX4_rootOf 16 = .ok (.imul, 1) := by decide +kernel
theorem dX4_rootOf_17 : decode cX4_rootOf 17 = .ok (.iload_n 0, 1) := by decide +kernel
theorem dX4_rootOf_18 : decode cX4_rootOf 18 = .ok (.if_icmp .gt 7, 3) := by decide +kernel
theorem dX4_rootOf_21 : decode cX4_rootOf 21 = .ok (.iload_n 1, 1) := by decide +kernel
theorem dX4_rootOf_22 : decode cX4_rootOf 22 = .ok (.iload_n 2, 1) := by decide +kernel
theorem dX4_rootOf_23 : decode cX4_rootOf 23 = .ok (.iadd, 1) := by decide +kernel
theorem dX4_rootOf_24 : decode cX4_rootOf 24 = .ok (.istore_n 1, 1) := by decide +kernel
theorem dX4_rootOf_25 : decode cX4_rootOf 25 = .ok (.iload_n 2, 1) := by decide +kernel
theorem dX4_rootOf_26 : decode cX4_rootOf 26 = .ok (.iconst 2, 1) := by decide +kernel
theorem dX4_rootOf_27 : decode cX4_rootOf 27 = .ok (.idiv, 1) := by decide +kernel
theorem dX4_rootOf_28 : decode cX4_rootOf 28 = .ok (.istore_n 2, 1) := by decide +kernel
theorem dX4_rootOf_29 : decode cX4_rootOf 29 = .ok (.goto (-23), 3) := by decide +kernel
theorem dX4_rootOf_32 : decode cX4_rootOf 32 = .ok (.iload_n 1, 1) := by decide +kernel
theorem dX4_rootOf_33 : decode cX4_rootOf 33 = .ok (.ireturn, 1) := by decide +kernel
set_option maxRecDepth 20000 in
theorem ggX4_ways_X4_rootOf : GoodIn wsX4_ways wsX4_rootOf := goodIn_r _ [4] (by decide +kernel) (by decide +kernel)
set_option maxRecDepth 20000 in
theorem gX4_ways_X4_rootOf : GoodIn wsX4_ways (va_wsS RX4 7 yX4_rootOf wsX4_rootOf) := goodIn_app (goodIn_of _ (by decide +kernel)) ggX4_ways_X4_rootOf
set_option maxRecDepth 20000 in
theorem ggX4_ways_X4_waysUpTo : GoodIn wsX4_ways wsX4_waysUpTo := goodIn_r _ [7, 8, 9, 10, 11, 1, 2, 3, 4, 5, 6] (by decide +kernel) (by decide +kernel)
set_option maxRecDepth 20000 in
theorem gX4_ways_X4_waysUpTo : GoodIn wsX4_ways (va_wsS RX4 13 yX4_waysUpTo wsX4_waysUpTo) := goodIn_app (goodIn_of _ (by decide +kernel)) ggX4_ways_X4_waysUpTo
theorem dX4_ways_0 : decode cX4_ways 0 = .ok (.iload_n 0, 1) := by decide +kernel
theorem dX4_ways_1 : decode cX4_ways 1 = .ok (.invokestatic 7, 3) := by decide +kernel
theorem dX4_ways_4 : decode cX4_ways 4 = .ok (.iload_n 0, 1) := by decide +kernel
theorem dX4_ways_5 : decode cX4_ways 5 = .ok (.iload_n 1, 1) := by decide +kernel
theorem dX4_ways_6 : decode cX4_ways 6 = .ok (.invokestatic 13, 3) := by decide +kernel
theorem dX4_ways_9 : decode cX4_ways 9 = .ok (.ireturn, 1) := by decide +kernel
set_option maxRecDepth 20000 in
theorem ggX4_waysUpTo_X4_rootOf : GoodIn wsX4_waysUpTo wsX4_rootOf := goodIn_r _ [8] (by decide +kernel) (by decide +kernel)
set_option maxRecDepth 20000 in
theorem gX4_waysUpTo_X4_rootOf : GoodIn wsX4_waysUpTo (va_wsS RX4 7 yX4_rootOf wsX4_rootOf) := goodIn_app (goodIn_of _ (by decide +kernel)) ggX4_waysUpTo_X4_rootOf
set_option maxRecDepth 20000 in
theorem ggX4_waysUpTo_X4_waysUpTo : GoodIn wsX4_waysUpTo wsX4_waysUpTo := goodIn_r _ [0, 1, 2, 3, 4, 5, 6, 7, 8, 9, 10] (by decide +kernel) (by decide +kernel)
set_option maxRecDepth 20000 in
theorem gX4_waysUpTo_X4_waysUpTo : GoodIn wsX4_waysUpTo (va_wsS RX4 13 yX4_waysUpTo wsX4_waysUpTo) := goodIn_app (goodIn_of _ (by decide +kernel)) ggX4_waysUpTo_X4_waysUpTo
theorem dX4_waysUpTo_0 : decode cX4_waysUpTo 0 = .ok (.iload_n 1, 1) := by decide +kernel
theorem dX4_waysUpTo_1 : decode cX4_waysUpTo 1 = .ok (.invokestatic 7, 3) := by decide +kernel
theorem dX4_waysUpTo_4 : decode cX4_waysUpTo 4 = .ok (.istore_n 3, 1) := by decide +kernel
theorem dX4_waysUpTo_5 : decode cX4_waysUpTo 5 = .ok (.iload_n 2, 1) := by decide +kernel
theorem dX4_waysUpTo_6 : decode cX4_waysUpTo 6 = .ok (.iconst 1, 1) := by decide +kernel
theorem dX4_waysUpTo_7 : decode cX4_waysUpTo 7 = .ok (.if_icmp .gt 21, 3) := by decide +kernel
theorem dX4_waysUpTo_10 : decode cX4_waysUpTo 10 = .ok (.iload_n 3, 1) := by decide +kernel
theorem dX4_waysUpTo_11 : decode cX4_waysUpTo 11 = .ok (.iload_n 0, 1) := by decide +kernel
theorem dX4_waysUpTo_12 : decode cX4_waysUpTo 12 = .ok (.if_icmp .gt 14, 3) := by decide +kernel
theorem dX4_waysUpTo_15 : decode cX4_waysUpTo 15 = .ok (.iload_n 3, 1) := by decide +kernel
theorem dX4_waysUpTo_16 : decode cX4_waysUpTo 16 = .ok (.iload_n 3, 1) := by decide +kernel
theorem dX4_waysUpTo_17 : decode cX4_waysUpTo 17 = .ok (.imul, 1) := by decide +kernel
theorem dX4_waysUpTo_18 : decode cX4_waysUpTo 18 = .ok (.iload_n 1, 1) := by decide +kernel
theorem dX4_waysUpTo_19 : decode cX4_waysUpTo 19 = .ok (.if_icmp .ne 7, 3) := by decide +kernel
theorem dX4_waysUpTo_22 : decode cX4_waysUpTo 22 = .ok (.iconst 1, 1) := by decide +kernel
theorem dX4_waysUpTo_23 : decode cX4_waysUpTo 23 = .ok (.goto 4, 3) := by decide +kernel
theorem dX4_waysUpTo_26 : decode cX4_waysUpTo 26 = .ok (.iconst 0, 1) := by decide +kernel
theorem dX4_waysUpTo_27 : decode cX4_waysUpTo 27 = .ok (.ireturn, 1) := by decide +kernel
theorem dX4_waysUpTo_28 : decode cX4_waysUpTo 28 = .ok (.iconst 0, 1) := by decide +kernel
theorem dX4_waysUpTo_29 : decode cX4_waysUpTo 29 = .ok (.istore 4, 2) := by decide +kernel
theorem dX4_waysUpTo_31 : decode cX4_waysUpTo 31 = .ok (.iload_n 0, 1) := by decide +kernel
theorem dX4_waysUpTo_32 : decode cX4_waysUpTo 32 = .ok (.iload_n 3, 1) := by decide +kernel
theorem dX4_waysUpTo_33 : decode cX4_waysUpTo 33 = .ok (.invokestatic 17, 3) := by decide +kernel
theorem dX4_waysUpTo_36 : decode cX4_waysUpTo 36 = .ok (.istore 5, 2) := by decide +kernel
theorem dX4_waysUpTo_38 : decode cX4_waysUpTo 38 = .ok (.iload 5, 2) := by decide +kernel
theorem dX4_waysUpTo_40 : decode cX4_waysUpTo 40 = .ok (.ifCond .lt 29, 3) := by decide +kernel
theorem dX4_waysUpTo_43 : decode cX4_waysUpTo 43 = .ok (.iload 4, 2) := by decide +kernel
theorem dX4_waysUpTo_45 : decode cX4_waysUpTo 45 = .ok (.iload 5, 2) := by decide +kernel
theorem dX4_waysUpTo_47 : decode cX4_waysUpTo 47 = .ok (.iload_n 1, 1) := by decide +kernel
theorem dX4_waysUpTo_48 : decode cX4_waysUpTo 48 = .ok (.iload 5, 2) := by decide +kernel
theorem dX4_waysUpTo_50 : decode cX4_waysUpTo 50 = .ok (.iload 5, 2) := by decide +kernel
theorem dX4_waysUpTo_52 : decode cX4_waysUpTo 52 = .ok (.imul, 1) := by decide +kernel
theorem dX4_waysUpTo_53 : decode cX4_waysUpTo 53 = .ok (.isub, 1) := by decide +kernel
theorem dX4_waysUpTo_54 : decode cX4_waysUpTo 54 = .ok (.iload_n 2, 1) := by decide +kernel
theorem dX4_waysUpTo_55 : decode cX4_waysUpTo 55 = .ok (.iconst 1, 1) := by decide +kernel
theorem dX4_waysUpTo_56 : decode cX4_waysUpTo 56 = .ok (.isub, 1) := by decide +kernel
theorem dX4_waysUpTo_57 : decode cX4_waysUpTo 57 = .ok (.invokestatic 13, 3) := by decide +kernel
theorem dX4_waysUpTo_60 : decode cX4_waysUpTo 60 = .ok (.iadd, 1) := by decide +kernel
theorem dX4_waysUpTo_61 : decode cX4_waysUpTo 61 = .ok (.istore 4, 2) := by decide +kernel
theorem dX4_waysUpTo_63 : decode cX4_waysUpTo 63 = .ok (.iinc 5 (-1), 3) := by decide +kernel
theorem dX4_waysUpTo_66 : decode cX4_waysUpTo 66 = .ok (.goto (-28), 3) := by decide +kernel
theorem dX4_waysUpTo_69 : decode cX4_waysUpTo 69 = .ok (.iload 4, 2) := by decide +kernel
theorem dX4_waysUpTo_71 : decode cX4_waysUpTo 71 = .ok (.ireturn, 1) := by decide +kernel
theorem dX4_hasPrimeOfRestThree_0 : decode cX4_hasPrimeOfRestThree 0 = .ok (.iconst 1, 1) := by decide +kernel
theorem dX4_hasPrimeOfRestThree_1 : decode cX4_hasPrimeOfRestThree 1 = .ok (.istore_n 1, 1) := by decide +kernel
theorem dX4_hasPrimeOfRestThree_2 : decode cX4_hasPrimeOfRestThree 2 = .ok (.iload_n 1, 1) := by decide +kernel
theorem dX4_hasPrimeOfRestThree_3 : decode cX4_hasPrimeOfRestThree 3 = .ok (.iload_n 0, 1) := by decide +kernel
theorem dX4_hasPrimeOfRestThree_4 : decode cX4_hasPrimeOfRestThree 4 = .ok (.iload_n 1, 1) := by decide +kernel
theorem dX4_hasPrimeOfRestThree_5 : decode cX4_hasPrimeOfRestThree 5 = .ok (.idiv, 1) := by decide +kernel
theorem dX4_hasPrimeOfRestThree_6 : decode cX4_hasPrimeOfRestThree 6 = .ok (.if_icmp .gt 33, 3) := by decide +kernel
theorem dX4_hasPrimeOfRestThree_9 : decode cX4_hasPrimeOfRestThree 9 = .ok (.iload_n 0, 1) := by decide +kernel
theorem dX4_hasPrimeOfRestThree_10 : decode cX4_hasPrimeOfRestThree 10 = .ok (.iload_n 1, 1) := by decide +kernel
theorem dX4_hasPrimeOfRestThree_11 : decode cX4_hasPrimeOfRestThree 11 = .ok (.irem, 1) := by decide +kernel
theorem dX4_hasPrimeOfRestThree_12 : decode cX4_hasPrimeOfRestThree 12 = .ok (.ifCond .ne 21, 3) := by decide +kernel
theorem dX4_hasPrimeOfRestThree_15 : decode cX4_hasPrimeOfRestThree 15 = .ok (.iload_n 1, 1) := by decide +kernel
theorem dX4_hasPrimeOfRestThree_16 : decode cX4_hasPrimeOfRestThree 16 = .ok (.iconst 4, 1) := by decide +kernel
theorem dX4_hasPrimeOfRestThree_17 : decode cX4_hasPrimeOfRestThree 17 = .ok (.irem, 1) := by decide +kernel
theorem dX4_hasPrimeOfRestThree_18 : decode cX4_hasPrimeOfRestThree 18 = .ok (.iconst 3, 1) := by decide +kernel
theorem dX4_hasPrimeOfRestThree_19 : decode cX4_hasPrimeOfRestThree 19 = .ok (.if_icmp .eq 12, 3) := by decide +kernel
theorem dX4_hasPrimeOfRestThree_22 : decode cX4_hasPrimeOfRestThree 22 = .ok (.iload_n 0, 1) := by decide +kernel
theorem dX4_hasPrimeOfRestThree_23 : decode cX4_hasPrimeOfRestThree 23 = .ok (.iload_n 1, 1) := by decide +kernel
theorem dX4_hasPrimeOfRestThree_24 : decode cX4_hasPrimeOfRestThree 24 = .ok (.idiv, 1) := by decide +kernel
theorem dX4_hasPrimeOfRestThree_25 : decode cX4_hasPrimeOfRestThree 25 = .ok (.iconst 4, 1) := by decide +kernel
theorem dX4_hasPrimeOfRestThree_26 : decode cX4_hasPrimeOfRestThree 26 = .ok (.irem, 1) := by decide +kernel
theorem dX4_hasPrimeOfRestThree_27 : decode cX4_hasPrimeOfRestThree 27 = .ok (.iconst 3, 1) := by decide +kernel
theorem dX4_hasPrimeOfRestThree_28 : decode cX4_hasPrimeOfRestThree 28 = .ok (.if_icmp .ne 5, 3) := by decide +kernel
theorem dX4_hasPrimeOfRestThree_31 : decode cX4_hasPrimeOfRestThree 31 = .ok (.iconst 1, 1) := by decide +kernel
theorem dX4_hasPrimeOfRestThree_32 : decode cX4_hasPrimeOfRestThree 32 = .ok (.ireturn, 1) := by decide +kernel
theorem dX4_hasPrimeOfRestThree_33 : decode cX4_hasPrimeOfRestThree 33 = .ok (.iinc 1 1, 3) := by decide +kernel
theorem dX4_hasPrimeOfRestThree_36 : decode cX4_hasPrimeOfRestThree 36 = .ok (.goto (-34), 3) := by decide +kernel
theorem dX4_hasPrimeOfRestThree_39 : decode cX4_hasPrimeOfRestThree 39 = .ok (.iconst 0, 1) := by decide +kernel
theorem dX4_hasPrimeOfRestThree_40 : decode cX4_hasPrimeOfRestThree 40 = .ok (.ireturn, 1) := by decide +kernel
set_option maxRecDepth 20000 in
theorem ggX5_seedOf_J6_bitCount_0f7a4 : GoodIn wsX5_seedOf wsJ6_bitCount_0f7a4 := goodIn_r _ [4, 5, 6, 7] (by decide +kernel) (by decide +kernel)
set_option maxRecDepth 20000 in
theorem gX5_seedOf_J6_bitCount_0f7a4 : GoodIn wsX5_seedOf (va_wsS RX5 7 yJ6_bitCount_0f7a4 wsJ6_bitCount_0f7a4) := goodIn_app (goodIn_of _ (by decide +kernel)) ggX5_seedOf_J6_bitCount_0f7a4
theorem dX5_seedOf_0 : decode cX5_seedOf 0 = .ok (.iload_n 0, 1) := by decide +kernel
theorem dX5_seedOf_1 : decode cX5_seedOf 1 = .ok (.bipush 26, 2) := by decide +kernel
theorem dX5_seedOf_3 : decode cX5_seedOf 3 = .ok (.if_icmp .ne 6, 3) := by decide +kernel
theorem dX5_seedOf_6 : decode cX5_seedOf 6 = .ok (.bipush 26, 2) := by decide +kernel
theorem dX5_seedOf_8 : decode cX5_seedOf 8 = .ok (.ireturn, 1) := by decide +kernel
theorem dX5_seedOf_9 : decode cX5_seedOf 9 = .ok (.iload_n 0, 1) := by decide +kernel
theorem dX5_seedOf_10 : decode cX5_seedOf 10 = .ok (.bipush 10, 2) := by decide +kernel
theorem dX5_seedOf_12 : decode cX5_seedOf 12 = .ok (.if_icmp .eq 9, 3) := by decide +kernel
theorem dX5_seedOf_15 : decode cX5_seedOf 15 = .ok (.iload_n 0, 1) := by decide +kernel
theorem dX5_seedOf_16 : decode cX5_seedOf 16 = .ok (.bipush 20, 2) := by decide +kernel
theorem dX5_seedOf_18 : decode cX5_seedOf 18 = .ok (.if_icmp .ne 6, 3) := by decide +kernel
theorem dX5_seedOf_21 : decode cX5_seedOf 21 = .ok (.bipush 10, 2) := by decide +kernel
theorem dX5_seedOf_23 : decode cX5_seedOf 23 = .ok (.ireturn, 1) := by decide +kernel
theorem dX5_seedOf_24 : decode cX5_seedOf 24 = .ok (.iload_n 0, 1) := by decide +kernel
theorem dX5_seedOf_25 : decode cX5_seedOf 25 = .ok (.invokestatic 7, 3) := by decide +kernel
theorem dX5_seedOf_28 : decode cX5_seedOf 28 = .ok (.iconst 1, 1) := by decide +kernel
theorem dX5_seedOf_29 : decode cX5_seedOf 29 = .ok (.if_icmp .ne 7, 3) := by decide +kernel
theorem dX5_seedOf_32 : decode cX5_seedOf 32 = .ok (.iconst 1, 1) := by decide +kernel
theorem dX5_seedOf_33 : decode cX5_seedOf 33 = .ok (.goto 4, 3) := by decide +kernel
theorem dX5_seedOf_36 : decode cX5_seedOf 36 = .ok (.iconst 0, 1) := by decide +kernel
theorem dX5_seedOf_37 : decode cX5_seedOf 37 = .ok (.ireturn, 1) := by decide +kernel
theorem dX5_firstOfSeed_0 : decode cX5_firstOfSeed 0 = .ok (.iload_n 0, 1) := by decide +kernel
theorem dX5_firstOfSeed_1 : decode cX5_firstOfSeed 1 = .ok (.bipush 26, 2) := by decide +kernel
theorem dX5_firstOfSeed_3 : decode cX5_firstOfSeed 3 = .ok (.if_icmp .ne 7, 3) := by decide +kernel
theorem dX5_firstOfSeed_6 : decode cX5_firstOfSeed 6 = .ok (.ldc2_w 15, 3) := by decide +kernel
theorem dX5_firstOfSeed_9 : decode cX5_firstOfSeed 9 = .ok (.lreturn, 1) := by decide +kernel
theorem dX5_firstOfSeed_10 : decode cX5_firstOfSeed 10 = .ok (.iload_n 0, 1) := by decide +kernel
theorem dX5_firstOfSeed_11 : decode cX5_firstOfSeed 11 = .ok (.bipush 10, 2) := by decide +kernel
theorem dX5_firstOfSeed_13 : decode cX5_firstOfSeed 13 = .ok (.if_icmp .ne 9, 3) := by decide +kernel
theorem dX5_firstOfSeed_16 : decode cX5_firstOfSeed 16 = .ok (.ldc2_w 17, 3) := by decide +kernel
theorem dX5_firstOfSeed_19 : decode cX5_firstOfSeed 19 = .ok (.goto 4, 3) := by decide +kernel
theorem dX5_firstOfSeed_22 : decode cX5_firstOfSeed 22 = .ok (.lconst 0, 1) := by decide +kernel
theorem dX5_firstOfSeed_23 : decode cX5_firstOfSeed 23 = .ok (.lreturn, 1) := by decide +kernel
theorem dX5_secondOfSeed_0 : decode cX5_secondOfSeed 0 = .ok (.iload_n 0, 1) := by decide +kernel
theorem dX5_secondOfSeed_1 : decode cX5_secondOfSeed 1 = .ok (.bipush 26, 2) := by decide +kernel
theorem dX5_secondOfSeed_3 : decode cX5_secondOfSeed 3 = .ok (.if_icmp .ne 7, 3) := by decide +kernel
theorem dX5_secondOfSeed_6 : decode cX5_secondOfSeed 6 = .ok (.ldc2_w 19, 3) := by decide +kernel
theorem dX5_secondOfSeed_9 : decode cX5_secondOfSeed 9 = .ok (.lreturn, 1) := by decide +kernel
theorem dX5_secondOfSeed_10 : decode cX5_secondOfSeed 10 = .ok (.iload_n 0, 1) := by decide +kernel
theorem dX5_secondOfSeed_11 : decode cX5_secondOfSeed 11 = .ok (.bipush 10, 2) := by decide +kernel
theorem dX5_secondOfSeed_13 : decode cX5_secondOfSeed 13 = .ok (.if_icmp .ne 9, 3) := by decide +kernel
theorem dX5_secondOfSeed_16 : decode cX5_secondOfSeed 16 = .ok (.ldc2_w 21, 3) := by decide +kernel
theorem dX5_secondOfSeed_19 : decode cX5_secondOfSeed 19 = .ok (.goto 4, 3) := by decide +kernel
theorem dX5_secondOfSeed_22 : decode cX5_secondOfSeed 22 = .ok (.lconst 0, 1) := by decide +kernel
theorem dX5_secondOfSeed_23 : decode cX5_secondOfSeed 23 = .ok (.lreturn, 1) := by decide +kernel
set_option maxRecDepth 20000 in
theorem ggJ6_valueOf_2dffe_J6_init_d00df : GoodIn wsJ6_valueOf_2dffe wsJ6_init_d00df := goodIn_r _ [8, 9, 10, 11, 12, 13, 14, 15, 16, 17] (by decide +kernel) (by decide +kernel)
set_option maxRecDepth 20000 in
theorem gJ6_valueOf_2dffe_J6_init_d00df : GoodIn wsJ6_valueOf_2dffe (wsJ6_init_d00df) := ggJ6_valueOf_2dffe_J6_init_d00df
theorem dJ6_valueOf_2dffe_0 : decode cJ6_valueOf_2dffe 0 = .ok (.iload_n 0, 1) := by decide +kernel
theorem dJ6_valueOf_2dffe_1 : decode cJ6_valueOf_2dffe 1 = .ok (.bipush (-128), 2) := by decide +kernel
theorem dJ6_valueOf_2dffe_3 : decode cJ6_valueOf_2dffe 3 = .ok (.if_icmp .lt 20, 3) := by decide +kernel
theorem dJ6_valueOf_2dffe_6 : decode cJ6_valueOf_2dffe 6 = .ok (.iload_n 0, 1) := by decide +kernel
theorem dJ6_valueOf_2dffe_7 : decode cJ6_valueOf_2dffe 7 = .ok (.getstatic 191, 3) := by decide +kernel
theorem dJ6_valueOf_2dffe_10 : decode cJ6_valueOf_2dffe 10 = .ok (.if_icmp .gt 13, 3) := by decide +kernel
theorem dJ6_valueOf_2dffe_13 : decode cJ6_valueOf_2dffe 13 = .ok (.getstatic 195, 3) := by decide +kernel
theorem dJ6_valueOf_2dffe_16 : decode cJ6_valueOf_2dffe 16 = .ok (.iload_n 0, 1) := by decide +kernel
theorem dJ6_valueOf_2dffe_17 : decode cJ6_valueOf_2dffe 17 = .ok (.sipush 128, 3) := by decide +kernel
theorem dJ6_valueOf_2dffe_20 : decode cJ6_valueOf_2dffe 20 = .ok (.iadd, 1) := by decide +kernel
theorem dJ6_valueOf_2dffe_21 : decode cJ6_valueOf_2dffe 21 = .ok (.aaload, 1) := by decide +kernel
theorem dJ6_valueOf_2dffe_22 : decode cJ6_valueOf_2dffe 22 = .ok (.areturn, 1) := by decide +kernel
theorem dJ6_valueOf_2dffe_23 : decode cJ6_valueOf_2dffe 23 = .ok (.new 1, 3) := by decide +kernel
theorem dJ6_valueOf_2dffe_26 : decode cJ6_valueOf_2dffe 26 = .ok (.dup, 1) := by decide +kernel
theorem dJ6_valueOf_2dffe_27 : decode cJ6_valueOf_2dffe 27 = .ok (.iload_n 0, 1) := by decide +kernel
theorem dJ6_valueOf_2dffe_28 : decode cJ6_valueOf_2dffe 28 = .ok (.invokespecial 199, 3) := by decide +kernel
theorem dJ6_valueOf_2dffe_31 : decode cJ6_valueOf_2dffe 31 = .ok (.areturn, 1) := by decide +kernel
set_option maxRecDepth 20000 in
theorem ggJ6_init_d00df_Jxd2413_init_da8c8 : GoodIn wsJ6_init_d00df wsJxd2413_init_da8c8 := goodIn_r _ [5, 6, 7, 8] (by decide +kernel) (by decide +kernel)
set_option maxRecDepth 20000 in
theorem gJ6_init_d00df_Jxd2413_init_da8c8 : GoodIn wsJ6_init_d00df (wsJxd2413_init_da8c8) := ggJ6_init_d00df_Jxd2413_init_da8c8
theorem dJ6_init_d00df_0 : decode cJ6_init_d00df 0 = .ok (.aload_n 0, 1) := by decide +kernel
theorem dJ6_init_d00df_1 : decode cJ6_init_d00df 1 = .ok (.invokespecial 202, 3) := by decide +kernel
theorem dJ6_init_d00df_4 : decode cJ6_init_d00df 4 = .ok (.aload_n 0, 1) := by decide +kernel
theorem dJ6_init_d00df_5 : decode cJ6_init_d00df 5 = .ok (.iload_n 1, 1) := by decide +kernel
theorem dJ6_init_d00df_6 : decode cJ6_init_d00df 6 = .ok (.putfield 205, 3) := by decide +kernel
theorem dJ6_init_d00df_9 : decode cJ6_init_d00df 9 = .ok (.return_, 1) := by decide +kernel
theorem dJ6_intValue_8abf5_0 : decode cJ6_intValue_8abf5 0 = .ok (.aload_n 0, 1) := by decide +kernel
theorem dJ6_intValue_8abf5_1 : decode cJ6_intValue_8abf5 1 = .ok (.getfield 205, 3) := by decide +kernel
theorem dJ6_intValue_8abf5_4 : decode cJ6_intValue_8abf5 4 = .ok (.ireturn, 1) := by decide +kernel
theorem dJ6_bitCount_0f7a4_0 : decode cJ6_bitCount_0f7a4 0 = .ok (.iload_n 0, 1) := by decide +kernel
theorem dJ6_bitCount_0f7a4_1 : decode cJ6_bitCount_0f7a4 1 = .ok (.iload_n 0, 1) := by decide +kernel
theorem dJ6_bitCount_0f7a4_2 : decode cJ6_bitCount_0f7a4 2 = .ok (.iconst 1, 1) := by decide +kernel
theorem dJ6_bitCount_0f7a4_3 : decode cJ6_bitCount_0f7a4 3 = .ok (.iushr, 1) := by decide +kernel
theorem dJ6_bitCount_0f7a4_4 : decode cJ6_bitCount_0f7a4 4 = .ok (.ldc_w 265, 3) := by decide +kernel
theorem dJ6_bitCount_0f7a4_7 : decode cJ6_bitCount_0f7a4 7 = .ok (.iand, 1) := by decide +kernel
theorem dJ6_bitCount_0f7a4_8 : decode cJ6_bitCount_0f7a4 8 = .ok (.isub, 1) := by decide +kernel
theorem dJ6_bitCount_0f7a4_9 : decode cJ6_bitCount_0f7a4 9 = .ok (.istore_n 0, 1) := by decide +kernel
theorem dJ6_bitCount_0f7a4_10 : decode cJ6_bitCount_0f7a4 10 = .ok (.iload_n 0, 1) := by decide +kernel
theorem dJ6_bitCount_0f7a4_11 : decode cJ6_bitCount_0f7a4 11 = .ok (.ldc_w 266, 3) := by decide +kernel
theorem dJ6_bitCount_0f7a4_14 : decode cJ6_bitCount_0f7a4 14 = .ok (.iand, 1) := by decide +kernel
theorem dJ6_bitCount_0f7a4_15 : decode cJ6_bitCount_0f7a4 15 = .ok (.iload_n 0, 1) := by decide +kernel
theorem dJ6_bitCount_0f7a4_16 : decode cJ6_bitCount_0f7a4 16 = .ok (.iconst 2, 1) := by decide +kernel
theorem dJ6_bitCount_0f7a4_17 : decode cJ6_bitCount_0f7a4 17 = .ok (.iushr, 1) := by decide +kernel
theorem dJ6_bitCount_0f7a4_18 : decode cJ6_bitCount_0f7a4 18 = .ok (.ldc_w 266, 3) := by decide +kernel
theorem dJ6_bitCount_0f7a4_21 : decode cJ6_bitCount_0f7a4 21 = .ok (.iand, 1) := by decide +kernel
theorem dJ6_bitCount_0f7a4_22 : decode cJ6_bitCount_0f7a4 22 = .ok (.iadd, 1) := by decide +kernel
theorem dJ6_bitCount_0f7a4_23 : decode cJ6_bitCount_0f7a4 23 = .ok (.istore_n 0, 1) := by decide +kernel
theorem dJ6_bitCount_0f7a4_24 : decode cJ6_bitCount_0f7a4 24 = .ok (.iload_n 0, 1) := by decide +kernel
theorem dJ6_bitCount_0f7a4_25 : decode cJ6_bitCount_0f7a4 25 = .ok (.iload_n 0, 1) := by decide +kernel
theorem dJ6_bitCount_0f7a4_26 : decode cJ6_bitCount_0f7a4 26 = .ok (.iconst 4, 1) := by decide +kernel
theorem dJ6_bitCount_0f7a4_27 : decode cJ6_bitCount_0f7a4 27 = .ok (.iushr, 1) := by decide +kernel
theorem dJ6_bitCount_0f7a4_28 : decode cJ6_bitCount_0f7a4 28 = .ok (.iadd, 1) := by decide +kernel
theorem dJ6_bitCount_0f7a4_29 : decode cJ6_bitCount_0f7a4 29 = .ok (.ldc_w 267, 3) := by decide +kernel
theorem dJ6_bitCount_0f7a4_32 : decode cJ6_bitCount_0f7a4 32 = .ok (.iand, 1) := by decide +kernel
theorem dJ6_bitCount_0f7a4_33 : decode cJ6_bitCount_0f7a4 33 = .ok (.istore_n 0, 1) := by decide +kernel
theorem dJ6_bitCount_0f7a4_34 : decode cJ6_bitCount_0f7a4 34 = .ok (.iload_n 0, 1) := by decide +kernel
theorem dJ6_bitCount_0f7a4_35 : decode cJ6_bitCount_0f7a4 35 = .ok (.iload_n 0, 1) := by decide +kernel
theorem dJ6_bitCount_0f7a4_36 : decode cJ6_bitCount_0f7a4 36 = .ok (.bipush 8, 2) := by decide +kernel
theorem dJ6_bitCount_0f7a4_38 : decode cJ6_bitCount_0f7a4 38 = .ok (.iushr, 1) := by decide +kernel
theorem dJ6_bitCount_0f7a4_39 : decode cJ6_bitCount_0f7a4 39 = .ok (.iadd, 1) := by decide +kernel
theorem dJ6_bitCount_0f7a4_40 : decode cJ6_bitCount_0f7a4 40 = .ok (.istore_n 0, 1) := by decide +kernel
theorem dJ6_bitCount_0f7a4_41 : decode cJ6_bitCount_0f7a4 41 = .ok (.iload_n 0, 1) := by decide +kernel
theorem dJ6_bitCount_0f7a4_42 : decode cJ6_bitCount_0f7a4 42 = .ok (.iload_n 0, 1) := by decide +kernel
theorem dJ6_bitCount_0f7a4_43 : decode cJ6_bitCount_0f7a4 43 = .ok (.bipush 16, 2) := by decide +kernel
theorem dJ6_bitCount_0f7a4_45 : decode cJ6_bitCount_0f7a4 45 = .ok (.iushr, 1) := by decide +kernel
theorem dJ6_bitCount_0f7a4_46 : decode cJ6_bitCount_0f7a4 46 = .ok (.iadd, 1) := by decide +kernel
theorem dJ6_bitCount_0f7a4_47 : decode cJ6_bitCount_0f7a4 47 = .ok (.istore_n 0, 1) := by decide +kernel
theorem dJ6_bitCount_0f7a4_48 : decode cJ6_bitCount_0f7a4 48 = .ok (.iload_n 0, 1) := by decide +kernel
theorem dJ6_bitCount_0f7a4_49 : decode cJ6_bitCount_0f7a4 49 = .ok (.bipush 63, 2) := by decide +kernel
theorem dJ6_bitCount_0f7a4_51 : decode cJ6_bitCount_0f7a4 51 = .ok (.iand, 1) := by decide +kernel
theorem dJ6_bitCount_0f7a4_52 : decode cJ6_bitCount_0f7a4 52 = .ok (.ireturn, 1) := by decide +kernel
theorem dJ13_bitCount_95d88_0 : decode cJ13_bitCount_95d88 0 = .ok (.lload_n 0, 1) := by decide +kernel
theorem dJ13_bitCount_95d88_1 : decode cJ13_bitCount_95d88 1 = .ok (.lload_n 0, 1) := by decide +kernel
theorem dJ13_bitCount_95d88_2 : decode cJ13_bitCount_95d88 2 = .ok (.iconst 1, 1) := by decide +kernel
theorem dJ13_bitCount_95d88_3 : decode cJ13_bitCount_95d88 3 = .ok (.lushr, 1) := by decide +kernel
theorem dJ13_bitCount_95d88_4 : decode cJ13_bitCount_95d88 4 = .ok (.ldc2_w 314, 3) := by decide +kernel
theorem dJ13_bitCount_95d88_7 : decode cJ13_bitCount_95d88 7 = .ok (.land, 1) := by decide +kernel
theorem dJ13_bitCount_95d88_8 : decode cJ13_bitCount_95d88 8 = .ok (.lsub, 1) := by decide +kernel
theorem dJ13_bitCount_95d88_9 : decode cJ13_bitCount_95d88 9 = .ok (.lstore_n 0, 1) := by decide +kernel
theorem dJ13_bitCount_95d88_10 : decode cJ13_bitCount_95d88 10 = .ok (.lload_n 0, 1) := by decide +kernel
theorem dJ13_bitCount_95d88_11 : decode cJ13_bitCount_95d88 11 = .ok (.ldc2_w 316, 3) := by decide +kernel
theorem dJ13_bitCount_95d88_14 : decode cJ13_bitCount_95d88 14 = .ok (.land, 1) := by decide +kernel
theorem dJ13_bitCount_95d88_15 : decode cJ13_bitCount_95d88 15 = .ok (.lload_n 0, 1) := by decide +kernel
theorem dJ13_bitCount_95d88_16 : decode cJ13_bitCount_95d88 16 = .ok (.iconst 2, 1) := by decide +kernel
theorem dJ13_bitCount_95d88_17 : decode cJ13_bitCount_95d88 17 = .ok (.lushr, 1) := by decide +kernel
theorem dJ13_bitCount_95d88_18 : decode cJ13_bitCount_95d88 18 = .ok (.ldc2_w 316, 3) := by decide +kernel
theorem dJ13_bitCount_95d88_21 : decode cJ13_bitCount_95d88 21 = .ok (.land, 1) := by decide +kernel
theorem dJ13_bitCount_95d88_22 : decode cJ13_bitCount_95d88 22 = .ok (.ladd, 1) := by decide +kernel
theorem dJ13_bitCount_95d88_23 : decode cJ13_bitCount_95d88 23 = .ok (.lstore_n 0, 1) := by decide +kernel
theorem dJ13_bitCount_95d88_24 : decode cJ13_bitCount_95d88 24 = .ok (.lload_n 0, 1) := by decide +kernel
theorem dJ13_bitCount_95d88_25 : decode cJ13_bitCount_95d88 25 = .ok (.lload_n 0, 1) := by decide +kernel
theorem dJ13_bitCount_95d88_26 : decode cJ13_bitCount_95d88 26 = .ok (.iconst 4, 1) := by decide +kernel
theorem dJ13_bitCount_95d88_27 : decode cJ13_bitCount_95d88 27 = .ok (.lushr, 1) := by decide +kernel
theorem dJ13_bitCount_95d88_28 : decode cJ13_bitCount_95d88 28 = .ok (.ladd, 1) := by decide +kernel
theorem dJ13_bitCount_95d88_29 : decode cJ13_bitCount_95d88 29 = .ok (.ldc2_w 318, 3) := by decide +kernel
theorem dJ13_bitCount_95d88_32 : decode cJ13_bitCount_95d88 32 = .ok (.land, 1) := by decide +kernel
theorem dJ13_bitCount_95d88_33 : decode cJ13_bitCount_95d88 33 = .ok (.lstore_n 0, 1) := by decide +kernel
theorem dJ13_bitCount_95d88_34 : decode cJ13_bitCount_95d88 34 = .ok (.lload_n 0, 1) := by decide +kernel
theorem dJ13_bitCount_95d88_35 : decode cJ13_bitCount_95d88 35 = .ok (.lload_n 0, 1) := by decide +kernel
theorem dJ13_bitCount_95d88_36 : decode cJ13_bitCount_95d88 36 = .ok (.bipush 8, 2) := by decide +kernel
theorem dJ13_bitCount_95d88_38 : decode cJ13_bitCount_95d88 38 = .ok (.lushr, 1) := by decide +kernel
theorem dJ13_bitCount_95d88_39 : decode cJ13_bitCount_95d88 39 = .ok (.ladd, 1) := by decide +kernel
theorem dJ13_bitCount_95d88_40 : decode cJ13_bitCount_95d88 40 = .ok (.lstore_n 0, 1) := by decide +kernel
theorem dJ13_bitCount_95d88_41 : decode cJ13_bitCount_95d88 41 = .ok (.lload_n 0, 1) := by decide +kernel
theorem dJ13_bitCount_95d88_42 : decode cJ13_bitCount_95d88 42 = .ok (.lload_n 0, 1) := by decide +kernel
theorem dJ13_bitCount_95d88_43 : decode cJ13_bitCount_95d88 43 = .ok (.bipush 16, 2) := by decide +kernel
theorem dJ13_bitCount_95d88_45 : decode cJ13_bitCount_95d88 45 = .ok (.lushr, 1) := by decide +kernel
theorem dJ13_bitCount_95d88_46 : decode cJ13_bitCount_95d88 46 = .ok (.ladd, 1) := by decide +kernel
theorem dJ13_bitCount_95d88_47 : decode cJ13_bitCount_95d88 47 = .ok (.lstore_n 0, 1) := by decide +kernel
theorem dJ13_bitCount_95d88_48 : decode cJ13_bitCount_95d88 48 = .ok (.lload_n 0, 1) := by decide +kernel
theorem dJ13_bitCount_95d88_49 : decode cJ13_bitCount_95d88 49 = .ok (.lload_n 0, 1) := by decide +kernel
theorem dJ13_bitCount_95d88_50 : decode cJ13_bitCount_95d88 50 = .ok (.bipush 32, 2) := by decide +kernel
theorem dJ13_bitCount_95d88_52 : decode cJ13_bitCount_95d88 52 = .ok (.lushr, 1) := by decide +kernel
theorem dJ13_bitCount_95d88_53 : decode cJ13_bitCount_95d88 53 = .ok (.ladd, 1) := by decide +kernel
theorem dJ13_bitCount_95d88_54 : decode cJ13_bitCount_95d88 54 = .ok (.lstore_n 0, 1) := by decide +kernel
theorem dJ13_bitCount_95d88_55 : decode cJ13_bitCount_95d88 55 = .ok (.lload_n 0, 1) := by decide +kernel
theorem dJ13_bitCount_95d88_56 : decode cJ13_bitCount_95d88 56 = .ok (.l2i, 1) := by decide +kernel
theorem dJ13_bitCount_95d88_57 : decode cJ13_bitCount_95d88 57 = .ok (.bipush 127, 2) := by decide +kernel
theorem dJ13_bitCount_95d88_59 : decode cJ13_bitCount_95d88 59 = .ok (.iand, 1) := by decide +kernel
theorem dJ13_bitCount_95d88_60 : decode cJ13_bitCount_95d88 60 = .ok (.ireturn, 1) := by decide +kernel
theorem dJ9_abs_0f7a4_0 : decode cJ9_abs_0f7a4 0 = .ok (.iload_n 0, 1) := by decide +kernel
theorem dJ9_abs_0f7a4_1 : decode cJ9_abs_0f7a4 1 = .ok (.ifCond .ge 8, 3) := by decide +kernel
theorem dJ9_abs_0f7a4_4 : decode cJ9_abs_0f7a4 4 = .ok (.iload_n 0, 1) := by decide +kernel
theorem dJ9_abs_0f7a4_5 : decode cJ9_abs_0f7a4 5 = .ok (.ineg, 1) := by decide +kernel
theorem dJ9_abs_0f7a4_6 : decode cJ9_abs_0f7a4 6 = .ok (.goto 4, 3) := by decide +kernel
theorem dJ9_abs_0f7a4_9 : decode cJ9_abs_0f7a4 9 = .ok (.iload_n 0, 1) := by decide +kernel
theorem dJ9_abs_0f7a4_10 : decode cJ9_abs_0f7a4 10 = .ok (.ireturn, 1) := by decide +kernel
theorem dJ9_max_7cf53_0 : decode cJ9_max_7cf53 0 = .ok (.iload_n 0, 1) := by decide +kernel
theorem dJ9_max_7cf53_1 : decode cJ9_max_7cf53 1 = .ok (.iload_n 1, 1) := by decide +kernel
theorem dJ9_max_7cf53_2 : decode cJ9_max_7cf53 2 = .ok (.if_icmp .lt 7, 3) := by decide +kernel
theorem dJ9_max_7cf53_5 : decode cJ9_max_7cf53 5 = .ok (.iload_n 0, 1) := by decide +kernel
theorem dJ9_max_7cf53_6 : decode cJ9_max_7cf53 6 = .ok (.goto 4, 3) := by decide +kernel
theorem dJ9_max_7cf53_9 : decode cJ9_max_7cf53 9 = .ok (.iload_n 1, 1) := by decide +kernel
theorem dJ9_max_7cf53_10 : decode cJ9_max_7cf53 10 = .ok (.ireturn, 1) := by decide +kernel
theorem dJ9_min_7cf53_0 : decode cJ9_min_7cf53 0 = .ok (.iload_n 0, 1) := by decide +kernel
theorem dJ9_min_7cf53_1 : decode cJ9_min_7cf53 1 = .ok (.iload_n 1, 1) := by decide +kernel
theorem dJ9_min_7cf53_2 : decode cJ9_min_7cf53 2 = .ok (.if_icmp .gt 7, 3) := by decide +kernel
theorem dJ9_min_7cf53_5 : decode cJ9_min_7cf53 5 = .ok (.iload_n 0, 1) := by decide +kernel
theorem dJ9_min_7cf53_6 : decode cJ9_min_7cf53 6 = .ok (.goto 4, 3) := by decide +kernel
theorem dJ9_min_7cf53_9 : decode cJ9_min_7cf53 9 = .ok (.iload_n 1, 1) := by decide +kernel
theorem dJ9_min_7cf53_10 : decode cJ9_min_7cf53 10 = .ok (.ireturn, 1) := by decide +kernel
theorem dJ9_min_f86c9_0 : decode cJ9_min_f86c9 0 = .ok (.lload_n 0, 1) := by decide +kernel
theorem dJ9_min_f86c9_1 : decode cJ9_min_f86c9 1 = .ok (.lload_n 2, 1) := by decide +kernel
theorem dJ9_min_f86c9_2 : decode cJ9_min_f86c9 2 = .ok (.lcmp, 1) := by decide +kernel
theorem dJ9_min_f86c9_3 : decode cJ9_min_f86c9 3 = .ok (.ifCond .gt 7, 3) := by decide +kernel
theorem dJ9_min_f86c9_6 : decode cJ9_min_f86c9 6 = .ok (.lload_n 0, 1) := by decide +kernel
theorem dJ9_min_f86c9_7 : decode cJ9_min_f86c9 7 = .ok (.goto 4, 3) := by decide +kernel
theorem dJ9_min_f86c9_10 : decode cJ9_min_f86c9 10 = .ok (.lload_n 2, 1) := by decide +kernel
theorem dJ9_min_f86c9_11 : decode cJ9_min_f86c9 11 = .ok (.lreturn, 1) := by decide +kernel
theorem dJxd2413_init_da8c8_0 : decode cJxd2413_init_da8c8 0 = .ok (.aload_n 0, 1) := by decide +kernel
theorem dJxd2413_init_da8c8_1 : decode cJxd2413_init_da8c8 1 = .ok (.invokespecial 1, 3) := by decide +kernel
theorem dJxd2413_init_da8c8_4 : decode cJxd2413_init_da8c8 4 = .ok (.return_, 1) := by decide +kernel
theorem dJxa1e45_init_da8c8_0 : decode cJxa1e45_init_da8c8 0 = .ok (.aload_n 0, 1) := by decide +kernel
theorem dJxa1e45_init_da8c8_1 : decode cJxa1e45_init_da8c8 1 = .ok (.invokespecial 1, 3) := by decide +kernel
theorem dJxa1e45_init_da8c8_4 : decode cJxa1e45_init_da8c8 4 = .ok (.return_, 1) := by decide +kernel
set_option maxRecDepth 20000 in
theorem ggJxc12de_init_da8c8_Jxa1e45_init_da8c8 : GoodIn wsJxc12de_init_da8c8 wsJxa1e45_init_da8c8 := goodIn_r _ [5, 6, 7, 8] (by decide +kernel) (by decide +kernel)
set_option maxRecDepth 20000 in
theorem gJxc12de_init_da8c8_Jxa1e45_init_da8c8 : GoodIn wsJxc12de_init_da8c8 (wsJxa1e45_init_da8c8) := ggJxc12de_init_da8c8_Jxa1e45_init_da8c8
theorem dJxc12de_init_da8c8_0 : decode cJxc12de_init_da8c8 0 = .ok (.aload_n 0, 1) := by decide +kernel
theorem dJxc12de_init_da8c8_1 : decode cJxc12de_init_da8c8 1 = .ok (.invokespecial 1, 3) := by decide +kernel
theorem dJxc12de_init_da8c8_4 : decode cJxc12de_init_da8c8 4 = .ok (.aload_n 0, 1) := by decide +kernel
theorem dJxc12de_init_da8c8_5 : decode cJxc12de_init_da8c8 5 = .ok (.iconst 0, 1) := by decide +kernel
theorem dJxc12de_init_da8c8_6 : decode cJxc12de_init_da8c8 6 = .ok (.putfield 7, 3) := by decide +kernel
theorem dJxc12de_init_da8c8_9 : decode cJxc12de_init_da8c8 9 = .ok (.return_, 1) := by decide +kernel
set_option maxRecDepth 20000 in
theorem ggJx4a65c_init_da8c8_Jxc12de_init_da8c8 : GoodIn wsJx4a65c_init_da8c8 wsJxc12de_init_da8c8 := goodIn_r _ [6, 7, 8, 9, 10, 11, 12, 13, 14, 15, 16, 17] (by decide +kernel) (by decide +kernel)
set_option maxRecDepth 20000 in
theorem gJx4a65c_init_da8c8_Jxc12de_init_da8c8 : GoodIn wsJx4a65c_init_da8c8 (wsJxc12de_init_da8c8) := ggJx4a65c_init_da8c8_Jxc12de_init_da8c8
theorem dJx4a65c_init_da8c8_0 : decode cJx4a65c_init_da8c8 0 = .ok (.aload_n 0, 1) := by decide +kernel
theorem dJx4a65c_init_da8c8_1 : decode cJx4a65c_init_da8c8 1 = .ok (.invokespecial 1, 3) := by decide +kernel
theorem dJx4a65c_init_da8c8_4 : decode cJx4a65c_init_da8c8 4 = .ok (.aload_n 0, 1) := by decide +kernel
theorem dJx4a65c_init_da8c8_5 : decode cJx4a65c_init_da8c8 5 = .ok (.getstatic 39, 3) := by decide +kernel
theorem dJx4a65c_init_da8c8_8 : decode cJx4a65c_init_da8c8 8 = .ok (.putfield 9, 3) := by decide +kernel
theorem dJx4a65c_init_da8c8_11 : decode cJx4a65c_init_da8c8 11 = .ok (.return_, 1) := by decide +kernel
set_option maxRecDepth 20000 in
theorem ggJx4a65c_grow_92f84_J8_newLength_cabcc : GoodIn wsJx4a65c_grow_92f84 wsJ8_newLength_cabcc := goodIn_r _ [11, 12, 4, 5, 6, 13, 14, 15, 10, 16] (by decide +kernel) (by decide +kernel)
set_option maxRecDepth 20000 in
theorem gJx4a65c_grow_92f84_J8_newLength_cabcc : GoodIn wsJx4a65c_grow_92f84 (va_wsS RJx4a65c 73 yJ8_newLength_cabcc wsJ8_newLength_cabcc) := goodIn_app (goodIn_of _ (by decide +kernel)) ggJx4a65c_grow_92f84_J8_newLength_cabcc
set_option maxRecDepth 20000 in
theorem ggJx4a65c_grow_92f84_J7_copyOf_1904c : GoodIn wsJx4a65c_grow_92f84 wsJ7_copyOf_1904c := goodIn_r _ [20, 21, 22, 23, 24, 25, 26, 19, 27, 28, 29, 30, 31, 5, 32, 33, 34, 35, 36] (by decide +kernel) (by decide +kernel)
set_option maxRecDepth 20000 in
theorem gJx4a65c_grow_92f84_J7_copyOf_1904c : GoodIn wsJx4a65c_grow_92f84 (va_wsS RJx4a65c 66 yJ7_copyOf_1904c wsJ7_copyOf_1904c) := goodIn_app (goodIn_of _ (by decide +kernel)) ggJx4a65c_grow_92f84_J7_copyOf_1904c
theorem dJx4a65c_grow_92f84_0 : decode cJx4a65c_grow_92f84 0 = .ok (.aload_n 0, 1) := by decide +kernel
theorem dJx4a65c_grow_92f84_1 : decode cJx4a65c_grow_92f84 1 = .ok (.getfield 9, 3) := by decide +kernel
theorem dJx4a65c_grow_92f84_4 : decode cJx4a65c_grow_92f84 4 = .ok (.arraylength, 1) := by decide +kernel
theorem dJx4a65c_grow_92f84_5 : decode cJx4a65c_grow_92f84 5 = .ok (.istore_n 2, 1) := by decide +kernel
theorem dJx4a65c_grow_92f84_6 : decode cJx4a65c_grow_92f84 6 = .ok (.iload_n 2, 1) := by decide +kernel
theorem dJx4a65c_grow_92f84_7 : decode cJx4a65c_grow_92f84 7 = .ok (.ifCond .gt 13, 3) := by decide +kernel
theorem dJx4a65c_grow_92f84_10 : decode cJx4a65c_grow_92f84 10 = .ok (.aload_n 0, 1) := by decide +kernel
theorem dJx4a65c_grow_92f84_11 : decode cJx4a65c_grow_92f84 11 = .ok (.getfield 9, 3) := by decide +kernel
theorem dJx4a65c_grow_92f84_14 : decode cJx4a65c_grow_92f84 14 = .ok (.getstatic 39, 3) := by decide +kernel
theorem dJx4a65c_grow_92f84_17 : decode cJx4a65c_grow_92f84 17 = .ok (.if_acmp .eq 28, 3) := by decide +kernel
theorem dJx4a65c_grow_92f84_20 : decode cJx4a65c_grow_92f84 20 = .ok (.iload_n 2, 1) := by decide +kernel
theorem dJx4a65c_grow_92f84_21 : decode cJx4a65c_grow_92f84 21 = .ok (.iload_n 1, 1) := by decide +kernel
theorem dJx4a65c_grow_92f84_22 : decode cJx4a65c_grow_92f84 22 = .ok (.iload_n 2, 1) := by decide +kernel
theorem dJx4a65c_grow_92f84_23 : decode cJx4a65c_grow_92f84 23 = .ok (.isub, 1) := by decide +kernel
theorem dJx4a65c_grow_92f84_24 : decode cJx4a65c_grow_92f84 24 = .ok (.iload_n 2, 1) := by decide +kernel
theorem dJx4a65c_grow_92f84_25 : decode cJx4a65c_grow_92f84 25 = .ok (.iconst 1, 1) := by decide +kernel
theorem dJx4a65c_grow_92f84_26 : decode cJx4a65c_grow_92f84 26 = .ok (.ishr, 1) := by decide +kernel
theorem dJx4a65c_grow_92f84_27 : decode cJx4a65c_grow_92f84 27 = .ok (.invokestatic 73, 3) := by decide +kernel
theorem dJx4a65c_grow_92f84_30 : decode cJx4a65c_grow_92f84 30 = .ok (.istore_n 3, 1) := by decide +kernel
theorem dJx4a65c_grow_92f84_31 : decode cJx4a65c_grow_92f84 31 = .ok (.aload_n 0, 1) := by decide +kernel
theorem dJx4a65c_grow_92f84_32 : decode cJx4a65c_grow_92f84 32 = .ok (.aload_n 0, 1) := by decide +kernel
theorem dJx4a65c_grow_92f84_33 : decode cJx4a65c_grow_92f84 33 = .ok (.getfield 9, 3) := by decide +kernel
theorem dJx4a65c_grow_92f84_36 : decode cJx4a65c_grow_92f84 36 = .ok (.iload_n 3, 1) := by decide +kernel
theorem dJx4a65c_grow_92f84_37 : decode cJx4a65c_grow_92f84 37 = .ok (.invokestatic 66, 3) := by decide +kernel
theorem dJx4a65c_grow_92f84_40 : decode cJx4a65c_grow_92f84 40 = .ok (.dup_x1, 1) := by decide +kernel
theorem dJx4a65c_grow_92f84_41 : decode cJx4a65c_grow_92f84 41 = .ok (.putfield 9, 3) := by decide +kernel
theorem dJx4a65c_grow_92f84_44 : decode cJx4a65c_grow_92f84 44 = .ok (.areturn, 1) := by decide +kernel
theorem dJx4a65c_grow_92f84_45 : decode cJx4a65c_grow_92f84 45 = .ok (.aload_n 0, 1) := by decide +kernel
theorem dJx4a65c_grow_92f84_46 : decode cJx4a65c_grow_92f84 46 = .ok (.bipush 10, 2) := by decide +kernel
theorem dJx4a65c_grow_92f84_48 : decode cJx4a65c_grow_92f84 48 = .ok (.iload_n 1, 1) := by decide +kernel
theorem dJx4a65c_grow_92f84_49 : decode cJx4a65c_grow_92f84 49 = .ok (.invokestatic 79, 3) := by decide +kernel
theorem dJx4a65c_grow_92f84_52 : decode cJx4a65c_grow_92f84 52 = .ok (.anewarray 7, 3) := by decide +kernel
theorem dJx4a65c_grow_92f84_55 : decode cJx4a65c_grow_92f84 55 = .ok (.dup_x1, 1) := by decide +kernel
theorem dJx4a65c_grow_92f84_56 : decode cJx4a65c_grow_92f84 56 = .ok (.putfield 9, 3) := by decide +kernel
theorem dJx4a65c_grow_92f84_59 : decode cJx4a65c_grow_92f84 59 = .ok (.areturn, 1) := by decide +kernel
set_option maxRecDepth 20000 in
theorem ggJx4a65c_grow_d5877_Jx4a65c_grow_92f84 : GoodIn wsJx4a65c_grow_d5877 wsJx4a65c_grow_92f84 := goodIn_r _ [6, 7, 8, 9, 10, 11, 12, 13, 14, 15, 16, 17, 18, 19, 20, 21, 22, 23, 24, 25, 26, 27, 28, 29, 30, 31, 32, 33, 34, 35, 36, 37, 38, 39, 40, 41, 42, 43, 44, 45] (by decide +kernel) (by decide +kernel)
set_option maxRecDepth 20000 in
theorem gJx4a65c_grow_d5877_Jx4a65c_grow_92f84 : GoodIn wsJx4a65c_grow_d5877 (wsV RJx4a65c 69 RJx4a65c yJx4a65c_grow_92f84 wsJx4a65c_grow_92f84) := goodIn_app (goodIn_of _ (by decide +kernel)) ggJx4a65c_grow_d5877_Jx4a65c_grow_92f84
theorem dJx4a65c_grow_d5877_0 : decode cJx4a65c_grow_d5877 0 = .ok (.aload_n 0, 1) := by decide +kernel
theorem dJx4a65c_grow_d5877_1 : decode cJx4a65c_grow_d5877 1 = .ok (.aload_n 0, 1) := by decide +kernel
theorem dJx4a65c_grow_d5877_2 : decode cJx4a65c_grow_d5877 2 = .ok (.getfield 48, 3) := by decide +kernel
theorem dJx4a65c_grow_d5877_5 : decode cJx4a65c_grow_d5877 5 = .ok (.iconst 1, 1) := by decide +kernel
theorem dJx4a65c_grow_d5877_6 : decode cJx4a65c_grow_d5877 6 = .ok (.iadd, 1) := by decide +kernel
theorem dJx4a65c_grow_d5877_7 : decode cJx4a65c_grow_d5877 7 = .ok (.invokevirtual 69, 3) := by decide +kernel
theorem dJx4a65c_grow_d5877_10 : decode cJx4a65c_grow_d5877 10 = .ok (.areturn, 1) := by decide +kernel
theorem dJx4a65c_size_8abf5_0 : decode cJx4a65c_size_8abf5 0 = .ok (.aload_n 0, 1) := by decide +kernel
theorem dJx4a65c_size_8abf5_1 : decode cJx4a65c_size_8abf5 1 = .ok (.getfield 48, 3) := by decide +kernel
theorem dJx4a65c_size_8abf5_4 : decode cJx4a65c_size_8abf5 4 = .ok (.ireturn, 1) := by decide +kernel
theorem dJx4a65c_elementData_915e3_0 : decode cJx4a65c_elementData_915e3 0 = .ok (.aload_n 0, 1) := by decide +kernel
theorem dJx4a65c_elementData_915e3_1 : decode cJx4a65c_elementData_915e3 1 = .ok (.getfield 9, 3) := by decide +kernel
theorem dJx4a65c_elementData_915e3_4 : decode cJx4a65c_elementData_915e3 4 = .ok (.iload_n 1, 1) := by decide +kernel
theorem dJx4a65c_elementData_915e3_5 : decode cJx4a65c_elementData_915e3 5 = .ok (.aaload, 1) := by decide +kernel
theorem dJx4a65c_elementData_915e3_6 : decode cJx4a65c_elementData_915e3 6 = .ok (.areturn, 1) := by decide +kernel
set_option maxRecDepth 20000 in
theorem ggJx4a65c_get_915e3_J15_checkIndex_7cf53 : GoodIn wsJx4a65c_get_915e3 wsJ15_checkIndex_7cf53 := goodIn_r _ [5, 6, 7, 8, 9] (by decide +kernel) (by decide +kernel)
set_option maxRecDepth 20000 in
theorem gJx4a65c_get_915e3_J15_checkIndex_7cf53 : GoodIn wsJx4a65c_get_915e3 (va_wsS RJx4a65c 118 yJ15_checkIndex_7cf53 wsJ15_checkIndex_7cf53) := goodIn_app (goodIn_of _ (by decide +kernel)) ggJx4a65c_get_915e3_J15_checkIndex_7cf53
set_option maxRecDepth 20000 in
theorem ggJx4a65c_get_915e3_Jx4a65c_elementData_915e3 : GoodIn wsJx4a65c_get_915e3 wsJx4a65c_elementData_915e3 := goodIn_r _ [14, 15, 16, 17, 18] (by decide +kernel) (by decide +kernel)
set_option maxRecDepth 20000 in
theorem gJx4a65c_get_915e3_Jx4a65c_elementData_915e3 : GoodIn wsJx4a65c_get_915e3 (wsV RJx4a65c 123 RJx4a65c yJx4a65c_elementData_915e3 wsJx4a65c_elementData_915e3) := goodIn_app (goodIn_of _ (by decide +kernel)) ggJx4a65c_get_915e3_Jx4a65c_elementData_915e3
theorem dJx4a65c_get_915e3_0 : decode cJx4a65c_get_915e3 0 = .ok (.iload_n 1, 1) := by decide +kernel
theorem dJx4a65c_get_915e3_1 : decode cJx4a65c_get_915e3 1 = .ok (.aload_n 0, 1) := by decide +kernel
theorem dJx4a65c_get_915e3_2 : decode cJx4a65c_get_915e3 2 = .ok (.getfield 48, 3) := by decide +kernel
theorem dJx4a65c_get_915e3_5 : decode cJx4a65c_get_915e3 5 = .ok (.invokestatic 118, 3) := by decide +kernel
theorem dJx4a65c_get_915e3_8 : decode cJx4a65c_get_915e3 8 = .ok (.pop, 1) := by decide +kernel
theorem dJx4a65c_get_915e3_9 : decode cJx4a65c_get_915e3 9 = .ok (.aload_n 0, 1) := by decide +kernel
theorem dJx4a65c_get_915e3_10 : decode cJx4a65c_get_915e3 10 = .ok (.iload_n 1, 1) := by decide +kernel
theorem dJx4a65c_get_915e3_11 : decode cJx4a65c_get_915e3 11 = .ok (.invokevirtual 123, 3) := by decide +kernel
theorem dJx4a65c_get_915e3_14 : decode cJx4a65c_get_915e3 14 = .ok (.areturn, 1) := by decide +kernel
set_option maxRecDepth 20000 in
theorem ggJx4a65c_add_72be8_Jx4a65c_grow_d5877 : GoodIn wsJx4a65c_add_72be8 wsJx4a65c_grow_d5877 := goodIn_r _ [6, 1, 7, 8, 9, 5, 10, 11, 12, 13, 14, 15, 16, 17, 18, 19, 20, 21, 22, 23, 24, 25, 26, 27, 28, 29, 30, 31, 32, 33, 34, 35, 36, 37, 38, 39, 40, 41, 42, 43, 44, 45, 46, 47, 48, 49] (by decide +kernel) (by decide +kernel)
set_option maxRecDepth 20000 in
theorem gJx4a65c_add_72be8_Jx4a65c_grow_d5877 : GoodIn wsJx4a65c_add_72be8 (wsV RJx4a65c 129 RJx4a65c yJx4a65c_grow_d5877 wsJx4a65c_grow_d5877) := goodIn_app (goodIn_of _ (by decide +kernel)) ggJx4a65c_add_72be8_Jx4a65c_grow_d5877
theorem dJx4a65c_add_72be8_0 : decode cJx4a65c_add_72be8 0 = .ok (.iload_n 3, 1) := by decide +kernel
theorem dJx4a65c_add_72be8_1 : decode cJx4a65c_add_72be8 1 = .ok (.aload_n 2, 1) := by decide +kernel
theorem dJx4a65c_add_72be8_2 : decode cJx4a65c_add_72be8 2 = .ok (.arraylength, 1) := by decide +kernel
theorem dJx4a65c_add_72be8_3 : decode cJx4a65c_add_72be8 3 = .ok (.if_icmp .ne 8, 3) := by decide +kernel
theorem dJx4a65c_add_72be8_6 : decode cJx4a65c_add_72be8 6 = .ok (.aload_n 0, 1) := by decide +kernel
theorem dJx4a65c_add_72be8_7 : decode cJx4a65c_add_72be8 7 = .ok (.invokevirtual 129, 3) := by decide +kernel
theorem dJx4a65c_add_72be8_10 : decode cJx4a65c_add_72be8 10 = .ok (.astore_n 2, 1) := by decide +kernel
theorem dJx4a65c_add_72be8_11 : decode cJx4a65c_add_72be8 11 = .ok (.aload_n 2, 1) := by decide +kernel
theorem dJx4a65c_add_72be8_12 : decode cJx4a65c_add_72be8 12 = .ok (.iload_n 3, 1) := by decide +kernel
theorem dJx4a65c_add_72be8_13 : decode cJx4a65c_add_72be8 13 = .ok (.aload_n 1, 1) := by decide +kernel
theorem dJx4a65c_add_72be8_14 : decode cJx4a65c_add_72be8 14 = .ok (.aastore, 1) := by decide +kernel
theorem dJx4a65c_add_72be8_15 : decode cJx4a65c_add_72be8 15 = .ok (.aload_n 0, 1) := by decide +kernel
theorem dJx4a65c_add_72be8_16 : decode cJx4a65c_add_72be8 16 = .ok (.iload_n 3, 1) := by decide +kernel
theorem dJx4a65c_add_72be8_17 : decode cJx4a65c_add_72be8 17 = .ok (.iconst 1, 1) := by decide +kernel
theorem dJx4a65c_add_72be8_18 : decode cJx4a65c_add_72be8 18 = .ok (.iadd, 1) := by decide +kernel
theorem dJx4a65c_add_72be8_19 : decode cJx4a65c_add_72be8 19 = .ok (.putfield 48, 3) := by decide +kernel
theorem dJx4a65c_add_72be8_22 : decode cJx4a65c_add_72be8 22 = .ok (.return_, 1) := by decide +kernel
set_option maxRecDepth 20000 in
theorem ggJx4a65c_add_9ea2d_Jx4a65c_add_72be8 : GoodIn wsJx4a65c_add_9ea2d wsJx4a65c_add_72be8 := goodIn_r _ [9, 4, 10, 11, 12, 8, 13, 14, 15, 16, 17, 3, 18, 19, 20, 21, 22, 23, 24, 25, 26, 27, 28, 29, 30, 31, 32, 33, 34, 35, 36, 37, 38, 39, 40, 41, 42, 43, 44, 45, 46, 47, 48, 49, 50, 51, 52, 53, 54, 55] (by decide +kernel) (by decide +kernel)
set_option maxRecDepth 20000 in
theorem gJx4a65c_add_9ea2d_Jx4a65c_add_72be8 : GoodIn wsJx4a65c_add_9ea2d (wsV RJx4a65c 131 RJx4a65c yJx4a65c_add_72be8 wsJx4a65c_add_72be8) := goodIn_app (goodIn_of _ (by decide +kernel)) ggJx4a65c_add_9ea2d_Jx4a65c_add_72be8
theorem dJx4a65c_add_9ea2d_0 : decode cJx4a65c_add_9ea2d 0 = .ok (.aload_n 0, 1) := by decide +kernel
theorem dJx4a65c_add_9ea2d_1 : decode cJx4a65c_add_9ea2d 1 = .ok (.dup, 1) := by decide +kernel
theorem dJx4a65c_add_9ea2d_2 : decode cJx4a65c_add_9ea2d 2 = .ok (.getfield 63, 3) := by decide +kernel
theorem dJx4a65c_add_9ea2d_5 : decode cJx4a65c_add_9ea2d 5 = .ok (.iconst 1, 1) := by decide +kernel
theorem dJx4a65c_add_9ea2d_6 : decode cJx4a65c_add_9ea2d 6 = .ok (.iadd, 1) := by decide +kernel
theorem dJx4a65c_add_9ea2d_7 : decode cJx4a65c_add_9ea2d 7 = .ok (.putfield 63, 3) := by decide +kernel
theorem dJx4a65c_add_9ea2d_10 : decode cJx4a65c_add_9ea2d 10 = .ok (.aload_n 0, 1) := by decide +kernel
theorem dJx4a65c_add_9ea2d_11 : decode cJx4a65c_add_9ea2d 11 = .ok (.aload_n 1, 1) := by decide +kernel
theorem dJx4a65c_add_9ea2d_12 : decode cJx4a65c_add_9ea2d 12 = .ok (.aload_n 0, 1) := by decide +kernel
theorem dJx4a65c_add_9ea2d_13 : decode cJx4a65c_add_9ea2d 13 = .ok (.getfield 9, 3) := by decide +kernel
theorem dJx4a65c_add_9ea2d_16 : decode cJx4a65c_add_9ea2d 16 = .ok (.aload_n 0, 1) := by decide +kernel
theorem dJx4a65c_add_9ea2d_17 : decode cJx4a65c_add_9ea2d 17 = .ok (.getfield 48, 3) := by decide +kernel
theorem dJx4a65c_add_9ea2d_20 : decode cJx4a65c_add_9ea2d 20 = .ok (.invokevirtual 131, 3) := by decide +kernel
theorem dJx4a65c_add_9ea2d_23 : decode cJx4a65c_add_9ea2d 23 = .ok (.iconst 1, 1) := by decide +kernel
theorem dJx4a65c_add_9ea2d_24 : decode cJx4a65c_add_9ea2d 24 = .ok (.ireturn, 1) := by decide +kernel
set_option maxRecDepth 20000 in
theorem ggJ7_copyOf_1904c_J7_copyOf_6403c : GoodIn wsJ7_copyOf_1904c wsJ7_copyOf_6403c := goodIn_r _ [8, 9, 10, 11, 12, 13, 14, 15, 16, 17, 18] (by decide +kernel) (by decide +kernel)
set_option maxRecDepth 20000 in
theorem gJ7_copyOf_1904c_J7_copyOf_6403c : GoodIn wsJ7_copyOf_1904c (va_wsS RJ7 300 yJ7_copyOf_6403c wsJ7_copyOf_6403c) := goodIn_app (goodIn_of _ (by decide +kernel)) ggJ7_copyOf_1904c_J7_copyOf_6403c
theorem dJ7_copyOf_1904c_0 : decode cJ7_copyOf_1904c 0 = .ok (.aload_n 0, 1) := by decide +kernel
theorem dJ7_copyOf_1904c_1 : decode cJ7_copyOf_1904c 1 = .ok (.iload_n 1, 1) := by decide +kernel
theorem dJ7_copyOf_1904c_2 : decode cJ7_copyOf_1904c 2 = .ok (.aload_n 0, 1) := by decide +kernel
theorem dJ7_copyOf_1904c_3 : decode cJ7_copyOf_1904c 3 = .ok (.invokevirtual 86, 3) := by decide +kernel
theorem dJ7_copyOf_1904c_6 : decode cJ7_copyOf_1904c 6 = .ok (.invokestatic 300, 3) := by decide +kernel
theorem dJ7_copyOf_1904c_9 : decode cJ7_copyOf_1904c 9 = .ok (.areturn, 1) := by decide +kernel
theorem dJ7_copyOf_6403c_0 : decode cJ7_copyOf_6403c 0 = .ok (.aload_n 2, 1) := by decide +kernel
theorem dJ7_copyOf_6403c_1 : decode cJ7_copyOf_6403c 1 = .ok (.ldc 110, 2) := by decide +kernel
theorem dJ7_copyOf_6403c_3 : decode cJ7_copyOf_6403c 3 = .ok (.if_acmp .ne 10, 3) := by decide +kernel
theorem dJ7_copyOf_6403c_6 : decode cJ7_copyOf_6403c 6 = .ok (.iload_n 1, 1) := by decide +kernel
theorem dJ7_copyOf_6403c_7 : decode cJ7_copyOf_6403c 7 = .ok (.anewarray 2, 3) := by decide +kernel
theorem dJ7_copyOf_6403c_10 : decode cJ7_copyOf_6403c 10 = .ok (.goto 14, 3) := by decide +kernel
theorem dJ7_copyOf_6403c_13 : decode cJ7_copyOf_6403c 13 = .ok (.aload_n 2, 1) := by decide +kernel
theorem dJ7_copyOf_6403c_14 : decode cJ7_copyOf_6403c 14 = .ok (.invokevirtual 90, 3) := by decide +kernel
theorem dJ7_copyOf_6403c_17 : decode cJ7_copyOf_6403c 17 = .ok (.iload_n 1, 1) := by decide +kernel
theorem dJ7_copyOf_6403c_18 : decode cJ7_copyOf_6403c 18 = .ok (.invokestatic 95, 3) := by decide +kernel
theorem dJ7_copyOf_6403c_21 : decode cJ7_copyOf_6403c 21 = .ok (.checkcast 110, 3) := by decide +kernel
theorem dJ7_copyOf_6403c_24 : decode cJ7_copyOf_6403c 24 = .ok (.astore_n 3, 1) := by decide +kernel
theorem dJ7_copyOf_6403c_25 : decode cJ7_copyOf_6403c 25 = .ok (.aload_n 0, 1) := by decide +kernel
theorem dJ7_copyOf_6403c_26 : decode cJ7_copyOf_6403c 26 = .ok (.iconst 0, 1) := by decide +kernel
theorem dJ7_copyOf_6403c_27 : decode cJ7_copyOf_6403c 27 = .ok (.aload_n 3, 1) := by decide +kernel
theorem dJ7_copyOf_6403c_28 : decode cJ7_copyOf_6403c 28 = .ok (.iconst 0, 1) := by decide +kernel
theorem dJ7_copyOf_6403c_29 : decode cJ7_copyOf_6403c 29 = .ok (.aload_n 0, 1) := by decide +kernel
theorem dJ7_copyOf_6403c_30 : decode cJ7_copyOf_6403c 30 = .ok (.arraylength, 1) := by decide +kernel
theorem dJ7_copyOf_6403c_31 : decode cJ7_copyOf_6403c 31 = .ok (.iload_n 1, 1) := by decide +kernel
theorem dJ7_copyOf_6403c_32 : decode cJ7_copyOf_6403c 32 = .ok (.invokestatic 304, 3) := by decide +kernel
theorem dJ7_copyOf_6403c_35 : decode cJ7_copyOf_6403c 35 = .ok (.invokestatic 150, 3) := by decide +kernel
theorem dJ7_copyOf_6403c_38 : decode cJ7_copyOf_6403c 38 = .ok (.aload_n 3, 1) := by decide +kernel
theorem dJ7_copyOf_6403c_39 : decode cJ7_copyOf_6403c 39 = .ok (.areturn, 1) := by decide +kernel
set_option maxRecDepth 20000 in
theorem ggJ15_checkIndex_7cf53_J3_checkIndex_8e157 : GoodIn wsJ15_checkIndex_7cf53 wsJ3_checkIndex_8e157 := goodIn_r _ [4] (by decide +kernel) (by decide +kernel)
set_option maxRecDepth 20000 in
theorem gJ15_checkIndex_7cf53_J3_checkIndex_8e157 : GoodIn wsJ15_checkIndex_7cf53 (va_wsS RJ15 105 yJ3_checkIndex_8e157 wsJ3_checkIndex_8e157) := goodIn_app (goodIn_of _ (by decide +kernel)) ggJ15_checkIndex_7cf53_J3_checkIndex_8e157
theorem dJ15_checkIndex_7cf53_0 : decode cJ15_checkIndex_7cf53 0 = .ok (.iload_n 0, 1) := by decide +kernel
theorem dJ15_checkIndex_7cf53_1 : decode cJ15_checkIndex_7cf53 1 = .ok (.iload_n 1, 1) := by decide +kernel
theorem dJ15_checkIndex_7cf53_2 : decode cJ15_checkIndex_7cf53 2 = .ok (.aconst_null, 1) := by decide +kernel
theorem dJ15_checkIndex_7cf53_3 : decode cJ15_checkIndex_7cf53 3 = .ok (.invokestatic 105, 3) := by decide +kernel
theorem dJ15_checkIndex_7cf53_6 : decode cJ15_checkIndex_7cf53 6 = .ok (.ireturn, 1) := by decide +kernel
set_option maxRecDepth 20000 in
theorem ggJ8_newLength_cabcc_J8_hugeLength_7cf53 : GoodIn wsJ8_newLength_cabcc wsJ8_hugeLength_7cf53 := goodIn_r _ [9, 5] (by decide +kernel) (by decide +kernel)
set_option maxRecDepth 20000 in
theorem gJ8_newLength_cabcc_J8_hugeLength_7cf53 : GoodIn wsJ8_newLength_cabcc (va_wsS RJ8 201 yJ8_hugeLength_7cf53 wsJ8_hugeLength_7cf53) := goodIn_app (goodIn_of _ (by decide +kernel)) ggJ8_newLength_cabcc_J8_hugeLength_7cf53
theorem dJ8_newLength_cabcc_0 : decode cJ8_newLength_cabcc 0 = .ok (.iload_n 0, 1) := by decide +kernel
theorem dJ8_newLength_cabcc_1 : decode cJ8_newLength_cabcc 1 = .ok (.iload_n 1, 1) := by decide +kernel
theorem dJ8_newLength_cabcc_2 : decode cJ8_newLength_cabcc 2 = .ok (.iload_n 2, 1) := by decide +kernel
theorem dJ8_newLength_cabcc_3 : decode cJ8_newLength_cabcc 3 = .ok (.invokestatic 194, 3) := by decide +kernel
theorem dJ8_newLength_cabcc_6 : decode cJ8_newLength_cabcc 6 = .ok (.iadd, 1) := by decide +kernel
theorem dJ8_newLength_cabcc_7 : decode cJ8_newLength_cabcc 7 = .ok (.istore_n 3, 1) := by decide +kernel
theorem dJ8_newLength_cabcc_8 : decode cJ8_newLength_cabcc 8 = .ok (.iconst 0, 1) := by decide +kernel
theorem dJ8_newLength_cabcc_9 : decode cJ8_newLength_cabcc 9 = .ok (.iload_n 3, 1) := by decide +kernel
theorem dJ8_newLength_cabcc_10 : decode cJ8_newLength_cabcc 10 = .ok (.if_icmp .ge 11, 3) := by decide +kernel
theorem dJ8_newLength_cabcc_13 : decode cJ8_newLength_cabcc 13 = .ok (.iload_n 3, 1) := by decide +kernel
theorem dJ8_newLength_cabcc_14 : decode cJ8_newLength_cabcc 14 = .ok (.ldc 200, 2) := by decide +kernel
theorem dJ8_newLength_cabcc_16 : decode cJ8_newLength_cabcc 16 = .ok (.if_icmp .gt 5, 3) := by decide +kernel
theorem dJ8_newLength_cabcc_19 : decode cJ8_newLength_cabcc 19 = .ok (.iload_n 3, 1) := by decide +kernel
theorem dJ8_newLength_cabcc_20 : decode cJ8_newLength_cabcc 20 = .ok (.ireturn, 1) := by decide +kernel
theorem dJ8_newLength_cabcc_21 : decode cJ8_newLength_cabcc 21 = .ok (.iload_n 0, 1) := by decide +kernel
theorem dJ8_newLength_cabcc_22 : decode cJ8_newLength_cabcc 22 = .ok (.iload_n 1, 1) := by decide +kernel
theorem dJ8_newLength_cabcc_23 : decode cJ8_newLength_cabcc 23 = .ok (.invokestatic 201, 3) := by decide +kernel
theorem dJ8_newLength_cabcc_26 : decode cJ8_newLength_cabcc 26 = .ok (.ireturn, 1) := by decide +kernel
theorem dJ8_hugeLength_7cf53_0 : decode cJ8_hugeLength_7cf53 0 = .ok (.iload_n 0, 1) := by decide +kernel
theorem dJ8_hugeLength_7cf53_1 : decode cJ8_hugeLength_7cf53 1 = .ok (.iload_n 1, 1) := by decide +kernel
theorem dJ8_hugeLength_7cf53_2 : decode cJ8_hugeLength_7cf53 2 = .ok (.iadd, 1) := by decide +kernel
theorem dJ8_hugeLength_7cf53_3 : decode cJ8_hugeLength_7cf53 3 = .ok (.istore_n 2, 1) := by decide +kernel
theorem dJ8_hugeLength_7cf53_4 : decode cJ8_hugeLength_7cf53 4 = .ok (.iload_n 2, 1) := by decide +kernel
theorem dJ8_hugeLength_7cf53_5 : decode cJ8_hugeLength_7cf53 5 = .ok (.ifCond .ge 44, 3) := by decide +kernel
theorem dJ8_hugeLength_7cf53_8 : decode cJ8_hugeLength_7cf53 8 = .ok (.new 204, 3) := by decide +kernel
theorem dJ8_hugeLength_7cf53_11 : decode cJ8_hugeLength_7cf53 11 = .ok (.dup, 1) := by decide +kernel
theorem dJ8_hugeLength_7cf53_12 : decode cJ8_hugeLength_7cf53 12 = .ok (.new 89, 3) := by decide +kernel
theorem dJ8_hugeLength_7cf53_15 : decode cJ8_hugeLength_7cf53 15 = .ok (.dup, 1) := by decide +kernel
theorem dJ8_hugeLength_7cf53_16 : decode cJ8_hugeLength_7cf53 16 = .ok (.invokespecial 91, 3) := by decide +kernel
theorem dJ8_hugeLength_7cf53_19 : decode cJ8_hugeLength_7cf53 19 = .ok (.ldc 206, 2) := by decide +kernel
theorem dJ8_hugeLength_7cf53_21 : decode cJ8_hugeLength_7cf53 21 = .ok (.invokevirtual 94, 3) := by decide +kernel
theorem dJ8_hugeLength_7cf53_24 : decode cJ8_hugeLength_7cf53 24 = .ok (.iload_n 0, 1) := by decide +kernel
theorem dJ8_hugeLength_7cf53_25 : decode cJ8_hugeLength_7cf53 25 = .ok (.invokevirtual 98, 3) := by decide +kernel
theorem dJ8_hugeLength_7cf53_28 : decode cJ8_hugeLength_7cf53 28 = .ok (.ldc 208, 2) := by decide +kernel
theorem dJ8_hugeLength_7cf53_30 : decode cJ8_hugeLength_7cf53 30 = .ok (.invokevirtual 94, 3) := by decide +kernel
theorem dJ8_hugeLength_7cf53_33 : decode cJ8_hugeLength_7cf53 33 = .ok (.iload_n 1, 1) := by decide +kernel
theorem dJ8_hugeLength_7cf53_34 : decode cJ8_hugeLength_7cf53 34 = .ok (.invokevirtual 98, 3) := by decide +kernel
theorem dJ8_hugeLength_7cf53_37 : decode cJ8_hugeLength_7cf53 37 = .ok (.ldc 210, 2) := by decide +kernel
theorem dJ8_hugeLength_7cf53_39 : decode cJ8_hugeLength_7cf53 39 = .ok (.invokevirtual 94, 3) := by decide +kernel
theorem dJ8_hugeLength_7cf53_42 : decode cJ8_hugeLength_7cf53 42 = .ok (.invokevirtual 101, 3) := by decide +kernel
theorem dJ8_hugeLength_7cf53_45 : decode cJ8_hugeLength_7cf53 45 = .ok (.invokespecial 212, 3) := by decide +kernel
theorem dJ8_hugeLength_7cf53_48 : decode cJ8_hugeLength_7cf53 48 = .ok (.athrow, 1) := by decide +kernel
theorem dJ8_hugeLength_7cf53_49 : decode cJ8_hugeLength_7cf53 49 = .ok (.iload_n 2, 1) := by decide +kernel
theorem dJ8_hugeLength_7cf53_50 : decode cJ8_hugeLength_7cf53 50 = .ok (.ldc 200, 2) := by decide +kernel
theorem dJ8_hugeLength_7cf53_52 : decode cJ8_hugeLength_7cf53 52 = .ok (.if_icmp .gt 6, 3) := by decide +kernel
theorem dJ8_hugeLength_7cf53_55 : decode cJ8_hugeLength_7cf53 55 = .ok (.ldc 200, 2) := by decide +kernel
theorem dJ8_hugeLength_7cf53_57 : decode cJ8_hugeLength_7cf53 57 = .ok (.ireturn, 1) := by decide +kernel
theorem dJ8_hugeLength_7cf53_58 : decode cJ8_hugeLength_7cf53 58 = .ok (.iload_n 2, 1) := by decide +kernel
theorem dJ8_hugeLength_7cf53_59 : decode cJ8_hugeLength_7cf53 59 = .ok (.ireturn, 1) := by decide +kernel
theorem dJ3_checkIndex_8e157_0 : decode cJ3_checkIndex_8e157 0 = .ok (.iload_n 0, 1) := by decide +kernel
theorem dJ3_checkIndex_8e157_1 : decode cJ3_checkIndex_8e157 1 = .ok (.ifCond .lt 8, 3) := by decide +kernel
theorem dJ3_checkIndex_8e157_4 : decode cJ3_checkIndex_8e157 4 = .ok (.iload_n 0, 1) := by decide +kernel
theorem dJ3_checkIndex_8e157_5 : decode cJ3_checkIndex_8e157 5 = .ok (.iload_n 1, 1) := by decide +kernel
theorem dJ3_checkIndex_8e157_6 : decode cJ3_checkIndex_8e157 6 = .ok (.if_icmp .lt 10, 3) := by decide +kernel
theorem dJ3_checkIndex_8e157_9 : decode cJ3_checkIndex_8e157 9 = .ok (.aload_n 2, 1) := by decide +kernel
theorem dJ3_checkIndex_8e157_10 : decode cJ3_checkIndex_8e157 10 = .ok (.iload_n 0, 1) := by decide +kernel
theorem dJ3_checkIndex_8e157_11 : decode cJ3_checkIndex_8e157 11 = .ok (.iload_n 1, 1) := by decide +kernel
theorem dJ3_checkIndex_8e157_12 : decode cJ3_checkIndex_8e157 12 = .ok (.invokestatic 95, 3) := by decide +kernel
theorem dJ3_checkIndex_8e157_15 : decode cJ3_checkIndex_8e157 15 = .ok (.athrow, 1) := by decide +kernel
theorem dJ3_checkIndex_8e157_16 : decode cJ3_checkIndex_8e157 16 = .ok (.iload_n 0, 1) := by decide +kernel
theorem dJ3_checkIndex_8e157_17 : decode cJ3_checkIndex_8e157 17 = .ok (.ireturn, 1) := by decide +kernel
