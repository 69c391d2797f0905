theorem dX6_init_0 : decode cX6_init 0 = .ok (.aload_n 0, 1) := by decide +kernel
theorem dX6_init_1 : decode cX6_init 1 = .ok (.invokespecial 1, 3) := by decide +kernel
theorem dX6_init_4 : decode cX6_init 4 = .ok (.aload_n 0, 1) := by decide +kernel
theorem dX6_init_5 : decode cX6_init 5 = .ok (.bipush 24, 2) := by decide +kernel
theorem dX6_init_7 : decode cX6_init 7 = .ok (.newarray .int, 2) := by decide +kernel
theorem dX6_init_9 : decode cX6_init 9 = .ok (.putfield 9, 3) := by decide +kernel
theorem dX6_init_12 : decode cX6_init 12 = .ok (.aload_n 0, 1) := by decide +kernel
theorem dX6_init_13 : decode cX6_init 13 = .ok (.bipush 24, 2) := by decide +kernel
theorem dX6_init_15 : decode cX6_init 15 = .ok (.newarray .long, 2) := by decide +kernel
theorem dX6_init_17 : decode cX6_init 17 = .ok (.putfield 13, 3) := by decide +kernel
theorem dX6_init_20 : decode cX6_init 20 = .ok (.aload_n 0, 1) := by decide +kernel
theorem dX6_init_21 : decode cX6_init 21 = .ok (.iconst 4, 1) := by decide +kernel
theorem dX6_init_22 : decode cX6_init 22 = .ok (.anewarray 17, 3) := by decide +kernel
theorem dX6_init_25 : decode cX6_init 25 = .ok (.putfield 19, 3) := by decide +kernel
theorem dX6_init_28 : decode cX6_init 28 = .ok (.aload_n 0, 1) := by decide +kernel
theorem dX6_init_29 : decode cX6_init 29 = .ok (.bipush 9, 2) := by decide +kernel
theorem dX6_init_31 : decode cX6_init 31 = .ok (.anewarray 23, 3) := by decide +kernel
theorem dX6_init_34 : decode cX6_init 34 = .ok (.putfield 25, 3) := by decide +kernel
theorem dX6_init_37 : decode cX6_init 37 = .ok (.aload_n 0, 1) := by decide +kernel
theorem dX6_init_38 : decode cX6_init 38 = .ok (.bipush 15, 2) := by decide +kernel
theorem dX6_init_40 : decode cX6_init 40 = .ok (.anewarray 29, 3) := by decide +kernel
theorem dX6_init_43 : decode cX6_init 43 = .ok (.putfield 31, 3) := by decide +kernel
theorem dX6_init_46 : decode cX6_init 46 = .ok (.aload_n 0, 1) := by decide +kernel
theorem dX6_init_47 : decode cX6_init 47 = .ok (.bipush 15, 2) := by decide +kernel
theorem dX6_init_49 : decode cX6_init 49 = .ok (.anewarray 29, 3) := by decide +kernel
theorem dX6_init_52 : decode cX6_init 52 = .ok (.putfield 35, 3) := by decide +kernel
theorem dX6_init_55 : decode cX6_init 55 = .ok (.aload_n 0, 1) := by decide +kernel
theorem dX6_init_56 : decode cX6_init 56 = .ok (.iconst 0, 1) := by decide +kernel
theorem dX6_init_57 : decode cX6_init 57 = .ok (.putfield 38, 3) := by decide +kernel
theorem dX6_init_60 : decode cX6_init 60 = .ok (.return_, 1) := by decide +kernel
set_option maxRecDepth 20000 in
theorem ggX6_row_X6_within : GoodIn wsX6_row wsX6_within := goodIn_r _ [4] (by decide +kernel) (by decide +kernel)
set_option maxRecDepth 20000 in
theorem gX6_row_X6_within : GoodIn wsX6_row (va_wsS RX6 42 yX6_within wsX6_within) := goodIn_app (goodIn_of _ (by decide +kernel)) ggX6_row_X6_within
set_option maxRecDepth 20000 in
theorem ggX6_row_X3_mask : GoodIn wsX6_row wsX3_mask := goodIn_r _ [8] (by decide +kernel) (by decide +kernel)
set_option maxRecDepth 20000 in
theorem gX6_row_X3_mask : GoodIn wsX6_row (va_wsS RX6 46 yX3_mask wsX3_mask) := goodIn_app (goodIn_of _ (by decide +kernel)) ggX6_row_X3_mask
set_option maxRecDepth 20000 in
theorem ggX6_row_X6_fits : GoodIn wsX6_row wsX6_fits := goodIn_r _ [12, 13, 20, 21, 22, 23, 24, 25, 26] (by decide +kernel) (by decide +kernel)
set_option maxRecDepth 20000 in
theorem gX6_row_X6_fits : GoodIn wsX6_row (wsV RX6 52 RX6 yX6_fits wsX6_fits) := goodIn_app (goodIn_of _ (by decide +kernel)) ggX6_row_X6_fits
set_option maxRecDepth 20000 in
theorem ggX6_row_X6_added : GoodIn wsX6_row wsX6_added := goodIn_r _ [17, 13, 18, 19, 20, 21, 22, 23, 24, 25, 26] (by decide +kernel) (by decide +kernel)
set_option maxRecDepth 20000 in
theorem gX6_row_X6_added : GoodIn wsX6_row (wsV RX6 56 RX6 yX6_added wsX6_added) := goodIn_app (goodIn_of _ (by decide +kernel)) ggX6_row_X6_added
theorem dX6_row_0 : decode cX6_row 0 = .ok (.iload_n 1, 1) := by decide +kernel
theorem dX6_row_1 : decode cX6_row 1 = .ok (.iconst 1, 1) := by decide +kernel
theorem dX6_row_2 : decode cX6_row 2 = .ok (.bipush 32, 2) := by decide +kernel
theorem dX6_row_4 : decode cX6_row 4 = .ok (.invokestatic 42, 3) := by decide +kernel
theorem dX6_row_7 : decode cX6_row 7 = .ok (.ifCond .eq 18, 3) := by decide +kernel
theorem dX6_row_10 : decode cX6_row 10 = .ok (.lload_n 2, 1) := by decide +kernel
theorem dX6_row_11 : decode cX6_row 11 = .ok (.lconst 0, 1) := by decide +kernel
theorem dX6_row_12 : decode cX6_row 12 = .ok (.lcmp, 1) := by decide +kernel
theorem dX6_row_13 : decode cX6_row 13 = .ok (.ifCond .lt 12, 3) := by decide +kernel
theorem dX6_row_16 : decode cX6_row 16 = .ok (.lload_n 2, 1) := by decide +kernel
theorem dX6_row_17 : decode cX6_row 17 = .ok (.iload_n 1, 1) := by decide +kernel
theorem dX6_row_18 : decode cX6_row 18 = .ok (.invokestatic 46, 3) := by decide +kernel
theorem dX6_row_21 : decode cX6_row 21 = .ok (.lcmp, 1) := by decide +kernel
theorem dX6_row_22 : decode cX6_row 22 = .ok (.ifCond .le 5, 3) := by decide +kernel
theorem dX6_row_25 : decode cX6_row 25 = .ok (.iconst (-1), 1) := by decide +kernel
theorem dX6_row_26 : decode cX6_row 26 = .ok (.ireturn, 1) := by decide +kernel
theorem dX6_row_27 : decode cX6_row 27 = .ok (.aload_n 0, 1) := by decide +kernel
theorem dX6_row_28 : decode cX6_row 28 = .ok (.iload_n 1, 1) := by decide +kernel
theorem dX6_row_29 : decode cX6_row 29 = .ok (.iconst 1, 1) := by decide +kernel
theorem dX6_row_30 : decode cX6_row 30 = .ok (.invokevirtual 52, 3) := by decide +kernel
theorem dX6_row_33 : decode cX6_row 33 = .ok (.ifCond .eq 12, 3) := by decide +kernel
theorem dX6_row_36 : decode cX6_row 36 = .ok (.aload_n 0, 1) := by decide +kernel
theorem dX6_row_37 : decode cX6_row 37 = .ok (.iload_n 1, 1) := by decide +kernel
theorem dX6_row_38 : decode cX6_row 38 = .ok (.lload_n 2, 1) := by decide +kernel
theorem dX6_row_39 : decode cX6_row 39 = .ok (.invokevirtual 56, 3) := by decide +kernel
theorem dX6_row_42 : decode cX6_row 42 = .ok (.goto 5, 3) := by decide +kernel
theorem dX6_row_45 : decode cX6_row 45 = .ok (.bipush (-3), 2) := by decide +kernel
theorem dX6_row_47 : decode cX6_row 47 = .ok (.ireturn, 1) := by decide +kernel
set_option maxRecDepth 20000 in
theorem ggX6_sheet_X6_isSheet : GoodIn wsX6_sheet wsX6_isSheet := goodIn_r _ [8, 9, 10, 7, 11] (by decide +kernel) (by decide +kernel)
set_option maxRecDepth 20000 in
theorem gX6_sheet_X6_isSheet : GoodIn wsX6_sheet (va_wsS RX6 60 yX6_isSheet wsX6_isSheet) := goodIn_app (goodIn_of _ (by decide +kernel)) ggX6_sheet_X6_isSheet
set_option maxRecDepth 20000 in
theorem ggX6_sheet_X6_isLane : GoodIn wsX6_sheet wsX6_isLane := goodIn_r _ [14, 9, 10, 7, 11] (by decide +kernel) (by decide +kernel)
set_option maxRecDepth 20000 in
theorem gX6_sheet_X6_isLane : GoodIn wsX6_sheet (va_wsS RX6 64 yX6_isLane wsX6_isLane) := goodIn_app (goodIn_of _ (by decide +kernel)) ggX6_sheet_X6_isLane
set_option maxRecDepth 20000 in
theorem ggX6_sheet_X2_init : GoodIn wsX6_sheet wsX2_init := goodIn_r _ [17, 18, 19, 20, 21, 22, 23, 24, 25, 26, 27, 35, 36] (by decide +kernel) (by decide +kernel)
set_option maxRecDepth 20000 in
theorem gX6_sheet_X2_init : GoodIn wsX6_sheet (wsX2_init) := ggX6_sheet_X2_init
theorem dX6_sheet_0 : decode cX6_sheet 0 = .ok (.iload_n 1, 1) := by decide +kernel
theorem dX6_sheet_1 : decode cX6_sheet 1 = .ok (.invokestatic 60, 3) := by decide +kernel
theorem dX6_sheet_4 : decode cX6_sheet 4 = .ok (.ifCond .eq 16, 3) := by decide +kernel
theorem dX6_sheet_7 : decode cX6_sheet 7 = .ok (.iload_n 2, 1) := by decide +kernel
theorem dX6_sheet_8 : decode cX6_sheet 8 = .ok (.invokestatic 64, 3) := by decide +kernel
theorem dX6_sheet_11 : decode cX6_sheet 11 = .ok (.ifCond .eq 9, 3) := by decide +kernel
theorem dX6_sheet_14 : decode cX6_sheet 14 = .ok (.iload_n 3, 1) := by decide +kernel
theorem dX6_sheet_15 : decode cX6_sheet 15 = .ok (.bipush 64, 2) := by decide +kernel
theorem dX6_sheet_17 : decode cX6_sheet 17 = .ok (.if_icmp .le 5, 3) := by decide +kernel
theorem dX6_sheet_20 : decode cX6_sheet 20 = .ok (.iconst (-1), 1) := by decide +kernel
theorem dX6_sheet_21 : decode cX6_sheet 21 = .ok (.ireturn, 1) := by decide +kernel
theorem dX6_sheet_22 : decode cX6_sheet 22 = .ok (.iload_n 3, 1) := by decide +kernel
theorem dX6_sheet_23 : decode cX6_sheet 23 = .ok (.ifCond .ge 6, 3) := by decide +kernel
theorem dX6_sheet_26 : decode cX6_sheet 26 = .ok (.bipush (-14), 2) := by decide +kernel
theorem dX6_sheet_28 : decode cX6_sheet 28 = .ok (.ireturn, 1) := by decide +kernel
theorem dX6_sheet_29 : decode cX6_sheet 29 = .ok (.aload_n 0, 1) := by decide +kernel
theorem dX6_sheet_30 : decode cX6_sheet 30 = .ok (.getfield 19, 3) := by decide +kernel
theorem dX6_sheet_33 : decode cX6_sheet 33 = .ok (.iload_n 1, 1) := by decide +kernel
theorem dX6_sheet_34 : decode cX6_sheet 34 = .ok (.new 17, 3) := by decide +kernel
theorem dX6_sheet_37 : decode cX6_sheet 37 = .ok (.dup, 1) := by decide +kernel
theorem dX6_sheet_38 : decode cX6_sheet 38 = .ok (.iload_n 2, 1) := by decide +kernel
theorem dX6_sheet_39 : decode cX6_sheet 39 = .ok (.iload_n 3, 1) := by decide +kernel
theorem dX6_sheet_40 : decode cX6_sheet 40 = .ok (.invokespecial 67, 3) := by decide +kernel
theorem dX6_sheet_43 : decode cX6_sheet 43 = .ok (.aastore, 1) := by decide +kernel
theorem dX6_sheet_44 : decode cX6_sheet 44 = .ok (.iconst 1, 1) := by decide +kernel
theorem dX6_sheet_45 : decode cX6_sheet 45 = .ok (.ireturn, 1) := by decide +kernel
set_option maxRecDepth 20000 in
theorem ggX6_lay_X6_isSheet : GoodIn wsX6_lay wsX6_isSheet := goodIn_r _ [5, 6, 7, 4, 8] (by decide +kernel) (by decide +kernel)
set_option maxRecDepth 20000 in
theorem gX6_lay_X6_isSheet : GoodIn wsX6_lay (va_wsS RX6 60 yX6_isSheet wsX6_isSheet) := goodIn_app (goodIn_of _ (by decide +kernel)) ggX6_lay_X6_isSheet
set_option maxRecDepth 20000 in
theorem ggX6_lay_X2_has : GoodIn wsX6_lay wsX2_has := goodIn_r _ [13, 14, 32, 33] (by decide +kernel) (by decide +kernel)
set_option maxRecDepth 20000 in
theorem gX6_lay_X2_has : GoodIn wsX6_lay (wsV RX6 70 RX2 yX2_has wsX2_has) := goodIn_app (goodIn_of _ (by decide +kernel)) ggX6_lay_X2_has
set_option maxRecDepth 20000 in
theorem ggX6_lay_X2_write : GoodIn wsX6_lay wsX2_write := goodIn_r _ [18, 14, 19, 10, 11, 12, 13, 20, 21, 22, 23, 24, 32, 33] (by decide +kernel) (by decide +kernel)
set_option maxRecDepth 20000 in
theorem gX6_lay_X2_write : GoodIn wsX6_lay (wsV RX6 73 RX2 yX2_write wsX2_write) := goodIn_app (goodIn_of _ (by decide +kernel)) ggX6_lay_X2_write
theorem dX6_lay_0 : decode cX6_lay 0 = .ok (.iload_n 1, 1) := by decide +kernel
theorem dX6_lay_1 : decode cX6_lay 1 = .ok (.invokestatic 60, 3) := by decide +kernel
theorem dX6_lay_4 : decode cX6_lay 4 = .ok (.ifCond .ne 5, 3) := by decide +kernel
theorem dX6_lay_7 : decode cX6_lay 7 = .ok (.iconst (-1), 1) := by decide +kernel
theorem dX6_lay_8 : decode cX6_lay 8 = .ok (.ireturn, 1) := by decide +kernel
theorem dX6_lay_9 : decode cX6_lay 9 = .ok (.aload_n 0, 1) := by decide +kernel
theorem dX6_lay_10 : decode cX6_lay 10 = .ok (.getfield 19, 3) := by decide +kernel
theorem dX6_lay_13 : decode cX6_lay 13 = .ok (.iload_n 1, 1) := by decide +kernel
theorem dX6_lay_14 : decode cX6_lay 14 = .ok (.aaload, 1) := by decide +kernel
theorem dX6_lay_15 : decode cX6_lay 15 = .ok (.astore 4, 2) := by decide +kernel
theorem dX6_lay_17 : decode cX6_lay 17 = .ok (.aload 4, 2) := by decide +kernel
theorem dX6_lay_19 : decode cX6_lay 19 = .ok (.ifnonnull 6, 3) := by decide +kernel
theorem dX6_lay_22 : decode cX6_lay 22 = .ok (.bipush (-11), 2) := by decide +kernel
theorem dX6_lay_24 : decode cX6_lay 24 = .ok (.ireturn, 1) := by decide +kernel
theorem dX6_lay_25 : decode cX6_lay 25 = .ok (.aload 4, 2) := by decide +kernel
theorem dX6_lay_27 : decode cX6_lay 27 = .ok (.iload_n 2, 1) := by decide +kernel
theorem dX6_lay_28 : decode cX6_lay 28 = .ok (.invokevirtual 70, 3) := by decide +kernel
theorem dX6_lay_31 : decode cX6_lay 31 = .ok (.ifCond .ne 6, 3) := by decide +kernel
theorem dX6_lay_34 : decode cX6_lay 34 = .ok (.bipush (-12), 2) := by decide +kernel
theorem dX6_lay_36 : decode cX6_lay 36 = .ok (.ireturn, 1) := by decide +kernel
theorem dX6_lay_37 : decode cX6_lay 37 = .ok (.aload 4, 2) := by decide +kernel
theorem dX6_lay_39 : decode cX6_lay 39 = .ok (.iload_n 2, 1) := by decide +kernel
theorem dX6_lay_40 : decode cX6_lay 40 = .ok (.iload_n 3, 1) := by decide +kernel
theorem dX6_lay_41 : decode cX6_lay 41 = .ok (.invokevirtual 73, 3) := by decide +kernel
theorem dX6_lay_44 : decode cX6_lay 44 = .ok (.iconst 1, 1) := by decide +kernel
theorem dX6_lay_45 : decode cX6_lay 45 = .ok (.ireturn, 1) := by decide +kernel
set_option maxRecDepth 20000 in
theorem ggX6_draw_X6_isSheet : GoodIn wsX6_draw wsX6_isSheet := goodIn_r _ [6, 7, 8, 5, 9] (by decide +kernel) (by decide +kernel)
set_option maxRecDepth 20000 in
theorem gX6_draw_X6_isSheet : GoodIn wsX6_draw (va_wsS RX6 60 yX6_isSheet wsX6_isSheet) := goodIn_app (goodIn_of _ (by decide +kernel)) ggX6_draw_X6_isSheet
set_option maxRecDepth 20000 in
theorem ggX6_draw_X6_isLane : GoodIn wsX6_draw wsX6_isLane := goodIn_r _ [12, 7, 8, 5, 9] (by decide +kernel) (by decide +kernel)
set_option maxRecDepth 20000 in
theorem gX6_draw_X6_isLane : GoodIn wsX6_draw (va_wsS RX6 64 yX6_isLane wsX6_isLane) := goodIn_app (goodIn_of _ (by decide +kernel)) ggX6_draw_X6_isLane
set_option maxRecDepth 20000 in
theorem ggX6_draw_X6_within : GoodIn wsX6_draw wsX6_within := goodIn_r _ [9] (by decide +kernel) (by decide +kernel)
set_option maxRecDepth 20000 in
theorem gX6_draw_X6_within : GoodIn wsX6_draw (va_wsS RX6 42 yX6_within wsX6_within) := goodIn_app (goodIn_of _ (by decide +kernel)) ggX6_draw_X6_within
set_option maxRecDepth 20000 in
theorem ggX6_draw_X2_has : GoodIn wsX6_draw wsX2_has := goodIn_r _ [17, 18, 42, 43] (by decide +kernel) (by decide +kernel)
set_option maxRecDepth 20000 in
theorem gX6_draw_X2_has : GoodIn wsX6_draw (wsV RX6 70 RX2 yX2_has wsX2_has) := goodIn_app (goodIn_of _ (by decide +kernel)) ggX6_draw_X2_has
set_option maxRecDepth 20000 in
theorem ggX6_draw_X2_read : GoodIn wsX6_draw wsX2_read := goodIn_r _ [22, 18, 23, 14, 15, 16, 17, 42, 43] (by decide +kernel) (by decide +kernel)
set_option maxRecDepth 20000 in
theorem gX6_draw_X2_read : GoodIn wsX6_draw (wsV RX6 79 RX2 yX2_read wsX2_read) := goodIn_app (goodIn_of _ (by decide +kernel)) ggX6_draw_X2_read
set_option maxRecDepth 20000 in
theorem ggX6_draw_X6_fits : GoodIn wsX6_draw wsX6_fits := goodIn_r _ [27, 28, 35, 36, 37, 38, 39, 40, 41] (by decide +kernel) (by decide +kernel)
set_option maxRecDepth 20000 in
theorem gX6_draw_X6_fits : GoodIn wsX6_draw (wsV RX6 52 RX6 yX6_fits wsX6_fits) := goodIn_app (goodIn_of _ (by decide +kernel)) ggX6_draw_X6_fits
set_option maxRecDepth 20000 in
theorem ggX6_draw_X6_added : GoodIn wsX6_draw wsX6_added := goodIn_r _ [32, 28, 33, 34, 35, 36, 37, 38, 39, 40, 41] (by decide +kernel) (by decide +kernel)
set_option maxRecDepth 20000 in
theorem gX6_draw_X6_added : GoodIn wsX6_draw (wsV RX6 56 RX6 yX6_added wsX6_added) := goodIn_app (goodIn_of _ (by decide +kernel)) ggX6_draw_X6_added
theorem dX6_draw_0 : decode cX6_draw 0 = .ok (.iload_n 1, 1) := by decide +kernel
theorem dX6_draw_1 : decode cX6_draw 1 = .ok (.invokestatic 60, 3) := by decide +kernel
theorem dX6_draw_4 : decode cX6_draw 4 = .ok (.ifCond .eq 21, 3) := by decide +kernel
theorem dX6_draw_7 : decode cX6_draw 7 = .ok (.iload_n 2, 1) := by decide +kernel
theorem dX6_draw_8 : decode cX6_draw 8 = .ok (.invokestatic 64, 3) := by decide +kernel
theorem dX6_draw_11 : decode cX6_draw 11 = .ok (.ifCond .eq 14, 3) := by decide +kernel
theorem dX6_draw_14 : decode cX6_draw 14 = .ok (.iload 4, 2) := by decide +kernel
theorem dX6_draw_16 : decode cX6_draw 16 = .ok (.iconst 1, 1) := by decide +kernel
theorem dX6_draw_17 : decode cX6_draw 17 = .ok (.bipush 32, 2) := by decide +kernel
theorem dX6_draw_19 : decode cX6_draw 19 = .ok (.invokestatic 42, 3) := by decide +kernel
theorem dX6_draw_22 : decode cX6_draw 22 = .ok (.ifCond .ne 5, 3) := by decide +kernel
theorem dX6_draw_25 : decode cX6_draw 25 = .ok (.iconst (-1), 1) := by decide +kernel
theorem dX6_draw_26 : decode cX6_draw 26 = .ok (.ireturn, 1) := by decide +kernel
theorem dX6_draw_27 : decode cX6_draw 27 = .ok (.aload_n 0, 1) := by decide +kernel
theorem dX6_draw_28 : decode cX6_draw 28 = .ok (.getfield 19, 3) := by decide +kernel
theorem dX6_draw_31 : decode cX6_draw 31 = .ok (.iload_n 1, 1) := by decide +kernel
theorem dX6_draw_32 : decode cX6_draw 32 = .ok (.aaload, 1) := by decide +kernel
theorem dX6_draw_33 : decode cX6_draw 33 = .ok (.astore 5, 2) := by decide +kernel
theorem dX6_draw_35 : decode cX6_draw 35 = .ok (.aload 5, 2) := by decide +kernel
theorem dX6_draw_37 : decode cX6_draw 37 = .ok (.ifnonnull 6, 3) := by decide +kernel
theorem dX6_draw_40 : decode cX6_draw 40 = .ok (.bipush (-11), 2) := by decide +kernel
theorem dX6_draw_42 : decode cX6_draw 42 = .ok (.ireturn, 1) := by decide +kernel
theorem dX6_draw_43 : decode cX6_draw 43 = .ok (.aload 5, 2) := by decide +kernel
theorem dX6_draw_45 : decode cX6_draw 45 = .ok (.getfield 76, 3) := by decide +kernel
theorem dX6_draw_48 : decode cX6_draw 48 = .ok (.iload_n 2, 1) := by decide +kernel
theorem dX6_draw_49 : decode cX6_draw 49 = .ok (.if_icmp .eq 6, 3) := by decide +kernel
theorem dX6_draw_52 : decode cX6_draw 52 = .ok (.bipush (-13), 2) := by decide +kernel
theorem dX6_draw_54 : decode cX6_draw 54 = .ok (.ireturn, 1) := by decide +kernel
theorem dX6_draw_55 : decode cX6_draw 55 = .ok (.lconst 0, 1) := by decide +kernel
theorem dX6_draw_56 : decode cX6_draw 56 = .ok (.lstore 6, 2) := by decide +kernel
theorem dX6_draw_58 : decode cX6_draw 58 = .ok (.iconst 0, 1) := by decide +kernel
theorem dX6_draw_59 : decode cX6_draw 59 = .ok (.istore 8, 2) := by decide +kernel
theorem dX6_draw_61 : decode cX6_draw 61 = .ok (.iload 8, 2) := by decide +kernel
theorem dX6_draw_63 : decode cX6_draw 63 = .ok (.iload 4, 2) := by decide +kernel
theorem dX6_draw_65 : decode cX6_draw 65 = .ok (.if_icmp .ge 71, 3) := by decide +kernel
theorem dX6_draw_68 : decode cX6_draw 68 = .ok (.aload 5, 2) := by decide +kernel
theorem dX6_draw_70 : decode cX6_draw 70 = .ok (.iload_n 3, 1) := by decide +kernel
theorem dX6_draw_71 : decode cX6_draw 71 = .ok (.iload 8, 2) := by decide +kernel
theorem dX6_draw_73 : decode cX6_draw 73 = .ok (.iadd, 1) := by decide +kernel
theorem dX6_draw_74 : decode cX6_draw 74 = .ok (.invokevirtual 70, 3) := by decide +kernel
theorem dX6_draw_77 : decode cX6_draw 77 = .ok (.ifCond .ne 6, 3) := by decide +kernel
theorem dX6_draw_80 : decode cX6_draw 80 = .ok (.bipush (-12), 2) := by decide +kernel
theorem dX6_draw_82 : decode cX6_draw 82 = .ok (.ireturn, 1) := by decide +kernel
theorem dX6_draw_83 : decode cX6_draw 83 = .ok (.aload 5, 2) := by decide +kernel
theorem dX6_draw_85 : decode cX6_draw 85 = .ok (.iload_n 3, 1) := by decide +kernel
theorem dX6_draw_86 : decode cX6_draw 86 = .ok (.iload 8, 2) := by decide +kernel
theorem dX6_draw_88 : decode cX6_draw 88 = .ok (.iadd, 1) := by decide +kernel
theorem dX6_draw_89 : decode cX6_draw 89 = .ok (.invokevirtual 79, 3) := by decide +kernel
theorem dX6_draw_92 : decode cX6_draw 92 = .ok (.istore 9, 2) := by decide +kernel
theorem dX6_draw_94 : decode cX6_draw 94 = .ok (.iload 9, 2) := by decide +kernel
theorem dX6_draw_96 : decode cX6_draw 96 = .ok (.iconst 1, 1) := by decide +kernel
theorem dX6_draw_97 : decode cX6_draw 97 = .ok (.if_icmp .eq 15, 3) := by decide +kernel
theorem dX6_draw_100 : decode cX6_draw 100 = .ok (.iload 9, 2) := by decide +kernel
theorem dX6_draw_102 : decode cX6_draw 102 = .ok (.iconst (-1), 1) := by decide +kernel
theorem dX6_draw_103 : decode cX6_draw 103 = .ok (.if_icmp .eq 9, 3) := by decide +kernel
theorem dX6_draw_106 : decode cX6_draw 106 = .ok (.bipush (-20), 2) := by decide +kernel
theorem dX6_draw_108 : decode cX6_draw 108 = .ok (.iload 8, 2) := by decide +kernel
theorem dX6_draw_110 : decode cX6_draw 110 = .ok (.isub, 1) := by decide +kernel
theorem dX6_draw_111 : decode cX6_draw 111 = .ok (.ireturn, 1) := by decide +kernel
theorem dX6_draw_112 : decode cX6_draw 112 = .ok (.lload 6, 2) := by decide +kernel
theorem dX6_draw_114 : decode cX6_draw 114 = .ok (.iload 9, 2) := by decide +kernel
theorem dX6_draw_116 : decode cX6_draw 116 = .ok (.ifCond .ge 10, 3) := by decide +kernel
theorem dX6_draw_119 : decode cX6_draw 119 = .ok (.lconst 1, 1) := by decide +kernel
theorem dX6_draw_120 : decode cX6_draw 120 = .ok (.iload 8, 2) := by decide +kernel
theorem dX6_draw_122 : decode cX6_draw 122 = .ok (.lshl, 1) := by decide +kernel
theorem dX6_draw_123 : decode cX6_draw 123 = .ok (.goto 4, 3) := by decide +kernel
theorem dX6_draw_126 : decode cX6_draw 126 = .ok (.lconst 0, 1) := by decide +kernel
theorem dX6_draw_127 : decode cX6_draw 127 = .ok (.lor, 1) := by decide +kernel
theorem dX6_draw_128 : decode cX6_draw 128 = .ok (.lstore 6, 2) := by decide +kernel
theorem dX6_draw_130 : decode cX6_draw 130 = .ok (.iinc 8 1, 3) := by decide +kernel
theorem dX6_draw_133 : decode cX6_draw 133 = .ok (.goto (-72), 3) := by decide +kernel
theorem dX6_draw_136 : decode cX6_draw 136 = .ok (.aload_n 0, 1) := by decide +kernel
theorem dX6_draw_137 : decode cX6_draw 137 = .ok (.iload 4, 2) := by decide +kernel
theorem dX6_draw_139 : decode cX6_draw 139 = .ok (.iconst 1, 1) := by decide +kernel
theorem dX6_draw_140 : decode cX6_draw 140 = .ok (.invokevirtual 52, 3) := by decide +kernel
theorem dX6_draw_143 : decode cX6_draw 143 = .ok (.ifCond .eq 14, 3) := by decide +kernel
theorem dX6_draw_146 : decode cX6_draw 146 = .ok (.aload_n 0, 1) := by decide +kernel
theorem dX6_draw_147 : decode cX6_draw 147 = .ok (.iload 4, 2) := by decide +kernel
theorem dX6_draw_149 : decode cX6_draw 149 = .ok (.lload 6, 2) := by decide +kernel
theorem dX6_draw_151 : decode cX6_draw 151 = .ok (.invokevirtual 56, 3) := by decide +kernel
theorem dX6_draw_154 : decode cX6_draw 154 = .ok (.goto 5, 3) := by decide +kernel
theorem dX6_draw_157 : decode cX6_draw 157 = .ok (.bipush (-3), 2) := by decide +kernel
theorem dX6_draw_159 : decode cX6_draw 159 = .ok (.ireturn, 1) := by decide +kernel
theorem dX6_drop_0 : decode cX6_drop 0 = .ok (.aload_n 0, 1) := by decide +kernel
theorem dX6_drop_1 : decode cX6_drop 1 = .ok (.getfield 38, 3) := by decide +kernel
theorem dX6_drop_4 : decode cX6_drop 4 = .ok (.ifCond .ne 6, 3) := by decide +kernel
theorem dX6_drop_7 : decode cX6_drop 7 = .ok (.bipush (-4), 2) := by decide +kernel
theorem dX6_drop_9 : decode cX6_drop 9 = .ok (.ireturn, 1) := by decide +kernel
theorem dX6_drop_10 : decode cX6_drop 10 = .ok (.aload_n 0, 1) := by decide +kernel
theorem dX6_drop_11 : decode cX6_drop 11 = .ok (.dup, 1) := by decide +kernel
theorem dX6_drop_12 : decode cX6_drop 12 = .ok (.getfield 38, 3) := by decide +kernel
theorem dX6_drop_15 : decode cX6_drop 15 = .ok (.iconst 1, 1) := by decide +kernel
theorem dX6_drop_16 : decode cX6_drop 16 = .ok (.isub, 1) := by decide +kernel
theorem dX6_drop_17 : decode cX6_drop 17 = .ok (.putfield 38, 3) := by decide +kernel
theorem dX6_drop_20 : decode cX6_drop 20 = .ok (.aload_n 0, 1) := by decide +kernel
theorem dX6_drop_21 : decode cX6_drop 21 = .ok (.getfield 38, 3) := by decide +kernel
theorem dX6_drop_24 : decode cX6_drop 24 = .ok (.ireturn, 1) := by decide +kernel
set_option maxRecDepth 20000 in
theorem ggX6_length_X6_isRow : GoodIn wsX6_length wsX6_isRow := goodIn_r _ [6, 7, 8, 9, 5, 10, 11, 12, 13, 14, 15, 16, 17] (by decide +kernel) (by decide +kernel)
set_option maxRecDepth 20000 in
theorem gX6_length_X6_isRow : GoodIn wsX6_length (wsV RX6 83 RX6 yX6_isRow wsX6_isRow) := goodIn_app (goodIn_of _ (by decide +kernel)) ggX6_length_X6_isRow
theorem dX6_length_0 : decode cX6_length 0 = .ok (.aload_n 0, 1) := by decide +kernel
theorem dX6_length_1 : decode cX6_length 1 = .ok (.iload_n 1, 1) := by decide +kernel
theorem dX6_length_2 : decode cX6_length 2 = .ok (.invokevirtual 83, 3) := by decide +kernel
theorem dX6_length_5 : decode cX6_length 5 = .ok (.ifCond .eq 12, 3) := by decide +kernel
theorem dX6_length_8 : decode cX6_length 8 = .ok (.aload_n 0, 1) := by decide +kernel
theorem dX6_length_9 : decode cX6_length 9 = .ok (.getfield 9, 3) := by decide +kernel
theorem dX6_length_12 : decode cX6_length 12 = .ok (.iload_n 1, 1) := by decide +kernel
theorem dX6_length_13 : decode cX6_length 13 = .ok (.iaload, 1) := by decide +kernel
theorem dX6_length_14 : decode cX6_length 14 = .ok (.goto 4, 3) := by decide +kernel
theorem dX6_length_17 : decode cX6_length 17 = .ok (.iconst (-1), 1) := by decide +kernel
theorem dX6_length_18 : decode cX6_length 18 = .ok (.ireturn, 1) := by decide +kernel
set_option maxRecDepth 20000 in
theorem ggX6_place_X6_isRow : GoodIn wsX6_place wsX6_isRow := goodIn_r _ [7, 8, 9, 10, 6, 11, 16, 17, 18, 19, 20, 21, 22] (by decide +kernel) (by decide +kernel)
set_option maxRecDepth 20000 in
theorem gX6_place_X6_isRow : GoodIn wsX6_place (wsV RX6 83 RX6 yX6_isRow wsX6_isRow) := goodIn_app (goodIn_of _ (by decide +kernel)) ggX6_place_X6_isRow
set_option maxRecDepth 20000 in
theorem ggX6_place_X6_within : GoodIn wsX6_place wsX6_within := goodIn_r _ [11] (by decide +kernel) (by decide +kernel)
set_option maxRecDepth 20000 in
theorem gX6_place_X6_within : GoodIn wsX6_place (va_wsS RX6 42 yX6_within wsX6_within) := goodIn_app (goodIn_of _ (by decide +kernel)) ggX6_place_X6_within
set_option maxRecDepth 20000 in
theorem ggX6_place_X3_sign : GoodIn wsX6_place wsX3_sign := goodIn_r _ [15] (by decide +kernel) (by decide +kernel)
set_option maxRecDepth 20000 in
theorem gX6_place_X3_sign : GoodIn wsX6_place (va_wsS RX6 86 yX3_sign wsX3_sign) := goodIn_app (goodIn_of _ (by decide +kernel)) ggX6_place_X3_sign
theorem dX6_place_0 : decode cX6_place 0 = .ok (.aload_n 0, 1) := by decide +kernel
theorem dX6_place_1 : decode cX6_place 1 = .ok (.iload_n 1, 1) := by decide +kernel
theorem dX6_place_2 : decode cX6_place 2 = .ok (.invokevirtual 83, 3) := by decide +kernel
theorem dX6_place_5 : decode cX6_place 5 = .ok (.ifCond .eq 32, 3) := by decide +kernel
theorem dX6_place_8 : decode cX6_place 8 = .ok (.iload_n 2, 1) := by decide +kernel
theorem dX6_place_9 : decode cX6_place 9 = .ok (.iconst 0, 1) := by decide +kernel
theorem dX6_place_10 : decode cX6_place 10 = .ok (.aload_n 0, 1) := by decide +kernel
theorem dX6_place_11 : decode cX6_place 11 = .ok (.getfield 9, 3) := by decide +kernel
theorem dX6_place_14 : decode cX6_place 14 = .ok (.iload_n 1, 1) := by decide +kernel
theorem dX6_place_15 : decode cX6_place 15 = .ok (.iaload, 1) := by decide +kernel
theorem dX6_place_16 : decode cX6_place 16 = .ok (.iconst 1, 1) := by decide +kernel
theorem dX6_place_17 : decode cX6_place 17 = .ok (.isub, 1) := by decide +kernel
theorem dX6_place_18 : decode cX6_place 18 = .ok (.invokestatic 42, 3) := by decide +kernel
theorem dX6_place_21 : decode cX6_place 21 = .ok (.ifCond .eq 16, 3) := by decide +kernel
theorem dX6_place_24 : decode cX6_place 24 = .ok (.aload_n 0, 1) := by decide +kernel
theorem dX6_place_25 : decode cX6_place 25 = .ok (.getfield 13, 3) := by decide +kernel
theorem dX6_place_28 : decode cX6_place 28 = .ok (.iload_n 1, 1) := by decide +kernel
theorem dX6_place_29 : decode cX6_place 29 = .ok (.laload, 1) := by decide +kernel
theorem dX6_place_30 : decode cX6_place 30 = .ok (.iload_n 2, 1) := by decide +kernel
theorem dX6_place_31 : decode cX6_place 31 = .ok (.invokestatic 86, 3) := by decide +kernel
theorem dX6_place_34 : decode cX6_place 34 = .ok (.goto 4, 3) := by decide +kernel
theorem dX6_place_37 : decode cX6_place 37 = .ok (.iconst 0, 1) := by decide +kernel
theorem dX6_place_38 : decode cX6_place 38 = .ok (.ireturn, 1) := by decide +kernel
set_option maxRecDepth 20000 in
theorem ggX6_number_X6_isRow : GoodIn wsX6_number wsX6_isRow := goodIn_r _ [7, 8, 9, 10, 6, 11, 12, 13, 14, 15, 16, 17, 18] (by decide +kernel) (by decide +kernel)
set_option maxRecDepth 20000 in
theorem gX6_number_X6_isRow : GoodIn wsX6_number (wsV RX6 83 RX6 yX6_isRow wsX6_isRow) := goodIn_app (goodIn_of _ (by decide +kernel)) ggX6_number_X6_isRow
theorem dX6_number_0 : decode cX6_number 0 = .ok (.aload_n 0, 1) := by decide +kernel
theorem dX6_number_1 : decode cX6_number 1 = .ok (.iload_n 1, 1) := by decide +kernel
theorem dX6_number_2 : decode cX6_number 2 = .ok (.invokevirtual 83, 3) := by decide +kernel
theorem dX6_number_5 : decode cX6_number 5 = .ok (.ifCond .eq 12, 3) := by decide +kernel
theorem dX6_number_8 : decode cX6_number 8 = .ok (.aload_n 0, 1) := by decide +kernel
theorem dX6_number_9 : decode cX6_number 9 = .ok (.getfield 13, 3) := by decide +kernel
theorem dX6_number_12 : decode cX6_number 12 = .ok (.iload_n 1, 1) := by decide +kernel
theorem dX6_number_13 : decode cX6_number 13 = .ok (.laload, 1) := by decide +kernel
theorem dX6_number_14 : decode cX6_number 14 = .ok (.goto 6, 3) := by decide +kernel
theorem dX6_number_17 : decode cX6_number 17 = .ok (.ldc2_w 90, 3) := by decide +kernel
theorem dX6_number_20 : decode cX6_number 20 = .ok (.lreturn, 1) := by decide +kernel
set_option maxRecDepth 20000 in
theorem ggX6_open_X6_isRow : GoodIn wsX6_open wsX6_isRow := goodIn_r _ [7, 8, 9, 10, 6, 11, 26, 27, 28, 29, 30, 31, 32] (by decide +kernel) (by decide +kernel)
set_option maxRecDepth 20000 in
theorem gX6_open_X6_isRow : GoodIn wsX6_open (wsV RX6 83 RX6 yX6_isRow wsX6_isRow) := goodIn_app (goodIn_of _ (by decide +kernel)) ggX6_open_X6_isRow
set_option maxRecDepth 20000 in
theorem ggX6_open_X6_within : GoodIn wsX6_open wsX6_within := goodIn_r _ [11] (by decide +kernel) (by decide +kernel)
set_option maxRecDepth 20000 in
theorem gX6_open_X6_within : GoodIn wsX6_open (va_wsS RX6 42 yX6_within wsX6_within) := goodIn_app (goodIn_of _ (by decide +kernel)) ggX6_open_X6_within
set_option maxRecDepth 20000 in
theorem ggX6_open_X3_openSum : GoodIn wsX6_open wsX3_openSum := goodIn_r _ [15, 16, 17, 14, 18, 19, 20, 21, 22, 23, 24, 25] (by decide +kernel) (by decide +kernel)
set_option maxRecDepth 20000 in
theorem gX6_open_X3_openSum : GoodIn wsX6_open (va_wsS RX6 92 yX3_openSum wsX3_openSum) := goodIn_app (goodIn_of _ (by decide +kernel)) ggX6_open_X3_openSum
theorem dX6_open_0 : decode cX6_open 0 = .ok (.aload_n 0, 1) := by decide +kernel
theorem dX6_open_1 : decode cX6_open 1 = .ok (.iload_n 1, 1) := by decide +kernel
theorem dX6_open_2 : decode cX6_open 2 = .ok (.invokevirtual 83, 3) := by decide +kernel
theorem dX6_open_5 : decode cX6_open 5 = .ok (.ifCond .eq 38, 3) := by decide +kernel
theorem dX6_open_8 : decode cX6_open 8 = .ok (.iload_n 2, 1) := by decide +kernel
theorem dX6_open_9 : decode cX6_open 9 = .ok (.iconst 0, 1) := by decide +kernel
theorem dX6_open_10 : decode cX6_open 10 = .ok (.aload_n 0, 1) := by decide +kernel
theorem dX6_open_11 : decode cX6_open 11 = .ok (.getfield 9, 3) := by decide +kernel
theorem dX6_open_14 : decode cX6_open 14 = .ok (.iload_n 1, 1) := by decide +kernel
theorem dX6_open_15 : decode cX6_open 15 = .ok (.iaload, 1) := by decide +kernel
theorem dX6_open_16 : decode cX6_open 16 = .ok (.iconst 1, 1) := by decide +kernel
theorem dX6_open_17 : decode cX6_open 17 = .ok (.isub, 1) := by decide +kernel
theorem dX6_open_18 : decode cX6_open 18 = .ok (.invokestatic 42, 3) := by decide +kernel
theorem dX6_open_21 : decode cX6_open 21 = .ok (.ifCond .eq 22, 3) := by decide +kernel
theorem dX6_open_24 : decode cX6_open 24 = .ok (.aload_n 0, 1) := by decide +kernel
theorem dX6_open_25 : decode cX6_open 25 = .ok (.getfield 13, 3) := by decide +kernel
theorem dX6_open_28 : decode cX6_open 28 = .ok (.iload_n 1, 1) := by decide +kernel
theorem dX6_open_29 : decode cX6_open 29 = .ok (.laload, 1) := by decide +kernel
theorem dX6_open_30 : decode cX6_open 30 = .ok (.aload_n 0, 1) := by decide +kernel
theorem dX6_open_31 : decode cX6_open 31 = .ok (.getfield 9, 3) := by decide +kernel
theorem dX6_open_34 : decode cX6_open 34 = .ok (.iload_n 1, 1) := by decide +kernel
theorem dX6_open_35 : decode cX6_open 35 = .ok (.iaload, 1) := by decide +kernel
theorem dX6_open_36 : decode cX6_open 36 = .ok (.iload_n 2, 1) := by decide +kernel
theorem dX6_open_37 : decode cX6_open 37 = .ok (.invokestatic 92, 3) := by decide +kernel
theorem dX6_open_40 : decode cX6_open 40 = .ok (.goto 6, 3) := by decide +kernel
theorem dX6_open_43 : decode cX6_open 43 = .ok (.sipush 1000, 3) := by decide +kernel
theorem dX6_open_46 : decode cX6_open 46 = .ok (.ireturn, 1) := by decide +kernel
set_option maxRecDepth 20000 in
theorem ggX6_round_X6_isRow : GoodIn wsX6_round wsX6_isRow := goodIn_r _ [7, 8, 9, 10, 6, 11, 26, 27, 28, 29, 30, 31, 32] (by decide +kernel) (by decide +kernel)
set_option maxRecDepth 20000 in
theorem gX6_round_X6_isRow : GoodIn wsX6_round (wsV RX6 83 RX6 yX6_isRow wsX6_isRow) := goodIn_app (goodIn_of _ (by decide +kernel)) ggX6_round_X6_isRow
set_option maxRecDepth 20000 in
theorem ggX6_round_X6_within : GoodIn wsX6_round wsX6_within := goodIn_r _ [11] (by decide +kernel) (by decide +kernel)
set_option maxRecDepth 20000 in
theorem gX6_round_X6_within : GoodIn wsX6_round (va_wsS RX6 42 yX6_within wsX6_within) := goodIn_app (goodIn_of _ (by decide +kernel)) ggX6_round_X6_within
set_option maxRecDepth 20000 in
theorem ggX6_round_X3_roundSum : GoodIn wsX6_round wsX3_roundSum := goodIn_r _ [15, 16, 17, 14, 18, 19, 20, 21, 22, 23, 24, 25] (by decide +kernel) (by decide +kernel)
set_option maxRecDepth 20000 in
theorem gX6_round_X3_roundSum : GoodIn wsX6_round (va_wsS RX6 96 yX3_roundSum wsX3_roundSum) := goodIn_app (goodIn_of _ (by decide +kernel)) ggX6_round_X3_roundSum
theorem dX6_round_0 : decode cX6_round 0 = .ok (.aload_n 0, 1) := by decide +kernel
theorem dX6_round_1 : decode cX6_round 1 = .ok (.iload_n 1, 1) := by decide +kernel
theorem dX6_round_2 : decode cX6_round 2 = .ok (.invokevirtual 83, 3) := by decide +kernel
theorem dX6_round_5 : decode cX6_round 5 = .ok (.ifCond .eq 38, 3) := by decide +kernel
theorem dX6_round_8 : decode cX6_round 8 = .ok (.iload_n 2, 1) := by decide +kernel
theorem dX6_round_9 : decode cX6_round 9 = .ok (.iconst 0, 1) := by decide +kernel
theorem dX6_round_10 : decode cX6_round 10 = .ok (.aload_n 0, 1) := by decide +kernel
theorem dX6_round_11 : decode cX6_round 11 = .ok (.getfield 9, 3) := by decide +kernel
theorem dX6_round_14 : decode cX6_round 14 = .ok (.iload_n 1, 1) := by decide +kernel
theorem dX6_round_15 : decode cX6_round 15 = .ok (.iaload, 1) := by decide +kernel
theorem dX6_round_16 : decode cX6_round 16 = .ok (.iconst 1, 1) := by decide +kernel
theorem dX6_round_17 : decode cX6_round 17 = .ok (.isub, 1) := by decide +kernel
theorem dX6_round_18 : decode cX6_round 18 = .ok (.invokestatic 42, 3) := by decide +kernel
theorem dX6_round_21 : decode cX6_round 21 = .ok (.ifCond .eq 22, 3) := by decide +kernel
theorem dX6_round_24 : decode cX6_round 24 = .ok (.aload_n 0, 1) := by decide +kernel
theorem dX6_round_25 : decode cX6_round 25 = .ok (.getfield 13, 3) := by decide +kernel
theorem dX6_round_28 : decode cX6_round 28 = .ok (.iload_n 1, 1) := by decide +kernel
theorem dX6_round_29 : decode cX6_round 29 = .ok (.laload, 1) := by decide +kernel
theorem dX6_round_30 : decode cX6_round 30 = .ok (.aload_n 0, 1) := by decide +kernel
theorem dX6_round_31 : decode cX6_round 31 = .ok (.getfield 9, 3) := by decide +kernel
theorem dX6_round_34 : decode cX6_round 34 = .ok (.iload_n 1, 1) := by decide +kernel
theorem dX6_round_35 : decode cX6_round 35 = .ok (.iaload, 1) := by decide +kernel
theorem dX6_round_36 : decode cX6_round 36 = .ok (.iload_n 2, 1) := by decide +kernel
theorem dX6_round_37 : decode cX6_round 37 = .ok (.invokestatic 96, 3) := by decide +kernel
theorem dX6_round_40 : decode cX6_round 40 = .ok (.goto 6, 3) := by decide +kernel
theorem dX6_round_43 : decode cX6_round 43 = .ok (.sipush 1000, 3) := by decide +kernel
theorem dX6_round_46 : decode cX6_round 46 = .ok (.ireturn, 1) := by decide +kernel
set_option maxRecDepth 20000 in
theorem ggX6_about_X6_isRow : GoodIn wsX6_about wsX6_isRow := goodIn_r _ [7, 8, 9, 10, 6, 11, 61, 62, 63, 64, 65, 66, 67] (by decide +kernel) (by decide +kernel)
set_option maxRecDepth 20000 in
theorem gX6_about_X6_isRow : GoodIn wsX6_about (wsV RX6 83 RX6 yX6_isRow wsX6_isRow) := goodIn_app (goodIn_of _ (by decide +kernel)) ggX6_about_X6_isRow
set_option maxRecDepth 20000 in
theorem ggX6_about_X3_peak : GoodIn wsX6_about wsX3_peak := goodIn_r _ [15, 16, 17, 18, 19, 20, 21, 22, 23, 24, 14, 25, 26, 27, 28, 29, 30, 31, 32, 33, 34, 35] (by decide +kernel) (by decide +kernel)
set_option maxRecDepth 20000 in
theorem gX6_about_X3_peak : GoodIn wsX6_about (va_wsS RX6 99 yX3_peak wsX3_peak) := goodIn_app (goodIn_of _ (by decide +kernel)) ggX6_about_X3_peak
set_option maxRecDepth 20000 in
theorem ggX6_about_X3_energy : GoodIn wsX6_about wsX3_energy := goodIn_r _ [38, 23, 24, 14, 25, 26, 27, 28, 29, 30, 31, 32, 33, 34, 35] (by decide +kernel) (by decide +kernel)
set_option maxRecDepth 20000 in
theorem gX6_about_X3_energy : GoodIn wsX6_about (va_wsS RX6 102 yX3_energy wsX3_energy) := goodIn_app (goodIn_of _ (by decide +kernel)) ggX6_about_X3_energy
set_option maxRecDepth 20000 in
theorem ggX6_about_X3_total : GoodIn wsX6_about wsX3_total := goodIn_r _ [41, 29, 30, 31, 32, 33, 34, 35] (by decide +kernel) (by decide +kernel)
set_option maxRecDepth 20000 in
theorem gX6_about_X3_total : GoodIn wsX6_about (va_wsS RX6 105 yX3_total wsX3_total) := goodIn_app (goodIn_of _ (by decide +kernel)) ggX6_about_X3_total
set_option maxRecDepth 20000 in
theorem ggX6_about_X3_changes : GoodIn wsX6_about wsX3_changes := goodIn_r _ [44, 26, 27, 14, 28, 29, 30, 31, 32, 33, 34, 35] (by decide +kernel) (by decide +kernel)
set_option maxRecDepth 20000 in
theorem gX6_about_X3_changes : GoodIn wsX6_about (va_wsS RX6 108 yX3_changes wsX3_changes) := goodIn_app (goodIn_of _ (by decide +kernel)) ggX6_about_X3_changes
set_option maxRecDepth 20000 in
theorem ggX6_about_X3_unlikeTurned : GoodIn wsX6_about wsX3_unlikeTurned := goodIn_r _ [47, 48, 49, 14, 50, 51, 52, 53, 54, 55, 56, 57, 58, 59, 60, 26, 27, 28] (by decide +kernel) (by decide +kernel)
set_option maxRecDepth 20000 in
theorem gX6_about_X3_unlikeTurned : GoodIn wsX6_about (va_wsS RX6 111 yX3_unlikeTurned wsX3_unlikeTurned) := goodIn_app (goodIn_of _ (by decide +kernel)) ggX6_about_X3_unlikeTurned
theorem dX6_about_0 : decode cX6_about 0 = .ok (.aload_n 0, 1) := by decide +kernel
theorem dX6_about_1 : decode cX6_about 1 = .ok (.iload_n 1, 1) := by decide +kernel
theorem dX6_about_2 : decode cX6_about 2 = .ok (.invokevirtual 83, 3) := by decide +kernel
theorem dX6_about_5 : decode cX6_about 5 = .ok (.ifCond .ne 5, 3) := by decide +kernel
theorem dX6_about_8 : decode cX6_about 8 = .ok (.iconst (-1), 1) := by decide +kernel
theorem dX6_about_9 : decode cX6_about 9 = .ok (.ireturn, 1) := by decide +kernel
theorem dX6_about_10 : decode cX6_about 10 = .ok (.iload_n 2, 1) := by decide +kernel
theorem dX6_about_11 : decode cX6_about 11 = .ok (.tableswitch 113 0 4 #[33, 49, 65, 81, 97], 33) := by decide +kernel
theorem dX6_about_44 : decode cX6_about 44 = .ok (.aload_n 0, 1) := by decide +kernel
theorem dX6_about_45 : decode cX6_about 45 = .ok (.getfield 13, 3) := by decide +kernel
theorem dX6_about_48 : decode cX6_about 48 = .ok (.iload_n 1, 1) := by decide +kernel
theorem dX6_about_49 : decode cX6_about 49 = .ok (.laload, 1) := by decide +kernel
theorem dX6_about_50 : decode cX6_about 50 = .ok (.aload_n 0, 1) := by decide +kernel
theorem dX6_about_51 : decode cX6_about 51 = .ok (.getfield 9, 3) := by decide +kernel
theorem dX6_about_54 : decode cX6_about 54 = .ok (.iload_n 1, 1) := by decide +kernel
theorem dX6_about_55 : decode cX6_about 55 = .ok (.iaload, 1) := by decide +kernel
theorem dX6_about_56 : decode cX6_about 56 = .ok (.invokestatic 99, 3) := by decide +kernel
theorem dX6_about_59 : decode cX6_about 59 = .ok (.ireturn, 1) := by decide +kernel
theorem dX6_about_60 : decode cX6_about 60 = .ok (.aload_n 0, 1) := by decide +kernel
theorem dX6_about_61 : decode cX6_about 61 = .ok (.getfield 13, 3) := by decide +kernel
theorem dX6_about_64 : decode cX6_about 64 = .ok (.iload_n 1, 1) := by decide +kernel
theorem dX6_about_65 : decode cX6_about 65 = .ok (.laload, 1) := by decide +kernel
theorem dX6_about_66 : decode cX6_about 66 = .ok (.aload_n 0, 1) := by decide +kernel
theorem dX6_about_67 : decode cX6_about 67 = .ok (.getfield 9, 3) := by decide +kernel
theorem dX6_about_70 : decode cX6_about 70 = .ok (.iload_n 1, 1) := by decide +kernel
theorem dX6_about_71 : decode cX6_about 71 = .ok (.iaload, 1) := by decide +kernel
theorem dX6_about_72 : decode cX6_about 72 = .ok (.invokestatic 102, 3) := by decide +kernel
theorem dX6_about_75 : decode cX6_about 75 = .ok (.ireturn, 1) := by decide +kernel
theorem dX6_about_76 : decode cX6_about 76 = .ok (.aload_n 0, 1) := by decide +kernel
theorem dX6_about_77 : decode cX6_about 77 = .ok (.getfield 13, 3) := by decide +kernel
theorem dX6_about_80 : decode cX6_about 80 = .ok (.iload_n 1, 1) := by decide +kernel
theorem dX6_about_81 : decode cX6_about 81 = .ok (.laload, 1) := by decide +kernel
theorem dX6_about_82 : decode cX6_about 82 = .ok (.aload_n 0, 1) := by decide +kernel
theorem dX6_about_83 : decode cX6_about 83 = .ok (.getfield 9, 3) := by decide +kernel
theorem dX6_about_86 : decode cX6_about 86 = .ok (.iload_n 1, 1) := by decide +kernel
theorem dX6_about_87 : decode cX6_about 87 = .ok (.iaload, 1) := by decide +kernel
theorem dX6_about_88 : decode cX6_about 88 = .ok (.invokestatic 105, 3) := by decide +kernel
theorem dX6_about_91 : decode cX6_about 91 = .ok (.ireturn, 1) := by decide +kernel
theorem dX6_about_92 : decode cX6_about 92 = .ok (.aload_n 0, 1) := by decide +kernel
theorem dX6_about_93 : decode cX6_about 93 = .ok (.getfield 13, 3) := by decide +kernel
theorem dX6_about_96 : decode cX6_about 96 = .ok (.iload_n 1, 1) := by decide +kernel
theorem dX6_about_97 : decode cX6_about 97 = .ok (.laload, 1) := by decide +kernel
theorem dX6_about_98 : decode cX6_about 98 = .ok (.aload_n 0, 1) := by decide +kernel
theorem dX6_about_99 : decode cX6_about 99 = .ok (.getfield 9, 3) := by decide +kernel
theorem dX6_about_102 : decode cX6_about 102 = .ok (.iload_n 1, 1) := by decide +kernel
theorem dX6_about_103 : decode cX6_about 103 = .ok (.iaload, 1) := by decide +kernel
theorem dX6_about_104 : decode cX6_about 104 = .ok (.invokestatic 108, 3) := by decide +kernel
theorem dX6_about_107 : decode cX6_about 107 = .ok (.ireturn, 1) := by decide +kernel
theorem dX6_about_108 : decode cX6_about 108 = .ok (.aload_n 0, 1) := by decide +kernel
theorem dX6_about_109 : decode cX6_about 109 = .ok (.getfield 13, 3) := by decide +kernel
theorem dX6_about_112 : decode cX6_about 112 = .ok (.iload_n 1, 1) := by decide +kernel
theorem dX6_about_113 : decode cX6_about 113 = .ok (.laload, 1) := by decide +kernel
theorem dX6_about_114 : decode cX6_about 114 = .ok (.aload_n 0, 1) := by decide +kernel
theorem dX6_about_115 : decode cX6_about 115 = .ok (.getfield 9, 3) := by decide +kernel
theorem dX6_about_118 : decode cX6_about 118 = .ok (.iload_n 1, 1) := by decide +kernel
theorem dX6_about_119 : decode cX6_about 119 = .ok (.iaload, 1) := by decide +kernel
theorem dX6_about_120 : decode cX6_about 120 = .ok (.invokestatic 111, 3) := by decide +kernel
theorem dX6_about_123 : decode cX6_about 123 = .ok (.ireturn, 1) := by decide +kernel
theorem dX6_about_124 : decode cX6_about 124 = .ok (.iconst (-1), 1) := by decide +kernel
theorem dX6_about_125 : decode cX6_about 125 = .ok (.ireturn, 1) := by decide +kernel
set_option maxRecDepth 20000 in
theorem ggX6_least_X6_isRow : GoodIn wsX6_least wsX6_isRow := goodIn_r _ [8, 9, 10, 11, 7, 12, 34, 35, 36, 37, 38, 39, 40] (by decide +kernel) (by decide +kernel)
set_option maxRecDepth 20000 in
theorem gX6_least_X6_isRow : GoodIn wsX6_least (wsV RX6 83 RX6 yX6_isRow wsX6_isRow) := goodIn_app (goodIn_of _ (by decide +kernel)) ggX6_least_X6_isRow
set_option maxRecDepth 20000 in
theorem ggX6_least_X3_leastTurned : GoodIn wsX6_least wsX3_leastTurned := goodIn_r _ [16, 17, 18, 19, 20, 21, 22, 15, 23, 24, 25, 26, 27, 28, 29, 30, 31, 32, 33] (by decide +kernel) (by decide +kernel)
set_option maxRecDepth 20000 in
theorem gX6_least_X3_leastTurned : GoodIn wsX6_least (va_wsS RX6 114 yX3_leastTurned wsX3_leastTurned) := goodIn_app (goodIn_of _ (by decide +kernel)) ggX6_least_X3_leastTurned
theorem dX6_least_0 : decode cX6_least 0 = .ok (.aload_n 0, 1) := by decide +kernel
theorem dX6_least_1 : decode cX6_least 1 = .ok (.iload_n 1, 1) := by decide +kernel
theorem dX6_least_2 : decode cX6_least 2 = .ok (.invokevirtual 83, 3) := by decide +kernel
theorem dX6_least_5 : decode cX6_least 5 = .ok (.ifCond .eq 21, 3) := by decide +kernel
theorem dX6_least_8 : decode cX6_least 8 = .ok (.aload_n 0, 1) := by decide +kernel
theorem dX6_least_9 : decode cX6_least 9 = .ok (.getfield 13, 3) := by decide +kernel
theorem dX6_least_12 : decode cX6_least 12 = .ok (.iload_n 1, 1) := by decide +kernel
theorem dX6_least_13 : decode cX6_least 13 = .ok (.laload, 1) := by decide +kernel
theorem dX6_least_14 : decode cX6_least 14 = .ok (.aload_n 0, 1) := by decide +kernel
theorem dX6_least_15 : decode cX6_least 15 = .ok (.getfield 9, 3) := by decide +kernel
theorem dX6_least_18 : decode cX6_least 18 = .ok (.iload_n 1, 1) := by decide +kernel
theorem dX6_least_19 : decode cX6_least 19 = .ok (.iaload, 1) := by decide +kernel
theorem dX6_least_20 : decode cX6_least 20 = .ok (.invokestatic 114, 3) := by decide +kernel
theorem dX6_least_23 : decode cX6_least 23 = .ok (.goto 6, 3) := by decide +kernel
theorem dX6_least_26 : decode cX6_least 26 = .ok (.ldc2_w 90, 3) := by decide +kernel
theorem dX6_least_29 : decode cX6_least 29 = .ok (.lreturn, 1) := by decide +kernel
set_option maxRecDepth 20000 in
theorem ggX6_turn_X6_isRow : GoodIn wsX6_turn wsX6_isRow := goodIn_r _ [7, 8, 9, 10, 6, 11, 34, 35, 36, 37, 38, 39, 40] (by decide +kernel) (by decide +kernel)
set_option maxRecDepth 20000 in
theorem gX6_turn_X6_isRow : GoodIn wsX6_turn (wsV RX6 83 RX6 yX6_isRow wsX6_isRow) := goodIn_app (goodIn_of _ (by decide +kernel)) ggX6_turn_X6_isRow
set_option maxRecDepth 20000 in
theorem ggX6_turn_X6_within : GoodIn wsX6_turn wsX6_within := goodIn_r _ [11] (by decide +kernel) (by decide +kernel)
set_option maxRecDepth 20000 in
theorem gX6_turn_X6_within : GoodIn wsX6_turn (va_wsS RX6 42 yX6_within wsX6_within) := goodIn_app (goodIn_of _ (by decide +kernel)) ggX6_turn_X6_within
set_option maxRecDepth 20000 in
theorem ggX6_turn_X6_fits : GoodIn wsX6_turn wsX6_fits := goodIn_r _ [15, 8, 34, 35, 36, 37, 38, 39, 40] (by decide +kernel) (by decide +kernel)
set_option maxRecDepth 20000 in
theorem gX6_turn_X6_fits : GoodIn wsX6_turn (wsV RX6 52 RX6 yX6_fits wsX6_fits) := goodIn_app (goodIn_of _ (by decide +kernel)) ggX6_turn_X6_fits
set_option maxRecDepth 20000 in
theorem ggX6_turn_X3_turned : GoodIn wsX6_turn wsX3_turned := goodIn_r _ [19, 20, 21, 22, 18, 23, 24, 25, 26, 27, 28, 29] (by decide +kernel) (by decide +kernel)
set_option maxRecDepth 20000 in
theorem gX6_turn_X3_turned : GoodIn wsX6_turn (va_wsS RX6 118 yX3_turned wsX3_turned) := goodIn_app (goodIn_of _ (by decide +kernel)) ggX6_turn_X3_turned
set_option maxRecDepth 20000 in
theorem ggX6_turn_X6_added : GoodIn wsX6_turn wsX6_added := goodIn_r _ [33, 8, 1, 2, 34, 35, 36, 37, 38, 39, 40] (by decide +kernel) (by decide +kernel)
set_option maxRecDepth 20000 in
theorem gX6_turn_X6_added : GoodIn wsX6_turn (wsV RX6 56 RX6 yX6_added wsX6_added) := goodIn_app (goodIn_of _ (by decide +kernel)) ggX6_turn_X6_added
theorem dX6_turn_0 : decode cX6_turn 0 = .ok (.aload_n 0, 1) := by decide +kernel
theorem dX6_turn_1 : decode cX6_turn 1 = .ok (.iload_n 1, 1) := by decide +kernel
theorem dX6_turn_2 : decode cX6_turn 2 = .ok (.invokevirtual 83, 3) := by decide +kernel
theorem dX6_turn_5 : decode cX6_turn 5 = .ok (.ifCond .eq 12, 3) := by decide +kernel
theorem dX6_turn_8 : decode cX6_turn 8 = .ok (.iload_n 2, 1) := by decide +kernel
theorem dX6_turn_9 : decode cX6_turn 9 = .ok (.iconst 0, 1) := by decide +kernel
theorem dX6_turn_10 : decode cX6_turn 10 = .ok (.iconst 2, 1) := by decide +kernel
theorem dX6_turn_11 : decode cX6_turn 11 = .ok (.invokestatic 42, 3) := by decide +kernel
theorem dX6_turn_14 : decode cX6_turn 14 = .ok (.ifCond .ne 5, 3) := by decide +kernel
theorem dX6_turn_17 : decode cX6_turn 17 = .ok (.iconst (-1), 1) := by decide +kernel
theorem dX6_turn_18 : decode cX6_turn 18 = .ok (.ireturn, 1) := by decide +kernel
theorem dX6_turn_19 : decode cX6_turn 19 = .ok (.aload_n 0, 1) := by decide +kernel
theorem dX6_turn_20 : decode cX6_turn 20 = .ok (.getfield 9, 3) := by decide +kernel
theorem dX6_turn_23 : decode cX6_turn 23 = .ok (.iload_n 1, 1) := by decide +kernel
theorem dX6_turn_24 : decode cX6_turn 24 = .ok (.iaload, 1) := by decide +kernel
theorem dX6_turn_25 : decode cX6_turn 25 = .ok (.istore_n 3, 1) := by decide +kernel
theorem dX6_turn_26 : decode cX6_turn 26 = .ok (.aload_n 0, 1) := by decide +kernel
theorem dX6_turn_27 : decode cX6_turn 27 = .ok (.iload_n 3, 1) := by decide +kernel
theorem dX6_turn_28 : decode cX6_turn 28 = .ok (.iconst 1, 1) := by decide +kernel
theorem dX6_turn_29 : decode cX6_turn 29 = .ok (.invokevirtual 52, 3) := by decide +kernel
theorem dX6_turn_32 : decode cX6_turn 32 = .ok (.ifCond .eq 24, 3) := by decide +kernel
theorem dX6_turn_35 : decode cX6_turn 35 = .ok (.aload_n 0, 1) := by decide +kernel
theorem dX6_turn_36 : decode cX6_turn 36 = .ok (.iload_n 3, 1) := by decide +kernel
theorem dX6_turn_37 : decode cX6_turn 37 = .ok (.aload_n 0, 1) := by decide +kernel
theorem dX6_turn_38 : decode cX6_turn 38 = .ok (.getfield 13, 3) := by decide +kernel
theorem dX6_turn_41 : decode cX6_turn 41 = .ok (.iload_n 1, 1) := by decide +kernel
theorem dX6_turn_42 : decode cX6_turn 42 = .ok (.laload, 1) := by decide +kernel
theorem dX6_turn_43 : decode cX6_turn 43 = .ok (.iload_n 3, 1) := by decide +kernel
theorem dX6_turn_44 : decode cX6_turn 44 = .ok (.iconst 1, 1) := by decide +kernel
theorem dX6_turn_45 : decode cX6_turn 45 = .ok (.iload_n 2, 1) := by decide +kernel
theorem dX6_turn_46 : decode cX6_turn 46 = .ok (.ishl, 1) := by decide +kernel
theorem dX6_turn_47 : decode cX6_turn 47 = .ok (.invokestatic 118, 3) := by decide +kernel
theorem dX6_turn_50 : decode cX6_turn 50 = .ok (.invokevirtual 56, 3) := by decide +kernel
theorem dX6_turn_53 : decode cX6_turn 53 = .ok (.goto 5, 3) := by decide +kernel
theorem dX6_turn_56 : decode cX6_turn 56 = .ok (.bipush (-3), 2) := by decide +kernel
theorem dX6_turn_58 : decode cX6_turn 58 = .ok (.ireturn, 1) := by decide +kernel
set_option maxRecDepth 20000 in
theorem ggX6_put_X6_isRow : GoodIn wsX6_put wsX6_isRow := goodIn_r _ [7, 8, 9, 10, 6, 11, 24, 25, 26, 27, 28, 29, 30] (by decide +kernel) (by decide +kernel)
set_option maxRecDepth 20000 in
theorem gX6_put_X6_isRow : GoodIn wsX6_put (wsV RX6 83 RX6 yX6_isRow wsX6_isRow) := goodIn_app (goodIn_of _ (by decide +kernel)) ggX6_put_X6_isRow
set_option maxRecDepth 20000 in
theorem ggX6_put_X6_fits : GoodIn wsX6_put wsX6_fits := goodIn_r _ [15, 8, 24, 25, 26, 27, 28, 29, 30] (by decide +kernel) (by decide +kernel)
set_option maxRecDepth 20000 in
theorem gX6_put_X6_fits : GoodIn wsX6_put (wsV RX6 52 RX6 yX6_fits wsX6_fits) := goodIn_app (goodIn_of _ (by decide +kernel)) ggX6_put_X6_fits
set_option maxRecDepth 20000 in
theorem ggX6_put_X3_joined : GoodIn wsX6_put wsX3_joined := goodIn_r _ [19] (by decide +kernel) (by decide +kernel)
set_option maxRecDepth 20000 in
theorem gX6_put_X3_joined : GoodIn wsX6_put (va_wsS RX6 122 yX3_joined wsX3_joined) := goodIn_app (goodIn_of _ (by decide +kernel)) ggX6_put_X3_joined
set_option maxRecDepth 20000 in
theorem ggX6_put_X6_added : GoodIn wsX6_put wsX6_added := goodIn_r _ [23, 8, 1, 2, 24, 25, 26, 27, 28, 29, 30] (by decide +kernel) (by decide +kernel)
set_option maxRecDepth 20000 in
theorem gX6_put_X6_added : GoodIn wsX6_put (wsV RX6 56 RX6 yX6_added wsX6_added) := goodIn_app (goodIn_of _ (by decide +kernel)) ggX6_put_X6_added
theorem dX6_put_0 : decode cX6_put 0 = .ok (.aload_n 0, 1) := by decide +kernel
theorem dX6_put_1 : decode cX6_put 1 = .ok (.iload_n 1, 1) := by decide +kernel
theorem dX6_put_2 : decode cX6_put 2 = .ok (.invokevirtual 83, 3) := by decide +kernel
theorem dX6_put_5 : decode cX6_put 5 = .ok (.ifCond .eq 11, 3) := by decide +kernel
theorem dX6_put_8 : decode cX6_put 8 = .ok (.aload_n 0, 1) := by decide +kernel
theorem dX6_put_9 : decode cX6_put 9 = .ok (.iload_n 2, 1) := by decide +kernel
theorem dX6_put_10 : decode cX6_put 10 = .ok (.invokevirtual 83, 3) := by decide +kernel
theorem dX6_put_13 : decode cX6_put 13 = .ok (.ifCond .ne 5, 3) := by decide +kernel
theorem dX6_put_16 : decode cX6_put 16 = .ok (.iconst (-1), 1) := by decide +kernel
theorem dX6_put_17 : decode cX6_put 17 = .ok (.ireturn, 1) := by decide +kernel
theorem dX6_put_18 : decode cX6_put 18 = .ok (.aload_n 0, 1) := by decide +kernel
theorem dX6_put_19 : decode cX6_put 19 = .ok (.getfield 9, 3) := by decide +kernel
theorem dX6_put_22 : decode cX6_put 22 = .ok (.iload_n 1, 1) := by decide +kernel
theorem dX6_put_23 : decode cX6_put 23 = .ok (.iaload, 1) := by decide +kernel
theorem dX6_put_24 : decode cX6_put 24 = .ok (.aload_n 0, 1) := by decide +kernel
theorem dX6_put_25 : decode cX6_put 25 = .ok (.getfield 9, 3) := by decide +kernel
theorem dX6_put_28 : decode cX6_put 28 = .ok (.iload_n 2, 1) := by decide +kernel
theorem dX6_put_29 : decode cX6_put 29 = .ok (.iaload, 1) := by decide +kernel
theorem dX6_put_30 : decode cX6_put 30 = .ok (.iadd, 1) := by decide +kernel
theorem dX6_put_31 : decode cX6_put 31 = .ok (.istore_n 3, 1) := by decide +kernel
theorem dX6_put_32 : decode cX6_put 32 = .ok (.aload_n 0, 1) := by decide +kernel
theorem dX6_put_33 : decode cX6_put 33 = .ok (.iload_n 3, 1) := by decide +kernel
theorem dX6_put_34 : decode cX6_put 34 = .ok (.iconst 1, 1) := by decide +kernel
theorem dX6_put_35 : decode cX6_put 35 = .ok (.invokevirtual 52, 3) := by decide +kernel
theorem dX6_put_38 : decode cX6_put 38 = .ok (.ifCond .eq 32, 3) := by decide +kernel
theorem dX6_put_41 : decode cX6_put 41 = .ok (.aload_n 0, 1) := by decide +kernel
theorem dX6_put_42 : decode cX6_put 42 = .ok (.iload_n 3, 1) := by decide +kernel
theorem dX6_put_43 : decode cX6_put 43 = .ok (.aload_n 0, 1) := by decide +kernel
theorem dX6_put_44 : decode cX6_put 44 = .ok (.getfield 13, 3) := by decide +kernel
theorem dX6_put_47 : decode cX6_put 47 = .ok (.iload_n 1, 1) := by decide +kernel
theorem dX6_put_48 : decode cX6_put 48 = .ok (.laload, 1) := by decide +kernel
theorem dX6_put_49 : decode cX6_put 49 = .ok (.aload_n 0, 1) := by decide +kernel
theorem dX6_put_50 : decode cX6_put 50 = .ok (.getfield 9, 3) := by decide +kernel
theorem dX6_put_53 : decode cX6_put 53 = .ok (.iload_n 1, 1) := by decide +kernel
theorem dX6_put_54 : decode cX6_put 54 = .ok (.iaload, 1) := by decide +kernel
theorem dX6_put_55 : decode cX6_put 55 = .ok (.aload_n 0, 1) := by decide +kernel
theorem dX6_put_56 : decode cX6_put 56 = .ok (.getfield 13, 3) := by decide +kernel
theorem dX6_put_59 : decode cX6_put 59 = .ok (.iload_n 2, 1) := by decide +kernel
theorem dX6_put_60 : decode cX6_put 60 = .ok (.laload, 1) := by decide +kernel
theorem dX6_put_61 : decode cX6_put 61 = .ok (.invokestatic 122, 3) := by decide +kernel
theorem dX6_put_64 : decode cX6_put 64 = .ok (.invokevirtual 56, 3) := by decide +kernel
theorem dX6_put_67 : decode cX6_put 67 = .ok (.goto 5, 3) := by decide +kernel
theorem dX6_put_70 : decode cX6_put 70 = .ok (.bipush (-3), 2) := by decide +kernel
theorem dX6_put_72 : decode cX6_put 72 = .ok (.ireturn, 1) := by decide +kernel
set_option maxRecDepth 20000 in
theorem ggX6_weave_X6_areAlikeLong : GoodIn wsX6_weave wsX6_areAlikeLong := goodIn_r _ [7, 1, 8, 9, 10, 6, 11, 12, 13, 14, 15, 28, 29, 30, 31, 32, 33, 34] (by decide +kernel) (by decide +kernel)
set_option maxRecDepth 20000 in
theorem gX6_weave_X6_areAlikeLong : GoodIn wsX6_weave (wsV RX6 126 RX6 yX6_areAlikeLong wsX6_areAlikeLong) := goodIn_app (goodIn_of _ (by decide +kernel)) ggX6_weave_X6_areAlikeLong
set_option maxRecDepth 20000 in
theorem ggX6_weave_X6_fits : GoodIn wsX6_weave wsX6_fits := goodIn_r _ [19, 12, 28, 29, 30, 31, 32, 33, 34] (by decide +kernel) (by decide +kernel)
set_option maxRecDepth 20000 in
theorem gX6_weave_X6_fits : GoodIn wsX6_weave (wsV RX6 52 RX6 yX6_fits wsX6_fits) := goodIn_app (goodIn_of _ (by decide +kernel)) ggX6_weave_X6_fits
set_option maxRecDepth 20000 in
theorem ggX6_weave_X3_woven : GoodIn wsX6_weave wsX3_woven := goodIn_r _ [23] (by decide +kernel) (by decide +kernel)
set_option maxRecDepth 20000 in
theorem gX6_weave_X3_woven : GoodIn wsX6_weave (va_wsS RX6 129 yX3_woven wsX3_woven) := goodIn_app (goodIn_of _ (by decide +kernel)) ggX6_weave_X3_woven
set_option maxRecDepth 20000 in
theorem ggX6_weave_X6_added : GoodIn wsX6_weave wsX6_added := goodIn_r _ [27, 12, 1, 2, 28, 29, 30, 31, 32, 33, 34] (by decide +kernel) (by decide +kernel)
set_option maxRecDepth 20000 in
theorem gX6_weave_X6_added : GoodIn wsX6_weave (wsV RX6 56 RX6 yX6_added wsX6_added) := goodIn_app (goodIn_of _ (by decide +kernel)) ggX6_weave_X6_added
theorem dX6_weave_0 : decode cX6_weave 0 = .ok (.aload_n 0, 1) := by decide +kernel
theorem dX6_weave_1 : decode cX6_weave 1 = .ok (.iload_n 1, 1) := by decide +kernel
theorem dX6_weave_2 : decode cX6_weave 2 = .ok (.iload_n 2, 1) := by decide +kernel
theorem dX6_weave_3 : decode cX6_weave 3 = .ok (.invokevirtual 126, 3) := by decide +kernel
theorem dX6_weave_6 : decode cX6_weave 6 = .ok (.ifCond .ne 5, 3) := by decide +kernel
theorem dX6_weave_9 : decode cX6_weave 9 = .ok (.iconst (-1), 1) := by decide +kernel
theorem dX6_weave_10 : decode cX6_weave 10 = .ok (.ireturn, 1) := by decide +kernel
theorem dX6_weave_11 : decode cX6_weave 11 = .ok (.iconst 2, 1) := by decide +kernel
theorem dX6_weave_12 : decode cX6_weave 12 = .ok (.aload_n 0, 1) := by decide +kernel
theorem dX6_weave_13 : decode cX6_weave 13 = .ok (.getfield 9, 3) := by decide +kernel
theorem dX6_weave_16 : decode cX6_weave 16 = .ok (.iload_n 1, 1) := by decide +kernel
theorem dX6_weave_17 : decode cX6_weave 17 = .ok (.iaload, 1) := by decide +kernel
theorem dX6_weave_18 : decode cX6_weave 18 = .ok (.imul, 1) := by decide +kernel
theorem dX6_weave_19 : decode cX6_weave 19 = .ok (.istore_n 3, 1) := by decide +kernel
theorem dX6_weave_20 : decode cX6_weave 20 = .ok (.aload_n 0, 1) := by decide +kernel
theorem dX6_weave_21 : decode cX6_weave 21 = .ok (.iload_n 3, 1) := by decide +kernel
theorem dX6_weave_22 : decode cX6_weave 22 = .ok (.iconst 1, 1) := by decide +kernel
theorem dX6_weave_23 : decode cX6_weave 23 = .ok (.invokevirtual 52, 3) := by decide +kernel
theorem dX6_weave_26 : decode cX6_weave 26 = .ok (.ifCond .eq 32, 3) := by decide +kernel
theorem dX6_weave_29 : decode cX6_weave 29 = .ok (.aload_n 0, 1) := by decide +kernel
theorem dX6_weave_30 : decode cX6_weave 30 = .ok (.iload_n 3, 1) := by decide +kernel
theorem dX6_weave_31 : decode cX6_weave 31 = .ok (.aload_n 0, 1) := by decide +kernel
theorem dX6_weave_32 : decode cX6_weave 32 = .ok (.getfield 13, 3) := by decide +kernel
theorem dX6_weave_35 : decode cX6_weave 35 = .ok (.iload_n 1, 1) := by decide +kernel
theorem dX6_weave_36 : decode cX6_weave 36 = .ok (.laload, 1) := by decide +kernel
theorem dX6_weave_37 : decode cX6_weave 37 = .ok (.aload_n 0, 1) := by decide +kernel
theorem dX6_weave_38 : decode cX6_weave 38 = .ok (.getfield 13, 3) := by decide +kernel
theorem dX6_weave_41 : decode cX6_weave 41 = .ok (.iload_n 2, 1) := by decide +kernel
theorem dX6_weave_42 : decode cX6_weave 42 = .ok (.laload, 1) := by decide +kernel
theorem dX6_weave_43 : decode cX6_weave 43 = .ok (.aload_n 0, 1) := by decide +kernel
theorem dX6_weave_44 : decode cX6_weave 44 = .ok (.getfield 9, 3) := by decide +kernel
theorem dX6_weave_47 : decode cX6_weave 47 = .ok (.iload_n 1, 1) := by decide +kernel
theorem dX6_weave_48 : decode cX6_weave 48 = .ok (.iaload, 1) := by decide +kernel
theorem dX6_weave_49 : decode cX6_weave 49 = .ok (.invokestatic 129, 3) := by decide +kernel
theorem dX6_weave_52 : decode cX6_weave 52 = .ok (.invokevirtual 56, 3) := by decide +kernel
theorem dX6_weave_55 : decode cX6_weave 55 = .ok (.goto 5, 3) := by decide +kernel
theorem dX6_weave_58 : decode cX6_weave 58 = .ok (.bipush (-3), 2) := by decide +kernel
theorem dX6_weave_60 : decode cX6_weave 60 = .ok (.ireturn, 1) := by decide +kernel
set_option maxRecDepth 20000 in
theorem ggX6_times_X6_isRow : GoodIn wsX6_times wsX6_isRow := goodIn_r _ [7, 8, 9, 10, 6, 11, 33, 34, 35, 36, 37, 38, 39] (by decide +kernel) (by decide +kernel)
set_option maxRecDepth 20000 in
theorem gX6_times_X6_isRow : GoodIn wsX6_times (wsV RX6 83 RX6 yX6_isRow wsX6_isRow) := goodIn_app (goodIn_of _ (by decide +kernel)) ggX6_times_X6_isRow
set_option maxRecDepth 20000 in
theorem ggX6_times_X6_fits : GoodIn wsX6_times wsX6_fits := goodIn_r _ [15, 8, 33, 34, 35, 36, 37, 38, 39] (by decide +kernel) (by decide +kernel)
set_option maxRecDepth 20000 in
theorem gX6_times_X6_fits : GoodIn wsX6_times (wsV RX6 52 RX6 yX6_fits wsX6_fits) := goodIn_app (goodIn_of _ (by decide +kernel)) ggX6_times_X6_fits
set_option maxRecDepth 20000 in
theorem ggX6_times_X3_product : GoodIn wsX6_times wsX3_product := goodIn_r _ [19, 20, 21, 18, 22, 23, 24, 25, 26, 27, 28] (by decide +kernel) (by decide +kernel)
set_option maxRecDepth 20000 in
theorem gX6_times_X3_product : GoodIn wsX6_times (va_wsS RX6 133 yX3_product wsX3_product) := goodIn_app (goodIn_of _ (by decide +kernel)) ggX6_times_X3_product
set_option maxRecDepth 20000 in
theorem ggX6_times_X6_added : GoodIn wsX6_times wsX6_added := goodIn_r _ [32, 8, 1, 2, 33, 34, 35, 36, 37, 38, 39] (by decide +kernel) (by decide +kernel)
set_option maxRecDepth 20000 in
theorem gX6_times_X6_added : GoodIn wsX6_times (wsV RX6 56 RX6 yX6_added wsX6_added) := goodIn_app (goodIn_of _ (by decide +kernel)) ggX6_times_X6_added
theorem dX6_times_0 : decode cX6_times 0 = .ok (.aload_n 0, 1) := by decide +kernel
theorem dX6_times_1 : decode cX6_times 1 = .ok (.iload_n 1, 1) := by decide +kernel
theorem dX6_times_2 : decode cX6_times 2 = .ok (.invokevirtual 83, 3) := by decide +kernel
theorem dX6_times_5 : decode cX6_times 5 = .ok (.ifCond .eq 11, 3) := by decide +kernel
theorem dX6_times_8 : decode cX6_times 8 = .ok (.aload_n 0, 1) := by decide +kernel
theorem dX6_times_9 : decode cX6_times 9 = .ok (.iload_n 2, 1) := by decide +kernel
theorem dX6_times_10 : decode cX6_times 10 = .ok (.invokevirtual 83, 3) := by decide +kernel
theorem dX6_times_13 : decode cX6_times 13 = .ok (.ifCond .ne 5, 3) := by decide +kernel
theorem dX6_times_16 : decode cX6_times 16 = .ok (.iconst (-1), 1) := by decide +kernel
theorem dX6_times_17 : decode cX6_times 17 = .ok (.ireturn, 1) := by decide +kernel
theorem dX6_times_18 : decode cX6_times 18 = .ok (.aload_n 0, 1) := by decide +kernel
theorem dX6_times_19 : decode cX6_times 19 = .ok (.getfield 9, 3) := by decide +kernel
theorem dX6_times_22 : decode cX6_times 22 = .ok (.iload_n 1, 1) := by decide +kernel
theorem dX6_times_23 : decode cX6_times 23 = .ok (.iaload, 1) := by decide +kernel
theorem dX6_times_24 : decode cX6_times 24 = .ok (.aload_n 0, 1) := by decide +kernel
theorem dX6_times_25 : decode cX6_times 25 = .ok (.getfield 9, 3) := by decide +kernel
theorem dX6_times_28 : decode cX6_times 28 = .ok (.iload_n 2, 1) := by decide +kernel
theorem dX6_times_29 : decode cX6_times 29 = .ok (.iaload, 1) := by decide +kernel
theorem dX6_times_30 : decode cX6_times 30 = .ok (.imul, 1) := by decide +kernel
theorem dX6_times_31 : decode cX6_times 31 = .ok (.istore_n 3, 1) := by decide +kernel
theorem dX6_times_32 : decode cX6_times 32 = .ok (.aload_n 0, 1) := by decide +kernel
theorem dX6_times_33 : decode cX6_times 33 = .ok (.iload_n 3, 1) := by decide +kernel
theorem dX6_times_34 : decode cX6_times 34 = .ok (.iconst 1, 1) := by decide +kernel
theorem dX6_times_35 : decode cX6_times 35 = .ok (.invokevirtual 52, 3) := by decide +kernel
theorem dX6_times_38 : decode cX6_times 38 = .ok (.ifCond .eq 38, 3) := by decide +kernel
theorem dX6_times_41 : decode cX6_times 41 = .ok (.aload_n 0, 1) := by decide +kernel
theorem dX6_times_42 : decode cX6_times 42 = .ok (.iload_n 3, 1) := by decide +kernel
theorem dX6_times_43 : decode cX6_times 43 = .ok (.aload_n 0, 1) := by decide +kernel
theorem dX6_times_44 : decode cX6_times 44 = .ok (.getfield 13, 3) := by decide +kernel
theorem dX6_times_47 : decode cX6_times 47 = .ok (.iload_n 1, 1) := by decide +kernel
theorem dX6_times_48 : decode cX6_times 48 = .ok (.laload, 1) := by decide +kernel
theorem dX6_times_49 : decode cX6_times 49 = .ok (.aload_n 0, 1) := by decide +kernel
theorem dX6_times_50 : decode cX6_times 50 = .ok (.getfield 9, 3) := by decide +kernel
theorem dX6_times_53 : decode cX6_times 53 = .ok (.iload_n 1, 1) := by decide +kernel
theorem dX6_times_54 : decode cX6_times 54 = .ok (.iaload, 1) := by decide +kernel
theorem dX6_times_55 : decode cX6_times 55 = .ok (.aload_n 0, 1) := by decide +kernel
theorem dX6_times_56 : decode cX6_times 56 = .ok (.getfield 13, 3) := by decide +kernel
theorem dX6_times_59 : decode cX6_times 59 = .ok (.iload_n 2, 1) := by decide +kernel
theorem dX6_times_60 : decode cX6_times 60 = .ok (.laload, 1) := by decide +kernel
theorem dX6_times_61 : decode cX6_times 61 = .ok (.aload_n 0, 1) := by decide +kernel
theorem dX6_times_62 : decode cX6_times 62 = .ok (.getfield 9, 3) := by decide +kernel
theorem dX6_times_65 : decode cX6_times 65 = .ok (.iload_n 2, 1) := by decide +kernel
theorem dX6_times_66 : decode cX6_times 66 = .ok (.iaload, 1) := by decide +kernel
theorem dX6_times_67 : decode cX6_times 67 = .ok (.invokestatic 133, 3) := by decide +kernel
theorem dX6_times_70 : decode cX6_times 70 = .ok (.invokevirtual 56, 3) := by decide +kernel
theorem dX6_times_73 : decode cX6_times 73 = .ok (.goto 5, 3) := by decide +kernel
theorem dX6_times_76 : decode cX6_times 76 = .ok (.bipush (-3), 2) := by decide +kernel
theorem dX6_times_78 : decode cX6_times 78 = .ok (.ireturn, 1) := by decide +kernel
set_option maxRecDepth 20000 in
theorem ggX6_cancels_X6_areAlikeLong : GoodIn wsX6_cancels wsX6_areAlikeLong := goodIn_r _ [7, 2, 8, 9, 10, 6, 11, 12, 13, 14, 15, 33, 34, 35, 36, 37, 38, 39] (by decide +kernel) (by decide +kernel)
set_option maxRecDepth 20000 in
theorem gX6_cancels_X6_areAlikeLong : GoodIn wsX6_cancels (wsV RX6 126 RX6 yX6_areAlikeLong wsX6_areAlikeLong) := goodIn_app (goodIn_of _ (by decide +kernel)) ggX6_cancels_X6_areAlikeLong
set_option maxRecDepth 20000 in
theorem ggX6_cancels_X3_firstLeftOpen : GoodIn wsX6_cancels wsX3_firstLeftOpen := goodIn_r _ [19, 20, 21, 18, 22, 23, 24, 25, 26, 27, 28, 29, 30, 31, 32] (by decide +kernel) (by decide +kernel)
set_option maxRecDepth 20000 in
theorem gX6_cancels_X3_firstLeftOpen : GoodIn wsX6_cancels (va_wsS RX6 137 yX3_firstLeftOpen wsX3_firstLeftOpen) := goodIn_app (goodIn_of _ (by decide +kernel)) ggX6_cancels_X3_firstLeftOpen
theorem dX6_cancels_0 : decode cX6_cancels 0 = .ok (.aload_n 0, 1) := by decide +kernel
theorem dX6_cancels_1 : decode cX6_cancels 1 = .ok (.iload_n 1, 1) := by decide +kernel
theorem dX6_cancels_2 : decode cX6_cancels 2 = .ok (.iload_n 2, 1) := by decide +kernel
theorem dX6_cancels_3 : decode cX6_cancels 3 = .ok (.invokevirtual 126, 3) := by decide +kernel
theorem dX6_cancels_6 : decode cX6_cancels 6 = .ok (.ifCond .eq 27, 3) := by decide +kernel
theorem dX6_cancels_9 : decode cX6_cancels 9 = .ok (.aload_n 0, 1) := by decide +kernel
theorem dX6_cancels_10 : decode cX6_cancels 10 = .ok (.getfield 13, 3) := by decide +kernel
theorem dX6_cancels_13 : decode cX6_cancels 13 = .ok (.iload_n 1, 1) := by decide +kernel
theorem dX6_cancels_14 : decode cX6_cancels 14 = .ok (.laload, 1) := by decide +kernel
theorem dX6_cancels_15 : decode cX6_cancels 15 = .ok (.aload_n 0, 1) := by decide +kernel
theorem dX6_cancels_16 : decode cX6_cancels 16 = .ok (.getfield 13, 3) := by decide +kernel
theorem dX6_cancels_19 : decode cX6_cancels 19 = .ok (.iload_n 2, 1) := by decide +kernel
theorem dX6_cancels_20 : decode cX6_cancels 20 = .ok (.laload, 1) := by decide +kernel
theorem dX6_cancels_21 : decode cX6_cancels 21 = .ok (.aload_n 0, 1) := by decide +kernel
theorem dX6_cancels_22 : decode cX6_cancels 22 = .ok (.getfield 9, 3) := by decide +kernel
theorem dX6_cancels_25 : decode cX6_cancels 25 = .ok (.iload_n 1, 1) := by decide +kernel
theorem dX6_cancels_26 : decode cX6_cancels 26 = .ok (.iaload, 1) := by decide +kernel
theorem dX6_cancels_27 : decode cX6_cancels 27 = .ok (.invokestatic 137, 3) := by decide +kernel
theorem dX6_cancels_30 : decode cX6_cancels 30 = .ok (.goto 4, 3) := by decide +kernel
theorem dX6_cancels_33 : decode cX6_cancels 33 = .ok (.iconst (-1), 1) := by decide +kernel
theorem dX6_cancels_34 : decode cX6_cancels 34 = .ok (.ireturn, 1) := by decide +kernel
set_option maxRecDepth 20000 in
theorem ggX6_four_X6_areAlikeLong : GoodIn wsX6_four wsX6_areAlikeLong := goodIn_r _ [7, 1, 8, 9, 10, 6, 11, 12, 13, 14, 15, 30, 31, 32, 33, 34, 35, 36] (by decide +kernel) (by decide +kernel)
set_option maxRecDepth 20000 in
theorem gX6_four_X6_areAlikeLong : GoodIn wsX6_four (wsV RX6 126 RX6 yX6_areAlikeLong wsX6_areAlikeLong) := goodIn_app (goodIn_of _ (by decide +kernel)) ggX6_four_X6_areAlikeLong
set_option maxRecDepth 20000 in
theorem ggX6_four_X3_roundSum : GoodIn wsX6_four wsX3_roundSum := goodIn_r _ [19, 20, 21, 18, 22, 23, 24, 25, 26, 27, 28, 29] (by decide +kernel) (by decide +kernel)
set_option maxRecDepth 20000 in
theorem gX6_four_X3_roundSum : GoodIn wsX6_four (va_wsS RX6 96 yX3_roundSum wsX3_roundSum) := goodIn_app (goodIn_of _ (by decide +kernel)) ggX6_four_X3_roundSum
theorem dX6_four_0 : decode cX6_four 0 = .ok (.aload_n 0, 1) := by decide +kernel
theorem dX6_four_1 : decode cX6_four 1 = .ok (.iload_n 1, 1) := by decide +kernel
theorem dX6_four_2 : decode cX6_four 2 = .ok (.iload_n 2, 1) := by decide +kernel
theorem dX6_four_3 : decode cX6_four 3 = .ok (.invokevirtual 126, 3) := by decide +kernel
theorem dX6_four_6 : decode cX6_four 6 = .ok (.ifCond .eq 22, 3) := by decide +kernel
theorem dX6_four_9 : decode cX6_four 9 = .ok (.aload_n 0, 1) := by decide +kernel
theorem dX6_four_10 : decode cX6_four 10 = .ok (.iload_n 2, 1) := by decide +kernel
theorem dX6_four_11 : decode cX6_four 11 = .ok (.iload_n 3, 1) := by decide +kernel
theorem dX6_four_12 : decode cX6_four 12 = .ok (.invokevirtual 126, 3) := by decide +kernel
theorem dX6_four_15 : decode cX6_four 15 = .ok (.ifCond .eq 13, 3) := by decide +kernel
theorem dX6_four_18 : decode cX6_four 18 = .ok (.aload_n 0, 1) := by decide +kernel
theorem dX6_four_19 : decode cX6_four 19 = .ok (.iload_n 3, 1) := by decide +kernel
theorem dX6_four_20 : decode cX6_four 20 = .ok (.iload 4, 2) := by decide +kernel
theorem dX6_four_22 : decode cX6_four 22 = .ok (.invokevirtual 126, 3) := by decide +kernel
theorem dX6_four_25 : decode cX6_four 25 = .ok (.ifCond .ne 5, 3) := by decide +kernel
theorem dX6_four_28 : decode cX6_four 28 = .ok (.iconst (-1), 1) := by decide +kernel
theorem dX6_four_29 : decode cX6_four 29 = .ok (.ireturn, 1) := by decide +kernel
theorem dX6_four_30 : decode cX6_four 30 = .ok (.aload_n 0, 1) := by decide +kernel
theorem dX6_four_31 : decode cX6_four 31 = .ok (.getfield 9, 3) := by decide +kernel
theorem dX6_four_34 : decode cX6_four 34 = .ok (.iload_n 1, 1) := by decide +kernel
theorem dX6_four_35 : decode cX6_four 35 = .ok (.iaload, 1) := by decide +kernel
theorem dX6_four_36 : decode cX6_four 36 = .ok (.istore 5, 2) := by decide +kernel
theorem dX6_four_38 : decode cX6_four 38 = .ok (.iconst 1, 1) := by decide +kernel
theorem dX6_four_39 : decode cX6_four 39 = .ok (.istore 6, 2) := by decide +kernel
theorem dX6_four_41 : decode cX6_four 41 = .ok (.iload 6, 2) := by decide +kernel
theorem dX6_four_43 : decode cX6_four 43 = .ok (.iload 5, 2) := by decide +kernel
theorem dX6_four_45 : decode cX6_four 45 = .ok (.if_icmp .ge 79, 3) := by decide +kernel
theorem dX6_four_48 : decode cX6_four 48 = .ok (.aload_n 0, 1) := by decide +kernel
theorem dX6_four_49 : decode cX6_four 49 = .ok (.getfield 13, 3) := by decide +kernel
theorem dX6_four_52 : decode cX6_four 52 = .ok (.iload_n 1, 1) := by decide +kernel
theorem dX6_four_53 : decode cX6_four 53 = .ok (.laload, 1) := by decide +kernel
theorem dX6_four_54 : decode cX6_four 54 = .ok (.iload 5, 2) := by decide +kernel
theorem dX6_four_56 : decode cX6_four 56 = .ok (.iload 6, 2) := by decide +kernel
theorem dX6_four_58 : decode cX6_four 58 = .ok (.invokestatic 96, 3) := by decide +kernel
theorem dX6_four_61 : decode cX6_four 61 = .ok (.aload_n 0, 1) := by decide +kernel
theorem dX6_four_62 : decode cX6_four 62 = .ok (.getfield 13, 3) := by decide +kernel
theorem dX6_four_65 : decode cX6_four 65 = .ok (.iload_n 2, 1) := by decide +kernel
theorem dX6_four_66 : decode cX6_four 66 = .ok (.laload, 1) := by decide +kernel
theorem dX6_four_67 : decode cX6_four 67 = .ok (.iload 5, 2) := by decide +kernel
theorem dX6_four_69 : decode cX6_four 69 = .ok (.iload 6, 2) := by decide +kernel
theorem dX6_four_71 : decode cX6_four 71 = .ok (.invokestatic 96, 3) := by decide +kernel
theorem dX6_four_74 : decode cX6_four 74 = .ok (.iadd, 1) := by decide +kernel
theorem dX6_four_75 : decode cX6_four 75 = .ok (.istore 7, 2) := by decide +kernel
theorem dX6_four_77 : decode cX6_four 77 = .ok (.aload_n 0, 1) := by decide +kernel
theorem dX6_four_78 : decode cX6_four 78 = .ok (.getfield 13, 3) := by decide +kernel
theorem dX6_four_81 : decode cX6_four 81 = .ok (.iload_n 3, 1) := by decide +kernel
theorem dX6_four_82 : decode cX6_four 82 = .ok (.laload, 1) := by decide +kernel
theorem dX6_four_83 : decode cX6_four 83 = .ok (.iload 5, 2) := by decide +kernel
theorem dX6_four_85 : decode cX6_four 85 = .ok (.iload 6, 2) := by decide +kernel
theorem dX6_four_87 : decode cX6_four 87 = .ok (.invokestatic 96, 3) := by decide +kernel
theorem dX6_four_90 : decode cX6_four 90 = .ok (.aload_n 0, 1) := by decide +kernel
theorem dX6_four_91 : decode cX6_four 91 = .ok (.getfield 13, 3) := by decide +kernel
theorem dX6_four_94 : decode cX6_four 94 = .ok (.iload 4, 2) := by decide +kernel
theorem dX6_four_96 : decode cX6_four 96 = .ok (.laload, 1) := by decide +kernel
theorem dX6_four_97 : decode cX6_four 97 = .ok (.iload 5, 2) := by decide +kernel
theorem dX6_four_99 : decode cX6_four 99 = .ok (.iload 6, 2) := by decide +kernel
theorem dX6_four_101 : decode cX6_four 101 = .ok (.invokestatic 96, 3) := by decide +kernel
theorem dX6_four_104 : decode cX6_four 104 = .ok (.iadd, 1) := by decide +kernel
theorem dX6_four_105 : decode cX6_four 105 = .ok (.istore 8, 2) := by decide +kernel
theorem dX6_four_107 : decode cX6_four 107 = .ok (.iload 7, 2) := by decide +kernel
theorem dX6_four_109 : decode cX6_four 109 = .ok (.iload 8, 2) := by decide +kernel
theorem dX6_four_111 : decode cX6_four 111 = .ok (.iadd, 1) := by decide +kernel
theorem dX6_four_112 : decode cX6_four 112 = .ok (.ifCond .eq 6, 3) := by decide +kernel
theorem dX6_four_115 : decode cX6_four 115 = .ok (.iload 6, 2) := by decide +kernel
theorem dX6_four_117 : decode cX6_four 117 = .ok (.ireturn, 1) := by decide +kernel
theorem dX6_four_118 : decode cX6_four 118 = .ok (.iinc 6 1, 3) := by decide +kernel
theorem dX6_four_121 : decode cX6_four 121 = .ok (.goto (-80), 3) := by decide +kernel
theorem dX6_four_124 : decode cX6_four 124 = .ok (.iconst 0, 1) := by decide +kernel
theorem dX6_four_125 : decode cX6_four 125 = .ok (.ireturn, 1) := by decide +kernel
set_option maxRecDepth 20000 in
theorem ggX6_doubled_X6_areAlikeLong : GoodIn wsX6_doubled wsX6_areAlikeLong := goodIn_r _ [7, 1, 8, 9, 10, 6, 11, 12, 13, 14, 15, 34, 35, 36, 37, 38, 39, 40] (by decide +kernel) (by decide +kernel)
set_option maxRecDepth 20000 in
theorem gX6_doubled_X6_areAlikeLong : GoodIn wsX6_doubled (wsV RX6 126 RX6 yX6_areAlikeLong wsX6_areAlikeLong) := goodIn_app (goodIn_of _ (by decide +kernel)) ggX6_doubled_X6_areAlikeLong
set_option maxRecDepth 20000 in
theorem ggX6_doubled_X6_fits : GoodIn wsX6_doubled wsX6_fits := goodIn_r _ [19, 12, 34, 35, 36, 37, 38, 39, 40] (by decide +kernel) (by decide +kernel)
set_option maxRecDepth 20000 in
theorem gX6_doubled_X6_fits : GoodIn wsX6_doubled (wsV RX6 52 RX6 yX6_fits wsX6_fits) := goodIn_app (goodIn_of _ (by decide +kernel)) ggX6_doubled_X6_fits
set_option maxRecDepth 20000 in
theorem ggX6_doubled_X3_joined : GoodIn wsX6_doubled wsX3_joined := goodIn_r _ [23] (by decide +kernel) (by decide +kernel)
set_option maxRecDepth 20000 in
theorem gX6_doubled_X3_joined : GoodIn wsX6_doubled (va_wsS RX6 122 yX3_joined wsX3_joined) := goodIn_app (goodIn_of _ (by decide +kernel)) ggX6_doubled_X3_joined
set_option maxRecDepth 20000 in
theorem ggX6_doubled_X6_added : GoodIn wsX6_doubled wsX6_added := goodIn_r _ [27, 12, 1, 2, 34, 35, 36, 37, 38, 39, 40] (by decide +kernel) (by decide +kernel)
set_option maxRecDepth 20000 in
theorem gX6_doubled_X6_added : GoodIn wsX6_doubled (wsV RX6 56 RX6 yX6_added wsX6_added) := goodIn_app (goodIn_of _ (by decide +kernel)) ggX6_doubled_X6_added
set_option maxRecDepth 20000 in
theorem ggX6_doubled_X3_opposite : GoodIn wsX6_doubled wsX3_opposite := goodIn_r _ [30, 31, 32, 22, 33] (by decide +kernel) (by decide +kernel)
set_option maxRecDepth 20000 in
theorem gX6_doubled_X3_opposite : GoodIn wsX6_doubled (va_wsS RX6 141 yX3_opposite wsX3_opposite) := goodIn_app (goodIn_of _ (by decide +kernel)) ggX6_doubled_X3_opposite
theorem dX6_doubled_0 : decode cX6_doubled 0 = .ok (.aload_n 0, 1) := by decide +kernel
theorem dX6_doubled_1 : decode cX6_doubled 1 = .ok (.iload_n 1, 1) := by decide +kernel
theorem dX6_doubled_2 : decode cX6_doubled 2 = .ok (.iload_n 2, 1) := by decide +kernel
theorem dX6_doubled_3 : decode cX6_doubled 3 = .ok (.invokevirtual 126, 3) := by decide +kernel
theorem dX6_doubled_6 : decode cX6_doubled 6 = .ok (.ifCond .ne 5, 3) := by decide +kernel
theorem dX6_doubled_9 : decode cX6_doubled 9 = .ok (.iconst (-1), 1) := by decide +kernel
theorem dX6_doubled_10 : decode cX6_doubled 10 = .ok (.ireturn, 1) := by decide +kernel
theorem dX6_doubled_11 : decode cX6_doubled 11 = .ok (.aload_n 0, 1) := by decide +kernel
theorem dX6_doubled_12 : decode cX6_doubled 12 = .ok (.getfield 9, 3) := by decide +kernel
theorem dX6_doubled_15 : decode cX6_doubled 15 = .ok (.iload_n 1, 1) := by decide +kernel
theorem dX6_doubled_16 : decode cX6_doubled 16 = .ok (.iaload, 1) := by decide +kernel
theorem dX6_doubled_17 : decode cX6_doubled 17 = .ok (.istore_n 3, 1) := by decide +kernel
theorem dX6_doubled_18 : decode cX6_doubled 18 = .ok (.aload_n 0, 1) := by decide +kernel
theorem dX6_doubled_19 : decode cX6_doubled 19 = .ok (.iconst 2, 1) := by decide +kernel
theorem dX6_doubled_20 : decode cX6_doubled 20 = .ok (.iload_n 3, 1) := by decide +kernel
theorem dX6_doubled_21 : decode cX6_doubled 21 = .ok (.imul, 1) := by decide +kernel
theorem dX6_doubled_22 : decode cX6_doubled 22 = .ok (.iconst 2, 1) := by decide +kernel
theorem dX6_doubled_23 : decode cX6_doubled 23 = .ok (.invokevirtual 52, 3) := by decide +kernel
theorem dX6_doubled_26 : decode cX6_doubled 26 = .ok (.ifCond .ne 6, 3) := by decide +kernel
theorem dX6_doubled_29 : decode cX6_doubled 29 = .ok (.bipush (-3), 2) := by decide +kernel
theorem dX6_doubled_31 : decode cX6_doubled 31 = .ok (.ireturn, 1) := by decide +kernel
theorem dX6_doubled_32 : decode cX6_doubled 32 = .ok (.aload_n 0, 1) := by decide +kernel
theorem dX6_doubled_33 : decode cX6_doubled 33 = .ok (.iconst 2, 1) := by decide +kernel
theorem dX6_doubled_34 : decode cX6_doubled 34 = .ok (.iload_n 3, 1) := by decide +kernel
theorem dX6_doubled_35 : decode cX6_doubled 35 = .ok (.imul, 1) := by decide +kernel
theorem dX6_doubled_36 : decode cX6_doubled 36 = .ok (.aload_n 0, 1) := by decide +kernel
theorem dX6_doubled_37 : decode cX6_doubled 37 = .ok (.getfield 13, 3) := by decide +kernel
theorem dX6_doubled_40 : decode cX6_doubled 40 = .ok (.iload_n 1, 1) := by decide +kernel
theorem dX6_doubled_41 : decode cX6_doubled 41 = .ok (.laload, 1) := by decide +kernel
theorem dX6_doubled_42 : decode cX6_doubled 42 = .ok (.iload_n 3, 1) := by decide +kernel
theorem dX6_doubled_43 : decode cX6_doubled 43 = .ok (.aload_n 0, 1) := by decide +kernel
theorem dX6_doubled_44 : decode cX6_doubled 44 = .ok (.getfield 13, 3) := by decide +kernel
theorem dX6_doubled_47 : decode cX6_doubled 47 = .ok (.iload_n 2, 1) := by decide +kernel
theorem dX6_doubled_48 : decode cX6_doubled 48 = .ok (.laload, 1) := by decide +kernel
theorem dX6_doubled_49 : decode cX6_doubled 49 = .ok (.invokestatic 122, 3) := by decide +kernel
theorem dX6_doubled_52 : decode cX6_doubled 52 = .ok (.invokevirtual 56, 3) := by decide +kernel
theorem dX6_doubled_55 : decode cX6_doubled 55 = .ok (.istore 4, 2) := by decide +kernel
theorem dX6_doubled_57 : decode cX6_doubled 57 = .ok (.aload_n 0, 1) := by decide +kernel
theorem dX6_doubled_58 : decode cX6_doubled 58 = .ok (.iconst 2, 1) := by decide +kernel
theorem dX6_doubled_59 : decode cX6_doubled 59 = .ok (.iload_n 3, 1) := by decide +kernel
theorem dX6_doubled_60 : decode cX6_doubled 60 = .ok (.imul, 1) := by decide +kernel
theorem dX6_doubled_61 : decode cX6_doubled 61 = .ok (.aload_n 0, 1) := by decide +kernel
theorem dX6_doubled_62 : decode cX6_doubled 62 = .ok (.getfield 13, 3) := by decide +kernel
theorem dX6_doubled_65 : decode cX6_doubled 65 = .ok (.iload_n 1, 1) := by decide +kernel
theorem dX6_doubled_66 : decode cX6_doubled 66 = .ok (.laload, 1) := by decide +kernel
theorem dX6_doubled_67 : decode cX6_doubled 67 = .ok (.iload_n 3, 1) := by decide +kernel
theorem dX6_doubled_68 : decode cX6_doubled 68 = .ok (.aload_n 0, 1) := by decide +kernel
theorem dX6_doubled_69 : decode cX6_doubled 69 = .ok (.getfield 13, 3) := by decide +kernel
theorem dX6_doubled_72 : decode cX6_doubled 72 = .ok (.iload_n 2, 1) := by decide +kernel
theorem dX6_doubled_73 : decode cX6_doubled 73 = .ok (.laload, 1) := by decide +kernel
theorem dX6_doubled_74 : decode cX6_doubled 74 = .ok (.iload_n 3, 1) := by decide +kernel
theorem dX6_doubled_75 : decode cX6_doubled 75 = .ok (.invokestatic 141, 3) := by decide +kernel
theorem dX6_doubled_78 : decode cX6_doubled 78 = .ok (.invokestatic 122, 3) := by decide +kernel
theorem dX6_doubled_81 : decode cX6_doubled 81 = .ok (.invokevirtual 56, 3) := by decide +kernel
theorem dX6_doubled_84 : decode cX6_doubled 84 = .ok (.pop, 1) := by decide +kernel
theorem dX6_doubled_85 : decode cX6_doubled 85 = .ok (.iload 4, 2) := by decide +kernel
theorem dX6_doubled_87 : decode cX6_doubled 87 = .ok (.ireturn, 1) := by decide +kernel
set_option maxRecDepth 20000 in
theorem ggX6_told_X6_within : GoodIn wsX6_told wsX6_within := goodIn_r _ [4] (by decide +kernel) (by decide +kernel)
set_option maxRecDepth 20000 in
theorem gX6_told_X6_within : GoodIn wsX6_told (va_wsS RX6 42 yX6_within wsX6_within) := goodIn_app (goodIn_of _ (by decide +kernel)) ggX6_told_X6_within
set_option maxRecDepth 20000 in
theorem ggX6_told_X5_seedOf : GoodIn wsX6_told wsX5_seedOf := goodIn_r _ [8, 9, 10, 11, 12, 13, 14, 15] (by decide +kernel) (by decide +kernel)
set_option maxRecDepth 20000 in
theorem gX6_told_X5_seedOf : GoodIn wsX6_told (va_wsS RX6 144 yX5_seedOf wsX5_seedOf) := goodIn_app (goodIn_of _ (by decide +kernel)) ggX6_told_X5_seedOf
set_option maxRecDepth 20000 in
theorem ggX6_told_X6_fits : GoodIn wsX6_told wsX6_fits := goodIn_r _ [19, 20, 47, 48, 49, 50, 51, 52, 53] (by decide +kernel) (by decide +kernel)
set_option maxRecDepth 20000 in
theorem gX6_told_X6_fits : GoodIn wsX6_told (wsV RX6 52 RX6 yX6_fits wsX6_fits) := goodIn_app (goodIn_of _ (by decide +kernel)) ggX6_told_X6_fits
set_option maxRecDepth 20000 in
theorem ggX6_told_X5_firstOfSeed : GoodIn wsX6_told wsX5_firstOfSeed := goodIn_r _ [23, 24, 25] (by decide +kernel) (by decide +kernel)
set_option maxRecDepth 20000 in
theorem gX6_told_X5_firstOfSeed : GoodIn wsX6_told (va_wsS RX6 149 yX5_firstOfSeed wsX5_firstOfSeed) := goodIn_app (goodIn_of _ (by decide +kernel)) ggX6_told_X5_firstOfSeed
set_option maxRecDepth 20000 in
theorem ggX6_told_X5_secondOfSeed : GoodIn wsX6_told wsX5_secondOfSeed := goodIn_r _ [28, 29, 30] (by decide +kernel) (by decide +kernel)
set_option maxRecDepth 20000 in
theorem gX6_told_X5_secondOfSeed : GoodIn wsX6_told (va_wsS RX6 152 yX5_secondOfSeed wsX5_secondOfSeed) := goodIn_app (goodIn_of _ (by decide +kernel)) ggX6_told_X5_secondOfSeed
set_option maxRecDepth 20000 in
theorem ggX6_told_X3_joined : GoodIn wsX6_told wsX3_joined := goodIn_r _ [34] (by decide +kernel) (by decide +kernel)
set_option maxRecDepth 20000 in
theorem gX6_told_X3_joined : GoodIn wsX6_told (va_wsS RX6 122 yX3_joined wsX3_joined) := goodIn_app (goodIn_of _ (by decide +kernel)) ggX6_told_X3_joined
set_option maxRecDepth 20000 in
theorem ggX6_told_X3_opposite : GoodIn wsX6_told wsX3_opposite := goodIn_r _ [37, 38, 39, 33, 40] (by decide +kernel) (by decide +kernel)
set_option maxRecDepth 20000 in
theorem gX6_told_X3_opposite : GoodIn wsX6_told (va_wsS RX6 141 yX3_opposite wsX3_opposite) := goodIn_app (goodIn_of _ (by decide +kernel)) ggX6_told_X3_opposite
set_option maxRecDepth 20000 in
theorem ggX6_told_X6_added : GoodIn wsX6_told wsX6_added := goodIn_r _ [44, 20, 45, 46, 47, 48, 49, 50, 51, 52, 53] (by decide +kernel) (by decide +kernel)
set_option maxRecDepth 20000 in
theorem gX6_told_X6_added : GoodIn wsX6_told (wsV RX6 56 RX6 yX6_added wsX6_added) := goodIn_app (goodIn_of _ (by decide +kernel)) ggX6_told_X6_added
theorem dX6_told_0 : decode cX6_told 0 = .ok (.iload_n 1, 1) := by decide +kernel
theorem dX6_told_1 : decode cX6_told 1 = .ok (.iconst 1, 1) := by decide +kernel
theorem dX6_told_2 : decode cX6_told 2 = .ok (.bipush 32, 2) := by decide +kernel
theorem dX6_told_4 : decode cX6_told 4 = .ok (.invokestatic 42, 3) := by decide +kernel
theorem dX6_told_7 : decode cX6_told 7 = .ok (.ifCond .ne 5, 3) := by decide +kernel
theorem dX6_told_10 : decode cX6_told 10 = .ok (.iconst (-1), 1) := by decide +kernel
theorem dX6_told_11 : decode cX6_told 11 = .ok (.ireturn, 1) := by decide +kernel
theorem dX6_told_12 : decode cX6_told 12 = .ok (.iload_n 1, 1) := by decide +kernel
theorem dX6_told_13 : decode cX6_told 13 = .ok (.invokestatic 144, 3) := by decide +kernel
theorem dX6_told_16 : decode cX6_told 16 = .ok (.istore_n 2, 1) := by decide +kernel
theorem dX6_told_17 : decode cX6_told 17 = .ok (.iload_n 2, 1) := by decide +kernel
theorem dX6_told_18 : decode cX6_told 18 = .ok (.ifCond .ne 6, 3) := by decide +kernel
theorem dX6_told_21 : decode cX6_told 21 = .ok (.bipush (-4), 2) := by decide +kernel
theorem dX6_told_23 : decode cX6_told 23 = .ok (.ireturn, 1) := by decide +kernel
theorem dX6_told_24 : decode cX6_told 24 = .ok (.aload_n 0, 1) := by decide +kernel
theorem dX6_told_25 : decode cX6_told 25 = .ok (.iload_n 1, 1) := by decide +kernel
theorem dX6_told_26 : decode cX6_told 26 = .ok (.iconst 2, 1) := by decide +kernel
theorem dX6_told_27 : decode cX6_told 27 = .ok (.invokevirtual 52, 3) := by decide +kernel
theorem dX6_told_30 : decode cX6_told 30 = .ok (.ifCond .ne 6, 3) := by decide +kernel
theorem dX6_told_33 : decode cX6_told 33 = .ok (.bipush (-3), 2) := by decide +kernel
theorem dX6_told_35 : decode cX6_told 35 = .ok (.ireturn, 1) := by decide +kernel
theorem dX6_told_36 : decode cX6_told 36 = .ok (.iload_n 2, 1) := by decide +kernel
theorem dX6_told_37 : decode cX6_told 37 = .ok (.invokestatic 149, 3) := by decide +kernel
theorem dX6_told_40 : decode cX6_told 40 = .ok (.lstore_n 3, 1) := by decide +kernel
theorem dX6_told_41 : decode cX6_told 41 = .ok (.iload_n 2, 1) := by decide +kernel
theorem dX6_told_42 : decode cX6_told 42 = .ok (.invokestatic 152, 3) := by decide +kernel
theorem dX6_told_45 : decode cX6_told 45 = .ok (.lstore 5, 2) := by decide +kernel
theorem dX6_told_47 : decode cX6_told 47 = .ok (.iload_n 2, 1) := by decide +kernel
theorem dX6_told_48 : decode cX6_told 48 = .ok (.istore 7, 2) := by decide +kernel
theorem dX6_told_50 : decode cX6_told 50 = .ok (.iload 7, 2) := by decide +kernel
theorem dX6_told_52 : decode cX6_told 52 = .ok (.ifCond .le 46, 3) := by decide +kernel
theorem dX6_told_55 : decode cX6_told 55 = .ok (.iload 7, 2) := by decide +kernel
theorem dX6_told_57 : decode cX6_told 57 = .ok (.iload_n 1, 1) := by decide +kernel
theorem dX6_told_58 : decode cX6_told 58 = .ok (.if_icmp .ge 40, 3) := by decide +kernel
theorem dX6_told_61 : decode cX6_told 61 = .ok (.lload_n 3, 1) := by decide +kernel
theorem dX6_told_62 : decode cX6_told 62 = .ok (.iload 7, 2) := by decide +kernel
theorem dX6_told_64 : decode cX6_told 64 = .ok (.lload 5, 2) := by decide +kernel
theorem dX6_told_66 : decode cX6_told 66 = .ok (.invokestatic 122, 3) := by decide +kernel
theorem dX6_told_69 : decode cX6_told 69 = .ok (.lstore 8, 2) := by decide +kernel
theorem dX6_told_71 : decode cX6_told 71 = .ok (.lload_n 3, 1) := by decide +kernel
theorem dX6_told_72 : decode cX6_told 72 = .ok (.iload 7, 2) := by decide +kernel
theorem dX6_told_74 : decode cX6_told 74 = .ok (.lload 5, 2) := by decide +kernel
theorem dX6_told_76 : decode cX6_told 76 = .ok (.iload 7, 2) := by decide +kernel
theorem dX6_told_78 : decode cX6_told 78 = .ok (.invokestatic 141, 3) := by decide +kernel
theorem dX6_told_81 : decode cX6_told 81 = .ok (.invokestatic 122, 3) := by decide +kernel
theorem dX6_told_84 : decode cX6_told 84 = .ok (.lstore 5, 2) := by decide +kernel
theorem dX6_told_86 : decode cX6_told 86 = .ok (.lload 8, 2) := by decide +kernel
theorem dX6_told_88 : decode cX6_told 88 = .ok (.lstore_n 3, 1) := by decide +kernel
theorem dX6_told_89 : decode cX6_told 89 = .ok (.iconst 2, 1) := by decide +kernel
theorem dX6_told_90 : decode cX6_told 90 = .ok (.iload 7, 2) := by decide +kernel
theorem dX6_told_92 : decode cX6_told 92 = .ok (.imul, 1) := by decide +kernel
theorem dX6_told_93 : decode cX6_told 93 = .ok (.istore 7, 2) := by decide +kernel
theorem dX6_told_95 : decode cX6_told 95 = .ok (.goto (-45), 3) := by decide +kernel
theorem dX6_told_98 : decode cX6_told 98 = .ok (.aload_n 0, 1) := by decide +kernel
theorem dX6_told_99 : decode cX6_told 99 = .ok (.iload_n 1, 1) := by decide +kernel
theorem dX6_told_100 : decode cX6_told 100 = .ok (.lload_n 3, 1) := by decide +kernel
theorem dX6_told_101 : decode cX6_told 101 = .ok (.invokevirtual 56, 3) := by decide +kernel
theorem dX6_told_104 : decode cX6_told 104 = .ok (.istore 7, 2) := by decide +kernel
theorem dX6_told_106 : decode cX6_told 106 = .ok (.aload_n 0, 1) := by decide +kernel
theorem dX6_told_107 : decode cX6_told 107 = .ok (.iload_n 1, 1) := by decide +kernel
theorem dX6_told_108 : decode cX6_told 108 = .ok (.lload 5, 2) := by decide +kernel
theorem dX6_told_110 : decode cX6_told 110 = .ok (.invokevirtual 56, 3) := by decide +kernel
theorem dX6_told_113 : decode cX6_told 113 = .ok (.pop, 1) := by decide +kernel
theorem dX6_told_114 : decode cX6_told 114 = .ok (.iload 7, 2) := by decide +kernel
theorem dX6_told_116 : decode cX6_told 116 = .ok (.ireturn, 1) := by decide +kernel
set_option maxRecDepth 20000 in
theorem ggX6_why_X6_within : GoodIn wsX6_why wsX6_within := goodIn_r _ [5] (by decide +kernel) (by decide +kernel)
set_option maxRecDepth 20000 in
theorem gX6_why_X6_within : GoodIn wsX6_why (va_wsS RX6 42 yX6_within wsX6_within) := goodIn_app (goodIn_of _ (by decide +kernel)) ggX6_why_X6_within
set_option maxRecDepth 20000 in
theorem ggX6_why_X4_ways : GoodIn wsX6_why wsX4_ways := goodIn_r _ [9, 10, 11, 8, 12, 13, 14, 15, 16, 17, 18, 19] (by decide +kernel) (by decide +kernel)
set_option maxRecDepth 20000 in
theorem gX6_why_X4_ways : GoodIn wsX6_why (va_wsS RX6 156 yX4_ways wsX4_ways) := goodIn_app (goodIn_of _ (by decide +kernel)) ggX6_why_X4_ways
set_option maxRecDepth 20000 in
theorem ggX6_why_X4_hasPrimeOfRestThree : GoodIn wsX6_why wsX4_hasPrimeOfRestThree := goodIn_r _ [22] (by decide +kernel) (by decide +kernel)
set_option maxRecDepth 20000 in
theorem gX6_why_X4_hasPrimeOfRestThree : GoodIn wsX6_why (va_wsS RX6 162 yX4_hasPrimeOfRestThree wsX4_hasPrimeOfRestThree) := goodIn_app (goodIn_of _ (by decide +kernel)) ggX6_why_X4_hasPrimeOfRestThree
theorem dX6_why_0 : decode cX6_why 0 = .ok (.iload_n 1, 1) := by decide +kernel
theorem dX6_why_1 : decode cX6_why 1 = .ok (.iconst 1, 1) := by decide +kernel
theorem dX6_why_2 : decode cX6_why 2 = .ok (.ldc 155, 2) := by decide +kernel
theorem dX6_why_4 : decode cX6_why 4 = .ok (.invokestatic 42, 3) := by decide +kernel
theorem dX6_why_7 : decode cX6_why 7 = .ok (.ifCond .ne 5, 3) := by decide +kernel
theorem dX6_why_10 : decode cX6_why 10 = .ok (.iconst (-1), 1) := by decide +kernel
theorem dX6_why_11 : decode cX6_why 11 = .ok (.ireturn, 1) := by decide +kernel
theorem dX6_why_12 : decode cX6_why 12 = .ok (.iload_n 1, 1) := by decide +kernel
theorem dX6_why_13 : decode cX6_why 13 = .ok (.iconst 2, 1) := by decide +kernel
theorem dX6_why_14 : decode cX6_why 14 = .ok (.irem, 1) := by decide +kernel
theorem dX6_why_15 : decode cX6_why 15 = .ok (.iconst 1, 1) := by decide +kernel
theorem dX6_why_16 : decode cX6_why 16 = .ok (.if_icmp .ne 10, 3) := by decide +kernel
theorem dX6_why_19 : decode cX6_why 19 = .ok (.iload_n 1, 1) := by decide +kernel
theorem dX6_why_20 : decode cX6_why 20 = .ok (.iconst 1, 1) := by decide +kernel
theorem dX6_why_21 : decode cX6_why 21 = .ok (.if_icmp .eq 5, 3) := by decide +kernel
theorem dX6_why_24 : decode cX6_why 24 = .ok (.iconst 1, 1) := by decide +kernel
theorem dX6_why_25 : decode cX6_why 25 = .ok (.ireturn, 1) := by decide +kernel
theorem dX6_why_26 : decode cX6_why 26 = .ok (.iload_n 1, 1) := by decide +kernel
theorem dX6_why_27 : decode cX6_why 27 = .ok (.iconst 2, 1) := by decide +kernel
theorem dX6_why_28 : decode cX6_why 28 = .ok (.invokestatic 156, 3) := by decide +kernel
theorem dX6_why_31 : decode cX6_why 31 = .ok (.ifCond .ne 5, 3) := by decide +kernel
theorem dX6_why_34 : decode cX6_why 34 = .ok (.iconst 2, 1) := by decide +kernel
theorem dX6_why_35 : decode cX6_why 35 = .ok (.ireturn, 1) := by decide +kernel
theorem dX6_why_36 : decode cX6_why 36 = .ok (.iload_n 1, 1) := by decide +kernel
theorem dX6_why_37 : decode cX6_why 37 = .ok (.invokestatic 162, 3) := by decide +kernel
theorem dX6_why_40 : decode cX6_why 40 = .ok (.ifCond .eq 7, 3) := by decide +kernel
theorem dX6_why_43 : decode cX6_why 43 = .ok (.iconst 3, 1) := by decide +kernel
theorem dX6_why_44 : decode cX6_why 44 = .ok (.goto 4, 3) := by decide +kernel
theorem dX6_why_47 : decode cX6_why 47 = .ok (.iconst 0, 1) := by decide +kernel
theorem dX6_why_48 : decode cX6_why 48 = .ok (.ireturn, 1) := by decide +kernel
set_option maxRecDepth 20000 in
theorem ggX6_squares_X6_within : GoodIn wsX6_squares wsX6_within := goodIn_r _ [5] (by decide +kernel) (by decide +kernel)
set_option maxRecDepth 20000 in
theorem gX6_squares_X6_within : GoodIn wsX6_squares (va_wsS RX6 42 yX6_within wsX6_within) := goodIn_app (goodIn_of _ (by decide +kernel)) ggX6_squares_X6_within
set_option maxRecDepth 20000 in
theorem ggX6_squares_X4_ways : GoodIn wsX6_squares wsX4_ways := goodIn_r _ [9, 10, 11, 8, 12, 13, 14, 15, 16, 17, 18, 19] (by decide +kernel) (by decide +kernel)
set_option maxRecDepth 20000 in
theorem gX6_squares_X4_ways : GoodIn wsX6_squares (va_wsS RX6 156 yX4_ways wsX4_ways) := goodIn_app (goodIn_of _ (by decide +kernel)) ggX6_squares_X4_ways
theorem dX6_squares_0 : decode cX6_squares 0 = .ok (.iload_n 2, 1) := by decide +kernel
theorem dX6_squares_1 : decode cX6_squares 1 = .ok (.iconst 1, 1) := by decide +kernel
theorem dX6_squares_2 : decode cX6_squares 2 = .ok (.iconst 4, 1) := by decide +kernel
theorem dX6_squares_3 : decode cX6_squares 3 = .ok (.invokestatic 42, 3) := by decide +kernel
theorem dX6_squares_6 : decode cX6_squares 6 = .ok (.ifCond .eq 24, 3) := by decide +kernel
theorem dX6_squares_9 : decode cX6_squares 9 = .ok (.iload_n 1, 1) := by decide +kernel
theorem dX6_squares_10 : decode cX6_squares 10 = .ok (.iconst 0, 1) := by decide +kernel
theorem dX6_squares_11 : decode cX6_squares 11 = .ok (.iload_n 2, 1) := by decide +kernel
theorem dX6_squares_12 : decode cX6_squares 12 = .ok (.iconst 2, 1) := by decide +kernel
theorem dX6_squares_13 : decode cX6_squares 13 = .ok (.if_icmp .gt 8, 3) := by decide +kernel
theorem dX6_squares_16 : decode cX6_squares 16 = .ok (.ldc 155, 2) := by decide +kernel
theorem dX6_squares_18 : decode cX6_squares 18 = .ok (.goto 6, 3) := by decide +kernel
theorem dX6_squares_21 : decode cX6_squares 21 = .ok (.sipush 1000, 3) := by decide +kernel
theorem dX6_squares_24 : decode cX6_squares 24 = .ok (.invokestatic 42, 3) := by decide +kernel
theorem dX6_squares_27 : decode cX6_squares 27 = .ok (.ifCond .ne 5, 3) := by decide +kernel
theorem dX6_squares_30 : decode cX6_squares 30 = .ok (.iconst (-1), 1) := by decide +kernel
theorem dX6_squares_31 : decode cX6_squares 31 = .ok (.ireturn, 1) := by decide +kernel
theorem dX6_squares_32 : decode cX6_squares 32 = .ok (.iload_n 1, 1) := by decide +kernel
theorem dX6_squares_33 : decode cX6_squares 33 = .ok (.iload_n 2, 1) := by decide +kernel
theorem dX6_squares_34 : decode cX6_squares 34 = .ok (.invokestatic 156, 3) := by decide +kernel
theorem dX6_squares_37 : decode cX6_squares 37 = .ok (.ireturn, 1) := by decide +kernel
set_option maxRecDepth 20000 in
theorem ggX6_pairs_X6_within : GoodIn wsX6_pairs wsX6_within := goodIn_r _ [5] (by decide +kernel) (by decide +kernel)
set_option maxRecDepth 20000 in
theorem gX6_pairs_X6_within : GoodIn wsX6_pairs (va_wsS RX6 42 yX6_within wsX6_within) := goodIn_app (goodIn_of _ (by decide +kernel)) ggX6_pairs_X6_within
set_option maxRecDepth 20000 in
theorem ggX6_pairs_X6_pairListOf : GoodIn wsX6_pairs wsX6_pairListOf := goodIn_r _ [9, 10, 11, 12, 13, 14, 15, 16, 17, 18, 19, 20, 21, 22, 23, 24, 25, 26, 27, 28, 29, 30, 31, 32, 33, 34, 35, 36, 37, 38, 39, 40, 41, 42, 43, 44, 45, 46, 47, 48, 49, 50, 51, 52, 53, 54, 55, 56, 57, 58, 59, 60, 61, 62, 63, 64, 65, 66, 67, 68, 69, 70, 71, 72, 73, 74, 75, 76, 77, 78, 79, 80, 81, 82, 83, 84, 85, 86, 87, 88, 89, 90, 91, 92, 93, 94, 95, 96, 97, 98, 99, 100, 101, 102, 103, 104, 105, 106, 107, 108, 109, 110, 111, 112, 113, 114, 115, 116, 117, 118, 119, 120, 121, 122, 123, 124, 125, 126, 127, 128, 129, 130, 131, 132, 133, 134, 135, 136, 137, 138, 139, 140, 141, 142, 143, 179, 180, 181, 182, 183, 184, 185, 177, 178, 186, 187, 188, 189] (by decide +kernel) (by decide +kernel)
set_option maxRecDepth 20000 in
theorem gX6_pairs_X6_pairListOf : GoodIn wsX6_pairs (wsV RX6 165 RX6 yX6_pairListOf wsX6_pairListOf) := goodIn_app (goodIn_of _ (by decide +kernel)) ggX6_pairs_X6_pairListOf
set_option maxRecDepth 20000 in
theorem ggX6_pairs_X1_kinds : GoodIn wsX6_pairs wsX1_kinds := goodIn_r _ [147, 24, 148, 149, 150, 23, 151, 97, 177, 178, 186, 187, 188] (by decide +kernel) (by decide +kernel)
set_option maxRecDepth 20000 in
theorem gX6_pairs_X1_kinds : GoodIn wsX6_pairs (wsV RX6 172 RX1 yX1_kinds wsX1_kinds) := goodIn_app (goodIn_of _ (by decide +kernel)) ggX6_pairs_X1_kinds
set_option maxRecDepth 20000 in
theorem ggX6_pairs_X1_codeAt : GoodIn wsX6_pairs wsX1_codeAt := goodIn_r _ [155, 24, 156, 148, 149, 150, 23, 151, 97, 157, 158, 159, 160, 161, 162, 163, 164, 165, 166, 167, 168, 169, 170, 171, 172, 29, 173, 174, 175, 76, 176, 85, 177, 178, 186, 187, 188, 189] (by decide +kernel) (by decide +kernel)
set_option maxRecDepth 20000 in
theorem gX6_pairs_X1_codeAt : GoodIn wsX6_pairs (wsV RX6 176 RX1 yX1_codeAt wsX1_codeAt) := goodIn_app (goodIn_of _ (by decide +kernel)) ggX6_pairs_X1_codeAt
theorem dX6_pairs_0 : decode cX6_pairs 0 = .ok (.iload_n 1, 1) := by decide +kernel
theorem dX6_pairs_1 : decode cX6_pairs 1 = .ok (.iconst 1, 1) := by decide +kernel
theorem dX6_pairs_2 : decode cX6_pairs 2 = .ok (.bipush 8, 2) := by decide +kernel
theorem dX6_pairs_4 : decode cX6_pairs 4 = .ok (.invokestatic 42, 3) := by decide +kernel
theorem dX6_pairs_7 : decode cX6_pairs 7 = .ok (.ifCond .eq 12, 3) := by decide +kernel
theorem dX6_pairs_10 : decode cX6_pairs 10 = .ok (.iload_n 2, 1) := by decide +kernel
theorem dX6_pairs_11 : decode cX6_pairs 11 = .ok (.iconst 0, 1) := by decide +kernel
theorem dX6_pairs_12 : decode cX6_pairs 12 = .ok (.iconst 3, 1) := by decide +kernel
theorem dX6_pairs_13 : decode cX6_pairs 13 = .ok (.invokestatic 42, 3) := by decide +kernel
theorem dX6_pairs_16 : decode cX6_pairs 16 = .ok (.ifCond .ne 5, 3) := by decide +kernel
theorem dX6_pairs_19 : decode cX6_pairs 19 = .ok (.iconst (-1), 1) := by decide +kernel
theorem dX6_pairs_20 : decode cX6_pairs 20 = .ok (.ireturn, 1) := by decide +kernel
theorem dX6_pairs_21 : decode cX6_pairs 21 = .ok (.aload_n 0, 1) := by decide +kernel
theorem dX6_pairs_22 : decode cX6_pairs 22 = .ok (.iload_n 1, 1) := by decide +kernel
theorem dX6_pairs_23 : decode cX6_pairs 23 = .ok (.invokevirtual 165, 3) := by decide +kernel
theorem dX6_pairs_26 : decode cX6_pairs 26 = .ok (.astore_n 3, 1) := by decide +kernel
theorem dX6_pairs_27 : decode cX6_pairs 27 = .ok (.iload_n 2, 1) := by decide +kernel
theorem dX6_pairs_28 : decode cX6_pairs 28 = .ok (.ifCond .ne 8, 3) := by decide +kernel
theorem dX6_pairs_31 : decode cX6_pairs 31 = .ok (.aload_n 3, 1) := by decide +kernel
theorem dX6_pairs_32 : decode cX6_pairs 32 = .ok (.getfield 169, 3) := by decide +kernel
theorem dX6_pairs_35 : decode cX6_pairs 35 = .ok (.ireturn, 1) := by decide +kernel
theorem dX6_pairs_36 : decode cX6_pairs 36 = .ok (.iload_n 2, 1) := by decide +kernel
theorem dX6_pairs_37 : decode cX6_pairs 37 = .ok (.iconst 1, 1) := by decide +kernel
theorem dX6_pairs_38 : decode cX6_pairs 38 = .ok (.if_icmp .ne 8, 3) := by decide +kernel
theorem dX6_pairs_41 : decode cX6_pairs 41 = .ok (.aload_n 3, 1) := by decide +kernel
theorem dX6_pairs_42 : decode cX6_pairs 42 = .ok (.invokevirtual 172, 3) := by decide +kernel
theorem dX6_pairs_45 : decode cX6_pairs 45 = .ok (.ireturn, 1) := by decide +kernel
theorem dX6_pairs_46 : decode cX6_pairs 46 = .ok (.aload_n 3, 1) := by decide +kernel
theorem dX6_pairs_47 : decode cX6_pairs 47 = .ok (.invokevirtual 172, 3) := by decide +kernel
theorem dX6_pairs_50 : decode cX6_pairs 50 = .ok (.ifCond .ne 6, 3) := by decide +kernel
theorem dX6_pairs_53 : decode cX6_pairs 53 = .ok (.bipush (-4), 2) := by decide +kernel
theorem dX6_pairs_55 : decode cX6_pairs 55 = .ok (.ireturn, 1) := by decide +kernel
theorem dX6_pairs_56 : decode cX6_pairs 56 = .ok (.iload_n 2, 1) := by decide +kernel
theorem dX6_pairs_57 : decode cX6_pairs 57 = .ok (.iconst 2, 1) := by decide +kernel
theorem dX6_pairs_58 : decode cX6_pairs 58 = .ok (.if_icmp .ne 15, 3) := by decide +kernel
theorem dX6_pairs_61 : decode cX6_pairs 61 = .ok (.aload_n 3, 1) := by decide +kernel
theorem dX6_pairs_62 : decode cX6_pairs 62 = .ok (.iconst 0, 1) := by decide +kernel
theorem dX6_pairs_63 : decode cX6_pairs 63 = .ok (.invokevirtual 176, 3) := by decide +kernel
theorem dX6_pairs_66 : decode cX6_pairs 66 = .ok (.sipush 1000, 3) := by decide +kernel
theorem dX6_pairs_69 : decode cX6_pairs 69 = .ok (.idiv, 1) := by decide +kernel
theorem dX6_pairs_70 : decode cX6_pairs 70 = .ok (.goto 12, 3) := by decide +kernel
theorem dX6_pairs_73 : decode cX6_pairs 73 = .ok (.aload_n 3, 1) := by decide +kernel
theorem dX6_pairs_74 : decode cX6_pairs 74 = .ok (.iconst 0, 1) := by decide +kernel
theorem dX6_pairs_75 : decode cX6_pairs 75 = .ok (.invokevirtual 176, 3) := by decide +kernel
theorem dX6_pairs_78 : decode cX6_pairs 78 = .ok (.sipush 1000, 3) := by decide +kernel
theorem dX6_pairs_81 : decode cX6_pairs 81 = .ok (.irem, 1) := by decide +kernel
theorem dX6_pairs_82 : decode cX6_pairs 82 = .ok (.ireturn, 1) := by decide +kernel
set_option maxRecDepth 20000 in
theorem ggX6_pair_X6_within : GoodIn wsX6_pair wsX6_within := goodIn_r _ [4] (by decide +kernel) (by decide +kernel)
set_option maxRecDepth 20000 in
theorem gX6_pair_X6_within : GoodIn wsX6_pair (va_wsS RX6 42 yX6_within wsX6_within) := goodIn_app (goodIn_of _ (by decide +kernel)) ggX6_pair_X6_within
set_option maxRecDepth 20000 in
theorem ggX6_pair_X6_pairListOf : GoodIn wsX6_pair wsX6_pairListOf := goodIn_r _ [8, 9, 10, 11, 12, 13, 14, 15, 16, 17, 18, 19, 20, 21, 22, 23, 24, 25, 26, 27, 28, 29, 30, 31, 32, 33, 34, 35, 36, 37, 38, 39, 40, 41, 42, 43, 44, 45, 46, 47, 48, 49, 50, 51, 52, 53, 54, 55, 56, 57, 58, 59, 60, 61, 62, 63, 64, 65, 66, 67, 68, 69, 70, 71, 72, 73, 74, 75, 76, 77, 78, 79, 80, 81, 82, 83, 84, 85, 86, 87, 88, 89, 90, 91, 92, 93, 94, 95, 96, 97, 98, 99, 100, 101, 102, 103, 104, 105, 106, 107, 108, 109, 110, 111, 112, 113, 114, 115, 116, 117, 118, 119, 120, 121, 122, 123, 124, 125, 126, 127, 128, 129, 130, 131, 132, 133, 134, 135, 136, 137, 138, 139, 140, 141, 142, 176, 177, 178, 179, 180, 181, 182, 183, 184, 185, 186, 187, 188] (by decide +kernel) (by decide +kernel)
set_option maxRecDepth 20000 in
theorem gX6_pair_X6_pairListOf : GoodIn wsX6_pair (wsV RX6 165 RX6 yX6_pairListOf wsX6_pairListOf) := goodIn_app (goodIn_of _ (by decide +kernel)) ggX6_pair_X6_pairListOf
set_option maxRecDepth 20000 in
theorem ggX6_pair_X1_kinds : GoodIn wsX6_pair wsX1_kinds := goodIn_r _ [146, 23, 147, 148, 149, 22, 150, 96, 183, 184, 185, 186, 187] (by decide +kernel) (by decide +kernel)
set_option maxRecDepth 20000 in
theorem gX6_pair_X1_kinds : GoodIn wsX6_pair (wsV RX6 172 RX1 yX1_kinds wsX1_kinds) := goodIn_app (goodIn_of _ (by decide +kernel)) ggX6_pair_X1_kinds
set_option maxRecDepth 20000 in
theorem ggX6_pair_X1_codeAt : GoodIn wsX6_pair wsX1_codeAt := goodIn_r _ [154, 23, 155, 147, 148, 149, 22, 150, 96, 156, 157, 158, 159, 160, 161, 162, 163, 164, 165, 166, 167, 168, 169, 170, 171, 28, 172, 173, 174, 75, 175, 84, 183, 184, 185, 186, 187, 188] (by decide +kernel) (by decide +kernel)
set_option maxRecDepth 20000 in
theorem gX6_pair_X1_codeAt : GoodIn wsX6_pair (wsV RX6 176 RX1 yX1_codeAt wsX1_codeAt) := goodIn_app (goodIn_of _ (by decide +kernel)) ggX6_pair_X1_codeAt
theorem dX6_pair_0 : decode cX6_pair 0 = .ok (.iload_n 1, 1) := by decide +kernel
theorem dX6_pair_1 : decode cX6_pair 1 = .ok (.iconst 1, 1) := by decide +kernel
theorem dX6_pair_2 : decode cX6_pair 2 = .ok (.bipush 8, 2) := by decide +kernel
theorem dX6_pair_4 : decode cX6_pair 4 = .ok (.invokestatic 42, 3) := by decide +kernel
theorem dX6_pair_7 : decode cX6_pair 7 = .ok (.ifCond .eq 7, 3) := by decide +kernel
theorem dX6_pair_10 : decode cX6_pair 10 = .ok (.iload_n 2, 1) := by decide +kernel
theorem dX6_pair_11 : decode cX6_pair 11 = .ok (.ifCond .ge 5, 3) := by decide +kernel
theorem dX6_pair_14 : decode cX6_pair 14 = .ok (.iconst (-1), 1) := by decide +kernel
theorem dX6_pair_15 : decode cX6_pair 15 = .ok (.ireturn, 1) := by decide +kernel
theorem dX6_pair_16 : decode cX6_pair 16 = .ok (.aload_n 0, 1) := by decide +kernel
theorem dX6_pair_17 : decode cX6_pair 17 = .ok (.iload_n 1, 1) := by decide +kernel
theorem dX6_pair_18 : decode cX6_pair 18 = .ok (.invokevirtual 165, 3) := by decide +kernel
theorem dX6_pair_21 : decode cX6_pair 21 = .ok (.astore_n 3, 1) := by decide +kernel
theorem dX6_pair_22 : decode cX6_pair 22 = .ok (.iload_n 2, 1) := by decide +kernel
theorem dX6_pair_23 : decode cX6_pair 23 = .ok (.aload_n 3, 1) := by decide +kernel
theorem dX6_pair_24 : decode cX6_pair 24 = .ok (.invokevirtual 172, 3) := by decide +kernel
theorem dX6_pair_27 : decode cX6_pair 27 = .ok (.if_icmp .ge 11, 3) := by decide +kernel
theorem dX6_pair_30 : decode cX6_pair 30 = .ok (.aload_n 3, 1) := by decide +kernel
theorem dX6_pair_31 : decode cX6_pair 31 = .ok (.iload_n 2, 1) := by decide +kernel
theorem dX6_pair_32 : decode cX6_pair 32 = .ok (.invokevirtual 176, 3) := by decide +kernel
theorem dX6_pair_35 : decode cX6_pair 35 = .ok (.goto 5, 3) := by decide +kernel
theorem dX6_pair_38 : decode cX6_pair 38 = .ok (.bipush (-4), 2) := by decide +kernel
theorem dX6_pair_40 : decode cX6_pair 40 = .ok (.ireturn, 1) := by decide +kernel
set_option maxRecDepth 20000 in
theorem ggX6_best_X6_within : GoodIn wsX6_best wsX6_within := goodIn_r _ [8] (by decide +kernel) (by decide +kernel)
set_option maxRecDepth 20000 in
theorem gX6_best_X6_within : GoodIn wsX6_best (va_wsS RX6 42 yX6_within wsX6_within) := goodIn_app (goodIn_of _ (by decide +kernel)) ggX6_best_X6_within
set_option maxRecDepth 20000 in
theorem ggX6_best_X6_bestRowsOf : GoodIn wsX6_best wsX6_bestRowsOf := goodIn_r _ [12, 13, 14, 15, 16, 17, 18, 19, 20, 21, 22, 23, 24, 25, 26, 27, 28, 29, 30, 31, 32, 33, 34, 35, 36, 37, 38, 39, 40, 41, 42, 43, 44, 45, 46, 47, 48, 49, 50, 51, 52, 53, 54, 55, 56, 57, 58, 59, 60, 61, 62, 63, 64, 65, 66, 67, 68, 69, 70, 71, 76, 77, 78, 79, 80, 81, 82, 72, 73, 74, 75] (by decide +kernel) (by decide +kernel)
set_option maxRecDepth 20000 in
theorem gX6_best_X6_bestRowsOf : GoodIn wsX6_best (wsV RX6 179 RX6 yX6_bestRowsOf wsX6_bestRowsOf) := goodIn_app (goodIn_of _ (by decide +kernel)) ggX6_best_X6_bestRowsOf
theorem dX6_best_0 : decode cX6_best 0 = .ok (.iload_n 1, 1) := by decide +kernel
theorem dX6_best_1 : decode cX6_best 1 = .ok (.iconst 1, 1) := by decide +kernel
theorem dX6_best_2 : decode cX6_best 2 = .ok (.bipush 14, 2) := by decide +kernel
theorem dX6_best_4 : decode cX6_best 4 = .ok (.invokestatic 42, 3) := by decide +kernel
theorem dX6_best_7 : decode cX6_best 7 = .ok (.ifCond .eq 12, 3) := by decide +kernel
theorem dX6_best_10 : decode cX6_best 10 = .ok (.iload_n 2, 1) := by decide +kernel
theorem dX6_best_11 : decode cX6_best 11 = .ok (.iconst 0, 1) := by decide +kernel
theorem dX6_best_12 : decode cX6_best 12 = .ok (.iconst 1, 1) := by decide +kernel
theorem dX6_best_13 : decode cX6_best 13 = .ok (.invokestatic 42, 3) := by decide +kernel
theorem dX6_best_16 : decode cX6_best 16 = .ok (.ifCond .ne 5, 3) := by decide +kernel
theorem dX6_best_19 : decode cX6_best 19 = .ok (.iconst (-1), 1) := by decide +kernel
theorem dX6_best_20 : decode cX6_best 20 = .ok (.ireturn, 1) := by decide +kernel
theorem dX6_best_21 : decode cX6_best 21 = .ok (.iload_n 3, 1) := by decide +kernel
theorem dX6_best_22 : decode cX6_best 22 = .ok (.tableswitch 70 0 3 #[30, 40, 50, 60], 30) := by decide +kernel
theorem dX6_best_52 : decode cX6_best 52 = .ok (.aload_n 0, 1) := by decide +kernel
theorem dX6_best_53 : decode cX6_best 53 = .ok (.iload_n 1, 1) := by decide +kernel
theorem dX6_best_54 : decode cX6_best 54 = .ok (.iload_n 2, 1) := by decide +kernel
theorem dX6_best_55 : decode cX6_best 55 = .ok (.invokevirtual 179, 3) := by decide +kernel
theorem dX6_best_58 : decode cX6_best 58 = .ok (.getfield 183, 3) := by decide +kernel
theorem dX6_best_61 : decode cX6_best 61 = .ok (.ireturn, 1) := by decide +kernel
theorem dX6_best_62 : decode cX6_best 62 = .ok (.aload_n 0, 1) := by decide +kernel
theorem dX6_best_63 : decode cX6_best 63 = .ok (.iload_n 1, 1) := by decide +kernel
theorem dX6_best_64 : decode cX6_best 64 = .ok (.iload_n 2, 1) := by decide +kernel
theorem dX6_best_65 : decode cX6_best 65 = .ok (.invokevirtual 179, 3) := by decide +kernel
theorem dX6_best_68 : decode cX6_best 68 = .ok (.getfield 186, 3) := by decide +kernel
theorem dX6_best_71 : decode cX6_best 71 = .ok (.ireturn, 1) := by decide +kernel
theorem dX6_best_72 : decode cX6_best 72 = .ok (.aload_n 0, 1) := by decide +kernel
theorem dX6_best_73 : decode cX6_best 73 = .ok (.iload_n 1, 1) := by decide +kernel
theorem dX6_best_74 : decode cX6_best 74 = .ok (.iload_n 2, 1) := by decide +kernel
theorem dX6_best_75 : decode cX6_best 75 = .ok (.invokevirtual 179, 3) := by decide +kernel
theorem dX6_best_78 : decode cX6_best 78 = .ok (.getfield 189, 3) := by decide +kernel
theorem dX6_best_81 : decode cX6_best 81 = .ok (.ireturn, 1) := by decide +kernel
theorem dX6_best_82 : decode cX6_best 82 = .ok (.aload_n 0, 1) := by decide +kernel
theorem dX6_best_83 : decode cX6_best 83 = .ok (.iload_n 1, 1) := by decide +kernel
theorem dX6_best_84 : decode cX6_best 84 = .ok (.iload_n 2, 1) := by decide +kernel
theorem dX6_best_85 : decode cX6_best 85 = .ok (.invokevirtual 179, 3) := by decide +kernel
theorem dX6_best_88 : decode cX6_best 88 = .ok (.getfield 190, 3) := by decide +kernel
theorem dX6_best_91 : decode cX6_best 91 = .ok (.ireturn, 1) := by decide +kernel
theorem dX6_best_92 : decode cX6_best 92 = .ok (.iconst (-1), 1) := by decide +kernel
theorem dX6_best_93 : decode cX6_best 93 = .ok (.ireturn, 1) := by decide +kernel
set_option maxRecDepth 20000 in
theorem ggX6_count_X6_within : GoodIn wsX6_count wsX6_within := goodIn_r _ [6] (by decide +kernel) (by decide +kernel)
set_option maxRecDepth 20000 in
theorem gX6_count_X6_within : GoodIn wsX6_count (va_wsS RX6 42 yX6_within wsX6_within) := goodIn_app (goodIn_of _ (by decide +kernel)) ggX6_count_X6_within
set_option maxRecDepth 20000 in
theorem ggX6_count_X2_size : GoodIn wsX6_count wsX2_size := goodIn_r _ [11, 12, 20, 21] (by decide +kernel) (by decide +kernel)
set_option maxRecDepth 20000 in
theorem gX6_count_X2_size : GoodIn wsX6_count (wsV RX6 192 RX2 yX2_size wsX2_size) := goodIn_app (goodIn_of _ (by decide +kernel)) ggX6_count_X2_size
theorem dX6_count_0 : decode cX6_count 0 = .ok (.iload_n 1, 1) := by decide +kernel
theorem dX6_count_1 : decode cX6_count 1 = .ok (.iconst 0, 1) := by decide +kernel
theorem dX6_count_2 : decode cX6_count 2 = .ok (.iconst 1, 1) := by decide +kernel
theorem dX6_count_3 : decode cX6_count 3 = .ok (.invokestatic 42, 3) := by decide +kernel
theorem dX6_count_6 : decode cX6_count 6 = .ok (.ifCond .ne 5, 3) := by decide +kernel
theorem dX6_count_9 : decode cX6_count 9 = .ok (.iconst (-1), 1) := by decide +kernel
theorem dX6_count_10 : decode cX6_count 10 = .ok (.ireturn, 1) := by decide +kernel
theorem dX6_count_11 : decode cX6_count 11 = .ok (.iload_n 1, 1) := by decide +kernel
theorem dX6_count_12 : decode cX6_count 12 = .ok (.ifCond .ne 8, 3) := by decide +kernel
theorem dX6_count_15 : decode cX6_count 15 = .ok (.aload_n 0, 1) := by decide +kernel
theorem dX6_count_16 : decode cX6_count 16 = .ok (.getfield 38, 3) := by decide +kernel
theorem dX6_count_19 : decode cX6_count 19 = .ok (.ireturn, 1) := by decide +kernel
theorem dX6_count_20 : decode cX6_count 20 = .ok (.aload_n 0, 1) := by decide +kernel
theorem dX6_count_21 : decode cX6_count 21 = .ok (.getfield 19, 3) := by decide +kernel
theorem dX6_count_24 : decode cX6_count 24 = .ok (.iconst 0, 1) := by decide +kernel
theorem dX6_count_25 : decode cX6_count 25 = .ok (.aaload, 1) := by decide +kernel
theorem dX6_count_26 : decode cX6_count 26 = .ok (.astore_n 2, 1) := by decide +kernel
theorem dX6_count_27 : decode cX6_count 27 = .ok (.aload_n 2, 1) := by decide +kernel
theorem dX6_count_28 : decode cX6_count 28 = .ok (.ifnonnull 8, 3) := by decide +kernel
theorem dX6_count_31 : decode cX6_count 31 = .ok (.bipush (-4), 2) := by decide +kernel
theorem dX6_count_33 : decode cX6_count 33 = .ok (.goto 7, 3) := by decide +kernel
theorem dX6_count_36 : decode cX6_count 36 = .ok (.aload_n 2, 1) := by decide +kernel
theorem dX6_count_37 : decode cX6_count 37 = .ok (.invokevirtual 192, 3) := by decide +kernel
theorem dX6_count_40 : decode cX6_count 40 = .ok (.ireturn, 1) := by decide +kernel
theorem dX6_within_0 : decode cX6_within 0 = .ok (.iload_n 0, 1) := by decide +kernel
theorem dX6_within_1 : decode cX6_within 1 = .ok (.iload_n 1, 1) := by decide +kernel
theorem dX6_within_2 : decode cX6_within 2 = .ok (.if_icmp .lt 12, 3) := by decide +kernel
theorem dX6_within_5 : decode cX6_within 5 = .ok (.iload_n 0, 1) := by decide +kernel
theorem dX6_within_6 : decode cX6_within 6 = .ok (.iload_n 2, 1) := by decide +kernel
theorem dX6_within_7 : decode cX6_within 7 = .ok (.if_icmp .gt 7, 3) := by decide +kernel
theorem dX6_within_10 : decode cX6_within 10 = .ok (.iconst 1, 1) := by decide +kernel
theorem dX6_within_11 : decode cX6_within 11 = .ok (.goto 4, 3) := by decide +kernel
theorem dX6_within_14 : decode cX6_within 14 = .ok (.iconst 0, 1) := by decide +kernel
theorem dX6_within_15 : decode cX6_within 15 = .ok (.ireturn, 1) := by decide +kernel
set_option maxRecDepth 20000 in
theorem ggX6_isSheet_X6_within : GoodIn wsX6_isSheet wsX6_within := goodIn_r _ [4] (by decide +kernel) (by decide +kernel)
set_option maxRecDepth 20000 in
theorem gX6_isSheet_X6_within : GoodIn wsX6_isSheet (va_wsS RX6 42 yX6_within wsX6_within) := goodIn_app (goodIn_of _ (by decide +kernel)) ggX6_isSheet_X6_within
theorem dX6_isSheet_0 : decode cX6_isSheet 0 = .ok (.iload_n 0, 1) := by decide +kernel
theorem dX6_isSheet_1 : decode cX6_isSheet 1 = .ok (.iconst 0, 1) := by decide +kernel
theorem dX6_isSheet_2 : decode cX6_isSheet 2 = .ok (.iconst 3, 1) := by decide +kernel
theorem dX6_isSheet_3 : decode cX6_isSheet 3 = .ok (.invokestatic 42, 3) := by decide +kernel
theorem dX6_isSheet_6 : decode cX6_isSheet 6 = .ok (.ireturn, 1) := by decide +kernel
set_option maxRecDepth 20000 in
theorem ggX6_isLane_X6_within : GoodIn wsX6_isLane wsX6_within := goodIn_r _ [4] (by decide +kernel) (by decide +kernel)
set_option maxRecDepth 20000 in
theorem gX6_isLane_X6_within : GoodIn wsX6_isLane (va_wsS RX6 42 yX6_within wsX6_within) := goodIn_app (goodIn_of _ (by decide +kernel)) ggX6_isLane_X6_within
theorem dX6_isLane_0 : decode cX6_isLane 0 = .ok (.iload_n 0, 1) := by decide +kernel
theorem dX6_isLane_1 : decode cX6_isLane 1 = .ok (.iconst 0, 1) := by decide +kernel
theorem dX6_isLane_2 : decode cX6_isLane 2 = .ok (.iconst 2, 1) := by decide +kernel
theorem dX6_isLane_3 : decode cX6_isLane 3 = .ok (.invokestatic 42, 3) := by decide +kernel
theorem dX6_isLane_6 : decode cX6_isLane 6 = .ok (.ireturn, 1) := by decide +kernel
set_option maxRecDepth 20000 in
theorem ggX6_isRow_X6_within : GoodIn wsX6_isRow wsX6_within := goodIn_r _ [5] (by decide +kernel) (by decide +kernel)
set_option maxRecDepth 20000 in
theorem gX6_isRow_X6_within : GoodIn wsX6_isRow (va_wsS RX6 42 yX6_within wsX6_within) := goodIn_app (goodIn_of _ (by decide +kernel)) ggX6_isRow_X6_within
theorem dX6_isRow_0 : decode cX6_isRow 0 = .ok (.iload_n 1, 1) := by decide +kernel
theorem dX6_isRow_1 : decode cX6_isRow 1 = .ok (.iconst 0, 1) := by decide +kernel
theorem dX6_isRow_2 : decode cX6_isRow 2 = .ok (.aload_n 0, 1) := by decide +kernel
theorem dX6_isRow_3 : decode cX6_isRow 3 = .ok (.getfield 38, 3) := by decide +kernel
theorem dX6_isRow_6 : decode cX6_isRow 6 = .ok (.iconst 1, 1) := by decide +kernel
theorem dX6_isRow_7 : decode cX6_isRow 7 = .ok (.isub, 1) := by decide +kernel
theorem dX6_isRow_8 : decode cX6_isRow 8 = .ok (.invokestatic 42, 3) := by decide +kernel
theorem dX6_isRow_11 : decode cX6_isRow 11 = .ok (.ireturn, 1) := by decide +kernel
set_option maxRecDepth 20000 in
theorem ggX6_areAlikeLong_X6_isRow : GoodIn wsX6_areAlikeLong wsX6_isRow := goodIn_r _ [6, 7, 8, 9, 5, 10, 11, 12, 13, 14, 15, 16, 17] (by decide +kernel) (by decide +kernel)
set_option maxRecDepth 20000 in
theorem gX6_areAlikeLong_X6_isRow : GoodIn wsX6_areAlikeLong (wsV RX6 83 RX6 yX6_isRow wsX6_isRow) := goodIn_app (goodIn_of _ (by decide +kernel)) ggX6_areAlikeLong_X6_isRow
theorem dX6_areAlikeLong_0 : decode cX6_areAlikeLong 0 = .ok (.aload_n 0, 1) := by decide +kernel
theorem dX6_areAlikeLong_1 : decode cX6_areAlikeLong 1 = .ok (.iload_n 1, 1) := by decide +kernel
theorem dX6_areAlikeLong_2 : decode cX6_areAlikeLong 2 = .ok (.invokevirtual 83, 3) := by decide +kernel
theorem dX6_areAlikeLong_5 : decode cX6_areAlikeLong 5 = .ok (.ifCond .eq 30, 3) := by decide +kernel
theorem dX6_areAlikeLong_8 : decode cX6_areAlikeLong 8 = .ok (.aload_n 0, 1) := by decide +kernel
theorem dX6_areAlikeLong_9 : decode cX6_areAlikeLong 9 = .ok (.iload_n 2, 1) := by decide +kernel
theorem dX6_areAlikeLong_10 : decode cX6_areAlikeLong 10 = .ok (.invokevirtual 83, 3) := by decide +kernel
theorem dX6_areAlikeLong_13 : decode cX6_areAlikeLong 13 = .ok (.ifCond .eq 22, 3) := by decide +kernel
theorem dX6_areAlikeLong_16 : decode cX6_areAlikeLong 16 = .ok (.aload_n 0, 1) := by decide +kernel
theorem dX6_areAlikeLong_17 : decode cX6_areAlikeLong 17 = .ok (.getfield 9, 3) := by decide +kernel
theorem dX6_areAlikeLong_20 : decode cX6_areAlikeLong 20 = .ok (.iload_n 1, 1) := by decide +kernel
theorem dX6_areAlikeLong_21 : decode cX6_areAlikeLong 21 = .ok (.iaload, 1) := by decide +kernel
theorem dX6_areAlikeLong_22 : decode cX6_areAlikeLong 22 = .ok (.aload_n 0, 1) := by decide +kernel
theorem dX6_areAlikeLong_23 : decode cX6_areAlikeLong 23 = .ok (.getfield 9, 3) := by decide +kernel
theorem dX6_areAlikeLong_26 : decode cX6_areAlikeLong 26 = .ok (.iload_n 2, 1) := by decide +kernel
theorem dX6_areAlikeLong_27 : decode cX6_areAlikeLong 27 = .ok (.iaload, 1) := by decide +kernel
theorem dX6_areAlikeLong_28 : decode cX6_areAlikeLong 28 = .ok (.if_icmp .ne 7, 3) := by decide +kernel
theorem dX6_areAlikeLong_31 : decode cX6_areAlikeLong 31 = .ok (.iconst 1, 1) := by decide +kernel
theorem dX6_areAlikeLong_32 : decode cX6_areAlikeLong 32 = .ok (.goto 4, 3) := by decide +kernel
theorem dX6_areAlikeLong_35 : decode cX6_areAlikeLong 35 = .ok (.iconst 0, 1) := by decide +kernel
theorem dX6_areAlikeLong_36 : decode cX6_areAlikeLong 36 = .ok (.ireturn, 1) := by decide +kernel
theorem dX6_fits_0 : decode cX6_fits 0 = .ok (.iload_n 1, 1) := by decide +kernel
theorem dX6_fits_1 : decode cX6_fits 1 = .ok (.bipush 32, 2) := by decide +kernel
theorem dX6_fits_3 : decode cX6_fits 3 = .ok (.if_icmp .gt 18, 3) := by decide +kernel
theorem dX6_fits_6 : decode cX6_fits 6 = .ok (.aload_n 0, 1) := by decide +kernel
theorem dX6_fits_7 : decode cX6_fits 7 = .ok (.getfield 38, 3) := by decide +kernel
theorem dX6_fits_10 : decode cX6_fits 10 = .ok (.iload_n 2, 1) := by decide +kernel
theorem dX6_fits_11 : decode cX6_fits 11 = .ok (.iadd, 1) := by decide +kernel
theorem dX6_fits_12 : decode cX6_fits 12 = .ok (.bipush 24, 2) := by decide +kernel
theorem dX6_fits_14 : decode cX6_fits 14 = .ok (.if_icmp .gt 7, 3) := by decide +kernel
theorem dX6_fits_17 : decode cX6_fits 17 = .ok (.iconst 1, 1) := by decide +kernel
theorem dX6_fits_18 : decode cX6_fits 18 = .ok (.goto 4, 3) := by decide +kernel
theorem dX6_fits_21 : decode cX6_fits 21 = .ok (.iconst 0, 1) := by decide +kernel
theorem dX6_fits_22 : decode cX6_fits 22 = .ok (.ireturn, 1) := by decide +kernel
theorem dX6_added_0 : decode cX6_added 0 = .ok (.aload_n 0, 1) := by decide +kernel
theorem dX6_added_1 : decode cX6_added 1 = .ok (.getfield 38, 3) := by decide +kernel
theorem dX6_added_4 : decode cX6_added 4 = .ok (.istore 4, 2) := by decide +kernel
theorem dX6_added_6 : decode cX6_added 6 = .ok (.aload_n 0, 1) := by decide +kernel
theorem dX6_added_7 : decode cX6_added 7 = .ok (.getfield 9, 3) := by decide +kernel
theorem dX6_added_10 : decode cX6_added 10 = .ok (.iload 4, 2) := by decide +kernel
theorem dX6_added_12 : decode cX6_added 12 = .ok (.iload_n 1, 1) := by decide +kernel
theorem dX6_added_13 : decode cX6_added 13 = .ok (.iastore, 1) := by decide +kernel
theorem dX6_added_14 : decode cX6_added 14 = .ok (.aload_n 0, 1) := by decide +kernel
theorem dX6_added_15 : decode cX6_added 15 = .ok (.getfield 13, 3) := by decide +kernel
theorem dX6_added_18 : decode cX6_added 18 = .ok (.iload 4, 2) := by decide +kernel
theorem dX6_added_20 : decode cX6_added 20 = .ok (.lload_n 2, 1) := by decide +kernel
theorem dX6_added_21 : decode cX6_added 21 = .ok (.lastore, 1) := by decide +kernel
theorem dX6_added_22 : decode cX6_added 22 = .ok (.aload_n 0, 1) := by decide +kernel
theorem dX6_added_23 : decode cX6_added 23 = .ok (.dup, 1) := by decide +kernel
theorem dX6_added_24 : decode cX6_added 24 = .ok (.getfield 38, 3) := by decide +kernel
theorem dX6_added_27 : decode cX6_added 27 = .ok (.iconst 1, 1) := by decide +kernel
theorem dX6_added_28 : decode cX6_added 28 = .ok (.iadd, 1) := by decide +kernel
theorem dX6_added_29 : decode cX6_added 29 = .ok (.putfield 38, 3) := by decide +kernel
theorem dX6_added_32 : decode cX6_added 32 = .ok (.iload 4, 2) := by decide +kernel
theorem dX6_added_34 : decode cX6_added 34 = .ok (.ireturn, 1) := by decide +kernel
set_option maxRecDepth 20000 in
theorem ggX6_pairListOf_X1_init : GoodIn wsX6_pairListOf wsX1_init := goodIn_r _ [7, 8, 9, 10, 11, 12, 13, 14, 15, 16, 17, 18, 19, 20, 21, 22, 23, 24, 25, 26, 27, 28, 29, 30, 31, 32, 33, 34, 35, 36, 37, 38, 39, 40, 41, 42, 43, 44, 45, 46, 47, 48, 49, 50, 4, 51, 52, 53, 54, 55, 56, 57, 58, 59, 60, 61, 62, 63, 64, 65, 66, 67, 68, 69, 70, 71, 72, 73, 74, 75, 76, 77, 78, 79, 80, 81, 82, 83, 84, 85, 86, 87, 88, 89, 90, 91, 92, 93, 94, 95, 96, 97, 98, 99, 100, 101, 102, 103, 104, 105, 106, 107, 108, 109, 110, 111, 112, 113, 114, 115, 116, 117, 118, 119, 120, 121, 122, 123, 124, 125, 126, 127, 128, 129, 130, 131, 132, 133, 134, 142, 143, 144, 145, 146, 147] (by decide +kernel) (by decide +kernel)
set_option maxRecDepth 20000 in
theorem gX6_pairListOf_X1_init : GoodIn wsX6_pairListOf (wsX1_init) := ggX6_pairListOf_X1_init
theorem dX6_pairListOf_0 : decode cX6_pairListOf 0 = .ok (.aload_n 0, 1) := by decide +kernel
theorem dX6_pairListOf_1 : decode cX6_pairListOf 1 = .ok (.getfield 25, 3) := by decide +kernel
theorem dX6_pairListOf_4 : decode cX6_pairListOf 4 = .ok (.iload_n 1, 1) := by decide +kernel
theorem dX6_pairListOf_5 : decode cX6_pairListOf 5 = .ok (.aaload, 1) := by decide +kernel
theorem dX6_pairListOf_6 : decode cX6_pairListOf 6 = .ok (.ifnonnull 17, 3) := by decide +kernel
theorem dX6_pairListOf_9 : decode cX6_pairListOf 9 = .ok (.aload_n 0, 1) := by decide +kernel
theorem dX6_pairListOf_10 : decode cX6_pairListOf 10 = .ok (.getfield 25, 3) := by decide +kernel
theorem dX6_pairListOf_13 : decode cX6_pairListOf 13 = .ok (.iload_n 1, 1) := by decide +kernel
theorem dX6_pairListOf_14 : decode cX6_pairListOf 14 = .ok (.new 23, 3) := by decide +kernel
theorem dX6_pairListOf_17 : decode cX6_pairListOf 17 = .ok (.dup, 1) := by decide +kernel
theorem dX6_pairListOf_18 : decode cX6_pairListOf 18 = .ok (.iload_n 1, 1) := by decide +kernel
theorem dX6_pairListOf_19 : decode cX6_pairListOf 19 = .ok (.invokespecial 195, 3) := by decide +kernel
theorem dX6_pairListOf_22 : decode cX6_pairListOf 22 = .ok (.aastore, 1) := by decide +kernel
theorem dX6_pairListOf_23 : decode cX6_pairListOf 23 = .ok (.aload_n 0, 1) := by decide +kernel
theorem dX6_pairListOf_24 : decode cX6_pairListOf 24 = .ok (.getfield 25, 3) := by decide +kernel
theorem dX6_pairListOf_27 : decode cX6_pairListOf 27 = .ok (.iload_n 1, 1) := by decide +kernel
theorem dX6_pairListOf_28 : decode cX6_pairListOf 28 = .ok (.aaload, 1) := by decide +kernel
theorem dX6_pairListOf_29 : decode cX6_pairListOf 29 = .ok (.areturn, 1) := by decide +kernel
set_option maxRecDepth 20000 in
theorem ggX6_bestRowsOf_X0_init : GoodIn wsX6_bestRowsOf wsX0_init := goodIn_r _ [8, 9, 10, 11, 12, 13, 14, 15, 16, 17, 18, 19, 20, 21, 22, 23, 24, 25, 26, 27, 28, 29, 30, 31, 32, 33, 34, 35, 36, 37, 38, 39, 40, 41, 42, 43, 44, 45, 46, 47, 48, 49, 50, 51, 52, 53, 54, 55, 56, 57, 58, 59, 67, 68, 69, 70] (by decide +kernel) (by decide +kernel)
set_option maxRecDepth 20000 in
theorem gX6_bestRowsOf_X0_init : GoodIn wsX6_bestRowsOf (wsX0_init) := ggX6_bestRowsOf_X0_init
theorem dX6_bestRowsOf_0 : decode cX6_bestRowsOf 0 = .ok (.iload_n 2, 1) := by decide +kernel
theorem dX6_bestRowsOf_1 : decode cX6_bestRowsOf 1 = .ok (.ifCond .ne 10, 3) := by decide +kernel
theorem dX6_bestRowsOf_4 : decode cX6_bestRowsOf 4 = .ok (.aload_n 0, 1) := by decide +kernel
theorem dX6_bestRowsOf_5 : decode cX6_bestRowsOf 5 = .ok (.getfield 31, 3) := by decide +kernel
theorem dX6_bestRowsOf_8 : decode cX6_bestRowsOf 8 = .ok (.goto 7, 3) := by decide +kernel
theorem dX6_bestRowsOf_11 : decode cX6_bestRowsOf 11 = .ok (.aload_n 0, 1) := by decide +kernel
theorem dX6_bestRowsOf_12 : decode cX6_bestRowsOf 12 = .ok (.getfield 35, 3) := by decide +kernel
theorem dX6_bestRowsOf_15 : decode cX6_bestRowsOf 15 = .ok (.astore_n 3, 1) := by decide +kernel
theorem dX6_bestRowsOf_16 : decode cX6_bestRowsOf 16 = .ok (.aload_n 3, 1) := by decide +kernel
theorem dX6_bestRowsOf_17 : decode cX6_bestRowsOf 17 = .ok (.iload_n 1, 1) := by decide +kernel
theorem dX6_bestRowsOf_18 : decode cX6_bestRowsOf 18 = .ok (.aaload, 1) := by decide +kernel
theorem dX6_bestRowsOf_19 : decode cX6_bestRowsOf 19 = .ok (.ifnonnull 15, 3) := by decide +kernel
theorem dX6_bestRowsOf_22 : decode cX6_bestRowsOf 22 = .ok (.aload_n 3, 1) := by decide +kernel
theorem dX6_bestRowsOf_23 : decode cX6_bestRowsOf 23 = .ok (.iload_n 1, 1) := by decide +kernel
theorem dX6_bestRowsOf_24 : decode cX6_bestRowsOf 24 = .ok (.new 29, 3) := by decide +kernel
theorem dX6_bestRowsOf_27 : decode cX6_bestRowsOf 27 = .ok (.dup, 1) := by decide +kernel
theorem dX6_bestRowsOf_28 : decode cX6_bestRowsOf 28 = .ok (.iload_n 1, 1) := by decide +kernel
theorem dX6_bestRowsOf_29 : decode cX6_bestRowsOf 29 = .ok (.iload_n 2, 1) := by decide +kernel
theorem dX6_bestRowsOf_30 : decode cX6_bestRowsOf 30 = .ok (.invokespecial 198, 3) := by decide +kernel
theorem dX6_bestRowsOf_33 : decode cX6_bestRowsOf 33 = .ok (.aastore, 1) := by decide +kernel
theorem dX6_bestRowsOf_34 : decode cX6_bestRowsOf 34 = .ok (.aload_n 3, 1) := by decide +kernel
theorem dX6_bestRowsOf_35 : decode cX6_bestRowsOf 35 = .ok (.iload_n 1, 1) := by decide +kernel
theorem dX6_bestRowsOf_36 : decode cX6_bestRowsOf 36 = .ok (.aaload, 1) := by decide +kernel
theorem dX6_bestRowsOf_37 : decode cX6_bestRowsOf 37 = .ok (.areturn, 1) := by decide +kernel
