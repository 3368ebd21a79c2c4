theorem dX1_work_0 : decode cX1_work 0 = .ok (.aload_n 0, 1) := by decide +kernel
theorem dX1_work_1 : decode cX1_work 1 = .ok (.getfield 36, 3) := by decide +kernel
theorem dX1_work_4 : decode cX1_work 4 = .ok (.iconst 1, 1) := by decide +kernel
theorem dX1_work_5 : decode cX1_work 5 = .ok (.if_icmp .ge 18, 3) := by decide +kernel
theorem dX1_work_8 : decode cX1_work 8 = .ok (.iload_n 2, 1) := by decide +kernel
theorem dX1_work_9 : decode cX1_work 9 = .ok (.iconst 1, 1) := by decide +kernel
theorem dX1_work_10 : decode cX1_work 10 = .ok (.if_icmp .lt 13, 3) := by decide +kernel
theorem dX1_work_13 : decode cX1_work 13 = .ok (.aload_n 0, 1) := by decide +kernel
theorem dX1_work_14 : decode cX1_work 14 = .ok (.aload_n 1, 1) := by decide +kernel
theorem dX1_work_15 : decode cX1_work 15 = .ok (.invokevirtual 46, 3) := by decide +kernel
theorem dX1_work_18 : decode cX1_work 18 = .ok (.aload_n 0, 1) := by decide +kernel
theorem dX1_work_19 : decode cX1_work 19 = .ok (.iconst 1, 1) := by decide +kernel
theorem dX1_work_20 : decode cX1_work 20 = .ok (.putfield 36, 3) := by decide +kernel
theorem dX1_work_23 : decode cX1_work 23 = .ok (.aload_n 0, 1) := by decide +kernel
theorem dX1_work_24 : decode cX1_work 24 = .ok (.getfield 36, 3) := by decide +kernel
theorem dX1_work_27 : decode cX1_work 27 = .ok (.iconst 2, 1) := by decide +kernel
theorem dX1_work_28 : decode cX1_work 28 = .ok (.if_icmp .ge 18, 3) := by decide +kernel
theorem dX1_work_31 : decode cX1_work 31 = .ok (.iload_n 2, 1) := by decide +kernel
theorem dX1_work_32 : decode cX1_work 32 = .ok (.iconst 2, 1) := by decide +kernel
theorem dX1_work_33 : decode cX1_work 33 = .ok (.if_icmp .lt 13, 3) := by decide +kernel
theorem dX1_work_36 : decode cX1_work 36 = .ok (.aload_n 0, 1) := by decide +kernel
theorem dX1_work_37 : decode cX1_work 37 = .ok (.aload_n 1, 1) := by decide +kernel
theorem dX1_work_38 : decode cX1_work 38 = .ok (.invokevirtual 50, 3) := by decide +kernel
theorem dX1_work_41 : decode cX1_work 41 = .ok (.aload_n 0, 1) := by decide +kernel
theorem dX1_work_42 : decode cX1_work 42 = .ok (.iconst 2, 1) := by decide +kernel
theorem dX1_work_43 : decode cX1_work 43 = .ok (.putfield 36, 3) := by decide +kernel
theorem dX1_work_46 : decode cX1_work 46 = .ok (.aload_n 0, 1) := by decide +kernel
theorem dX1_work_47 : decode cX1_work 47 = .ok (.getfield 36, 3) := by decide +kernel
theorem dX1_work_50 : decode cX1_work 50 = .ok (.iconst 3, 1) := by decide +kernel
theorem dX1_work_51 : decode cX1_work 51 = .ok (.if_icmp .ge 18, 3) := by decide +kernel
theorem dX1_work_54 : decode cX1_work 54 = .ok (.iload_n 2, 1) := by decide +kernel
theorem dX1_work_55 : decode cX1_work 55 = .ok (.iconst 3, 1) := by decide +kernel
theorem dX1_work_56 : decode cX1_work 56 = .ok (.if_icmp .lt 13, 3) := by decide +kernel
theorem dX1_work_59 : decode cX1_work 59 = .ok (.aload_n 0, 1) := by decide +kernel
theorem dX1_work_60 : decode cX1_work 60 = .ok (.aload_n 1, 1) := by decide +kernel
theorem dX1_work_61 : decode cX1_work 61 = .ok (.invokevirtual 53, 3) := by decide +kernel
theorem dX1_work_64 : decode cX1_work 64 = .ok (.aload_n 0, 1) := by decide +kernel
theorem dX1_work_65 : decode cX1_work 65 = .ok (.iconst 3, 1) := by decide +kernel
theorem dX1_work_66 : decode cX1_work 66 = .ok (.putfield 36, 3) := by decide +kernel
theorem dX1_work_69 : decode cX1_work 69 = .ok (.return_, 1) := by decide +kernel
set_option maxRecDepth 20000 in
theorem ggX1_drawPicture_J7_fill_53178 : GoodIn wsX1_drawPicture wsJ7_fill_53178 := goodIn_r _ [9] (by decide +kernel) (by decide +kernel)
set_option maxRecDepth 20000 in
theorem gX1_drawPicture_J7_fill_53178 : GoodIn wsX1_drawPicture (va_wsS RX1 56 yJ7_fill_53178 wsJ7_fill_53178) := goodIn_app (goodIn_of _ (by decide +kernel)) ggX1_drawPicture_J7_fill_53178
set_option maxRecDepth 20000 in
theorem ggX1_drawPicture_X0_clear : GoodIn wsX1_drawPicture wsX0_clear := goodIn_r _ [14, 15, 16, 7, 8, 9, 105, 106] (by decide +kernel) (by decide +kernel)
set_option maxRecDepth 20000 in
theorem gX1_drawPicture_X0_clear : GoodIn wsX1_drawPicture (wsV RX1 62 RX0 yX0_clear wsX0_clear) := goodIn_app (goodIn_of _ (by decide +kernel)) ggX1_drawPicture_X0_clear
set_option maxRecDepth 20000 in
theorem ggX1_drawPicture_X3_numberAt : GoodIn wsX1_drawPicture wsX3_numberAt := goodIn_r _ [21, 22, 23, 24, 25, 94, 95, 96, 97, 98, 99, 100, 101, 102, 103, 104] (by decide +kernel) (by decide +kernel)
set_option maxRecDepth 20000 in
theorem gX1_drawPicture_X3_numberAt : GoodIn wsX1_drawPicture (wsV RX1 70 RX3 yX3_numberAt wsX3_numberAt) := goodIn_app (goodIn_of _ (by decide +kernel)) ggX1_drawPicture_X3_numberAt
set_option maxRecDepth 20000 in
theorem ggX1_drawPicture_X3_find : GoodIn wsX1_drawPicture wsX3_find := goodIn_r _ [29, 30, 23, 24, 25, 94, 95, 96, 97, 98, 99, 100, 101, 102, 103, 104] (by decide +kernel) (by decide +kernel)
set_option maxRecDepth 20000 in
theorem gX1_drawPicture_X3_find : GoodIn wsX1_drawPicture (wsV RX1 74 RX3 yX3_find wsX3_find) := goodIn_app (goodIn_of _ (by decide +kernel)) ggX1_drawPicture_X3_find
set_option maxRecDepth 20000 in
theorem ggX1_drawPicture_X1_draw : GoodIn wsX1_drawPicture wsX1_draw := goodIn_r _ [35, 36, 37, 38, 39, 40, 41, 42, 43, 44, 45, 46, 47, 48, 49, 50, 51, 34, 52, 1, 53, 54, 55, 23, 24, 25, 56, 57, 58, 59, 60, 61, 62, 63, 64, 65, 66, 67, 68, 69, 70, 71, 72, 73, 74, 3, 75, 2, 4, 76, 77, 78, 79, 80, 13, 81, 15, 82, 83, 84, 85, 86, 94, 95, 96, 97, 98, 99, 100, 101, 102, 103, 104, 107, 108, 109, 110, 111, 112, 113, 87, 88, 89, 90, 91, 92, 93, 105, 106] (by decide +kernel) (by decide +kernel)
set_option maxRecDepth 20000 in
theorem gX1_drawPicture_X1_draw : GoodIn wsX1_drawPicture (wsV RX1 78 RX1 yX1_draw wsX1_draw) := goodIn_app (goodIn_of _ (by decide +kernel)) ggX1_drawPicture_X1_draw
theorem dX1_drawPicture_0 : decode cX1_drawPicture 0 = .ok (.aload_n 0, 1) := by decide +kernel
theorem dX1_drawPicture_1 : decode cX1_drawPicture 1 = .ok (.getfield 9, 3) := by decide +kernel
theorem dX1_drawPicture_4 : decode cX1_drawPicture 4 = .ok (.iconst (-1), 1) := by decide +kernel
theorem dX1_drawPicture_5 : decode cX1_drawPicture 5 = .ok (.invokestatic 56, 3) := by decide +kernel
theorem dX1_drawPicture_8 : decode cX1_drawPicture 8 = .ok (.aload_n 0, 1) := by decide +kernel
theorem dX1_drawPicture_9 : decode cX1_drawPicture 9 = .ok (.getfield 20, 3) := by decide +kernel
theorem dX1_drawPicture_12 : decode cX1_drawPicture 12 = .ok (.invokevirtual 62, 3) := by decide +kernel
theorem dX1_drawPicture_15 : decode cX1_drawPicture 15 = .ok (.aload_n 0, 1) := by decide +kernel
theorem dX1_drawPicture_16 : decode cX1_drawPicture 16 = .ok (.getfield 24, 3) := by decide +kernel
theorem dX1_drawPicture_19 : decode cX1_drawPicture 19 = .ok (.invokevirtual 62, 3) := by decide +kernel
theorem dX1_drawPicture_22 : decode cX1_drawPicture 22 = .ok (.aload_n 0, 1) := by decide +kernel
theorem dX1_drawPicture_23 : decode cX1_drawPicture 23 = .ok (.getfield 27, 3) := by decide +kernel
theorem dX1_drawPicture_26 : decode cX1_drawPicture 26 = .ok (.invokevirtual 62, 3) := by decide +kernel
theorem dX1_drawPicture_29 : decode cX1_drawPicture 29 = .ok (.aload_n 1, 1) := by decide +kernel
theorem dX1_drawPicture_30 : decode cX1_drawPicture 30 = .ok (.getfield 65, 3) := by decide +kernel
theorem dX1_drawPicture_33 : decode cX1_drawPicture 33 = .ok (.iconst 1, 1) := by decide +kernel
theorem dX1_drawPicture_34 : decode cX1_drawPicture 34 = .ok (.isub, 1) := by decide +kernel
theorem dX1_drawPicture_35 : decode cX1_drawPicture 35 = .ok (.istore_n 2, 1) := by decide +kernel
theorem dX1_drawPicture_36 : decode cX1_drawPicture 36 = .ok (.iload_n 2, 1) := by decide +kernel
theorem dX1_drawPicture_37 : decode cX1_drawPicture 37 = .ok (.ifCond .lt 35, 3) := by decide +kernel
theorem dX1_drawPicture_40 : decode cX1_drawPicture 40 = .ok (.aload_n 1, 1) := by decide +kernel
theorem dX1_drawPicture_41 : decode cX1_drawPicture 41 = .ok (.iload_n 2, 1) := by decide +kernel
theorem dX1_drawPicture_42 : decode cX1_drawPicture 42 = .ok (.invokevirtual 70, 3) := by decide +kernel
theorem dX1_drawPicture_45 : decode cX1_drawPicture 45 = .ok (.istore_n 3, 1) := by decide +kernel
theorem dX1_drawPicture_46 : decode cX1_drawPicture 46 = .ok (.aload_n 1, 1) := by decide +kernel
theorem dX1_drawPicture_47 : decode cX1_drawPicture 47 = .ok (.iload_n 3, 1) := by decide +kernel
theorem dX1_drawPicture_48 : decode cX1_drawPicture 48 = .ok (.invokevirtual 74, 3) := by decide +kernel
theorem dX1_drawPicture_51 : decode cX1_drawPicture 51 = .ok (.astore 4, 2) := by decide +kernel
theorem dX1_drawPicture_53 : decode cX1_drawPicture 53 = .ok (.aload 4, 2) := by decide +kernel
theorem dX1_drawPicture_55 : decode cX1_drawPicture 55 = .ok (.ifnull 11, 3) := by decide +kernel
theorem dX1_drawPicture_58 : decode cX1_drawPicture 58 = .ok (.aload_n 0, 1) := by decide +kernel
theorem dX1_drawPicture_59 : decode cX1_drawPicture 59 = .ok (.aload_n 1, 1) := by decide +kernel
theorem dX1_drawPicture_60 : decode cX1_drawPicture 60 = .ok (.iload_n 3, 1) := by decide +kernel
theorem dX1_drawPicture_61 : decode cX1_drawPicture 61 = .ok (.aload 4, 2) := by decide +kernel
theorem dX1_drawPicture_63 : decode cX1_drawPicture 63 = .ok (.invokevirtual 78, 3) := by decide +kernel
theorem dX1_drawPicture_66 : decode cX1_drawPicture 66 = .ok (.iinc 2 (-1), 3) := by decide +kernel
theorem dX1_drawPicture_69 : decode cX1_drawPicture 69 = .ok (.goto (-33), 3) := by decide +kernel
theorem dX1_drawPicture_72 : decode cX1_drawPicture 72 = .ok (.return_, 1) := by decide +kernel
set_option maxRecDepth 20000 in
theorem ggX1_draw_X1_seenAt : GoodIn wsX1_draw wsX1_seenAt := goodIn_r _ [18, 19, 20, 21, 17, 22, 23, 24, 25, 80, 81, 82, 83, 84, 85, 86] (by decide +kernel) (by decide +kernel)
set_option maxRecDepth 20000 in
theorem gX1_draw_X1_seenAt : GoodIn wsX1_draw (wsV RX1 105 RX1 yX1_seenAt wsX1_seenAt) := goodIn_app (goodIn_of _ (by decide +kernel)) ggX1_draw_X1_seenAt
set_option maxRecDepth 20000 in
theorem ggX1_draw_X2_covers : GoodIn wsX1_draw wsX2_covers := goodIn_r _ [30, 31, 32, 33, 34, 35, 23, 24, 25, 36, 37, 38, 29, 39, 73, 74, 75, 76, 77, 78, 79] (by decide +kernel) (by decide +kernel)
set_option maxRecDepth 20000 in
theorem gX1_draw_X2_covers : GoodIn wsX1_draw (wsV RX1 108 RX2 yX2_covers wsX2_covers) := goodIn_app (goodIn_of _ (by decide +kernel)) ggX1_draw_X2_covers
set_option maxRecDepth 20000 in
theorem ggX1_draw_X1_mark : GoodIn wsX1_draw wsX1_mark := goodIn_r _ [43, 19, 44, 45, 46, 47, 48, 20, 21, 17, 22, 23, 24, 25, 49, 50, 51, 52, 53, 54, 55, 56, 57, 58, 59, 60, 61, 80, 81, 82, 83, 84, 85, 86, 73, 74, 75, 76, 77, 78, 79, 87, 88] (by decide +kernel) (by decide +kernel)
set_option maxRecDepth 20000 in
theorem gX1_draw_X1_mark : GoodIn wsX1_draw (wsV RX1 112 RX1 yX1_mark wsX1_mark) := goodIn_app (goodIn_of _ (by decide +kernel)) ggX1_draw_X1_mark
theorem dX1_draw_0 : decode cX1_draw 0 = .ok (.aload_n 1, 1) := by decide +kernel
theorem dX1_draw_1 : decode cX1_draw 1 = .ok (.getfield 82, 3) := by decide +kernel
theorem dX1_draw_4 : decode cX1_draw 4 = .ok (.aload_n 3, 1) := by decide +kernel
theorem dX1_draw_5 : decode cX1_draw 5 = .ok (.getfield 85, 3) := by decide +kernel
theorem dX1_draw_8 : decode cX1_draw 8 = .ok (.aload_n 3, 1) := by decide +kernel
theorem dX1_draw_9 : decode cX1_draw 9 = .ok (.getfield 90, 3) := by decide +kernel
theorem dX1_draw_12 : decode cX1_draw 12 = .ok (.iadd, 1) := by decide +kernel
theorem dX1_draw_13 : decode cX1_draw 13 = .ok (.invokestatic 40, 3) := by decide +kernel
theorem dX1_draw_16 : decode cX1_draw 16 = .ok (.istore 4, 2) := by decide +kernel
theorem dX1_draw_18 : decode cX1_draw 18 = .ok (.aload_n 1, 1) := by decide +kernel
theorem dX1_draw_19 : decode cX1_draw 19 = .ok (.getfield 93, 3) := by decide +kernel
theorem dX1_draw_22 : decode cX1_draw 22 = .ok (.aload_n 3, 1) := by decide +kernel
theorem dX1_draw_23 : decode cX1_draw 23 = .ok (.getfield 96, 3) := by decide +kernel
theorem dX1_draw_26 : decode cX1_draw 26 = .ok (.aload_n 3, 1) := by decide +kernel
theorem dX1_draw_27 : decode cX1_draw 27 = .ok (.getfield 99, 3) := by decide +kernel
theorem dX1_draw_30 : decode cX1_draw 30 = .ok (.iadd, 1) := by decide +kernel
theorem dX1_draw_31 : decode cX1_draw 31 = .ok (.invokestatic 40, 3) := by decide +kernel
theorem dX1_draw_34 : decode cX1_draw 34 = .ok (.istore 5, 2) := by decide +kernel
theorem dX1_draw_36 : decode cX1_draw 36 = .ok (.iconst 0, 1) := by decide +kernel
theorem dX1_draw_37 : decode cX1_draw 37 = .ok (.aload_n 3, 1) := by decide +kernel
theorem dX1_draw_38 : decode cX1_draw 38 = .ok (.getfield 85, 3) := by decide +kernel
theorem dX1_draw_41 : decode cX1_draw 41 = .ok (.invokestatic 102, 3) := by decide +kernel
theorem dX1_draw_44 : decode cX1_draw 44 = .ok (.istore 6, 2) := by decide +kernel
theorem dX1_draw_46 : decode cX1_draw 46 = .ok (.iload 6, 2) := by decide +kernel
theorem dX1_draw_48 : decode cX1_draw 48 = .ok (.iload 4, 2) := by decide +kernel
theorem dX1_draw_50 : decode cX1_draw 50 = .ok (.if_icmp .ge 65, 3) := by decide +kernel
theorem dX1_draw_53 : decode cX1_draw 53 = .ok (.iconst 0, 1) := by decide +kernel
theorem dX1_draw_54 : decode cX1_draw 54 = .ok (.aload_n 3, 1) := by decide +kernel
theorem dX1_draw_55 : decode cX1_draw 55 = .ok (.getfield 96, 3) := by decide +kernel
theorem dX1_draw_58 : decode cX1_draw 58 = .ok (.invokestatic 102, 3) := by decide +kernel
theorem dX1_draw_61 : decode cX1_draw 61 = .ok (.istore 7, 2) := by decide +kernel
theorem dX1_draw_63 : decode cX1_draw 63 = .ok (.iload 7, 2) := by decide +kernel
theorem dX1_draw_65 : decode cX1_draw 65 = .ok (.iload 5, 2) := by decide +kernel
theorem dX1_draw_67 : decode cX1_draw 67 = .ok (.if_icmp .ge 42, 3) := by decide +kernel
theorem dX1_draw_70 : decode cX1_draw 70 = .ok (.aload_n 0, 1) := by decide +kernel
theorem dX1_draw_71 : decode cX1_draw 71 = .ok (.iload 6, 2) := by decide +kernel
theorem dX1_draw_73 : decode cX1_draw 73 = .ok (.iload 7, 2) := by decide +kernel
theorem dX1_draw_75 : decode cX1_draw 75 = .ok (.invokevirtual 105, 3) := by decide +kernel
theorem dX1_draw_78 : decode cX1_draw 78 = .ok (.iconst (-1), 1) := by decide +kernel
theorem dX1_draw_79 : decode cX1_draw 79 = .ok (.if_icmp .ne 24, 3) := by decide +kernel
theorem dX1_draw_82 : decode cX1_draw 82 = .ok (.aload_n 3, 1) := by decide +kernel
theorem dX1_draw_83 : decode cX1_draw 83 = .ok (.iload 6, 2) := by decide +kernel
theorem dX1_draw_85 : decode cX1_draw 85 = .ok (.iload 7, 2) := by decide +kernel
theorem dX1_draw_87 : decode cX1_draw 87 = .ok (.invokevirtual 108, 3) := by decide +kernel
theorem dX1_draw_90 : decode cX1_draw 90 = .ok (.ifCond .eq 13, 3) := by decide +kernel
theorem dX1_draw_93 : decode cX1_draw 93 = .ok (.aload_n 0, 1) := by decide +kernel
theorem dX1_draw_94 : decode cX1_draw 94 = .ok (.iload 6, 2) := by decide +kernel
theorem dX1_draw_96 : decode cX1_draw 96 = .ok (.iload 7, 2) := by decide +kernel
theorem dX1_draw_98 : decode cX1_draw 98 = .ok (.iload_n 2, 1) := by decide +kernel
theorem dX1_draw_99 : decode cX1_draw 99 = .ok (.aload_n 3, 1) := by decide +kernel
theorem dX1_draw_100 : decode cX1_draw 100 = .ok (.invokevirtual 112, 3) := by decide +kernel
theorem dX1_draw_103 : decode cX1_draw 103 = .ok (.iinc 7 1, 3) := by decide +kernel
theorem dX1_draw_106 : decode cX1_draw 106 = .ok (.goto (-43), 3) := by decide +kernel
theorem dX1_draw_109 : decode cX1_draw 109 = .ok (.iinc 6 1, 3) := by decide +kernel
theorem dX1_draw_112 : decode cX1_draw 112 = .ok (.goto (-66), 3) := by decide +kernel
theorem dX1_draw_115 : decode cX1_draw 115 = .ok (.return_, 1) := by decide +kernel
set_option maxRecDepth 20000 in
theorem ggX1_mark_X1_isInGrid : GoodIn wsX1_mark wsX1_isInGrid := goodIn_r _ [10, 11, 12, 13] (by decide +kernel) (by decide +kernel)
set_option maxRecDepth 20000 in
theorem gX1_mark_X1_isInGrid : GoodIn wsX1_mark (va_wsS RX1 116 yX1_isInGrid wsX1_isInGrid) := goodIn_app (goodIn_of _ (by decide +kernel)) ggX1_mark_X1_isInGrid
set_option maxRecDepth 20000 in
theorem ggX1_mark_X4_hasInk : GoodIn wsX1_mark wsX4_hasInk := goodIn_r _ [15] (by decide +kernel) (by decide +kernel)
set_option maxRecDepth 20000 in
theorem gX1_mark_X4_hasInk_n122 : GoodIn wsX1_mark (wsX4_hasInk) := ggX1_mark_X4_hasInk
set_option maxRecDepth 20000 in
theorem ggX1_mark_X0_join : GoodIn wsX1_mark wsX0_join := goodIn_r _ [20, 21, 22, 23, 24, 19, 25, 26, 41, 42] (by decide +kernel) (by decide +kernel)
set_option maxRecDepth 20000 in
theorem gX1_mark_X0_join : GoodIn wsX1_mark (wsV RX1 125 RX0 yX0_join wsX0_join) := goodIn_app (goodIn_of _ (by decide +kernel)) ggX1_mark_X0_join
theorem dX1_mark_0 : decode cX1_mark 0 = .ok (.iload_n 1, 1) := by decide +kernel
theorem dX1_mark_1 : decode cX1_mark 1 = .ok (.iload_n 2, 1) := by decide +kernel
theorem dX1_mark_2 : decode cX1_mark 2 = .ok (.invokestatic 116, 3) := by decide +kernel
theorem dX1_mark_5 : decode cX1_mark 5 = .ok (.ifCond .ne 4, 3) := by decide +kernel
theorem dX1_mark_8 : decode cX1_mark 8 = .ok (.return_, 1) := by decide +kernel
theorem dX1_mark_9 : decode cX1_mark 9 = .ok (.aload_n 0, 1) := by decide +kernel
theorem dX1_mark_10 : decode cX1_mark 10 = .ok (.getfield 9, 3) := by decide +kernel
theorem dX1_mark_13 : decode cX1_mark 13 = .ok (.iload_n 1, 1) := by decide +kernel
theorem dX1_mark_14 : decode cX1_mark 14 = .ok (.bipush 16, 2) := by decide +kernel
theorem dX1_mark_16 : decode cX1_mark 16 = .ok (.imul, 1) := by decide +kernel
theorem dX1_mark_17 : decode cX1_mark 17 = .ok (.iload_n 2, 1) := by decide +kernel
theorem dX1_mark_18 : decode cX1_mark 18 = .ok (.iadd, 1) := by decide +kernel
theorem dX1_mark_19 : decode cX1_mark 19 = .ok (.iload_n 3, 1) := by decide +kernel
theorem dX1_mark_20 : decode cX1_mark 20 = .ok (.iastore, 1) := by decide +kernel
theorem dX1_mark_21 : decode cX1_mark 21 = .ok (.iconst 1, 1) := by decide +kernel
theorem dX1_mark_22 : decode cX1_mark 22 = .ok (.iload_n 2, 1) := by decide +kernel
theorem dX1_mark_23 : decode cX1_mark 23 = .ok (.ishl, 1) := by decide +kernel
theorem dX1_mark_24 : decode cX1_mark 24 = .ok (.istore 5, 2) := by decide +kernel
theorem dX1_mark_26 : decode cX1_mark 26 = .ok (.iconst 0, 1) := by decide +kernel
theorem dX1_mark_27 : decode cX1_mark 27 = .ok (.istore 6, 2) := by decide +kernel
theorem dX1_mark_29 : decode cX1_mark 29 = .ok (.iload 6, 2) := by decide +kernel
theorem dX1_mark_31 : decode cX1_mark 31 = .ok (.iconst 4, 1) := by decide +kernel
theorem dX1_mark_32 : decode cX1_mark 32 = .ok (.if_icmp .ge 34, 3) := by decide +kernel
theorem dX1_mark_35 : decode cX1_mark 35 = .ok (.aload 4, 2) := by decide +kernel
theorem dX1_mark_37 : decode cX1_mark 37 = .ok (.getfield 119, 3) := by decide +kernel
theorem dX1_mark_40 : decode cX1_mark 40 = .ok (.iload 6, 2) := by decide +kernel
theorem dX1_mark_42 : decode cX1_mark 42 = .ok (.invokestatic 122, 3) := by decide +kernel
theorem dX1_mark_45 : decode cX1_mark 45 = .ok (.ifCond .eq 15, 3) := by decide +kernel
theorem dX1_mark_48 : decode cX1_mark 48 = .ok (.aload_n 0, 1) := by decide +kernel
theorem dX1_mark_49 : decode cX1_mark 49 = .ok (.getfield 24, 3) := by decide +kernel
theorem dX1_mark_52 : decode cX1_mark 52 = .ok (.iload 6, 2) := by decide +kernel
theorem dX1_mark_54 : decode cX1_mark 54 = .ok (.iload_n 1, 1) := by decide +kernel
theorem dX1_mark_55 : decode cX1_mark 55 = .ok (.iload 5, 2) := by decide +kernel
theorem dX1_mark_57 : decode cX1_mark 57 = .ok (.invokevirtual 125, 3) := by decide +kernel
theorem dX1_mark_60 : decode cX1_mark 60 = .ok (.iinc 6 1, 3) := by decide +kernel
theorem dX1_mark_63 : decode cX1_mark 63 = .ok (.goto (-34), 3) := by decide +kernel
theorem dX1_mark_66 : decode cX1_mark 66 = .ok (.aload 4, 2) := by decide +kernel
theorem dX1_mark_68 : decode cX1_mark 68 = .ok (.getfield 119, 3) := by decide +kernel
theorem dX1_mark_71 : decode cX1_mark 71 = .ok (.ifCond .eq 37, 3) := by decide +kernel
theorem dX1_mark_74 : decode cX1_mark 74 = .ok (.aload 4, 2) := by decide +kernel
theorem dX1_mark_76 : decode cX1_mark 76 = .ok (.getfield 129, 3) := by decide +kernel
theorem dX1_mark_79 : decode cX1_mark 79 = .ok (.ifCond .ne 29, 3) := by decide +kernel
theorem dX1_mark_82 : decode cX1_mark 82 = .ok (.aload_n 0, 1) := by decide +kernel
theorem dX1_mark_83 : decode cX1_mark 83 = .ok (.getfield 20, 3) := by decide +kernel
theorem dX1_mark_86 : decode cX1_mark 86 = .ok (.aload 4, 2) := by decide +kernel
theorem dX1_mark_88 : decode cX1_mark 88 = .ok (.getfield 119, 3) := by decide +kernel
theorem dX1_mark_91 : decode cX1_mark 91 = .ok (.iload_n 1, 1) := by decide +kernel
theorem dX1_mark_92 : decode cX1_mark 92 = .ok (.iload 5, 2) := by decide +kernel
theorem dX1_mark_94 : decode cX1_mark 94 = .ok (.invokevirtual 125, 3) := by decide +kernel
theorem dX1_mark_97 : decode cX1_mark 97 = .ok (.aload_n 0, 1) := by decide +kernel
theorem dX1_mark_98 : decode cX1_mark 98 = .ok (.getfield 27, 3) := by decide +kernel
theorem dX1_mark_101 : decode cX1_mark 101 = .ok (.iconst 0, 1) := by decide +kernel
theorem dX1_mark_102 : decode cX1_mark 102 = .ok (.iload_n 1, 1) := by decide +kernel
theorem dX1_mark_103 : decode cX1_mark 103 = .ok (.iload 5, 2) := by decide +kernel
theorem dX1_mark_105 : decode cX1_mark 105 = .ok (.invokevirtual 125, 3) := by decide +kernel
theorem dX1_mark_108 : decode cX1_mark 108 = .ok (.return_, 1) := by decide +kernel
set_option maxRecDepth 20000 in
theorem ggX1_isInGrid_X4_isWithin : GoodIn wsX1_isInGrid wsX4_isWithin := goodIn_r _ [3] (by decide +kernel) (by decide +kernel)
set_option maxRecDepth 20000 in
theorem gX1_isInGrid_X4_isWithin_n133 : GoodIn wsX1_isInGrid (wsX4_isWithin) := ggX1_isInGrid_X4_isWithin
theorem dX1_isInGrid_0 : decode cX1_isInGrid 0 = .ok (.iload_n 0, 1) := by decide +kernel
theorem dX1_isInGrid_1 : decode cX1_isInGrid 1 = .ok (.iconst 0, 1) := by decide +kernel
theorem dX1_isInGrid_2 : decode cX1_isInGrid 2 = .ok (.bipush 15, 2) := by decide +kernel
theorem dX1_isInGrid_4 : decode cX1_isInGrid 4 = .ok (.invokestatic 133, 3) := by decide +kernel
theorem dX1_isInGrid_7 : decode cX1_isInGrid 7 = .ok (.ifCond .eq 17, 3) := by decide +kernel
theorem dX1_isInGrid_10 : decode cX1_isInGrid 10 = .ok (.iload_n 1, 1) := by decide +kernel
theorem dX1_isInGrid_11 : decode cX1_isInGrid 11 = .ok (.iconst 0, 1) := by decide +kernel
theorem dX1_isInGrid_12 : decode cX1_isInGrid 12 = .ok (.bipush 15, 2) := by decide +kernel
theorem dX1_isInGrid_14 : decode cX1_isInGrid 14 = .ok (.invokestatic 133, 3) := by decide +kernel
theorem dX1_isInGrid_17 : decode cX1_isInGrid 17 = .ok (.ifCond .eq 7, 3) := by decide +kernel
theorem dX1_isInGrid_20 : decode cX1_isInGrid 20 = .ok (.iconst 1, 1) := by decide +kernel
theorem dX1_isInGrid_21 : decode cX1_isInGrid 21 = .ok (.goto 4, 3) := by decide +kernel
theorem dX1_isInGrid_24 : decode cX1_isInGrid 24 = .ok (.iconst 0, 1) := by decide +kernel
theorem dX1_isInGrid_25 : decode cX1_isInGrid 25 = .ok (.ireturn, 1) := by decide +kernel
set_option maxRecDepth 20000 in
theorem ggX1_seenAt_X1_isInGrid : GoodIn wsX1_seenAt wsX1_isInGrid := goodIn_r _ [5, 6, 7, 8] (by decide +kernel) (by decide +kernel)
set_option maxRecDepth 20000 in
theorem gX1_seenAt_X1_isInGrid : GoodIn wsX1_seenAt (va_wsS RX1 116 yX1_isInGrid wsX1_isInGrid) := goodIn_app (goodIn_of _ (by decide +kernel)) ggX1_seenAt_X1_isInGrid
theorem dX1_seenAt_0 : decode cX1_seenAt 0 = .ok (.iload_n 1, 1) := by decide +kernel
theorem dX1_seenAt_1 : decode cX1_seenAt 1 = .ok (.iload_n 2, 1) := by decide +kernel
theorem dX1_seenAt_2 : decode cX1_seenAt 2 = .ok (.invokestatic 116, 3) := by decide +kernel
theorem dX1_seenAt_5 : decode cX1_seenAt 5 = .ok (.ifCond .eq 17, 3) := by decide +kernel
theorem dX1_seenAt_8 : decode cX1_seenAt 8 = .ok (.aload_n 0, 1) := by decide +kernel
theorem dX1_seenAt_9 : decode cX1_seenAt 9 = .ok (.getfield 9, 3) := by decide +kernel
theorem dX1_seenAt_12 : decode cX1_seenAt 12 = .ok (.iload_n 1, 1) := by decide +kernel
theorem dX1_seenAt_13 : decode cX1_seenAt 13 = .ok (.bipush 16, 2) := by decide +kernel
theorem dX1_seenAt_15 : decode cX1_seenAt 15 = .ok (.imul, 1) := by decide +kernel
theorem dX1_seenAt_16 : decode cX1_seenAt 16 = .ok (.iload_n 2, 1) := by decide +kernel
theorem dX1_seenAt_17 : decode cX1_seenAt 17 = .ok (.iadd, 1) := by decide +kernel
theorem dX1_seenAt_18 : decode cX1_seenAt 18 = .ok (.iaload, 1) := by decide +kernel
theorem dX1_seenAt_19 : decode cX1_seenAt 19 = .ok (.goto 4, 3) := by decide +kernel
theorem dX1_seenAt_22 : decode cX1_seenAt 22 = .ok (.iconst (-1), 1) := by decide +kernel
theorem dX1_seenAt_23 : decode cX1_seenAt 23 = .ok (.ireturn, 1) := by decide +kernel
theorem dX1_cellsOf_0 : decode cX1_cellsOf 0 = .ok (.iconst 0, 1) := by decide +kernel
theorem dX1_cellsOf_1 : decode cX1_cellsOf 1 = .ok (.istore_n 2, 1) := by decide +kernel
theorem dX1_cellsOf_2 : decode cX1_cellsOf 2 = .ok (.iconst 0, 1) := by decide +kernel
theorem dX1_cellsOf_3 : decode cX1_cellsOf 3 = .ok (.istore_n 3, 1) := by decide +kernel
theorem dX1_cellsOf_4 : decode cX1_cellsOf 4 = .ok (.iload_n 3, 1) := by decide +kernel
theorem dX1_cellsOf_5 : decode cX1_cellsOf 5 = .ok (.aload_n 0, 1) := by decide +kernel
theorem dX1_cellsOf_6 : decode cX1_cellsOf 6 = .ok (.getfield 9, 3) := by decide +kernel
theorem dX1_cellsOf_9 : decode cX1_cellsOf 9 = .ok (.arraylength, 1) := by decide +kernel
theorem dX1_cellsOf_10 : decode cX1_cellsOf 10 = .ok (.if_icmp .ge 22, 3) := by decide +kernel
theorem dX1_cellsOf_13 : decode cX1_cellsOf 13 = .ok (.aload_n 0, 1) := by decide +kernel
theorem dX1_cellsOf_14 : decode cX1_cellsOf 14 = .ok (.getfield 9, 3) := by decide +kernel
theorem dX1_cellsOf_17 : decode cX1_cellsOf 17 = .ok (.iload_n 3, 1) := by decide +kernel
theorem dX1_cellsOf_18 : decode cX1_cellsOf 18 = .ok (.iaload, 1) := by decide +kernel
theorem dX1_cellsOf_19 : decode cX1_cellsOf 19 = .ok (.iload_n 1, 1) := by decide +kernel
theorem dX1_cellsOf_20 : decode cX1_cellsOf 20 = .ok (.if_icmp .ne 6, 3) := by decide +kernel
theorem dX1_cellsOf_23 : decode cX1_cellsOf 23 = .ok (.iinc 2 1, 3) := by decide +kernel
theorem dX1_cellsOf_26 : decode cX1_cellsOf 26 = .ok (.iinc 3 1, 3) := by decide +kernel
theorem dX1_cellsOf_29 : decode cX1_cellsOf 29 = .ok (.goto (-25), 3) := by decide +kernel
theorem dX1_cellsOf_32 : decode cX1_cellsOf 32 = .ok (.iload_n 2, 1) := by decide +kernel
theorem dX1_cellsOf_33 : decode cX1_cellsOf 33 = .ok (.ireturn, 1) := by decide +kernel
set_option maxRecDepth 20000 in
theorem ggX1_makePlates_X0_become : GoodIn wsX1_makePlates wsX0_become := goodIn_r _ [8, 9, 10, 11, 12, 13, 14, 15, 16, 17, 81, 82] (by decide +kernel) (by decide +kernel)
set_option maxRecDepth 20000 in
theorem gX1_makePlates_X0_become : GoodIn wsX1_makePlates (wsV RX1 137 RX0 yX0_become wsX0_become) := goodIn_app (goodIn_of _ (by decide +kernel)) ggX1_makePlates_X0_become
set_option maxRecDepth 20000 in
theorem ggX1_makePlates_X3_darkerThan : GoodIn wsX1_makePlates wsX3_darkerThan := goodIn_r _ [22, 23, 24, 25, 21, 26, 27, 28, 29, 30, 31, 32, 33, 34, 70, 71, 72, 73, 74, 75, 76, 77, 78, 79, 80] (by decide +kernel) (by decide +kernel)
set_option maxRecDepth 20000 in
theorem gX1_makePlates_X3_darkerThan : GoodIn wsX1_makePlates (wsV RX1 144 RX3 yX3_darkerThan wsX3_darkerThan) := goodIn_app (goodIn_of _ (by decide +kernel)) ggX1_makePlates_X3_darkerThan
set_option maxRecDepth 20000 in
theorem ggX1_makePlates_X1_grow : GoodIn wsX1_makePlates wsX1_grow := goodIn_r _ [39, 40, 1, 41, 42, 43, 7, 44, 45, 46, 47, 48, 9, 49, 50, 51, 52, 53, 54, 55, 56, 38, 57, 58, 32, 33, 34, 59, 60, 61, 62, 63, 64, 65, 66, 67, 68, 69, 81, 82] (by decide +kernel) (by decide +kernel)
set_option maxRecDepth 20000 in
theorem gX1_makePlates_X1_grow : GoodIn wsX1_makePlates (wsV RX1 147 RX1 yX1_grow wsX1_grow) := goodIn_app (goodIn_of _ (by decide +kernel)) ggX1_makePlates_X1_grow
theorem dX1_makePlates_0 : decode cX1_makePlates 0 = .ok (.aload_n 0, 1) := by decide +kernel
theorem dX1_makePlates_1 : decode cX1_makePlates 1 = .ok (.getfield 30, 3) := by decide +kernel
theorem dX1_makePlates_4 : decode cX1_makePlates 4 = .ok (.aload_n 0, 1) := by decide +kernel
theorem dX1_makePlates_5 : decode cX1_makePlates 5 = .ok (.getfield 24, 3) := by decide +kernel
theorem dX1_makePlates_8 : decode cX1_makePlates 8 = .ok (.invokevirtual 137, 3) := by decide +kernel
theorem dX1_makePlates_11 : decode cX1_makePlates 11 = .ok (.aload_n 1, 1) := by decide +kernel
theorem dX1_makePlates_12 : decode cX1_makePlates 12 = .ok (.getfield 141, 3) := by decide +kernel
theorem dX1_makePlates_15 : decode cX1_makePlates 15 = .ok (.ifCond .ne 4, 3) := by decide +kernel
theorem dX1_makePlates_18 : decode cX1_makePlates 18 = .ok (.return_, 1) := by decide +kernel
theorem dX1_makePlates_19 : decode cX1_makePlates 19 = .ok (.iconst 1, 1) := by decide +kernel
theorem dX1_makePlates_20 : decode cX1_makePlates 20 = .ok (.istore_n 2, 1) := by decide +kernel
theorem dX1_makePlates_21 : decode cX1_makePlates 21 = .ok (.iload_n 2, 1) := by decide +kernel
theorem dX1_makePlates_22 : decode cX1_makePlates 22 = .ok (.bipush 16, 2) := by decide +kernel
theorem dX1_makePlates_24 : decode cX1_makePlates 24 = .ok (.if_icmp .ge 23, 3) := by decide +kernel
theorem dX1_makePlates_27 : decode cX1_makePlates 27 = .ok (.aload_n 0, 1) := by decide +kernel
theorem dX1_makePlates_28 : decode cX1_makePlates 28 = .ok (.iload_n 2, 1) := by decide +kernel
theorem dX1_makePlates_29 : decode cX1_makePlates 29 = .ok (.aload_n 1, 1) := by decide +kernel
theorem dX1_makePlates_30 : decode cX1_makePlates 30 = .ok (.iload_n 2, 1) := by decide +kernel
theorem dX1_makePlates_31 : decode cX1_makePlates 31 = .ok (.invokevirtual 144, 3) := by decide +kernel
theorem dX1_makePlates_34 : decode cX1_makePlates 34 = .ok (.aload_n 1, 1) := by decide +kernel
theorem dX1_makePlates_35 : decode cX1_makePlates 35 = .ok (.getfield 141, 3) := by decide +kernel
theorem dX1_makePlates_38 : decode cX1_makePlates 38 = .ok (.invokevirtual 147, 3) := by decide +kernel
theorem dX1_makePlates_41 : decode cX1_makePlates 41 = .ok (.iinc 2 1, 3) := by decide +kernel
theorem dX1_makePlates_44 : decode cX1_makePlates 44 = .ok (.goto (-23), 3) := by decide +kernel
theorem dX1_makePlates_47 : decode cX1_makePlates 47 = .ok (.return_, 1) := by decide +kernel
set_option maxRecDepth 20000 in
theorem ggX1_grow_X0_near : GoodIn wsX1_grow wsX0_near := goodIn_r _ [7, 8, 9, 10, 6, 11, 12, 13, 14, 15, 16, 17, 38, 39] (by decide +kernel) (by decide +kernel)
set_option maxRecDepth 20000 in
theorem gX1_grow_X0_near : GoodIn wsX1_grow (wsV RX1 150 RX0 yX0_near wsX0_near) := goodIn_app (goodIn_of _ (by decide +kernel)) ggX1_grow_X0_near
set_option maxRecDepth 20000 in
theorem ggX1_grow_X1_openOf : GoodIn wsX1_grow wsX1_openOf := goodIn_r _ [22, 1, 23, 9, 10, 6, 11, 12, 13, 14, 15, 16, 17, 31, 32, 33, 34, 35, 36, 37, 38, 39] (by decide +kernel) (by decide +kernel)
set_option maxRecDepth 20000 in
theorem gX1_grow_X1_openOf : GoodIn wsX1_grow (wsV RX1 154 RX1 yX1_openOf wsX1_openOf) := goodIn_app (goodIn_of _ (by decide +kernel)) ggX1_grow_X1_openOf
set_option maxRecDepth 20000 in
theorem ggX1_grow_X4_hasInk : GoodIn wsX1_grow wsX4_hasInk := goodIn_r _ [26] (by decide +kernel) (by decide +kernel)
set_option maxRecDepth 20000 in
theorem gX1_grow_X4_hasInk_n122 : GoodIn wsX1_grow (wsX4_hasInk) := ggX1_grow_X4_hasInk
set_option maxRecDepth 20000 in
theorem ggX1_grow_X0_join : GoodIn wsX1_grow wsX0_join := goodIn_r _ [30, 12, 13, 14, 15, 6, 16, 17, 38, 39] (by decide +kernel) (by decide +kernel)
set_option maxRecDepth 20000 in
theorem gX1_grow_X0_join : GoodIn wsX1_grow (wsV RX1 125 RX0 yX0_join wsX0_join) := goodIn_app (goodIn_of _ (by decide +kernel)) ggX1_grow_X0_join
theorem dX1_grow_0 : decode cX1_grow 0 = .ok (.iconst 0, 1) := by decide +kernel
theorem dX1_grow_1 : decode cX1_grow 1 = .ok (.istore 4, 2) := by decide +kernel
theorem dX1_grow_3 : decode cX1_grow 3 = .ok (.iload 4, 2) := by decide +kernel
theorem dX1_grow_5 : decode cX1_grow 5 = .ok (.bipush 16, 2) := by decide +kernel
theorem dX1_grow_7 : decode cX1_grow 7 = .ok (.if_icmp .ge 85, 3) := by decide +kernel
theorem dX1_grow_10 : decode cX1_grow 10 = .ok (.aload_n 0, 1) := by decide +kernel
theorem dX1_grow_11 : decode cX1_grow 11 = .ok (.getfield 20, 3) := by decide +kernel
theorem dX1_grow_14 : decode cX1_grow 14 = .ok (.iload_n 1, 1) := by decide +kernel
theorem dX1_grow_15 : decode cX1_grow 15 = .ok (.iload 4, 2) := by decide +kernel
theorem dX1_grow_17 : decode cX1_grow 17 = .ok (.iload_n 3, 1) := by decide +kernel
theorem dX1_grow_18 : decode cX1_grow 18 = .ok (.invokevirtual 150, 3) := by decide +kernel
theorem dX1_grow_21 : decode cX1_grow 21 = .ok (.istore 5, 2) := by decide +kernel
theorem dX1_grow_23 : decode cX1_grow 23 = .ok (.iload 5, 2) := by decide +kernel
theorem dX1_grow_25 : decode cX1_grow 25 = .ok (.ifCond .ne 7, 3) := by decide +kernel
theorem dX1_grow_28 : decode cX1_grow 28 = .ok (.iconst 0, 1) := by decide +kernel
theorem dX1_grow_29 : decode cX1_grow 29 = .ok (.goto 13, 3) := by decide +kernel
theorem dX1_grow_32 : decode cX1_grow 32 = .ok (.iload 5, 2) := by decide +kernel
theorem dX1_grow_34 : decode cX1_grow 34 = .ok (.aload_n 0, 1) := by decide +kernel
theorem dX1_grow_35 : decode cX1_grow 35 = .ok (.iload_n 2, 1) := by decide +kernel
theorem dX1_grow_36 : decode cX1_grow 36 = .ok (.iload 4, 2) := by decide +kernel
theorem dX1_grow_38 : decode cX1_grow 38 = .ok (.invokevirtual 154, 3) := by decide +kernel
theorem dX1_grow_41 : decode cX1_grow 41 = .ok (.iand, 1) := by decide +kernel
theorem dX1_grow_42 : decode cX1_grow 42 = .ok (.istore 6, 2) := by decide +kernel
theorem dX1_grow_44 : decode cX1_grow 44 = .ok (.iconst 0, 1) := by decide +kernel
theorem dX1_grow_45 : decode cX1_grow 45 = .ok (.istore 7, 2) := by decide +kernel
theorem dX1_grow_47 : decode cX1_grow 47 = .ok (.iload 6, 2) := by decide +kernel
theorem dX1_grow_49 : decode cX1_grow 49 = .ok (.ifCond .eq 37, 3) := by decide +kernel
theorem dX1_grow_52 : decode cX1_grow 52 = .ok (.iload 7, 2) := by decide +kernel
theorem dX1_grow_54 : decode cX1_grow 54 = .ok (.iconst 4, 1) := by decide +kernel
theorem dX1_grow_55 : decode cX1_grow 55 = .ok (.if_icmp .ge 31, 3) := by decide +kernel
theorem dX1_grow_58 : decode cX1_grow 58 = .ok (.iload_n 1, 1) := by decide +kernel
theorem dX1_grow_59 : decode cX1_grow 59 = .ok (.iload 7, 2) := by decide +kernel
theorem dX1_grow_61 : decode cX1_grow 61 = .ok (.invokestatic 122, 3) := by decide +kernel
theorem dX1_grow_64 : decode cX1_grow 64 = .ok (.ifCond .eq 16, 3) := by decide +kernel
theorem dX1_grow_67 : decode cX1_grow 67 = .ok (.aload_n 0, 1) := by decide +kernel
theorem dX1_grow_68 : decode cX1_grow 68 = .ok (.getfield 30, 3) := by decide +kernel
theorem dX1_grow_71 : decode cX1_grow 71 = .ok (.iload 7, 2) := by decide +kernel
theorem dX1_grow_73 : decode cX1_grow 73 = .ok (.iload 4, 2) := by decide +kernel
theorem dX1_grow_75 : decode cX1_grow 75 = .ok (.iload 6, 2) := by decide +kernel
theorem dX1_grow_77 : decode cX1_grow 77 = .ok (.invokevirtual 125, 3) := by decide +kernel
theorem dX1_grow_80 : decode cX1_grow 80 = .ok (.iinc 7 1, 3) := by decide +kernel
theorem dX1_grow_83 : decode cX1_grow 83 = .ok (.goto (-36), 3) := by decide +kernel
theorem dX1_grow_86 : decode cX1_grow 86 = .ok (.iinc 4 1, 3) := by decide +kernel
theorem dX1_grow_89 : decode cX1_grow 89 = .ok (.goto (-86), 3) := by decide +kernel
theorem dX1_grow_92 : decode cX1_grow 92 = .ok (.return_, 1) := by decide +kernel
set_option maxRecDepth 20000 in
theorem ggX1_openOf_X0_bits : GoodIn wsX1_openOf wsX0_bits := goodIn_r _ [6, 7, 8, 9, 10, 5, 11, 12, 20, 21] (by decide +kernel) (by decide +kernel)
set_option maxRecDepth 20000 in
theorem gX1_openOf_X0_bits : GoodIn wsX1_openOf (wsV RX1 157 RX0 yX0_bits wsX0_bits) := goodIn_app (goodIn_of _ (by decide +kernel)) ggX1_openOf_X0_bits
theorem dX1_openOf_0 : decode cX1_openOf 0 = .ok (.iconst 0, 1) := by decide +kernel
theorem dX1_openOf_1 : decode cX1_openOf 1 = .ok (.istore_n 3, 1) := by decide +kernel
theorem dX1_openOf_2 : decode cX1_openOf 2 = .ok (.iconst 1, 1) := by decide +kernel
theorem dX1_openOf_3 : decode cX1_openOf 3 = .ok (.istore 4, 2) := by decide +kernel
theorem dX1_openOf_5 : decode cX1_openOf 5 = .ok (.iload 4, 2) := by decide +kernel
theorem dX1_openOf_7 : decode cX1_openOf 7 = .ok (.bipush 16, 2) := by decide +kernel
theorem dX1_openOf_9 : decode cX1_openOf 9 = .ok (.if_icmp .ge 32, 3) := by decide +kernel
theorem dX1_openOf_12 : decode cX1_openOf 12 = .ok (.iload_n 1, 1) := by decide +kernel
theorem dX1_openOf_13 : decode cX1_openOf 13 = .ok (.iload 4, 2) := by decide +kernel
theorem dX1_openOf_15 : decode cX1_openOf 15 = .ok (.ishr, 1) := by decide +kernel
theorem dX1_openOf_16 : decode cX1_openOf 16 = .ok (.iconst 1, 1) := by decide +kernel
theorem dX1_openOf_17 : decode cX1_openOf 17 = .ok (.iand, 1) := by decide +kernel
theorem dX1_openOf_18 : decode cX1_openOf 18 = .ok (.iconst 1, 1) := by decide +kernel
theorem dX1_openOf_19 : decode cX1_openOf 19 = .ok (.if_icmp .ne 16, 3) := by decide +kernel
theorem dX1_openOf_22 : decode cX1_openOf 22 = .ok (.iload_n 3, 1) := by decide +kernel
theorem dX1_openOf_23 : decode cX1_openOf 23 = .ok (.aload_n 0, 1) := by decide +kernel
theorem dX1_openOf_24 : decode cX1_openOf 24 = .ok (.getfield 20, 3) := by decide +kernel
theorem dX1_openOf_27 : decode cX1_openOf 27 = .ok (.iload 4, 2) := by decide +kernel
theorem dX1_openOf_29 : decode cX1_openOf 29 = .ok (.iload_n 2, 1) := by decide +kernel
theorem dX1_openOf_30 : decode cX1_openOf 30 = .ok (.invokevirtual 157, 3) := by decide +kernel
theorem dX1_openOf_33 : decode cX1_openOf 33 = .ok (.ior, 1) := by decide +kernel
theorem dX1_openOf_34 : decode cX1_openOf 34 = .ok (.istore_n 3, 1) := by decide +kernel
theorem dX1_openOf_35 : decode cX1_openOf 35 = .ok (.iinc 4 1, 3) := by decide +kernel
theorem dX1_openOf_38 : decode cX1_openOf 38 = .ok (.goto (-33), 3) := by decide +kernel
theorem dX1_openOf_41 : decode cX1_openOf 41 = .ok (.iload_n 3, 1) := by decide +kernel
theorem dX1_openOf_42 : decode cX1_openOf 42 = .ok (.ireturn, 1) := by decide +kernel
set_option maxRecDepth 20000 in
theorem ggX1_pullProof_X0_clear : GoodIn wsX1_pullProof wsX0_clear := goodIn_r _ [7, 8, 9, 10, 11, 12, 66, 67] (by decide +kernel) (by decide +kernel)
set_option maxRecDepth 20000 in
theorem gX1_pullProof_X0_clear : GoodIn wsX1_pullProof (wsV RX1 62 RX0 yX0_clear wsX0_clear) := goodIn_app (goodIn_of _ (by decide +kernel)) ggX1_pullProof_X0_clear
set_option maxRecDepth 20000 in
theorem ggX1_pullProof_X1_pullColumn : GoodIn wsX1_pullProof wsX1_pullColumn := goodIn_r _ [17, 18, 19, 20, 1, 21, 22, 23, 24, 25, 26, 27, 28, 29, 30, 6, 31, 32, 33, 34, 35, 36, 37, 38, 8, 39, 40, 41, 42, 43, 44, 45, 46, 47, 55, 56, 57, 58, 59, 60, 61, 62, 63, 64, 65, 48, 49, 50, 51, 52, 53, 54, 66, 67] (by decide +kernel) (by decide +kernel)
set_option maxRecDepth 20000 in
theorem gX1_pullProof_X1_pullColumn : GoodIn wsX1_pullProof (wsV RX1 160 RX1 yX1_pullColumn wsX1_pullColumn) := goodIn_app (goodIn_of _ (by decide +kernel)) ggX1_pullProof_X1_pullColumn
theorem dX1_pullProof_0 : decode cX1_pullProof 0 = .ok (.aload_n 0, 1) := by decide +kernel
theorem dX1_pullProof_1 : decode cX1_pullProof 1 = .ok (.getfield 33, 3) := by decide +kernel
theorem dX1_pullProof_4 : decode cX1_pullProof 4 = .ok (.invokevirtual 62, 3) := by decide +kernel
theorem dX1_pullProof_7 : decode cX1_pullProof 7 = .ok (.iconst 0, 1) := by decide +kernel
theorem dX1_pullProof_8 : decode cX1_pullProof 8 = .ok (.istore_n 2, 1) := by decide +kernel
theorem dX1_pullProof_9 : decode cX1_pullProof 9 = .ok (.iload_n 2, 1) := by decide +kernel
theorem dX1_pullProof_10 : decode cX1_pullProof 10 = .ok (.iconst 4, 1) := by decide +kernel
theorem dX1_pullProof_11 : decode cX1_pullProof 11 = .ok (.if_icmp .ge 32, 3) := by decide +kernel
theorem dX1_pullProof_14 : decode cX1_pullProof 14 = .ok (.iconst 0, 1) := by decide +kernel
theorem dX1_pullProof_15 : decode cX1_pullProof 15 = .ok (.istore_n 3, 1) := by decide +kernel
theorem dX1_pullProof_16 : decode cX1_pullProof 16 = .ok (.iload_n 3, 1) := by decide +kernel
theorem dX1_pullProof_17 : decode cX1_pullProof 17 = .ok (.aload_n 1, 1) := by decide +kernel
theorem dX1_pullProof_18 : decode cX1_pullProof 18 = .ok (.getfield 93, 3) := by decide +kernel
theorem dX1_pullProof_21 : decode cX1_pullProof 21 = .ok (.if_icmp .ge 16, 3) := by decide +kernel
theorem dX1_pullProof_24 : decode cX1_pullProof 24 = .ok (.aload_n 0, 1) := by decide +kernel
theorem dX1_pullProof_25 : decode cX1_pullProof 25 = .ok (.aload_n 1, 1) := by decide +kernel
theorem dX1_pullProof_26 : decode cX1_pullProof 26 = .ok (.iload_n 2, 1) := by decide +kernel
theorem dX1_pullProof_27 : decode cX1_pullProof 27 = .ok (.iload_n 3, 1) := by decide +kernel
theorem dX1_pullProof_28 : decode cX1_pullProof 28 = .ok (.invokevirtual 160, 3) := by decide +kernel
theorem dX1_pullProof_31 : decode cX1_pullProof 31 = .ok (.iinc 3 1, 3) := by decide +kernel
theorem dX1_pullProof_34 : decode cX1_pullProof 34 = .ok (.goto (-18), 3) := by decide +kernel
theorem dX1_pullProof_37 : decode cX1_pullProof 37 = .ok (.iinc 2 1, 3) := by decide +kernel
theorem dX1_pullProof_40 : decode cX1_pullProof 40 = .ok (.goto (-31), 3) := by decide +kernel
theorem dX1_pullProof_43 : decode cX1_pullProof 43 = .ok (.return_, 1) := by decide +kernel
set_option maxRecDepth 20000 in
theorem ggX1_pullColumn_X3_offColumns : GoodIn wsX1_pullColumn wsX3_offColumns := goodIn_r _ [9, 10, 11, 34, 35, 36, 37, 38, 39, 40, 41, 42, 43, 44] (by decide +kernel) (by decide +kernel)
set_option maxRecDepth 20000 in
theorem gX1_pullColumn_X3_offColumns : GoodIn wsX1_pullColumn (wsV RX1 164 RX3 yX3_offColumns wsX3_offColumns) := goodIn_app (goodIn_of _ (by decide +kernel)) ggX1_pullColumn_X3_offColumns
set_option maxRecDepth 20000 in
theorem ggX1_pullColumn_X0_has : GoodIn wsX1_pullColumn wsX0_has := goodIn_r _ [16, 17, 18, 19, 20, 21, 22, 15, 23, 24, 25, 26, 27, 28, 29, 52, 53] (by decide +kernel) (by decide +kernel)
set_option maxRecDepth 20000 in
theorem gX1_pullColumn_X0_has : GoodIn wsX1_pullColumn (wsV RX1 170 RX0 yX0_has wsX0_has) := goodIn_app (goodIn_of _ (by decide +kernel)) ggX1_pullColumn_X0_has
set_option maxRecDepth 20000 in
theorem ggX1_pullColumn_X0_join : GoodIn wsX1_pullColumn wsX0_join := goodIn_r _ [33, 24, 25, 26, 27, 15, 28, 29, 52, 53] (by decide +kernel) (by decide +kernel)
set_option maxRecDepth 20000 in
theorem gX1_pullColumn_X0_join : GoodIn wsX1_pullColumn (wsV RX1 125 RX0 yX0_join wsX0_join) := goodIn_app (goodIn_of _ (by decide +kernel)) ggX1_pullColumn_X0_join
theorem dX1_pullColumn_0 : decode cX1_pullColumn 0 = .ok (.iload_n 3, 1) := by decide +kernel
theorem dX1_pullColumn_1 : decode cX1_pullColumn 1 = .ok (.aload_n 1, 1) := by decide +kernel
theorem dX1_pullColumn_2 : decode cX1_pullColumn 2 = .ok (.iload_n 2, 1) := by decide +kernel
theorem dX1_pullColumn_3 : decode cX1_pullColumn 3 = .ok (.iload_n 3, 1) := by decide +kernel
theorem dX1_pullColumn_4 : decode cX1_pullColumn 4 = .ok (.invokevirtual 164, 3) := by decide +kernel
theorem dX1_pullColumn_7 : decode cX1_pullColumn 7 = .ok (.isub, 1) := by decide +kernel
theorem dX1_pullColumn_8 : decode cX1_pullColumn 8 = .ok (.istore 4, 2) := by decide +kernel
theorem dX1_pullColumn_10 : decode cX1_pullColumn 10 = .ok (.aload_n 1, 1) := by decide +kernel
theorem dX1_pullColumn_11 : decode cX1_pullColumn 11 = .ok (.getfield 167, 3) := by decide +kernel
theorem dX1_pullColumn_14 : decode cX1_pullColumn 14 = .ok (.iload_n 2, 1) := by decide +kernel
theorem dX1_pullColumn_15 : decode cX1_pullColumn 15 = .ok (.iaload, 1) := by decide +kernel
theorem dX1_pullColumn_16 : decode cX1_pullColumn 16 = .ok (.istore 5, 2) := by decide +kernel
theorem dX1_pullColumn_18 : decode cX1_pullColumn 18 = .ok (.iconst 0, 1) := by decide +kernel
theorem dX1_pullColumn_19 : decode cX1_pullColumn 19 = .ok (.istore 6, 2) := by decide +kernel
theorem dX1_pullColumn_21 : decode cX1_pullColumn 21 = .ok (.iload 6, 2) := by decide +kernel
theorem dX1_pullColumn_23 : decode cX1_pullColumn 23 = .ok (.aload_n 1, 1) := by decide +kernel
theorem dX1_pullColumn_24 : decode cX1_pullColumn 24 = .ok (.getfield 82, 3) := by decide +kernel
theorem dX1_pullColumn_27 : decode cX1_pullColumn 27 = .ok (.if_icmp .ge 40, 3) := by decide +kernel
theorem dX1_pullColumn_30 : decode cX1_pullColumn 30 = .ok (.aload_n 0, 1) := by decide +kernel
theorem dX1_pullColumn_31 : decode cX1_pullColumn 31 = .ok (.getfield 30, 3) := by decide +kernel
theorem dX1_pullColumn_34 : decode cX1_pullColumn 34 = .ok (.iload_n 2, 1) := by decide +kernel
theorem dX1_pullColumn_35 : decode cX1_pullColumn 35 = .ok (.iload 6, 2) := by decide +kernel
theorem dX1_pullColumn_37 : decode cX1_pullColumn 37 = .ok (.iload 5, 2) := by decide +kernel
theorem dX1_pullColumn_39 : decode cX1_pullColumn 39 = .ok (.isub, 1) := by decide +kernel
theorem dX1_pullColumn_40 : decode cX1_pullColumn 40 = .ok (.iload 4, 2) := by decide +kernel
theorem dX1_pullColumn_42 : decode cX1_pullColumn 42 = .ok (.invokevirtual 170, 3) := by decide +kernel
theorem dX1_pullColumn_45 : decode cX1_pullColumn 45 = .ok (.ifCond .eq 16, 3) := by decide +kernel
theorem dX1_pullColumn_48 : decode cX1_pullColumn 48 = .ok (.aload_n 0, 1) := by decide +kernel
theorem dX1_pullColumn_49 : decode cX1_pullColumn 49 = .ok (.getfield 33, 3) := by decide +kernel
theorem dX1_pullColumn_52 : decode cX1_pullColumn 52 = .ok (.iload_n 2, 1) := by decide +kernel
theorem dX1_pullColumn_53 : decode cX1_pullColumn 53 = .ok (.iload 6, 2) := by decide +kernel
theorem dX1_pullColumn_55 : decode cX1_pullColumn 55 = .ok (.iconst 1, 1) := by decide +kernel
theorem dX1_pullColumn_56 : decode cX1_pullColumn 56 = .ok (.iload_n 3, 1) := by decide +kernel
theorem dX1_pullColumn_57 : decode cX1_pullColumn 57 = .ok (.ishl, 1) := by decide +kernel
theorem dX1_pullColumn_58 : decode cX1_pullColumn 58 = .ok (.invokevirtual 125, 3) := by decide +kernel
theorem dX1_pullColumn_61 : decode cX1_pullColumn 61 = .ok (.iinc 6 1, 3) := by decide +kernel
theorem dX1_pullColumn_64 : decode cX1_pullColumn 64 = .ok (.goto (-43), 3) := by decide +kernel
theorem dX1_pullColumn_67 : decode cX1_pullColumn 67 = .ok (.return_, 1) := by decide +kernel
set_option maxRecDepth 20000 in
theorem ggX1_bareIn_X0_anyBut : GoodIn wsX1_bareIn wsX0_anyBut := goodIn_r _ [7, 8, 9, 10, 11, 6, 12, 13, 14, 15, 16, 17, 25, 26] (by decide +kernel) (by decide +kernel)
set_option maxRecDepth 20000 in
theorem gX1_bareIn_X0_anyBut : GoodIn wsX1_bareIn (wsV RX1 173 RX0 yX0_anyBut wsX0_anyBut) := goodIn_app (goodIn_of _ (by decide +kernel)) ggX1_bareIn_X0_anyBut
theorem dX1_bareIn_0 : decode cX1_bareIn 0 = .ok (.aload_n 0, 1) := by decide +kernel
theorem dX1_bareIn_1 : decode cX1_bareIn 1 = .ok (.getfield 24, 3) := by decide +kernel
theorem dX1_bareIn_4 : decode cX1_bareIn 4 = .ok (.iconst (-1), 1) := by decide +kernel
theorem dX1_bareIn_5 : decode cX1_bareIn 5 = .ok (.iload_n 1, 1) := by decide +kernel
theorem dX1_bareIn_6 : decode cX1_bareIn 6 = .ok (.invokevirtual 173, 3) := by decide +kernel
theorem dX1_bareIn_9 : decode cX1_bareIn 9 = .ok (.aload_n 0, 1) := by decide +kernel
theorem dX1_bareIn_10 : decode cX1_bareIn 10 = .ok (.getfield 33, 3) := by decide +kernel
theorem dX1_bareIn_13 : decode cX1_bareIn 13 = .ok (.iconst (-1), 1) := by decide +kernel
theorem dX1_bareIn_14 : decode cX1_bareIn 14 = .ok (.iload_n 1, 1) := by decide +kernel
theorem dX1_bareIn_15 : decode cX1_bareIn 15 = .ok (.invokevirtual 173, 3) := by decide +kernel
theorem dX1_bareIn_18 : decode cX1_bareIn 18 = .ok (.iconst (-1), 1) := by decide +kernel
theorem dX1_bareIn_19 : decode cX1_bareIn 19 = .ok (.ixor, 1) := by decide +kernel
theorem dX1_bareIn_20 : decode cX1_bareIn 20 = .ok (.iand, 1) := by decide +kernel
theorem dX1_bareIn_21 : decode cX1_bareIn 21 = .ok (.ireturn, 1) := by decide +kernel
set_option maxRecDepth 20000 in
theorem ggX1_wrongIn_X0_bits : GoodIn wsX1_wrongIn wsX0_bits := goodIn_r _ [7, 8, 9, 10, 11, 6, 12, 13, 21, 22] (by decide +kernel) (by decide +kernel)
set_option maxRecDepth 20000 in
theorem gX1_wrongIn_X0_bits : GoodIn wsX1_wrongIn (wsV RX1 157 RX0 yX0_bits wsX0_bits) := goodIn_app (goodIn_of _ (by decide +kernel)) ggX1_wrongIn_X0_bits
theorem dX1_wrongIn_0 : decode cX1_wrongIn 0 = .ok (.iconst 0, 1) := by decide +kernel
theorem dX1_wrongIn_1 : decode cX1_wrongIn 1 = .ok (.istore_n 2, 1) := by decide +kernel
theorem dX1_wrongIn_2 : decode cX1_wrongIn 2 = .ok (.iconst 0, 1) := by decide +kernel
theorem dX1_wrongIn_3 : decode cX1_wrongIn 3 = .ok (.istore_n 3, 1) := by decide +kernel
theorem dX1_wrongIn_4 : decode cX1_wrongIn 4 = .ok (.iload_n 3, 1) := by decide +kernel
theorem dX1_wrongIn_5 : decode cX1_wrongIn 5 = .ok (.iconst 4, 1) := by decide +kernel
theorem dX1_wrongIn_6 : decode cX1_wrongIn 6 = .ok (.if_icmp .ge 31, 3) := by decide +kernel
theorem dX1_wrongIn_9 : decode cX1_wrongIn 9 = .ok (.iload_n 2, 1) := by decide +kernel
theorem dX1_wrongIn_10 : decode cX1_wrongIn 10 = .ok (.aload_n 0, 1) := by decide +kernel
theorem dX1_wrongIn_11 : decode cX1_wrongIn 11 = .ok (.getfield 24, 3) := by decide +kernel
theorem dX1_wrongIn_14 : decode cX1_wrongIn 14 = .ok (.iload_n 3, 1) := by decide +kernel
theorem dX1_wrongIn_15 : decode cX1_wrongIn 15 = .ok (.iload_n 1, 1) := by decide +kernel
theorem dX1_wrongIn_16 : decode cX1_wrongIn 16 = .ok (.invokevirtual 157, 3) := by decide +kernel
theorem dX1_wrongIn_19 : decode cX1_wrongIn 19 = .ok (.aload_n 0, 1) := by decide +kernel
theorem dX1_wrongIn_20 : decode cX1_wrongIn 20 = .ok (.getfield 33, 3) := by decide +kernel
theorem dX1_wrongIn_23 : decode cX1_wrongIn 23 = .ok (.iload_n 3, 1) := by decide +kernel
theorem dX1_wrongIn_24 : decode cX1_wrongIn 24 = .ok (.iload_n 1, 1) := by decide +kernel
theorem dX1_wrongIn_25 : decode cX1_wrongIn 25 = .ok (.invokevirtual 157, 3) := by decide +kernel
theorem dX1_wrongIn_28 : decode cX1_wrongIn 28 = .ok (.ixor, 1) := by decide +kernel
theorem dX1_wrongIn_29 : decode cX1_wrongIn 29 = .ok (.ior, 1) := by decide +kernel
theorem dX1_wrongIn_30 : decode cX1_wrongIn 30 = .ok (.istore_n 2, 1) := by decide +kernel
theorem dX1_wrongIn_31 : decode cX1_wrongIn 31 = .ok (.iinc 3 1, 3) := by decide +kernel
theorem dX1_wrongIn_34 : decode cX1_wrongIn 34 = .ok (.goto (-30), 3) := by decide +kernel
theorem dX1_wrongIn_37 : decode cX1_wrongIn 37 = .ok (.iload_n 2, 1) := by decide +kernel
theorem dX1_wrongIn_38 : decode cX1_wrongIn 38 = .ok (.ireturn, 1) := by decide +kernel
set_option maxRecDepth 20000 in
theorem ggX1_colouredCells_X0_anyBut : GoodIn wsX1_colouredCells wsX0_anyBut := goodIn_r _ [6, 7, 8, 9, 10, 5, 11, 12, 13, 14, 15, 16, 31, 32] (by decide +kernel) (by decide +kernel)
set_option maxRecDepth 20000 in
theorem gX1_colouredCells_X0_anyBut : GoodIn wsX1_colouredCells (wsV RX1 173 RX0 yX0_anyBut wsX0_anyBut) := goodIn_app (goodIn_of _ (by decide +kernel)) ggX1_colouredCells_X0_anyBut
set_option maxRecDepth 20000 in
theorem ggX1_colouredCells_J6_bitCount_0f7a4 : GoodIn wsX1_colouredCells wsJ6_bitCount_0f7a4 := goodIn_r _ [20, 21, 22, 23] (by decide +kernel) (by decide +kernel)
set_option maxRecDepth 20000 in
theorem gX1_colouredCells_J6_bitCount_0f7a4 : GoodIn wsX1_colouredCells (va_wsS RX1 176 yJ6_bitCount_0f7a4 wsJ6_bitCount_0f7a4) := goodIn_app (goodIn_of _ (by decide +kernel)) ggX1_colouredCells_J6_bitCount_0f7a4
theorem dX1_colouredCells_0 : decode cX1_colouredCells 0 = .ok (.iconst 0, 1) := by decide +kernel
theorem dX1_colouredCells_1 : decode cX1_colouredCells 1 = .ok (.istore_n 1, 1) := by decide +kernel
theorem dX1_colouredCells_2 : decode cX1_colouredCells 2 = .ok (.iconst 0, 1) := by decide +kernel
theorem dX1_colouredCells_3 : decode cX1_colouredCells 3 = .ok (.istore_n 2, 1) := by decide +kernel
theorem dX1_colouredCells_4 : decode cX1_colouredCells 4 = .ok (.iload_n 2, 1) := by decide +kernel
theorem dX1_colouredCells_5 : decode cX1_colouredCells 5 = .ok (.bipush 16, 2) := by decide +kernel
theorem dX1_colouredCells_7 : decode cX1_colouredCells 7 = .ok (.if_icmp .ge 24, 3) := by decide +kernel
theorem dX1_colouredCells_10 : decode cX1_colouredCells 10 = .ok (.iload_n 1, 1) := by decide +kernel
theorem dX1_colouredCells_11 : decode cX1_colouredCells 11 = .ok (.aload_n 0, 1) := by decide +kernel
theorem dX1_colouredCells_12 : decode cX1_colouredCells 12 = .ok (.getfield 24, 3) := by decide +kernel
theorem dX1_colouredCells_15 : decode cX1_colouredCells 15 = .ok (.iconst (-1), 1) := by decide +kernel
theorem dX1_colouredCells_16 : decode cX1_colouredCells 16 = .ok (.iload_n 2, 1) := by decide +kernel
theorem dX1_colouredCells_17 : decode cX1_colouredCells 17 = .ok (.invokevirtual 173, 3) := by decide +kernel
theorem dX1_colouredCells_20 : decode cX1_colouredCells 20 = .ok (.invokestatic 176, 3) := by decide +kernel
theorem dX1_colouredCells_23 : decode cX1_colouredCells 23 = .ok (.iadd, 1) := by decide +kernel
theorem dX1_colouredCells_24 : decode cX1_colouredCells 24 = .ok (.istore_n 1, 1) := by decide +kernel
theorem dX1_colouredCells_25 : decode cX1_colouredCells 25 = .ok (.iinc 2 1, 3) := by decide +kernel
theorem dX1_colouredCells_28 : decode cX1_colouredCells 28 = .ok (.goto (-24), 3) := by decide +kernel
theorem dX1_colouredCells_31 : decode cX1_colouredCells 31 = .ok (.iload_n 1, 1) := by decide +kernel
theorem dX1_colouredCells_32 : decode cX1_colouredCells 32 = .ok (.ireturn, 1) := by decide +kernel
set_option maxRecDepth 20000 in
theorem ggX1_bareCells_X1_bareIn : GoodIn wsX1_bareCells wsX1_bareIn := goodIn_r _ [5, 6, 7, 8, 9, 10, 11, 12, 13, 14, 15, 16, 17, 18, 19, 20, 21, 22, 30, 31, 32, 33, 34, 35, 36, 37, 38] (by decide +kernel) (by decide +kernel)
set_option maxRecDepth 20000 in
theorem gX1_bareCells_X1_bareIn : GoodIn wsX1_bareCells (wsV RX1 181 RX1 yX1_bareIn wsX1_bareIn) := goodIn_app (goodIn_of _ (by decide +kernel)) ggX1_bareCells_X1_bareIn
set_option maxRecDepth 20000 in
theorem ggX1_bareCells_J6_bitCount_0f7a4 : GoodIn wsX1_bareCells wsJ6_bitCount_0f7a4 := goodIn_r _ [26, 27, 28, 29] (by decide +kernel) (by decide +kernel)
set_option maxRecDepth 20000 in
theorem gX1_bareCells_J6_bitCount_0f7a4 : GoodIn wsX1_bareCells (va_wsS RX1 176 yJ6_bitCount_0f7a4 wsJ6_bitCount_0f7a4) := goodIn_app (goodIn_of _ (by decide +kernel)) ggX1_bareCells_J6_bitCount_0f7a4
theorem dX1_bareCells_0 : decode cX1_bareCells 0 = .ok (.iconst 0, 1) := by decide +kernel
theorem dX1_bareCells_1 : decode cX1_bareCells 1 = .ok (.istore_n 1, 1) := by decide +kernel
theorem dX1_bareCells_2 : decode cX1_bareCells 2 = .ok (.iconst 0, 1) := by decide +kernel
theorem dX1_bareCells_3 : decode cX1_bareCells 3 = .ok (.istore_n 2, 1) := by decide +kernel
theorem dX1_bareCells_4 : decode cX1_bareCells 4 = .ok (.iload_n 2, 1) := by decide +kernel
theorem dX1_bareCells_5 : decode cX1_bareCells 5 = .ok (.bipush 16, 2) := by decide +kernel
theorem dX1_bareCells_7 : decode cX1_bareCells 7 = .ok (.if_icmp .ge 20, 3) := by decide +kernel
theorem dX1_bareCells_10 : decode cX1_bareCells 10 = .ok (.iload_n 1, 1) := by decide +kernel
theorem dX1_bareCells_11 : decode cX1_bareCells 11 = .ok (.aload_n 0, 1) := by decide +kernel
theorem dX1_bareCells_12 : decode cX1_bareCells 12 = .ok (.iload_n 2, 1) := by decide +kernel
theorem dX1_bareCells_13 : decode cX1_bareCells 13 = .ok (.invokevirtual 181, 3) := by decide +kernel
theorem dX1_bareCells_16 : decode cX1_bareCells 16 = .ok (.invokestatic 176, 3) := by decide +kernel
theorem dX1_bareCells_19 : decode cX1_bareCells 19 = .ok (.iadd, 1) := by decide +kernel
theorem dX1_bareCells_20 : decode cX1_bareCells 20 = .ok (.istore_n 1, 1) := by decide +kernel
theorem dX1_bareCells_21 : decode cX1_bareCells 21 = .ok (.iinc 2 1, 3) := by decide +kernel
theorem dX1_bareCells_24 : decode cX1_bareCells 24 = .ok (.goto (-20), 3) := by decide +kernel
theorem dX1_bareCells_27 : decode cX1_bareCells 27 = .ok (.iload_n 1, 1) := by decide +kernel
theorem dX1_bareCells_28 : decode cX1_bareCells 28 = .ok (.ireturn, 1) := by decide +kernel
set_option maxRecDepth 20000 in
theorem ggX1_wrongCells_X1_wrongIn : GoodIn wsX1_wrongCells wsX1_wrongIn := goodIn_r _ [5, 6, 7, 8, 9, 10, 11, 12, 13, 14, 15, 16, 17, 18, 26, 27, 28, 29, 30, 31, 32, 33, 34] (by decide +kernel) (by decide +kernel)
set_option maxRecDepth 20000 in
theorem gX1_wrongCells_X1_wrongIn : GoodIn wsX1_wrongCells (wsV RX1 184 RX1 yX1_wrongIn wsX1_wrongIn) := goodIn_app (goodIn_of _ (by decide +kernel)) ggX1_wrongCells_X1_wrongIn
set_option maxRecDepth 20000 in
theorem ggX1_wrongCells_J6_bitCount_0f7a4 : GoodIn wsX1_wrongCells wsJ6_bitCount_0f7a4 := goodIn_r _ [22, 23, 24, 25] (by decide +kernel) (by decide +kernel)
set_option maxRecDepth 20000 in
theorem gX1_wrongCells_J6_bitCount_0f7a4 : GoodIn wsX1_wrongCells (va_wsS RX1 176 yJ6_bitCount_0f7a4 wsJ6_bitCount_0f7a4) := goodIn_app (goodIn_of _ (by decide +kernel)) ggX1_wrongCells_J6_bitCount_0f7a4
theorem dX1_wrongCells_0 : decode cX1_wrongCells 0 = .ok (.iconst 0, 1) := by decide +kernel
theorem dX1_wrongCells_1 : decode cX1_wrongCells 1 = .ok (.istore_n 1, 1) := by decide +kernel
theorem dX1_wrongCells_2 : decode cX1_wrongCells 2 = .ok (.iconst 0, 1) := by decide +kernel
theorem dX1_wrongCells_3 : decode cX1_wrongCells 3 = .ok (.istore_n 2, 1) := by decide +kernel
theorem dX1_wrongCells_4 : decode cX1_wrongCells 4 = .ok (.iload_n 2, 1) := by decide +kernel
theorem dX1_wrongCells_5 : decode cX1_wrongCells 5 = .ok (.bipush 16, 2) := by decide +kernel
theorem dX1_wrongCells_7 : decode cX1_wrongCells 7 = .ok (.if_icmp .ge 20, 3) := by decide +kernel
theorem dX1_wrongCells_10 : decode cX1_wrongCells 10 = .ok (.iload_n 1, 1) := by decide +kernel
theorem dX1_wrongCells_11 : decode cX1_wrongCells 11 = .ok (.aload_n 0, 1) := by decide +kernel
theorem dX1_wrongCells_12 : decode cX1_wrongCells 12 = .ok (.iload_n 2, 1) := by decide +kernel
theorem dX1_wrongCells_13 : decode cX1_wrongCells 13 = .ok (.invokevirtual 184, 3) := by decide +kernel
theorem dX1_wrongCells_16 : decode cX1_wrongCells 16 = .ok (.invokestatic 176, 3) := by decide +kernel
theorem dX1_wrongCells_19 : decode cX1_wrongCells 19 = .ok (.iadd, 1) := by decide +kernel
theorem dX1_wrongCells_20 : decode cX1_wrongCells 20 = .ok (.istore_n 1, 1) := by decide +kernel
theorem dX1_wrongCells_21 : decode cX1_wrongCells 21 = .ok (.iinc 2 1, 3) := by decide +kernel
theorem dX1_wrongCells_24 : decode cX1_wrongCells 24 = .ok (.goto (-20), 3) := by decide +kernel
theorem dX1_wrongCells_27 : decode cX1_wrongCells 27 = .ok (.iload_n 1, 1) := by decide +kernel
theorem dX1_wrongCells_28 : decode cX1_wrongCells 28 = .ok (.ireturn, 1) := by decide +kernel
set_option maxRecDepth 20000 in
theorem ggX1_crowdedCells_X0_through : GoodIn wsX1_crowdedCells wsX0_through := goodIn_r _ [6, 7, 8, 9, 10, 5, 11, 12, 13, 14, 15, 16, 17, 18, 19, 20, 21, 22, 23, 38, 39] (by decide +kernel) (by decide +kernel)
set_option maxRecDepth 20000 in
theorem gX1_crowdedCells_X0_through : GoodIn wsX1_crowdedCells (wsV RX1 187 RX0 yX0_through wsX0_through) := goodIn_app (goodIn_of _ (by decide +kernel)) ggX1_crowdedCells_X0_through
set_option maxRecDepth 20000 in
theorem ggX1_crowdedCells_J6_bitCount_0f7a4 : GoodIn wsX1_crowdedCells wsJ6_bitCount_0f7a4 := goodIn_r _ [27, 28, 29, 30] (by decide +kernel) (by decide +kernel)
set_option maxRecDepth 20000 in
theorem gX1_crowdedCells_J6_bitCount_0f7a4 : GoodIn wsX1_crowdedCells (va_wsS RX1 176 yJ6_bitCount_0f7a4 wsJ6_bitCount_0f7a4) := goodIn_app (goodIn_of _ (by decide +kernel)) ggX1_crowdedCells_J6_bitCount_0f7a4
theorem dX1_crowdedCells_0 : decode cX1_crowdedCells 0 = .ok (.iconst 0, 1) := by decide +kernel
theorem dX1_crowdedCells_1 : decode cX1_crowdedCells 1 = .ok (.istore_n 1, 1) := by decide +kernel
theorem dX1_crowdedCells_2 : decode cX1_crowdedCells 2 = .ok (.iconst 0, 1) := by decide +kernel
theorem dX1_crowdedCells_3 : decode cX1_crowdedCells 3 = .ok (.istore_n 2, 1) := by decide +kernel
theorem dX1_crowdedCells_4 : decode cX1_crowdedCells 4 = .ok (.iload_n 2, 1) := by decide +kernel
theorem dX1_crowdedCells_5 : decode cX1_crowdedCells 5 = .ok (.bipush 16, 2) := by decide +kernel
theorem dX1_crowdedCells_7 : decode cX1_crowdedCells 7 = .ok (.if_icmp .ge 42, 3) := by decide +kernel
theorem dX1_crowdedCells_10 : decode cX1_crowdedCells 10 = .ok (.iconst 0, 1) := by decide +kernel
theorem dX1_crowdedCells_11 : decode cX1_crowdedCells 11 = .ok (.istore_n 3, 1) := by decide +kernel
theorem dX1_crowdedCells_12 : decode cX1_crowdedCells 12 = .ok (.iload_n 3, 1) := by decide +kernel
theorem dX1_crowdedCells_13 : decode cX1_crowdedCells 13 = .ok (.bipush 16, 2) := by decide +kernel
theorem dX1_crowdedCells_15 : decode cX1_crowdedCells 15 = .ok (.if_icmp .ge 28, 3) := by decide +kernel
theorem dX1_crowdedCells_18 : decode cX1_crowdedCells 18 = .ok (.aload_n 0, 1) := by decide +kernel
theorem dX1_crowdedCells_19 : decode cX1_crowdedCells 19 = .ok (.getfield 33, 3) := by decide +kernel
theorem dX1_crowdedCells_22 : decode cX1_crowdedCells 22 = .ok (.iload_n 2, 1) := by decide +kernel
theorem dX1_crowdedCells_23 : decode cX1_crowdedCells 23 = .ok (.iload_n 3, 1) := by decide +kernel
theorem dX1_crowdedCells_24 : decode cX1_crowdedCells 24 = .ok (.invokevirtual 187, 3) := by decide +kernel
theorem dX1_crowdedCells_27 : decode cX1_crowdedCells 27 = .ok (.invokestatic 176, 3) := by decide +kernel
theorem dX1_crowdedCells_30 : decode cX1_crowdedCells 30 = .ok (.iconst 2, 1) := by decide +kernel
theorem dX1_crowdedCells_31 : decode cX1_crowdedCells 31 = .ok (.if_icmp .le 6, 3) := by decide +kernel
theorem dX1_crowdedCells_34 : decode cX1_crowdedCells 34 = .ok (.iinc 1 1, 3) := by decide +kernel
theorem dX1_crowdedCells_37 : decode cX1_crowdedCells 37 = .ok (.iinc 3 1, 3) := by decide +kernel
theorem dX1_crowdedCells_40 : decode cX1_crowdedCells 40 = .ok (.goto (-28), 3) := by decide +kernel
theorem dX1_crowdedCells_43 : decode cX1_crowdedCells 43 = .ok (.iinc 2 1, 3) := by decide +kernel
theorem dX1_crowdedCells_46 : decode cX1_crowdedCells 46 = .ok (.goto (-42), 3) := by decide +kernel
theorem dX1_crowdedCells_49 : decode cX1_crowdedCells 49 = .ok (.iload_n 1, 1) := by decide +kernel
theorem dX1_crowdedCells_50 : decode cX1_crowdedCells 50 = .ok (.ireturn, 1) := by decide +kernel
set_option maxRecDepth 20000 in
theorem ggX1_bareCellsIf_X0_bits : GoodIn wsX1_bareCellsIf wsX0_bits := goodIn_r _ [7, 8, 9, 10, 11, 6, 12, 13, 33, 34] (by decide +kernel) (by decide +kernel)
set_option maxRecDepth 20000 in
theorem gX1_bareCellsIf_X0_bits : GoodIn wsX1_bareCellsIf (wsV RX1 157 RX0 yX0_bits wsX0_bits) := goodIn_app (goodIn_of _ (by decide +kernel)) ggX1_bareCellsIf_X0_bits
set_option maxRecDepth 20000 in
theorem ggX1_bareCellsIf_X0_anyBut : GoodIn wsX1_bareCellsIf wsX0_anyBut := goodIn_r _ [17, 13, 18, 4, 5, 6, 7, 8, 9, 10, 11, 12, 33, 34] (by decide +kernel) (by decide +kernel)
set_option maxRecDepth 20000 in
theorem gX1_bareCellsIf_X0_anyBut : GoodIn wsX1_bareCellsIf (wsV RX1 173 RX0 yX0_anyBut wsX0_anyBut) := goodIn_app (goodIn_of _ (by decide +kernel)) ggX1_bareCellsIf_X0_anyBut
set_option maxRecDepth 20000 in
theorem ggX1_bareCellsIf_J6_bitCount_0f7a4 : GoodIn wsX1_bareCellsIf wsJ6_bitCount_0f7a4 := goodIn_r _ [22, 23, 24, 25] (by decide +kernel) (by decide +kernel)
set_option maxRecDepth 20000 in
theorem gX1_bareCellsIf_J6_bitCount_0f7a4 : GoodIn wsX1_bareCellsIf (va_wsS RX1 176 yJ6_bitCount_0f7a4 wsJ6_bitCount_0f7a4) := goodIn_app (goodIn_of _ (by decide +kernel)) ggX1_bareCellsIf_J6_bitCount_0f7a4
theorem dX1_bareCellsIf_0 : decode cX1_bareCellsIf 0 = .ok (.iconst 0, 1) := by decide +kernel
theorem dX1_bareCellsIf_1 : decode cX1_bareCellsIf 1 = .ok (.istore 4, 2) := by decide +kernel
theorem dX1_bareCellsIf_3 : decode cX1_bareCellsIf 3 = .ok (.iconst 0, 1) := by decide +kernel
theorem dX1_bareCellsIf_4 : decode cX1_bareCellsIf 4 = .ok (.istore 5, 2) := by decide +kernel
theorem dX1_bareCellsIf_6 : decode cX1_bareCellsIf 6 = .ok (.iload 5, 2) := by decide +kernel
theorem dX1_bareCellsIf_8 : decode cX1_bareCellsIf 8 = .ok (.bipush 16, 2) := by decide +kernel
theorem dX1_bareCellsIf_10 : decode cX1_bareCellsIf 10 = .ok (.if_icmp .ge 77, 3) := by decide +kernel
theorem dX1_bareCellsIf_13 : decode cX1_bareCellsIf 13 = .ok (.aload_n 0, 1) := by decide +kernel
theorem dX1_bareCellsIf_14 : decode cX1_bareCellsIf 14 = .ok (.getfield 30, 3) := by decide +kernel
theorem dX1_bareCellsIf_17 : decode cX1_bareCellsIf 17 = .ok (.iload_n 1, 1) := by decide +kernel
theorem dX1_bareCellsIf_18 : decode cX1_bareCellsIf 18 = .ok (.iload 5, 2) := by decide +kernel
theorem dX1_bareCellsIf_20 : decode cX1_bareCellsIf 20 = .ok (.iload_n 2, 1) := by decide +kernel
theorem dX1_bareCellsIf_21 : decode cX1_bareCellsIf 21 = .ok (.isub, 1) := by decide +kernel
theorem dX1_bareCellsIf_22 : decode cX1_bareCellsIf 22 = .ok (.invokevirtual 157, 3) := by decide +kernel
theorem dX1_bareCellsIf_25 : decode cX1_bareCellsIf 25 = .ok (.istore 6, 2) := by decide +kernel
theorem dX1_bareCellsIf_27 : decode cX1_bareCellsIf 27 = .ok (.iload_n 3, 1) := by decide +kernel
theorem dX1_bareCellsIf_28 : decode cX1_bareCellsIf 28 = .ok (.ifCond .lt 10, 3) := by decide +kernel
theorem dX1_bareCellsIf_31 : decode cX1_bareCellsIf 31 = .ok (.iload 6, 2) := by decide +kernel
theorem dX1_bareCellsIf_33 : decode cX1_bareCellsIf 33 = .ok (.iload_n 3, 1) := by decide +kernel
theorem dX1_bareCellsIf_34 : decode cX1_bareCellsIf 34 = .ok (.ishl, 1) := by decide +kernel
theorem dX1_bareCellsIf_35 : decode cX1_bareCellsIf 35 = .ok (.goto 8, 3) := by decide +kernel
theorem dX1_bareCellsIf_38 : decode cX1_bareCellsIf 38 = .ok (.iload 6, 2) := by decide +kernel
theorem dX1_bareCellsIf_40 : decode cX1_bareCellsIf 40 = .ok (.iload_n 3, 1) := by decide +kernel
theorem dX1_bareCellsIf_41 : decode cX1_bareCellsIf 41 = .ok (.ineg, 1) := by decide +kernel
theorem dX1_bareCellsIf_42 : decode cX1_bareCellsIf 42 = .ok (.iushr, 1) := by decide +kernel
theorem dX1_bareCellsIf_43 : decode cX1_bareCellsIf 43 = .ok (.istore 7, 2) := by decide +kernel
theorem dX1_bareCellsIf_45 : decode cX1_bareCellsIf 45 = .ok (.iload 4, 2) := by decide +kernel
theorem dX1_bareCellsIf_47 : decode cX1_bareCellsIf 47 = .ok (.aload_n 0, 1) := by decide +kernel
theorem dX1_bareCellsIf_48 : decode cX1_bareCellsIf 48 = .ok (.getfield 24, 3) := by decide +kernel
theorem dX1_bareCellsIf_51 : decode cX1_bareCellsIf 51 = .ok (.iconst (-1), 1) := by decide +kernel
theorem dX1_bareCellsIf_52 : decode cX1_bareCellsIf 52 = .ok (.iload 5, 2) := by decide +kernel
theorem dX1_bareCellsIf_54 : decode cX1_bareCellsIf 54 = .ok (.invokevirtual 173, 3) := by decide +kernel
theorem dX1_bareCellsIf_57 : decode cX1_bareCellsIf 57 = .ok (.aload_n 0, 1) := by decide +kernel
theorem dX1_bareCellsIf_58 : decode cX1_bareCellsIf 58 = .ok (.getfield 30, 3) := by decide +kernel
theorem dX1_bareCellsIf_61 : decode cX1_bareCellsIf 61 = .ok (.iload_n 1, 1) := by decide +kernel
theorem dX1_bareCellsIf_62 : decode cX1_bareCellsIf 62 = .ok (.iload 5, 2) := by decide +kernel
theorem dX1_bareCellsIf_64 : decode cX1_bareCellsIf 64 = .ok (.invokevirtual 173, 3) := by decide +kernel
theorem dX1_bareCellsIf_67 : decode cX1_bareCellsIf 67 = .ok (.iconst (-1), 1) := by decide +kernel
theorem dX1_bareCellsIf_68 : decode cX1_bareCellsIf 68 = .ok (.ixor, 1) := by decide +kernel
theorem dX1_bareCellsIf_69 : decode cX1_bareCellsIf 69 = .ok (.iand, 1) := by decide +kernel
theorem dX1_bareCellsIf_70 : decode cX1_bareCellsIf 70 = .ok (.iload 7, 2) := by decide +kernel
theorem dX1_bareCellsIf_72 : decode cX1_bareCellsIf 72 = .ok (.iconst (-1), 1) := by decide +kernel
theorem dX1_bareCellsIf_73 : decode cX1_bareCellsIf 73 = .ok (.ixor, 1) := by decide +kernel
theorem dX1_bareCellsIf_74 : decode cX1_bareCellsIf 74 = .ok (.iand, 1) := by decide +kernel
theorem dX1_bareCellsIf_75 : decode cX1_bareCellsIf 75 = .ok (.invokestatic 176, 3) := by decide +kernel
theorem dX1_bareCellsIf_78 : decode cX1_bareCellsIf 78 = .ok (.iadd, 1) := by decide +kernel
theorem dX1_bareCellsIf_79 : decode cX1_bareCellsIf 79 = .ok (.istore 4, 2) := by decide +kernel
theorem dX1_bareCellsIf_81 : decode cX1_bareCellsIf 81 = .ok (.iinc 5 1, 3) := by decide +kernel
theorem dX1_bareCellsIf_84 : decode cX1_bareCellsIf 84 = .ok (.goto (-78), 3) := by decide +kernel
theorem dX1_bareCellsIf_87 : decode cX1_bareCellsIf 87 = .ok (.iload 4, 2) := by decide +kernel
theorem dX1_bareCellsIf_89 : decode cX1_bareCellsIf 89 = .ok (.ireturn, 1) := by decide +kernel
set_option maxRecDepth 20000 in
theorem ggX1_isSafe_X0_surrounded : GoodIn wsX1_isSafe wsX0_surrounded := goodIn_r _ [7, 8, 9, 10, 6, 11, 12, 13, 14, 15, 16, 17, 29, 30] (by decide +kernel) (by decide +kernel)
set_option maxRecDepth 20000 in
theorem gX1_isSafe_X0_surrounded : GoodIn wsX1_isSafe (wsV RX1 190 RX0 yX0_surrounded wsX0_surrounded) := goodIn_app (goodIn_of _ (by decide +kernel)) ggX1_isSafe_X0_surrounded
set_option maxRecDepth 20000 in
theorem ggX1_isSafe_X0_anyBut : GoodIn wsX1_isSafe wsX0_anyBut := goodIn_r _ [21, 17, 8, 9, 10, 6, 11, 12, 13, 14, 15, 16, 29, 30] (by decide +kernel) (by decide +kernel)
set_option maxRecDepth 20000 in
theorem gX1_isSafe_X0_anyBut : GoodIn wsX1_isSafe (wsV RX1 173 RX0 yX0_anyBut wsX0_anyBut) := goodIn_app (goodIn_of _ (by decide +kernel)) ggX1_isSafe_X0_anyBut
theorem dX1_isSafe_0 : decode cX1_isSafe 0 = .ok (.iconst 0, 1) := by decide +kernel
theorem dX1_isSafe_1 : decode cX1_isSafe 1 = .ok (.istore_n 2, 1) := by decide +kernel
theorem dX1_isSafe_2 : decode cX1_isSafe 2 = .ok (.iload_n 2, 1) := by decide +kernel
theorem dX1_isSafe_3 : decode cX1_isSafe 3 = .ok (.bipush 16, 2) := by decide +kernel
theorem dX1_isSafe_5 : decode cX1_isSafe 5 = .ok (.if_icmp .ge 72, 3) := by decide +kernel
theorem dX1_isSafe_8 : decode cX1_isSafe 8 = .ok (.aload_n 0, 1) := by decide +kernel
theorem dX1_isSafe_9 : decode cX1_isSafe 9 = .ok (.getfield 27, 3) := by decide +kernel
theorem dX1_isSafe_12 : decode cX1_isSafe 12 = .ok (.iconst 0, 1) := by decide +kernel
theorem dX1_isSafe_13 : decode cX1_isSafe 13 = .ok (.iload_n 2, 1) := by decide +kernel
theorem dX1_isSafe_14 : decode cX1_isSafe 14 = .ok (.iload_n 1, 1) := by decide +kernel
theorem dX1_isSafe_15 : decode cX1_isSafe 15 = .ok (.invokevirtual 190, 3) := by decide +kernel
theorem dX1_isSafe_18 : decode cX1_isSafe 18 = .ok (.istore_n 3, 1) := by decide +kernel
theorem dX1_isSafe_19 : decode cX1_isSafe 19 = .ok (.iconst 0, 1) := by decide +kernel
theorem dX1_isSafe_20 : decode cX1_isSafe 20 = .ok (.istore 4, 2) := by decide +kernel
theorem dX1_isSafe_22 : decode cX1_isSafe 22 = .ok (.iload_n 3, 1) := by decide +kernel
theorem dX1_isSafe_23 : decode cX1_isSafe 23 = .ok (.ifCond .eq 48, 3) := by decide +kernel
theorem dX1_isSafe_26 : decode cX1_isSafe 26 = .ok (.iload 4, 2) := by decide +kernel
theorem dX1_isSafe_28 : decode cX1_isSafe 28 = .ok (.iconst 4, 1) := by decide +kernel
theorem dX1_isSafe_29 : decode cX1_isSafe 29 = .ok (.if_icmp .ge 42, 3) := by decide +kernel
theorem dX1_isSafe_32 : decode cX1_isSafe 32 = .ok (.iload_n 3, 1) := by decide +kernel
theorem dX1_isSafe_33 : decode cX1_isSafe 33 = .ok (.aload_n 0, 1) := by decide +kernel
theorem dX1_isSafe_34 : decode cX1_isSafe 34 = .ok (.getfield 30, 3) := by decide +kernel
theorem dX1_isSafe_37 : decode cX1_isSafe 37 = .ok (.iload 4, 2) := by decide +kernel
theorem dX1_isSafe_39 : decode cX1_isSafe 39 = .ok (.iload_n 2, 1) := by decide +kernel
theorem dX1_isSafe_40 : decode cX1_isSafe 40 = .ok (.invokevirtual 173, 3) := by decide +kernel
theorem dX1_isSafe_43 : decode cX1_isSafe 43 = .ok (.iconst (-1), 1) := by decide +kernel
theorem dX1_isSafe_44 : decode cX1_isSafe 44 = .ok (.ixor, 1) := by decide +kernel
theorem dX1_isSafe_45 : decode cX1_isSafe 45 = .ok (.iand, 1) := by decide +kernel
theorem dX1_isSafe_46 : decode cX1_isSafe 46 = .ok (.aload_n 0, 1) := by decide +kernel
theorem dX1_isSafe_47 : decode cX1_isSafe 47 = .ok (.getfield 30, 3) := by decide +kernel
theorem dX1_isSafe_50 : decode cX1_isSafe 50 = .ok (.iload 4, 2) := by decide +kernel
theorem dX1_isSafe_52 : decode cX1_isSafe 52 = .ok (.iload_n 2, 1) := by decide +kernel
theorem dX1_isSafe_53 : decode cX1_isSafe 53 = .ok (.iload_n 1, 1) := by decide +kernel
theorem dX1_isSafe_54 : decode cX1_isSafe 54 = .ok (.invokevirtual 190, 3) := by decide +kernel
theorem dX1_isSafe_57 : decode cX1_isSafe 57 = .ok (.iconst (-1), 1) := by decide +kernel
theorem dX1_isSafe_58 : decode cX1_isSafe 58 = .ok (.ixor, 1) := by decide +kernel
theorem dX1_isSafe_59 : decode cX1_isSafe 59 = .ok (.iand, 1) := by decide +kernel
theorem dX1_isSafe_60 : decode cX1_isSafe 60 = .ok (.ifCond .eq 5, 3) := by decide +kernel
theorem dX1_isSafe_63 : decode cX1_isSafe 63 = .ok (.iconst 0, 1) := by decide +kernel
theorem dX1_isSafe_64 : decode cX1_isSafe 64 = .ok (.ireturn, 1) := by decide +kernel
theorem dX1_isSafe_65 : decode cX1_isSafe 65 = .ok (.iinc 4 1, 3) := by decide +kernel
theorem dX1_isSafe_68 : decode cX1_isSafe 68 = .ok (.goto (-46), 3) := by decide +kernel
theorem dX1_isSafe_71 : decode cX1_isSafe 71 = .ok (.iinc 2 1, 3) := by decide +kernel
theorem dX1_isSafe_74 : decode cX1_isSafe 74 = .ok (.goto (-72), 3) := by decide +kernel
theorem dX1_isSafe_77 : decode cX1_isSafe 77 = .ok (.iconst 1, 1) := by decide +kernel
theorem dX1_isSafe_78 : decode cX1_isSafe 78 = .ok (.ireturn, 1) := by decide +kernel
theorem dX2_init_0 : decode cX2_init 0 = .ok (.aload_n 0, 1) := by decide +kernel
theorem dX2_init_1 : decode cX2_init 1 = .ok (.invokespecial 3, 3) := by decide +kernel
theorem dX2_init_4 : decode cX2_init 4 = .ok (.aload_n 0, 1) := by decide +kernel
theorem dX2_init_5 : decode cX2_init 5 = .ok (.iload_n 1, 1) := by decide +kernel
theorem dX2_init_6 : decode cX2_init 6 = .ok (.putfield 9, 3) := by decide +kernel
theorem dX2_init_9 : decode cX2_init 9 = .ok (.aload_n 0, 1) := by decide +kernel
theorem dX2_init_10 : decode cX2_init 10 = .ok (.iload_n 2, 1) := by decide +kernel
theorem dX2_init_11 : decode cX2_init 11 = .ok (.putfield 15, 3) := by decide +kernel
theorem dX2_init_14 : decode cX2_init 14 = .ok (.aload_n 0, 1) := by decide +kernel
theorem dX2_init_15 : decode cX2_init 15 = .ok (.iload_n 3, 1) := by decide +kernel
theorem dX2_init_16 : decode cX2_init 16 = .ok (.putfield 18, 3) := by decide +kernel
theorem dX2_init_19 : decode cX2_init 19 = .ok (.aload_n 0, 1) := by decide +kernel
theorem dX2_init_20 : decode cX2_init 20 = .ok (.iload 4, 2) := by decide +kernel
theorem dX2_init_22 : decode cX2_init 22 = .ok (.putfield 21, 3) := by decide +kernel
theorem dX2_init_25 : decode cX2_init 25 = .ok (.aload_n 0, 1) := by decide +kernel
theorem dX2_init_26 : decode cX2_init 26 = .ok (.iload 5, 2) := by decide +kernel
theorem dX2_init_28 : decode cX2_init 28 = .ok (.putfield 24, 3) := by decide +kernel
theorem dX2_init_31 : decode cX2_init 31 = .ok (.aload_n 0, 1) := by decide +kernel
theorem dX2_init_32 : decode cX2_init 32 = .ok (.iload 6, 2) := by decide +kernel
theorem dX2_init_34 : decode cX2_init 34 = .ok (.putfield 27, 3) := by decide +kernel
theorem dX2_init_37 : decode cX2_init 37 = .ok (.aload_n 0, 1) := by decide +kernel
theorem dX2_init_38 : decode cX2_init 38 = .ok (.iload 7, 2) := by decide +kernel
theorem dX2_init_40 : decode cX2_init 40 = .ok (.putfield 30, 3) := by decide +kernel
theorem dX2_init_43 : decode cX2_init 43 = .ok (.return_, 1) := by decide +kernel
set_option maxRecDepth 20000 in
theorem ggX2_movedTo_X2_init : GoodIn wsX2_movedTo wsX2_init := goodIn_r _ [11, 12, 13, 14, 4, 15, 16, 5, 6, 7, 8, 17, 18, 19, 20, 21, 22, 23] (by decide +kernel) (by decide +kernel)
set_option maxRecDepth 20000 in
theorem gX2_movedTo_X2_init : GoodIn wsX2_movedTo (wsX2_init) := ggX2_movedTo_X2_init
theorem dX2_movedTo_0 : decode cX2_movedTo 0 = .ok (.new 10, 3) := by decide +kernel
theorem dX2_movedTo_3 : decode cX2_movedTo 3 = .ok (.dup, 1) := by decide +kernel
theorem dX2_movedTo_4 : decode cX2_movedTo 4 = .ok (.aload_n 0, 1) := by decide +kernel
theorem dX2_movedTo_5 : decode cX2_movedTo 5 = .ok (.getfield 9, 3) := by decide +kernel
theorem dX2_movedTo_8 : decode cX2_movedTo 8 = .ok (.iload_n 1, 1) := by decide +kernel
theorem dX2_movedTo_9 : decode cX2_movedTo 9 = .ok (.iload_n 2, 1) := by decide +kernel
theorem dX2_movedTo_10 : decode cX2_movedTo 10 = .ok (.aload_n 0, 1) := by decide +kernel
theorem dX2_movedTo_11 : decode cX2_movedTo 11 = .ok (.getfield 21, 3) := by decide +kernel
theorem dX2_movedTo_14 : decode cX2_movedTo 14 = .ok (.aload_n 0, 1) := by decide +kernel
theorem dX2_movedTo_15 : decode cX2_movedTo 15 = .ok (.getfield 24, 3) := by decide +kernel
theorem dX2_movedTo_18 : decode cX2_movedTo 18 = .ok (.aload_n 0, 1) := by decide +kernel
theorem dX2_movedTo_19 : decode cX2_movedTo 19 = .ok (.getfield 27, 3) := by decide +kernel
theorem dX2_movedTo_22 : decode cX2_movedTo 22 = .ok (.aload_n 0, 1) := by decide +kernel
theorem dX2_movedTo_23 : decode cX2_movedTo 23 = .ok (.getfield 30, 3) := by decide +kernel
theorem dX2_movedTo_26 : decode cX2_movedTo 26 = .ok (.invokespecial 34, 3) := by decide +kernel
theorem dX2_movedTo_29 : decode cX2_movedTo 29 = .ok (.areturn, 1) := by decide +kernel
set_option maxRecDepth 20000 in
theorem ggX2_painted_X2_init : GoodIn wsX2_painted wsX2_init := goodIn_r _ [11, 12, 13, 14, 4, 5, 6, 7, 8, 15, 16, 17, 18, 19, 20, 21, 22, 23] (by decide +kernel) (by decide +kernel)
set_option maxRecDepth 20000 in
theorem gX2_painted_X2_init : GoodIn wsX2_painted (wsX2_init) := ggX2_painted_X2_init
theorem dX2_painted_0 : decode cX2_painted 0 = .ok (.new 10, 3) := by decide +kernel
theorem dX2_painted_3 : decode cX2_painted 3 = .ok (.dup, 1) := by decide +kernel
theorem dX2_painted_4 : decode cX2_painted 4 = .ok (.aload_n 0, 1) := by decide +kernel
theorem dX2_painted_5 : decode cX2_painted 5 = .ok (.getfield 9, 3) := by decide +kernel
theorem dX2_painted_8 : decode cX2_painted 8 = .ok (.aload_n 0, 1) := by decide +kernel
theorem dX2_painted_9 : decode cX2_painted 9 = .ok (.getfield 15, 3) := by decide +kernel
theorem dX2_painted_12 : decode cX2_painted 12 = .ok (.aload_n 0, 1) := by decide +kernel
theorem dX2_painted_13 : decode cX2_painted 13 = .ok (.getfield 18, 3) := by decide +kernel
theorem dX2_painted_16 : decode cX2_painted 16 = .ok (.aload_n 0, 1) := by decide +kernel
theorem dX2_painted_17 : decode cX2_painted 17 = .ok (.getfield 21, 3) := by decide +kernel
theorem dX2_painted_20 : decode cX2_painted 20 = .ok (.aload_n 0, 1) := by decide +kernel
theorem dX2_painted_21 : decode cX2_painted 21 = .ok (.getfield 24, 3) := by decide +kernel
theorem dX2_painted_24 : decode cX2_painted 24 = .ok (.iload_n 1, 1) := by decide +kernel
theorem dX2_painted_25 : decode cX2_painted 25 = .ok (.iload_n 2, 1) := by decide +kernel
theorem dX2_painted_26 : decode cX2_painted 26 = .ok (.invokespecial 34, 3) := by decide +kernel
theorem dX2_painted_29 : decode cX2_painted 29 = .ok (.areturn, 1) := by decide +kernel
set_option maxRecDepth 20000 in
theorem ggX2_covers_X4_isWithin : GoodIn wsX2_covers wsX4_isWithin := goodIn_r _ [8] (by decide +kernel) (by decide +kernel)
set_option maxRecDepth 20000 in
theorem gX2_covers_X4_isWithin_n37 : GoodIn wsX2_covers (wsX4_isWithin) := ggX2_covers_X4_isWithin
set_option maxRecDepth 20000 in
theorem ggX2_covers_X2_isInOval : GoodIn wsX2_covers wsX2_isInOval := goodIn_r _ [13, 3, 4, 14, 15, 16, 17, 18, 19, 20] (by decide +kernel) (by decide +kernel)
set_option maxRecDepth 20000 in
theorem gX2_covers_X2_isInOval : GoodIn wsX2_covers (wsV RX2 41 RX2 yX2_isInOval wsX2_isInOval) := goodIn_app (goodIn_of _ (by decide +kernel)) ggX2_covers_X2_isInOval
theorem dX2_covers_0 : decode cX2_covers 0 = .ok (.iload_n 1, 1) := by decide +kernel
theorem dX2_covers_1 : decode cX2_covers 1 = .ok (.aload_n 0, 1) := by decide +kernel
theorem dX2_covers_2 : decode cX2_covers 2 = .ok (.getfield 15, 3) := by decide +kernel
theorem dX2_covers_5 : decode cX2_covers 5 = .ok (.isub, 1) := by decide +kernel
theorem dX2_covers_6 : decode cX2_covers 6 = .ok (.istore_n 3, 1) := by decide +kernel
theorem dX2_covers_7 : decode cX2_covers 7 = .ok (.iload_n 2, 1) := by decide +kernel
theorem dX2_covers_8 : decode cX2_covers 8 = .ok (.aload_n 0, 1) := by decide +kernel
theorem dX2_covers_9 : decode cX2_covers 9 = .ok (.getfield 18, 3) := by decide +kernel
theorem dX2_covers_12 : decode cX2_covers 12 = .ok (.isub, 1) := by decide +kernel
theorem dX2_covers_13 : decode cX2_covers 13 = .ok (.istore 4, 2) := by decide +kernel
theorem dX2_covers_15 : decode cX2_covers 15 = .ok (.iload_n 3, 1) := by decide +kernel
theorem dX2_covers_16 : decode cX2_covers 16 = .ok (.iconst 0, 1) := by decide +kernel
theorem dX2_covers_17 : decode cX2_covers 17 = .ok (.aload_n 0, 1) := by decide +kernel
theorem dX2_covers_18 : decode cX2_covers 18 = .ok (.getfield 21, 3) := by decide +kernel
theorem dX2_covers_21 : decode cX2_covers 21 = .ok (.iconst 1, 1) := by decide +kernel
theorem dX2_covers_22 : decode cX2_covers 22 = .ok (.isub, 1) := by decide +kernel
theorem dX2_covers_23 : decode cX2_covers 23 = .ok (.invokestatic 37, 3) := by decide +kernel
theorem dX2_covers_26 : decode cX2_covers 26 = .ok (.ifCond .eq 18, 3) := by decide +kernel
theorem dX2_covers_29 : decode cX2_covers 29 = .ok (.iload 4, 2) := by decide +kernel
theorem dX2_covers_31 : decode cX2_covers 31 = .ok (.iconst 0, 1) := by decide +kernel
theorem dX2_covers_32 : decode cX2_covers 32 = .ok (.aload_n 0, 1) := by decide +kernel
theorem dX2_covers_33 : decode cX2_covers 33 = .ok (.getfield 24, 3) := by decide +kernel
theorem dX2_covers_36 : decode cX2_covers 36 = .ok (.iconst 1, 1) := by decide +kernel
theorem dX2_covers_37 : decode cX2_covers 37 = .ok (.isub, 1) := by decide +kernel
theorem dX2_covers_38 : decode cX2_covers 38 = .ok (.invokestatic 37, 3) := by decide +kernel
theorem dX2_covers_41 : decode cX2_covers 41 = .ok (.ifCond .ne 5, 3) := by decide +kernel
theorem dX2_covers_44 : decode cX2_covers 44 = .ok (.iconst 0, 1) := by decide +kernel
theorem dX2_covers_45 : decode cX2_covers 45 = .ok (.ireturn, 1) := by decide +kernel
theorem dX2_covers_46 : decode cX2_covers 46 = .ok (.aload_n 0, 1) := by decide +kernel
theorem dX2_covers_47 : decode cX2_covers 47 = .ok (.getfield 9, 3) := by decide +kernel
theorem dX2_covers_50 : decode cX2_covers 50 = .ok (.tableswitch 92 1 3 #[26, 34, 56], 26) := by decide +kernel
theorem dX2_covers_76 : decode cX2_covers 76 = .ok (.aload_n 0, 1) := by decide +kernel
theorem dX2_covers_77 : decode cX2_covers 77 = .ok (.iload_n 3, 1) := by decide +kernel
theorem dX2_covers_78 : decode cX2_covers 78 = .ok (.iload 4, 2) := by decide +kernel
theorem dX2_covers_80 : decode cX2_covers 80 = .ok (.invokevirtual 41, 3) := by decide +kernel
theorem dX2_covers_83 : decode cX2_covers 83 = .ok (.ireturn, 1) := by decide +kernel
theorem dX2_covers_84 : decode cX2_covers 84 = .ok (.iload_n 3, 1) := by decide +kernel
theorem dX2_covers_85 : decode cX2_covers 85 = .ok (.aload_n 0, 1) := by decide +kernel
theorem dX2_covers_86 : decode cX2_covers 86 = .ok (.getfield 24, 3) := by decide +kernel
theorem dX2_covers_89 : decode cX2_covers 89 = .ok (.imul, 1) := by decide +kernel
theorem dX2_covers_90 : decode cX2_covers 90 = .ok (.iload 4, 2) := by decide +kernel
theorem dX2_covers_92 : decode cX2_covers 92 = .ok (.aload_n 0, 1) := by decide +kernel
theorem dX2_covers_93 : decode cX2_covers 93 = .ok (.getfield 21, 3) := by decide +kernel
theorem dX2_covers_96 : decode cX2_covers 96 = .ok (.imul, 1) := by decide +kernel
theorem dX2_covers_97 : decode cX2_covers 97 = .ok (.if_icmp .gt 7, 3) := by decide +kernel
theorem dX2_covers_100 : decode cX2_covers 100 = .ok (.iconst 1, 1) := by decide +kernel
theorem dX2_covers_101 : decode cX2_covers 101 = .ok (.goto 4, 3) := by decide +kernel
theorem dX2_covers_104 : decode cX2_covers 104 = .ok (.iconst 0, 1) := by decide +kernel
theorem dX2_covers_105 : decode cX2_covers 105 = .ok (.ireturn, 1) := by decide +kernel
theorem dX2_covers_106 : decode cX2_covers 106 = .ok (.iload_n 3, 1) := by decide +kernel
theorem dX2_covers_107 : decode cX2_covers 107 = .ok (.ifCond .eq 29, 3) := by decide +kernel
theorem dX2_covers_110 : decode cX2_covers 110 = .ok (.iload_n 3, 1) := by decide +kernel
theorem dX2_covers_111 : decode cX2_covers 111 = .ok (.aload_n 0, 1) := by decide +kernel
theorem dX2_covers_112 : decode cX2_covers 112 = .ok (.getfield 21, 3) := by decide +kernel
theorem dX2_covers_115 : decode cX2_covers 115 = .ok (.iconst 1, 1) := by decide +kernel
theorem dX2_covers_116 : decode cX2_covers 116 = .ok (.isub, 1) := by decide +kernel
theorem dX2_covers_117 : decode cX2_covers 117 = .ok (.if_icmp .eq 19, 3) := by decide +kernel
theorem dX2_covers_120 : decode cX2_covers 120 = .ok (.iload 4, 2) := by decide +kernel
theorem dX2_covers_122 : decode cX2_covers 122 = .ok (.ifCond .eq 14, 3) := by decide +kernel
theorem dX2_covers_125 : decode cX2_covers 125 = .ok (.iload 4, 2) := by decide +kernel
theorem dX2_covers_127 : decode cX2_covers 127 = .ok (.aload_n 0, 1) := by decide +kernel
theorem dX2_covers_128 : decode cX2_covers 128 = .ok (.getfield 24, 3) := by decide +kernel
theorem dX2_covers_131 : decode cX2_covers 131 = .ok (.iconst 1, 1) := by decide +kernel
theorem dX2_covers_132 : decode cX2_covers 132 = .ok (.isub, 1) := by decide +kernel
theorem dX2_covers_133 : decode cX2_covers 133 = .ok (.if_icmp .ne 7, 3) := by decide +kernel
theorem dX2_covers_136 : decode cX2_covers 136 = .ok (.iconst 1, 1) := by decide +kernel
theorem dX2_covers_137 : decode cX2_covers 137 = .ok (.goto 4, 3) := by decide +kernel
theorem dX2_covers_140 : decode cX2_covers 140 = .ok (.iconst 0, 1) := by decide +kernel
theorem dX2_covers_141 : decode cX2_covers 141 = .ok (.ireturn, 1) := by decide +kernel
theorem dX2_covers_142 : decode cX2_covers 142 = .ok (.iconst 1, 1) := by decide +kernel
theorem dX2_covers_143 : decode cX2_covers 143 = .ok (.ireturn, 1) := by decide +kernel
theorem dX2_isInOval_0 : decode cX2_isInOval 0 = .ok (.iconst 2, 1) := by decide +kernel
theorem dX2_isInOval_1 : decode cX2_isInOval 1 = .ok (.iload_n 1, 1) := by decide +kernel
theorem dX2_isInOval_2 : decode cX2_isInOval 2 = .ok (.imul, 1) := by decide +kernel
theorem dX2_isInOval_3 : decode cX2_isInOval 3 = .ok (.iconst 1, 1) := by decide +kernel
theorem dX2_isInOval_4 : decode cX2_isInOval 4 = .ok (.iadd, 1) := by decide +kernel
theorem dX2_isInOval_5 : decode cX2_isInOval 5 = .ok (.aload_n 0, 1) := by decide +kernel
theorem dX2_isInOval_6 : decode cX2_isInOval 6 = .ok (.getfield 21, 3) := by decide +kernel
theorem dX2_isInOval_9 : decode cX2_isInOval 9 = .ok (.isub, 1) := by decide +kernel
theorem dX2_isInOval_10 : decode cX2_isInOval 10 = .ok (.aload_n 0, 1) := by decide +kernel
theorem dX2_isInOval_11 : decode cX2_isInOval 11 = .ok (.getfield 24, 3) := by decide +kernel
theorem dX2_isInOval_14 : decode cX2_isInOval 14 = .ok (.imul, 1) := by decide +kernel
theorem dX2_isInOval_15 : decode cX2_isInOval 15 = .ok (.istore_n 3, 1) := by decide +kernel
theorem dX2_isInOval_16 : decode cX2_isInOval 16 = .ok (.iconst 2, 1) := by decide +kernel
theorem dX2_isInOval_17 : decode cX2_isInOval 17 = .ok (.iload_n 2, 1) := by decide +kernel
theorem dX2_isInOval_18 : decode cX2_isInOval 18 = .ok (.imul, 1) := by decide +kernel
theorem dX2_isInOval_19 : decode cX2_isInOval 19 = .ok (.iconst 1, 1) := by decide +kernel
theorem dX2_isInOval_20 : decode cX2_isInOval 20 = .ok (.iadd, 1) := by decide +kernel
theorem dX2_isInOval_21 : decode cX2_isInOval 21 = .ok (.aload_n 0, 1) := by decide +kernel
theorem dX2_isInOval_22 : decode cX2_isInOval 22 = .ok (.getfield 24, 3) := by decide +kernel
theorem dX2_isInOval_25 : decode cX2_isInOval 25 = .ok (.isub, 1) := by decide +kernel
theorem dX2_isInOval_26 : decode cX2_isInOval 26 = .ok (.aload_n 0, 1) := by decide +kernel
theorem dX2_isInOval_27 : decode cX2_isInOval 27 = .ok (.getfield 21, 3) := by decide +kernel
theorem dX2_isInOval_30 : decode cX2_isInOval 30 = .ok (.imul, 1) := by decide +kernel
theorem dX2_isInOval_31 : decode cX2_isInOval 31 = .ok (.istore 4, 2) := by decide +kernel
theorem dX2_isInOval_33 : decode cX2_isInOval 33 = .ok (.aload_n 0, 1) := by decide +kernel
theorem dX2_isInOval_34 : decode cX2_isInOval 34 = .ok (.getfield 21, 3) := by decide +kernel
theorem dX2_isInOval_37 : decode cX2_isInOval 37 = .ok (.aload_n 0, 1) := by decide +kernel
theorem dX2_isInOval_38 : decode cX2_isInOval 38 = .ok (.getfield 24, 3) := by decide +kernel
theorem dX2_isInOval_41 : decode cX2_isInOval 41 = .ok (.imul, 1) := by decide +kernel
theorem dX2_isInOval_42 : decode cX2_isInOval 42 = .ok (.istore 5, 2) := by decide +kernel
theorem dX2_isInOval_44 : decode cX2_isInOval 44 = .ok (.iload_n 3, 1) := by decide +kernel
theorem dX2_isInOval_45 : decode cX2_isInOval 45 = .ok (.iload_n 3, 1) := by decide +kernel
theorem dX2_isInOval_46 : decode cX2_isInOval 46 = .ok (.imul, 1) := by decide +kernel
theorem dX2_isInOval_47 : decode cX2_isInOval 47 = .ok (.iload 4, 2) := by decide +kernel
theorem dX2_isInOval_49 : decode cX2_isInOval 49 = .ok (.iload 4, 2) := by decide +kernel
theorem dX2_isInOval_51 : decode cX2_isInOval 51 = .ok (.imul, 1) := by decide +kernel
theorem dX2_isInOval_52 : decode cX2_isInOval 52 = .ok (.iadd, 1) := by decide +kernel
theorem dX2_isInOval_53 : decode cX2_isInOval 53 = .ok (.iload 5, 2) := by decide +kernel
theorem dX2_isInOval_55 : decode cX2_isInOval 55 = .ok (.iload 5, 2) := by decide +kernel
theorem dX2_isInOval_57 : decode cX2_isInOval 57 = .ok (.imul, 1) := by decide +kernel
theorem dX2_isInOval_58 : decode cX2_isInOval 58 = .ok (.if_icmp .gt 7, 3) := by decide +kernel
theorem dX2_isInOval_61 : decode cX2_isInOval 61 = .ok (.iconst 1, 1) := by decide +kernel
theorem dX2_isInOval_62 : decode cX2_isInOval 62 = .ok (.goto 4, 3) := by decide +kernel
theorem dX2_isInOval_65 : decode cX2_isInOval 65 = .ok (.iconst 0, 1) := by decide +kernel
theorem dX2_isInOval_66 : decode cX2_isInOval 66 = .ok (.ireturn, 1) := by decide +kernel
theorem dX3_init_0 : decode cX3_init 0 = .ok (.aload_n 0, 1) := by decide +kernel
theorem dX3_init_1 : decode cX3_init 1 = .ok (.invokespecial 3, 3) := by decide +kernel
theorem dX3_init_4 : decode cX3_init 4 = .ok (.aload_n 0, 1) := by decide +kernel
theorem dX3_init_5 : decode cX3_init 5 = .ok (.bipush 8, 2) := by decide +kernel
theorem dX3_init_7 : decode cX3_init 7 = .ok (.putfield 9, 3) := by decide +kernel
theorem dX3_init_10 : decode cX3_init 10 = .ok (.aload_n 0, 1) := by decide +kernel
theorem dX3_init_11 : decode cX3_init 11 = .ok (.bipush 8, 2) := by decide +kernel
theorem dX3_init_13 : decode cX3_init 13 = .ok (.putfield 15, 3) := by decide +kernel
theorem dX3_init_16 : decode cX3_init 16 = .ok (.aload_n 0, 1) := by decide +kernel
theorem dX3_init_17 : decode cX3_init 17 = .ok (.iconst 4, 1) := by decide +kernel
theorem dX3_init_18 : decode cX3_init 18 = .ok (.newarray .int, 2) := by decide +kernel
theorem dX3_init_20 : decode cX3_init 20 = .ok (.dup, 1) := by decide +kernel
theorem dX3_init_21 : decode cX3_init 21 = .ok (.iconst 0, 1) := by decide +kernel
theorem dX3_init_22 : decode cX3_init 22 = .ok (.iconst 1, 1) := by decide +kernel
theorem dX3_init_23 : decode cX3_init 23 = .ok (.iastore, 1) := by decide +kernel
theorem dX3_init_24 : decode cX3_init 24 = .ok (.dup, 1) := by decide +kernel
theorem dX3_init_25 : decode cX3_init 25 = .ok (.iconst 1, 1) := by decide +kernel
theorem dX3_init_26 : decode cX3_init 26 = .ok (.iconst 3, 1) := by decide +kernel
theorem dX3_init_27 : decode cX3_init 27 = .ok (.iastore, 1) := by decide +kernel
theorem dX3_init_28 : decode cX3_init 28 = .ok (.dup, 1) := by decide +kernel
theorem dX3_init_29 : decode cX3_init 29 = .ok (.iconst 2, 1) := by decide +kernel
theorem dX3_init_30 : decode cX3_init 30 = .ok (.iconst 4, 1) := by decide +kernel
theorem dX3_init_31 : decode cX3_init 31 = .ok (.iastore, 1) := by decide +kernel
theorem dX3_init_32 : decode cX3_init 32 = .ok (.dup, 1) := by decide +kernel
theorem dX3_init_33 : decode cX3_init 33 = .ok (.iconst 3, 1) := by decide +kernel
theorem dX3_init_34 : decode cX3_init 34 = .ok (.bipush 8, 2) := by decide +kernel
theorem dX3_init_36 : decode cX3_init 36 = .ok (.iastore, 1) := by decide +kernel
theorem dX3_init_37 : decode cX3_init 37 = .ok (.putfield 18, 3) := by decide +kernel
theorem dX3_init_40 : decode cX3_init 40 = .ok (.aload_n 0, 1) := by decide +kernel
theorem dX3_init_41 : decode cX3_init 41 = .ok (.iconst 4, 1) := by decide +kernel
theorem dX3_init_42 : decode cX3_init 42 = .ok (.newarray .int, 2) := by decide +kernel
theorem dX3_init_44 : decode cX3_init 44 = .ok (.putfield 22, 3) := by decide +kernel
theorem dX3_init_47 : decode cX3_init 47 = .ok (.aload_n 0, 1) := by decide +kernel
theorem dX3_init_48 : decode cX3_init 48 = .ok (.iconst 4, 1) := by decide +kernel
theorem dX3_init_49 : decode cX3_init 49 = .ok (.newarray .int, 2) := by decide +kernel
theorem dX3_init_51 : decode cX3_init 51 = .ok (.putfield 25, 3) := by decide +kernel
theorem dX3_init_54 : decode cX3_init 54 = .ok (.aload_n 0, 1) := by decide +kernel
theorem dX3_init_55 : decode cX3_init 55 = .ok (.bipush 30, 2) := by decide +kernel
theorem dX3_init_57 : decode cX3_init 57 = .ok (.newarray .int, 2) := by decide +kernel
theorem dX3_init_59 : decode cX3_init 59 = .ok (.putfield 28, 3) := by decide +kernel
theorem dX3_init_62 : decode cX3_init 62 = .ok (.aload_n 0, 1) := by decide +kernel
theorem dX3_init_63 : decode cX3_init 63 = .ok (.bipush 30, 2) := by decide +kernel
theorem dX3_init_65 : decode cX3_init 65 = .ok (.anewarray 31, 3) := by decide +kernel
theorem dX3_init_68 : decode cX3_init 68 = .ok (.putfield 33, 3) := by decide +kernel
theorem dX3_init_71 : decode cX3_init 71 = .ok (.return_, 1) := by decide +kernel
theorem dX3_become_0 : decode cX3_become 0 = .ok (.aload_n 0, 1) := by decide +kernel
theorem dX3_become_1 : decode cX3_become 1 = .ok (.aload_n 1, 1) := by decide +kernel
theorem dX3_become_2 : decode cX3_become 2 = .ok (.getfield 9, 3) := by decide +kernel
theorem dX3_become_5 : decode cX3_become 5 = .ok (.putfield 9, 3) := by decide +kernel
theorem dX3_become_8 : decode cX3_become 8 = .ok (.aload_n 0, 1) := by decide +kernel
theorem dX3_become_9 : decode cX3_become 9 = .ok (.aload_n 1, 1) := by decide +kernel
theorem dX3_become_10 : decode cX3_become 10 = .ok (.getfield 15, 3) := by decide +kernel
theorem dX3_become_13 : decode cX3_become 13 = .ok (.putfield 15, 3) := by decide +kernel
theorem dX3_become_16 : decode cX3_become 16 = .ok (.aload_n 0, 1) := by decide +kernel
theorem dX3_become_17 : decode cX3_become 17 = .ok (.aload_n 1, 1) := by decide +kernel
theorem dX3_become_18 : decode cX3_become 18 = .ok (.getfield 37, 3) := by decide +kernel
theorem dX3_become_21 : decode cX3_become 21 = .ok (.putfield 37, 3) := by decide +kernel
theorem dX3_become_24 : decode cX3_become 24 = .ok (.aload_n 0, 1) := by decide +kernel
theorem dX3_become_25 : decode cX3_become 25 = .ok (.aload_n 1, 1) := by decide +kernel
theorem dX3_become_26 : decode cX3_become 26 = .ok (.getfield 40, 3) := by decide +kernel
theorem dX3_become_29 : decode cX3_become 29 = .ok (.putfield 40, 3) := by decide +kernel
theorem dX3_become_32 : decode cX3_become 32 = .ok (.aload_n 0, 1) := by decide +kernel
theorem dX3_become_33 : decode cX3_become 33 = .ok (.aload_n 1, 1) := by decide +kernel
theorem dX3_become_34 : decode cX3_become 34 = .ok (.getfield 43, 3) := by decide +kernel
theorem dX3_become_37 : decode cX3_become 37 = .ok (.putfield 43, 3) := by decide +kernel
theorem dX3_become_40 : decode cX3_become 40 = .ok (.aload_n 0, 1) := by decide +kernel
theorem dX3_become_41 : decode cX3_become 41 = .ok (.aload_n 1, 1) := by decide +kernel
theorem dX3_become_42 : decode cX3_become 42 = .ok (.getfield 46, 3) := by decide +kernel
theorem dX3_become_45 : decode cX3_become 45 = .ok (.putfield 46, 3) := by decide +kernel
theorem dX3_become_48 : decode cX3_become 48 = .ok (.aload_n 1, 1) := by decide +kernel
theorem dX3_become_49 : decode cX3_become 49 = .ok (.getfield 18, 3) := by decide +kernel
theorem dX3_become_52 : decode cX3_become 52 = .ok (.iconst 0, 1) := by decide +kernel
theorem dX3_become_53 : decode cX3_become 53 = .ok (.aload_n 0, 1) := by decide +kernel
theorem dX3_become_54 : decode cX3_become 54 = .ok (.getfield 18, 3) := by decide +kernel
theorem dX3_become_57 : decode cX3_become 57 = .ok (.iconst 0, 1) := by decide +kernel
theorem dX3_become_58 : decode cX3_become 58 = .ok (.iconst 4, 1) := by decide +kernel
theorem dX3_become_59 : decode cX3_become 59 = .ok (.invokestatic 49, 3) := by decide +kernel
theorem dX3_become_62 : decode cX3_become 62 = .ok (.aload_n 1, 1) := by decide +kernel
theorem dX3_become_63 : decode cX3_become 63 = .ok (.getfield 22, 3) := by decide +kernel
theorem dX3_become_66 : decode cX3_become 66 = .ok (.iconst 0, 1) := by decide +kernel
theorem dX3_become_67 : decode cX3_become 67 = .ok (.aload_n 0, 1) := by decide +kernel
theorem dX3_become_68 : decode cX3_become 68 = .ok (.getfield 22, 3) := by decide +kernel
theorem dX3_become_71 : decode cX3_become 71 = .ok (.iconst 0, 1) := by decide +kernel
theorem dX3_become_72 : decode cX3_become 72 = .ok (.iconst 4, 1) := by decide +kernel
theorem dX3_become_73 : decode cX3_become 73 = .ok (.invokestatic 49, 3) := by decide +kernel
theorem dX3_become_76 : decode cX3_become 76 = .ok (.aload_n 1, 1) := by decide +kernel
theorem dX3_become_77 : decode cX3_become 77 = .ok (.getfield 25, 3) := by decide +kernel
theorem dX3_become_80 : decode cX3_become 80 = .ok (.iconst 0, 1) := by decide +kernel
theorem dX3_become_81 : decode cX3_become 81 = .ok (.aload_n 0, 1) := by decide +kernel
theorem dX3_become_82 : decode cX3_become 82 = .ok (.getfield 25, 3) := by decide +kernel
theorem dX3_become_85 : decode cX3_become 85 = .ok (.iconst 0, 1) := by decide +kernel
theorem dX3_become_86 : decode cX3_become 86 = .ok (.iconst 4, 1) := by decide +kernel
theorem dX3_become_87 : decode cX3_become 87 = .ok (.invokestatic 49, 3) := by decide +kernel
theorem dX3_become_90 : decode cX3_become 90 = .ok (.aload_n 1, 1) := by decide +kernel
theorem dX3_become_91 : decode cX3_become 91 = .ok (.getfield 28, 3) := by decide +kernel
theorem dX3_become_94 : decode cX3_become 94 = .ok (.iconst 0, 1) := by decide +kernel
theorem dX3_become_95 : decode cX3_become 95 = .ok (.aload_n 0, 1) := by decide +kernel
theorem dX3_become_96 : decode cX3_become 96 = .ok (.getfield 28, 3) := by decide +kernel
theorem dX3_become_99 : decode cX3_become 99 = .ok (.iconst 0, 1) := by decide +kernel
theorem dX3_become_100 : decode cX3_become 100 = .ok (.bipush 30, 2) := by decide +kernel
theorem dX3_become_102 : decode cX3_become 102 = .ok (.invokestatic 49, 3) := by decide +kernel
theorem dX3_become_105 : decode cX3_become 105 = .ok (.iconst 0, 1) := by decide +kernel
theorem dX3_become_106 : decode cX3_become 106 = .ok (.istore_n 2, 1) := by decide +kernel
theorem dX3_become_107 : decode cX3_become 107 = .ok (.iload_n 2, 1) := by decide +kernel
theorem dX3_become_108 : decode cX3_become 108 = .ok (.bipush 30, 2) := by decide +kernel
theorem dX3_become_110 : decode cX3_become 110 = .ok (.if_icmp .ge 21, 3) := by decide +kernel
theorem dX3_become_113 : decode cX3_become 113 = .ok (.aload_n 0, 1) := by decide +kernel
theorem dX3_become_114 : decode cX3_become 114 = .ok (.getfield 33, 3) := by decide +kernel
theorem dX3_become_117 : decode cX3_become 117 = .ok (.iload_n 2, 1) := by decide +kernel
theorem dX3_become_118 : decode cX3_become 118 = .ok (.aload_n 1, 1) := by decide +kernel
theorem dX3_become_119 : decode cX3_become 119 = .ok (.getfield 33, 3) := by decide +kernel
theorem dX3_become_122 : decode cX3_become 122 = .ok (.iload_n 2, 1) := by decide +kernel
theorem dX3_become_123 : decode cX3_become 123 = .ok (.aaload, 1) := by decide +kernel
theorem dX3_become_124 : decode cX3_become 124 = .ok (.aastore, 1) := by decide +kernel
theorem dX3_become_125 : decode cX3_become 125 = .ok (.iinc 2 1, 3) := by decide +kernel
theorem dX3_become_128 : decode cX3_become 128 = .ok (.goto (-21), 3) := by decide +kernel
theorem dX3_become_131 : decode cX3_become 131 = .ok (.return_, 1) := by decide +kernel
set_option maxRecDepth 20000 in
theorem ggX3_hasCell_X4_isWithin : GoodIn wsX3_hasCell wsX4_isWithin := goodIn_r _ [5] (by decide +kernel) (by decide +kernel)
set_option maxRecDepth 20000 in
theorem gX3_hasCell_X4_isWithin_n55 : GoodIn wsX3_hasCell (wsX4_isWithin) := ggX3_hasCell_X4_isWithin
theorem dX3_hasCell_0 : decode cX3_hasCell 0 = .ok (.iload_n 1, 1) := by decide +kernel
theorem dX3_hasCell_1 : decode cX3_hasCell 1 = .ok (.iconst 0, 1) := by decide +kernel
theorem dX3_hasCell_2 : decode cX3_hasCell 2 = .ok (.aload_n 0, 1) := by decide +kernel
theorem dX3_hasCell_3 : decode cX3_hasCell 3 = .ok (.getfield 9, 3) := by decide +kernel
theorem dX3_hasCell_6 : decode cX3_hasCell 6 = .ok (.iconst 1, 1) := by decide +kernel
theorem dX3_hasCell_7 : decode cX3_hasCell 7 = .ok (.isub, 1) := by decide +kernel
theorem dX3_hasCell_8 : decode cX3_hasCell 8 = .ok (.invokestatic 55, 3) := by decide +kernel
theorem dX3_hasCell_11 : decode cX3_hasCell 11 = .ok (.ifCond .eq 21, 3) := by decide +kernel
theorem dX3_hasCell_14 : decode cX3_hasCell 14 = .ok (.iload_n 2, 1) := by decide +kernel
theorem dX3_hasCell_15 : decode cX3_hasCell 15 = .ok (.iconst 0, 1) := by decide +kernel
theorem dX3_hasCell_16 : decode cX3_hasCell 16 = .ok (.aload_n 0, 1) := by decide +kernel
theorem dX3_hasCell_17 : decode cX3_hasCell 17 = .ok (.getfield 15, 3) := by decide +kernel
theorem dX3_hasCell_20 : decode cX3_hasCell 20 = .ok (.iconst 1, 1) := by decide +kernel
theorem dX3_hasCell_21 : decode cX3_hasCell 21 = .ok (.isub, 1) := by decide +kernel
theorem dX3_hasCell_22 : decode cX3_hasCell 22 = .ok (.invokestatic 55, 3) := by decide +kernel
theorem dX3_hasCell_25 : decode cX3_hasCell 25 = .ok (.ifCond .eq 7, 3) := by decide +kernel
theorem dX3_hasCell_28 : decode cX3_hasCell 28 = .ok (.iconst 1, 1) := by decide +kernel
theorem dX3_hasCell_29 : decode cX3_hasCell 29 = .ok (.goto 4, 3) := by decide +kernel
theorem dX3_hasCell_32 : decode cX3_hasCell 32 = .ok (.iconst 0, 1) := by decide +kernel
theorem dX3_hasCell_33 : decode cX3_hasCell 33 = .ok (.ireturn, 1) := by decide +kernel
set_option maxRecDepth 20000 in
theorem ggX3_find_X4_isWithin : GoodIn wsX3_find wsX4_isWithin := goodIn_r _ [4] (by decide +kernel) (by decide +kernel)
set_option maxRecDepth 20000 in
theorem gX3_find_X4_isWithin_n55 : GoodIn wsX3_find (wsX4_isWithin) := ggX3_find_X4_isWithin
theorem dX3_find_0 : decode cX3_find 0 = .ok (.iload_n 1, 1) := by decide +kernel
theorem dX3_find_1 : decode cX3_find 1 = .ok (.iconst 0, 1) := by decide +kernel
theorem dX3_find_2 : decode cX3_find 2 = .ok (.bipush 29, 2) := by decide +kernel
theorem dX3_find_4 : decode cX3_find 4 = .ok (.invokestatic 55, 3) := by decide +kernel
theorem dX3_find_7 : decode cX3_find 7 = .ok (.ifCond .eq 12, 3) := by decide +kernel
theorem dX3_find_10 : decode cX3_find 10 = .ok (.aload_n 0, 1) := by decide +kernel
theorem dX3_find_11 : decode cX3_find 11 = .ok (.getfield 33, 3) := by decide +kernel
theorem dX3_find_14 : decode cX3_find 14 = .ok (.iload_n 1, 1) := by decide +kernel
theorem dX3_find_15 : decode cX3_find 15 = .ok (.aaload, 1) := by decide +kernel
theorem dX3_find_16 : decode cX3_find 16 = .ok (.goto 4, 3) := by decide +kernel
theorem dX3_find_19 : decode cX3_find 19 = .ok (.aconst_null, 1) := by decide +kernel
theorem dX3_find_20 : decode cX3_find 20 = .ok (.areturn, 1) := by decide +kernel
set_option maxRecDepth 20000 in
theorem ggX3_isFine_X3_find : GoodIn wsX3_isFine wsX3_find := goodIn_r _ [6, 7, 8, 9, 10, 18, 19, 20, 21, 22, 23, 24, 25, 26, 27, 28] (by decide +kernel) (by decide +kernel)
set_option maxRecDepth 20000 in
theorem gX3_isFine_X3_find : GoodIn wsX3_isFine (wsV RX3 59 RX3 yX3_find wsX3_find) := goodIn_app (goodIn_of _ (by decide +kernel)) ggX3_isFine_X3_find
theorem dX3_isFine_0 : decode cX3_isFine 0 = .ok (.aload_n 0, 1) := by decide +kernel
theorem dX3_isFine_1 : decode cX3_isFine 1 = .ok (.iload_n 1, 1) := by decide +kernel
theorem dX3_isFine_2 : decode cX3_isFine 2 = .ok (.invokevirtual 59, 3) := by decide +kernel
theorem dX3_isFine_5 : decode cX3_isFine 5 = .ok (.astore_n 2, 1) := by decide +kernel
theorem dX3_isFine_6 : decode cX3_isFine 6 = .ok (.aload_n 2, 1) := by decide +kernel
theorem dX3_isFine_7 : decode cX3_isFine 7 = .ok (.ifnull 14, 3) := by decide +kernel
theorem dX3_isFine_10 : decode cX3_isFine 10 = .ok (.aload_n 2, 1) := by decide +kernel
theorem dX3_isFine_11 : decode cX3_isFine 11 = .ok (.getfield 63, 3) := by decide +kernel
theorem dX3_isFine_14 : decode cX3_isFine 14 = .ok (.ifCond .eq 7, 3) := by decide +kernel
theorem dX3_isFine_17 : decode cX3_isFine 17 = .ok (.iconst 1, 1) := by decide +kernel
theorem dX3_isFine_18 : decode cX3_isFine 18 = .ok (.goto 4, 3) := by decide +kernel
theorem dX3_isFine_21 : decode cX3_isFine 21 = .ok (.iconst 0, 1) := by decide +kernel
theorem dX3_isFine_22 : decode cX3_isFine 22 = .ok (.ireturn, 1) := by decide +kernel
theorem dX3_add_0 : decode cX3_add 0 = .ok (.aload_n 0, 1) := by decide +kernel
theorem dX3_add_1 : decode cX3_add 1 = .ok (.getfield 46, 3) := by decide +kernel
theorem dX3_add_4 : decode cX3_add 4 = .ok (.bipush 30, 2) := by decide +kernel
theorem dX3_add_6 : decode cX3_add 6 = .ok (.if_icmp .ge 12, 3) := by decide +kernel
theorem dX3_add_9 : decode cX3_add 9 = .ok (.aload_n 0, 1) := by decide +kernel
theorem dX3_add_10 : decode cX3_add 10 = .ok (.getfield 43, 3) := by decide +kernel
theorem dX3_add_13 : decode cX3_add 13 = .ok (.bipush 30, 2) := by decide +kernel
theorem dX3_add_15 : decode cX3_add 15 = .ok (.if_icmp .lt 5, 3) := by decide +kernel
