theorem dX5_bare_80 : decode cX5_bare 80 = .ok (.iload_n 1, 1) := by decide +kernel
theorem dX5_bare_81 : decode cX5_bare 81 = .ok (.iload_n 2, 1) := by decide +kernel
theorem dX5_bare_82 : decode cX5_bare 82 = .ok (.iload_n 3, 1) := by decide +kernel
theorem dX5_bare_83 : decode cX5_bare 83 = .ok (.invokevirtual 146, 3) := by decide +kernel
theorem dX5_bare_86 : decode cX5_bare 86 = .ok (.ifCond .eq 7, 3) := by decide +kernel
theorem dX5_bare_89 : decode cX5_bare 89 = .ok (.iconst 1, 1) := by decide +kernel
theorem dX5_bare_90 : decode cX5_bare 90 = .ok (.goto 4, 3) := by decide +kernel
theorem dX5_bare_93 : decode cX5_bare 93 = .ok (.iconst 0, 1) := by decide +kernel
theorem dX5_bare_94 : decode cX5_bare 94 = .ok (.iadd, 1) := by decide +kernel
theorem dX5_bare_95 : decode cX5_bare 95 = .ok (.istore 4, 2) := by decide +kernel
theorem dX5_bare_97 : decode cX5_bare 97 = .ok (.iinc 6 1, 3) := by decide +kernel
theorem dX5_bare_100 : decode cX5_bare 100 = .ok (.goto (-38), 3) := by decide +kernel
theorem dX5_bare_103 : decode cX5_bare 103 = .ok (.iinc 5 1, 3) := by decide +kernel
theorem dX5_bare_106 : decode cX5_bare 106 = .ok (.goto (-58), 3) := by decide +kernel
theorem dX5_bare_109 : decode cX5_bare 109 = .ok (.iload 4, 2) := by decide +kernel
theorem dX5_bare_111 : decode cX5_bare 111 = .ok (.ireturn, 1) := by decide +kernel
set_option maxRecDepth 20000 in
theorem ggX5_stays_X5_isBareBy : GoodIn wsX5_stays wsX5_isBareBy := goodIn_r _ [5, 6, 7, 8, 9, 4, 10, 11, 12, 13, 14, 15, 16, 17, 18, 19, 20, 21, 22, 23, 24, 25, 26, 27, 28, 29, 30, 31, 32, 33, 34, 35, 36, 37, 38, 39, 40, 41, 42, 43, 44] (by decide +kernel) (by decide +kernel)
set_option maxRecDepth 20000 in
theorem gX5_stays_X5_isBareBy : GoodIn wsX5_stays (wsV RX5 146 RX5 yX5_isBareBy wsX5_isBareBy) := goodIn_app (goodIn_of _ (by decide +kernel)) ggX5_stays_X5_isBareBy
theorem dX5_stays_0 : decode cX5_stays 0 = .ok (.iconst 0, 1) := by decide +kernel
theorem dX5_stays_1 : decode cX5_stays 1 = .ok (.istore 4, 2) := by decide +kernel
theorem dX5_stays_3 : decode cX5_stays 3 = .ok (.iload 4, 2) := by decide +kernel
theorem dX5_stays_5 : decode cX5_stays 5 = .ok (.iconst 4, 1) := by decide +kernel
theorem dX5_stays_6 : decode cX5_stays 6 = .ok (.if_icmp .ge 58, 3) := by decide +kernel
theorem dX5_stays_9 : decode cX5_stays 9 = .ok (.iload_n 3, 1) := by decide +kernel
theorem dX5_stays_10 : decode cX5_stays 10 = .ok (.ineg, 1) := by decide +kernel
theorem dX5_stays_11 : decode cX5_stays 11 = .ok (.istore 5, 2) := by decide +kernel
theorem dX5_stays_13 : decode cX5_stays 13 = .ok (.iload 5, 2) := by decide +kernel
theorem dX5_stays_15 : decode cX5_stays 15 = .ok (.iload_n 3, 1) := by decide +kernel
theorem dX5_stays_16 : decode cX5_stays 16 = .ok (.if_icmp .gt 42, 3) := by decide +kernel
theorem dX5_stays_19 : decode cX5_stays 19 = .ok (.iload_n 3, 1) := by decide +kernel
theorem dX5_stays_20 : decode cX5_stays 20 = .ok (.ineg, 1) := by decide +kernel
theorem dX5_stays_21 : decode cX5_stays 21 = .ok (.istore 6, 2) := by decide +kernel
theorem dX5_stays_23 : decode cX5_stays 23 = .ok (.iload 6, 2) := by decide +kernel
theorem dX5_stays_25 : decode cX5_stays 25 = .ok (.iload_n 3, 1) := by decide +kernel
theorem dX5_stays_26 : decode cX5_stays 26 = .ok (.if_icmp .gt 26, 3) := by decide +kernel
theorem dX5_stays_29 : decode cX5_stays 29 = .ok (.aload_n 0, 1) := by decide +kernel
theorem dX5_stays_30 : decode cX5_stays 30 = .ok (.iload_n 1, 1) := by decide +kernel
theorem dX5_stays_31 : decode cX5_stays 31 = .ok (.iload_n 2, 1) := by decide +kernel
theorem dX5_stays_32 : decode cX5_stays 32 = .ok (.iload 4, 2) := by decide +kernel
theorem dX5_stays_34 : decode cX5_stays 34 = .ok (.iload 5, 2) := by decide +kernel
theorem dX5_stays_36 : decode cX5_stays 36 = .ok (.iload 6, 2) := by decide +kernel
theorem dX5_stays_38 : decode cX5_stays 38 = .ok (.invokevirtual 146, 3) := by decide +kernel
theorem dX5_stays_41 : decode cX5_stays 41 = .ok (.ifCond .eq 5, 3) := by decide +kernel
theorem dX5_stays_44 : decode cX5_stays 44 = .ok (.iconst 0, 1) := by decide +kernel
theorem dX5_stays_45 : decode cX5_stays 45 = .ok (.ireturn, 1) := by decide +kernel
theorem dX5_stays_46 : decode cX5_stays 46 = .ok (.iinc 6 1, 3) := by decide +kernel
theorem dX5_stays_49 : decode cX5_stays 49 = .ok (.goto (-26), 3) := by decide +kernel
theorem dX5_stays_52 : decode cX5_stays 52 = .ok (.iinc 5 1, 3) := by decide +kernel
theorem dX5_stays_55 : decode cX5_stays 55 = .ok (.goto (-42), 3) := by decide +kernel
theorem dX5_stays_58 : decode cX5_stays 58 = .ok (.iinc 4 1, 3) := by decide +kernel
theorem dX5_stays_61 : decode cX5_stays 61 = .ok (.goto (-58), 3) := by decide +kernel
theorem dX5_stays_64 : decode cX5_stays 64 = .ok (.iconst 1, 1) := by decide +kernel
theorem dX5_stays_65 : decode cX5_stays 65 = .ok (.ireturn, 1) := by decide +kernel
set_option maxRecDepth 20000 in
theorem ggX5_isSafe_X5_isInner : GoodIn wsX5_isSafe wsX5_isInner := goodIn_r _ [7, 8, 9, 10, 11, 12, 6, 13, 1, 2, 14, 15, 16, 30, 31, 32, 33, 34, 35, 36, 37, 38, 39, 40, 41, 42, 43, 44, 45, 46, 47, 48, 49, 50, 51, 52, 53] (by decide +kernel) (by decide +kernel)
set_option maxRecDepth 20000 in
theorem gX5_isSafe_X5_isInner : GoodIn wsX5_isSafe (wsV RX5 130 RX5 yX5_isInner wsX5_isInner) := goodIn_app (goodIn_of _ (by decide +kernel)) ggX5_isSafe_X5_isInner
set_option maxRecDepth 20000 in
theorem ggX5_isSafe_X5_stays : GoodIn wsX5_isSafe wsX5_stays := goodIn_r _ [20, 21, 22, 23, 6, 24, 8, 25, 26, 27, 28, 29, 10, 11, 12, 13, 1, 2, 14, 15, 16, 30, 31, 32, 33, 34, 35, 36, 37, 38, 39, 40, 41, 42, 43, 44, 45, 46, 47, 48, 49, 50, 51, 52, 53] (by decide +kernel) (by decide +kernel)
set_option maxRecDepth 20000 in
theorem gX5_isSafe_X5_stays : GoodIn wsX5_isSafe (wsV RX5 149 RX5 yX5_stays wsX5_stays) := goodIn_app (goodIn_of _ (by decide +kernel)) ggX5_isSafe_X5_stays
theorem dX5_isSafe_0 : decode cX5_isSafe 0 = .ok (.iconst 0, 1) := by decide +kernel
theorem dX5_isSafe_1 : decode cX5_isSafe 1 = .ok (.istore_n 2, 1) := by decide +kernel
theorem dX5_isSafe_2 : decode cX5_isSafe 2 = .ok (.iload_n 2, 1) := by decide +kernel
theorem dX5_isSafe_3 : decode cX5_isSafe 3 = .ok (.aload_n 0, 1) := by decide +kernel
theorem dX5_isSafe_4 : decode cX5_isSafe 4 = .ok (.getfield 7, 3) := by decide +kernel
theorem dX5_isSafe_7 : decode cX5_isSafe 7 = .ok (.iconst 0, 1) := by decide +kernel
theorem dX5_isSafe_8 : decode cX5_isSafe 8 = .ok (.iaload, 1) := by decide +kernel
theorem dX5_isSafe_9 : decode cX5_isSafe 9 = .ok (.if_icmp .ge 49, 3) := by decide +kernel
theorem dX5_isSafe_12 : decode cX5_isSafe 12 = .ok (.iconst 0, 1) := by decide +kernel
theorem dX5_isSafe_13 : decode cX5_isSafe 13 = .ok (.istore_n 3, 1) := by decide +kernel
theorem dX5_isSafe_14 : decode cX5_isSafe 14 = .ok (.iload_n 3, 1) := by decide +kernel
theorem dX5_isSafe_15 : decode cX5_isSafe 15 = .ok (.aload_n 0, 1) := by decide +kernel
theorem dX5_isSafe_16 : decode cX5_isSafe 16 = .ok (.getfield 13, 3) := by decide +kernel
theorem dX5_isSafe_19 : decode cX5_isSafe 19 = .ok (.iconst 0, 1) := by decide +kernel
theorem dX5_isSafe_20 : decode cX5_isSafe 20 = .ok (.iaload, 1) := by decide +kernel
theorem dX5_isSafe_21 : decode cX5_isSafe 21 = .ok (.if_icmp .ge 31, 3) := by decide +kernel
theorem dX5_isSafe_24 : decode cX5_isSafe 24 = .ok (.aload_n 0, 1) := by decide +kernel
theorem dX5_isSafe_25 : decode cX5_isSafe 25 = .ok (.iload_n 2, 1) := by decide +kernel
theorem dX5_isSafe_26 : decode cX5_isSafe 26 = .ok (.iload_n 3, 1) := by decide +kernel
theorem dX5_isSafe_27 : decode cX5_isSafe 27 = .ok (.iload_n 1, 1) := by decide +kernel
theorem dX5_isSafe_28 : decode cX5_isSafe 28 = .ok (.invokevirtual 130, 3) := by decide +kernel
theorem dX5_isSafe_31 : decode cX5_isSafe 31 = .ok (.ifCond .eq 15, 3) := by decide +kernel
theorem dX5_isSafe_34 : decode cX5_isSafe 34 = .ok (.aload_n 0, 1) := by decide +kernel
theorem dX5_isSafe_35 : decode cX5_isSafe 35 = .ok (.iload_n 2, 1) := by decide +kernel
theorem dX5_isSafe_36 : decode cX5_isSafe 36 = .ok (.iload_n 3, 1) := by decide +kernel
theorem dX5_isSafe_37 : decode cX5_isSafe 37 = .ok (.iload_n 1, 1) := by decide +kernel
theorem dX5_isSafe_38 : decode cX5_isSafe 38 = .ok (.invokevirtual 149, 3) := by decide +kernel
theorem dX5_isSafe_41 : decode cX5_isSafe 41 = .ok (.ifCond .ne 5, 3) := by decide +kernel
theorem dX5_isSafe_44 : decode cX5_isSafe 44 = .ok (.iconst 0, 1) := by decide +kernel
theorem dX5_isSafe_45 : decode cX5_isSafe 45 = .ok (.ireturn, 1) := by decide +kernel
theorem dX5_isSafe_46 : decode cX5_isSafe 46 = .ok (.iinc 3 1, 3) := by decide +kernel
theorem dX5_isSafe_49 : decode cX5_isSafe 49 = .ok (.goto (-35), 3) := by decide +kernel
theorem dX5_isSafe_52 : decode cX5_isSafe 52 = .ok (.iinc 2 1, 3) := by decide +kernel
theorem dX5_isSafe_55 : decode cX5_isSafe 55 = .ok (.goto (-53), 3) := by decide +kernel
theorem dX5_isSafe_58 : decode cX5_isSafe 58 = .ok (.iconst 1, 1) := by decide +kernel
theorem dX5_isSafe_59 : decode cX5_isSafe 59 = .ok (.ireturn, 1) := by decide +kernel
set_option maxRecDepth 20000 in
theorem ggX5_safe_X5_findCells : GoodIn wsX5_safe wsX5_findCells := goodIn_r _ [6, 7, 8, 9, 10, 11, 12, 13, 14, 15, 16, 17, 18, 19, 20, 5, 21, 22, 23, 24, 25, 26, 27, 28, 29, 30, 31, 32, 33, 34, 35, 36, 37, 38, 39, 40, 41, 42, 43, 44, 45, 46, 47, 68, 69, 70, 71, 72, 73, 74, 75, 76, 77, 78, 79, 80, 81, 82, 83, 84, 85, 86, 87, 88, 89, 90, 91] (by decide +kernel) (by decide +kernel)
set_option maxRecDepth 20000 in
theorem gX5_safe_X5_findCells : GoodIn wsX5_safe (wsV RX5 124 RX5 yX5_findCells wsX5_findCells) := goodIn_app (goodIn_of _ (by decide +kernel)) ggX5_safe_X5_findCells
set_option maxRecDepth 20000 in
theorem ggX5_safe_X5_isSafe : GoodIn wsX5_safe wsX5_isSafe := goodIn_r _ [51, 8, 9, 52, 53, 54, 5, 55, 13, 15, 35, 36, 37, 38, 27, 28, 29, 56, 57, 58, 59, 60, 61, 62, 63, 64, 65, 66, 67, 17, 68, 69, 70, 71, 72, 73, 74, 75, 76, 77, 78, 79, 80, 81, 82, 83, 84, 85, 86, 87, 88, 89, 90, 91] (by decide +kernel) (by decide +kernel)
set_option maxRecDepth 20000 in
theorem gX5_safe_X5_isSafe : GoodIn wsX5_safe (wsV RX5 152 RX5 yX5_isSafe wsX5_isSafe) := goodIn_app (goodIn_of _ (by decide +kernel)) ggX5_safe_X5_isSafe
theorem dX5_safe_0 : decode cX5_safe 0 = .ok (.aload_n 0, 1) := by decide +kernel
theorem dX5_safe_1 : decode cX5_safe 1 = .ok (.iconst 0, 1) := by decide +kernel
theorem dX5_safe_2 : decode cX5_safe 2 = .ok (.putfield 77, 3) := by decide +kernel
theorem dX5_safe_5 : decode cX5_safe 5 = .ok (.aload_n 0, 1) := by decide +kernel
theorem dX5_safe_6 : decode cX5_safe 6 = .ok (.invokevirtual 124, 3) := by decide +kernel
theorem dX5_safe_9 : decode cX5_safe 9 = .ok (.iconst 0, 1) := by decide +kernel
theorem dX5_safe_10 : decode cX5_safe 10 = .ok (.istore_n 1, 1) := by decide +kernel
theorem dX5_safe_11 : decode cX5_safe 11 = .ok (.iload_n 1, 1) := by decide +kernel
theorem dX5_safe_12 : decode cX5_safe 12 = .ok (.bipush 6, 2) := by decide +kernel
theorem dX5_safe_14 : decode cX5_safe 14 = .ok (.if_icmp .ge 19, 3) := by decide +kernel
theorem dX5_safe_17 : decode cX5_safe 17 = .ok (.aload_n 0, 1) := by decide +kernel
theorem dX5_safe_18 : decode cX5_safe 18 = .ok (.iload_n 1, 1) := by decide +kernel
theorem dX5_safe_19 : decode cX5_safe 19 = .ok (.iconst 1, 1) := by decide +kernel
theorem dX5_safe_20 : decode cX5_safe 20 = .ok (.iadd, 1) := by decide +kernel
theorem dX5_safe_21 : decode cX5_safe 21 = .ok (.invokevirtual 152, 3) := by decide +kernel
theorem dX5_safe_24 : decode cX5_safe 24 = .ok (.ifCond .eq 9, 3) := by decide +kernel
theorem dX5_safe_27 : decode cX5_safe 27 = .ok (.iinc 1 1, 3) := by decide +kernel
theorem dX5_safe_30 : decode cX5_safe 30 = .ok (.goto (-19), 3) := by decide +kernel
theorem dX5_safe_33 : decode cX5_safe 33 = .ok (.iload_n 1, 1) := by decide +kernel
theorem dX5_safe_34 : decode cX5_safe 34 = .ok (.ireturn, 1) := by decide +kernel
set_option maxRecDepth 20000 in
theorem ggX5_plate_X5_in : GoodIn wsX5_plate wsX5_in := goodIn_r _ [8] (by decide +kernel) (by decide +kernel)
set_option maxRecDepth 20000 in
theorem gX5_plate_X5_in : GoodIn wsX5_plate (va_wsS RX5 85 yX5_in wsX5_in) := goodIn_app (goodIn_of _ (by decide +kernel)) ggX5_plate_X5_in
set_option maxRecDepth 20000 in
theorem ggX5_plate_X5_findCells : GoodIn wsX5_plate wsX5_findCells := goodIn_r _ [12, 13, 2, 3, 14, 15, 16, 17, 18, 19, 20, 4, 21, 22, 23, 7, 24, 25, 26, 27, 28, 29, 5, 6, 8, 30, 31, 32, 33, 34, 35, 36, 37, 38, 39, 40, 41, 42, 43, 44, 45, 46, 47, 48, 49, 50, 51, 52, 53, 54, 55, 56, 57, 58, 59, 60, 61, 62, 63, 64, 65, 66, 67, 68, 69, 70, 71] (by decide +kernel) (by decide +kernel)
set_option maxRecDepth 20000 in
theorem gX5_plate_X5_findCells : GoodIn wsX5_plate (wsV RX5 124 RX5 yX5_findCells wsX5_findCells) := goodIn_app (goodIn_of _ (by decide +kernel)) ggX5_plate_X5_findCells
theorem dX5_plate_0 : decode cX5_plate 0 = .ok (.aload_n 0, 1) := by decide +kernel
theorem dX5_plate_1 : decode cX5_plate 1 = .ok (.iconst 0, 1) := by decide +kernel
theorem dX5_plate_2 : decode cX5_plate 2 = .ok (.putfield 77, 3) := by decide +kernel
theorem dX5_plate_5 : decode cX5_plate 5 = .ok (.iload_n 1, 1) := by decide +kernel
theorem dX5_plate_6 : decode cX5_plate 6 = .ok (.iconst 0, 1) := by decide +kernel
theorem dX5_plate_7 : decode cX5_plate 7 = .ok (.iconst 3, 1) := by decide +kernel
theorem dX5_plate_8 : decode cX5_plate 8 = .ok (.invokestatic 85, 3) := by decide +kernel
theorem dX5_plate_11 : decode cX5_plate 11 = .ok (.ifCond .eq 19, 3) := by decide +kernel
theorem dX5_plate_14 : decode cX5_plate 14 = .ok (.iload_n 2, 1) := by decide +kernel
theorem dX5_plate_15 : decode cX5_plate 15 = .ok (.iconst 0, 1) := by decide +kernel
theorem dX5_plate_16 : decode cX5_plate 16 = .ok (.aload_n 0, 1) := by decide +kernel
theorem dX5_plate_17 : decode cX5_plate 17 = .ok (.getfield 7, 3) := by decide +kernel
theorem dX5_plate_20 : decode cX5_plate 20 = .ok (.iconst 0, 1) := by decide +kernel
theorem dX5_plate_21 : decode cX5_plate 21 = .ok (.iaload, 1) := by decide +kernel
theorem dX5_plate_22 : decode cX5_plate 22 = .ok (.iconst 1, 1) := by decide +kernel
theorem dX5_plate_23 : decode cX5_plate 23 = .ok (.isub, 1) := by decide +kernel
theorem dX5_plate_24 : decode cX5_plate 24 = .ok (.invokestatic 85, 3) := by decide +kernel
theorem dX5_plate_27 : decode cX5_plate 27 = .ok (.ifCond .ne 5, 3) := by decide +kernel
theorem dX5_plate_30 : decode cX5_plate 30 = .ok (.iconst (-1), 1) := by decide +kernel
theorem dX5_plate_31 : decode cX5_plate 31 = .ok (.ireturn, 1) := by decide +kernel
theorem dX5_plate_32 : decode cX5_plate 32 = .ok (.aload_n 0, 1) := by decide +kernel
theorem dX5_plate_33 : decode cX5_plate 33 = .ok (.invokevirtual 124, 3) := by decide +kernel
theorem dX5_plate_36 : decode cX5_plate 36 = .ok (.iconst 0, 1) := by decide +kernel
theorem dX5_plate_37 : decode cX5_plate 37 = .ok (.istore_n 3, 1) := by decide +kernel
theorem dX5_plate_38 : decode cX5_plate 38 = .ok (.iconst 0, 1) := by decide +kernel
theorem dX5_plate_39 : decode cX5_plate 39 = .ok (.istore 4, 2) := by decide +kernel
theorem dX5_plate_41 : decode cX5_plate 41 = .ok (.iload 4, 2) := by decide +kernel
theorem dX5_plate_43 : decode cX5_plate 43 = .ok (.aload_n 0, 1) := by decide +kernel
theorem dX5_plate_44 : decode cX5_plate 44 = .ok (.getfield 13, 3) := by decide +kernel
theorem dX5_plate_47 : decode cX5_plate 47 = .ok (.iconst 0, 1) := by decide +kernel
theorem dX5_plate_48 : decode cX5_plate 48 = .ok (.iaload, 1) := by decide +kernel
theorem dX5_plate_49 : decode cX5_plate 49 = .ok (.if_icmp .ge 31, 3) := by decide +kernel
theorem dX5_plate_52 : decode cX5_plate 52 = .ok (.iload_n 3, 1) := by decide +kernel
theorem dX5_plate_53 : decode cX5_plate 53 = .ok (.aload_n 0, 1) := by decide +kernel
theorem dX5_plate_54 : decode cX5_plate 54 = .ok (.getfield 71, 3) := by decide +kernel
theorem dX5_plate_57 : decode cX5_plate 57 = .ok (.bipush 16, 2) := by decide +kernel
theorem dX5_plate_59 : decode cX5_plate 59 = .ok (.iload_n 2, 1) := by decide +kernel
theorem dX5_plate_60 : decode cX5_plate 60 = .ok (.imul, 1) := by decide +kernel
theorem dX5_plate_61 : decode cX5_plate 61 = .ok (.iload 4, 2) := by decide +kernel
theorem dX5_plate_63 : decode cX5_plate 63 = .ok (.iadd, 1) := by decide +kernel
theorem dX5_plate_64 : decode cX5_plate 64 = .ok (.iaload, 1) := by decide +kernel
theorem dX5_plate_65 : decode cX5_plate 65 = .ok (.iload_n 1, 1) := by decide +kernel
theorem dX5_plate_66 : decode cX5_plate 66 = .ok (.ishr, 1) := by decide +kernel
theorem dX5_plate_67 : decode cX5_plate 67 = .ok (.iconst 1, 1) := by decide +kernel
theorem dX5_plate_68 : decode cX5_plate 68 = .ok (.iand, 1) := by decide +kernel
theorem dX5_plate_69 : decode cX5_plate 69 = .ok (.iload 4, 2) := by decide +kernel
theorem dX5_plate_71 : decode cX5_plate 71 = .ok (.ishl, 1) := by decide +kernel
theorem dX5_plate_72 : decode cX5_plate 72 = .ok (.ior, 1) := by decide +kernel
theorem dX5_plate_73 : decode cX5_plate 73 = .ok (.istore_n 3, 1) := by decide +kernel
theorem dX5_plate_74 : decode cX5_plate 74 = .ok (.iinc 4 1, 3) := by decide +kernel
theorem dX5_plate_77 : decode cX5_plate 77 = .ok (.goto (-36), 3) := by decide +kernel
theorem dX5_plate_80 : decode cX5_plate 80 = .ok (.iload_n 3, 1) := by decide +kernel
theorem dX5_plate_81 : decode cX5_plate 81 = .ok (.ireturn, 1) := by decide +kernel
set_option maxRecDepth 20000 in
theorem ggX5_image_X5_in : GoodIn wsX5_image wsX5_in := goodIn_r _ [6] (by decide +kernel) (by decide +kernel)
set_option maxRecDepth 20000 in
theorem gX5_image_X5_in : GoodIn wsX5_image (va_wsS RX5 85 yX5_in wsX5_in) := goodIn_app (goodIn_of _ (by decide +kernel)) ggX5_image_X5_in
set_option maxRecDepth 20000 in
theorem ggX5_image_X5_copy : GoodIn wsX5_image wsX5_copy := goodIn_r _ [10, 11, 12, 13, 14, 15, 16, 17, 18, 19, 20, 21, 22, 23, 24, 25, 26, 27, 28, 29, 5, 30, 31, 32, 33, 34, 35, 36, 37, 38, 39, 40, 41, 42, 43, 44, 45, 46, 47, 48, 49, 50, 51, 52, 53, 54] (by decide +kernel) (by decide +kernel)
set_option maxRecDepth 20000 in
theorem gX5_image_X5_copy : GoodIn wsX5_image (wsV RX5 156 RX5 yX5_copy wsX5_copy) := goodIn_app (goodIn_of _ (by decide +kernel)) ggX5_image_X5_copy
theorem dX5_image_0 : decode cX5_image 0 = .ok (.aload_n 0, 1) := by decide +kernel
theorem dX5_image_1 : decode cX5_image 1 = .ok (.iconst 0, 1) := by decide +kernel
theorem dX5_image_2 : decode cX5_image 2 = .ok (.putfield 77, 3) := by decide +kernel
theorem dX5_image_5 : decode cX5_image 5 = .ok (.iload_n 1, 1) := by decide +kernel
theorem dX5_image_6 : decode cX5_image 6 = .ok (.iconst 0, 1) := by decide +kernel
theorem dX5_image_7 : decode cX5_image 7 = .ok (.iconst 3, 1) := by decide +kernel
theorem dX5_image_8 : decode cX5_image 8 = .ok (.invokestatic 85, 3) := by decide +kernel
theorem dX5_image_11 : decode cX5_image 11 = .ok (.ifCond .ne 5, 3) := by decide +kernel
theorem dX5_image_14 : decode cX5_image 14 = .ok (.iconst 0, 1) := by decide +kernel
theorem dX5_image_15 : decode cX5_image 15 = .ok (.ireturn, 1) := by decide +kernel
theorem dX5_image_16 : decode cX5_image 16 = .ok (.aload_n 0, 1) := by decide +kernel
theorem dX5_image_17 : decode cX5_image 17 = .ok (.iconst 0, 1) := by decide +kernel
theorem dX5_image_18 : decode cX5_image 18 = .ok (.iload_n 1, 1) := by decide +kernel
theorem dX5_image_19 : decode cX5_image 19 = .ok (.iconst 1, 1) := by decide +kernel
theorem dX5_image_20 : decode cX5_image 20 = .ok (.iadd, 1) := by decide +kernel
theorem dX5_image_21 : decode cX5_image 21 = .ok (.invokevirtual 156, 3) := by decide +kernel
theorem dX5_image_24 : decode cX5_image 24 = .ok (.aload_n 0, 1) := by decide +kernel
theorem dX5_image_25 : decode cX5_image 25 = .ok (.getfield 74, 3) := by decide +kernel
theorem dX5_image_28 : decode cX5_image 28 = .ok (.iload_n 1, 1) := by decide +kernel
theorem dX5_image_29 : decode cX5_image 29 = .ok (.iconst 1, 1) := by decide +kernel
theorem dX5_image_30 : decode cX5_image 30 = .ok (.bastore, 1) := by decide +kernel
theorem dX5_image_31 : decode cX5_image 31 = .ok (.iconst 1, 1) := by decide +kernel
theorem dX5_image_32 : decode cX5_image 32 = .ok (.ireturn, 1) := by decide +kernel
set_option maxRecDepth 20000 in
theorem ggX5_again_X5_in : GoodIn wsX5_again wsX5_in := goodIn_r _ [7] (by decide +kernel) (by decide +kernel)
set_option maxRecDepth 20000 in
theorem gX5_again_X5_in : GoodIn wsX5_again (va_wsS RX5 85 yX5_in wsX5_in) := goodIn_app (goodIn_of _ (by decide +kernel)) ggX5_again_X5_in
set_option maxRecDepth 20000 in
theorem ggX5_again_X5_copy : GoodIn wsX5_again wsX5_copy := goodIn_r _ [11, 12, 13, 14, 15, 16, 17, 18, 19, 20, 21, 22, 23, 24, 25, 26, 27, 28, 29, 30, 6, 31, 32, 33, 34, 35, 36, 37, 38, 39, 40, 41, 42, 43, 44, 45, 46, 47, 48, 49, 50, 51, 52, 53, 54, 55] (by decide +kernel) (by decide +kernel)
set_option maxRecDepth 20000 in
theorem gX5_again_X5_copy : GoodIn wsX5_again (wsV RX5 156 RX5 yX5_copy wsX5_copy) := goodIn_app (goodIn_of _ (by decide +kernel)) ggX5_again_X5_copy
theorem dX5_again_0 : decode cX5_again 0 = .ok (.aload_n 0, 1) := by decide +kernel
theorem dX5_again_1 : decode cX5_again 1 = .ok (.iconst 0, 1) := by decide +kernel
theorem dX5_again_2 : decode cX5_again 2 = .ok (.putfield 77, 3) := by decide +kernel
theorem dX5_again_5 : decode cX5_again 5 = .ok (.iload_n 1, 1) := by decide +kernel
theorem dX5_again_6 : decode cX5_again 6 = .ok (.iconst 0, 1) := by decide +kernel
theorem dX5_again_7 : decode cX5_again 7 = .ok (.iconst 3, 1) := by decide +kernel
theorem dX5_again_8 : decode cX5_again 8 = .ok (.invokestatic 85, 3) := by decide +kernel
theorem dX5_again_11 : decode cX5_again 11 = .ok (.ifCond .eq 12, 3) := by decide +kernel
theorem dX5_again_14 : decode cX5_again 14 = .ok (.aload_n 0, 1) := by decide +kernel
theorem dX5_again_15 : decode cX5_again 15 = .ok (.getfield 74, 3) := by decide +kernel
theorem dX5_again_18 : decode cX5_again 18 = .ok (.iload_n 1, 1) := by decide +kernel
theorem dX5_again_19 : decode cX5_again 19 = .ok (.baload, 1) := by decide +kernel
theorem dX5_again_20 : decode cX5_again 20 = .ok (.ifCond .ne 5, 3) := by decide +kernel
theorem dX5_again_23 : decode cX5_again 23 = .ok (.iconst 0, 1) := by decide +kernel
theorem dX5_again_24 : decode cX5_again 24 = .ok (.ireturn, 1) := by decide +kernel
theorem dX5_again_25 : decode cX5_again 25 = .ok (.aload_n 0, 1) := by decide +kernel
theorem dX5_again_26 : decode cX5_again 26 = .ok (.iload_n 1, 1) := by decide +kernel
theorem dX5_again_27 : decode cX5_again 27 = .ok (.iconst 1, 1) := by decide +kernel
theorem dX5_again_28 : decode cX5_again 28 = .ok (.iadd, 1) := by decide +kernel
theorem dX5_again_29 : decode cX5_again 29 = .ok (.iconst 0, 1) := by decide +kernel
theorem dX5_again_30 : decode cX5_again 30 = .ok (.invokevirtual 156, 3) := by decide +kernel
theorem dX5_again_33 : decode cX5_again 33 = .ok (.aload_n 0, 1) := by decide +kernel
theorem dX5_again_34 : decode cX5_again 34 = .ok (.iconst 0, 1) := by decide +kernel
theorem dX5_again_35 : decode cX5_again 35 = .ok (.putfield 89, 3) := by decide +kernel
theorem dX5_again_38 : decode cX5_again 38 = .ok (.iconst 1, 1) := by decide +kernel
theorem dX5_again_39 : decode cX5_again 39 = .ok (.ireturn, 1) := by decide +kernel
theorem dJ6_bitCount_0f7a4_0 : decode cJ6_bitCount_0f7a4 0 = .ok (.iload_n 0, 1) := by decide +kernel
theorem dJ6_bitCount_0f7a4_1 : decode cJ6_bitCount_0f7a4 1 = .ok (.iload_n 0, 1) := by decide +kernel
theorem dJ6_bitCount_0f7a4_2 : decode cJ6_bitCount_0f7a4 2 = .ok (.iconst 1, 1) := by decide +kernel
theorem dJ6_bitCount_0f7a4_3 : decode cJ6_bitCount_0f7a4 3 = .ok (.iushr, 1) := by decide +kernel
theorem dJ6_bitCount_0f7a4_4 : decode cJ6_bitCount_0f7a4 4 = .ok (.ldc_w 265, 3) := by decide +kernel
theorem dJ6_bitCount_0f7a4_7 : decode cJ6_bitCount_0f7a4 7 = .ok (.iand, 1) := by decide +kernel
theorem dJ6_bitCount_0f7a4_8 : decode cJ6_bitCount_0f7a4 8 = .ok (.isub, 1) := by decide +kernel
theorem dJ6_bitCount_0f7a4_9 : decode cJ6_bitCount_0f7a4 9 = .ok (.istore_n 0, 1) := by decide +kernel
theorem dJ6_bitCount_0f7a4_10 : decode cJ6_bitCount_0f7a4 10 = .ok (.iload_n 0, 1) := by decide +kernel
theorem dJ6_bitCount_0f7a4_11 : decode cJ6_bitCount_0f7a4 11 = .ok (.ldc_w 266, 3) := by decide +kernel
theorem dJ6_bitCount_0f7a4_14 : decode cJ6_bitCount_0f7a4 14 = .ok (.iand, 1) := by decide +kernel
theorem dJ6_bitCount_0f7a4_15 : decode cJ6_bitCount_0f7a4 15 = .ok (.iload_n 0, 1) := by decide +kernel
theorem dJ6_bitCount_0f7a4_16 : decode cJ6_bitCount_0f7a4 16 = .ok (.iconst 2, 1) := by decide +kernel
theorem dJ6_bitCount_0f7a4_17 : decode cJ6_bitCount_0f7a4 17 = .ok (.iushr, 1) := by decide +kernel
theorem dJ6_bitCount_0f7a4_18 : decode cJ6_bitCount_0f7a4 18 = .ok (.ldc_w 266, 3) := by decide +kernel
theorem dJ6_bitCount_0f7a4_21 : decode cJ6_bitCount_0f7a4 21 = .ok (.iand, 1) := by decide +kernel
theorem dJ6_bitCount_0f7a4_22 : decode cJ6_bitCount_0f7a4 22 = .ok (.iadd, 1) := by decide +kernel
theorem dJ6_bitCount_0f7a4_23 : decode cJ6_bitCount_0f7a4 23 = .ok (.istore_n 0, 1) := by decide +kernel
theorem dJ6_bitCount_0f7a4_24 : decode cJ6_bitCount_0f7a4 24 = .ok (.iload_n 0, 1) := by decide +kernel
theorem dJ6_bitCount_0f7a4_25 : decode cJ6_bitCount_0f7a4 25 = .ok (.iload_n 0, 1) := by decide +kernel
theorem dJ6_bitCount_0f7a4_26 : decode cJ6_bitCount_0f7a4 26 = .ok (.iconst 4, 1) := by decide +kernel
theorem dJ6_bitCount_0f7a4_27 : decode cJ6_bitCount_0f7a4 27 = .ok (.iushr, 1) := by decide +kernel
theorem dJ6_bitCount_0f7a4_28 : decode cJ6_bitCount_0f7a4 28 = .ok (.iadd, 1) := by decide +kernel
theorem dJ6_bitCount_0f7a4_29 : decode cJ6_bitCount_0f7a4 29 = .ok (.ldc_w 267, 3) := by decide +kernel
theorem dJ6_bitCount_0f7a4_32 : decode cJ6_bitCount_0f7a4 32 = .ok (.iand, 1) := by decide +kernel
theorem dJ6_bitCount_0f7a4_33 : decode cJ6_bitCount_0f7a4 33 = .ok (.istore_n 0, 1) := by decide +kernel
theorem dJ6_bitCount_0f7a4_34 : decode cJ6_bitCount_0f7a4 34 = .ok (.iload_n 0, 1) := by decide +kernel
theorem dJ6_bitCount_0f7a4_35 : decode cJ6_bitCount_0f7a4 35 = .ok (.iload_n 0, 1) := by decide +kernel
theorem dJ6_bitCount_0f7a4_36 : decode cJ6_bitCount_0f7a4 36 = .ok (.bipush 8, 2) := by decide +kernel
theorem dJ6_bitCount_0f7a4_38 : decode cJ6_bitCount_0f7a4 38 = .ok (.iushr, 1) := by decide +kernel
theorem dJ6_bitCount_0f7a4_39 : decode cJ6_bitCount_0f7a4 39 = .ok (.iadd, 1) := by decide +kernel
theorem dJ6_bitCount_0f7a4_40 : decode cJ6_bitCount_0f7a4 40 = .ok (.istore_n 0, 1) := by decide +kernel
theorem dJ6_bitCount_0f7a4_41 : decode cJ6_bitCount_0f7a4 41 = .ok (.iload_n 0, 1) := by decide +kernel
theorem dJ6_bitCount_0f7a4_42 : decode cJ6_bitCount_0f7a4 42 = .ok (.iload_n 0, 1) := by decide +kernel
theorem dJ6_bitCount_0f7a4_43 : decode cJ6_bitCount_0f7a4 43 = .ok (.bipush 16, 2) := by decide +kernel
theorem dJ6_bitCount_0f7a4_45 : decode cJ6_bitCount_0f7a4 45 = .ok (.iushr, 1) := by decide +kernel
theorem dJ6_bitCount_0f7a4_46 : decode cJ6_bitCount_0f7a4 46 = .ok (.iadd, 1) := by decide +kernel
theorem dJ6_bitCount_0f7a4_47 : decode cJ6_bitCount_0f7a4 47 = .ok (.istore_n 0, 1) := by decide +kernel
theorem dJ6_bitCount_0f7a4_48 : decode cJ6_bitCount_0f7a4 48 = .ok (.iload_n 0, 1) := by decide +kernel
theorem dJ6_bitCount_0f7a4_49 : decode cJ6_bitCount_0f7a4 49 = .ok (.bipush 63, 2) := by decide +kernel
theorem dJ6_bitCount_0f7a4_51 : decode cJ6_bitCount_0f7a4 51 = .ok (.iand, 1) := by decide +kernel
theorem dJ6_bitCount_0f7a4_52 : decode cJ6_bitCount_0f7a4 52 = .ok (.ireturn, 1) := by decide +kernel
theorem dJ9_abs_0f7a4_0 : decode cJ9_abs_0f7a4 0 = .ok (.iload_n 0, 1) := by decide +kernel
theorem dJ9_abs_0f7a4_1 : decode cJ9_abs_0f7a4 1 = .ok (.ifCond .ge 8, 3) := by decide +kernel
theorem dJ9_abs_0f7a4_4 : decode cJ9_abs_0f7a4 4 = .ok (.iload_n 0, 1) := by decide +kernel
theorem dJ9_abs_0f7a4_5 : decode cJ9_abs_0f7a4 5 = .ok (.ineg, 1) := by decide +kernel
theorem dJ9_abs_0f7a4_6 : decode cJ9_abs_0f7a4 6 = .ok (.goto 4, 3) := by decide +kernel
theorem dJ9_abs_0f7a4_9 : decode cJ9_abs_0f7a4 9 = .ok (.iload_n 0, 1) := by decide +kernel
theorem dJ9_abs_0f7a4_10 : decode cJ9_abs_0f7a4 10 = .ok (.ireturn, 1) := by decide +kernel
theorem dJ9_max_7cf53_0 : decode cJ9_max_7cf53 0 = .ok (.iload_n 0, 1) := by decide +kernel
theorem dJ9_max_7cf53_1 : decode cJ9_max_7cf53 1 = .ok (.iload_n 1, 1) := by decide +kernel
theorem dJ9_max_7cf53_2 : decode cJ9_max_7cf53 2 = .ok (.if_icmp .lt 7, 3) := by decide +kernel
theorem dJ9_max_7cf53_5 : decode cJ9_max_7cf53 5 = .ok (.iload_n 0, 1) := by decide +kernel
theorem dJ9_max_7cf53_6 : decode cJ9_max_7cf53 6 = .ok (.goto 4, 3) := by decide +kernel
theorem dJ9_max_7cf53_9 : decode cJ9_max_7cf53 9 = .ok (.iload_n 1, 1) := by decide +kernel
theorem dJ9_max_7cf53_10 : decode cJ9_max_7cf53 10 = .ok (.ireturn, 1) := by decide +kernel
theorem dJ9_min_7cf53_0 : decode cJ9_min_7cf53 0 = .ok (.iload_n 0, 1) := by decide +kernel
theorem dJ9_min_7cf53_1 : decode cJ9_min_7cf53 1 = .ok (.iload_n 1, 1) := by decide +kernel
theorem dJ9_min_7cf53_2 : decode cJ9_min_7cf53 2 = .ok (.if_icmp .gt 7, 3) := by decide +kernel
theorem dJ9_min_7cf53_5 : decode cJ9_min_7cf53 5 = .ok (.iload_n 0, 1) := by decide +kernel
theorem dJ9_min_7cf53_6 : decode cJ9_min_7cf53 6 = .ok (.goto 4, 3) := by decide +kernel
theorem dJ9_min_7cf53_9 : decode cJ9_min_7cf53 9 = .ok (.iload_n 1, 1) := by decide +kernel
theorem dJ9_min_7cf53_10 : decode cJ9_min_7cf53 10 = .ok (.ireturn, 1) := by decide +kernel
theorem dJ7_fill_53178_0 : decode cJ7_fill_53178 0 = .ok (.iconst 0, 1) := by decide +kernel
theorem dJ7_fill_53178_1 : decode cJ7_fill_53178 1 = .ok (.istore_n 2, 1) := by decide +kernel
theorem dJ7_fill_53178_2 : decode cJ7_fill_53178 2 = .ok (.aload_n 0, 1) := by decide +kernel
theorem dJ7_fill_53178_3 : decode cJ7_fill_53178 3 = .ok (.arraylength, 1) := by decide +kernel
theorem dJ7_fill_53178_4 : decode cJ7_fill_53178 4 = .ok (.istore_n 3, 1) := by decide +kernel
theorem dJ7_fill_53178_5 : decode cJ7_fill_53178 5 = .ok (.iload_n 2, 1) := by decide +kernel
theorem dJ7_fill_53178_6 : decode cJ7_fill_53178 6 = .ok (.iload_n 3, 1) := by decide +kernel
theorem dJ7_fill_53178_7 : decode cJ7_fill_53178 7 = .ok (.if_icmp .ge 13, 3) := by decide +kernel
theorem dJ7_fill_53178_10 : decode cJ7_fill_53178 10 = .ok (.aload_n 0, 1) := by decide +kernel
theorem dJ7_fill_53178_11 : decode cJ7_fill_53178 11 = .ok (.iload_n 2, 1) := by decide +kernel
theorem dJ7_fill_53178_12 : decode cJ7_fill_53178 12 = .ok (.iload_n 1, 1) := by decide +kernel
theorem dJ7_fill_53178_13 : decode cJ7_fill_53178 13 = .ok (.iastore, 1) := by decide +kernel
theorem dJ7_fill_53178_14 : decode cJ7_fill_53178 14 = .ok (.iinc 2 1, 3) := by decide +kernel
theorem dJ7_fill_53178_17 : decode cJ7_fill_53178 17 = .ok (.goto (-12), 3) := by decide +kernel
theorem dJ7_fill_53178_20 : decode cJ7_fill_53178 20 = .ok (.return_, 1) := by decide +kernel
abbrev vwCl : List vw_C := [(RX0, TX0, 2), (RX1, TX1, 7), (RX2, TX2, 7), (RX3, TX3, 11), (RX4, TX4, 3), (RX5, TX5, 24)]
